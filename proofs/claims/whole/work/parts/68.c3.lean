/-! THE CASES, third -/
set_option maxHeartbeats 2000000 in
set_option maxRecDepth 100000 in
theorem k_addFind (κ : aK) (a b : Nat → Nat) (u : Nat) : ∀ (z1 : Int32) (z2 : Int32) (z3 : Int32) (z4 : Int32), KI yL_addFind cL_addFind 7 [(0, 14, 17, 21), (0, 14, 21, 13), (0, 14, 25, 15)] yX6_addFind cX6_addFind 6 II κ a b u [.int z1, .int z2, .int z3, .int z4] := by
  intro z1 z2 z3 z4
  intro S T hI
  obtain ⟨n, dug, dtd, so, ph, uf, ul, r, ki, lt, er, mz, bd, bo, me, dE, eE, lE, li, fB, fA, sL, f, fu, fs, ff, fl, xs, ys, zs, oL, oU, lo, up⟩ := S
  obtain ⟨th, un, ss, fi, la, da, dg, ps, rn, ks, os, ts, fn, fp, b2, e2, l2, k2, be, ab⟩ := T
  have hI : IV n dug dtd so ph uf ul r ki lt er mz bd bo me eE lE li fB fA f fu fs ff fl xs ys zs lo up un ss fi la da dg ps rn ks os ts fn fp b2 e2 l2 k2 be ab := hI
  have hI0 := hI
  obtain ⟨⟨⟨hn, hr, hf, hm⟩, hbo, hlt, her, hfu, hb2, hos, hts, hv, hfn, hre⟩, ⟨q1, q2, q3, q4, q5, q6, q7, q8, q9⟩, hF, hG, hD1, hD2, hJ⟩ := hI
  subst hm q1 q2 q3 q4 q5 q6 q7 q8 q9
  obtain ⟨hA, hB, hB2⟩ := AG_of hv hD1 hD2
  by_cases c : okU n z1
  · obtain ⟨w, hw, rfl⟩ := c
    by_cases hs : okU 10 z2
    · cases h12 : (yrB z3 && yrB z4) with
      | false =>
        exact ⟨(n, dug, dtd, so, ph, uf, ul, r, ki, lt, er, n, bd, bo, me, dE, eE, lE, li, fB, fA, sL, f, fu, fs, ff, fl, xs, ys, zs, oL, oU, lo, up), (nI 2, n, so, uf, ul, dtd, dug, ph, r, ks, os, ts, f, fp, b2, e2, l2, k2, be, ab), 2, nI 0, hI0, by decide, wc_no (fun X F => c_L_addFind_b3 κ a hn hw hs h12) ⟨by decide, by decide, by decide, by decide⟩ (by decide), rc_of (fun X => c_X6_addFind_b2 κ b hn hw (fun h => by rw [h.2.1, h.2.2.1] at h12; cases h12)) ⟨by decide, by decide, by decide, by decide⟩, rfl⟩
      | true =>
        obtain ⟨h1, h2⟩ : yrB z3 = true ∧ yrB z4 = true := by rwa [Bool.and_eq_true] at h12
        by_cases h3 : z3 ≤ z4
        · by_cases hf6 : f < 60
          · have hI1 : VA n r (f + 1) n ki lt er bo (va_up fu f w) b2 ks os ts := ⟨⟨hn, hr, by omega, rfl⟩, hbo, hlt, her, fun k => upn_lt hfu (by omega) k, hb2, hos, hts, hv, fn_add hw hfn, hre⟩
            exact ⟨(n, dug, dtd, so, ph, uf, ul, r, ki, lt, er, n, bd, bo, me, dE, eE, lE, li, fB, fA, sL, (f + 1), (va_up fu f w), (va_up fs f z2), (va_up ff f z3), (va_up fl f z4), xs, ys, zs, (nOL dtd uf bo (va_up fu f w) (va_up ff f z3) oL n (f + 1)), (nOU dtd ul bo oU n), (nLo (nOL dtd uf bo (va_up fu f w) (va_up ff f z3) oL n (f + 1)) eE lo n), (nUp (nOU dtd ul bo oU n) lE up n)), ((nI 0), n, so, uf, ul, dtd, dug, ph, r, ks, os, ts, (f + 1), (afF fp f w z2 z3 z4), b2, e2, l2, k2, be, ab), 0, _, ⟨hI1, ⟨rfl, rfl, rfl, rfl, rfl, rfl, rfl, rfl, rfl⟩, VF_add hF, hG, hD1, hD2, VJ_new hB (fn_add hw hfn)⟩, by decide, wc_ok (fun X F => c_L_addFind κ a hn hbo hfu hw hs h1 h2 h3 hf6) ⟨by decide, by decide, by decide, by decide⟩, rc_eq (congrArg Value.int (rfl)) (fun X => c_X6_addFind κ b hn hw hs h1 h2 h3 hf6) ⟨by decide, by decide, by decide, by decide⟩, rfl⟩
          · have hf6 : f = 60 := by omega
            exact ⟨(n, dug, dtd, so, ph, uf, ul, r, ki, lt, er, n, bd, bo, me, dE, eE, lE, li, fB, fA, sL, f, fu, fs, ff, fl, xs, ys, zs, oL, oU, lo, up), (nI 3, n, so, uf, ul, dtd, dug, ph, r, ks, os, ts, f, fp, b2, e2, l2, k2, be, ab), 3, nI 0, hI0, by decide, wc_no (fun X F => c_L_addFind_b5 κ a hn hw hs h1 h2 h3 hf6) ⟨by decide, by decide, by decide, by decide⟩ (by decide), rc_of (fun X => c_X6_addFind_b3 κ b hn hw hs h1 h2 h3 hf6) ⟨by decide, by decide, by decide, by decide⟩, rfl⟩
        · exact ⟨(n, dug, dtd, so, ph, uf, ul, r, ki, lt, er, n, bd, bo, me, dE, eE, lE, li, fB, fA, sL, f, fu, fs, ff, fl, xs, ys, zs, oL, oU, lo, up), (nI 2, n, so, uf, ul, dtd, dug, ph, r, ks, os, ts, f, fp, b2, e2, l2, k2, be, ab), 2, nI 0, hI0, by decide, wc_no (fun X F => c_L_addFind_b4 κ a hn hw hs h1 h2 h3) ⟨by decide, by decide, by decide, by decide⟩ (by decide), rc_of (fun X => c_X6_addFind_b2 κ b hn hw (fun h => h3 h.2.2.2)) ⟨by decide, by decide, by decide, by decide⟩, rfl⟩
    · exact ⟨(n, dug, dtd, so, ph, uf, ul, r, ki, lt, er, n, bd, bo, me, dE, eE, lE, li, fB, fA, sL, f, fu, fs, ff, fl, xs, ys, zs, oL, oU, lo, up), (nI 2, n, so, uf, ul, dtd, dug, ph, r, ks, os, ts, f, fp, b2, e2, l2, k2, be, ab), 2, nI 0, hI0, by decide, wc_no (fun X F => c_L_addFind_b2 κ a hn hw hs) ⟨by decide, by decide, by decide, by decide⟩ (by decide), rc_of (fun X => c_X6_addFind_b2 κ b hn hw (fun h => hs h.1)) ⟨by decide, by decide, by decide, by decide⟩, rfl⟩
  · exact ⟨(n, dug, dtd, so, ph, uf, ul, r, ki, lt, er, n, bd, bo, me, dE, eE, lE, li, fB, fA, sL, f, fu, fs, ff, fl, xs, ys, zs, oL, oU, lo, up), (nI 1, n, so, uf, ul, dtd, dug, ph, r, ks, os, ts, f, fp, b2, e2, l2, k2, be, ab), 1, nI 0, hI0, by decide, wc_no (fun X F => c_L_addFind_b1 κ a hn c) ⟨by decide, by decide, by decide, by decide⟩ (by decide), rc_of (fun X => c_X6_addFind_b1 κ b hn c) ⟨by decide, by decide, by decide, by decide⟩, rfl⟩
set_option maxHeartbeats 2000000 in
set_option maxRecDepth 100000 in
theorem k_place (κ : aK) (a b : Nat → Nat) (u : Nat) : ∀ (z1 : Int32) (z2 : Int32) (z3 : Int32) (z4 : Int32), KI yL_place cL_place 7 [(0, 14, 17, 21), (0, 14, 21, 13)] yX6_place cX6_place 6 II κ a b u [.int z1, .int z2, .int z3, .int z4] := by
  intro z1 z2 z3 z4
  intro S T hI
  obtain ⟨n, dug, dtd, so, ph, uf, ul, r, ki, lt, er, mz, bd, bo, me, dE, eE, lE, li, fB, fA, sL, f, fu, fs, ff, fl, xs, ys, zs, oL, oU, lo, up⟩ := S
  obtain ⟨th, un, ss, fi, la, da, dg, ps, rn, ks, os, ts, fn, fp, b2, e2, l2, k2, be, ab⟩ := T
  have hI : IV n dug dtd so ph uf ul r ki lt er mz bd bo me eE lE li fB fA f fu fs ff fl xs ys zs lo up un ss fi la da dg ps rn ks os ts fn fp b2 e2 l2 k2 be ab := hI
  have hI0 := hI
  obtain ⟨⟨⟨hn, hr, hf, hm⟩, hbo, hlt, her, hfu, hb2, hos, hts, hv, hfn, hre⟩, ⟨q1, q2, q3, q4, q5, q6, q7, q8, q9⟩, hF, hG, hD1, hD2, hJ⟩ := hI
  subst hm q1 q2 q3 q4 q5 q6 q7 q8 q9
  obtain ⟨hA, hB, hB2⟩ := AG_of hv hD1 hD2
  by_cases c : okU f z1
  · obtain ⟨j, hj, rfl⟩ := c
    cases hp : ((xyB z2 && xyB z3) && zB z4) with
    | false =>
      exact ⟨(n, dug, dtd, so, ph, uf, ul, r, ki, lt, er, n, bd, bo, me, dE, eE, lE, li, fB, fA, sL, f, fu, fs, ff, fl, xs, ys, zs, oL, oU, lo, up), (nI 2, n, so, uf, ul, dtd, dug, ph, r, ks, os, ts, f, fp, b2, e2, l2, k2, be, ab), 2, nI 0, hI0, by decide, wc_no (fun X F => c_L_place_b2 κ a hf hj hp) ⟨by decide, by decide, by decide, by decide⟩ (by decide), rc_of (fun X => c_X6_place_b2 κ b hf hj hp) ⟨by decide, by decide, by decide, by decide⟩, rfl⟩
    | true =>
      obtain ⟨⟨g1, g2⟩, g3⟩ : (xyB z2 = true ∧ xyB z3 = true) ∧ zB z4 = true := by rwa [Bool.and_eq_true, Bool.and_eq_true] at hp
      exact ⟨(n, dug, dtd, so, ph, uf, ul, r, ki, lt, er, n, bd, bo, me, dE, eE, lE, li, fB, fA, sL, f, fu, fs, ff, fl, (va_up xs j z2), (va_up ys j z3), (va_up zs j z4), oL, oU, lo, up), ((nI 0), n, so, uf, ul, dtd, dug, ph, r, ks, os, ts, f, (va_up (va_up (va_up fp (7 * j + 4) z2) (7 * j + 5) z3) (7 * j + 6) z4), b2, e2, l2, k2, be, ab), 0, _, ⟨hI0.1, ⟨rfl, rfl, rfl, rfl, rfl, rfl, rfl, rfl, rfl⟩, VF_place hj hF, hG, hD1, hD2, hJ⟩, by decide, wc_ok (fun X F => c_L_place κ a hf hj g1 g2 g3) ⟨by decide, by decide, by decide, by decide⟩, rc_eq (congrArg Value.int ((hF.2.2.2.2.2.2.1 j).symm)) (fun X => c_X6_place κ b hf hj hp) ⟨by decide, by decide, by decide, by decide⟩, rfl⟩
  · exact ⟨(n, dug, dtd, so, ph, uf, ul, r, ki, lt, er, n, bd, bo, me, dE, eE, lE, li, fB, fA, sL, f, fu, fs, ff, fl, xs, ys, zs, oL, oU, lo, up), (nI 1, n, so, uf, ul, dtd, dug, ph, r, ks, os, ts, f, fp, b2, e2, l2, k2, be, ab), 1, nI 0, hI0, by decide, wc_no (fun X F => c_L_place_b1 κ a hf c) ⟨by decide, by decide, by decide, by decide⟩ (by decide), rc_of (fun X => c_X6_place_b1 κ b hf c) ⟨by decide, by decide, by decide, by decide⟩, rfl⟩
set_option maxHeartbeats 2000000 in
set_option maxRecDepth 100000 in
theorem k_move (κ : aK) (a b : Nat → Nat) (u : Nat) : ∀ (z1 : Int32) (z2 : Int32), KI yL_move cL_move 5 [(0, 10, 13, 21)] yX6_move cX6_move 4 II κ a b u [.int z1, .int z2] := by
  intro z1 z2
  intro S T hI
  obtain ⟨n, dug, dtd, so, ph, uf, ul, r, ki, lt, er, mz, bd, bo, me, dE, eE, lE, li, fB, fA, sL, f, fu, fs, ff, fl, xs, ys, zs, oL, oU, lo, up⟩ := S
  obtain ⟨th, un, ss, fi, la, da, dg, ps, rn, ks, os, ts, fn, fp, b2, e2, l2, k2, be, ab⟩ := T
  have hI : IV n dug dtd so ph uf ul r ki lt er mz bd bo me eE lE li fB fA f fu fs ff fl xs ys zs lo up un ss fi la da dg ps rn ks os ts fn fp b2 e2 l2 k2 be ab := hI
  have hI0 := hI
  obtain ⟨⟨⟨hn, hr, hf, hm⟩, hbo, hlt, her, hfu, hb2, hos, hts, hv, hfn, hre⟩, ⟨q1, q2, q3, q4, q5, q6, q7, q8, q9⟩, hF, hG, hD1, hD2, hJ⟩ := hI
  subst hm q1 q2 q3 q4 q5 q6 q7 q8 q9
  obtain ⟨hA, hB, hB2⟩ := AG_of hv hD1 hD2
  by_cases c : okU f z1
  · obtain ⟨j, hj, rfl⟩ := c
    by_cases c2 : okU n z2
    · obtain ⟨w, hw, rfl⟩ := c2
      have hI1 : VA n r f n ki lt er bo (va_up fu j w) b2 ks os ts := ⟨⟨hn, hr, hf, rfl⟩, hbo, hlt, her, fun k => upn_lt hfu (by omega) k, hb2, hos, hts, hv, fn_up hw hfn, hre⟩
      exact ⟨(n, dug, dtd, so, ph, uf, ul, r, ki, lt, er, n, bd, bo, me, dE, eE, lE, li, fB, fA, sL, f, (va_up fu j w), fs, ff, fl, xs, ys, zs, (nOL dtd uf bo (va_up fu j w) ff oL n f), (nOU dtd ul bo oU n), (nLo (nOL dtd uf bo (va_up fu j w) ff oL n f) eE lo n), (nUp (nOU dtd ul bo oU n) lE up n)), ((nI 0), n, so, uf, ul, dtd, dug, ph, r, ks, os, ts, f, (va_up fp (7 * j) (nI w)), b2, e2, l2, k2, be, ab), 0, _, ⟨hI1, ⟨rfl, rfl, rfl, rfl, rfl, rfl, rfl, rfl, rfl⟩, VF_move hF, hG, hD1, hD2, VJ_new hB (fn_up hw hfn)⟩, by decide, wc_ok (fun X F => c_L_move κ a hn hf hbo hfu hj hw) ⟨by decide, by decide, by decide, by decide⟩, rc_eq (congrArg Value.int ((hF.1 j).symm)) (fun X => c_X6_move κ b hn hf hj hw) ⟨by decide, by decide, by decide, by decide⟩, rfl⟩
    · exact ⟨(n, dug, dtd, so, ph, uf, ul, r, ki, lt, er, n, bd, bo, me, dE, eE, lE, li, fB, fA, sL, f, fu, fs, ff, fl, xs, ys, zs, oL, oU, lo, up), (nI 1, n, so, uf, ul, dtd, dug, ph, r, ks, os, ts, f, fp, b2, e2, l2, k2, be, ab), 1, nI 0, hI0, by decide, wc_no (fun X F => c_L_move_b2 κ a hf hn hj c2) ⟨by decide, by decide, by decide, by decide⟩ (by decide), rc_of (fun X => c_X6_move_b1 κ b hn hf (fun h => c2 h.2)) ⟨by decide, by decide, by decide, by decide⟩, rfl⟩
  · exact ⟨(n, dug, dtd, so, ph, uf, ul, r, ki, lt, er, n, bd, bo, me, dE, eE, lE, li, fB, fA, sL, f, fu, fs, ff, fl, xs, ys, zs, oL, oU, lo, up), (nI 1, n, so, uf, ul, dtd, dug, ph, r, ks, os, ts, f, fp, b2, e2, l2, k2, be, ab), 1, nI 0, hI0, by decide, wc_no (fun X F => c_L_move_b1 κ a hf c) ⟨by decide, by decide, by decide, by decide⟩ (by decide), rc_of (fun X => c_X6_move_b1 κ b hn hf (fun h => c h.1)) ⟨by decide, by decide, by decide, by decide⟩, rfl⟩
set_option maxHeartbeats 2000000 in
set_option maxRecDepth 100000 in
theorem k_find (κ : aK) (a b : Nat → Nat) (u : Nat) : ∀ (z1 : Int32) (z2 : Int32), KI yL_find cL_find 5 [(0, 10, 13, 21)] yX6_find cX6_find 3 II κ a b u [.int z1, .int z2] := by
  intro z1 z2
  intro S T hI
  obtain ⟨n, dug, dtd, so, ph, uf, ul, r, ki, lt, er, mz, bd, bo, me, dE, eE, lE, li, fB, fA, sL, f, fu, fs, ff, fl, xs, ys, zs, oL, oU, lo, up⟩ := S
  obtain ⟨th, un, ss, fi, la, da, dg, ps, rn, ks, os, ts, fn, fp, b2, e2, l2, k2, be, ab⟩ := T
  have hI : IV n dug dtd so ph uf ul r ki lt er mz bd bo me eE lE li fB fA f fu fs ff fl xs ys zs lo up un ss fi la da dg ps rn ks os ts fn fp b2 e2 l2 k2 be ab := hI
  have hI0 := hI
  obtain ⟨⟨⟨hn, hr, hf, hm⟩, hbo, hlt, her, hfu, hb2, hos, hts, hv, hfn, hre⟩, ⟨q1, q2, q3, q4, q5, q6, q7, q8, q9⟩, hF, hG, hD1, hD2, hJ⟩ := hI
  subst hm q1 q2 q3 q4 q5 q6 q7 q8 q9
  obtain ⟨hA, hB, hB2⟩ := AG_of hv hD1 hD2
  by_cases c : okU f z1
  · obtain ⟨j, hj, rfl⟩ := c
    by_cases c2 : okU 8 z2
    · obtain ⟨q, hq, rfl⟩ := c2
      exact ⟨(n, dug, dtd, so, ph, uf, ul, r, ki, lt, er, n, bd, bo, me, dE, eE, lE, li, fB, fA, sL, f, fu, fs, ff, fl, xs, ys, zs, oL, oU, lo, up), ((nI 0), n, so, uf, ul, dtd, dug, ph, r, ks, os, ts, f, fp, b2, e2, l2, k2, be, ab), 0, _, hI0, by decide, wc_ok (fun X F => c_L_find κ a hf hbo hfu hj hq) ⟨by decide, by decide, by decide, by decide⟩, rc_eq (congrArg Value.int (ft_eq hB hA hF hfn hJ hj hq)) (fun X => c_X6_find κ b hn hf hb2 hF.1 hfu hj hq) ⟨by decide, by decide, by decide, by decide⟩, rfl⟩
    · exact ⟨(n, dug, dtd, so, ph, uf, ul, r, ki, lt, er, n, bd, bo, me, dE, eE, lE, li, fB, fA, sL, f, fu, fs, ff, fl, xs, ys, zs, oL, oU, lo, up), (nI 1, n, so, uf, ul, dtd, dug, ph, r, ks, os, ts, f, fp, b2, e2, l2, k2, be, ab), 1, nI 0, hI0, by decide, wc_no (fun X F => c_L_find_b2 κ a hf hj c2) ⟨by decide, by decide, by decide, by decide⟩ (by decide), rc_of (fun X => c_X6_find_b1 κ b hf (fun h => c2 h.2)) ⟨by decide, by decide, by decide, by decide⟩, rfl⟩
  · exact ⟨(n, dug, dtd, so, ph, uf, ul, r, ki, lt, er, n, bd, bo, me, dE, eE, lE, li, fB, fA, sL, f, fu, fs, ff, fl, xs, ys, zs, oL, oU, lo, up), (nI 1, n, so, uf, ul, dtd, dug, ph, r, ks, os, ts, f, fp, b2, e2, l2, k2, be, ab), 1, nI 0, hI0, by decide, wc_no (fun X F => c_L_find_b1 κ a hf c) ⟨by decide, by decide, by decide, by decide⟩ (by decide), rc_of (fun X => c_X6_find_b1 κ b hf (fun h => c h.1)) ⟨by decide, by decide, by decide, by decide⟩, rfl⟩
set_option maxHeartbeats 2000000 in
set_option maxRecDepth 100000 in
theorem k_date (κ : aK) (a b : Nat → Nat) (u : Nat) : ∀ (z1 : Int32) (z2 : Int32) (z3 : Int32), KI yL_date cL_date 6 [(0, 12, 15, 21), (0, 12, 19, 13)] yX6_date cX6_date 5 II κ a b u [.int z1, .int z2, .int z3] := by
  intro z1 z2 z3
  intro S T hI
  obtain ⟨n, dug, dtd, so, ph, uf, ul, r, ki, lt, er, mz, bd, bo, me, dE, eE, lE, li, fB, fA, sL, f, fu, fs, ff, fl, xs, ys, zs, oL, oU, lo, up⟩ := S
  obtain ⟨th, un, ss, fi, la, da, dg, ps, rn, ks, os, ts, fn, fp, b2, e2, l2, k2, be, ab⟩ := T
  have hI : IV n dug dtd so ph uf ul r ki lt er mz bd bo me eE lE li fB fA f fu fs ff fl xs ys zs lo up un ss fi la da dg ps rn ks os ts fn fp b2 e2 l2 k2 be ab := hI
  have hI0 := hI
  obtain ⟨⟨⟨hn, hr, hf, hm⟩, hbo, hlt, her, hfu, hb2, hos, hts, hv, hfn, hre⟩, ⟨q1, q2, q3, q4, q5, q6, q7, q8, q9⟩, hF, hG, hD1, hD2, hJ⟩ := hI
  subst hm q1 q2 q3 q4 q5 q6 q7 q8 q9
  obtain ⟨hA, hB, hB2⟩ := AG_of hv hD1 hD2
  by_cases c : okU n z1
  · obtain ⟨w, hw, rfl⟩ := c
    cases h12 : (yrB z2 && yrB z3) with
    | false =>
      exact ⟨(n, dug, dtd, so, ph, uf, ul, r, ki, lt, er, n, bd, bo, me, dE, eE, lE, li, fB, fA, sL, f, fu, fs, ff, fl, xs, ys, zs, oL, oU, lo, up), (nI 2, n, so, uf, ul, dtd, dug, ph, r, ks, os, ts, f, fp, b2, e2, l2, k2, be, ab), 2, nI 0, hI0, by decide, wc_no (fun X F => c_L_date_b2 κ a hn hw h12) ⟨by decide, by decide, by decide, by decide⟩ (by decide), rc_of (fun X => c_X6_date_b2 κ b hn hw h12) ⟨by decide, by decide, by decide, by decide⟩, rfl⟩
    | true =>
      obtain ⟨h1, h2⟩ : yrB z2 = true ∧ yrB z3 = true := by rwa [Bool.and_eq_true] at h12
      exact ⟨(n, dug, (va_up dtd w (decide (z2 ≤ z3))), so, ph, (va_up uf w z2), (va_up ul w z3), r, ki, lt, er, n, bd, bo, me, dE, eE, lE, li, fB, fA, sL, f, fu, fs, ff, fl, xs, ys, zs, (nOL (va_up dtd w (decide (z2 ≤ z3))) (va_up uf w z2) bo fu ff oL n f), (nOU (va_up dtd w (decide (z2 ≤ z3))) (va_up ul w z3) bo oU n), (nLo (nOL (va_up dtd w (decide (z2 ≤ z3))) (va_up uf w z2) bo fu ff oL n f) eE lo n), (nUp (nOU (va_up dtd w (decide (z2 ≤ z3))) (va_up ul w z3) bo oU n) lE up n)), ((nI 0), n, so, (va_up uf w z2), (va_up ul w z3), (va_up dtd w (decide (z2 ≤ z3))), dug, ph, r, ks, os, ts, f, fp, b2, e2, l2, k2, be, ab), 0, _, ⟨hI0.1, ⟨rfl, rfl, rfl, rfl, rfl, rfl, rfl, rfl, rfl⟩, hF, hG, hD1, hD2, VJ_new hB hfn⟩, by decide, wc_ok (fun X F => c_L_date κ a hn hf hbo hfu hw h1 h2) ⟨by decide, by decide, by decide, by decide⟩, rc_eq (congrArg Value.int (rfl)) (fun X => c_X6_date κ b hn hw h1 h2) ⟨by decide, by decide, by decide, by decide⟩, rfl⟩
  · exact ⟨(n, dug, dtd, so, ph, uf, ul, r, ki, lt, er, n, bd, bo, me, dE, eE, lE, li, fB, fA, sL, f, fu, fs, ff, fl, xs, ys, zs, oL, oU, lo, up), (nI 1, n, so, uf, ul, dtd, dug, ph, r, ks, os, ts, f, fp, b2, e2, l2, k2, be, ab), 1, nI 0, hI0, by decide, wc_no (fun X F => c_L_date_b1 κ a hn c) ⟨by decide, by decide, by decide, by decide⟩ (by decide), rc_of (fun X => c_X6_date_b1 κ b hn c) ⟨by decide, by decide, by decide, by decide⟩, rfl⟩
set_option maxHeartbeats 2000000 in
set_option maxRecDepth 100000 in
theorem k_bound (κ : aK) (a b : Nat → Nat) (u : Nat) : ∀ (z1 : Int32) (z2 : Bool), KI yL_bound cL_bound 5 [(0, 10, 13, 21)] yX6_bound cX6_bound 3 II κ a b u [.int z1, .int (b2i z2)] := by
  intro z1 z2
  intro S T hI
  obtain ⟨n, dug, dtd, so, ph, uf, ul, r, ki, lt, er, mz, bd, bo, me, dE, eE, lE, li, fB, fA, sL, f, fu, fs, ff, fl, xs, ys, zs, oL, oU, lo, up⟩ := S
  obtain ⟨th, un, ss, fi, la, da, dg, ps, rn, ks, os, ts, fn, fp, b2, e2, l2, k2, be, ab⟩ := T
  have hI : IV n dug dtd so ph uf ul r ki lt er mz bd bo me eE lE li fB fA f fu fs ff fl xs ys zs lo up un ss fi la da dg ps rn ks os ts fn fp b2 e2 l2 k2 be ab := hI
  have hI0 := hI
  obtain ⟨⟨⟨hn, hr, hf, hm⟩, hbo, hlt, her, hfu, hb2, hos, hts, hv, hfn, hre⟩, ⟨q1, q2, q3, q4, q5, q6, q7, q8, q9⟩, hF, hG, hD1, hD2, hJ⟩ := hI
  subst hm q1 q2 q3 q4 q5 q6 q7 q8 q9
  obtain ⟨hA, hB, hB2⟩ := AG_of hv hD1 hD2
  by_cases c : okU n z1
  · obtain ⟨w, hw, rfl⟩ := c
    have e9 : (if z2 = true then up else lo) (bo w) = if z2 = true then yUp b2 l2 dtd ul n w else yLo b2 e2 dtd uf n fu fp f w := by
      cases z2 with
      | false => exact lo_eq hB hA hF hfn hJ hw
      | true => exact up_eq hB hA hJ hw
    exact ⟨(n, dug, dtd, so, ph, uf, ul, r, ki, lt, er, n, bd, bo, me, dE, eE, lE, li, fB, fA, sL, f, fu, fs, ff, fl, xs, ys, zs, oL, oU, lo, up), ((nI 0), n, so, uf, ul, dtd, dug, ph, r, ks, os, ts, f, fp, b2, e2, l2, k2, be, ab), 0, _, hI0, by decide, wc_ok (fun X F => c_L_bound κ a hn hbo hw) ⟨by decide, by decide, by decide, by decide⟩, rc_eq (congrArg Value.int (e9)) (fun X => c_X6_bound κ b hn hf hb2 hF.1 hfu hw) ⟨by decide, by decide, by decide, by decide⟩, rfl⟩
  · exact ⟨(n, dug, dtd, so, ph, uf, ul, r, ki, lt, er, n, bd, bo, me, dE, eE, lE, li, fB, fA, sL, f, fu, fs, ff, fl, xs, ys, zs, oL, oU, lo, up), (nI 1, n, so, uf, ul, dtd, dug, ph, r, ks, os, ts, f, fp, b2, e2, l2, k2, be, ab), 1, nI 0, hI0, by decide, wc_no (fun X F => c_L_bound_b1 κ a hn c) ⟨by decide, by decide, by decide, by decide⟩ (by decide), rc_of (fun X => c_X6_bound_b1 κ b hn c) ⟨by decide, by decide, by decide, by decide⟩, rfl⟩
set_option maxHeartbeats 2000000 in
set_option maxRecDepth 100000 in
theorem k_doubt (κ : aK) (a b : Nat → Nat) (u : Nat) : ∀ (z1 : Int32), KI yL_doubt cL_doubt 4 [(0, 9, 12, 21)] yX6_doubt cX6_doubt 4 II κ a b u [.int z1] := by
  intro z1
  intro S T hI
  obtain ⟨n, dug, dtd, so, ph, uf, ul, r, ki, lt, er, mz, bd, bo, me, dE, eE, lE, li, fB, fA, sL, f, fu, fs, ff, fl, xs, ys, zs, oL, oU, lo, up⟩ := S
  obtain ⟨th, un, ss, fi, la, da, dg, ps, rn, ks, os, ts, fn, fp, b2, e2, l2, k2, be, ab⟩ := T
  have hI : IV n dug dtd so ph uf ul r ki lt er mz bd bo me eE lE li fB fA f fu fs ff fl xs ys zs lo up un ss fi la da dg ps rn ks os ts fn fp b2 e2 l2 k2 be ab := hI
  have hI0 := hI
  obtain ⟨⟨⟨hn, hr, hf, hm⟩, hbo, hlt, her, hfu, hb2, hos, hts, hv, hfn, hre⟩, ⟨q1, q2, q3, q4, q5, q6, q7, q8, q9⟩, hF, hG, hD1, hD2, hJ⟩ := hI
  subst hm q1 q2 q3 q4 q5 q6 q7 q8 q9
  obtain ⟨hA, hB, hB2⟩ := AG_of hv hD1 hD2
  by_cases c : okU 40 z1
  · obtain ⟨y, hy, rfl⟩ := c
    exact ⟨(n, dug, dtd, so, ph, uf, ul, r, ki, lt, er, n, bd, bo, me, dE, eE, lE, li, fB, fA, sL, f, fu, fs, ff, fl, xs, ys, zs, oL, oU, lo, up), ((nI 0), n, so, uf, ul, dtd, dug, ph, r, ks, os, ts, f, fp, b2, e2, l2, k2, be, ab), 0, _, hI0, by decide, wc_ok (fun X F => c_L_doubt κ a hn hy) ⟨by decide, by decide, by decide, by decide⟩, rc_eq (congrArg Value.int (congrArg oI (el_eq hn (fun i hi => db_eq hB hA hF hG hfn hJ hi)))) (fun X => c_X6_doubt κ b hn hf hb2 hF.1 hfu hy) ⟨by decide, by decide, by decide, by decide⟩, rfl⟩
  · exact ⟨(n, dug, dtd, so, ph, uf, ul, r, ki, lt, er, n, bd, bo, me, dE, eE, lE, li, fB, fA, sL, f, fu, fs, ff, fl, xs, ys, zs, oL, oU, lo, up), (nI 1, n, so, uf, ul, dtd, dug, ph, r, ks, os, ts, f, fp, b2, e2, l2, k2, be, ab), 1, nI 0, hI0, by decide, wc_no (fun X F => c_L_doubt_b1 κ a c) ⟨by decide, by decide, by decide, by decide⟩ (by decide), rc_of (fun X => c_X6_doubt_b1 κ b c) ⟨by decide, by decide, by decide, by decide⟩, rfl⟩
set_option maxHeartbeats 2000000 in
set_option maxRecDepth 100000 in
theorem k_nearest (κ : aK) (a b : Nat → Nat) (u : Nat) : ∀ (z1 : Int32) (z2 : Int32) (z3 : Int32) (z4 : Int32), KI yL_nearest cL_nearest 7 [(0, 14, 17, 13)] yX6_nearest cX6_nearest 12 II κ a b u [.int z1, .int z2, .int z3, .int z4] := by
  intro z1 z2 z3 z4
  intro S T hI
  obtain ⟨n, dug, dtd, so, ph, uf, ul, r, ki, lt, er, mz, bd, bo, me, dE, eE, lE, li, fB, fA, sL, f, fu, fs, ff, fl, xs, ys, zs, oL, oU, lo, up⟩ := S
  obtain ⟨th, un, ss, fi, la, da, dg, ps, rn, ks, os, ts, fn, fp, b2, e2, l2, k2, be, ab⟩ := T
  have hI : IV n dug dtd so ph uf ul r ki lt er mz bd bo me eE lE li fB fA f fu fs ff fl xs ys zs lo up un ss fi la da dg ps rn ks os ts fn fp b2 e2 l2 k2 be ab := hI
  have hI0 := hI
  obtain ⟨⟨⟨hn, hr, hf, hm⟩, hbo, hlt, her, hfu, hb2, hos, hts, hv, hfn, hre⟩, ⟨q1, q2, q3, q4, q5, q6, q7, q8, q9⟩, hF, hG, hD1, hD2, hJ⟩ := hI
  subst hm q1 q2 q3 q4 q5 q6 q7 q8 q9
  obtain ⟨hA, hB, hB2⟩ := AG_of hv hD1 hD2
  cases hp : ((xyB z1 && xyB z2) && zB z3) with
  | false =>
    exact ⟨(n, dug, dtd, so, ph, uf, ul, r, ki, lt, er, n, bd, bo, me, dE, eE, lE, li, fB, fA, sL, f, fu, fs, ff, fl, xs, ys, zs, oL, oU, lo, up), (nI 1, n, so, uf, ul, dtd, dug, ph, r, ks, os, ts, f, fp, b2, e2, l2, k2, be, ab), 1, nI 0, hI0, by decide, wc_no (fun X F => c_L_nearest_b1 κ a hp) ⟨by decide, by decide, by decide, by decide⟩ (by decide), rc_of (fun X => c_X6_nearest_b1 κ b (fun h => by rw [h.1] at hp; cases hp)) ⟨by decide, by decide, by decide, by decide⟩, rfl⟩
  | true =>
    obtain ⟨⟨g1, g2⟩, g3⟩ : (xyB z1 = true ∧ xyB z2 = true) ∧ zB z3 = true := by rwa [Bool.and_eq_true, Bool.and_eq_true] at hp
    cases hq : inB (-1 : Int32) (nI 9) z4 with
    | false =>
      exact ⟨(n, dug, dtd, so, ph, uf, ul, r, ki, lt, er, n, bd, bo, me, dE, eE, lE, li, fB, fA, sL, f, fu, fs, ff, fl, xs, ys, zs, oL, oU, lo, up), (nI 1, n, so, uf, ul, dtd, dug, ph, r, ks, os, ts, f, fp, b2, e2, l2, k2, be, ab), 1, nI 0, hI0, by decide, wc_no (fun X F => c_L_nearest_b2 κ a g1 g2 g3 hq) ⟨by decide, by decide, by decide, by decide⟩ (by decide), rc_of (fun X => c_X6_nearest_b1 κ b (fun h => by rw [h.2] at hq; cases hq)) ⟨by decide, by decide, by decide, by decide⟩, rfl⟩
    | true =>
      have e9 : (clS fs (fun v => sqD xs ys zs v z1 z2 z3) z4 f).1 = (clS (fun v => fp (7 * v + 1)) (fun v => sqD (fun v => fp (7 * v + 4)) (fun v => fp (7 * v + 5)) (fun v => fp (7 * v + 6)) v z1 z2 z3) z4 f).1 := by
        rw [show (fun v => fp (7 * v + 1)) = fs from funext hF.2.1, show (fun v => fp (7 * v + 4)) = xs from funext hF.2.2.2.2.1, show (fun v => fp (7 * v + 5)) = ys from funext hF.2.2.2.2.2.1, show (fun v => fp (7 * v + 6)) = zs from funext hF.2.2.2.2.2.2.1]
      exact ⟨(n, dug, dtd, so, ph, uf, ul, r, ki, lt, er, n, bd, bo, me, dE, eE, lE, li, fB, fA, sL, f, fu, fs, ff, fl, xs, ys, zs, oL, oU, lo, up), ((nI 0), n, so, uf, ul, dtd, dug, ph, r, ks, os, ts, f, fp, b2, e2, l2, k2, be, ab), 0, _, hI0, by decide, wc_ok (fun X F => c_L_nearest κ a hf g1 g2 g3 hq) ⟨by decide, by decide, by decide, by decide⟩, rc_eq (congrArg Value.int (e9)) (fun X => c_X6_nearest κ b hf hp hq) ⟨by decide, by decide, by decide, by decide⟩, rfl⟩
theorem dug_up (dug : Nat → Bool) (w : Nat) : (fun i => dug i || decide (i = w)) = va_up dug w true := by
  funext i
  by_cases e : i = w
  · rw [e, up_s, decide_eq_true rfl, Bool.or_true]
  · rw [up_n _ _ e, decide_eq_false e, Bool.or_false]
set_option maxHeartbeats 2000000 in
set_option maxRecDepth 100000 in
theorem k_dig (κ : aK) (a b : Nat → Nat) (u : Nat) : ∀ (z1 : Int32), KI yL_dig cL_dig 4 [(0, 9, 12, 21), (0, 9, 15, 15)] yX6_dig cX6_dig 4 II κ a b u [.int z1] := by
  intro z1
  intro S T hI
  obtain ⟨n, dug, dtd, so, ph, uf, ul, r, ki, lt, er, mz, bd, bo, me, dE, eE, lE, li, fB, fA, sL, f, fu, fs, ff, fl, xs, ys, zs, oL, oU, lo, up⟩ := S
  obtain ⟨th, un, ss, fi, la, da, dg, ps, rn, ks, os, ts, fn, fp, b2, e2, l2, k2, be, ab⟩ := T
  have hI : IV n dug dtd so ph uf ul r ki lt er mz bd bo me eE lE li fB fA f fu fs ff fl xs ys zs lo up un ss fi la da dg ps rn ks os ts fn fp b2 e2 l2 k2 be ab := hI
  have hI0 := hI
  obtain ⟨⟨⟨hn, hr, hf, hm⟩, hbo, hlt, her, hfu, hb2, hos, hts, hv, hfn, hre⟩, ⟨q1, q2, q3, q4, q5, q6, q7, q8, q9⟩, hF, hG, hD1, hD2, hJ⟩ := hI
  subst hm q1 q2 q3 q4 q5 q6 q7 q8 q9
  obtain ⟨hA, hB, hB2⟩ := AG_of hv hD1 hD2
  by_cases c : okU n z1
  · obtain ⟨w, hw, rfl⟩ := c
    have hcd : ∀ (d : Nat → Bool) (v : Nat), v < n → cdB n bo eE d v = cgB n b2 l2 d v := fun d v hv => cd_eq hB hA hD1.2.2.2.1 hv
    cases hc : cdB n bo eE dug w with
    | false =>
      exact ⟨(n, dug, dtd, so, ph, uf, ul, r, ki, lt, er, n, bd, bo, me, dE, eE, lE, li, fB, fA, sL, f, fu, fs, ff, fl, xs, ys, zs, oL, oU, lo, up), (nI 2, n, so, uf, ul, dtd, dug, ph, r, ks, os, ts, f, fp, b2, e2, l2, k2, be, ab), 2, nI 0, hI0, by decide, wc_no (fun X F => c_L_dig_b2 κ a hn hbo hw hc) ⟨by decide, by decide, by decide, by decide⟩ (by decide), rc_of (fun X => c_X6_dig_b2 κ b hn hb2 hw (by rw [← hcd dug w hw]; exact hc)) ⟨by decide, by decide, by decide, by decide⟩, rfl⟩
    | true =>
      have e9 : bcI (bs (selS (fun v => cdB n bo eE (fun i => dug i || decide (i = w)) v) n)) = nI (cnt (cgB n b2 l2 (va_up dug w true)) n) := sel_c hn (fun i hi => by rw [dug_up]; exact hcd _ i hi)
      have hG1 : VG n (fun i => dug i || decide (i = w)) bd bo me := ⟨hG.1, hG.2.1, fun i hi => by show (dug i || decide (i = w)) = false; rw [hG.2.2 i hi, decide_eq_false (by omega)]; rfl⟩
      exact ⟨(n, (fun i => dug i || decide (i = w)), dtd, so, ph, uf, ul, r, ki, lt, er, n, bd, bo, me, dE, eE, lE, li, fB, fA, sL, f, fu, fs, ff, fl, xs, ys, zs, oL, oU, lo, up), ((nI 0), n, so, uf, ul, dtd, (va_up dug w true), ph, r, ks, os, ts, f, fp, b2, e2, l2, k2, be, ab), 0, _, ⟨hI0.1, ⟨rfl, rfl, rfl, rfl, rfl, dug_up dug w, rfl, rfl, rfl⟩, hF, hG1, hD1, hD2, hJ⟩, by decide, wc_ok (fun X F => c_L_dig κ a hn hbo hw hc) ⟨by decide, by decide, by decide, by decide⟩, rc_eq (congrArg Value.int (e9)) (fun X => c_X6_dig κ b hn hb2 hw (by rw [← hcd dug w hw]; exact hc)) ⟨by decide, by decide, by decide, by decide⟩, rfl⟩
  · exact ⟨(n, dug, dtd, so, ph, uf, ul, r, ki, lt, er, n, bd, bo, me, dE, eE, lE, li, fB, fA, sL, f, fu, fs, ff, fl, xs, ys, zs, oL, oU, lo, up), (nI 1, n, so, uf, ul, dtd, dug, ph, r, ks, os, ts, f, fp, b2, e2, l2, k2, be, ab), 1, nI 0, hI0, by decide, wc_no (fun X F => c_L_dig_b1 κ a hn c) ⟨by decide, by decide, by decide, by decide⟩ (by decide), rc_of (fun X => c_X6_dig_b1 κ b hn c) ⟨by decide, by decide, by decide, by decide⟩, rfl⟩
set_option maxHeartbeats 2000000 in
set_option maxRecDepth 100000 in
theorem k_next (κ : aK) (a b : Nat → Nat) (u : Nat) : ∀ (z1 : Int32), KI yL_next cL_next 4 [(0, 9, 12, 21)] yX6_next cX6_next 4 II κ a b u [.int z1] := by
  intro z1
  intro S T hI
  obtain ⟨n, dug, dtd, so, ph, uf, ul, r, ki, lt, er, mz, bd, bo, me, dE, eE, lE, li, fB, fA, sL, f, fu, fs, ff, fl, xs, ys, zs, oL, oU, lo, up⟩ := S
  obtain ⟨th, un, ss, fi, la, da, dg, ps, rn, ks, os, ts, fn, fp, b2, e2, l2, k2, be, ab⟩ := T
  have hI : IV n dug dtd so ph uf ul r ki lt er mz bd bo me eE lE li fB fA f fu fs ff fl xs ys zs lo up un ss fi la da dg ps rn ks os ts fn fp b2 e2 l2 k2 be ab := hI
  have hI0 := hI
  obtain ⟨⟨⟨hn, hr, hf, hm⟩, hbo, hlt, her, hfu, hb2, hos, hts, hv, hfn, hre⟩, ⟨q1, q2, q3, q4, q5, q6, q7, q8, q9⟩, hF, hG, hD1, hD2, hJ⟩ := hI
  subst hm q1 q2 q3 q4 q5 q6 q7 q8 q9
  obtain ⟨hA, hB, hB2⟩ := AG_of hv hD1 hD2
  by_cases c : okU 40 z1
  · obtain ⟨y, hy, rfl⟩ := c
    exact ⟨(n, dug, dtd, so, ph, uf, ul, r, ki, lt, er, n, bd, bo, me, dE, eE, lE, li, fB, fA, sL, f, fu, fs, ff, fl, xs, ys, zs, oL, oU, lo, up), ((nI 0), n, so, uf, ul, dtd, dug, ph, r, ks, os, ts, f, fp, b2, e2, l2, k2, be, ab), 0, _, hI0, by decide, wc_ok (fun X F => c_L_next κ a hn hbo hy) ⟨by decide, by decide, by decide, by decide⟩, rc_eq (congrArg Value.int (congrArg oI (el_eq (p := fun u => cdB n bo eE dug u) (p' := cgB n b2 l2 dug) hn (fun i hi => cd_eq hB hA hD1.2.2.2.1 hi)))) (fun X => c_X6_next κ b hn hb2 hy) ⟨by decide, by decide, by decide, by decide⟩, rfl⟩
  · exact ⟨(n, dug, dtd, so, ph, uf, ul, r, ki, lt, er, n, bd, bo, me, dE, eE, lE, li, fB, fA, sL, f, fu, fs, ff, fl, xs, ys, zs, oL, oU, lo, up), (nI 1, n, so, uf, ul, dtd, dug, ph, r, ks, os, ts, f, fp, b2, e2, l2, k2, be, ab), 1, nI 0, hI0, by decide, wc_no (fun X F => c_L_next_b1 κ a c) ⟨by decide, by decide, by decide, by decide⟩ (by decide), rc_of (fun X => c_X6_next_b1 κ b c) ⟨by decide, by decide, by decide, by decide⟩, rfl⟩
set_option maxHeartbeats 2000000 in
set_option maxRecDepth 100000 in
theorem k_setPhase (κ : aK) (a b : Nat → Nat) (u : Nat) : ∀ (z1 : Int32) (z2 : Int32), KI yL_setPhase cL_setPhase 5 [(0, 10, 13, 21), (0, 10, 17, 13)] yX6_setPhase cX6_setPhase 4 II κ a b u [.int z1, .int z2] := by
  intro z1 z2
  intro S T hI
  obtain ⟨n, dug, dtd, so, ph, uf, ul, r, ki, lt, er, mz, bd, bo, me, dE, eE, lE, li, fB, fA, sL, f, fu, fs, ff, fl, xs, ys, zs, oL, oU, lo, up⟩ := S
  obtain ⟨th, un, ss, fi, la, da, dg, ps, rn, ks, os, ts, fn, fp, b2, e2, l2, k2, be, ab⟩ := T
  have hI : IV n dug dtd so ph uf ul r ki lt er mz bd bo me eE lE li fB fA f fu fs ff fl xs ys zs lo up un ss fi la da dg ps rn ks os ts fn fp b2 e2 l2 k2 be ab := hI
  have hI0 := hI
  obtain ⟨⟨⟨hn, hr, hf, hm⟩, hbo, hlt, her, hfu, hb2, hos, hts, hv, hfn, hre⟩, ⟨q1, q2, q3, q4, q5, q6, q7, q8, q9⟩, hF, hG, hD1, hD2, hJ⟩ := hI
  subst hm q1 q2 q3 q4 q5 q6 q7 q8 q9
  obtain ⟨hA, hB, hB2⟩ := AG_of hv hD1 hD2
  by_cases c : okU n z1
  · obtain ⟨w, hw, rfl⟩ := c
    by_cases hp : okU 21 z2
    · exact ⟨(n, dug, dtd, so, (va_up ph w z2), uf, ul, r, ki, lt, er, n, bd, bo, me, dE, eE, lE, li, fB, fA, sL, f, fu, fs, ff, fl, xs, ys, zs, oL, oU, lo, up), ((nI 0), n, so, uf, ul, dtd, dug, (va_up ph w z2), r, ks, os, ts, f, fp, b2, e2, l2, k2, be, ab), 0, _, ⟨hI0.1, ⟨rfl, rfl, rfl, rfl, rfl, rfl, rfl, rfl, rfl⟩, hF, hG, hD1, hD2, hJ⟩, by decide, wc_ok (fun X F => c_L_setPhase κ a hn hw hp) ⟨by decide, by decide, by decide, by decide⟩, rc_eq (congrArg Value.int (rfl)) (fun X => c_X6_setPhase κ b hn hw hp) ⟨by decide, by decide, by decide, by decide⟩, rfl⟩
    · exact ⟨(n, dug, dtd, so, ph, uf, ul, r, ki, lt, er, n, bd, bo, me, dE, eE, lE, li, fB, fA, sL, f, fu, fs, ff, fl, xs, ys, zs, oL, oU, lo, up), (nI 2, n, so, uf, ul, dtd, dug, ph, r, ks, os, ts, f, fp, b2, e2, l2, k2, be, ab), 2, nI 0, hI0, by decide, wc_no (fun X F => c_L_setPhase_b2 κ a hn hw hp) ⟨by decide, by decide, by decide, by decide⟩ (by decide), rc_of (fun X => c_X6_setPhase_b2 κ b hn hw hp) ⟨by decide, by decide, by decide, by decide⟩, rfl⟩
  · exact ⟨(n, dug, dtd, so, ph, uf, ul, r, ki, lt, er, n, bd, bo, me, dE, eE, lE, li, fB, fA, sL, f, fu, fs, ff, fl, xs, ys, zs, oL, oU, lo, up), (nI 1, n, so, uf, ul, dtd, dug, ph, r, ks, os, ts, f, fp, b2, e2, l2, k2, be, ab), 1, nI 0, hI0, by decide, wc_no (fun X F => c_L_setPhase_b1 κ a hn c) ⟨by decide, by decide, by decide, by decide⟩ (by decide), rc_of (fun X => c_X6_setPhase_b1 κ b hn c) ⟨by decide, by decide, by decide, by decide⟩, rfl⟩
