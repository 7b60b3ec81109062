/-! THE CASES, second -/
theorem row_eq {n u x : Nat} {dug bd : Nat → Bool} {fB fA be ab : Nat → Int32} {bo b2 : Nat → Nat} {me eE lE li e2 l2 k2 : Nat → Nat → Bool} {isU : Bool} (hA : AG n bo eE lE li fB fA b2 e2 l2 k2 be ab) (hG : VG n dug bd bo me) (hu : u < n) : (bd u && decide ((if isU = true then fB else fA) u = nI x)) = rowP b2 (if isU = true then be else ab) x u := by
  unfold rowP
  rw [← bd_eq hA hG hu]
  cases e : bd u with
  | false => rw [Bool.false_and, Bool.false_and]
  | true =>
    cases isU with
    | false =>
      show (true && decide (fA u = nI x)) = (true && decide (ab u = nI x))
      rw [hA.2.2.2.2.2 u hu (bd_b hG e).2]
    | true =>
      show (true && decide (fB u = nI x)) = (true && decide (be u = nI x))
      rw [hA.2.2.2.2.1 u hu (bd_b hG e).2]
set_option maxHeartbeats 2000000 in
set_option maxRecDepth 100000 in
theorem k_relate (κ : aK) (a b : Nat → Nat) (u : Nat) : ∀ (z1 : Int32) (z2 : Int32) (z3 : Int32), KI yL_relate cL_relate 6 [(0, 12, 15, 13), (0, 12, 19, 21), (0, 12, 23, 15)] yX6_relate cX6_relate 5 II κ a b u [.int z1, .int z2, .int z3] := by
  intro z1 z2 z3
  intro S T hI
  obtain ⟨n, dug, dtd, so, ph, uf, ul, r, ki, lt, er, mz, bd, bo, me, dE, eE, lE, li, fB, fA, sL, f, fu, fs, ff, fl, xs, ys, zs, oL, oU, lo, up⟩ := S
  obtain ⟨th, un, ss, fi, la, da, dg, ps, rn, ks, os, ts, fn, fp, b2, e2, l2, k2, be, ab⟩ := T
  have hI : IV n dug dtd so ph uf ul r ki lt er mz bd bo me eE lE li fB fA f fu fs ff fl xs ys zs lo up un ss fi la da dg ps rn ks os ts fn fp b2 e2 l2 k2 be ab := hI
  have hI0 := hI
  obtain ⟨⟨⟨hn, hr, hf, hm⟩, hbo, hlt, her, hfu, hb2, hos, hts, hv, hfn, hre⟩, ⟨q1, q2, q3, q4, q5, q6, q7, q8, q9⟩, hF, hG, hD1, hD2, hJ⟩ := hI
  subst hm q1 q2 q3 q4 q5 q6 q7 q8 q9
  obtain ⟨hA, hB, hB2⟩ := AG_of hv hD1 hD2
  by_cases ck : okU 5 z1
  · by_cases cx : okU n z2
    · obtain ⟨x, hx, rfl⟩ := cx
      by_cases cy : okU n z3
      · obtain ⟨y, hy, rfl⟩ := cy
        by_cases cr : r < 80
        · have ht := told_eq (kd := z1) (x := x) (y := y) hre
          have hos1 : ∀ k, va_up os r x k < 40 := fun k => upn_lt hos (by omega) k
          have hts1 : ∀ k, va_up ts r y k < 40 := fun k => upn_lt hts (by omega) k
          have hlt1 : ∀ k, va_up lt r x k < 40 := fun k => upn_lt hlt (by omega) k
          have her1 : ∀ k, va_up er r y k < 40 := fun k => upn_lt her (by omega) k
          by_cases c1 : x = y
          · exact ⟨(n, dug, dtd, so, ph, uf, ul, r, ki, lt, er, n, bd, bo, me, dE, eE, lE, li, fB, fA, sL, f, fu, fs, ff, fl, xs, ys, zs, oL, oU, lo, up), ((nI 0), n, so, uf, ul, dtd, dug, ph, r, ks, os, ts, f, fp, b2, e2, l2, k2, be, ab), 0, _, hI0, by decide, wc_ok (fun X F => c_L_relate_r κ a ck hx hy hn cr hf hbo hlt her hfu (by rw [whR_1 c1]; decide)) ⟨by decide, by decide, by decide, by decide⟩, rc_eq (congrArg Value.int (by rw [whR_1 c1, rrC_1 c1])) (fun X => c_X6_relate_n κ b hn hr cr hb2 hos hts ck hx hy (by rw [rrC_1 c1]; decide)) ⟨by decide, by decide, by decide, by decide⟩, rfl⟩
          · by_cases c2 : sfB z1 (so x) (so y) = true
            · cases c3 : anyB (toldP ki lt er z1 x y) r with
              | true =>
                exact ⟨(n, dug, dtd, so, ph, uf, ul, r, ki, lt, er, n, bd, bo, me, dE, eE, lE, li, fB, fA, sL, f, fu, fs, ff, fl, xs, ys, zs, oL, oU, lo, up), ((nI 0), n, so, uf, ul, dtd, dug, ph, r, ks, os, ts, f, fp, b2, e2, l2, k2, be, ab), 0, _, hI0, by decide, wc_ok (fun X F => c_L_relate_r κ a ck hx hy hn cr hf hbo hlt her hfu (by rw [whR_3 c1 c2 c3]; decide)) ⟨by decide, by decide, by decide, by decide⟩, rc_eq (congrArg Value.int (by rw [whR_3 c1 c2 c3, rrC_3 c1 c2 (by rw [← ht]; exact c3)])) (fun X => c_X6_relate_n κ b hn hr cr hb2 hos hts ck hx hy (by rw [rrC_3 c1 c2 (by rw [← ht]; exact c3)]; decide)) ⟨by decide, by decide, by decide, by decide⟩, rfl⟩
              | false =>
                have c3 : anyB (toldP ki lt er z1 x y) r = false := c3
                have hc := irr_rel2 (kd := z1) (e0 := e2) hn hv hre hos hts hb2 hD1 hx hy
                cases c4 : lpB bo eE z1 x y with
                | true =>
                  have hI1 : VA n r f n ki lt er bo fu (sJ (va_up ks r z1) (va_up os r x) (va_up ts r y) (sJ (va_up ks r z1) (va_up os r x) (va_up ts r y) b2 n (r + 1)) n r) (va_up ks r z1) (va_up os r x) (va_up ts r y) := ⟨⟨hn, hr, hf, rfl⟩, hbo, hlt, her, hfu, sJ_lt (sJ_lt hb2 hn) hn, hos1, hts1, hv, hfn, RE_up0 hre⟩
                  have g := NEWR (be := be) (ab := ab) (e0 := (sE (va_up ks r z1) (va_up os r x) (va_up ts r y) b2 n (r + 1) e2)) (l0 := l2) (k0 := k2) (b0 := (sJ (va_up ks r z1) (va_up os r x) (va_up ts r y) b2 n (r + 1))) hn hv (RE_up0 (kd := z1) (x := x) (y := y) hre) hos1 hts1 (sJ_lt hb2 hn) hD1.1 hD1.2.1 hD1.2.2.1
                  exact ⟨(n, dug, dtd, so, ph, uf, ul, r, ki, lt, er, n, bd, bo, me, dE, eE, lE, li, fB, fA, sL, f, fu, fs, ff, fl, xs, ys, zs, oL, oU, lo, up), ((nI 0), n, so, uf, ul, dtd, dug, ph, r, (va_up ks r z1), (va_up os r x), (va_up ts r y), f, fp, (sJ (va_up ks r z1) (va_up os r x) (va_up ts r y) (sJ (va_up ks r z1) (va_up os r x) (va_up ts r y) b2 n (r + 1)) n r), (sE (va_up ks r z1) (va_up os r x) (va_up ts r y) (sJ (va_up ks r z1) (va_up os r x) (va_up ts r y) b2 n (r + 1)) n r (sE (va_up ks r z1) (va_up os r x) (va_up ts r y) b2 n (r + 1) e2)), (sLt (sE (va_up ks r z1) (va_up os r x) (va_up ts r y) (sJ (va_up ks r z1) (va_up os r x) (va_up ts r y) b2 n (r + 1)) n r (sE (va_up ks r z1) (va_up os r x) (va_up ts r y) b2 n (r + 1) e2)) n l2), (sLi (sE (va_up ks r z1) (va_up os r x) (va_up ts r y) (sJ (va_up ks r z1) (va_up os r x) (va_up ts r y) b2 n (r + 1)) n r (sE (va_up ks r z1) (va_up os r x) (va_up ts r y) b2 n (r + 1) e2)) n k2), (sRk (sE (va_up ks r z1) (va_up os r x) (va_up ts r y) (sJ (va_up ks r z1) (va_up os r x) (va_up ts r y) b2 n (r + 1)) n r (sE (va_up ks r z1) (va_up os r x) (va_up ts r y) b2 n (r + 1) e2)) n be), (sRk (sLt (sE (va_up ks r z1) (va_up os r x) (va_up ts r y) (sJ (va_up ks r z1) (va_up os r x) (va_up ts r y) b2 n (r + 1)) n r (sE (va_up ks r z1) (va_up os r x) (va_up ts r y) b2 n (r + 1) e2)) n l2) n ab)), 0, _, ⟨hI1, ⟨rfl, rfl, rfl, rfl, rfl, rfl, rfl, rfl, rfl⟩, hF, hG, hD1, g, hJ⟩, by decide, wc_ok (fun X F => c_L_relate_r κ a ck hx hy hn cr hf hbo hlt her hfu (by rw [whR_4 c1 c2 c3 c4]; decide)) ⟨by decide, by decide, by decide, by decide⟩, rc_eq (congrArg Value.int (congrArg nI (whR_4 c1 c2 c3 c4))) (fun X => c_X6_relate_z κ b hn cr hb2 hos hts ck hx hy c1 c2 (by rw [← ht]; exact c3) ((Bool.not_eq_true _).mp (fun h => bt_f c4 (hc.mp h)))) ⟨by decide, by decide, by decide, by decide⟩, rfl⟩
                | false =>
                  have hI1 : VA n (r + 1) f n (va_up ki r z1) (va_up lt r x) (va_up er r y) (nJ (va_up ki r z1) (va_up lt r x) (va_up er r y) bo n (r + 1)) fu (sJ (va_up ks r z1) (va_up os r x) (va_up ts r y) (sJ (va_up ks r z1) (va_up os r x) (va_up ts r y) b2 n (r + 1)) n (r + 1)) (va_up ks r z1) (va_up os r x) (va_up ts r y) := ⟨⟨hn, by omega, hf, rfl⟩, nJ_lt hbo hn, hlt1, her1, hfu, sJ_lt (sJ_lt hb2 hn) hn, hos1, hts1, RV_up hv hx hy, hfn, RE_up hre⟩
                  obtain ⟨g1, g2, g3, g4⟩ := (NEWS (oL := oL) (oU := oU) (lo := lo) (up := up) (uf := uf) (ul := ul) (ff := ff) (dtd := dtd) (be := be) (ab := ab) (fB := fB) (fA := fA) (me := me) (lE := lE) (li := li) (e0 := (sE (va_up ks r z1) (va_up os r x) (va_up ts r y) b2 n (r + 1) e2)) (l0 := l2) (k0 := k2) (b0 := (sJ (va_up ks r z1) (va_up os r x) (va_up ts r y) b2 n (r + 1))) hn (RV_up hv hx hy) (RE_up (kd := z1) (x := x) (y := y) hre) hos1 hts1 (sJ_lt hb2 hn) hG.2.2 hfn ((irr_rel (kd := z1) (c0 := bo) (d1 := dE) (e1 := eE) hv hD1 hx hy).mpr c4))
                  exact ⟨(n, dug, dtd, so, ph, uf, ul, (r + 1), (va_up ki r z1), (va_up lt r x), (va_up er r y), n, (nB (va_up ki r z1) (va_up lt r x) (va_up er r y) bo n (r + 1)), (nJ (va_up ki r z1) (va_up lt r x) (va_up er r y) bo n (r + 1)), (nM (va_up ki r z1) (va_up lt r x) (va_up er r y) bo n (r + 1) me), (nD (va_up ki r z1) (va_up lt r x) (va_up er r y) bo n (r + 1) dE), (nE (va_up ki r z1) (va_up lt r x) (va_up er r y) bo n (r + 1) dE eE), (nL (va_up ki r z1) (va_up lt r x) (va_up er r y) bo n (r + 1) dE eE lE), (nK (va_up ki r z1) (va_up lt r x) (va_up er r y) bo n (r + 1) dE eE li), (nfB (va_up ki r z1) (va_up lt r x) (va_up er r y) bo n (r + 1) dE eE fB), (nfA (va_up ki r z1) (va_up lt r x) (va_up er r y) bo n (r + 1) dE eE lE fA), sL, f, fu, fs, ff, fl, xs, ys, zs, (nOL dtd uf (nJ (va_up ki r z1) (va_up lt r x) (va_up er r y) bo n (r + 1)) fu ff oL n f), (nOU dtd ul (nJ (va_up ki r z1) (va_up lt r x) (va_up er r y) bo n (r + 1)) oU n), (nLo (nOL dtd uf (nJ (va_up ki r z1) (va_up lt r x) (va_up er r y) bo n (r + 1)) fu ff oL n f) (nE (va_up ki r z1) (va_up lt r x) (va_up er r y) bo n (r + 1) dE eE) lo n), (nUp (nOU dtd ul (nJ (va_up ki r z1) (va_up lt r x) (va_up er r y) bo n (r + 1)) oU n) (nL (va_up ki r z1) (va_up lt r x) (va_up er r y) bo n (r + 1) dE eE lE) up n)), ((nI 0), n, so, uf, ul, dtd, dug, ph, (r + 1), (va_up ks r z1), (va_up os r x), (va_up ts r y), f, fp, (sJ (va_up ks r z1) (va_up os r x) (va_up ts r y) (sJ (va_up ks r z1) (va_up os r x) (va_up ts r y) b2 n (r + 1)) n (r + 1)), (sE (va_up ks r z1) (va_up os r x) (va_up ts r y) (sJ (va_up ks r z1) (va_up os r x) (va_up ts r y) b2 n (r + 1)) n (r + 1) (sE (va_up ks r z1) (va_up os r x) (va_up ts r y) b2 n (r + 1) e2)), (sLt (sE (va_up ks r z1) (va_up os r x) (va_up ts r y) (sJ (va_up ks r z1) (va_up os r x) (va_up ts r y) b2 n (r + 1)) n (r + 1) (sE (va_up ks r z1) (va_up os r x) (va_up ts r y) b2 n (r + 1) e2)) n l2), (sLi (sE (va_up ks r z1) (va_up os r x) (va_up ts r y) (sJ (va_up ks r z1) (va_up os r x) (va_up ts r y) b2 n (r + 1)) n (r + 1) (sE (va_up ks r z1) (va_up os r x) (va_up ts r y) b2 n (r + 1) e2)) n k2), (sRk (sE (va_up ks r z1) (va_up os r x) (va_up ts r y) (sJ (va_up ks r z1) (va_up os r x) (va_up ts r y) b2 n (r + 1)) n (r + 1) (sE (va_up ks r z1) (va_up os r x) (va_up ts r y) b2 n (r + 1) e2)) n be), (sRk (sLt (sE (va_up ks r z1) (va_up os r x) (va_up ts r y) (sJ (va_up ks r z1) (va_up os r x) (va_up ts r y) b2 n (r + 1)) n (r + 1) (sE (va_up ks r z1) (va_up os r x) (va_up ts r y) b2 n (r + 1) e2)) n l2) n ab)), 0, _, ⟨hI1, ⟨rfl, rfl, rfl, rfl, rfl, rfl, rfl, rfl, rfl⟩, hF, g1, g2, g3, g4⟩, by decide, wc_ok (fun X F => c_L_relate κ a ck hx hy hn cr hf hbo hlt her hfu (whR_0 c1 c2 c3 c4)) ⟨by decide, by decide, by decide, by decide⟩, rc_eq (congrArg Value.int (congrArg nI (whR_0 c1 c2 c3 c4))) (fun X => c_X6_relate_y κ b hn cr hb2 hos hts ck hx hy c1 c2 (by rw [← ht]; exact c3) (hc.mpr c4)) ⟨by decide, by decide, by decide, by decide⟩, rfl⟩
            · have c2 := (Bool.not_eq_true _).mp c2
              exact ⟨(n, dug, dtd, so, ph, uf, ul, r, ki, lt, er, n, bd, bo, me, dE, eE, lE, li, fB, fA, sL, f, fu, fs, ff, fl, xs, ys, zs, oL, oU, lo, up), ((nI 0), n, so, uf, ul, dtd, dug, ph, r, ks, os, ts, f, fp, b2, e2, l2, k2, be, ab), 0, _, hI0, by decide, wc_ok (fun X F => c_L_relate_r κ a ck hx hy hn cr hf hbo hlt her hfu (by rw [whR_2 c1 c2]; decide)) ⟨by decide, by decide, by decide, by decide⟩, rc_eq (congrArg Value.int (by rw [whR_2 c1 c2, rrC_2 c1 c2])) (fun X => c_X6_relate_n κ b hn hr cr hb2 hos hts ck hx hy (by rw [rrC_2 c1 c2]; decide)) ⟨by decide, by decide, by decide, by decide⟩, rfl⟩
        · have cr : r = 80 := by omega
          exact ⟨(n, dug, dtd, so, ph, uf, ul, r, ki, lt, er, n, bd, bo, me, dE, eE, lE, li, fB, fA, sL, f, fu, fs, ff, fl, xs, ys, zs, oL, oU, lo, up), (nI 3, n, so, uf, ul, dtd, dug, ph, r, ks, os, ts, f, fp, b2, e2, l2, k2, be, ab), 3, nI 0, hI0, by decide, wc_no (fun X F => c_L_relate_b4 κ a ck hn hx hy cr) ⟨by decide, by decide, by decide, by decide⟩ (by decide), rc_of (fun X => c_X6_relate_b3 κ b hn ck hx hy cr) ⟨by decide, by decide, by decide, by decide⟩, rfl⟩
      · exact ⟨(n, dug, dtd, so, ph, uf, ul, r, ki, lt, er, n, bd, bo, me, dE, eE, lE, li, fB, fA, sL, f, fu, fs, ff, fl, xs, ys, zs, oL, oU, lo, up), (nI 2, n, so, uf, ul, dtd, dug, ph, r, ks, os, ts, f, fp, b2, e2, l2, k2, be, ab), 2, nI 0, hI0, by decide, wc_no (fun X F => c_L_relate_b3 κ a ck hn hx cy) ⟨by decide, by decide, by decide, by decide⟩ (by decide), rc_of (fun X => c_X6_relate_b2 κ b hn ck (fun h => cy h.2)) ⟨by decide, by decide, by decide, by decide⟩, rfl⟩
    · exact ⟨(n, dug, dtd, so, ph, uf, ul, r, ki, lt, er, n, bd, bo, me, dE, eE, lE, li, fB, fA, sL, f, fu, fs, ff, fl, xs, ys, zs, oL, oU, lo, up), (nI 2, n, so, uf, ul, dtd, dug, ph, r, ks, os, ts, f, fp, b2, e2, l2, k2, be, ab), 2, nI 0, hI0, by decide, wc_no (fun X F => c_L_relate_b2 κ a ck hn cx) ⟨by decide, by decide, by decide, by decide⟩ (by decide), rc_of (fun X => c_X6_relate_b2 κ b hn ck (fun h => cx h.1)) ⟨by decide, by decide, by decide, by decide⟩, rfl⟩
  · exact ⟨(n, dug, dtd, so, ph, uf, ul, r, ki, lt, er, n, bd, bo, me, dE, eE, lE, li, fB, fA, sL, f, fu, fs, ff, fl, xs, ys, zs, oL, oU, lo, up), (nI 1, n, so, uf, ul, dtd, dug, ph, r, ks, os, ts, f, fp, b2, e2, l2, k2, be, ab), 1, nI 0, hI0, by decide, wc_no (fun X F => c_L_relate_b1 κ a ck) ⟨by decide, by decide, by decide, by decide⟩ (by decide), rc_of (fun X => c_X6_relate_b1 κ b ck) ⟨by decide, by decide, by decide, by decide⟩, rfl⟩
set_option maxHeartbeats 2000000 in
set_option maxRecDepth 100000 in
theorem k_order (κ : aK) (a b : Nat → Nat) (u : Nat) : ∀ (z1 : Int32) (z2 : Int32), KI yL_order cL_order 5 [(0, 10, 13, 21)] yX6_order cX6_order 3 II κ a b u [.int z1, .int z2] := by
  intro z1 z2
  intro S T hI
  obtain ⟨n, dug, dtd, so, ph, uf, ul, r, ki, lt, er, mz, bd, bo, me, dE, eE, lE, li, fB, fA, sL, f, fu, fs, ff, fl, xs, ys, zs, oL, oU, lo, up⟩ := S
  obtain ⟨th, un, ss, fi, la, da, dg, ps, rn, ks, os, ts, fn, fp, b2, e2, l2, k2, be, ab⟩ := T
  have hI : IV n dug dtd so ph uf ul r ki lt er mz bd bo me eE lE li fB fA f fu fs ff fl xs ys zs lo up un ss fi la da dg ps rn ks os ts fn fp b2 e2 l2 k2 be ab := hI
  have hI0 := hI
  obtain ⟨⟨⟨hn, hr, hf, hm⟩, hbo, hlt, her, hfu, hb2, hos, hts, hv, hfn, hre⟩, ⟨q1, q2, q3, q4, q5, q6, q7, q8, q9⟩, hF, hG, hD1, hD2, hJ⟩ := hI
  subst hm q1 q2 q3 q4 q5 q6 q7 q8 q9
  obtain ⟨hA, hB, hB2⟩ := AG_of hv hD1 hD2
  by_cases cx : okU n z1
  · obtain ⟨x, hx, rfl⟩ := cx
    by_cases cy : okU n z2
    · obtain ⟨y, hy, rfl⟩ := cy
      exact ⟨(n, dug, dtd, so, ph, uf, ul, r, ki, lt, er, n, bd, bo, me, dE, eE, lE, li, fB, fA, sL, f, fu, fs, ff, fl, xs, ys, zs, oL, oU, lo, up), ((nI 0), n, so, uf, ul, dtd, dug, ph, r, ks, os, ts, f, fp, b2, e2, l2, k2, be, ab), 0, _, hI0, by decide, wc_ok (fun X F => c_L_order κ a hn hbo hx hy) ⟨by decide, by decide, by decide, by decide⟩, rc_eq (congrArg Value.int (od_eq hB hA hx hy)) (fun X => c_X6_order κ b hn hb2 hx hy) ⟨by decide, by decide, by decide, by decide⟩, rfl⟩
    · exact ⟨(n, dug, dtd, so, ph, uf, ul, r, ki, lt, er, n, bd, bo, me, dE, eE, lE, li, fB, fA, sL, f, fu, fs, ff, fl, xs, ys, zs, oL, oU, lo, up), (nI 1, n, so, uf, ul, dtd, dug, ph, r, ks, os, ts, f, fp, b2, e2, l2, k2, be, ab), 1, nI 0, hI0, by decide, wc_no (fun X F => c_L_order_b2 κ a hn hx cy) ⟨by decide, by decide, by decide, by decide⟩ (by decide), rc_of (fun X => c_X6_order_b1 κ b hn (fun h => cy h.2)) ⟨by decide, by decide, by decide, by decide⟩, rfl⟩
  · exact ⟨(n, dug, dtd, so, ph, uf, ul, r, ki, lt, er, n, bd, bo, me, dE, eE, lE, li, fB, fA, sL, f, fu, fs, ff, fl, xs, ys, zs, oL, oU, lo, up), (nI 1, n, so, uf, ul, dtd, dug, ph, r, ks, os, ts, f, fp, b2, e2, l2, k2, be, ab), 1, nI 0, hI0, by decide, wc_no (fun X F => c_L_order_b1 κ a hn cx) ⟨by decide, by decide, by decide, by decide⟩ (by decide), rc_of (fun X => c_X6_order_b1 κ b hn (fun h => cx h.1)) ⟨by decide, by decide, by decide, by decide⟩, rfl⟩
set_option maxHeartbeats 2000000 in
set_option maxRecDepth 100000 in
theorem k_isLinked (κ : aK) (a b : Nat → Nat) (u : Nat) : ∀ (z1 : Int32) (z2 : Int32), KB yL_isLinked cL_isLinked 5 [(0, 17, 20, 21)] yX6_isLinked cX6_isLinked 3 II κ a b u [.int z1, .int z2] := by
  intro z1 z2
  intro S T hI
  obtain ⟨n, dug, dtd, so, ph, uf, ul, r, ki, lt, er, mz, bd, bo, me, dE, eE, lE, li, fB, fA, sL, f, fu, fs, ff, fl, xs, ys, zs, oL, oU, lo, up⟩ := S
  obtain ⟨th, un, ss, fi, la, da, dg, ps, rn, ks, os, ts, fn, fp, b2, e2, l2, k2, be, ab⟩ := T
  have hI : IV n dug dtd so ph uf ul r ki lt er mz bd bo me eE lE li fB fA f fu fs ff fl xs ys zs lo up un ss fi la da dg ps rn ks os ts fn fp b2 e2 l2 k2 be ab := hI
  have hI0 := hI
  obtain ⟨⟨⟨hn, hr, hf, hm⟩, hbo, hlt, her, hfu, hb2, hos, hts, hv, hfn, hre⟩, ⟨q1, q2, q3, q4, q5, q6, q7, q8, q9⟩, hF, hG, hD1, hD2, hJ⟩ := hI
  subst hm q1 q2 q3 q4 q5 q6 q7 q8 q9
  obtain ⟨hA, hB, hB2⟩ := AG_of hv hD1 hD2
  by_cases cx : okU n z1
  · obtain ⟨x, hx, rfl⟩ := cx
    by_cases cy : okU n z2
    · obtain ⟨y, hy, rfl⟩ := cy
      have e9 : li (bo x) (bo y) = k2 (b2 x) (b2 y) := by rw [← hA.1 x hx, ← hA.1 y hy, hA.2.2.2.1 _ (hB x hx).1]
      exact ⟨(n, dug, dtd, so, ph, uf, ul, r, ki, lt, er, n, bd, bo, me, dE, eE, lE, li, fB, fA, sL, f, fu, fs, ff, fl, xs, ys, zs, oL, oU, lo, up), ((nI 0), n, so, uf, ul, dtd, dug, ph, r, ks, os, ts, f, fp, b2, e2, l2, k2, be, ab), 0, (li (bo x) (bo y)), hI0, by decide, wc_ok (fun X F => c_L_isLinked κ a hn hbo hx hy) ⟨by decide, by decide, by decide, by decide⟩, rc_eq (congrArg Value.int (congrArg b2i e9)) (fun X => c_X6_isLinked κ b hn hb2 hx hy) ⟨by decide, by decide, by decide, by decide⟩, rfl⟩
    · exact ⟨(n, dug, dtd, so, ph, uf, ul, r, ki, lt, er, n, bd, bo, me, dE, eE, lE, li, fB, fA, sL, f, fu, fs, ff, fl, xs, ys, zs, oL, oU, lo, up), (nI 1, n, so, uf, ul, dtd, dug, ph, r, ks, os, ts, f, fp, b2, e2, l2, k2, be, ab), 1, false, hI0, by decide, wc_no (fun X F => c_L_isLinked_b2 κ a hn hx cy) ⟨by decide, by decide, by decide, by decide⟩ (by decide), rc_of (fun X => c_X6_isLinked_b1 κ b hn (fun h => cy h.2)) ⟨by decide, by decide, by decide, by decide⟩, rfl⟩
  · exact ⟨(n, dug, dtd, so, ph, uf, ul, r, ki, lt, er, n, bd, bo, me, dE, eE, lE, li, fB, fA, sL, f, fu, fs, ff, fl, xs, ys, zs, oL, oU, lo, up), (nI 1, n, so, uf, ul, dtd, dug, ph, r, ks, os, ts, f, fp, b2, e2, l2, k2, be, ab), 1, false, hI0, by decide, wc_no (fun X F => c_L_isLinked_b1 κ a hn cx) ⟨by decide, by decide, by decide, by decide⟩ (by decide), rc_of (fun X => c_X6_isLinked_b1 κ b hn (fun h => cx h.1)) ⟨by decide, by decide, by decide, by decide⟩, rfl⟩
set_option maxHeartbeats 2000000 in
set_option maxRecDepth 100000 in
theorem k_between (κ : aK) (a b : Nat → Nat) (u : Nat) : ∀ (z1 : Int32) (z2 : Int32), KI yL_between cL_between 5 [(0, 10, 13, 21)] yX6_between cX6_between 3 II κ a b u [.int z1, .int z2] := by
  intro z1 z2
  intro S T hI
  obtain ⟨n, dug, dtd, so, ph, uf, ul, r, ki, lt, er, mz, bd, bo, me, dE, eE, lE, li, fB, fA, sL, f, fu, fs, ff, fl, xs, ys, zs, oL, oU, lo, up⟩ := S
  obtain ⟨th, un, ss, fi, la, da, dg, ps, rn, ks, os, ts, fn, fp, b2, e2, l2, k2, be, ab⟩ := T
  have hI : IV n dug dtd so ph uf ul r ki lt er mz bd bo me eE lE li fB fA f fu fs ff fl xs ys zs lo up un ss fi la da dg ps rn ks os ts fn fp b2 e2 l2 k2 be ab := hI
  have hI0 := hI
  obtain ⟨⟨⟨hn, hr, hf, hm⟩, hbo, hlt, her, hfu, hb2, hos, hts, hv, hfn, hre⟩, ⟨q1, q2, q3, q4, q5, q6, q7, q8, q9⟩, hF, hG, hD1, hD2, hJ⟩ := hI
  subst hm q1 q2 q3 q4 q5 q6 q7 q8 q9
  obtain ⟨hA, hB, hB2⟩ := AG_of hv hD1 hD2
  by_cases cx : okU n z1
  · obtain ⟨x, hx, rfl⟩ := cx
    by_cases cy : okU n z2
    · obtain ⟨y, hy, rfl⟩ := cy
      have e9 : bcI (bs (fun i => eE (bo x) i && lE (bo y) i)) = bcI (bs (fun i => e2 (b2 x) i && l2 (b2 y) i)) := by rw [← hA.1 x hx, ← hA.1 y hy, hA.2.1 _ (hB x hx).1, hA.2.2.1 _ (hB y hy).1]
      exact ⟨(n, dug, dtd, so, ph, uf, ul, r, ki, lt, er, n, bd, bo, me, dE, eE, lE, li, fB, fA, sL, f, fu, fs, ff, fl, xs, ys, zs, oL, oU, lo, up), ((nI 0), n, so, uf, ul, dtd, dug, ph, r, ks, os, ts, f, fp, b2, e2, l2, k2, be, ab), 0, _, hI0, by decide, wc_ok (fun X F => c_L_between κ a hn hbo hx hy) ⟨by decide, by decide, by decide, by decide⟩, rc_eq (congrArg Value.int (e9)) (fun X => c_X6_between κ b hn hb2 hx hy) ⟨by decide, by decide, by decide, by decide⟩, rfl⟩
    · exact ⟨(n, dug, dtd, so, ph, uf, ul, r, ki, lt, er, n, bd, bo, me, dE, eE, lE, li, fB, fA, sL, f, fu, fs, ff, fl, xs, ys, zs, oL, oU, lo, up), (nI 1, n, so, uf, ul, dtd, dug, ph, r, ks, os, ts, f, fp, b2, e2, l2, k2, be, ab), 1, nI 0, hI0, by decide, wc_no (fun X F => c_L_between_b2 κ a hn hx cy) ⟨by decide, by decide, by decide, by decide⟩ (by decide), rc_of (fun X => c_X6_between_b1 κ b hn (fun h => cy h.2)) ⟨by decide, by decide, by decide, by decide⟩, rfl⟩
  · exact ⟨(n, dug, dtd, so, ph, uf, ul, r, ki, lt, er, n, bd, bo, me, dE, eE, lE, li, fB, fA, sL, f, fu, fs, ff, fl, xs, ys, zs, oL, oU, lo, up), (nI 1, n, so, uf, ul, dtd, dug, ph, r, ks, os, ts, f, fp, b2, e2, l2, k2, be, ab), 1, nI 0, hI0, by decide, wc_no (fun X F => c_L_between_b1 κ a hn cx) ⟨by decide, by decide, by decide, by decide⟩ (by decide), rc_of (fun X => c_X6_between_b1 κ b hn (fun h => cx h.1)) ⟨by decide, by decide, by decide, by decide⟩, rfl⟩
set_option maxHeartbeats 2000000 in
set_option maxRecDepth 100000 in
theorem k_row (κ : aK) (a b : Nat → Nat) (u : Nat) : ∀ (z1 : Int32) (z2 : Bool) (z3 : Int32), KI yL_row cL_row 6 [(0, 12, 15, 21)] yX6_row cX6_row 6 II κ a b u [.int z1, .int (b2i z2), .int z3] := by
  intro z1 z2 z3
  intro S T hI
  obtain ⟨n, dug, dtd, so, ph, uf, ul, r, ki, lt, er, mz, bd, bo, me, dE, eE, lE, li, fB, fA, sL, f, fu, fs, ff, fl, xs, ys, zs, oL, oU, lo, up⟩ := S
  obtain ⟨th, un, ss, fi, la, da, dg, ps, rn, ks, os, ts, fn, fp, b2, e2, l2, k2, be, ab⟩ := T
  have hI : IV n dug dtd so ph uf ul r ki lt er mz bd bo me eE lE li fB fA f fu fs ff fl xs ys zs lo up un ss fi la da dg ps rn ks os ts fn fp b2 e2 l2 k2 be ab := hI
  have hI0 := hI
  obtain ⟨⟨⟨hn, hr, hf, hm⟩, hbo, hlt, her, hfu, hb2, hos, hts, hv, hfn, hre⟩, ⟨q1, q2, q3, q4, q5, q6, q7, q8, q9⟩, hF, hG, hD1, hD2, hJ⟩ := hI
  subst hm q1 q2 q3 q4 q5 q6 q7 q8 q9
  obtain ⟨hA, hB, hB2⟩ := AG_of hv hD1 hD2
  by_cases cx : okU 40 z1
  · obtain ⟨x, hx, rfl⟩ := cx
    by_cases cy : okU 40 z3
    · obtain ⟨y, hy, rfl⟩ := cy
      exact ⟨(n, dug, dtd, so, ph, uf, ul, r, ki, lt, er, n, bd, bo, me, dE, eE, lE, li, fB, fA, sL, f, fu, fs, ff, fl, xs, ys, zs, oL, oU, lo, up), ((nI 0), n, so, uf, ul, dtd, dug, ph, r, ks, os, ts, f, fp, b2, e2, l2, k2, be, ab), 0, _, hI0, by decide, wc_ok (fun X F => c_L_row κ a hn hx hy) ⟨by decide, by decide, by decide, by decide⟩, rc_eq (congrArg Value.int (congrArg oI (el_eq hn (fun i hi => row_eq hA hG hi)))) (fun X => c_X6_row κ b hn hb2 hx hy) ⟨by decide, by decide, by decide, by decide⟩, rfl⟩
    · exact ⟨(n, dug, dtd, so, ph, uf, ul, r, ki, lt, er, n, bd, bo, me, dE, eE, lE, li, fB, fA, sL, f, fu, fs, ff, fl, xs, ys, zs, oL, oU, lo, up), (nI 1, n, so, uf, ul, dtd, dug, ph, r, ks, os, ts, f, fp, b2, e2, l2, k2, be, ab), 1, nI 0, hI0, by decide, wc_no (fun X F => c_L_row_b2 κ a hx cy) ⟨by decide, by decide, by decide, by decide⟩ (by decide), rc_of (fun X => c_X6_row_b1 κ b (fun h => cy h.2)) ⟨by decide, by decide, by decide, by decide⟩, rfl⟩
  · exact ⟨(n, dug, dtd, so, ph, uf, ul, r, ki, lt, er, n, bd, bo, me, dE, eE, lE, li, fB, fA, sL, f, fu, fs, ff, fl, xs, ys, zs, oL, oU, lo, up), (nI 1, n, so, uf, ul, dtd, dug, ph, r, ks, os, ts, f, fp, b2, e2, l2, k2, be, ab), 1, nI 0, hI0, by decide, wc_no (fun X F => c_L_row_b1 κ a cx) ⟨by decide, by decide, by decide, by decide⟩ (by decide), rc_of (fun X => c_X6_row_b1 κ b (fun h => cx h.1)) ⟨by decide, by decide, by decide, by decide⟩, rfl⟩
set_option maxHeartbeats 2000000 in
set_option maxRecDepth 100000 in
theorem k_way (κ : aK) (a b : Nat → Nat) (u : Nat) : ∀ (z1 : Int32) (z2 : Int32) (z3 : Int32), KI yL_way cL_way 6 [(0, 12, 15, 21), (0, 12, 19, 13)] yX6_way cX6_way 8 II κ a b u [.int z1, .int z2, .int z3] := by
  intro z1 z2 z3
  intro S T hI
  obtain ⟨n, dug, dtd, so, ph, uf, ul, r, ki, lt, er, mz, bd, bo, me, dE, eE, lE, li, fB, fA, sL, f, fu, fs, ff, fl, xs, ys, zs, oL, oU, lo, up⟩ := S
  obtain ⟨th, un, ss, fi, la, da, dg, ps, rn, ks, os, ts, fn, fp, b2, e2, l2, k2, be, ab⟩ := T
  have hI : IV n dug dtd so ph uf ul r ki lt er mz bd bo me eE lE li fB fA f fu fs ff fl xs ys zs lo up un ss fi la da dg ps rn ks os ts fn fp b2 e2 l2 k2 be ab := hI
  have hI0 := hI
  obtain ⟨⟨⟨hn, hr, hf, hm⟩, hbo, hlt, her, hfu, hb2, hos, hts, hv, hfn, hre⟩, ⟨q1, q2, q3, q4, q5, q6, q7, q8, q9⟩, hF, hG, hD1, hD2, hJ⟩ := hI
  subst hm q1 q2 q3 q4 q5 q6 q7 q8 q9
  obtain ⟨hA, hB, hB2⟩ := AG_of hv hD1 hD2
  by_cases cx : okU n z1
  · obtain ⟨x, hx, rfl⟩ := cx
    by_cases cy : okU n z2
    · obtain ⟨y, hy, rfl⟩ := cy
      by_cases cz : okU 40 z3
      · obtain ⟨z, hz, rfl⟩ := cz
        have hw := way_eq (sL := sL) hn (TI_CL hD1.2.1 hD1.2.2.1) (fun u i hu h => (CL_bo hD1.1 hv hD1.2.1 hu h).2.1) hD1.2.2.2.1 hA.2.2.2.1 (fun u i hu => by rw [← hA.2.2.2.1 u hu]; exact hD1.2.2.2.2.1 u i hu) (hB x hx).1 (hB y hy).1 hz
        have e1 := hA.1 x hx
        have e3 := hA.1 y hy
        have hw1 : oI (wyR n li eE lE sL (bo x) (bo y) z) = rwR k2 (frT k2 n (b2 y)) (b2 x) z := by rw [← e1, ← e3]; exact hw.1
        have hw2 : ¬ (frT k2 n (b2 y) (b2 x) = (-1 : Int32) ∨ frT k2 n (b2 y) (b2 x) < nI z) → ∀ k, k < z → ∃ v, fst1 (rwN k2 (frT k2 n (b2 y)) (rwS k2 (frT k2 n (b2 y)) (b2 x) k)) 40 = some v := by rw [← e1, ← e3]; exact hw.2
        exact ⟨(n, dug, dtd, so, ph, uf, ul, r, ki, lt, er, n, bd, bo, me, dE, eE, lE, li, fB, fA, (wyL n eE lE sL (bo x) (bo y)), f, fu, fs, ff, fl, xs, ys, zs, oL, oU, lo, up), ((nI 0), n, so, uf, ul, dtd, dug, ph, r, ks, os, ts, f, fp, b2, e2, l2, k2, be, ab), 0, _, hI0, by decide, wc_ok (fun X F => c_L_way κ a hn hn hbo hx hy hz) ⟨by decide, by decide, by decide, by decide⟩, rc_eq (congrArg Value.int (hw1)) (fun X => c_X6_way κ b hn hb2 hx hy hz hw2) ⟨by decide, by decide, by decide, by decide⟩, rfl⟩
      · exact ⟨(n, dug, dtd, so, ph, uf, ul, r, ki, lt, er, n, bd, bo, me, dE, eE, lE, li, fB, fA, sL, f, fu, fs, ff, fl, xs, ys, zs, oL, oU, lo, up), (nI 2, n, so, uf, ul, dtd, dug, ph, r, ks, os, ts, f, fp, b2, e2, l2, k2, be, ab), 2, nI 0, hI0, by decide, wc_no (fun X F => c_L_way_b3 κ a hn hx hy cz) ⟨by decide, by decide, by decide, by decide⟩ (by decide), rc_of (fun X => c_X6_way_b2 κ b hn hx hy cz) ⟨by decide, by decide, by decide, by decide⟩, rfl⟩
    · exact ⟨(n, dug, dtd, so, ph, uf, ul, r, ki, lt, er, n, bd, bo, me, dE, eE, lE, li, fB, fA, sL, f, fu, fs, ff, fl, xs, ys, zs, oL, oU, lo, up), (nI 1, n, so, uf, ul, dtd, dug, ph, r, ks, os, ts, f, fp, b2, e2, l2, k2, be, ab), 1, nI 0, hI0, by decide, wc_no (fun X F => c_L_way_b2 κ a hn hx cy) ⟨by decide, by decide, by decide, by decide⟩ (by decide), rc_of (fun X => c_X6_way_b1 κ b hn (fun h => cy h.2)) ⟨by decide, by decide, by decide, by decide⟩, rfl⟩
  · exact ⟨(n, dug, dtd, so, ph, uf, ul, r, ki, lt, er, n, bd, bo, me, dE, eE, lE, li, fB, fA, sL, f, fu, fs, ff, fl, xs, ys, zs, oL, oU, lo, up), (nI 1, n, so, uf, ul, dtd, dug, ph, r, ks, os, ts, f, fp, b2, e2, l2, k2, be, ab), 1, nI 0, hI0, by decide, wc_no (fun X F => c_L_way_b1 κ a hn cx) ⟨by decide, by decide, by decide, by decide⟩ (by decide), rc_of (fun X => c_X6_way_b1 κ b hn (fun h => cx h.1)) ⟨by decide, by decide, by decide, by decide⟩, rfl⟩
