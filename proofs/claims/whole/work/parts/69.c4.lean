/-! THE CASES, fourth -/
set_option maxHeartbeats 2000000 in
set_option maxRecDepth 100000 in
theorem k_phaseAll (κ : aK) (a b : Nat → Nat) : KV yX5_phaseAll cX5_phaseAll 4 yX6_phaseAll cX6_phaseAll 4 (some .int) II κ a b [] (fun v => ∃ r : Int32, v = .int r) := by
  intro S T hI
  obtain ⟨n, dug, dtd, so, ph, uf, ul, r, ki, lt, er, mz, bd, bo, me, dE, eE, lE, li, fB, fA, sL, f, fu, fs, ff, fl, xs, ys, zs, oL, oU, lo, up⟩ := S
  obtain ⟨th, un, ss, fi, la, da, dg, ps, rn, ks, os, ts, fn, fp, b2, e2, l2, k2, be, ab⟩ := T
  have hI : IV n dug dtd so ph uf ul r ki lt er mz bd bo me eE lE li fB fA f fu fs ff fl xs ys zs lo up un ss fi la da dg ps rn ks os ts fn fp b2 e2 l2 k2 be ab := hI
  have hI0 := hI
  obtain ⟨⟨⟨hn, hr, hf, hm⟩, hbo, hlt, her, hfu, hb2, hos, hts, hv, hfn, hre⟩, ⟨q1, q2, q3, q4, q5, q6, q7, q8, q9⟩, hF, hG, hD1, hD2, hJ⟩ := hI
  subst hm q1 q2 q3 q4 q5 q6 q7 q8 q9
  obtain ⟨hA, hB, hB2⟩ := AG_of hv hD1 hD2
  have hp : ∀ v, v < n → phG bo fB v = phG b2 be v := fun v hv => by
    unfold phG
    rw [← hA.1 v hv, hA.2.2.2.2.1 _ (hB v hv).1 (hB v hv).2]
  have e9 : nI (cnt (fun v => !(decide (ph v = phG bo fB v))) n) = nI (cnt (fun v => !(decide (ph v = phG b2 be v))) n) := congrArg nI (cnt_cong (fun v hv => by rw [hp v hv]))
  have e8 : pre (phG bo fB) ph n = pre (phG b2 be) ph n := by
    funext v
    by_cases c : v < n
    · rw [pre_in c, pre_in c, hp v c]
    · rw [pre_out (by omega), pre_out (by omega)]
  exact ⟨(n, dug, dtd, so, pre (phG bo fB) ph n, uf, ul, r, ki, lt, er, n, bd, bo, me, dE, eE, lE, li, fB, fA, sL, f, fu, fs, ff, fl, xs, ys, zs, oL, oU, lo, up), (nI 0, n, so, uf, ul, dtd, dug, pre (phG b2 be) ph n, r, ks, os, ts, f, fp, b2, e2, l2, k2, be, ab), _, ⟨hI0.1, ⟨rfl, rfl, rfl, rfl, rfl, rfl, e8, rfl, rfl⟩, hF, hG, hD1, hD2, hJ⟩, ⟨_, rfl⟩, cc_of (fun X => c_X5_phaseAll κ a hn hbo) ⟨by decide, by decide, by decide, by decide⟩, rc_eq (congrArg Value.int e9) (fun X => c_X6_phaseAll κ b hn hb2) ⟨by decide, by decide, by decide, by decide⟩⟩
set_option maxHeartbeats 2000000 in
set_option maxRecDepth 100000 in
theorem k_outOfPhase (κ : aK) (a b : Nat → Nat) : ∀ (z1 : Bool), KV yX5_outOfPhase cX5_outOfPhase 4 yX6_outOfPhase cX6_outOfPhase 4 (some .int) II κ a b [.int (b2i z1)] (fun v => ∃ r : Int32, v = .int r) := by
  intro z1
  intro S T hI
  obtain ⟨n, dug, dtd, so, ph, uf, ul, r, ki, lt, er, mz, bd, bo, me, dE, eE, lE, li, fB, fA, sL, f, fu, fs, ff, fl, xs, ys, zs, oL, oU, lo, up⟩ := S
  obtain ⟨th, un, ss, fi, la, da, dg, ps, rn, ks, os, ts, fn, fp, b2, e2, l2, k2, be, ab⟩ := T
  have hI : IV n dug dtd so ph uf ul r ki lt er mz bd bo me eE lE li fB fA f fu fs ff fl xs ys zs lo up un ss fi la da dg ps rn ks os ts fn fp b2 e2 l2 k2 be ab := hI
  have hI0 := hI
  obtain ⟨⟨⟨hn, hr, hf, hm⟩, hbo, hlt, her, hfu, hb2, hos, hts, hv, hfn, hre⟩, ⟨q1, q2, q3, q4, q5, q6, q7, q8, q9⟩, hF, hG, hD1, hD2, hJ⟩ := hI
  subst hm q1 q2 q3 q4 q5 q6 q7 q8 q9
  obtain ⟨hA, hB, hB2⟩ := AG_of hv hD1 hD2
  have e9 : oI (opR (poB bo eE ph) n z1) = oI (opR (poB b2 e2 ph) n z1) := congrArg oI (opR_cong (fun i k hi hk => po_eq hB hA hi hk))
  exact ⟨(n, dug, dtd, so, ph, uf, ul, r, ki, lt, er, n, bd, bo, me, dE, eE, lE, li, fB, fA, sL, f, fu, fs, ff, fl, xs, ys, zs, oL, oU, lo, up), (nI 0, n, so, uf, ul, dtd, dug, ph, r, ks, os, ts, f, fp, b2, e2, l2, k2, be, ab), _, hI0, ⟨_, rfl⟩, cc_of (fun X => c_X5_outOfPhase κ a hn hbo) ⟨by decide, by decide, by decide, by decide⟩, rc_eq (congrArg Value.int e9) (fun X => c_X6_outOfPhase κ b hn hb2) ⟨by decide, by decide, by decide, by decide⟩⟩
set_option maxHeartbeats 2000000 in
set_option maxRecDepth 100000 in
theorem k_digest (κ : aK) (a b : Nat → Nat) : KV yX5_digest cX5_digest 5 yX6_digest cX6_digest 5 (some .long) II κ a b [] (fun v => ∃ r : Int64, v = .long r) := by
  intro S T hI
  obtain ⟨n, dug, dtd, so, ph, uf, ul, r, ki, lt, er, mz, bd, bo, me, dE, eE, lE, li, fB, fA, sL, f, fu, fs, ff, fl, xs, ys, zs, oL, oU, lo, up⟩ := S
  obtain ⟨th, un, ss, fi, la, da, dg, ps, rn, ks, os, ts, fn, fp, b2, e2, l2, k2, be, ab⟩ := T
  have hI : IV n dug dtd so ph uf ul r ki lt er mz bd bo me eE lE li fB fA f fu fs ff fl xs ys zs lo up un ss fi la da dg ps rn ks os ts fn fp b2 e2 l2 k2 be ab := hI
  have hI0 := hI
  obtain ⟨⟨⟨hn, hr, hf, hm⟩, hbo, hlt, her, hfu, hb2, hos, hts, hv, hfn, hre⟩, ⟨q1, q2, q3, q4, q5, q6, q7, q8, q9⟩, hF, hG, hD1, hD2, hJ⟩ := hI
  subst hm q1 q2 q3 q4 q5 q6 q7 q8 q9
  obtain ⟨hA, hB, hB2⟩ := AG_of hv hD1 hD2
  have e9 : dgN (ftR fu fs ff fl xs ys zs bo lo up) 8 (dgN (rtR ki lt er) 3 (dgU (utR so ph fB fA bo fu me eE lE dug f) (fun v => lo (bo v)) (fun v => up (bo v)) (dgS (ctR n r n f bd dug li fB lo up bo eE ph) 431 9) n) r) f = dgN (fR b2 e2 l2 dtd uf ul n fu fp f) 8 (dgN (rtR ks os ts) 3 (dgU (uR so be ab b2 e2 l2 dug ph n fu f) (yLo b2 e2 dtd uf n fu fp f) (yUp b2 l2 dtd ul n) (dgS (cR n r f dug k2 be b2 e2 l2 dtd uf ul fu fp ph) 431 9) n) r) f := by
    rw [dgS_cong 9 (fun q hq => ct_eq (q := q) (r := r) (f := f) (ph := ph) rfl hn hB hA hF hG hfn hJ hq), dgU_cong n (fun k q hk hq => ut_eq hn hB hA hG hk hq) (fun k hk => lo_eq hB hA hF hfn hJ hk) (fun k hk => up_eq hB hA hJ hk), dgN_cong r (fun k q hk hq => rt_eq hre hk hq), dgN_cong f (fun k q hk hq => ft_eq hB hA hF hfn hJ hk hq)]
  exact ⟨(n, dug, dtd, so, ph, uf, ul, r, ki, lt, er, n, bd, bo, me, dE, eE, lE, li, fB, fA, sL, f, fu, fs, ff, fl, xs, ys, zs, oL, oU, lo, up), (nI 0, n, so, uf, ul, dtd, dug, ph, r, ks, os, ts, f, fp, b2, e2, l2, k2, be, ab), _, hI0, ⟨_, rfl⟩, cc_of (fun X => c_X5_digest κ a hn hn hr hf hbo hfu) ⟨by decide, by decide, by decide, by decide⟩, rc_eq (congrArg Value.long e9) (fun X => c_X6_digest κ b hn hr hf hb2 hF.1 hfu) ⟨by decide, by decide, by decide, by decide⟩⟩
set_option maxHeartbeats 2000000 in
set_option maxRecDepth 100000 in
theorem k_meanHeight (κ : aK) (a b : Nat → Nat) : KD yX5_meanHeight cX5_meanHeight 3 yX6_meanHeight cX6_meanHeight 3 II κ a b := by
  intro S T hI
  obtain ⟨n, dug, dtd, so, ph, uf, ul, r, ki, lt, er, mz, bd, bo, me, dE, eE, lE, li, fB, fA, sL, f, fu, fs, ff, fl, xs, ys, zs, oL, oU, lo, up⟩ := S
  obtain ⟨th, un, ss, fi, la, da, dg, ps, rn, ks, os, ts, fn, fp, b2, e2, l2, k2, be, ab⟩ := T
  have hI : IV n dug dtd so ph uf ul r ki lt er mz bd bo me eE lE li fB fA f fu fs ff fl xs ys zs lo up un ss fi la da dg ps rn ks os ts fn fp b2 e2 l2 k2 be ab := hI
  have hI0 := hI
  obtain ⟨⟨⟨hn, hr, hf, hm⟩, hbo, hlt, her, hfu, hb2, hos, hts, hv, hfn, hre⟩, ⟨q1, q2, q3, q4, q5, q6, q7, q8, q9⟩, hF, hG, hD1, hD2, hJ⟩ := hI
  subst hm q1 q2 q3 q4 q5 q6 q7 q8 q9
  obtain ⟨hA, hB, hB2⟩ := AG_of hv hD1 hD2
  have e9 : (fun v => fp (7 * v + 6)) = zs := funext hF.2.2.2.2.2.2.1
  refine ⟨(nI 0, n, so, uf, ul, dtd, dug, ph, r, ks, os, ts, f, fp, b2, e2, l2, k2, be, ab), f, smS zs f, hI0, fun X => c_X5_meanHeight κ a hf, fun X => ?_⟩
  have h := c_X6_meanHeight κ b (th := th) (un := n) (ss := so) (fi := uf) (la := ul) (da := dtd) (dg := dug) (ps := ph) (rn := r) (ks := ks) (os := os) (ts := ts) (fn := f) (fp := fp) (bo := b2) (eE := e2) (lE := l2) (li := k2) (be := be) (ab := ab) (X := X) hf
  rw [e9] at h
  exact h
theorem II_0 : II S0 T0 := by
  have n0 : ∀ {P : Prop} {u : Nat}, u < 0 → P := fun h => absurd h (Nat.not_lt_zero _)
  have hD : DER 0 0 (fun _ => nI 0) (fun _ => 0) (fun _ => 0) (fun _ => 0) (fun _ _ => false) (fun _ _ => false) (fun _ _ => false) (fun _ => nI 0) (fun _ => nI 0) := ⟨⟨fun k hk => n0 hk, fun K _ u hu => n0 hu, fun u hu => n0 hu⟩, ⟨fun u i ⟨k, hk, _⟩ => n0 hk, fun u v i hu => n0 hu, fun R _ _ u i hu => n0 hu⟩, fun u hu => n0 hu, fun u i hu => n0 hu, fun u i hu => n0 hu, fun u hu => n0 hu, fun u hu => n0 hu⟩
  have h40 : ∀ u : Nat, (fun _ : Nat => 0) u < 40 := fun _ => Nat.zero_lt_succ 39
  have hG : VG 0 (fun _ => false) (fun _ => false) (fun _ => 0) (fun _ _ => false) := ⟨fun i => by rw [decide_eq_false (Nat.not_lt_zero i), Bool.false_and], fun u hu => n0 hu, fun _ _ => rfl⟩
  exact ⟨⟨⟨by decide, by decide, by decide, rfl⟩, h40, h40, h40, h40, h40, h40, h40, fun k hk => n0 hk, fun j hj => n0 hj, fun k hk => n0 hk⟩, ⟨rfl, rfl, rfl, rfl, rfl, rfl, rfl, rfl, rfl⟩, ⟨fun _ => rfl, fun _ => rfl, fun _ => rfl, fun _ => rfl, fun _ => rfl, fun _ => rfl, fun _ => rfl, fun _ _ => ⟨rfl, rfl, rfl⟩⟩, hG, hD, hD, ⟨fun v hv => n0 hv, fun v hv => n0 hv⟩⟩
theorem KA_all (κ : aK) (a b : Nat → Nat) (u : Nat) : KA II κ a b u := ⟨k_addUnit κ a b u, k_relate κ a b u, k_takeBack κ a b u, k_relation κ a b u, k_count κ a b u, k_unit κ a b u, k_order κ a b u, k_isLinked κ a b u, k_row κ a b u, k_way κ a b u, k_between κ a b u, k_addFind κ a b u, k_place κ a b u, k_move κ a b u, k_find κ a b u, k_date κ a b u, k_bound κ a b u, k_doubt κ a b u, k_nearest κ a b u, k_dig κ a b u, k_next κ a b u, k_setPhase κ a b u, k_phaseAll κ a b, k_outOfPhase κ a b, k_digest κ a b, k_meanHeight κ a b⟩
