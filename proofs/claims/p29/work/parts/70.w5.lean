/-! WHAT THE READS TELL, of a state that keeps the invariant -/
section READS
variable {S : SC} {u v x y : Nat}
theorem jN (hS : JS S) : sN S ≤ 40 ∧ sR S ≤ 80 ∧ sF S ≤ 60 := ⟨hS.1.1.1, hS.1.1.2.1, hS.1.1.2.2.1⟩
theorem jBo (hS : JS S) (hu : u < sN S) : sBo S u < sN S ∧ sBo S (sBo S u) = sBo S u ∧ sBo S u ≤ u := ⟨BO_lt hS.2.2.1.1 hu, BO_id hS.2.2.1.1 hu, hS.2.2.1.1.2.2 u hu⟩
theorem jT (hS : JS S) : TI (sN S) (sEe S) := TI_CL hS.2.2.1.2.1 hS.2.2.1.2.2.1
theorem jE (hS : JS S) (hu : u < sN S) (h : sEe S u v = true) : sBo S u = u ∧ v < sN S ∧ sBo S v = v := CL_bo hS.2.2.1.1 hS.1.2.2.2.2.2.1 hS.2.2.1.2.1 hu h
theorem jLe (hS : JS S) : ∀ u i, u < sN S → (sLe S u i = true ↔ i < sN S ∧ sEe S i u = true) := hS.2.2.1.2.2.2.1
theorem jLi (hS : JS S) : ∀ u i, u < sN S → (sLk S u i = true ↔ sEe S u i = true ∧ ∀ k, k < sN S → sEe S u k = true → sEe S k i = false) := hS.2.2.1.2.2.2.2.1
theorem jTL (hS : JS S) : TI (sN S) (sLe S) := TI_la (jT hS) (jLe hS)
theorem v_unit1 : utS S u 1 = nI (sBo S u) := rfl
theorem v_unit2 (hS : JS S) (hu : u < sN S) (hb : sBo S u = u) : utS S u 2 = nI (szF (sBo S) (sN S) u) := by
  have hm : ∀ i, _ = (decide (i < sN S) && decide (sBo S i = sBo S u)) := hS.2.1.2.1 _ (jBo hS hu).1 (jBo hS hu).2.1
  unfold szF
  rw [if_pos hb]
  show bcI (bs (_ : Nat → Bool)) = _
  refine (bcI_n (jN hS).1 (fun i hi => by rw [hm i, decide_eq_false (by omega), Bool.false_and])).trans (congrArg nI (cnt_cong (fun i hi => ?_)))
  rw [hm i, decide_eq_true hi, Bool.true_and, hb]
theorem v_unit3 (hS : JS S) (hu : u < sN S) : utS S u 3 = nI (lev (sN S) (sEe S) (sBo S u)) := hS.2.2.1.2.2.2.2.2.1 _ (jBo hS hu).1 (jBo hS hu).2.1
theorem v_unit4 (hS : JS S) (hu : u < sN S) : utS S u 4 = nI (lev (sN S) (sLe S) (sBo S u)) := hS.2.2.1.2.2.2.2.2.2 _ (jBo hS hu).1 (jBo hS hu).2.1
theorem od_A (h : sBo S x = sBo S y) : odS S x y = nI 0 := if_pos h
theorem od_ne (hS : JS S) (hx : x < sN S) (h : sEe S (sBo S x) (sBo S y) = true) : ¬ sBo S x = sBo S y := fun e => by
  rw [e] at h
  exact bt_f h ((jT hS).2 _ (by rw [← e]; exact (jBo hS hx).1))
theorem od_B (hS : JS S) (hx : x < sN S) (h : sEe S (sBo S x) (sBo S y) = true) : odS S x y = nI 1 := by
  show odR (sBo S) (sEe S) x y = _
  unfold odR
  rw [if_neg (od_ne hS hx h), if_pos h]
theorem od_B2 (hS : JS S) (hx : x < sN S) (hy : y < sN S) (h : sEe S (sBo S x) (sBo S y) = true) : sEe S (sBo S y) (sBo S x) = false := by
  cases e : sEe S (sBo S y) (sBo S x) with
  | false => rfl
  | true => exact absurd ((jT hS).1 _ _ _ (jBo hS hx).1 (jBo hS hy).1 (jBo hS hx).1 h e) (by rw [(jT hS).2 _ (jBo hS hx).1]; exact Bool.false_ne_true)
theorem od_C (hS : JS S) (hx : x < sN S) (hy : y < sN S) (h : sEe S (sBo S x) (sBo S y) = true) : odS S y x = (-1 : Int32) := by
  show odR (sBo S) (sEe S) y x = _
  unfold odR
  rw [if_neg (fun e => od_ne hS hx h e.symm), if_neg (by rw [od_B2 hS hx hy h]; exact Bool.false_ne_true), if_pos h]
theorem od_D (h1 : ¬ sBo S x = sBo S y) (h2 : sEe S (sBo S x) (sBo S y) = false) (h3 : sEe S (sBo S y) (sBo S x) = false) : odS S x y = nI 2 := by
  show odR (sBo S) (sEe S) x y = _
  unfold odR
  rw [if_neg h1, if_neg (by rw [h2]; exact Bool.false_ne_true), if_neg (by rw [h3]; exact Bool.false_ne_true)]
theorem lk_B (hS : JS S) (hx : x < sN S) (h : lkS S x y = true) : sEe S (sBo S x) (sBo S y) = true := ((jLi hS _ _ (jBo hS hx).1).mp h).1
theorem lk_self (hS : JS S) (hu : u < sN S) : lkS S u u = false := by
  cases e : lkS S u u with
  | false => rfl
  | true => exact absurd (lk_B hS hu e) (by rw [(jT hS).2 _ (jBo hS hu).1]; exact Bool.false_ne_true)
theorem bt_0 (hS : JS S) (hx : x < sN S) (hy : y < sN S) (h : lkS S x y = true) : btS S x y = nI 0 := by
  have hl := ((jLi hS _ _ (jBo hS hx).1).mp h).2
  have key : ∀ i, (sEe S (sBo S x) i && sLe S (sBo S y) i) = false := fun i => by
    cases e : sEe S (sBo S x) i with
    | false => rfl
    | true =>
      cases e2 : sLe S (sBo S y) i with
      | false => rfl
      | true =>
        obtain ⟨h1, h2⟩ := (jLe hS _ i (jBo hS hy).1).mp e2
        exact absurd h2 (by rw [hl i h1 e]; exact Bool.false_ne_true)
  show bcI (bs (fun i => sEe S (sBo S x) i && sLe S (sBo S y) i)) = nI 0
  rw [bcI_n (jN hS).1 (fun i _ => key i), cnt_zero _ (fun i _ => key i)]
theorem wy_f (hS : JS S) (hx : x < sN S) (hy : y < sN S) (h : sEe S (sBo S x) (sBo S y) = true) : ∃ (H : Nat) (w : Nat → Nat), 1 ≤ H ∧ H + lev (sN S) (sEe S) (sBo S y) ≤ lev (sN S) (sEe S) (sBo S x) ∧ H < sN S ∧ (∀ k, k ≤ H → w k < sN S) ∧ w 0 = sBo S x ∧ w H = sBo S y ∧ (∀ k, k < H → lkS S (w k) (w (k + 1)) = true) ∧ (lkS S x y = true → H = 1) ∧ ∀ z idx, wyV S x y idx z = if idx ≤ H then some (w idx) else none := by
  obtain ⟨H, w, a1, a2, a3, a4, a5, a6, a7, a8⟩ := way_x (jN hS).1 (jT hS) (fun u i hu q => (jE hS hu q).2.1) (jLe hS) (jLi hS) (jBo hS hx).1 (jBo hS hy).1 h
  have hlt := lev_lt (jT hS) (jBo hS hx).1
  have hn := (jN hS).1
  refine ⟨H, w, a1, a2, by omega, a3, a4, a5, fun k hk => ?_, a7, fun z idx => a8 z idx⟩
  have q := a6 k hk
  have q2 := jE hS (a3 k (by omega)) ((jLi hS _ _ (a3 k (by omega))).mp q).1
  show sLk S (sBo S (w k)) (sBo S (w (k + 1))) = true
  rw [q2.1, q2.2.2]
  exact q
theorem wy_n (hS : JS S) (hy : y < sN S) (h1 : ¬ sBo S x = sBo S y) (h2 : sEe S (sBo S x) (sBo S y) = false) (i : Nat) (z : Nat → Int32) : wyV S x y i z = none := way_no (jLe hS) (jBo hS hy).1 h1 h2 z i
theorem bn_lo (hS : JS S) (hx : x < sN S) (hy : y < sN S) (h : sEe S (sBo S x) (sBo S y) = true) : bnS S y false ≤ bnS S x false := by
  have hJ := hS.2.2.2.1
  have tr : ∀ w, w < sN S → (w = sBo S y ∨ sEe S (sBo S y) w = true) → (w = sBo S x ∨ sEe S (sBo S x) w = true) := fun w hw q => Or.inr (by
    rcases q with q | q
    · rw [q]; exact h
    · exact (jT hS).1 _ _ _ (jBo hS hx).1 (jBo hS hy).1 hw h q)
  obtain ⟨b1, b2, b3⟩ := (hJ (sBo S x) (jBo hS hx).1 _).mp (Int32.le_refl _)
  exact (hJ (sBo S y) (jBo hS hy).1 _).mpr ⟨b1, fun u hu hd q => b2 u hu hd (tr _ (jBo hS hu).1 q), fun j hj q => b3 j hj (tr _ (jBo hS (hS.1.2.2.2.2.2.2 j hj)).1 q)⟩
theorem bn_up (hS : JS S) (hx : x < sN S) (hy : y < sN S) (h : sEe S (sBo S x) (sBo S y) = true) : bnS S y true ≤ bnS S x true := by
  have hJ := hS.2.2.2.2
  have hyx := (jLe hS (sBo S y) (sBo S x) (jBo hS hy).1).mpr ⟨(jBo hS hx).1, h⟩
  have tr : ∀ w, w < sN S → (w = sBo S x ∨ sLe S (sBo S x) w = true) → (w = sBo S y ∨ sLe S (sBo S y) w = true) := fun w hw q => Or.inr (by
    rcases q with q | q
    · rw [q]; exact hyx
    · exact (jTL hS).1 _ _ _ (jBo hS hy).1 (jBo hS hx).1 hw hyx q)
  obtain ⟨b1, b2⟩ := (hJ (sBo S y) (jBo hS hy).1 _).mp (Int32.le_refl _)
  exact (hJ (sBo S x) (jBo hS hx).1 _).mpr ⟨b1, fun u hu hd q => b2 u hu hd (tr _ (jBo hS hu).1 q)⟩
theorem lvl_lt (hS : JS S) (hx : x < sN S) (hy : y < sN S) (h : sEe S (sBo S x) (sBo S y) = true) : lev (sN S) (sEe S) (sBo S y) < lev (sN S) (sEe S) (sBo S x) ∧ lev (sN S) (sLe S) (sBo S x) < lev (sN S) (sLe S) (sBo S y) ∧ lev (sN S) (sEe S) (sBo S x) < 40 ∧ lev (sN S) (sLe S) (sBo S y) < 40 := by
  have h1 := lev_up (jT hS) (jN hS).1 (jBo hS hx).1 (jBo hS hy).1 h
  have h2 := lev_up (jTL hS) (jN hS).1 (jBo hS hy).1 (jBo hS hx).1 ((jLe hS (sBo S y) (sBo S x) (jBo hS hy).1).mpr ⟨(jBo hS hx).1, h⟩)
  have h3 := lev_lt (jT hS) (jBo hS hx).1
  have h4 := lev_lt (jTL hS) (jBo hS hy).1
  have hn := (jN hS).1
  omega
theorem jBd (hS : JS S) : ∀ i, S.2.2.2.2.2.2.2.2.2.2.2.2.1 i = (decide (i < sN S) && decide (sBo S i = i)) := hS.2.1.1
theorem ct_2 (hS : JS S) : ∃ c, c ≤ sN S ∧ ctS S 2 = nI c := ⟨cnt _ (sN S), cnt_le _ _, bcI_n (jN hS).1 (fun i hi => by rw [jBd hS i, decide_eq_false (by omega), Bool.false_and])⟩
theorem ct_3 (hS : JS S) : ctS S 3 = nI (ppS (sLk S) (sN S) (sN S)) := bcS_pp (jN hS).1 (fun u i hu hi => by
  have hi : sN S ≤ i := hi
  cases e : sLk S u i with
  | false => exact e
  | true => exact absurd (jE hS hu ((jLi hS u i hu).mp e).1).2.1 (by omega)) _ (Nat.le_refl _)
theorem ct_5 (hS : JS S) : ctS S 5 = nI (cnt (sDg S) (sN S)) := bcI_n (jN hS).1 hS.2.1.2.2
/-- a body in doubt -/
def dbP (S : SC) (v : Nat) : Bool := decide (sBo S v = v) && decide (bnS S v true < bnS S v false)
theorem ct_6 (hS : JS S) : ctS S 6 = nI (cnt (dbP S) (sN S)) := sel_c (jN hS).1 (fun i hi => by
  rw [jBd hS i, decide_eq_true hi, Bool.true_and]
  unfold dbP
  by_cases c : sBo S i = i
  · rw [decide_eq_true (p := sBo S i = i) c, Bool.true_and]
    show _ = decide (sUp S (sBo S i) < sLo S (sBo S i))
    rw [c]
  · rw [decide_eq_false (p := sBo S i = i) c, Bool.false_and, Bool.false_and])
theorem ct_7 (hS : JS S) (h0 : 0 < sN S) : ∃ c, 1 ≤ c ∧ c < 100 ∧ ctS S 7 = nI c := by
  have hb := jBd hS
  have hn := (jN hS).1
  have g : ∀ u, u < sN S → (decide (u < sN S) && decide (sBo S u = u)) = true → sB S u = nI (lev (sN S) (sEe S) u) ∧ lev (sN S) (sEe S) u < sN S := fun u hu q => by
    rw [Bool.and_eq_true, decide_eq_true_eq, decide_eq_true_eq] at q
    exact ⟨hS.2.2.1.2.2.2.2.2.1 u hu q.2, lev_lt (jT hS) hu⟩
  refine ⟨_, ?_, ?_, lvS_sup hn (fun u hu q => g u hu (by rw [← hb u]; exact q)) _ (Nat.le_refl _)⟩
  · refine Nat.le_trans (Nat.le_add_left 1 _) (supN_ge (g := fun u => lev (sN S) (sEe S) u + 1) h0 ?_)
    have h1 := (jBo hS h0).2.2
    rw [hb 0, decide_eq_true h0, decide_eq_true (show sBo S 0 = 0 by omega)]
    rfl
  · refine Nat.lt_of_le_of_lt ((supN_le (B := 41) _).mpr (fun i hi q => ?_)) (by decide)
    have h1 := (g i hi (by rw [← hb i]; exact q)).2
    omega
theorem nx_some (h : nxS2 S y = some v) : v < sN S ∧ cdS S v = true := by
  have h1 := (fst1_some h).2.1
  have h1 : ((decide (v < sN S) && cdS S v) && decide (cnt _ v = y)) = true := h1
  rw [Bool.and_eq_true, Bool.and_eq_true, decide_eq_true_eq] at h1
  exact h1.1
theorem nx_none (hS : JS S) (h : nxS2 S 0 = none) (hv : v < sN S) : cdS S v = false := by
  have h1 := fst1_none.mp h
  have hn := (jN hS).1
  cases e : fst1 (selS (fun u => cdS S u) (sN S)) 40 with
  | none =>
    have h2 : (decide (v < sN S) && cdS S v) = false := fst1_none.mp e v (by omega)
    rw [decide_eq_true hv, Bool.true_and] at h2
    exact h2
  | some x =>
    obtain ⟨c1, c2, c3⟩ := fst1_some e
    have h3 : (selS (fun u => cdS S u) (sN S) x && decide (cnt (selS (fun u => cdS S u) (sN S)) x = 0)) = false := h1 x c1
    rw [c2, cnt_zero x c3] at h3
    cases h3
/-- of units that are not all dug, one can be dug -/
theorem nx_all (hS : JS S) (h : nxS2 S 0 = none) : cnt (sDg S) (sN S) = sN S := by
  refine cnt_allT _ (fun i hi => ?_)
  cases e : sDg S i with
  | true => rfl
  | false =>
    obtain ⟨v, h1, h2⟩ := dig_ex (eE := sEe S) (jN hS).1 (fun u hu => (jBo hS hu).1) (jTL hS) (jLe hS) _ i hi e (Nat.le_refl _)
    exact absurd h2 (by rw [show cdB (sN S) (sBo S) (sEe S) (sDg S) v = cdS S v from rfl, nx_none hS h h1]; exact Bool.false_ne_true)
theorem cd_und (h : cdS S u = true) : sDg S u = false := by
  have h : (!(sDg S u) && !(anyB _ _)) = true := h
  cases e : sDg S u with
  | false => rfl
  | true => rw [e] at h; cases h
end READS
section READS2
variable {S : SC} {u v x y : Nat} {κ : aK} {a : Nat → Nat}
theorem CM_val {y : MethodName} {cc : ByteArray} {maxL : Nat} {ret : Option FieldType} {rm : Room} {av : List Value} {w0 w1 : va_W} {v v' : Int32} (e : v = v') (h : CM y cc maxL ret rm κ av w0 (aD (some (.int v)) w1)) : CM y cc maxL ret rm κ av w0 (aD (some (.int v')) w1) := e ▸ h
theorem CM_w {y : MethodName} {cc : ByteArray} {maxL : Nat} {ret : Option FieldType} {rm : Room} {av : List Value} {w0 w1 w2 : va_W} {v : Option Value} (e : w1 = w2) (h : CM y cc maxL ret rm κ av w0 (aD v w1)) : CM y cc maxL ret rm κ av w0 (aD v w2) := e ▸ h
/-- the phases by levels: no pair is out of phase, and they are there already -/
theorem ct_8 (hS : JS S) : ctS (phT S) 8 = nI 0 := by
  have hn := (jN hS).1
  refine congrArg nI (ppS_zero _ (Nat.le_refl _) (fun i j hi hj => ?_))
  have hi : i < sN S := hi
  have hj : j < sN S := hj
  show poB (sBo S) (sEe S) (pre (phG (sBo S) (sB S)) (sPh S) (sN S)) i j = false
  unfold poB
  rw [pre_in hi, pre_in hj]
  by_cases c : sBo S i = sBo S j
  · rw [if_pos c]
    unfold phG
    rw [c, decide_eq_true rfl]
    exact Bool.and_false _
  · rw [if_neg c]
    cases e : sEe S (sBo S i) (sBo S j) with
    | false => rfl
    | true =>
      obtain ⟨h1, -, h3, -⟩ := lvl_lt hS hi hj e
      have e1 : sB S (sBo S i) = nI (lev (sN S) (sEe S) (sBo S i)) := v_unit3 hS hi
      have e2 : sB S (sBo S j) = nI (lev (sN S) (sEe S) (sBo S j)) := v_unit3 hS hj
      unfold phG
      rw [e1, e2, Bool.true_and]
      refine decide_eq_false (fun q => ?_)
      unfold imin at q
      rw [nI_min (by decide) (by omega), nI_min (by decide) (by omega), nI_ltI (by omega) (by omega)] at q
      omega
theorem pa_0 : paS (phT S) = 0 := cnt_zero _ (fun i hi => by
  have hi : i < sN S := hi
  show (!(decide (pre (phG (sBo S) (sB S)) (sPh S) (sN S) i = phG (sBo S) (sB S) i))) = false
  rw [pre_in hi, decide_eq_true rfl]
  rfl)
theorem dg_cnt (hd : sDg S u = false) {N : Nat} (hu : u < N) : cnt (sDg (dgT S u)) N = cnt (sDg S) N + 1 := cnt_dig hd N hu
theorem b2i_f : b2i false = nI 0 := by decide +kernel
theorem b2i_t : b2i true = nI 1 := by decide +kernel
theorem q_bnd0 (hS : JS S) (hu : u < sN S) (z : Nat → Int32) (X : va_W) : CM yX5_bound cX5_bound 4 (some .int) ({ frames := 7, cells := 0, slots := 0, locals := 131 } : Room) κ [.ref (a 0), .int (nI u), .int (nI 0)] (cS κ a (stL S z) X) (aD (some (.int (bnS S u false))) (cS κ a (stL S z) X)) := by
  rw [← b2i_f]
  exact q_bound κ a hS hu false z X
theorem q_bnd1 (hS : JS S) (hu : u < sN S) (z : Nat → Int32) (X : va_W) : CM yX5_bound cX5_bound 4 (some .int) ({ frames := 7, cells := 0, slots := 0, locals := 131 } : Room) κ [.ref (a 0), .int (nI u), .int (nI 1)] (cS κ a (stL S z) X) (aD (some (.int (bnS S u true))) (cS κ a (stL S z) X)) := by
  rw [← b2i_t]
  exact q_bound κ a hS hu true z X
theorem JS_0 : JS S0 := ⟨⟨⟨by decide, by decide, by decide, rfl⟩, fun _ => (by decide : 0 < 40), fun _ => (by decide : 0 < 40), fun _ => (by decide : 0 < 40), fun _ => (by decide : 0 < 40), fun k hk => absurd hk (Nat.not_lt_zero k), fun k hk => absurd hk (Nat.not_lt_zero k)⟩, ⟨fun i => rfl, fun u hu => absurd hu (Nat.not_lt_zero u), fun _ _ => rfl⟩, ⟨⟨fun k hk => absurd hk (Nat.not_lt_zero k), fun _ _ u hu => absurd hu (Nat.not_lt_zero u), fun u hu => absurd hu (Nat.not_lt_zero u)⟩, ⟨fun u i h => (by obtain ⟨k, hk, -⟩ := h; exact absurd hk (Nat.not_lt_zero k)), fun u v i hu => absurd hu (Nat.not_lt_zero u), fun R _ _ u i hu => absurd hu (Nat.not_lt_zero u)⟩, fun u hu => absurd hu (Nat.not_lt_zero u), fun u i hu => absurd hu (Nat.not_lt_zero u), fun u i hu => absurd hu (Nat.not_lt_zero u), fun u hu => absurd hu (Nat.not_lt_zero u), fun u hu => absurd hu (Nat.not_lt_zero u)⟩, ⟨fun u hu => absurd hu (Nat.not_lt_zero u), fun u hu => absurd hu (Nat.not_lt_zero u)⟩⟩
end READS2
