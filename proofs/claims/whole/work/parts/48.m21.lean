set_option maxHeartbeats 4000000 in
set_option maxRecDepth 100000 in
theorem lc_meanHeight {g : aG} {κ : aK} {a b : Nat → Nat} {u bs : Nat} {d0 : Drawn} (hd0 : (g_s g).drawn.sameBut d0 lw_cs) (C : ∀ d, Cx (gD g d) κ RL cL_law 9 room_1) {j : Nat} {I : SC → SM → Prop} {S : SC} {F : Nat → Int64} {T : SM} (hI : I S T) (hK : KD yX5_meanHeight cX5_meanHeight 3 yX6_meanHeight cX6_meanHeight 3 I κ a b) {k0 n0 : Nat} (hk : k0 + 402 ≤ 601024) (hn : n0 + 4010 ≤ 7293034) (next : ∀ d' T', (g_s g).drawn.sameBut d' lw_cs → I S T' → aw (gD g d') κ 9 1848 [(0, .ref bs), (1, .ref (a 0)), (2, .ref (b 0)), (3, .ref u), (4, .int (nI (5 * j)))] [] (lW κ a b u S F T') (k0 + 402) (n0 + 4010)) : aw (gD g d0) κ 9 1793 [(0, .ref bs), (1, .ref (a 0)), (2, .ref (b 0)), (3, .ref u), (4, .int (nI (5 * j)))] [] (lW κ a b u S F T) k0 n0 := by
  obtain ⟨T', f, sum, hI', h1, h2⟩ := hK S T hI
  refine a_aloadn (pc := 1793) (C d0) 1 rfl rfl dL_law_1793 ?_
  refine a_callVD (pc := 1794) hd0 (C d0) (h1 (oc κ u F :: mS κ b T [])) yv_X5_meanHeight ml_L_179 wi_X5_meanHeight wl_X5_meanHeight 0 rfl rfl rfl rfl (Nat.le_of_ble_eq_true rfl) (by decide) (by decide) ⟨by show k0 + 0 ≤ 601024; omega, by show n0 + 0 ≤ 7293034; omega⟩ dL_law_1794 (fun ro w d1 h hd1 => ?_)
  obtain ⟨r1, hr1, rfl, rfl⟩ := h
  refine aw_eq (ws' := lW κ a b u S F T) rfl ?_
  refine a_dstore (pc := 1797) (L' := [(0, .ref bs), (1, .ref (a 0)), (2, .ref (b 0)), (3, .ref u), (4, .int (nI (5 * j))), (5, .double r1)]) (C d1) (by decide) rfl dL_law_1797 ?_
  refine a_aloadn (pc := 1799) (C d1) 2 rfl rfl dL_law_1799 ?_
  refine aw_perm (ws' := lM κ a b u S F T) lW_perm ?_
  refine a_callVD (pc := 1800) hd1 (C d1) (h2 (cS κ a S [oc κ u F])) yv_X6_meanHeight ml_L_183 wi_X6_meanHeight wl_X6_meanHeight 0 rfl rfl rfl rfl (Nat.le_of_ble_eq_true rfl) (by decide) (by decide) ⟨by show k0 + 0 + 0 ≤ 601024; omega, by show n0 + 0 + 0 ≤ 7293034; omega⟩ dL_law_1800 (fun ro w d2 h hd2 => ?_)
  obtain ⟨r2, hr2, rfl, rfl⟩ := h
  refine aw_perm (ws' := lW κ a b u S F T') lW_perm.symm ?_
  refine a_dstore (pc := 1803) (L' := [(0, .ref bs), (1, .ref (a 0)), (2, .ref (b 0)), (3, .ref u), (4, .int (nI (5 * j))), (5, .double r1), (7, .double r2)]) (C d2) (by decide) rfl dL_law_1803 ?_
  refine a_dload (pc := 1805) (C d2) 5 rfl dL_law_1805 ?_
  refine a_dload (pc := 1807) (C d2) 6 rfl dL_law_1807 ?_
  rcases mh_pq hr1 hr2 with e | ⟨e1, e2⟩
  · refine a_dcmp (pc := 1809) (v := 0) (C d2) (by rw [e]; rfl) dL_law_1809 ?_
    refine a_if_eq_y (pc := 1810) (tgt := 1831) (C d2) rfl (by decide) dL_law_1810 ?_
    refine a_goto (pc := 1831) (tgt := 1848) (C d2) (by decide) dL_law_1831 ?_
    refine aw_locals (L' := [(0, .ref bs), (1, .ref (a 0)), (2, .ref (b 0)), (3, .ref u), (4, .int (nI (5 * j)))]) [0, 1, 2, 3, 4] rfl ?_
    refine aw_room (k' := k0 + 402) (n' := n0 + 4010) (by show k0 + 0 + 0 ≤ k0 + 402; omega) (by show n0 + 0 + 0 ≤ n0 + 4010; omega) ?_
    exact next d2 T' hd2 hI'
  · refine a_dcmp (pc := 1809) (C d2) rfl dL_law_1809 ?_
    refine a_if_eq (pc := 1810) (tgt := 1831) (C d2) (by decide) dL_law_1810 (fun _ => ?_) (fun _ => ?_)
    · refine a_goto (pc := 1831) (tgt := 1848) (C d2) (by decide) dL_law_1831 ?_
      refine aw_locals (L' := [(0, .ref bs), (1, .ref (a 0)), (2, .ref (b 0)), (3, .ref u), (4, .int (nI (5 * j)))]) [0, 1, 2, 3, 4] rfl ?_
      refine aw_room (k' := k0 + 402) (n' := n0 + 4010) (by show k0 + 0 + 0 ≤ k0 + 402; omega) (by show n0 + 0 + 0 ≤ n0 + 4010; omega) ?_
      exact next d2 T' hd2 hI'
    · refine a_dload (pc := 1813) (C d2) 5 rfl dL_law_1813 ?_
      refine a_dload (pc := 1815) (C d2) 5 rfl dL_law_1815 ?_
      refine a_dcmp (pc := 1817) (v := -1) (C d2) (by rw [e1]; rfl) dL_law_1817 ?_
      refine a_if_eq_n (pc := 1818) (C d2) (by decide) dL_law_1818 ⟨1829, by decide⟩ ?_
      refine a_dload (pc := 1821) (C d2) 6 rfl dL_law_1821 ?_
      refine a_dload (pc := 1823) (C d2) 6 rfl dL_law_1823 ?_
      refine a_dcmp (pc := 1825) (v := -1) (C d2) (by rw [e2]; rfl) dL_law_1825 ?_
      refine a_if_ne_y (pc := 1826) (tgt := 1831) (C d2) (by decide) (by decide) dL_law_1826 ?_
      refine a_goto (pc := 1831) (tgt := 1848) (C d2) (by decide) dL_law_1831 ?_
      refine aw_locals (L' := [(0, .ref bs), (1, .ref (a 0)), (2, .ref (b 0)), (3, .ref u), (4, .int (nI (5 * j)))]) [0, 1, 2, 3, 4] rfl ?_
      refine aw_room (k' := k0 + 402) (n' := n0 + 4010) (by show k0 + 0 + 0 ≤ k0 + 402; omega) (by show n0 + 0 + 0 ≤ n0 + 4010; omega) ?_
      exact next d2 T' hd2 hI'
