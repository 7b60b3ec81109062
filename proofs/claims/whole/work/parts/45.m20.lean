set_option maxHeartbeats 4000000 in
set_option maxRecDepth 100000 in
theorem lc_phaseAll {g : aG} {κ : aK} {a b : Nat → Nat} {u bs L : Nat} {xs : Nat → Int32} (C : Cx g κ RL cL_law 9 room_1) (hX : va_X bs L xs (g_s g) (g_s g).heap) (hbl : bs < (g_s g).heap.size) (hbA : ¬ kA κ bs) (hL : L < 2 ^ 31) {j : Nat} (h5 : 5 * j + 5 ≤ L) {I : SC → SM → Prop} {S : SC} {F : Nat → Int64} {T : SM} (hI : I S T) (hK : KV yX5_phaseAll cX5_phaseAll 4 yX6_phaseAll cX6_phaseAll 4 (some .int) I κ a b [] (fun v => ∃ r : Int32, v = .int r)) {k0 n0 : Nat} (hk : k0 + 402 ≤ 601024) (hn : n0 + 4010 ≤ 7293034) (next : ∀ S' F' T', I S' T' → aw g κ 9 1848 [(0, .ref bs), (1, .ref (a 0)), (2, .ref (b 0)), (3, .ref u), (4, .int (nI (5 * j)))] [] (lW κ a b u S' F' T') (k0 + 402) (n0 + 4010)) : aw g κ 9 1739 [(0, .ref bs), (1, .ref (a 0)), (2, .ref (b 0)), (3, .ref u), (4, .int (nI (5 * j)))] [] (lW κ a b u S F T) k0 n0 := by
  refine a_aloadn (pc := 1739) C 1 rfl rfl dL_law_1739 ?_
  obtain ⟨S', T', vv, hI', ⟨r, rfl⟩, ⟨rm1, hb1, hW⟩, ⟨rm2, hb2, hR⟩⟩ := hK  S T hI
  obtain ⟨hb11, hb12, hb13, hb14⟩ := hb1
  obtain ⟨hb21, hb22, hb23, hb24⟩ := hb2
  refine a_callV (pc := 1740) C (hW (oc κ u F :: mS κ b T [])) yv_X5_phaseAll ml_L_170 wi_X5_phaseAll wl_X5_phaseAll 0 rfl rfl rfl rfl rfl (Nat.le_of_ble_eq_true rfl) (by show _ ≤ 11; omega) (by show _ ≤ 396; omega) ⟨by show _ ≤ 601024; omega, by show _ ≤ 7293034; omega⟩ dL_law_1740 (fun ro w h => ?_)
  obtain ⟨rfl, rfl⟩ := h
  refine aw_eq (ws' := lW κ a b u S' F T) rfl ?_
  refine a_aloadn (pc := 1743) C 2 rfl rfl dL_law_1743 ?_
  refine aw_perm (ws' := lM κ a b u S' F T) lW_perm ?_
  refine a_callV (pc := 1744) C (hR (cS κ a S' [oc κ u F])) yv_X6_phaseAll ml_L_173 wi_X6_phaseAll wl_X6_phaseAll 0 rfl rfl rfl rfl rfl (Nat.le_of_ble_eq_true rfl) (by show _ ≤ 11; omega) (by show _ ≤ 396; omega) ⟨by show _ ≤ 601024; omega, by show _ ≤ 7293034; omega⟩ dL_law_1744 (fun ro w h => ?_)
  obtain ⟨rfl, rfl⟩ := h
  refine aw_perm (ws' := lW κ a b u S' F T') lW_perm.symm ?_
  refine a_ic_eq_y (pc := 1747) (tgt := 1848) C rfl (by decide) dL_law_1747 ?_
  refine aw_room (k' := k0 + 402) (n' := n0 + 4010) (by omega) (by omega) ?_
  exact next S' F T' hI'

set_option maxHeartbeats 4000000 in
set_option maxRecDepth 100000 in
theorem lc_outOfPhase {g : aG} {κ : aK} {a b : Nat → Nat} {u bs L : Nat} {xs : Nat → Int32} (C : Cx g κ RL cL_law 9 room_1) (hX : va_X bs L xs (g_s g) (g_s g).heap) (hbl : bs < (g_s g).heap.size) (hbA : ¬ kA κ bs) (hL : L < 2 ^ 31) {j : Nat} (h5 : 5 * j + 5 ≤ L) {I : SC → SM → Prop} {S : SC} {F : Nat → Int64} {T : SM} (hI : I S T) (hK : ∀ (z1 : Bool), KV yX5_outOfPhase cX5_outOfPhase 4 yX6_outOfPhase cX6_outOfPhase 4 (some .int) I κ a b [.int (b2i z1)] (fun v => ∃ r : Int32, v = .int r)) {k0 n0 : Nat} (hk : k0 + 402 ≤ 601024) (hn : n0 + 4010 ≤ 7293034) (next : ∀ S' F' T', I S' T' → aw g κ 9 1848 [(0, .ref bs), (1, .ref (a 0)), (2, .ref (b 0)), (3, .ref u), (4, .int (nI (5 * j)))] [] (lW κ a b u S' F' T') (k0 + 402) (n0 + 4010)) : aw g κ 9 1752 [(0, .ref bs), (1, .ref (a 0)), (2, .ref (b 0)), (3, .ref u), (4, .int (nI (5 * j)))] [] (lW κ a b u S F T) k0 n0 := by
  refine a_aloadn (pc := 1752) C 1 rfl rfl dL_law_1752 ?_
  refine a_aloadn (pc := 1753) C 0 rfl rfl dL_law_1753 ?_
  refine a_iload (pc := 1754) C 4 rfl dL_law_1754 ?_
  refine a_iconst (pc := 1756) (v := nI 1) C ci_1 dL_law_1756 ?_
  refine a_iadd (pc := 1757) (v := nI ((5 * j) + 1)) C (nI_add _ _) dL_law_1757 ?_
  refine a_sld (pc := 1758) C hX hbl hbA (by omega) hL dL_law_1758 ?_
  refine a_if_eq (pc := 1759) (tgt := 1766) C (by decide) dL_law_1759 (fun c1 => ?_) (fun c1 => ?_)
  · refine a_iconst (pc := 1766) (v := nI 0) C ci_0 dL_law_1766 ?_
    refine aw_st (st' := [.int (b2i false), .ref (a 0)]) (congrArg (fun zz9 => ([.int zz9, .ref (a 0)] : List Value)) b2i_f.symm) ?_
    obtain ⟨S', T', vv, hI', ⟨r, rfl⟩, ⟨rm1, hb1, hW⟩, ⟨rm2, hb2, hR⟩⟩ := hK false S T hI
    obtain ⟨hb11, hb12, hb13, hb14⟩ := hb1
    obtain ⟨hb21, hb22, hb23, hb24⟩ := hb2
    refine a_callV (pc := 1767) C (hW (oc κ u F :: mS κ b T [])) yv_X5_outOfPhase ml_L_174 wi_X5_outOfPhase wl_X5_outOfPhase 0 rfl rfl rfl rfl rfl (Nat.le_of_ble_eq_true rfl) (by show _ ≤ 11; omega) (by show _ ≤ 396; omega) ⟨by show _ ≤ 601024; omega, by show _ ≤ 7293034; omega⟩ dL_law_1767 (fun ro w h => ?_)
    obtain ⟨rfl, rfl⟩ := h
    refine aw_eq (ws' := lW κ a b u S' F T) rfl ?_
    refine a_aloadn (pc := 1770) C 2 rfl rfl dL_law_1770 ?_
    refine a_aloadn (pc := 1771) C 0 rfl rfl dL_law_1771 ?_
    refine a_iload (pc := 1772) C 4 rfl dL_law_1772 ?_
    refine a_iconst (pc := 1774) (v := nI 1) C ci_1 dL_law_1774 ?_
    refine a_iadd (pc := 1775) (v := nI ((5 * j) + 1)) C (nI_add _ _) dL_law_1775 ?_
    refine a_sld (pc := 1776) C hX hbl hbA (by omega) hL dL_law_1776 ?_
    refine a_if_eq_y (pc := 1777) (tgt := 1784) C c1 (by decide) dL_law_1777 ?_
    refine a_iconst (pc := 1784) (v := nI 0) C ci_0 dL_law_1784 ?_
    refine aw_st (st' := [.int (b2i false), .ref (b 0), .int r]) (congrArg (fun zz9 => ([.int zz9, .ref (b 0), .int r] : List Value)) b2i_f.symm) ?_
    refine aw_perm (ws' := lM κ a b u S' F T) lW_perm ?_
    refine a_callV (pc := 1785) C (hR (cS κ a S' [oc κ u F])) yv_X6_outOfPhase ml_L_178 wi_X6_outOfPhase wl_X6_outOfPhase 0 rfl rfl rfl rfl rfl (Nat.le_of_ble_eq_true rfl) (by show _ ≤ 11; omega) (by show _ ≤ 396; omega) ⟨by show _ ≤ 601024; omega, by show _ ≤ 7293034; omega⟩ dL_law_1785 (fun ro w h => ?_)
    obtain ⟨rfl, rfl⟩ := h
    refine aw_perm (ws' := lW κ a b u S' F T') lW_perm.symm ?_
    refine a_ic_eq_y (pc := 1788) (tgt := 1848) C rfl (by decide) dL_law_1788 ?_
    refine aw_room (k' := k0 + 402) (n' := n0 + 4010) (by omega) (by omega) ?_
    exact next S' F T' hI'
  · refine a_iconst (pc := 1762) (v := nI 1) C ci_1 dL_law_1762 ?_
    refine a_goto (pc := 1763) (tgt := 1767) C (by decide) dL_law_1763 ?_
    refine aw_st (st' := [.int (b2i true), .ref (a 0)]) (congrArg (fun zz9 => ([.int zz9, .ref (a 0)] : List Value)) b2i_t.symm) ?_
    obtain ⟨S', T', vv, hI', ⟨r, rfl⟩, ⟨rm1, hb1, hW⟩, ⟨rm2, hb2, hR⟩⟩ := hK true S T hI
    obtain ⟨hb11, hb12, hb13, hb14⟩ := hb1
    obtain ⟨hb21, hb22, hb23, hb24⟩ := hb2
    refine a_callV (pc := 1767) C (hW (oc κ u F :: mS κ b T [])) yv_X5_outOfPhase ml_L_174 wi_X5_outOfPhase wl_X5_outOfPhase 0 rfl rfl rfl rfl rfl (Nat.le_of_ble_eq_true rfl) (by show _ ≤ 11; omega) (by show _ ≤ 396; omega) ⟨by show _ ≤ 601024; omega, by show _ ≤ 7293034; omega⟩ dL_law_1767 (fun ro w h => ?_)
    obtain ⟨rfl, rfl⟩ := h
    refine aw_eq (ws' := lW κ a b u S' F T) rfl ?_
    refine a_aloadn (pc := 1770) C 2 rfl rfl dL_law_1770 ?_
    refine a_aloadn (pc := 1771) C 0 rfl rfl dL_law_1771 ?_
    refine a_iload (pc := 1772) C 4 rfl dL_law_1772 ?_
    refine a_iconst (pc := 1774) (v := nI 1) C ci_1 dL_law_1774 ?_
    refine a_iadd (pc := 1775) (v := nI ((5 * j) + 1)) C (nI_add _ _) dL_law_1775 ?_
    refine a_sld (pc := 1776) C hX hbl hbA (by omega) hL dL_law_1776 ?_
    refine a_if_eq_n (pc := 1777) C c1 dL_law_1777 ⟨1784, by decide⟩ ?_
    refine a_iconst (pc := 1780) (v := nI 1) C ci_1 dL_law_1780 ?_
    refine a_goto (pc := 1781) (tgt := 1785) C (by decide) dL_law_1781 ?_
    refine aw_st (st' := [.int (b2i true), .ref (b 0), .int r]) (congrArg (fun zz9 => ([.int zz9, .ref (b 0), .int r] : List Value)) b2i_t.symm) ?_
    refine aw_perm (ws' := lM κ a b u S' F T) lW_perm ?_
    refine a_callV (pc := 1785) C (hR (cS κ a S' [oc κ u F])) yv_X6_outOfPhase ml_L_178 wi_X6_outOfPhase wl_X6_outOfPhase 0 rfl rfl rfl rfl rfl (Nat.le_of_ble_eq_true rfl) (by show _ ≤ 11; omega) (by show _ ≤ 396; omega) ⟨by show _ ≤ 601024; omega, by show _ ≤ 7293034; omega⟩ dL_law_1785 (fun ro w h => ?_)
    obtain ⟨rfl, rfl⟩ := h
    refine aw_perm (ws' := lW κ a b u S' F T') lW_perm.symm ?_
    refine a_ic_eq_y (pc := 1788) (tgt := 1848) C rfl (by decide) dL_law_1788 ?_
    refine aw_room (k' := k0 + 402) (n' := n0 + 4010) (by omega) (by omega) ?_
    exact next S' F T' hI'

set_option maxHeartbeats 4000000 in
set_option maxRecDepth 100000 in
theorem lc_digest {g : aG} {κ : aK} {a b : Nat → Nat} {u bs L : Nat} {xs : Nat → Int32} (C : Cx g κ RL cL_law 9 room_1) (hX : va_X bs L xs (g_s g) (g_s g).heap) (hbl : bs < (g_s g).heap.size) (hbA : ¬ kA κ bs) (hL : L < 2 ^ 31) {j : Nat} (h5 : 5 * j + 5 ≤ L) {I : SC → SM → Prop} {S : SC} {F : Nat → Int64} {T : SM} (hI : I S T) (hK : KV yX5_digest cX5_digest 5 yX6_digest cX6_digest 5 (some .long) I κ a b [] (fun v => ∃ r : Int64, v = .long r)) {k0 n0 : Nat} (hk : k0 + 402 ≤ 601024) (hn : n0 + 4010 ≤ 7293034) (next : ∀ S' F' T', I S' T' → aw g κ 9 1848 [(0, .ref bs), (1, .ref (a 0)), (2, .ref (b 0)), (3, .ref u), (4, .int (nI (5 * j)))] [] (lW κ a b u S' F' T') (k0 + 402) (n0 + 4010)) : aw g κ 9 1834 [(0, .ref bs), (1, .ref (a 0)), (2, .ref (b 0)), (3, .ref u), (4, .int (nI (5 * j)))] [] (lW κ a b u S F T) k0 n0 := by
  refine a_aloadn (pc := 1834) C 1 rfl rfl dL_law_1834 ?_
  obtain ⟨S', T', vv, hI', ⟨r, rfl⟩, ⟨rm1, hb1, hW⟩, ⟨rm2, hb2, hR⟩⟩ := hK  S T hI
  obtain ⟨hb11, hb12, hb13, hb14⟩ := hb1
  obtain ⟨hb21, hb22, hb23, hb24⟩ := hb2
  refine a_callV (pc := 1835) C (hW (oc κ u F :: mS κ b T [])) yv_X5_digest ml_L_184 wi_X5_digest wl_X5_digest 0 rfl rfl rfl rfl rfl (Nat.le_of_ble_eq_true rfl) (by show _ ≤ 11; omega) (by show _ ≤ 396; omega) ⟨by show _ ≤ 601024; omega, by show _ ≤ 7293034; omega⟩ dL_law_1835 (fun ro w h => ?_)
  obtain ⟨rfl, rfl⟩ := h
  refine aw_eq (ws' := lW κ a b u S' F T) rfl ?_
  refine a_aloadn (pc := 1838) C 2 rfl rfl dL_law_1838 ?_
  refine aw_perm (ws' := lM κ a b u S' F T) lW_perm ?_
  refine a_callV (pc := 1839) C (hR (cS κ a S' [oc κ u F])) yv_X6_digest ml_L_188 wi_X6_digest wl_X6_digest 0 rfl rfl rfl rfl rfl (Nat.le_of_ble_eq_true rfl) (by show _ ≤ 11; omega) (by show _ ≤ 396; omega) ⟨by show _ ≤ 601024; omega, by show _ ≤ 7293034; omega⟩ dL_law_1839 (fun ro w h => ?_)
  obtain ⟨rfl, rfl⟩ := h
  refine aw_perm (ws' := lW κ a b u S' F T') lW_perm.symm ?_
  refine a_lcmp (pc := 1842) (v := lg_cmp r r) C rfl dL_law_1842 ?_
  refine a_if_eq_y (pc := 1843) (tgt := 1848) C (lg_cmp_0.mpr rfl) (by decide) dL_law_1843 ?_
  refine aw_room (k' := k0 + 402) (n' := n0 + 4010) (by omega) (by omega) ?_
  exact next S' F T' hI'
