/-! THE LAW: from its entry to its end, given the invariant's claims -/
theorem whole_from {I : SC → SM → Prop} (hI0 : I S0 T0) (hKA : ∀ κ a b u, KA I κ a b u) {p : Program} {e : Env} {s : State} {m : MethodId} {below : List Frame} {meth : Method} {c : Code} (l : Launch) (hflags : l.flags = flags0) {b L : Nat} {xs : Nat → Int32} (hL : L ≤ 2560) (C0 : lw_At p s m meth c b L xs) : W p l e room_1 s m #[Value.ref b] below meth c s.heap [] 0 0 (lw_Z below #[Value.ref b] s) (entryFrame m ([Value.ref b] : List Value).toArray 9) := by
  obtain ⟨hx, hb, hr, hml, hown, hts, hX, hbl, hlocks, hgv⟩ := C0
  obtain ⟨D, cI, cJ, cZ, hK⟩ := k_start hts
  obtain ⟨κ, hκ⟩ : ∃ κ : aK, κ = (D, s.heap.size, cI, cJ, cZ) := ⟨_, rfl⟩
  have hkB : kB κ = s.heap.size := by rw [hκ]
  have hfl : l.stackTraces = false := by
    unfold Launch.stackTraces
    rw [hflags]
    decide +kernel
  have hX5 : ∃ cX, s.vm.findClass RX5 = some cX := ⟨_, (hK.1 5 (RX5, TX5, 5) rfl).2.1⟩
  obtain ⟨cX, hX5⟩ := hX5
  have hN : NX κ s := nx_start hts hgv (fun q hq h => by have h : kB κ ≤ q := h; omega) hX5
  refine W.base ?_
  obtain ⟨g, hg⟩ : ∃ g : aG, g = (p, l, e, room_1, s, m, #[Value.ref b], below, meth, c, lw_Z below #[Value.ref b] s) := ⟨_, rfl⟩
  have C : Cx g κ RL cL_law 9 room_1 := by
    rw [hg]
    exact ⟨hx, hb, hml, hown, fun w hw => hts w (ww_good hw).1, by rw [hκ]; exact hK, hlocks, rfl, Nat.le_of_eq hkB, hN, hfl⟩
  have h := law_start (g := g) (κ := κ) (fun d => Cx_D C d) (bs := b) (L := L) (xs := xs) (fun d => by rw [hg]; exact hX) (by rw [hg]; exact hbl) (fun h => by have h : kB κ ≤ b := h; omega) hL hI0 (hKA κ) (fun a b' u d j S F T hd hj => ?_) (d := s.drawn) (by rw [hg]; exact Drawn.sameBut.refl s.drawn lw_cs)
  · have h2 := h s.heap [] (lg_sl [Value.ref b] ++ List.replicate (9 - (lg_sl [Value.ref b]).length) Slot.unset).toArray (fun k q hq => nomatch hq) ⟨fun i j p q hi => (nomatch hi), fun k q hq => (nomatch hq)⟩ (by rw [hg]; exact va_S.rf) (lv_entry [.ref b] (n := 9) (Nat.le_of_ble_eq_true rfl))
    rw [hg] at h2
    rw [lg_entry_eq]
    exact h2
  · refine a_iconst (pc := 1854) (v := nI 1) (Cx_D C d) ci_1 dL_law_1854 ?_
    intro H locs ls hP hD hS hl
    subst hg
    refine va_forget (fun q hq => ?_) ?_
    · have h := hS.2.2 q hq
      have h : kB κ ≤ q.base := h
      rw [hkB] at h
      exact h
    · exact W.widen (k := 601024) (n := 7293034) (by omega) (by omega) (lw_ret hd hx hb hr hlocks dL_law_1855)
