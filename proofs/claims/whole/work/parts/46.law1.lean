/-! THE LAW: calls that may draw -/
/-- the same walk with another record of draws -/
def gD (g : aG) (d : Drawn) : aG := (g.1, g.2.1, g.2.2.1, g.2.2.2.1, (g_s g).setDrawn d, g.2.2.2.2.2)
theorem NX.drawn {κ : aK} {U : State} (d : Drawn) (h : NX κ U) : NX κ (U.setDrawn d) := by
  obtain ⟨h1, h2, h3, h4, h5, h6⟩ := h
  refine ⟨fun t ht => va_Nw.same (u := U) rfl rfl (h1 t ht), vx_Zq.moved (u := U) (Vm.Alike.refl U.vm) h2, vx_Zq.moved (u := U) (Vm.Alike.refl U.vm) h3, fun t ht => ?_, fun t ht => h5 t ht, fun w hw => va_Nw.same (u := U) (oxL_ot hw) rfl (h6 w hw)⟩
  obtain ⟨sa, q⟩ := h4 t ht
  exact ⟨sa, vk_R.same (u := U) rfl q⟩
theorem Cx_D {g : aG} {κ : aK} {own : String} {cc : ByteArray} {nL : Nat} {rm : Room} (C : Cx g κ own cc nL rm) (d : Drawn) : Cx (gD g d) κ own cc nL rm := by
  obtain ⟨hx, hb, hml, hown, hts, hK, hlk, hR, hz, hN, hfl⟩ := C
  exact ⟨hx, hb, hml, hown, dr_words hts d, hK, hlk, hR, hz, hN.drawn d, hfl⟩
section ROWS10
variable {g : aG} {κ : aK} {own : String} {cc : ByteArray} {nL pc k n i k' n' : Nat} {rm : Room} {L L' : List (Nat × Value)} {st : List Value} {ws ws' w1 : va_W}
theorem a_dcmp (C : Cx g κ own cc nL rm) {x y : UInt64} {op : CmpOp} {v : Int32} (hv : Op.cmpValue (FP.dcmp x y) op = v) (hd : decode cc pc = .ok (.dcmp op, 1)) (kk : aw g κ nL (pc + 1) L (.int v :: st) ws k n) : aw g κ nL pc L (.double y :: .double x :: st) ws k n := fun H locs ls hP hD hS hl => lv_dcmp C.1 C.2.1 hd (by rw [hv]; exact kk H locs ls hP hD hS hl)
theorem aw_retD {d0 : Drawn} (hd0 : (g_s g).drawn.sameBut d0 lw_cs) {mc ms : Nat} {st0 rest : List Value} {P : Option Value → va_W → Prop} {a : Array Value} {free : Addr → Prop} (hfree : ∀ q, free q → kA κ q)
    (hr : ∀ (H : Heap) (locs : List Loc) (ls : Array Slot), va_P (kD κ) vwCl ws H → va_D (kA κ) ws → va_S (kA κ) (g_s g).heap H locs → lv_has ls nL L → va_RunD lw_cs (g_p g) (g_l g) (g_e g) (g_R g) ((g_s g).setDrawn d0) (g_m g) (g_a g) (g_b g) (g_h g) (g_c g) H locs k n mc ms (F0 (g_m g) pc ls st0) rest (aQ κ P a) free)
    (kk : ∀ (ro : Option Value) (w : va_W) (d' : Drawn), P ro w → (g_s g).drawn.sameBut d' lw_cs → aw (gD g d') κ nL (pc + 3) L (ro.toList ++ rest) w (k + mc) (n + ms)) : aw (gD g d0) κ nL pc L st0 ws k n := by
  intro H locs ls hP hD hS hl T hT X
  obtain ⟨v, st₀, t, T', Lc, d', hd', h0, X', hL, e1, e2, ⟨⟨ro, w, hv, hp, hP1, hD1⟩, hz, hk⟩, sts⟩ := hr H locs ls hP hD hS hl T hT X
  cases hv
  rw [h0] at hz hk
  obtain ⟨t2, a1, b1⟩ := kk v w d' hp (hd0.trans hd') T'.heap (locs ++ Lc) ls (by rw [e1]; exact hP1) hD1 ⟨Nat.le_trans hS.1 (by rw [e1]; exact hz), fun q h1 h2 => by rw [e1, hk q (Nat.lt_of_lt_of_le h1 hS.1) h2]; exact hS.2.1 q h1 h2, fun q hq => by
      rcases List.mem_append.mp hq with h | h
      · exact hS.2.2 q h
      · exact hfree _ (hL q h)⟩ hl T' rfl X'
  exact ⟨t2, sts t2 a1, b1⟩
theorem a_callVD {d0 : Drawn} (hd0 : (g_s g).drawn.sameBut d0 lw_cs) (C : Cx (gD g d0) κ own cc nL rm) {y : MethodName} {bytes : ByteArray} {maxL index np ci b : Nat} {ret : Option FieldType} {rm' : Room} {As : List Value} {P : Option Value → va_W → Prop} (hM : CMD y bytes maxL ret rm' κ (.ref b :: As) ws P) (Y : YV y bytes maxL ret np) (hl : Cond.methodLink own index y ∈ WW) (hi : Cond.instanceMethod y ∈ WW) (hsel : Cond.selects y.cls y y ∈ WW)
    (q0 : Nat) {fs : List Value} {T : u_T} {N : Nat} (he : ws[q0]? = some (b, .inr (ci, fs))) (hc : vwCl[ci]? = some (y.cls, T, N)) (hn : As.length = np) {st0 : List Value} (hs0 : st0 = As.reverse ++ .ref b :: st) (hroom : (st.map fun v => v.category).sum ≤ 8) (hf : rm'.frames + 1 ≤ rm.frames) (ho : 8 + (maxL + 11) + rm'.locals ≤ rm.locals) (hcs : k + rm'.cells ≤ rm.cells ∧ n + rm'.slots ≤ rm.slots) (hd : decode cc pc = .ok (.invokevirtual index, 3))
    (kk : ∀ (ro : Option Value) (w : va_W) (d' : Drawn), P ro w → (g_s g).drawn.sameBut d' lw_cs → aw (gD g d') κ nL (pc + 3) L (ro.toList ++ st) w (k + rm'.cells) (n + rm'.slots)) : aw (gD g d0) κ nL pc L st0 ws k n := by
  obtain ⟨hx, hb, hml, hown, hts, hK, hlk, hR, hz, hN, hfl⟩ := id C
  have hR : g_R g = rm := hR
  refine aw_retD hd0 (fun q h => h) (fun H locs ls hP hD hS hl' => va_runV_D ⟨hx, hb, hml, hown, hts⟩ (hM (g_l g) hfl) ⟨cb_of C Y hl hf ho, hts _ hi, hts _ hsel⟩ ⟨aPre_blind, va_recv hK hP hc he, fun U hU hW => ⟨rfl, aPre_at C hP hD hS U hU hW⟩⟩ rfl hn hl'.1 hs0 (lv_room hroom) hd (by rw [hR]; exact hcs)) kk
end ROWS10
