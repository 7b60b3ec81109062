/-! ROWS, EIGHTH: methods with a table of handlers; what they catch; how they are called -/
def CW (y : MethodName) (cc : ByteArray) (maxL : Nat) (ret : Option FieldType) (hh : List (Nat × Nat × Nat × Nat)) (rm : Room) (κ : aK) (av : List Value) (w0 : va_W) (P : Option Value → va_W → Prop) : Prop := ∀ l : Launch, l.stackTraces = false → vx_Met l y (.codeWith y cc maxL ret hh :: WW) rm (va_Pc av (aPre κ w0)) (aQ κ P) (aX κ (fun _ _ => False)) rm.cells rm.slots (kA κ)
theorem cw_entry {y : MethodName} {cc : ByteArray} {maxL : Nat} {ret : Option FieldType} {hh : List (Nat × Nat × Nat × Nat)} {rm : Room} {κ : aK} {av : List Value} {w0 : va_W} {P : Option Value → va_W → Prop} {own : String} {L : List (Nat × Value)} (hy : plainName y.cls = true) (ho : y.cls = own)
    (hL : lv_has (lg_sl av ++ List.replicate (maxL - (lg_sl av).length) Slot.unset).toArray maxL L)
    (h : ∀ g : aG, Cx g κ own cc maxL rm → Rx g κ ret P rm.cells rm.slots → (g_c g).exceptionTable.toList = tableOf hh → aw g κ maxL 0 L [] w0 0 0) : CW y cc maxL ret hh rm κ av w0 P := by
  intro l hl
  refine vx_ofWH (cc := cc) (maxL := maxL) (ret := ret) (hh := hh) hy rfl ?_
  intro p e s m args below meth c s₁ B hml hv
  obtain ⟨rfl, hsz, hP, hD, hK, hN⟩ := hv
  have hts := atoms_spec (ws := .codeWith y cc maxL ret hh :: WW) B.pre
  have hown : s.vm.findClass own = some m.cls := by rw [← ho]; exact findClass_of_methodNamed B.named
  have h1 := h (p, l, e, (headSpec (.codeWith y cc maxL ret hh :: WW) rm).room, s, m, av.toArray, below, meth, c, vx_MQ below (aQ κ P) (aX κ (fun _ _ => False)) av.toArray s rm.cells rm.slots (kA κ)) ⟨B.exec, B.bytes, hml, hown, fun w hw => hts w (List.mem_cons_of_mem _ hw), hK, B.notSynchronized, rfl, hsz, hN, hl⟩ ⟨B.returns, Or.inr ⟨_, rfl⟩⟩ (vx_table (x := y) B (hts _ List.mem_cons_self))
  rw [lg_entry_eq]
  exact h1 s.heap [] _ hP hD va_S.rf hL
section ROWS8
variable {g : aG} {κ : aK} {own : String} {cc : ByteArray} {nL pc k n i k' n' : Nat} {rm : Room} {L L' : List (Nat × Value)} {st : List Value} {ws ws' w1 : va_W}
theorem a_catch (C : Cx g κ own cc nL rm) {hh : List (Nat × Nat × Nat × Nat)} (hT : (g_c g).exceptionTable.toList = tableOf hh) {E : String} (pre suf : List ExceptionTableEntry) (x : ExceptionTableEntry) (hsplit : tableOf hh = pre ++ x :: suf) (hpass : ∀ z ∈ pre, z.catchType ≠ 0 ∧ ∃ nm : String, Cond.classLink own z.catchType nm ∈ WW ∧ (E, nm) ∈ nxN) (hx : covers x pc = true) (h0 : x.catchType ≠ 0) (hlink : Cond.classLink own x.catchType E ∈ WW) (hE : E ∈ nxC) (kk : ∀ q, aw g κ nL x.handlerPc L [.ref q] ws k n) : ax g κ nL pc L st ws k n E := by
  obtain ⟨hx0, hb, hml, hown, hts, hK, hlk, hR, hz, hN, hfl⟩ := id C
  intro H locs ls q ce hP hD hS hl hq hv hc
  refine vx_catch (own := own) (name := E) hown pre x suf (hT.trans hsplit) (fun z hz => Or.inr ?_) hx h0 (hts _ hlink) (va_Nw.use rfl (hN.2.2.2.2.2 (.castable E E) (List.mem_append_left _ (List.mem_map.mpr ⟨E, hE, rfl⟩)))) hq hv hc (kk q H locs ls hP hD hS hl)
  obtain ⟨h1, nm, h2, h3⟩ := hpass z hz
  exact ⟨h1, nm, hts _ h2, hN.2.2.2.2.1 _ h3⟩
def YW (y : MethodName) (bytes : ByteArray) (maxL : Nat) (ret : Option FieldType) (hh : List (Nat × Nat × Nat × Nat)) (np : Nat) : Prop := Cond.codeWith y bytes maxL ret hh ∈ WW ∧ Cond.initialized y.cls ∈ WW ∧ y.cls ≠ "java/lang/invoke/MethodHandle" ∧ y.cls ≠ "java/lang/invoke/VarHandle" ∧ (parseMethodDescriptor y.desc).map (fun d => d.parameters.length) = some np
theorem a_callW (C : Cx g κ own cc nL rm) {y : MethodName} {bytes : ByteArray} {maxL index np : Nat} {ret : Option FieldType} {hh : List (Nat × Nat × Nat × Nat)} {rm' : Room} {As : List Value} {P : Option Value → va_W → Prop} (hM : CW y bytes maxL ret hh rm' κ As ws P) (Y : YW y bytes maxL ret hh np) (hl : Cond.methodLink own index y ∈ WW) (hs : Cond.static y ∈ WW)
    (hn : As.length = np) {st0 : List Value} (hs0 : st0 = As.reverse ++ st) (hroom : (st.map fun v => v.category).sum ≤ 8) (hf : rm'.frames + 1 ≤ rm.frames) (ho : 8 + (maxL + 11) + rm'.locals ≤ rm.locals) (hcs : k + rm'.cells ≤ rm.cells ∧ n + rm'.slots ≤ rm.slots) (hd : decode cc pc = .ok (.invokestatic index, 3))
    (kk : ∀ (ro : Option Value) (w : va_W), P ro w → aw g κ nL (pc + 3) L (ro.toList ++ st) w (k + rm'.cells) (n + rm'.slots)) : aw g κ nL pc L st0 ws k n := by
  obtain ⟨hx, hb, hml, hown, hts, hK, hlk, hR, hz, hN, hfl⟩ := id C
  have hG : GoodIn WW (va_wsS own index y (.codeWith y bytes maxL ret hh :: WW)) := fun w hw => by
    have h1 : w ∈ WW := by
      unfold va_wsS at hw
      rcases List.mem_append.mp hw with h | h
      · simp only [List.mem_cons, List.not_mem_nil, or_false] at h
        rcases h with rfl | rfl | rfl
        · exact hl
        · exact hs
        · exact Y.2.1
      · rcases List.mem_cons.mp h with rfl | h
        · exact Y.1
        · exact h
    exact ⟨h1, (ww_good h1).2⟩
  exact aw_xret (fun H locs ls hP hD hS hl' => vx_runSX ⟨hx, hb, hml, hown, hts⟩ (hM (g_l g) hfl) (vx_cwSW np hts hG rfl rfl rfl Y.2.2 ⟨by rw [hR]; exact hf, by rw [hR]; exact ho⟩) ⟨aPre_blind, fun U hU hW => ⟨rfl, aPre_at C hP hD hS U hU hW⟩⟩ rfl hn hl'.1 hs0 (lv_room hroom) hd (by rw [hR]; exact hcs)) kk (fun E w h => h.elim)
end ROWS8
