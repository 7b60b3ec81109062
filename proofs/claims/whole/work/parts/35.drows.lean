/-! ROWS, SIXTH: a division that may draw a NaN's bits, at a method's end -/
def CMD (y : MethodName) (cc : ByteArray) (maxL : Nat) (ret : Option FieldType) (rm : Room) (κ : aK) (av : List Value) (w0 : va_W) (P : Option Value → va_W → Prop) : Prop := ∀ l : Launch, l.stackTraces = false → MetD lw_cs l y (.code y cc maxL ret :: WW) rm (va_Pc av (aPre κ w0)) (aQ κ P) rm.cells rm.slots (kA κ)
def RxD (g : aG) (κ : aK) (rt : Option FieldType) (P : Option Value → va_W → Prop) (mc ms : Nat) : Prop := (g_h g).sig.returnType = rt ∧ ∃ (s0 : State) (d0 : Drawn), g_s g = s0.setDrawn d0 ∧ s0.drawn.sameBut d0 lw_cs ∧ g_Q g = MQD lw_cs (g_b g) (aQ κ P) (g_a g) s0 mc ms (kA κ)
theorem cd_entry {y : MethodName} {cc : ByteArray} {maxL : Nat} {ret : Option FieldType} {rm : Room} {κ : aK} {av : List Value} {w0 : va_W} {P : Option Value → va_W → Prop} {own : String} {L : List (Nat × Value)} (hy : plainName y.cls = true) (ho : y.cls = own)
    (hL : lv_has (lg_sl av ++ List.replicate (maxL - (lg_sl av).length) Slot.unset).toArray maxL L)
    (h : ∀ g : aG, Cx g κ own cc maxL rm → RxD g κ ret P rm.cells rm.slots → aw g κ maxL 0 L [] w0 0 0) : CMD y cc maxL ret rm κ av w0 P := by
  intro l hl
  refine MetD.ofW (cc := cc) (maxL := maxL) (ret := ret) hy rfl ?_
  intro p e s m args below meth c s₁ B hml hv hd
  obtain ⟨rfl, hsz, hP, hD, hK, hN⟩ := hv
  have hts := dr_words (atoms_spec (ws := .code y cc maxL ret :: WW) B.pre) s.drawn
  have hown : (s.setDrawn s.drawn).vm.findClass own = some m.cls := by rw [← ho]; exact findClass_of_methodNamed B.named
  have h1 := h (p, l, e, (headSpec (.code y cc maxL ret :: WW) rm).room, s.setDrawn s.drawn, m, av.toArray, below, meth, c, MQD lw_cs below (aQ κ P) av.toArray s rm.cells rm.slots (kA κ)) ⟨B.exec, B.bytes, hml, hown, fun w hw => hts w (List.mem_cons_of_mem _ hw), hK, B.notSynchronized, rfl, hsz, hN, hl⟩ ⟨B.returns, s, s.drawn, rfl, hd, rfl⟩
  rw [lg_entry_eq]
  exact h1 s.heap [] _ hP hD va_S.rf hL
section ROWS6
variable {g : aG} {κ : aK} {own : String} {cc : ByteArray} {nL pc k n i k' n' : Nat} {rm : Room} {L L' : List (Nat × Value)} {st : List Value} {ws ws' w1 : va_W}
theorem a_dconst0 (C : Cx g κ own cc nL rm) (hd : decode cc pc = .ok (.dconst 0, 1)) (kk : aw g κ nL (pc + 1) L (.double FP.dconst0 :: st) ws k n) : aw g κ nL pc L st ws k n := fun H locs ls hP hD hS hl => lv_dconst0 C.1 C.2.1 hd (kk H locs ls hP hD hS hl)
theorem a_dretD (C : Cx g κ own cc nL rm) {P : Option Value → va_W → Prop} {mc ms : Nat} (E : RxD g κ (some .double) P mc ms) (hk : k ≤ mc) (hn : n ≤ ms) {v : UInt64} (hp : P (some (.double v)) ws) (hd : decode cc pc = .ok (.dreturn, 1)) : aw g κ nL pc L [.double v] ws k n := by
  obtain ⟨p, l, e, R, s, m, a, b, h, c, Q⟩ := g
  intro H locs ls hP hD hS hl
  obtain ⟨h1, s0, d0, e1, hd0, e2⟩ := E
  have e3 : s = s0.setDrawn d0 := e1
  have e4 : Q = MQD lw_cs b (aQ κ P) a s0 mc ms (kA κ) := e2
  clear e1 e2
  subst e3 e4
  exact W.endD hd0 (W.widen hk hn (W.dret C.1 C.2.1 h1 (fun t ht _ => aQ_at (g := (p, l, e, R, s0.setDrawn d0, m, a, b, h, c, fun _ => True)) hp hP hD hS t ht) hS.2.2 hd C.2.2.2.2.2.2.1))
theorem a_ddret (C : Cx g κ own cc nL rm) {P : Option Value → va_W → Prop} {mc ms : Nat} (E : RxD g κ (some .double) P mc ms) (hk : k ≤ mc) (hn : n ≤ ms) {x y : UInt64} (hp : ∀ r, alike64 r (FP.ddiv x y) = true → P (some (.double r)) ws) (hd : decode cc pc = .ok (.ddiv, 1)) (hd2 : decode cc (pc + 1) = .ok (.dreturn, 1)) : aw g κ nL pc L [.double y, .double x] ws k n := by
  obtain ⟨p, l, e, R, s, m, a, b, h, c, Q⟩ := g
  intro H locs ls hP hD hS hl
  obtain ⟨h1, s0, d0, e1, hd0, e2⟩ := E
  have e3 : s = s0.setDrawn d0 := e1
  have e4 : Q = MQD lw_cs b (aQ κ P) a s0 mc ms (kA κ) := e2
  clear e1 e2
  subst e3 e4
  exact lv_ddiv_any hd0 lw_bits C.1 C.2.1 hd (fun r d' hr hd' => W.endD hd' (W.widen hk hn (W.dret C.1 C.2.1 h1 (fun t ht _ => aQ_at (g := (p, l, e, R, s0.setDrawn d', m, a, b, h, c, fun _ => True)) (hp r hr) hP hD hS t ht) hS.2.2 hd2 C.2.2.2.2.2.2.1)))
end ROWS6
/-- the mean that both answer: of so many finds, whose heights have this sum -/
def mhP (f : Nat) (sum : Int32) (r : UInt64) : Prop := if f = 0 then r = FP.dconst0 else alike64 r (FP.ddiv (FP.i2d sum) (FP.i2d (nI f))) = true
