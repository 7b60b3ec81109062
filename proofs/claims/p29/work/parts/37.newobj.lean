/-! ROWS, SEVENTH: constructors -/
theorem ci_entry {y : MethodName} {cc : ByteArray} {maxL : Nat} {ret : Option FieldType} {rm : Room} {κ : aK} {av : List Value} {w0 : va_W} {P : Option Value → va_W → Prop} {own : String} {L : List (Nat × Value)} (hy : plainName y.cls = true) (ho : y.cls = own) (hi : y.name = "<init>")
    (hL : lv_has (lg_sl av ++ List.replicate (maxL - (lg_sl av).length) Slot.unset).toArray maxL L)
    (h : ∀ g : aG, Cx g κ own cc maxL rm → Rx g κ ret P rm.cells rm.slots → (g_h g).name = "<init>" → aw g κ maxL 0 L [] w0 0 0) : CM y cc maxL ret rm κ av w0 P := by
  intro l hl
  refine Met.ofW (cc := cc) (maxL := maxL) (ret := ret) hy rfl ?_
  intro p e s m args below meth c s₁ B hml hv
  obtain ⟨rfl, hsz, hP, hD, hK, hN⟩ := hv
  have hts := atoms_spec (ws := .code y cc maxL ret :: WW) B.pre
  have hown : s.vm.findClass own = some m.cls := by rw [← ho]; exact findClass_of_methodNamed B.named
  have h1 := h (p, l, e, (headSpec (.code y cc maxL ret :: WW) rm).room, s, m, av.toArray, below, meth, c, MQ below (aQ κ P) av.toArray s rm.cells rm.slots (kA κ)) ⟨B.exec, B.bytes, hml, hown, fun w hw => hts w (List.mem_cons_of_mem _ hw), hK, B.notSynchronized, rfl, hsz, hN, hl⟩ ⟨B.returns, Or.inl rfl⟩ ((name_of_methodNamed B.named B.method).1.trans hi)
  rw [lg_entry_eq]
  exact h1 s.heap [] _ hP hD va_S.rf hL
theorem fS_z : (fun _ => (0 : Int64)) = fS (fun _ _ => false) := by
  funext k
  exact bs_0
section ROWS7
variable {g : aG} {κ : aK} {own : String} {cc : ByteArray} {nL pc k n i k' n' : Nat} {rm : Room} {L L' : List (Nat × Value)} {st : List Value} {ws ws' w1 : va_W}
theorem a_newIN (C : Cx g κ own cc nL rm) {N : Nat} (hN : N < 1000) {ws' : Nat → va_W} (hw : ∀ q, (ws' q).Perm (ws ++ [(q, .inl (kI κ, N, .inl (fN (fun _ => 0))))])) (hc : k + 1 ≤ rm.cells) (hs : n + N ≤ rm.slots) (hd : decode cc pc = .ok (.newarray .int, 2)) (kk : ∀ q, aw g κ nL (pc + 2) L (.ref q :: st) (ws' q) (k + 1) (n + N)) : aw g κ nL pc L (.int (nI N) :: st) ws k n := a_newI C hN hw hc hs hd kk
theorem a_newJS (C : Cx g κ own cc nL rm) {N : Nat} (hN : N < 1000) {ws' : Nat → va_W} (hw : ∀ q, (ws' q).Perm (ws ++ [(q, .inl (kJ κ, N, .inr (.inl (fS (fun _ _ => false)))))])) (hc : k + 1 ≤ rm.cells) (hs : n + N ≤ rm.slots) (hd : decode cc pc = .ok (.newarray .long, 2)) (kk : ∀ q, aw g κ nL (pc + 2) L (.ref q :: st) (ws' q) (k + 1) (n + N)) : aw g κ nL pc L (.int (nI N) :: st) ws k n := a_newJ C hN (fun q => by rw [fS_z]; exact hw q) hc hs hd kk
theorem a_obj (C : Cx g κ own cc nL rm) {idx a : Nat} (hl : Cond.methodLink own idx objectInit ∈ WW) (hf : 1 ≤ rm.frames) (ho : (st.map fun v => v.category).sum + 12 ≤ rm.locals) (hd : decode cc pc = .ok (.invokespecial idx, 3)) (kk : aw g κ nL (pc + 3) L st ws k n) : aw g κ nL pc L (.ref a :: st) ws k n := by
  obtain ⟨hx, hb, hml, hown, hts, hK, hlk, hR, hz, hN, hfl⟩ := id C
  intro H locs ls hP hD hS hll
  refine W.objInit hx hb hown (hts _ hl) (hts _ wi_obj) (hts _ wc_obj) rfl (hll.1.trans hml.symm) rfl hd (by rw [hR]; exact hf) (by rw [hR]; show 2 * 0 + _ + 12 ≤ _; omega) ?_
  exact kk H locs ls hP hD hS hll
theorem a_newO (C : Cx g κ own cc nL rm) {index ci N : Nat} {Cn : String} {T : u_T} (hc : vwCl[ci]? = some (Cn, T, N)) (hin : ∀ w ∈ u_ws Cn T N, w ∈ WW) (ty : Nat → FieldType) (hty : ∀ k, k < N → parseFieldDescriptor (T k).2.2.1 = some (ty k)) (hcl : Cond.classLink own index Cn ∈ WW) (hinst : Cond.instantiable Cn N ∈ WW) (hini : Cond.initialized Cn ∈ WW) {fs : List Value} (hfs : ∀ j, j < N → defaultValue (ty j) = vp_V fs j) {ws' : Nat → va_W} (hw : ∀ q, (ws' q).Perm (ws ++ [(q, .inr (ci, fs))])) (hcc : k + 1 ≤ rm.cells) (hs : n + N ≤ rm.slots) (hd : decode cc pc = .ok (.new index, 3)) (kk : ∀ q, aw g κ nL (pc + 3) L (.ref q :: st) (ws' q) (k + 1) (n + N)) : aw g κ nL pc L st ws k n := by
  obtain ⟨hx, hb, hml, hown, hts, hK, hlk, hR, hz, hN, hfl⟩ := id C
  intro H locs ls hP hD hS hll
  exact va_new hx hb hts hin ty hty hown (hts _ hcl) (hts _ hinst) (hts _ hini) hK hP hD hS (fun q hq => Nat.le_trans hz hq) hc hfs (by rw [hR]; exact hcc) (by rw [hR]; exact hs) hd (fun q H1 hP1 hD1 hS1 => kk q H1 locs ls (wp_P (fun e he => (hw q).mem_iff.mp he) hP1) (wp_perm (hw q) hD1) hS1 hll)
end ROWS7
