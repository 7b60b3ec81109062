/-! THE WALKER'S BASE: one bundle of what stays the same in a method's walk, and a row an instruction over it. -/
def WW : List Cond := lw_tbl.filter goodWord
theorem ww_in (i : Nat) {w : Cond} (h : lw_tbl[i]? = some w) (hg : goodWord w = true) : w ∈ WW := List.mem_filter.mpr ⟨List.mem_of_getElem? h, hg⟩
theorem ww_good {w : Cond} (h : w ∈ WW) : w ∈ lw_tbl ∧ ((w.onTables && w.keeps) = true ∨ ∃ ty, w = .arrayClass ty) := ⟨(List.mem_filter.mp h).1, good_of_word (List.mem_filter.mp h).2⟩
abbrev aK : Type := va_G × Nat × ClassId × ClassId × ClassId
abbrev kD (κ : aK) : va_G := κ.1
abbrev kB (κ : aK) : Nat := κ.2.1
abbrev kI (κ : aK) : ClassId := κ.2.2.1
abbrev kJ (κ : aK) : ClassId := κ.2.2.2.1
abbrev kA (κ : aK) : Nat → Prop := fun q => kB κ ≤ q
abbrev kT (κ : aK) : List (ClassId × FieldType) := [(kI κ, .int), (kJ κ, .long)]
def nestF : List (String × Nat × String × String × String) := []
def nestM : List (String × Nat × MethodName × String) := [(RX5, 9, yX4_init, RX5), (RX5, 18, yX3_init, RX5), (RX5, 25, yX2_init, RX5), (RX5, 32, yX1_init, RX5), (RX5, 39, yX0_init, RX5), (RX2, 40, yX5_has, RX5), (RX2, 97, yX5_bit, RX5), (RX0, 46, yX5_has, RX5), (RX4, 32, yX5_bit, RX5)]
def nxS : List (String × Nat × String) := []
def nxN : List (String × String) := []
def nxC : List String := []
def nxD : List MethodName := []
def oxL : List Cond := nxC.map (fun E => Cond.castable E E) ++ nxD.map (fun y => Cond.declares y)
theorem oxL_ot {w : Cond} (h : w ∈ oxL) : w.onTables = true := by
  rcases List.mem_append.mp h with h | h
  · obtain ⟨E, -, rfl⟩ := List.mem_map.mp h
    rfl
  · obtain ⟨y, -, rfl⟩ := List.mem_map.mp h
    rfl
theorem oxL_warm {w : Cond} (h : w ∈ oxL) {s U : State} (hW : s.WarmedH U.vm) (hw : va_Nw w s) : va_Nw w U := by
  rcases List.mem_append.mp h with h | h
  · obtain ⟨E, -, rfl⟩ := List.mem_map.mp h
    exact va_Nw.warmC hW hw
  · obtain ⟨y, -, rfl⟩ := List.mem_map.mp h
    exact va_Nw.warmD hW hw
def NX (κ : aK) (U : State) : Prop := (∀ t ∈ nestM, va_Nw (.methodLinkNest t.1 t.2.1 t.2.2.1 t.2.2.2) U) ∧ vx_Zq Bundle.tN "UNASSIGNED_STACK" Bundle.steD (kA κ) U U.heap ∧ vx_Zq Bundle.tN "SUPPRESSED_SENTINEL" Bundle.listD (kA κ) U U.heap ∧ (∀ t ∈ nxS, ∃ sa, vk_R t.1 t.2.1 t.2.2 sa U) ∧ (∀ t ∈ nxN, va_Nc t.1 t.2 U) ∧ (∀ w ∈ oxL, va_Nw w U)
theorem NX.calling {κ : aK} {U : State} (g : JFrame) (mk : MethodId) (a : Array Value) (h : NX κ U) : NX κ (U.calling g mk a) := by
  obtain ⟨h1, h2, h3, h4, h5, h6⟩ := h
  refine ⟨fun t ht => va_Nw.same (u := U) rfl rfl (h1 t ht), vx_Zq.moved (u := U) (Vm.Alike.refl U.vm) h2, vx_Zq.moved (u := U) (Vm.Alike.refl U.vm) h3, fun t ht => ?_, fun t ht => ?_, fun w hw => va_Nw.same (u := U) (oxL_ot hw) rfl (h6 w hw)⟩
  · obtain ⟨sa, q⟩ := h4 t ht
    exact ⟨sa, vk_R.same (u := U) rfl q⟩
  · exact h5 t ht
theorem va_Nc.warm {C T : String} {s U : State} (hW : s.WarmedH U.vm) (h : va_Nc C T s) : va_Nc C T U := by
  obtain ⟨c, t, h1, h2, h3⟩ := h
  exact ⟨c, t, by rw [hW.alike.findClass]; exact h1, by rw [hW.alike.findClass]; exact h2, by rw [hW.alike.assignable]; exact h3⟩
theorem NX.warm {κ : aK} {s U : State} {H : Heap} {locs : List Loc} (hW : s.WarmedH U.vm) (hU : U.heap = H) (hS : va_S (kA κ) s.heap H locs) (h : NX κ s) : NX κ U := by
  obtain ⟨h1, h2, h3, h4, h5, h6⟩ := h
  refine ⟨fun t ht => va_Nw.warmM hW (h1 t ht), ?_, ?_, fun t ht => ?_, fun t ht => va_Nc.warm hW (h5 t ht), fun w hw => oxL_warm hw hW (h6 w hw)⟩
  · rw [hU]; exact vx_Zq.moved hW.alike (h2.kept hS.2.1)
  · rw [hU]; exact vx_Zq.moved hW.alike (h3.kept hS.2.1)
  · obtain ⟨sa, q⟩ := h4 t ht
    exact ⟨sa, vk_R.warm hW q⟩
/-- what a method finds: the world w, at addresses from kB on, and what the tables say -/
def aPre (κ : aK) (w : va_W) (U : State) : Prop := kB κ ≤ U.heap.size ∧ va_P (kD κ) vwCl w U.heap ∧ va_D (kA κ) w ∧ va_K (kD κ) vwCl (kT κ) U ∧ NX κ U
/-- what a method leaves: an answer and a world -/
def aQ (κ : aK) (P : Option Value → va_W → Prop) : Array Value → State → Outcome → State → Prop := fun _ st oc t => (∃ (ro : Option Value) (w : va_W), oc = .returned ro ∧ P ro w ∧ va_P (kD κ) vwCl w t.heap ∧ va_D (kA κ) w) ∧ va_F (kA κ) st t
def aX (κ : aK) (P : String → va_W → Prop) : String → State → State → Prop := fun E st t => (∃ w : va_W, P E w ∧ va_P (kD κ) vwCl w t.heap ∧ va_D (kA κ) w) ∧ va_F (kA κ) st t
abbrev aD (ro : Option Value) (w : va_W) : Option Value → va_W → Prop := fun r v => r = ro ∧ v = w
/-- a contract: y, from the world w0, returns what P says -/
def CM (y : MethodName) (cc : ByteArray) (maxL : Nat) (ret : Option FieldType) (rm : Room) (κ : aK) (av : List Value) (w0 : va_W) (P : Option Value → va_W → Prop) : Prop := ∀ l : Launch, l.stackTraces = false → Met l y (.code y cc maxL ret :: WW) rm (va_Pc av (aPre κ w0)) (aQ κ P) rm.cells rm.slots (kA κ)
/-- .. or throws what PX says -/
def CX (y : MethodName) (cc : ByteArray) (maxL : Nat) (ret : Option FieldType) (rm : Room) (κ : aK) (av : List Value) (w0 : va_W) (P : Option Value → va_W → Prop) (PX : String → va_W → Prop) : Prop := ∀ l : Launch, l.stackTraces = false → vx_Met l y (.code y cc maxL ret :: WW) rm (va_Pc av (aPre κ w0)) (aQ κ P) (aX κ PX) rm.cells rm.slots (kA κ)
abbrev aG : Type := Program × Launch × Env × Room × State × MethodId × Array Value × List Frame × Method × Code × (State → Prop)
abbrev g_p (g : aG) : Program := g.1
abbrev g_l (g : aG) : Launch := g.2.1
abbrev g_e (g : aG) : Env := g.2.2.1
abbrev g_R (g : aG) : Room := g.2.2.2.1
abbrev g_s (g : aG) : State := g.2.2.2.2.1
abbrev g_m (g : aG) : MethodId := g.2.2.2.2.2.1
abbrev g_a (g : aG) : Array Value := g.2.2.2.2.2.2.1
abbrev g_b (g : aG) : List Frame := g.2.2.2.2.2.2.2.1
abbrev g_h (g : aG) : Method := g.2.2.2.2.2.2.2.2.1
abbrev g_c (g : aG) : Code := g.2.2.2.2.2.2.2.2.2.1
abbrev g_Q (g : aG) : State → Prop := g.2.2.2.2.2.2.2.2.2.2
abbrev gW (g : aG) (H : Heap) (locs : List Loc) (k n : Nat) (f : JFrame) : Prop := W (g_p g) (g_l g) (g_e g) (g_R g) (g_s g) (g_m g) (g_a g) (g_b g) (g_h g) (g_c g) H locs k n (g_Q g) f
/-- what stays the same in a walk -/
def Cx (g : aG) (κ : aK) (own : String) (cc : ByteArray) (nL : Nat) (rm : Room) : Prop := (g_p g).tables.exec = Jvm.exec ∧ (g_c g).code = cc ∧ (g_c g).maxLocals = nL ∧ (g_s g).vm.findClass own = some (g_m g).cls ∧ (∀ w ∈ WW, w.before (g_a g) (g_s g) = true) ∧ va_K (kD κ) vwCl (kT κ) (g_s g) ∧ (g_h g).locks = false ∧ g_R g = rm ∧ kB κ ≤ (g_s g).heap.size ∧ NX κ (g_s g) ∧ (g_l g).stackTraces = false
/-- the judgement: from here, with these locals, this stack, this world, the machine comes to the end that is asked -/
def aw (g : aG) (κ : aK) (nL pc : Nat) (L : List (Nat × Value)) (st : List Value) (ws : va_W) (k n : Nat) : Prop := ∀ (H : Heap) (locs : List Loc) (ls : Array Slot), va_P (kD κ) vwCl ws H → va_D (kA κ) ws → va_S (kA κ) (g_s g).heap H locs → lv_has ls nL L → gW g H locs k n (F0 (g_m g) pc ls st)
/-- the method's own end -/
def Rx (g : aG) (κ : aK) (rt : Option FieldType) (P : Option Value → va_W → Prop) (mc ms : Nat) : Prop := (g_h g).sig.returnType = rt ∧ ((g_Q g = MQ (g_b g) (aQ κ P) (g_a g) (g_s g) mc ms (kA κ)) ∨ ∃ PX, g_Q g = vx_MQ (g_b g) (aQ κ P) (aX κ PX) (g_a g) (g_s g) mc ms (kA κ))
def RX (g : aG) (κ : aK) (PX : String → va_W → Prop) (mc ms : Nat) : Prop := (∀ x ∈ (g_c g).exceptionTable.toList, False) ∧ ∃ P, g_Q g = vx_MQ (g_b g) (aQ κ P) (aX κ PX) (g_a g) (g_s g) mc ms (kA κ)
/-- the entry of a method that returns -/
theorem cm_entry {y : MethodName} {cc : ByteArray} {maxL : Nat} {ret : Option FieldType} {rm : Room} {κ : aK} {av : List Value} {w0 : va_W} {P : Option Value → va_W → Prop} {own : String} {L : List (Nat × Value)} (hy : plainName y.cls = true) (ho : y.cls = own)
    (hL : lv_has (lg_sl av ++ List.replicate (maxL - (lg_sl av).length) Slot.unset).toArray maxL L)
    (h : ∀ g : aG, Cx g κ own cc maxL rm → Rx g κ ret P rm.cells rm.slots → aw g κ maxL 0 L [] w0 0 0) : CM y cc maxL ret rm κ av w0 P := by
  intro l hl
  refine Met.ofW (cc := cc) (maxL := maxL) (ret := ret) hy rfl ?_
  intro p e s m args below meth c s₁ B hml hv
  obtain ⟨rfl, hsz, hP, hD, hK, hN⟩ := hv
  have hts := atoms_spec (ws := .code y cc maxL ret :: WW) B.pre
  have hown : s.vm.findClass own = some m.cls := by rw [← ho]; exact findClass_of_methodNamed B.named
  have h1 := h (p, l, e, (headSpec (.code y cc maxL ret :: WW) rm).room, s, m, av.toArray, below, meth, c, MQ below (aQ κ P) av.toArray s rm.cells rm.slots (kA κ)) ⟨B.exec, B.bytes, hml, hown, fun w hw => hts w (List.mem_cons_of_mem _ hw), hK, B.notSynchronized, rfl, hsz, hN, hl⟩ ⟨B.returns, Or.inl rfl⟩
  rw [lg_entry_eq]
  exact h1 s.heap [] _ hP hD va_S.rf hL
/-- the entry of a method that returns or throws -/
theorem cx_entry {y : MethodName} {cc : ByteArray} {maxL : Nat} {ret : Option FieldType} {rm : Room} {κ : aK} {av : List Value} {w0 : va_W} {P : Option Value → va_W → Prop} {PX : String → va_W → Prop} {own : String} {L : List (Nat × Value)} (hy : plainName y.cls = true) (ho : y.cls = own)
    (hL : lv_has (lg_sl av ++ List.replicate (maxL - (lg_sl av).length) Slot.unset).toArray maxL L)
    (h : ∀ g : aG, Cx g κ own cc maxL rm → Rx g κ ret P rm.cells rm.slots → RX g κ PX rm.cells rm.slots → aw g κ maxL 0 L [] w0 0 0) : CX y cc maxL ret rm κ av w0 P PX := by
  intro l hl
  refine vx_ofW (cc := cc) (maxL := maxL) (ret := ret) hy rfl ?_
  intro p e s m args below meth c s₁ B hml het hv
  obtain ⟨rfl, hsz, hP, hD, hK, hN⟩ := hv
  have hts := atoms_spec (ws := .code y cc maxL ret :: WW) B.pre
  have hown : s.vm.findClass own = some m.cls := by rw [← ho]; exact findClass_of_methodNamed B.named
  have h1 := h (p, l, e, (headSpec (.code y cc maxL ret :: WW) rm).room, s, m, av.toArray, below, meth, c, vx_MQ below (aQ κ P) (aX κ PX) av.toArray s rm.cells rm.slots (kA κ)) ⟨B.exec, B.bytes, hml, hown, fun w hw => hts w (List.mem_cons_of_mem _ hw), hK, B.notSynchronized, rfl, hsz, hN, hl⟩ ⟨B.returns, Or.inr ⟨PX, rfl⟩⟩ ⟨het, P, rfl⟩
  rw [lg_entry_eq]
  exact h1 s.heap [] _ hP hD va_S.rf hL
section ROWS
variable {g : aG} {κ : aK} {own : String} {cc : ByteArray} {nL pc k n i : Nat} {rm : Room} {L L' : List (Nat × Value)} {st : List Value} {ws ws' : va_W}
/-- no need of a state's world: nothing of it is used -/
theorem aw_world (h : ∀ H, va_P (kD κ) vwCl ws H → va_P (kD κ) vwCl ws' H) (hd : va_D (kA κ) ws → va_D (kA κ) ws') (kk : aw g κ nL pc L st ws' k n) : aw g κ nL pc L st ws k n := fun H locs ls hP hD hS hl => kk H locs ls (h H hP) (hd hD) hS hl
theorem aw_locals (ks : List Nat) (hL : lv_pick L ks = L') (kk : aw g κ nL pc L' st ws k n) : aw g κ nL pc L st ws k n := fun H locs ls hP hD hS hl => kk H locs ls hP hD hS (lv_sub hl ks hL)
theorem aw_room {k' n' : Nat} (h1 : k ≤ k') (h2 : n ≤ n') (kk : aw g κ nL pc L st ws k' n') : aw g κ nL pc L st ws k n := fun H locs ls hP hD hS hl => W.widen h1 h2 (kk H locs ls hP hD hS hl)
theorem aw_eq (e : ws = ws') (kk : aw g κ nL pc L st ws' k n) : aw g κ nL pc L st ws k n := e ▸ kk
theorem a_iload (C : Cx g κ own cc nL rm) {j : Nat} {x : Int32} (j0 : Nat) (hj : L[j0]? = some (j, .int x)) (hd : decode cc pc = .ok (.iload j, 2)) (kk : aw g κ nL (pc + 2) L (.int x :: st) ws k n) : aw g κ nL pc L st ws k n := fun H locs ls hP hD hS hl => lv_iload C.1 C.2.1 hd (lv_at hl j0 hj) (kk H locs ls hP hD hS hl)
theorem a_iloadn (C : Cx g κ own cc nL rm) {q : Fin 4} {j : Nat} {x : Int32} (j0 : Nat) (hj : L[j0]? = some (j, .int x)) (hq : (q : Nat) = j) (hd : decode cc pc = .ok (.iload_n q, 1)) (kk : aw g κ nL (pc + 1) L (.int x :: st) ws k n) : aw g κ nL pc L st ws k n := fun H locs ls hP hD hS hl => lv_iload_n C.1 C.2.1 hd hq (lv_at hl j0 hj) (kk H locs ls hP hD hS hl)
theorem a_lload (C : Cx g κ own cc nL rm) {j : Nat} {x : Int64} (j0 : Nat) (hj : L[j0]? = some (j, .long x)) (hd : decode cc pc = .ok (.lload j, 2)) (kk : aw g κ nL (pc + 2) L (.long x :: st) ws k n) : aw g κ nL pc L st ws k n := fun H locs ls hP hD hS hl => lv_lload C.1 C.2.1 hd (lv_at hl j0 hj) (kk H locs ls hP hD hS hl)
theorem a_lloadn (C : Cx g κ own cc nL rm) {q : Fin 4} {j : Nat} {x : Int64} (j0 : Nat) (hj : L[j0]? = some (j, .long x)) (hq : (q : Nat) = j) (hd : decode cc pc = .ok (.lload_n q, 1)) (kk : aw g κ nL (pc + 1) L (.long x :: st) ws k n) : aw g κ nL pc L st ws k n := fun H locs ls hP hD hS hl => lv_lload_n C.1 C.2.1 hd hq (lv_at hl j0 hj) (kk H locs ls hP hD hS hl)
theorem a_aload (C : Cx g κ own cc nL rm) {j : Nat} {x : Nat} (j0 : Nat) (hj : L[j0]? = some (j, .ref x)) (hd : decode cc pc = .ok (.aload j, 2)) (kk : aw g κ nL (pc + 2) L (.ref x :: st) ws k n) : aw g κ nL pc L st ws k n := fun H locs ls hP hD hS hl => lv_aload C.1 C.2.1 hd (lv_at hl j0 hj) (kk H locs ls hP hD hS hl)
theorem a_aloadn (C : Cx g κ own cc nL rm) {q : Fin 4} {j : Nat} {x : Nat} (j0 : Nat) (hj : L[j0]? = some (j, .ref x)) (hq : (q : Nat) = j) (hd : decode cc pc = .ok (.aload_n q, 1)) (kk : aw g κ nL (pc + 1) L (.ref x :: st) ws k n) : aw g κ nL pc L st ws k n := fun H locs ls hP hD hS hl => lv_aload_n C.1 C.2.1 hd hq (lv_at hl j0 hj) (kk H locs ls hP hD hS hl)
theorem a_dload (C : Cx g κ own cc nL rm) {j : Nat} {x : UInt64} (j0 : Nat) (hj : L[j0]? = some (j, .double x)) (hd : decode cc pc = .ok (.dload j, 2)) (kk : aw g κ nL (pc + 2) L (.double x :: st) ws k n) : aw g κ nL pc L st ws k n := fun H locs ls hP hD hS hl => lv_dload C.1 C.2.1 hd (lv_at hl j0 hj) (kk H locs ls hP hD hS hl)
theorem a_iconst (C : Cx g κ own cc nL rm) {z : Int} {v : Int32} (hv : Int32.ofInt z = v) (hd : decode cc pc = .ok (.iconst z, 1)) (kk : aw g κ nL (pc + 1) L (.int v :: st) ws k n) : aw g κ nL pc L st ws k n := fun H locs ls hP hD hS hl => lv_iconst C.1 C.2.1 hd hv (kk H locs ls hP hD hS hl)
theorem a_bipush (C : Cx g κ own cc nL rm) {z : Int} {v : Int32} (hv : (Int8.ofInt z).toInt32 = v) (hd : decode cc pc = .ok (.bipush z, 2)) (kk : aw g κ nL (pc + 2) L (.int v :: st) ws k n) : aw g κ nL pc L st ws k n := fun H locs ls hP hD hS hl => lv_bipush C.1 C.2.1 hd hv (kk H locs ls hP hD hS hl)
theorem a_sipush (C : Cx g κ own cc nL rm) {z : Int} {v : Int32} (hv : (Int16.ofInt z).toInt32 = v) (hd : decode cc pc = .ok (.sipush z, 3)) (kk : aw g κ nL (pc + 3) L (.int v :: st) ws k n) : aw g κ nL pc L st ws k n := fun H locs ls hP hD hS hl => lv_sipush C.1 C.2.1 hd hv (kk H locs ls hP hD hS hl)
theorem a_lconst (C : Cx g κ own cc nL rm) {z : Fin 2} {v : Int64} (hv : Int64.ofNat (z : Nat) = v) (hd : decode cc pc = .ok (.lconst z, 1)) (kk : aw g κ nL (pc + 1) L (.long v :: st) ws k n) : aw g κ nL pc L st ws k n := fun H locs ls hP hD hS hl => lv_lconst C.1 C.2.1 hd hv (kk H locs ls hP hD hS hl)
theorem a_ldc2 (C : Cx g κ own cc nL rm) {index : Nat} {v : Int64} (hw : Cond.constantLong own index v ∈ WW) (hd : decode cc pc = .ok (.ldc2_w index, 3)) (kk : aw g κ nL (pc + 3) L (.long v :: st) ws k n) : aw g κ nL pc L st ws k n := fun H locs ls hP hD hS hl => lv_ldc2 C.1 C.2.1 C.2.2.2.1 (C.2.2.2.2.1 _ hw) hd (kk H locs ls hP hD hS hl)
/-- a store: the others stay but what it covers; the list stays in the order of the slots -/
def lfil (i : Nat) (L : List (Nat × Value)) : List (Nat × Value) := L.filter (fun q => !(q.1 == i) && !(q.1 + 1 == i && q.2.category == 2))
def lfil2 (i : Nat) (L : List (Nat × Value)) : List (Nat × Value) := L.filter (fun q => !(q.1 == i) && (!(q.1 == i + 1) && !(q.1 + 1 == i && q.2.category == 2)))
def lput (i : Nat) (v : Value) : List (Nat × Value) → List (Nat × Value)
  | [] => [(i, v)]
  | q :: r => if i < q.1 then (i, v) :: q :: r else q :: lput i v r
theorem lput_mem {i : Nat} {v : Value} : ∀ {l : List (Nat × Value)} {q : Nat × Value}, q ∈ lput i v l → q ∈ (i, v) :: l
  | [], q, h => h
  | p :: r, q, h => by
    unfold lput at h
    by_cases c : i < p.1
    · rw [if_pos c] at h; exact h
    · rw [if_neg c] at h
      rcases List.mem_cons.mp h with rfl | h
      · exact List.mem_cons_of_mem _ List.mem_cons_self
      · rcases List.mem_cons.mp (lput_mem h) with rfl | h
        · exact List.mem_cons_self
        · exact List.mem_cons_of_mem _ (List.mem_cons_of_mem _ h)
theorem lput_has {ls : Array Slot} {nL i : Nat} {v : Value} {l L' : List (Nat × Value)} (h : lv_has ls nL ((i, v) :: l)) (e : lput i v l = L') : lv_has ls nL L' := ⟨h.1, h.2.1, fun q hq => h.2.2 q (lput_mem (by rw [e]; exact hq))⟩
theorem a_istore (C : Cx g κ own cc nL rm) {j : Nat} {x : Int32} (hj : j < nL) (hL : lput j (.int x) (lfil j L) = L') (hd : decode cc pc = .ok (.istore j, 2)) (kk : aw g κ nL (pc + 2) L' st ws k n) : aw g κ nL pc L (.int x :: st) ws k n := fun H locs ls hP hD hS hl => lv_istore C.1 C.2.1 hd hl hj rfl (fun ls' hl' => kk H locs ls' hP hD hS (lput_has hl' hL))
theorem a_istoren (C : Cx g κ own cc nL rm) {q : Fin 4} {j : Nat} {x : Int32} (hj : j < nL) (hL : lput j (.int x) (lfil j L) = L') (hq : (q : Nat) = j) (hd : decode cc pc = .ok (.istore_n q, 1)) (kk : aw g κ nL (pc + 1) L' st ws k n) : aw g κ nL pc L (.int x :: st) ws k n := fun H locs ls hP hD hS hl => lv_istore_n C.1 C.2.1 hd hq hl hj rfl (fun ls' hl' => kk H locs ls' hP hD hS (lput_has hl' hL))
theorem a_astore (C : Cx g κ own cc nL rm) {j : Nat} {x : Nat} (hj : j < nL) (hL : lput j (.ref x) (lfil j L) = L') (hd : decode cc pc = .ok (.astore j, 2)) (kk : aw g κ nL (pc + 2) L' st ws k n) : aw g κ nL pc L (.ref x :: st) ws k n := fun H locs ls hP hD hS hl => lv_astore C.1 C.2.1 hd hl hj rfl (fun ls' hl' => kk H locs ls' hP hD hS (lput_has hl' hL))
theorem a_astoren (C : Cx g κ own cc nL rm) {q : Fin 4} {j : Nat} {x : Nat} (hj : j < nL) (hL : lput j (.ref x) (lfil j L) = L') (hq : (q : Nat) = j) (hd : decode cc pc = .ok (.astore_n q, 1)) (kk : aw g κ nL (pc + 1) L' st ws k n) : aw g κ nL pc L (.ref x :: st) ws k n := fun H locs ls hP hD hS hl => lv_astore_n C.1 C.2.1 hd hq hl hj rfl (fun ls' hl' => kk H locs ls' hP hD hS (lput_has hl' hL))
theorem a_lstore (C : Cx g κ own cc nL rm) {j : Nat} {x : Int64} (hj : j + 1 < nL) (hL : lput j (.long x) (lfil2 j L) = L') (hd : decode cc pc = .ok (.lstore j, 2)) (kk : aw g κ nL (pc + 2) L' st ws k n) : aw g κ nL pc L (.long x :: st) ws k n := fun H locs ls hP hD hS hl => lv_lstore C.1 C.2.1 hd hl hj rfl (fun ls' hl' => kk H locs ls' hP hD hS (lput_has hl' hL))
theorem a_lstoren (C : Cx g κ own cc nL rm) {q : Fin 4} {j : Nat} {x : Int64} (hj : j + 1 < nL) (hL : lput j (.long x) (lfil2 j L) = L') (hq : (q : Nat) = j) (hd : decode cc pc = .ok (.lstore_n q, 1)) (kk : aw g κ nL (pc + 1) L' st ws k n) : aw g κ nL pc L (.long x :: st) ws k n := fun H locs ls hP hD hS hl => lv_lstore_n C.1 C.2.1 hd hq hl hj rfl (fun ls' hl' => kk H locs ls' hP hD hS (lput_has hl' hL))
theorem a_dstore (C : Cx g κ own cc nL rm) {j : Nat} {x : UInt64} (hj : j + 1 < nL) (hL : lput j (.double x) (lfil2 j L) = L') (hd : decode cc pc = .ok (.dstore j, 2)) (kk : aw g κ nL (pc + 2) L' st ws k n) : aw g κ nL pc L (.double x :: st) ws k n := fun H locs ls hP hD hS hl => lv_dstore C.1 C.2.1 hd hl hj rfl (fun ls' hl' => kk H locs ls' hP hD hS (lput_has hl' hL))
theorem a_iinc (C : Cx g κ own cc nL rm) {j : Nat} {z : Int} {x v : Int32} (j0 : Nat) (hj : L[j0]? = some (j, .int x)) (hv : x + Int32.ofInt z = v) (hn : j < nL) (hL : lput j (.int v) (lfil j L) = L') (hd : decode cc pc = .ok (.iinc j z, 3)) (kk : aw g κ nL (pc + 3) L' st ws k n) : aw g κ nL pc L st ws k n := fun H locs ls hP hD hS hl => lv_iinc C.1 C.2.1 hd hl hj hv hn rfl (fun ls' hl' => kk H locs ls' hP hD hS (lput_has hl' hL))
theorem nI_inc (a : Nat) : nI a + Int32.ofInt 1 = nI (a + 1) := nI_1 a
theorem a_dup (C : Cx g κ own cc nL rm) {v : Value} (hv : v.category = 1) (hd : decode cc pc = .ok (.dup, 1)) (kk : aw g κ nL (pc + 1) L (v :: v :: st) ws k n) : aw g κ nL pc L (v :: st) ws k n := fun H locs ls hP hD hS hl => lv_dup C.1 C.2.1 hd hv (kk H locs ls hP hD hS hl)
theorem a_pop (C : Cx g κ own cc nL rm) {v : Value} (hv : v.category = 1) (hd : decode cc pc = .ok (.pop, 1)) (kk : aw g κ nL (pc + 1) L st ws k n) : aw g κ nL pc L (v :: st) ws k n := fun H locs ls hP hD hS hl => lv_pop C.1 C.2.1 hd hv (kk H locs ls hP hD hS hl)
theorem a_iadd (C : Cx g κ own cc nL rm) {x y v : Int32} (hv : x + y = v) (hd : decode cc pc = .ok (.iadd, 1)) (kk : aw g κ nL (pc + 1) L (.int v :: st) ws k n) : aw g κ nL pc L (.int y :: .int x :: st) ws k n := fun H locs ls hP hD hS hl => lv_iadd C.1 C.2.1 hd (by rw [hv]; exact kk H locs ls hP hD hS hl)
theorem a_isub (C : Cx g κ own cc nL rm) {x y v : Int32} (hv : x - y = v) (hd : decode cc pc = .ok (.isub, 1)) (kk : aw g κ nL (pc + 1) L (.int v :: st) ws k n) : aw g κ nL pc L (.int y :: .int x :: st) ws k n := fun H locs ls hP hD hS hl => lv_isub C.1 C.2.1 hd (by rw [hv]; exact kk H locs ls hP hD hS hl)
theorem a_imul (C : Cx g κ own cc nL rm) {x y v : Int32} (hv : x * y = v) (hd : decode cc pc = .ok (.imul, 1)) (kk : aw g κ nL (pc + 1) L (.int v :: st) ws k n) : aw g κ nL pc L (.int y :: .int x :: st) ws k n := fun H locs ls hP hD hS hl => lv_imul C.1 C.2.1 hd (by rw [hv]; exact kk H locs ls hP hD hS hl)
theorem a_iand (C : Cx g κ own cc nL rm) {x y v : Int32} (hv : x &&& y = v) (hd : decode cc pc = .ok (.iand, 1)) (kk : aw g κ nL (pc + 1) L (.int v :: st) ws k n) : aw g κ nL pc L (.int y :: .int x :: st) ws k n := fun H locs ls hP hD hS hl => lv_iand C.1 C.2.1 hd (by rw [hv]; exact kk H locs ls hP hD hS hl)
theorem a_ladd (C : Cx g κ own cc nL rm) {x y v : Int64} (hv : x + y = v) (hd : decode cc pc = .ok (.ladd, 1)) (kk : aw g κ nL (pc + 1) L (.long v :: st) ws k n) : aw g κ nL pc L (.long y :: .long x :: st) ws k n := fun H locs ls hP hD hS hl => lv_ladd C.1 C.2.1 hd (by rw [hv]; exact kk H locs ls hP hD hS hl)
theorem a_lsub (C : Cx g κ own cc nL rm) {x y v : Int64} (hv : x - y = v) (hd : decode cc pc = .ok (.lsub, 1)) (kk : aw g κ nL (pc + 1) L (.long v :: st) ws k n) : aw g κ nL pc L (.long y :: .long x :: st) ws k n := fun H locs ls hP hD hS hl => lv_lsub C.1 C.2.1 hd (by rw [hv]; exact kk H locs ls hP hD hS hl)
theorem a_lmul (C : Cx g κ own cc nL rm) {x y v : Int64} (hv : x * y = v) (hd : decode cc pc = .ok (.lmul, 1)) (kk : aw g κ nL (pc + 1) L (.long v :: st) ws k n) : aw g κ nL pc L (.long y :: .long x :: st) ws k n := fun H locs ls hP hD hS hl => lv_lmul C.1 C.2.1 hd (by rw [hv]; exact kk H locs ls hP hD hS hl)
theorem a_lor (C : Cx g κ own cc nL rm) {x y v : Int64} (hv : x ||| y = v) (hd : decode cc pc = .ok (.lor, 1)) (kk : aw g κ nL (pc + 1) L (.long v :: st) ws k n) : aw g κ nL pc L (.long y :: .long x :: st) ws k n := fun H locs ls hP hD hS hl => lv_lor C.1 C.2.1 hd (by rw [hv]; exact kk H locs ls hP hD hS hl)
theorem a_land (C : Cx g κ own cc nL rm) {x y v : Int64} (hv : x &&& y = v) (hd : decode cc pc = .ok (.land, 1)) (kk : aw g κ nL (pc + 1) L (.long v :: st) ws k n) : aw g κ nL pc L (.long y :: .long x :: st) ws k n := fun H locs ls hP hD hS hl => lv_land C.1 C.2.1 hd (by rw [hv]; exact kk H locs ls hP hD hS hl)
theorem a_lxor (C : Cx g κ own cc nL rm) {x y v : Int64} (hv : x ^^^ y = v) (hd : decode cc pc = .ok (.lxor, 1)) (kk : aw g κ nL (pc + 1) L (.long v :: st) ws k n) : aw g κ nL pc L (.long y :: .long x :: st) ws k n := fun H locs ls hP hD hS hl => lv_lxor C.1 C.2.1 hd (by rw [hv]; exact kk H locs ls hP hD hS hl)
theorem a_lshl (C : Cx g κ own cc nL rm) {x v : Int64} {y : Int32} (hv : x <<< (y.toInt64 &&& 63) = v) (hd : decode cc pc = .ok (.lshl, 1)) (kk : aw g κ nL (pc + 1) L (.long v :: st) ws k n) : aw g κ nL pc L (.int y :: .long x :: st) ws k n := fun H locs ls hP hD hS hl => lv_lshl C.1 C.2.1 hd hv (kk H locs ls hP hD hS hl)
theorem a_lshr (C : Cx g κ own cc nL rm) {x v : Int64} {y : Int32} (hv : x >>> (y.toInt64 &&& 63) = v) (hd : decode cc pc = .ok (.lshr, 1)) (kk : aw g κ nL (pc + 1) L (.long v :: st) ws k n) : aw g κ nL pc L (.int y :: .long x :: st) ws k n := fun H locs ls hP hD hS hl => lv_lshr C.1 C.2.1 hd hv (kk H locs ls hP hD hS hl)
theorem a_lushr (C : Cx g κ own cc nL rm) {x v : Int64} {y : Int32} (hv : (x.toUInt64 >>> (y.toInt64.toUInt64 &&& Int64.toUInt64 63)).toInt64 = v) (hd : decode cc pc = .ok (.lushr, 1)) (kk : aw g κ nL (pc + 1) L (.long v :: st) ws k n) : aw g κ nL pc L (.int y :: .long x :: st) ws k n := fun H locs ls hP hD hS hl => lv_lushr C.1 C.2.1 hd hv (kk H locs ls hP hD hS hl)
theorem a_l2i (C : Cx g κ own cc nL rm) {x : Int64} {v : Int32} (hv : x.toInt32 = v) (hd : decode cc pc = .ok (.l2i, 1)) (kk : aw g κ nL (pc + 1) L (.int v :: st) ws k n) : aw g κ nL pc L (.long x :: st) ws k n := fun H locs ls hP hD hS hl => lv_l2i C.1 C.2.1 hd hv (kk H locs ls hP hD hS hl)
theorem a_i2l (C : Cx g κ own cc nL rm) {x : Int32} {v : Int64} (hv : x.toInt64 = v) (hd : decode cc pc = .ok (.i2l, 1)) (kk : aw g κ nL (pc + 1) L (.long v :: st) ws k n) : aw g κ nL pc L (.int x :: st) ws k n := fun H locs ls hP hD hS hl => lv_i2l C.1 C.2.1 hd hv (kk H locs ls hP hD hS hl)
theorem a_i2d (C : Cx g κ own cc nL rm) {x : Int32} (hd : decode cc pc = .ok (.i2d, 1)) (kk : aw g κ nL (pc + 1) L (.double (FP.i2d x) :: st) ws k n) : aw g κ nL pc L (.int x :: st) ws k n := fun H locs ls hP hD hS hl => lv_i2d C.1 C.2.1 hd (kk H locs ls hP hD hS hl)
theorem a_lcmp (C : Cx g κ own cc nL rm) {x y : Int64} {v : Int32} (hv : lg_cmp x y = v) (hd : decode cc pc = .ok (.lcmp, 1)) (kk : aw g κ nL (pc + 1) L (.int v :: st) ws k n) : aw g κ nL pc L (.long y :: .long x :: st) ws k n := fun H locs ls hP hD hS hl => W.lcmp C.1 C.2.1 hd (by rw [hv]; exact kk H locs ls hP hD hS hl)
theorem a_goto (C : Cx g κ own cc nL rm) {off : Int} {tgt : Nat} (ht : (pc : Int) + off = (tgt : Int)) (hd : decode cc pc = .ok (.goto off, 3)) (kk : aw g κ nL tgt L st ws k n) : aw g κ nL pc L st ws k n := fun H locs ls hP hD hS hl => lv_goto C.1 C.2.1 hd ht (kk H locs ls hP hD hS hl)
end ROWS
/-! a field's link (the class's number, the field's place); a field's type, whether final; a callee's words and descriptor -/
def FL (own : String) (idx ci fi : Nat) : Prop := ∃ (Cn : String) (T : u_T) (N : Nat) (ty : Nat → FieldType), vwCl[ci]? = some (Cn, T, N) ∧ fi < N ∧ (∀ w ∈ u_ws Cn T N, w ∈ WW) ∧ (T fi).1 = Cn ∧ Cond.fieldLink own idx Cn (T fi).2.1 (T fi).2.2.1 ∈ WW ∧ (∀ k, k < N → parseFieldDescriptor (T k).2.2.1 = some (ty k)) ∧ (∀ a, a < N → ∀ b, b < N → a ≠ b → (T a).2.1 ≠ (T b).2.1)
def FP (ci fi : Nat) (ty : FieldType) (fin : Bool) : Prop := ∃ (Cn : String) (T : u_T) (N : Nat), vwCl[ci]? = some (Cn, T, N) ∧ (T fi).2.2.2 = fin ∧ parseFieldDescriptor (T fi).2.2.1 = some ty
def YV (y : MethodName) (bytes : ByteArray) (maxL : Nat) (ret : Option FieldType) (np : Nat) : Prop := Cond.code y bytes maxL ret ∈ WW ∧ Cond.initialized y.cls ∈ WW ∧ y.cls ≠ "java/lang/invoke/MethodHandle" ∧ y.cls ≠ "java/lang/invoke/VarHandle" ∧ (parseMethodDescriptor y.desc).map (fun d => d.parameters.length) = some np
