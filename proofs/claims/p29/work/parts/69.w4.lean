/-! ROWS FOR THE LAW: shifts, divisions, the script handed on -/
section ROWSL
variable {g : aG} {κ : aK} {own : String} {cc : ByteArray} {nL pc k n i k' n' : Nat} {rm : Room} {L L' : List (Nat × Value)} {st : List Value} {ws ws' w1 : va_W}
theorem a_ishr (C : Cx g κ own cc nL rm) {x y v : Int32} (hv : x >>> (y &&& 31) = v) (hd : decode cc pc = .ok (.ishr, 1)) (kk : aw g κ nL (pc + 1) L (.int v :: st) ws k n) : aw g κ nL pc L (.int y :: .int x :: st) ws k n := fun H locs ls hP hD hS hl => lv_ishr C.1 C.2.1 hd (by rw [hv]; exact kk H locs ls hP hD hS hl)
theorem a_ixor (C : Cx g κ own cc nL rm) {x y v : Int32} (hv : x ^^^ y = v) (hd : decode cc pc = .ok (.ixor, 1)) (kk : aw g κ nL (pc + 1) L (.int v :: st) ws k n) : aw g κ nL pc L (.int y :: .int x :: st) ws k n := fun H locs ls hP hD hS hl => lv_ixor C.1 C.2.1 hd (by rw [hv]; exact kk H locs ls hP hD hS hl)
theorem a_ineg (C : Cx g κ own cc nL rm) {x v : Int32} (hv : -x = v) (hd : decode cc pc = .ok (.ineg, 1)) (kk : aw g κ nL (pc + 1) L (.int v :: st) ws k n) : aw g κ nL pc L (.int x :: st) ws k n := fun H locs ls hP hD hS hl => lv_ineg C.1 C.2.1 hd (by rw [hv]; exact kk H locs ls hP hD hS hl)
theorem a_irem (C : Cx g κ own cc nL rm) {x y : Nat} (hx : x < 2 ^ 31) (h0 : 0 < y) (hy : y < 2 ^ 31) (hd : decode cc pc = .ok (.irem, 1)) (kk : aw g κ nL (pc + 1) L (.int (nI (x % y)) :: st) ws k n) : aw g κ nL pc L (.int (nI y) :: .int (nI x) :: st) ws k n := fun H locs ls hP hD hS hl => lv_irem C.1 C.2.1 hd (nI_ne0 h0 hy) (by rw [pk_rem hx h0 hy]; exact kk H locs ls hP hD hS hl)
theorem a_idiv (C : Cx g κ own cc nL rm) {x y : Nat} (hx : x < 2 ^ 31) (h0 : 0 < y) (hy : y < 2 ^ 31) (hd : decode cc pc = .ok (.idiv, 1)) (kk : aw g κ nL (pc + 1) L (.int (nI (x / y)) :: st) ws k n) : aw g κ nL pc L (.int (nI y) :: .int (nI x) :: st) ws k n := fun H locs ls hP hD hS hl => lv_idiv C.1 C.2.1 hd (nI_ne0 h0 hy) (by rw [pk_div hx h0 hy]; exact kk H locs ls hP hD hS hl)
theorem a_ldc (C : Cx g κ own cc nL rm) {index : Nat} {v : Int32} (hw : Cond.constant own index v ∈ WW) (hd : decode cc pc = .ok (.ldc index, 2)) (kk : aw g κ nL (pc + 2) L (.int v :: st) ws k n) : aw g κ nL pc L st ws k n := fun H locs ls hP hD hS hl => lv_ldc C.1 C.2.1 C.2.2.2.1 (C.2.2.2.2.1 _ hw) hd (kk H locs ls hP hD hS hl)
theorem a_if_le (C : Cx g κ own cc nL rm) {x : Int32} {off : Int} {tgt : Nat} (ht : (pc : Int) + off = (tgt : Int)) (hd : decode cc pc = .ok (.ifCond .le off, 3)) (kt : x ≤ 0 → aw g κ nL tgt L st ws k n) (kf : ¬ x ≤ 0 → aw g κ nL (pc + 3) L st ws k n) : aw g κ nL pc L (.int x :: st) ws k n := fun H locs ls hP hD hS hl => lv_if_le C.1 C.2.1 hd ht (fun c => kt c H locs ls hP hD hS hl) (fun c => kf c H locs ls hP hD hS hl)
theorem a_if_le_y (C : Cx g κ own cc nL rm) {x : Int32} {off : Int} {tgt : Nat} (hc : x ≤ 0) (ht : (pc : Int) + off = (tgt : Int)) (hd : decode cc pc = .ok (.ifCond .le off, 3)) (kt : aw g κ nL tgt L st ws k n) : aw g κ nL pc L (.int x :: st) ws k n := a_if_le C ht hd (fun _ => kt) (fun c => absurd hc c)
theorem a_if_le_n (C : Cx g κ own cc nL rm) {x : Int32} {off : Int} (hc : ¬ x ≤ 0) (hd : decode cc pc = .ok (.ifCond .le off, 3)) (ht : ∃ tgt : Nat, (pc : Int) + off = (tgt : Int)) (kf : aw g κ nL (pc + 3) L st ws k n) : aw g κ nL pc L (.int x :: st) ws k n := a_if_le C ht.choose_spec hd (fun c => absurd c hc) (fun _ => kf)
/-- a contract of a method that is handed the script -/
def CMs (bs L0 : Nat) (xs : Nat → Int32) (y : MethodName) (cc : ByteArray) (maxL : Nat) (ret : Option FieldType) (rm : Room) (κ : aK) (av : List Value) (w0 : va_W) (P : Option Value → va_W → Prop) : Prop := ∀ l : Launch, l.stackTraces = false → Met l y (.code y cc maxL ret :: WW) rm (va_Pc av (fun U => aPre κ w0 U ∧ va_X bs L0 xs U U.heap)) (aQ κ P) rm.cells rm.slots (kA κ)
theorem cs_entry {bs L0 : Nat} {xs : Nat → Int32} {y : MethodName} {cc : ByteArray} {maxL : Nat} {ret : Option FieldType} {rm : Room} {κ : aK} {av : List Value} {w0 : va_W} {P : Option Value → va_W → Prop} {own : String} {L : List (Nat × Value)} (hy : plainName y.cls = true) (ho : y.cls = own)
    (hL : lv_has (lg_sl av ++ List.replicate (maxL - (lg_sl av).length) Slot.unset).toArray maxL L)
    (h : ∀ g : aG, Cx g κ own cc maxL rm → Rx g κ ret P rm.cells rm.slots → va_X bs L0 xs (g_s g) (g_s g).heap → aw g κ maxL 0 L [] w0 0 0) : CMs bs L0 xs y cc maxL ret rm κ av w0 P := by
  intro l hl
  refine Met.ofW (cc := cc) (maxL := maxL) (ret := ret) hy rfl ?_
  intro p e s m args below meth c s₁ B hml hv
  obtain ⟨rfl, ⟨hsz, hP, hD, hK, hN⟩, hX⟩ := hv
  have hts := atoms_spec (ws := .code y cc maxL ret :: WW) B.pre
  have hown : s.vm.findClass own = some m.cls := by rw [← ho]; exact findClass_of_methodNamed B.named
  have h1 := h (p, l, e, (headSpec (.code y cc maxL ret :: WW) rm).room, s, m, av.toArray, below, meth, c, MQ below (aQ κ P) av.toArray s rm.cells rm.slots (kA κ)) ⟨B.exec, B.bytes, hml, hown, fun w hw => hts w (List.mem_cons_of_mem _ hw), hK, B.notSynchronized, rfl, hsz, hN, hl⟩ ⟨B.returns, Or.inl rfl⟩ hX
  rw [lg_entry_eq]
  exact h1 s.heap [] _ hP hD va_S.rf hL
theorem X_lt {bs L0 : Nat} {xs : Nat → Int32} {s : State} {H : Heap} (hX : va_X bs L0 xs s H) : bs < H.size := by
  obtain ⟨scr, h, -⟩ := hX
  exact (Array.getElem?_eq_some_iff.mp h).1
theorem X_at {bs L0 : Nat} {xs : Nat → Int32} (hX : va_X bs L0 xs (g_s g) (g_s g).heap) (hbA : ¬ kA κ bs) {H : Heap} {locs : List Loc} (hS : va_S (kA κ) (g_s g).heap H locs) (U : State) (hU : U.heap = H) (hW : (g_s g).WarmedH U.vm) : va_X bs L0 xs U U.heap := by
  have hlt := X_lt hX
  obtain ⟨scr, h1, h2, h3⟩ := hX
  exact ⟨scr, by rw [hU, hS.2.1 bs hlt hbA]; exact h1, State.isArrayOf_alike hW.alike h2, h3⟩
theorem sPre_blind {bs L0 : Nat} {xs : Nat → Int32} {av : List Value} {w : va_W} : FrameBlind (va_Pc av (fun U => aPre κ w U ∧ va_X bs L0 xs U U.heap)) := fun a U g' mk q => ⟨q.1, (aPre_blind (κ := κ) (av := av) (w := w) a U g' mk ⟨q.1, q.2.1⟩).2, va_X.moved (u := U) (Vm.Alike.refl U.vm) q.2.2⟩
theorem a_callSs (C : Cx g κ own cc nL rm) {bs L0 : Nat} {xs : Nat → Int32} (hX : va_X bs L0 xs (g_s g) (g_s g).heap) (hbA : ¬ kA κ bs) {y : MethodName} {bytes : ByteArray} {maxL index np : Nat} {ret : Option FieldType} {rm' : Room} {As : List Value} {P : Option Value → va_W → Prop} (hM : CMs bs L0 xs y bytes maxL ret rm' κ As ws P) (Y : YV y bytes maxL ret np) (hl : Cond.methodLink own index y ∈ WW) (hs : Cond.static y ∈ WW)
    (hn : As.length = np) {st0 : List Value} (hs0 : st0 = As.reverse ++ st) (hroom : (st.map fun v => v.category).sum ≤ 8) (hf : rm'.frames + 1 ≤ rm.frames) (ho : 8 + (maxL + 11) + rm'.locals ≤ rm.locals) (hcs : k + rm'.cells ≤ rm.cells ∧ n + rm'.slots ≤ rm.slots) (hd : decode cc pc = .ok (.invokestatic index, 3))
    (kk : ∀ (ro : Option Value) (w : va_W), P ro w → aw g κ nL (pc + 3) L (ro.toList ++ st) w (k + rm'.cells) (n + rm'.slots)) : aw g κ nL pc L st0 ws k n := by
  obtain ⟨hx, hb, hml, hown, hts, hK, hlk, hR, hz, hN, hfl⟩ := id C
  refine aw_ret (fun q h => h) (fun H locs ls hP hD hS hl' => va_runS ⟨hx, hb, hml, hown, hts⟩ (hM (g_l g) hfl) ⟨cb_of C Y hl hf ho, hts _ hs⟩ ⟨sPre_blind, fun U hU hW => ⟨rfl, aPre_at C hP hD hS U hU hW, X_at hX hbA hS U hU hW⟩⟩ rfl hn hl'.1 hs0 (lv_room hroom) hd (by rw [hR]; exact hcs)) kk
theorem kc_L_7 : Cond.constant RL 7 2147483647 ∈ WW := ww_in 638 (by decide +kernel) (by decide +kernel)
theorem kc_L_8 : Cond.constant RL 8 790386105 ∈ WW := ww_in 642 (by decide +kernel) (by decide +kernel)
theorem and_31 (x : Int32) : ∃ j, j < 2 ^ 31 ∧ x &&& (2147483647 : Int32) = nI j := ⟨x.toBitVec.toNat % 2 ^ 31, Nat.mod_lt _ (by decide), pk_and x 31 (by decide +kernel)⟩
set_option maxHeartbeats 4000000 in
set_option maxRecDepth 100000 in
theorem c_L_below (κ : aK) {X : va_W} {x : Int32} {N : Nat} (h0 : 0 < N) (hN : N < 2 ^ 31) : CM yL_below cL_below 2 (some .int) ({ frames := 0, cells := 0, slots := 0, locals := 0 } : Room) κ [.int x, .int (nI N)] X (fun ro w => ∃ j, j < N ∧ ro = some (.int (nI j)) ∧ w = X) := by
  refine cm_entry (own := RL) (L := [(0, .int x), (1, .int (nI N))]) (by decide +kernel) rfl (lv_entry [.int x, .int (nI N)] (n := 2) (Nat.le_of_ble_eq_true rfl)) (fun g C E => ?_)
  obtain ⟨j, hj, e⟩ := and_31 x
  refine a_iloadn (pc := 0) C 0 rfl rfl dL_below_0 ?_
  refine a_ldc (pc := 1) C kc_L_7 dL_below_1 ?_
  refine a_iand (pc := 3) (v := nI j) C e dL_below_3 ?_
  refine a_iloadn (pc := 4) C 1 rfl rfl dL_below_4 ?_
  refine a_irem (pc := 5) C hj h0 hN dL_below_5 ?_
  exact a_iret (pc := 6) C E (Nat.le_of_ble_eq_true rfl) (Nat.le_of_ble_eq_true rfl) ⟨j % N, Nat.mod_lt _ h0, rfl, rfl⟩ dL_below_6
set_option maxHeartbeats 4000000 in
set_option maxRecDepth 100000 in
theorem c_L_cell (κ : aK) {X : va_W} {bs L0 : Nat} {xs : Nat → Int32} (hbA : ¬ kA κ bs) (hL : L0 < 2 ^ 31) {j : Nat} (hj : j < 2 ^ 31) : CMs bs L0 xs yL_cell cL_cell 2 (some .int) ({ frames := 0, cells := 0, slots := 0, locals := 0 } : Room) κ [.ref bs, .int (nI j)] X (fun ro w => ∃ x : Int32, ro = some (.int x) ∧ w = X) := by
  refine cs_entry (own := RL) (L := [(0, .ref bs), (1, .int (nI j))]) (by decide +kernel) rfl (lv_entry [.ref bs, .int (nI j)] (n := 2) (Nat.le_of_ble_eq_true rfl)) (fun g C E hX => ?_)
  refine a_iloadn (pc := 0) C 1 rfl rfl dL_cell_0 ?_
  refine a_aloadn (pc := 1) C 0 rfl rfl dL_cell_1 ?_
  refine a_slen (pc := 2) C hX (X_lt hX) hbA dL_cell_2 ?_
  refine a_icn_ge (pc := 3) (tgt := 12) C hj hL (by decide) dL_cell_3 (fun c => ?_) (fun c => ?_)
  · refine a_ldc (pc := 12) C kc_L_8 dL_cell_12 ?_
    refine a_iloadn (pc := 14) C 1 rfl rfl dL_cell_14 ?_
    refine a_iconst (pc := 15) (v := nI 3) C ci_3 dL_cell_15 ?_
    refine a_iadd (pc := 16) (v := nI (j + 3)) C (nI_add _ _) dL_cell_16 ?_
    refine a_imul (pc := 17) C rfl dL_cell_17 ?_
    exact a_iret (pc := 18) C E (Nat.le_of_ble_eq_true rfl) (Nat.le_of_ble_eq_true rfl) ⟨_, rfl, rfl⟩ dL_cell_18
  · refine a_aloadn (pc := 6) C 0 rfl rfl dL_cell_6 ?_
    refine a_iloadn (pc := 7) C 1 rfl rfl dL_cell_7 ?_
    refine a_sld (pc := 8) C hX (X_lt hX) hbA c hL dL_cell_8 ?_
    refine a_goto (pc := 9) (tgt := 18) C (by decide) dL_cell_9 ?_
    exact a_iret (pc := 18) C E (Nat.le_of_ble_eq_true rfl) (Nat.le_of_ble_eq_true rfl) ⟨_, rfl, rfl⟩ dL_cell_18
/-- .. called by the law -/
theorem a_below (C : Cx g κ RL cL_law nL rm) {x : Int32} {N : Nat} (h0 : 0 < N) (hN : N < 2 ^ 31) (hroom : (st.map fun v => v.category).sum ≤ 8) (hf : 1 ≤ rm.frames) (ho : 21 ≤ rm.locals) (hcs : k ≤ rm.cells ∧ n ≤ rm.slots) (hd : decode cL_law pc = .ok (.invokestatic 18, 3)) (kk : ∀ j, j < N → aw g κ nL (pc + 3) L (.int (nI j) :: st) ws k n) : aw g κ nL pc L (.int (nI N) :: .int x :: st) ws k n :=
  a_callS C (c_L_below κ h0 hN) yv_L_below ml_L_18 ws_L_below rfl rfl hroom hf ho hcs hd (fun ro w h => by
    obtain ⟨j, hj, rfl, rfl⟩ := h
    exact kk j hj)
theorem a_cell (C : Cx g κ RL cL_law nL rm) {bs L0 : Nat} {xs : Nat → Int32} (hX : va_X bs L0 xs (g_s g) (g_s g).heap) (hbA : ¬ kA κ bs) (hL : L0 < 2 ^ 31) {j : Nat} (hj : j < 2 ^ 31) (hroom : (st.map fun v => v.category).sum ≤ 8) (hf : 1 ≤ rm.frames) (ho : 21 ≤ rm.locals) (hcs : k ≤ rm.cells ∧ n ≤ rm.slots) (hd : decode cL_law pc = .ok (.invokestatic 12, 3)) (kk : ∀ x : Int32, aw g κ nL (pc + 3) L (.int x :: st) ws k n) : aw g κ nL pc L (.int (nI j) :: .ref bs :: st) ws k n :=
  a_callSs C hX hbA (c_L_cell κ hbA hL hj) yv_L_cell ml_L_12 ws_L_cell rfl rfl hroom hf ho hcs hd (fun ro w h => by
    obtain ⟨x, rfl, rfl⟩ := h
    exact kk x)
end ROWSL
