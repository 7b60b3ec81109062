/-! ROWS, FOURTH: what throws, and what catches. -/
abbrev xIA : String := "java/lang/IllegalArgumentException"
abbrev xIS : String := "java/lang/IllegalStateException"
abbrev xIO : String := "java/lang/IndexOutOfBoundsException"
abbrev xN : List String := ["java/lang/RuntimeException", "java/lang/Exception"]
theorem xat_IA : ∀ w ∈ vx_atS RX5 52 xIA xN, w ∈ WW ++ oxL := by decide +kernel
theorem xat_IS : ∀ w ∈ vx_atS RX5 63 xIS xN, w ∈ WW ++ oxL := by decide +kernel
theorem xat_IO : ∀ w ∈ vx_atS RX5 300 xIO xN, w ∈ WW ++ oxL := by decide +kernel
theorem ww_ot {w : Cond} (h : w ∈ WW) : vx_ot w = true := by
  have h1 := (List.mem_filter.mp h).2
  unfold vx_ot
  rw [h1, Bool.or_true]
section ROWS4
variable {g : aG} {κ : aK} {own : String} {cc : ByteArray} {nL pc k n i k' n' : Nat} {rm : Room} {L L' : List (Nat × Value)} {st : List Value} {ws ws' w1 : va_W}
/-- from here an exception of the class E goes on its way -/
def ax (g : aG) (κ : aK) (nL pc : Nat) (L : List (Nat × Value)) (st : List Value) (ws : va_W) (k n : Nat) (E : String) : Prop := ∀ (H : Heap) (locs : List Loc) (ls : Array Slot) (q : Addr) (ce : Cell), va_P (kD κ) vwCl ws H → va_D (kA κ) ws → va_S (kA κ) (g_s g).heap H locs → lv_has ls nL L → H[q]? = some ce → ce.vm = .none → (g_s g).vm.findClass E = some ce.cls → vx_W (g_p g) (g_l g) (g_e g) (g_R g) (g_s g) (g_m g) (g_a g) (g_b g) (g_h g) (g_c g) H locs k n (g_Q g) (F0 (g_m g) pc ls st) q
theorem aX_at {PX : String → va_W → Prop} {H : Heap} {locs : List Loc} {E : String} (hx : PX E ws) (hP : va_P (kD κ) vwCl ws H) (hD : va_D (kA κ) ws) (hS : va_S (kA κ) (g_s g).heap H locs) (t : State) (hz : H.size ≤ t.heap.size) (hk : ∀ q : Nat, q < H.size → t.heap[q]? = H[q]?) : aX κ PX E (g_s g) t :=
  ⟨⟨ws, hx, hP.kept (fun k q hq => hk q.1 (hP k q hq).lt), hD⟩, Nat.le_trans hS.1 hz, fun q h1 h2 => by rw [hk q (Nat.lt_of_lt_of_le h1 hS.1)]; exact hS.2.1 q h1 h2⟩
theorem ax_out (C : Cx g κ own cc nL rm) {PX : String → va_W → Prop} {mc ms : Nat} (X : RX g κ PX mc ms) {E : String} (hx : PX E ws) (hk : k ≤ mc) (hn : n ≤ ms) : ax g κ nL pc L st ws k n E := by
  intro H locs ls q ce hP hD hS hl hq hv hc
  obtain ⟨h1, P, h2⟩ := X
  rw [h2]
  exact vx_out (fun x hx => absurd (h1 x hx) id) C.2.2.2.2.2.2.1 hq hv hc (fun t ht ha => aX_at hx hP hD hS t (by rw [ht]; exact Nat.le_refl _) (fun q _ => by rw [ht])) hS.2.2 hk hn
theorem a_throw (C : Cx g κ own cc nL rm) {PX : String → va_W → Prop} {mc ms : Nat} (X : RX g κ PX mc ms) {ik is ic : Nat} {cls text : String} {names : List String} (hcls : Bundle.fit cls = true) (hnames : ∀ n ∈ names, Bundle.fit n = true) (hk : Cond.classLink own ik cls ∈ WW) (hini : Cond.initialized cls ∈ WW) (hstr : (own, is, text) ∈ nxS) (hat : ∀ w ∈ vx_atS own ic cls names, w ∈ WW ++ oxL)
    (hf : names.length + 3 < rm.frames) (ho : (st.map fun v => v.category).sum + (13 * (names.length + 1) + 43) ≤ rm.locals) (hc1 : k + 1 ≤ rm.cells) (hs1 : n + 6 ≤ rm.slots) (hc : k + 1 ≤ mc) (hs : n + 6 ≤ ms) (hx : PX cls ws)
    (d0 : decode cc pc = .ok (.new ik, 3)) (d3 : decode cc (pc + 3) = .ok (.dup, 1)) (d4 : decode cc (pc + 4) = .ok (.ldc is, 2)) (d6 : decode cc (pc + 6) = .ok (.invokespecial ic, 3)) (d9 : decode cc (pc + 9) = .ok (.athrow, 1)) : aw g κ nL pc L st ws k n := by
  intro H locs ls hP hD hS hl
  obtain ⟨h1, P, h2⟩ := X
  obtain ⟨hx0, hb, hml, hown, hts, hK, hlk, hR, hz, hN, hfl⟩ := id C
  obtain ⟨sa, hsa⟩ := hN.2.2.2.1 _ hstr
  show W (g_p g) (g_l g) (g_e g) (g_R g) (g_s g) (g_m g) (g_a g) (g_b g) (g_h g) (g_c g) H locs k n (g_Q g) _
  rw [h2]
  exact vx_throwS hx0 hb hfl hown hcls hnames (hts _ hk) (hts _ hini) hsa (fun w hw => (List.mem_append.mp (hat w hw)).elim (hts _) (fun h => va_Nw.use (oxL_ot h) (hN.2.2.2.2.2 w h))) (fun w hw => by
    rcases List.mem_cons.mp hw with rfl | hw
    · exact ww_ot hk
    · rcases List.mem_cons.mp hw with rfl | hw
      · exact ww_ot hini
      · exact (List.mem_append.mp (hat w hw)).elim ww_ot (fun h => by unfold vx_ot; rw [oxL_ot h, Bool.true_or])) hN.2.1 hN.2.2.1 hS (hl.1.trans hml.symm) d0 d3 d4 d6 d9 (fun x hx => absurd (h1 x hx) id) (by rw [hR]; exact hf) (by rw [hR]; exact ho) (by rw [hR]; exact hc1) (by rw [hR]; exact hs1) hlk (fun t _ hz' hk' => aX_at hx hP hD hS t hz' hk') hS.2.2 hc hs
theorem a_throwW (C : Cx g κ own cc nL rm) {PX : String → va_W → Prop} {mc ms : Nat} (X : RX g κ PX mc ms) {ik is ic : Nat} {cls text : String} {names : List String} (hcls : Bundle.fit cls = true) (hnames : ∀ n ∈ names, Bundle.fit n = true) (hk : Cond.classLink own ik cls ∈ WW) (hini : Cond.initialized cls ∈ WW) (hstr : (own, is, text) ∈ nxS) (hat : ∀ w ∈ vx_atS own ic cls names, w ∈ WW ++ oxL)
    (hf : names.length + 3 < rm.frames) (ho : (st.map fun v => v.category).sum + (13 * (names.length + 1) + 43) ≤ rm.locals) (hc1 : k + 1 ≤ rm.cells) (hs1 : n + 6 ≤ rm.slots) (hc : k + 1 ≤ mc) (hs : n + 6 ≤ ms) (hx : PX cls ws)
    (d0 : decode cc pc = .ok (.new ik, 3)) (d3 : decode cc (pc + 3) = .ok (.dup, 1)) (d4 : decode cc (pc + 4) = .ok (.ldc_w is, 3)) (d7 : decode cc (pc + 7) = .ok (.invokespecial ic, 3)) (d10 : decode cc (pc + 10) = .ok (.athrow, 1)) : aw g κ nL pc L st ws k n := by
  intro H locs ls hP hD hS hl
  obtain ⟨h1, P, h2⟩ := X
  obtain ⟨hx0, hb, hml, hown, hts, hK, hlk, hR, hz, hN, hfl⟩ := id C
  obtain ⟨sa, hsa⟩ := hN.2.2.2.1 _ hstr
  show W (g_p g) (g_l g) (g_e g) (g_R g) (g_s g) (g_m g) (g_a g) (g_b g) (g_h g) (g_c g) H locs k n (g_Q g) _
  rw [h2]
  exact vx_throwSW hx0 hb hfl hown hcls hnames (hts _ hk) (hts _ hini) hsa (fun w hw => (List.mem_append.mp (hat w hw)).elim (hts _) (fun h => va_Nw.use (oxL_ot h) (hN.2.2.2.2.2 w h))) (fun w hw => by
    rcases List.mem_cons.mp hw with rfl | hw
    · exact ww_ot hk
    · rcases List.mem_cons.mp hw with rfl | hw
      · exact ww_ot hini
      · exact (List.mem_append.mp (hat w hw)).elim ww_ot (fun h => by unfold vx_ot; rw [oxL_ot h, Bool.true_or])) hN.2.1 hN.2.2.1 hS (hl.1.trans hml.symm) d0 d3 d4 d7 d10 (fun x hx => absurd (h1 x hx) id) (by rw [hR]; exact hf) (by rw [hR]; exact ho) (by rw [hR]; exact hc1) (by rw [hR]; exact hs1) hlk (fun t _ hz' hk' => aX_at hx hP hD hS t hz' hk') hS.2.2 hc hs
theorem aw_xret {mc ms : Nat} {st0 rest : List Value} {P : Option Value → va_W → Prop} {PX : String → va_W → Prop} {a : Array Value}
    (hr : ∀ (H : Heap) (locs : List Loc) (ls : Array Slot), va_P (kD κ) vwCl ws H → va_D (kA κ) ws → va_S (kA κ) (g_s g).heap H locs → lv_has ls nL L → vx_Run (g_p g) (g_l g) (g_e g) (g_R g) (g_s g) (g_m g) (g_a g) (g_b g) (g_h g) (g_c g) H locs k n mc ms (F0 (g_m g) pc ls st0) rest (aQ κ P a) (aX κ PX) (kA κ))
    (kk : ∀ (ro : Option Value) (w : va_W), P ro w → aw g κ nL (pc + 3) L (ro.toList ++ rest) w (k + mc) (n + ms))
    (kx : ∀ (E : String) (w : va_W), PX E w → ax g κ nL pc L rest w (k + mc) (n + ms) E) : aw g κ nL pc L st0 ws k n := by
  intro H locs ls hP hD hS hl T hT X
  rcases hr H locs ls hP hD hS hl T hT X with ⟨v, st₀, t, T', Lc, h0, X', hL, e1, e2, ⟨⟨ro, w, hv, hp, hP1, hD1⟩, hF⟩, sts⟩ | ⟨q, st₀, t, T', Lc, E, ce, h0, X', hL, e1, e2, ⟨⟨w, hp, hP1, hD1⟩, hF⟩, hce, hcv, hcl, sts⟩
  · cases hv
    obtain ⟨k1, k2, k3⟩ := vx_keep h0 e1 hS (fun q _ h => h) (fun q h => h) hL hF
    obtain ⟨t2, a1, b1⟩ := kk v w hp T'.heap (locs ++ Lc) ls (by rw [e1]; exact hP1) hD1 k3 hl T' rfl X'
    exact ⟨t2, sts t2 a1, b1⟩
  · obtain ⟨k1, k2, k3⟩ := vx_keep h0 e1 hS (fun q _ h => h) (fun q h => h) hL hF
    obtain ⟨t2, a1, b1⟩ := kx E w hp T'.heap (locs ++ Lc) ls q ce (by rw [e1]; exact hP1) hD1 k3 hl (by rw [e1]; exact hce) hcv hcl T' rfl X'
    exact ⟨t2, sts.trans a1, b1⟩
theorem a_xV (C : Cx g κ own cc nL rm) {y : MethodName} {bytes : ByteArray} {maxL index np ci b : Nat} {ret : Option FieldType} {rm' : Room} {As : List Value} {P : Option Value → va_W → Prop} {PX : String → va_W → Prop} (hM : CX y bytes maxL ret rm' κ (.ref b :: As) ws P PX) (Y : YV y bytes maxL ret np) (hl : Cond.methodLink own index y ∈ WW) (hi : Cond.instanceMethod y ∈ WW) (hsel : Cond.selects y.cls y y ∈ WW)
    (q0 : Nat) {fs : List Value} {T : u_T} {N : Nat} (he : ws[q0]? = some (b, .inr (ci, fs))) (hc : vwCl[ci]? = some (y.cls, T, N)) (hn : As.length = np) {st0 : List Value} (hs0 : st0 = As.reverse ++ .ref b :: st) (hroom : (st.map fun v => v.category).sum ≤ 8) (hf : rm'.frames + 1 ≤ rm.frames) (ho : 8 + (maxL + 11) + rm'.locals ≤ rm.locals) (hcs : k + rm'.cells ≤ rm.cells ∧ n + rm'.slots ≤ rm.slots) (hd : decode cc pc = .ok (.invokevirtual index, 3))
    (kx : ∀ (E : String) (w : va_W), PX E w → ax g κ nL pc L st w (k + rm'.cells) (n + rm'.slots) E)
    (kk : ∀ (ro : Option Value) (w : va_W), P ro w → aw g κ nL (pc + 3) L (ro.toList ++ st) w (k + rm'.cells) (n + rm'.slots)) : aw g κ nL pc L st0 ws k n := by
  obtain ⟨hx, hb, hml, hown, hts, hK, hlk, hR, hz, hN, hfl⟩ := id C
  exact aw_xret (fun H locs ls hP hD hS hl' => vx_runV ⟨hx, hb, hml, hown, hts⟩ (hM (g_l g) hfl) ⟨cb_of C Y hl hf ho, hts _ hi, hts _ hsel⟩ ⟨aPre_blind, va_recv hK hP hc he, fun U hU hW => ⟨rfl, aPre_at C hP hD hS U hU hW⟩⟩ rfl hn hl'.1 hs0 (lv_room hroom) hd (by rw [hR]; exact hcs)) kk kx
theorem a_xS (C : Cx g κ own cc nL rm) {y : MethodName} {bytes : ByteArray} {maxL index np : Nat} {ret : Option FieldType} {rm' : Room} {As : List Value} {P : Option Value → va_W → Prop} {PX : String → va_W → Prop} (hM : CX y bytes maxL ret rm' κ As ws P PX) (Y : YV y bytes maxL ret np) (hl : Cond.methodLink own index y ∈ WW) (hs : Cond.static y ∈ WW)
    (hn : As.length = np) {st0 : List Value} (hs0 : st0 = As.reverse ++ st) (hroom : (st.map fun v => v.category).sum ≤ 8) (hf : rm'.frames + 1 ≤ rm.frames) (ho : 8 + (maxL + 11) + rm'.locals ≤ rm.locals) (hcs : k + rm'.cells ≤ rm.cells ∧ n + rm'.slots ≤ rm.slots) (hd : decode cc pc = .ok (.invokestatic index, 3))
    (kx : ∀ (E : String) (w : va_W), PX E w → ax g κ nL pc L st w (k + rm'.cells) (n + rm'.slots) E)
    (kk : ∀ (ro : Option Value) (w : va_W), P ro w → aw g κ nL (pc + 3) L (ro.toList ++ st) w (k + rm'.cells) (n + rm'.slots)) : aw g κ nL pc L st0 ws k n := by
  obtain ⟨hx, hb, hml, hown, hts, hK, hlk, hR, hz, hN, hfl⟩ := id C
  exact aw_xret (fun H locs ls hP hD hS hl' => vx_runS ⟨hx, hb, hml, hown, hts⟩ (hM (g_l g) hfl) ⟨cb_of C Y hl hf ho, hts _ hs⟩ ⟨aPre_blind, fun U hU hW => ⟨rfl, aPre_at C hP hD hS U hU hW⟩⟩ rfl hn hl'.1 hs0 (lv_room hroom) hd (by rw [hR]; exact hcs)) kk kx
end ROWS4
/-- a number below n -/
def okU (n : Nat) (x : Int32) : Prop := ∃ j, j < n ∧ x = nI j
theorem inB_iff {l h x : Int32} : inB l h x = true ↔ l ≤ x ∧ x ≤ h := by
  unfold inB
  rw [Bool.and_eq_true, decide_eq_true_eq, decide_eq_true_eq]
theorem okU_c {m : Nat} {x : Int32} (hm : m < 2 ^ 31) : inB (nI 0) (nI m) x = true ↔ okU (m + 1) x := by
  rw [inB_iff]
  constructor
  · rintro ⟨h1, h2⟩
    rw [nI_0] at h1
    obtain ⟨j, hj, rfl⟩ := nI_of (Int32.not_lt.mpr h1)
    exact ⟨j, by have := (nI_leI hj hm).mp h2; omega, rfl⟩
  · rintro ⟨j, hj, rfl⟩
    exact ⟨(nI_leI (by decide) (by omega)).mpr (by omega), (nI_leI (by omega) hm).mpr (by omega)⟩
theorem okU_n {n : Nat} {x : Int32} (hn : n < 2 ^ 31) : inB (nI 0) (nI n - nI 1) x = true ↔ okU n x := by
  cases n with
  | zero =>
    rw [inB_iff]
    constructor
    · rintro ⟨h1, h2⟩
      have h3 := Int32.le_iff_toInt_le.mp h1
      have h4 := Int32.le_iff_toInt_le.mp h2
      have e1 : (nI 0 - nI 1).toInt = -1 := by decide +kernel
      have e2 : (nI 0).toInt = 0 := by decide +kernel
      omega
    · rintro ⟨j, hj, _⟩
      exact absurd hj (by omega)
  | succ m =>
    rw [pk_sub (by omega), Nat.add_sub_cancel]
    exact okU_c (by omega)
