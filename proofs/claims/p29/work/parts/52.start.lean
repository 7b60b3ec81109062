/-! THE LAW: what the tables say at its entry -/
theorem arr_ex {ty : FieldType} (hty : ty = .int ∨ ty = .long ∨ ty = .boolean) {s : State} {args : Array Value} (h : (Cond.arrayClass ty).before args s = true) : ∃ cA : ClassId, ArrOfT s cA ty ∧ va_RA s cA ty := by
  obtain ⟨c, k, comp, h1, h2, h3⟩ := Cond.arrayClass_spec h
  refine ⟨c, fun N z => ⟨(fun k h => by cases h), k, h2, comp, h3⟩, ?_⟩
  rcases hty with rfl | rfl | rfl
  · exact h1
  · exact h1
  · exact h1
theorem nest_in : ∀ t ∈ nestM, Cond.methodLinkNest t.1 t.2.1 t.2.2.1 t.2.2.2 ∈ lw_tbl := by decide +kernel
theorem strs_in : ∀ t ∈ nxS, t.1 = RX5 ∧ Cond.stringRef t.1 t.2.1 t.2.2 ∈ lw_tbl := by decide +kernel
theorem nots_in : ∀ t ∈ nxN, Cond.not (.castable t.1 t.2) ∈ flatC (Jvm.Cond.and given_1 narrow_1) := by decide +kernel
theorem ox_in : ∀ w ∈ oxL, w ∈ lw_tbl := by decide +kernel
theorem st_in : Cond.isRef (.static Bundle.tN "UNASSIGNED_STACK" Bundle.steD) ∈ flatC (Jvm.Cond.and given_1 narrow_1) ∧ Cond.isRef (.static Bundle.tN "SUPPRESSED_SENTINEL" Bundle.listD) ∈ flatC (Jvm.Cond.and given_1 narrow_1) ∧ Cond.laysStatic Bundle.tN "UNASSIGNED_STACK" Bundle.steD ∈ lw_tbl ∧ Cond.laysStatic Bundle.tN "SUPPRESSED_SENTINEL" Bundle.listD ∈ lw_tbl ∧ Cond.initialized Bundle.tN ∈ lw_tbl := by decide +kernel
theorem nx_start {κ : aK} {s : State} {args : Array Value} (hts : ∀ w ∈ lw_tbl, w.before args s = true) (hn : (Jvm.Cond.and given_1 narrow_1).before args s = true) (hA : ∀ a : Nat, a < s.heap.size → ¬ kA κ a) {cX : ClassId} (hX5 : s.vm.findClass RX5 = some cX) : NX κ s := by
  have hf := flat_of_before _ hn
  obtain ⟨i1, i2, i3, i4, i5⟩ := st_in
  refine ⟨fun t ht => va_Nw.of rfl (hts _ (nest_in t ht)), vx_Zqof (hts _ i3) (hts _ i5) (hf _ i1) hA, vx_Zqof (hts _ i4) (hts _ i5) (hf _ i2) hA, fun t ht => ?_, fun t ht => va_Nc.of (hf _ (nots_in t ht)), fun w hw => va_Nw.of (oxL_ot hw) (hts _ (ox_in w hw))⟩
  obtain ⟨e, h1⟩ := strs_in t ht
  have h2 := hts _ h1
  obtain ⟨k, cf, i, q, -, -, -, -, -, h3⟩ := Cond.stringRef_spec (by rw [e]; exact hX5) h2
  exact ⟨q, vk_R.of h2 h3⟩
