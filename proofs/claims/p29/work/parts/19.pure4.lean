/-! the class as a whole: what its helpers answer -/
def nJ (ki : Nat → Int32) (lt er bo : Nat → Nat) (n r : Nat) : Nat → Nat := jU ki lt er n (pre (fun u => u) bo n) r
def nB (ki : Nat → Int32) (lt er bo : Nat → Nat) (n r : Nat) : Nat → Bool := bdS (nJ ki lt er bo n r) n
def nM (ki : Nat → Int32) (lt er bo : Nat → Nat) (n r : Nat) (me : Nat → Nat → Bool) : Nat → Nat → Bool := meA (nJ ki lt er bo n r) (pre (fun _ _ => false) me n) n
def nD (ki : Nat → Int32) (lt er bo : Nat → Nat) (n r : Nat) (dE : Nat → Nat → Bool) : Nat → Nat → Bool := dA ki lt er (nJ ki lt er bo n r) (pre (fun _ _ => false) dE n) r
def nE (ki : Nat → Int32) (lt er bo : Nat → Nat) (n r : Nat) (dE eE : Nat → Nat → Bool) : Nat → Nat → Bool := wO n (pre (nD ki lt er bo n r dE) eE n) n
def nL (ki : Nat → Int32) (lt er bo : Nat → Nat) (n r : Nat) (dE eE lE : Nat → Nat → Bool) : Nat → Nat → Bool := pre (fun v => laS (nE ki lt er bo n r dE eE) v n) lE n
def nK (ki : Nat → Int32) (lt er bo : Nat → Nat) (n r : Nat) (dE eE li : Nat → Nat → Bool) : Nat → Nat → Bool := pre (fun v i => nD ki lt er bo n r dE v i && !(rcS (nE ki lt er bo n r dE eE) v n i)) li n
def nfB (ki : Nat → Int32) (lt er bo : Nat → Nat) (n r : Nat) (dE eE : Nat → Nat → Bool) (fB : Nat → Int32) : Nat → Int32 := rkV n (nB ki lt er bo n r) (nE ki lt er bo n r dE eE) fB 40
def nfA (ki : Nat → Int32) (lt er bo : Nat → Nat) (n r : Nat) (dE eE lE : Nat → Nat → Bool) (fA : Nat → Int32) : Nat → Int32 := rkV n (nB ki lt er bo n r) (nL ki lt er bo n r dE eE lE) fA 40
def nOL (dtd : Nat → Bool) (uf : Nat → Int32) (bo fu : Nat → Nat) (ff oL : Nat → Int32) (n f : Nat) : Nat → Int32 := ofL bo fu ff (odL dtd bo uf (pre (fun _ => (-5000 : Int32)) oL n) n) f
def nOU (dtd : Nat → Bool) (ul : Nat → Int32) (bo : Nat → Nat) (oU : Nat → Int32) (n : Nat) : Nat → Int32 := odU dtd bo ul (pre (fun _ => nI 2000) oU n) n
def nLo (oL : Nat → Int32) (eE : Nat → Nat → Bool) (lo : Nat → Int32) (n : Nat) : Nat → Int32 := pre (fun v => spL oL eE v n) lo n
def nUp (oU : Nat → Int32) (lE : Nat → Nat → Bool) (up : Nat → Int32) (n : Nat) : Nat → Int32 := pre (fun v => spU oU lE v n) up n
def sfB (kd s1 s2 : Int32) : Bool := if kd = nI 1 then decide (s1 = nI 1) else if kd = nI 2 then decide (s1 = nI 2) && decide (s2 = nI 1) else if kd = nI 3 then decide (s1 = nI 3) else if kd = nI 4 then decide (s1 = s2) else true
def lpB (bo : Nat → Nat) (eE : Nat → Nat → Bool) (kd : Int32) (x y : Nat) : Bool := if kd = nI 4 then eE (bo x) (bo y) || eE (bo y) (bo x) else decide (bo x = bo y) || eE (bo y) (bo x)
def whR (so ki : Nat → Int32) (lt er bo : Nat → Nat) (eE : Nat → Nat → Bool) (r : Nat) (kd : Int32) (x y : Nat) : Nat := if x = y then 1 else if sfB kd (so x) (so y) = false then 2 else if anyB (toldP ki lt er kd x y) r = true then 3 else if lpB bo eE kd x y = true then 4 else 0
theorem whR_1 {so ki : Nat → Int32} {lt er bo : Nat → Nat} {eE : Nat → Nat → Bool} {r : Nat} {kd : Int32} {x y : Nat} (h : x = y) : whR so ki lt er bo eE r kd x y = 1 := if_pos h
theorem whR_2 {so ki : Nat → Int32} {lt er bo : Nat → Nat} {eE : Nat → Nat → Bool} {r : Nat} {kd : Int32} {x y : Nat} (h : ¬ x = y) (h2 : sfB kd (so x) (so y) = false) : whR so ki lt er bo eE r kd x y = 2 := by rw [whR, if_neg h, if_pos h2]
theorem whR_3 {so ki : Nat → Int32} {lt er bo : Nat → Nat} {eE : Nat → Nat → Bool} {r : Nat} {kd : Int32} {x y : Nat} (h : ¬ x = y) (h2 : sfB kd (so x) (so y) = true) (h3 : anyB (toldP ki lt er kd x y) r = true) : whR so ki lt er bo eE r kd x y = 3 := by rw [whR, if_neg h, if_neg (by rw [h2]; exact Bool.noConfusion), if_pos h3]
theorem whR_4 {so ki : Nat → Int32} {lt er bo : Nat → Nat} {eE : Nat → Nat → Bool} {r : Nat} {kd : Int32} {x y : Nat} (h : ¬ x = y) (h2 : sfB kd (so x) (so y) = true) (h3 : anyB (toldP ki lt er kd x y) r = false) (h4 : lpB bo eE kd x y = true) : whR so ki lt er bo eE r kd x y = 4 := by rw [whR, if_neg h, if_neg (by rw [h2]; exact Bool.noConfusion), if_neg (by rw [h3]; exact Bool.noConfusion), if_pos h4]
theorem whR_0 {so ki : Nat → Int32} {lt er bo : Nat → Nat} {eE : Nat → Nat → Bool} {r : Nat} {kd : Int32} {x y : Nat} (h : ¬ x = y) (h2 : sfB kd (so x) (so y) = true) (h3 : anyB (toldP ki lt er kd x y) r = false) (h4 : lpB bo eE kd x y = false) : whR so ki lt er bo eE r kd x y = 0 := by rw [whR, if_neg h, if_neg (by rw [h2]; exact Bool.noConfusion), if_neg (by rw [h3]; exact Bool.noConfusion), if_neg (by rw [h4]; exact Bool.noConfusion)]
theorem nI_ne_toInt {x : Int32} {k : Nat} (hk : k < 2 ^ 31) (h : ¬ x = nI k) : x.toInt ≠ (k : Int) := fun e => h (Int32.toInt_inj.mp (by rw [e, nI_toInt hk]))
def dbS (bd : Nat → Bool) (lo up : Nat → Int32) (n : Nat) : Nat → Bool := selS (fun v => bd v && decide (up v < lo v)) n
def mfR (bo fu : Nat → Nat) (ff fl lo up : Nat → Int32) (j : Nat) : Nat := if up (bo (fu j)) < ff j then 2 else if fl j < lo (bo (fu j)) then 1 else 0
def cdB (n : Nat) (bo : Nat → Nat) (eE : Nat → Nat → Bool) (dug : Nat → Bool) (u : Nat) : Bool := !(dug u) && !(anyB (fun v => eE (bo v) (bo u) && !(dug v)) n)
def poB (bo : Nat → Nat) (eE : Nat → Nat → Bool) (ph : Nat → Int32) (x y : Nat) : Bool := if bo x = bo y then decide (x < y) && !(decide (ph x = ph y)) else eE (bo x) (bo y) && decide (ph x < ph y)
def ppS (p : Nat → Nat → Bool) (n : Nat) : Nat → Nat
  | 0 => 0
  | k + 1 => ppS p n k + cnt (p k) n
def opR (p : Nat → Nat → Bool) (n : Nat) (isS : Bool) : Option Nat := match fst1 (fun x => (fst1 (p x) n).isSome) n with
  | none => none
  | some x => if isS = true then fst1 (p x) n else some x
theorem opR_none {p : Nat → Nat → Bool} {n : Nat} {isS : Bool} (h : fst1 (fun x => (fst1 (p x) n).isSome) n = none) : opR p n isS = none := by rw [opR, h]
theorem opR_at {p : Nat → Nat → Bool} {n x y : Nat} {isS : Bool} (hx : x < n) (hy : y < n) (h : fst1 (fun x => (fst1 (p x) n).isSome) x = none) (h2 : fst1 (p x) y = none) (h3 : p x y = true) : opR p n isS = if isS = true then some y else some x := by
  have e : fst1 (p x) n = some y := fst1_at hy h2 h3
  rw [opR, fst1_at hx h (by rw [e]; rfl)]
  simp only [e]
def phG (bo : Nat → Nat) (fB : Nat → Int32) : Nat → Int32 := fun v => imin (nI 20) (fB (bo v))
theorem ph_y {g ph : Nat → Int32} {k : Nat} (h : pre g ph k k = g k) : pre g ph k = pre g ph (k + 1) := by rw [← pre_s, ← h, up_id]
theorem ppS_le (p : Nat → Nat → Bool) (n : Nat) : ∀ k, ppS p n k ≤ k * n
  | 0 => by simp [ppS]
  | k + 1 => by
    have h := ppS_le p n k
    have h2 := cnt_le (p k) n
    rw [ppS, Nat.succ_mul]
    omega
