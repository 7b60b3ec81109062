/-! ROWS, SECOND: branches, the heap, calls, ends. -/
section ROWS2
variable {g : aG} {κ : aK} {own : String} {cc : ByteArray} {nL pc k n i : Nat} {rm : Room} {L L' : List (Nat × Value)} {st : List Value} {ws ws' : va_W}
theorem a_if_eq (C : Cx g κ own cc nL rm) {x : Int32} {off : Int} {tgt : Nat} (ht : (pc : Int) + off = (tgt : Int)) (hd : decode cc pc = .ok (.ifCond .eq off, 3)) (kt : x = 0 → aw g κ nL tgt L st ws k n) (kf : ¬ x = 0 → aw g κ nL (pc + 3) L st ws k n) : aw g κ nL pc L (.int x :: st) ws k n := fun H locs ls hP hD hS hl => lv_if_eq C.1 C.2.1 hd ht (fun c => kt c H locs ls hP hD hS hl) (fun c => kf c H locs ls hP hD hS hl)
theorem a_if_eq_y (C : Cx g κ own cc nL rm) {x : Int32} {off : Int} {tgt : Nat} (hc : x = 0) (ht : (pc : Int) + off = (tgt : Int)) (hd : decode cc pc = .ok (.ifCond .eq off, 3)) (kt : aw g κ nL tgt L st ws k n) : aw g κ nL pc L (.int x :: st) ws k n := a_if_eq C ht hd (fun _ => kt) (fun c => absurd hc c)
theorem a_if_eq_n (C : Cx g κ own cc nL rm) {x : Int32} {off : Int} (hc : ¬ x = 0) (hd : decode cc pc = .ok (.ifCond .eq off, 3)) (ht : ∃ tgt : Nat, (pc : Int) + off = (tgt : Int)) (kf : aw g κ nL (pc + 3) L st ws k n) : aw g κ nL pc L (.int x :: st) ws k n := a_if_eq C ht.choose_spec hd (fun c => absurd c hc) (fun _ => kf)
theorem a_if_ne (C : Cx g κ own cc nL rm) {x : Int32} {off : Int} {tgt : Nat} (ht : (pc : Int) + off = (tgt : Int)) (hd : decode cc pc = .ok (.ifCond .ne off, 3)) (kt : ¬ x = 0 → aw g κ nL tgt L st ws k n) (kf : x = 0 → aw g κ nL (pc + 3) L st ws k n) : aw g κ nL pc L (.int x :: st) ws k n := fun H locs ls hP hD hS hl => lv_if_ne C.1 C.2.1 hd ht (fun c => kt c H locs ls hP hD hS hl) (fun c => kf c H locs ls hP hD hS hl)
theorem a_if_ne_y (C : Cx g κ own cc nL rm) {x : Int32} {off : Int} {tgt : Nat} (hc : ¬ x = 0) (ht : (pc : Int) + off = (tgt : Int)) (hd : decode cc pc = .ok (.ifCond .ne off, 3)) (kt : aw g κ nL tgt L st ws k n) : aw g κ nL pc L (.int x :: st) ws k n := a_if_ne C ht hd (fun _ => kt) (fun c => absurd c hc)
theorem a_if_ne_n (C : Cx g κ own cc nL rm) {x : Int32} {off : Int} (hc : x = 0) (hd : decode cc pc = .ok (.ifCond .ne off, 3)) (ht : ∃ tgt : Nat, (pc : Int) + off = (tgt : Int)) (kf : aw g κ nL (pc + 3) L st ws k n) : aw g κ nL pc L (.int x :: st) ws k n := a_if_ne C ht.choose_spec hd (fun c => absurd hc c) (fun _ => kf)
theorem a_if_lt (C : Cx g κ own cc nL rm) {x : Int32} {off : Int} {tgt : Nat} (ht : (pc : Int) + off = (tgt : Int)) (hd : decode cc pc = .ok (.ifCond .lt off, 3)) (kt : x < 0 → aw g κ nL tgt L st ws k n) (kf : ¬ x < 0 → aw g κ nL (pc + 3) L st ws k n) : aw g κ nL pc L (.int x :: st) ws k n := fun H locs ls hP hD hS hl => lv_if_lt C.1 C.2.1 hd ht (fun c => kt c H locs ls hP hD hS hl) (fun c => kf c H locs ls hP hD hS hl)
theorem a_if_lt_y (C : Cx g κ own cc nL rm) {x : Int32} {off : Int} {tgt : Nat} (hc : x < 0) (ht : (pc : Int) + off = (tgt : Int)) (hd : decode cc pc = .ok (.ifCond .lt off, 3)) (kt : aw g κ nL tgt L st ws k n) : aw g κ nL pc L (.int x :: st) ws k n := a_if_lt C ht hd (fun _ => kt) (fun c => absurd hc c)
theorem a_if_lt_n (C : Cx g κ own cc nL rm) {x : Int32} {off : Int} (hc : ¬ x < 0) (hd : decode cc pc = .ok (.ifCond .lt off, 3)) (ht : ∃ tgt : Nat, (pc : Int) + off = (tgt : Int)) (kf : aw g κ nL (pc + 3) L st ws k n) : aw g κ nL pc L (.int x :: st) ws k n := a_if_lt C ht.choose_spec hd (fun c => absurd c hc) (fun _ => kf)
theorem a_if_gt (C : Cx g κ own cc nL rm) {x : Int32} {off : Int} {tgt : Nat} (ht : (pc : Int) + off = (tgt : Int)) (hd : decode cc pc = .ok (.ifCond .gt off, 3)) (kt : 0 < x → aw g κ nL tgt L st ws k n) (kf : ¬ 0 < x → aw g κ nL (pc + 3) L st ws k n) : aw g κ nL pc L (.int x :: st) ws k n := fun H locs ls hP hD hS hl => lv_if_gt C.1 C.2.1 hd ht (fun c => kt c H locs ls hP hD hS hl) (fun c => kf c H locs ls hP hD hS hl)
theorem a_if_gt_y (C : Cx g κ own cc nL rm) {x : Int32} {off : Int} {tgt : Nat} (hc : 0 < x) (ht : (pc : Int) + off = (tgt : Int)) (hd : decode cc pc = .ok (.ifCond .gt off, 3)) (kt : aw g κ nL tgt L st ws k n) : aw g κ nL pc L (.int x :: st) ws k n := a_if_gt C ht hd (fun _ => kt) (fun c => absurd hc c)
theorem a_if_gt_n (C : Cx g κ own cc nL rm) {x : Int32} {off : Int} (hc : ¬ 0 < x) (hd : decode cc pc = .ok (.ifCond .gt off, 3)) (ht : ∃ tgt : Nat, (pc : Int) + off = (tgt : Int)) (kf : aw g κ nL (pc + 3) L st ws k n) : aw g κ nL pc L (.int x :: st) ws k n := a_if_gt C ht.choose_spec hd (fun c => absurd c hc) (fun _ => kf)
theorem a_ic_eq (C : Cx g κ own cc nL rm) {x y : Int32} {off : Int} {tgt : Nat} (ht : (pc : Int) + off = (tgt : Int)) (hd : decode cc pc = .ok (.if_icmp .eq off, 3)) (kt : x = y → aw g κ nL tgt L st ws k n) (kf : ¬ x = y → aw g κ nL (pc + 3) L st ws k n) : aw g κ nL pc L (.int y :: .int x :: st) ws k n := fun H locs ls hP hD hS hl => lv_icmp_eq C.1 C.2.1 hd ht (fun c => kt c H locs ls hP hD hS hl) (fun c => kf c H locs ls hP hD hS hl)
theorem a_icn_eq (C : Cx g κ own cc nL rm) {a b : Nat} {off : Int} {tgt : Nat} (ha : a < 2 ^ 31) (hb : b < 2 ^ 31) (ht : (pc : Int) + off = (tgt : Int)) (hd : decode cc pc = .ok (.if_icmp .eq off, 3)) (kt : a = b → aw g κ nL tgt L st ws k n) (kf : ¬ a = b → aw g κ nL (pc + 3) L st ws k n) : aw g κ nL pc L (.int (nI b) :: .int (nI a) :: st) ws k n := a_ic_eq C ht hd (fun c => kt ((nI_eq ha hb).mp c)) (fun c => kf (fun e => c ((nI_eq ha hb).mpr e)))
theorem a_icn_eq_y (C : Cx g κ own cc nL rm) {a b : Nat} {off : Int} {tgt : Nat} (ha : a < 2 ^ 31) (hb : b < 2 ^ 31) (hc : a = b) (ht : (pc : Int) + off = (tgt : Int)) (hd : decode cc pc = .ok (.if_icmp .eq off, 3)) (kt : aw g κ nL tgt L st ws k n) : aw g κ nL pc L (.int (nI b) :: .int (nI a) :: st) ws k n := a_icn_eq C ha hb ht hd (fun _ => kt) (fun c => False.elim (c hc))
theorem a_icn_eq_n (C : Cx g κ own cc nL rm) {a b : Nat} {off : Int} (ha : a < 2 ^ 31) (hb : b < 2 ^ 31) (hc : ¬ a = b) (hd : decode cc pc = .ok (.if_icmp .eq off, 3)) (ht : ∃ tgt : Nat, (pc : Int) + off = (tgt : Int)) (kf : aw g κ nL (pc + 3) L st ws k n) : aw g κ nL pc L (.int (nI b) :: .int (nI a) :: st) ws k n := a_icn_eq C ha hb ht.choose_spec hd (fun c => False.elim (hc c)) (fun _ => kf)
theorem a_ic_eq_y (C : Cx g κ own cc nL rm) {x y : Int32} {off : Int} {tgt : Nat} (hc : x = y) (ht : (pc : Int) + off = (tgt : Int)) (hd : decode cc pc = .ok (.if_icmp .eq off, 3)) (kt : aw g κ nL tgt L st ws k n) : aw g κ nL pc L (.int y :: .int x :: st) ws k n := a_ic_eq C ht hd (fun _ => kt) (fun c => absurd hc c)
theorem a_ic_eq_n (C : Cx g κ own cc nL rm) {x y : Int32} {off : Int} (hc : ¬ x = y) (hd : decode cc pc = .ok (.if_icmp .eq off, 3)) (ht : ∃ tgt : Nat, (pc : Int) + off = (tgt : Int)) (kf : aw g κ nL (pc + 3) L st ws k n) : aw g κ nL pc L (.int y :: .int x :: st) ws k n := a_ic_eq C ht.choose_spec hd (fun c => absurd c hc) (fun _ => kf)
theorem a_ic_ne (C : Cx g κ own cc nL rm) {x y : Int32} {off : Int} {tgt : Nat} (ht : (pc : Int) + off = (tgt : Int)) (hd : decode cc pc = .ok (.if_icmp .ne off, 3)) (kt : ¬ x = y → aw g κ nL tgt L st ws k n) (kf : x = y → aw g κ nL (pc + 3) L st ws k n) : aw g κ nL pc L (.int y :: .int x :: st) ws k n := fun H locs ls hP hD hS hl => lv_icmp_ne C.1 C.2.1 hd ht (fun c => kt c H locs ls hP hD hS hl) (fun c => kf c H locs ls hP hD hS hl)
theorem a_icn_ne (C : Cx g κ own cc nL rm) {a b : Nat} {off : Int} {tgt : Nat} (ha : a < 2 ^ 31) (hb : b < 2 ^ 31) (ht : (pc : Int) + off = (tgt : Int)) (hd : decode cc pc = .ok (.if_icmp .ne off, 3)) (kt : ¬ a = b → aw g κ nL tgt L st ws k n) (kf : a = b → aw g κ nL (pc + 3) L st ws k n) : aw g κ nL pc L (.int (nI b) :: .int (nI a) :: st) ws k n := a_ic_ne C ht hd (fun c => kt (fun e => c ((nI_eq ha hb).mpr e))) (fun c => kf ((nI_eq ha hb).mp c))
theorem a_icn_ne_y (C : Cx g κ own cc nL rm) {a b : Nat} {off : Int} {tgt : Nat} (ha : a < 2 ^ 31) (hb : b < 2 ^ 31) (hc : ¬ a = b) (ht : (pc : Int) + off = (tgt : Int)) (hd : decode cc pc = .ok (.if_icmp .ne off, 3)) (kt : aw g κ nL tgt L st ws k n) : aw g κ nL pc L (.int (nI b) :: .int (nI a) :: st) ws k n := a_icn_ne C ha hb ht hd (fun _ => kt) (fun c => False.elim (hc c))
theorem a_icn_ne_n (C : Cx g κ own cc nL rm) {a b : Nat} {off : Int} (ha : a < 2 ^ 31) (hb : b < 2 ^ 31) (hc : a = b) (hd : decode cc pc = .ok (.if_icmp .ne off, 3)) (ht : ∃ tgt : Nat, (pc : Int) + off = (tgt : Int)) (kf : aw g κ nL (pc + 3) L st ws k n) : aw g κ nL pc L (.int (nI b) :: .int (nI a) :: st) ws k n := a_icn_ne C ha hb ht.choose_spec hd (fun c => False.elim (c hc)) (fun _ => kf)
theorem a_ic_ne_y (C : Cx g κ own cc nL rm) {x y : Int32} {off : Int} {tgt : Nat} (hc : ¬ x = y) (ht : (pc : Int) + off = (tgt : Int)) (hd : decode cc pc = .ok (.if_icmp .ne off, 3)) (kt : aw g κ nL tgt L st ws k n) : aw g κ nL pc L (.int y :: .int x :: st) ws k n := a_ic_ne C ht hd (fun _ => kt) (fun c => absurd c hc)
theorem a_ic_ne_n (C : Cx g κ own cc nL rm) {x y : Int32} {off : Int} (hc : x = y) (hd : decode cc pc = .ok (.if_icmp .ne off, 3)) (ht : ∃ tgt : Nat, (pc : Int) + off = (tgt : Int)) (kf : aw g κ nL (pc + 3) L st ws k n) : aw g κ nL pc L (.int y :: .int x :: st) ws k n := a_ic_ne C ht.choose_spec hd (fun c => absurd hc c) (fun _ => kf)
theorem a_ic_lt (C : Cx g κ own cc nL rm) {x y : Int32} {off : Int} {tgt : Nat} (ht : (pc : Int) + off = (tgt : Int)) (hd : decode cc pc = .ok (.if_icmp .lt off, 3)) (kt : x < y → aw g κ nL tgt L st ws k n) (kf : ¬ x < y → aw g κ nL (pc + 3) L st ws k n) : aw g κ nL pc L (.int y :: .int x :: st) ws k n := fun H locs ls hP hD hS hl => lv_icmp_lt C.1 C.2.1 hd ht (fun c => kt c H locs ls hP hD hS hl) (fun c => kf c H locs ls hP hD hS hl)
theorem a_icn_lt (C : Cx g κ own cc nL rm) {a b : Nat} {off : Int} {tgt : Nat} (ha : a < 2 ^ 31) (hb : b < 2 ^ 31) (ht : (pc : Int) + off = (tgt : Int)) (hd : decode cc pc = .ok (.if_icmp .lt off, 3)) (kt : a < b → aw g κ nL tgt L st ws k n) (kf : b ≤ a → aw g κ nL (pc + 3) L st ws k n) : aw g κ nL pc L (.int (nI b) :: .int (nI a) :: st) ws k n := a_ic_lt C ht hd (fun c => kt ((nI_ltI ha hb).mp c)) (fun c => kf (Nat.le_of_not_lt (fun e => c ((nI_ltI ha hb).mpr e))))
theorem a_icn_lt_y (C : Cx g κ own cc nL rm) {a b : Nat} {off : Int} {tgt : Nat} (ha : a < 2 ^ 31) (hb : b < 2 ^ 31) (hc : a < b) (ht : (pc : Int) + off = (tgt : Int)) (hd : decode cc pc = .ok (.if_icmp .lt off, 3)) (kt : aw g κ nL tgt L st ws k n) : aw g κ nL pc L (.int (nI b) :: .int (nI a) :: st) ws k n := a_icn_lt C ha hb ht hd (fun _ => kt) (fun c => False.elim (by omega))
theorem a_icn_lt_n (C : Cx g κ own cc nL rm) {a b : Nat} {off : Int} (ha : a < 2 ^ 31) (hb : b < 2 ^ 31) (hc : b ≤ a) (hd : decode cc pc = .ok (.if_icmp .lt off, 3)) (ht : ∃ tgt : Nat, (pc : Int) + off = (tgt : Int)) (kf : aw g κ nL (pc + 3) L st ws k n) : aw g κ nL pc L (.int (nI b) :: .int (nI a) :: st) ws k n := a_icn_lt C ha hb ht.choose_spec hd (fun c => False.elim (by omega)) (fun _ => kf)
theorem a_ic_lt_y (C : Cx g κ own cc nL rm) {x y : Int32} {off : Int} {tgt : Nat} (hc : x < y) (ht : (pc : Int) + off = (tgt : Int)) (hd : decode cc pc = .ok (.if_icmp .lt off, 3)) (kt : aw g κ nL tgt L st ws k n) : aw g κ nL pc L (.int y :: .int x :: st) ws k n := a_ic_lt C ht hd (fun _ => kt) (fun c => absurd hc c)
theorem a_ic_lt_n (C : Cx g κ own cc nL rm) {x y : Int32} {off : Int} (hc : ¬ x < y) (hd : decode cc pc = .ok (.if_icmp .lt off, 3)) (ht : ∃ tgt : Nat, (pc : Int) + off = (tgt : Int)) (kf : aw g κ nL (pc + 3) L st ws k n) : aw g κ nL pc L (.int y :: .int x :: st) ws k n := a_ic_lt C ht.choose_spec hd (fun c => absurd c hc) (fun _ => kf)
theorem a_ic_ge (C : Cx g κ own cc nL rm) {x y : Int32} {off : Int} {tgt : Nat} (ht : (pc : Int) + off = (tgt : Int)) (hd : decode cc pc = .ok (.if_icmp .ge off, 3)) (kt : y ≤ x → aw g κ nL tgt L st ws k n) (kf : ¬ y ≤ x → aw g κ nL (pc + 3) L st ws k n) : aw g κ nL pc L (.int y :: .int x :: st) ws k n := fun H locs ls hP hD hS hl => lv_icmp_ge C.1 C.2.1 hd ht (fun c => kt c H locs ls hP hD hS hl) (fun c => kf c H locs ls hP hD hS hl)
theorem a_icn_ge (C : Cx g κ own cc nL rm) {a b : Nat} {off : Int} {tgt : Nat} (ha : a < 2 ^ 31) (hb : b < 2 ^ 31) (ht : (pc : Int) + off = (tgt : Int)) (hd : decode cc pc = .ok (.if_icmp .ge off, 3)) (kt : b ≤ a → aw g κ nL tgt L st ws k n) (kf : a < b → aw g κ nL (pc + 3) L st ws k n) : aw g κ nL pc L (.int (nI b) :: .int (nI a) :: st) ws k n := a_ic_ge C ht hd (fun c => kt ((nI_leI hb ha).mp c)) (fun c => kf (Nat.lt_of_not_le (fun e => c ((nI_leI hb ha).mpr e))))
theorem a_icn_ge_y (C : Cx g κ own cc nL rm) {a b : Nat} {off : Int} {tgt : Nat} (ha : a < 2 ^ 31) (hb : b < 2 ^ 31) (hc : b ≤ a) (ht : (pc : Int) + off = (tgt : Int)) (hd : decode cc pc = .ok (.if_icmp .ge off, 3)) (kt : aw g κ nL tgt L st ws k n) : aw g κ nL pc L (.int (nI b) :: .int (nI a) :: st) ws k n := a_icn_ge C ha hb ht hd (fun _ => kt) (fun c => False.elim (by omega))
theorem a_icn_ge_n (C : Cx g κ own cc nL rm) {a b : Nat} {off : Int} (ha : a < 2 ^ 31) (hb : b < 2 ^ 31) (hc : a < b) (hd : decode cc pc = .ok (.if_icmp .ge off, 3)) (ht : ∃ tgt : Nat, (pc : Int) + off = (tgt : Int)) (kf : aw g κ nL (pc + 3) L st ws k n) : aw g κ nL pc L (.int (nI b) :: .int (nI a) :: st) ws k n := a_icn_ge C ha hb ht.choose_spec hd (fun c => False.elim (by omega)) (fun _ => kf)
theorem a_ic_ge_y (C : Cx g κ own cc nL rm) {x y : Int32} {off : Int} {tgt : Nat} (hc : y ≤ x) (ht : (pc : Int) + off = (tgt : Int)) (hd : decode cc pc = .ok (.if_icmp .ge off, 3)) (kt : aw g κ nL tgt L st ws k n) : aw g κ nL pc L (.int y :: .int x :: st) ws k n := a_ic_ge C ht hd (fun _ => kt) (fun c => absurd hc c)
theorem a_ic_ge_n (C : Cx g κ own cc nL rm) {x y : Int32} {off : Int} (hc : ¬ y ≤ x) (hd : decode cc pc = .ok (.if_icmp .ge off, 3)) (ht : ∃ tgt : Nat, (pc : Int) + off = (tgt : Int)) (kf : aw g κ nL (pc + 3) L st ws k n) : aw g κ nL pc L (.int y :: .int x :: st) ws k n := a_ic_ge C ht.choose_spec hd (fun c => absurd c hc) (fun _ => kf)
theorem a_ic_gt (C : Cx g κ own cc nL rm) {x y : Int32} {off : Int} {tgt : Nat} (ht : (pc : Int) + off = (tgt : Int)) (hd : decode cc pc = .ok (.if_icmp .gt off, 3)) (kt : y < x → aw g κ nL tgt L st ws k n) (kf : ¬ y < x → aw g κ nL (pc + 3) L st ws k n) : aw g κ nL pc L (.int y :: .int x :: st) ws k n := fun H locs ls hP hD hS hl => lv_icmp_gt C.1 C.2.1 hd ht (fun c => kt c H locs ls hP hD hS hl) (fun c => kf c H locs ls hP hD hS hl)
theorem a_icn_gt (C : Cx g κ own cc nL rm) {a b : Nat} {off : Int} {tgt : Nat} (ha : a < 2 ^ 31) (hb : b < 2 ^ 31) (ht : (pc : Int) + off = (tgt : Int)) (hd : decode cc pc = .ok (.if_icmp .gt off, 3)) (kt : b < a → aw g κ nL tgt L st ws k n) (kf : a ≤ b → aw g κ nL (pc + 3) L st ws k n) : aw g κ nL pc L (.int (nI b) :: .int (nI a) :: st) ws k n := a_ic_gt C ht hd (fun c => kt ((nI_ltI hb ha).mp c)) (fun c => kf (Nat.le_of_not_lt (fun e => c ((nI_ltI hb ha).mpr e))))
theorem a_icn_gt_y (C : Cx g κ own cc nL rm) {a b : Nat} {off : Int} {tgt : Nat} (ha : a < 2 ^ 31) (hb : b < 2 ^ 31) (hc : b < a) (ht : (pc : Int) + off = (tgt : Int)) (hd : decode cc pc = .ok (.if_icmp .gt off, 3)) (kt : aw g κ nL tgt L st ws k n) : aw g κ nL pc L (.int (nI b) :: .int (nI a) :: st) ws k n := a_icn_gt C ha hb ht hd (fun _ => kt) (fun c => False.elim (by omega))
theorem a_icn_gt_n (C : Cx g κ own cc nL rm) {a b : Nat} {off : Int} (ha : a < 2 ^ 31) (hb : b < 2 ^ 31) (hc : a ≤ b) (hd : decode cc pc = .ok (.if_icmp .gt off, 3)) (ht : ∃ tgt : Nat, (pc : Int) + off = (tgt : Int)) (kf : aw g κ nL (pc + 3) L st ws k n) : aw g κ nL pc L (.int (nI b) :: .int (nI a) :: st) ws k n := a_icn_gt C ha hb ht.choose_spec hd (fun c => False.elim (by omega)) (fun _ => kf)
theorem a_ic_gt_y (C : Cx g κ own cc nL rm) {x y : Int32} {off : Int} {tgt : Nat} (hc : y < x) (ht : (pc : Int) + off = (tgt : Int)) (hd : decode cc pc = .ok (.if_icmp .gt off, 3)) (kt : aw g κ nL tgt L st ws k n) : aw g κ nL pc L (.int y :: .int x :: st) ws k n := a_ic_gt C ht hd (fun _ => kt) (fun c => absurd hc c)
theorem a_ic_gt_n (C : Cx g κ own cc nL rm) {x y : Int32} {off : Int} (hc : ¬ y < x) (hd : decode cc pc = .ok (.if_icmp .gt off, 3)) (ht : ∃ tgt : Nat, (pc : Int) + off = (tgt : Int)) (kf : aw g κ nL (pc + 3) L st ws k n) : aw g κ nL pc L (.int y :: .int x :: st) ws k n := a_ic_gt C ht.choose_spec hd (fun c => absurd c hc) (fun _ => kf)
theorem a_ic_le (C : Cx g κ own cc nL rm) {x y : Int32} {off : Int} {tgt : Nat} (ht : (pc : Int) + off = (tgt : Int)) (hd : decode cc pc = .ok (.if_icmp .le off, 3)) (kt : x ≤ y → aw g κ nL tgt L st ws k n) (kf : ¬ x ≤ y → aw g κ nL (pc + 3) L st ws k n) : aw g κ nL pc L (.int y :: .int x :: st) ws k n := fun H locs ls hP hD hS hl => lv_icmp_le C.1 C.2.1 hd ht (fun c => kt c H locs ls hP hD hS hl) (fun c => kf c H locs ls hP hD hS hl)
theorem a_icn_le (C : Cx g κ own cc nL rm) {a b : Nat} {off : Int} {tgt : Nat} (ha : a < 2 ^ 31) (hb : b < 2 ^ 31) (ht : (pc : Int) + off = (tgt : Int)) (hd : decode cc pc = .ok (.if_icmp .le off, 3)) (kt : a ≤ b → aw g κ nL tgt L st ws k n) (kf : b < a → aw g κ nL (pc + 3) L st ws k n) : aw g κ nL pc L (.int (nI b) :: .int (nI a) :: st) ws k n := a_ic_le C ht hd (fun c => kt ((nI_leI ha hb).mp c)) (fun c => kf (Nat.lt_of_not_le (fun e => c ((nI_leI ha hb).mpr e))))
theorem a_icn_le_y (C : Cx g κ own cc nL rm) {a b : Nat} {off : Int} {tgt : Nat} (ha : a < 2 ^ 31) (hb : b < 2 ^ 31) (hc : a ≤ b) (ht : (pc : Int) + off = (tgt : Int)) (hd : decode cc pc = .ok (.if_icmp .le off, 3)) (kt : aw g κ nL tgt L st ws k n) : aw g κ nL pc L (.int (nI b) :: .int (nI a) :: st) ws k n := a_icn_le C ha hb ht hd (fun _ => kt) (fun c => False.elim (by omega))
theorem a_icn_le_n (C : Cx g κ own cc nL rm) {a b : Nat} {off : Int} (ha : a < 2 ^ 31) (hb : b < 2 ^ 31) (hc : b < a) (hd : decode cc pc = .ok (.if_icmp .le off, 3)) (ht : ∃ tgt : Nat, (pc : Int) + off = (tgt : Int)) (kf : aw g κ nL (pc + 3) L st ws k n) : aw g κ nL pc L (.int (nI b) :: .int (nI a) :: st) ws k n := a_icn_le C ha hb ht.choose_spec hd (fun c => False.elim (by omega)) (fun _ => kf)
theorem a_ic_le_y (C : Cx g κ own cc nL rm) {x y : Int32} {off : Int} {tgt : Nat} (hc : x ≤ y) (ht : (pc : Int) + off = (tgt : Int)) (hd : decode cc pc = .ok (.if_icmp .le off, 3)) (kt : aw g κ nL tgt L st ws k n) : aw g κ nL pc L (.int y :: .int x :: st) ws k n := a_ic_le C ht hd (fun _ => kt) (fun c => absurd hc c)
theorem a_ic_le_n (C : Cx g κ own cc nL rm) {x y : Int32} {off : Int} (hc : ¬ x ≤ y) (hd : decode cc pc = .ok (.if_icmp .le off, 3)) (ht : ∃ tgt : Nat, (pc : Int) + off = (tgt : Int)) (kf : aw g κ nL (pc + 3) L st ws k n) : aw g κ nL pc L (.int y :: .int x :: st) ws k n := a_ic_le C ht.choose_spec hd (fun c => absurd c hc) (fun _ => kf)
theorem a_table (C : Cx g κ own cc nL rm) {dflt lo hi : Int} {offs : Array Int} {len : Nat} {x : Int32} {off : Int} {tgt : Nat} (h1 : ¬ x.toInt < lo) (h2 : ¬ hi < x.toInt) (ho : offs[(x.toInt - lo).toNat]? = some off) (ht : (pc : Int) + off = (tgt : Int)) (hd : decode cc pc = .ok (.tableswitch dflt lo hi offs, len)) (kk : aw g κ nL tgt L st ws k n) : aw g κ nL pc L (.int x :: st) ws k n := fun H locs ls hP hD hS hl => lv_tableIn C.1 C.2.1 hd h1 h2 ho ht (kk H locs ls hP hD hS hl)
theorem a_tableD (C : Cx g κ own cc nL rm) {dflt lo hi : Int} {offs : Array Int} {len : Nat} {x : Int32} {tgt : Nat} (h : x.toInt < lo ∨ hi < x.toInt) (ht : (pc : Int) + dflt = (tgt : Int)) (hd : decode cc pc = .ok (.tableswitch dflt lo hi offs, len)) (kk : aw g κ nL tgt L st ws k n) : aw g κ nL pc L (.int x :: st) ws k n := fun H locs ls hP hD hS hl => lv_tableOut C.1 C.2.1 hd h ht (kk H locs ls hP hD hS hl)
theorem a_lookup (C : Cx g κ own cc nL rm) {dflt : Int} {ps : Array (Int × Int)} {len : Nat} {x : Int32} {off : Int} {tgt : Nat} (hp : (ps.toList.zip (ps.toList.drop 1)).all (fun (a, next) => a.1 < next.1) = true) (ho : Op.lookupswitch.offset ps.toList dflt x.toInt = off) (ht : (pc : Int) + off = (tgt : Int)) (hd : decode cc pc = .ok (.lookupswitch dflt ps, len)) (kk : aw g κ nL tgt L st ws k n) : aw g κ nL pc L (.int x :: st) ws k n := fun H locs ls hP hD hS hl => lv_lookup C.1 C.2.1 hd hp ho ht (kk H locs ls hP hD hS hl)
theorem a_get (C : Cx g κ own cc nL rm) {idx ci fi a : Nat} (F : FL own idx ci fi) (q0 : Nat) {fs : List Value} {v : Value} (he : ws[q0]? = some (a, .inr (ci, fs))) (hv : fs[fi]? = some v) (hd : decode cc pc = .ok (.getfield idx, 3)) (kk : aw g κ nL (pc + 3) L (v :: st) ws k n) : aw g κ nL pc L (.ref a :: st) ws k n := by
  obtain ⟨Cn, T, N, ty, h1, h2, h3, h4, h5, h6, h7⟩ := F
  obtain ⟨hx, hb, hml, hown, hts, hK, hlk, hR, hz, hN, hfl⟩ := id C
  exact fun H locs ls hP hD hS hl => va_get (ci := ci) (C := Cn) (T := T) (N := N) hx hb hts h3 hown hK hP q0 he h1 fi h2 (hts _ h5) (fun _ q => by rw [h4] at q; exact q) hv hd (kk H locs ls hP hD hS hl)
theorem a_put (C : Cx g κ own cc nL rm) {idx ci fi a : Nat} {ty : FieldType} (F : FL own idx ci fi) (G : FP ci fi ty false) (q0 : Nat) {fs : List Value} {v : Value} (he : ws[q0]? = some (a, .inr (ci, fs))) (hn : narrow ty v = v) (hf : fits ty v = true) (hl0 : fi < fs.length) (hw : ws.set q0 (a, .inr (ci, fs.set fi v)) = ws') (hd : decode cc pc = .ok (.putfield idx, 3)) (kk : aw g κ nL (pc + 3) L st ws' k n) : aw g κ nL pc L (v :: .ref a :: st) ws k n := by
  obtain ⟨Cn, T, N, ty0, h1, h2, h3, h4, h5, h6, h7⟩ := F
  obtain ⟨Cn', T', N', g1, g2, g3⟩ := G
  obtain ⟨rfl, rfl, rfl⟩ := (by simpa using h1.symm.trans g1 : Cn = Cn' ∧ T = T' ∧ N = N')
  obtain ⟨hx, hb, hml, hown, hts, hK, hlk, hR, hz, hN, hfl⟩ := id C
  intro H locs ls hP hD hS hl
  refine va_put (ci := ci) (C := Cn) (T := T) (N := N) hx hb hts h3 ty0 h6 h7 hown hK hP hD hS q0 he h1 fi h2 (hts _ h5) (fun _ q => by rw [h4] at q; exact q) g2 g3 hn hf hl0 hd (fun H1 locs1 hP1 hD1 hS1 => ?_)
  rw [hw] at hP1 hD1
  exact kk H1 locs1 ls hP1 hD1 hS1 hl
theorem a_putF (C : Cx g κ own cc nL rm) (hi : (g_h g).name = "<init>") {idx ci fi a : Nat} {ty : FieldType} (F : FL own idx ci fi) (G : FP ci fi ty true) (hown0 : ∀ q : vw_C, vwCl[ci]? = some q → q.1 = own) (q0 : Nat) {fs : List Value} {v : Value} (he : ws[q0]? = some (a, .inr (ci, fs))) (hn : narrow ty v = v) (hf : fits ty v = true) (hl0 : fi < fs.length) (hw : ws.set q0 (a, .inr (ci, fs.set fi v)) = ws') (hd : decode cc pc = .ok (.putfield idx, 3)) (kk : aw g κ nL (pc + 3) L st ws' k n) : aw g κ nL pc L (v :: .ref a :: st) ws k n := by
  obtain ⟨Cn, T, N, ty0, h1, h2, h3, h4, h5, h6, h7⟩ := F
  obtain ⟨Cn', T', N', g1, g2, g3⟩ := G
  obtain ⟨rfl, rfl, rfl⟩ := (by simpa using h1.symm.trans g1 : Cn = Cn' ∧ T = T' ∧ N = N')
  obtain ⟨hx, hb, hml, hown, hts, hK, hlk, hR, hz, hN, hfl⟩ := id C
  intro H locs ls hP hD hS hl
  refine va_putF (ci := ci) (C := Cn) (T := T) (N := N) hx hb hts h3 ty0 h6 h7 hown hK hP hD hS q0 he h1 fi h2 (hts _ h5) (fun _ q => by rw [h4] at q; exact q) g2 hi (h4.trans (hown0 _ h1)) g3 hn hf hl0 hd (fun H1 locs1 hP1 hD1 hS1 => ?_)
  rw [hw] at hP1 hD1
  exact kk H1 locs1 ls hP1 hD1 hS1 hl
def fN (f : Nat → Nat) : Nat → Int32 := fun k => nI (f k)
def b2i (b : Bool) : Int32 := if b then 1 else 0
def fZ (f : Nat → Bool) : Nat → Int32 := fun k => b2i (f k)
theorem upd_up (f : Nat → Int32) (k : Nat) (x : Int32) : upd f k x = va_up f k x := rfl
theorem updL_up (f : Nat → Int64) (k : Nat) (x : Int64) : vp_updL f k x = va_up f k x := rfl
theorem fN_up (f : Nat → Nat) (k v : Nat) : va_up (fN f) k (nI v) = fN (va_up f k v) := by
  funext j
  by_cases h : j = k <;> simp [va_up, fN, h]
theorem fZ_up (f : Nat → Bool) (k : Nat) (v : Bool) : va_up (fZ f) k (b2i v) = fZ (va_up f k v) := by
  funext j
  by_cases h : j = k <;> simp [va_up, fZ, h]
theorem b2i_nar (b : Bool) : vp_nar .boolean (b2i b) = b2i b := by cases b <;> decide +kernel
theorem b2i_narrow (b : Bool) : narrow .boolean (.int (b2i b)) = .int (b2i b) := by cases b <;> decide +kernel
theorem a_iald (C : Cx g κ own cc nL rm) {a len j : Nat} {f : Nat → Int32} (q0 : Nat) (he : ws[q0]? = some (a, .inl (kI κ, len, .inl f))) (hj : j < len) (hs : len < 2 ^ 31) (hd : decode cc pc = .ok (.iaload, 1)) (kk : aw g κ nL (pc + 1) L (.int (f j) :: st) ws k n) : aw g κ nL pc L (.int (nI j) :: .ref a :: st) ws k n := by
  obtain ⟨hx, hb, hml, hown, hts, hK, hlk, hR, hz, hN, hfl⟩ := id C
  intro H locs ls hP hD hS hl
  refine va_iald hx hb hK hP q0 0 he rfl (vp_in_nI hj hs) hd ?_
  rw [nI_clamp (Nat.lt_trans hj hs)]
  exact kk H locs ls hP hD hS hl
theorem a_lald (C : Cx g κ own cc nL rm) {a len j : Nat} {f : Nat → Int64} (q0 : Nat) (he : ws[q0]? = some (a, .inl (kJ κ, len, .inr (.inl f)))) (hj : j < len) (hs : len < 2 ^ 31) (hd : decode cc pc = .ok (.laload, 1)) (kk : aw g κ nL (pc + 1) L (.long (f j) :: st) ws k n) : aw g κ nL pc L (.int (nI j) :: .ref a :: st) ws k n := by
  obtain ⟨hx, hb, hml, hown, hts, hK, hlk, hR, hz, hN, hfl⟩ := id C
  intro H locs ls hP hD hS hl
  refine va_lald hx hb hK hP q0 1 he rfl (vp_in_nI hj hs) hd ?_
  rw [nI_clamp (Nat.lt_trans hj hs)]
  exact kk H locs ls hP hD hS hl
theorem a_zald (C : Cx g κ own cc nL rm) {a len j : Nat} {f : Nat → Int32} (q0 : Nat) (he : ws[q0]? = some (a, .inl (kZ κ, len, .inl f))) (hj : j < len) (hs : len < 2 ^ 31) (hd : decode cc pc = .ok (.baload, 1)) (kk : aw g κ nL (pc + 1) L (.int (f j) :: st) ws k n) : aw g κ nL pc L (.int (nI j) :: .ref a :: st) ws k n := by
  obtain ⟨hx, hb, hml, hown, hts, hK, hlk, hR, hz, hN, hfl⟩ := id C
  intro H locs ls hP hD hS hl
  refine va_zald hx hb hK hP q0 2 he rfl (vp_in_nI hj hs) hd ?_
  rw [nI_clamp (Nat.lt_trans hj hs)]
  exact kk H locs ls hP hD hS hl
theorem a_iast (C : Cx g κ own cc nL rm) {a len j : Nat} {f f' : Nat → Int32} {x : Int32} (q0 : Nat) (he : ws[q0]? = some (a, .inl (kI κ, len, .inl f))) (hj : j < len) (hs : len < 2 ^ 31) (hf : va_up f j x = f') (hw : ws.set q0 (a, .inl (kI κ, len, .inl f')) = ws') (hd : decode cc pc = .ok (.iastore, 1)) (kk : aw g κ nL (pc + 1) L st ws' k n) : aw g κ nL pc L (.int x :: .int (nI j) :: .ref a :: st) ws k n := by
  obtain ⟨hx, hb, hml, hown, hts, hK, hlk, hR, hz, hN, hfl⟩ := id C
  intro H locs ls hP hD hS hl
  refine va_iast hx hb hK hP hD hS q0 0 he rfl (vp_in_nI hj hs) hd (fun H1 locs1 hP1 hD1 hS1 => ?_)
  rw [nI_clamp (Nat.lt_trans hj hs), upd_up, hf, hw] at hP1 hD1
  exact kk H1 locs1 ls hP1 hD1 hS1 hl
theorem a_last (C : Cx g κ own cc nL rm) {a len j : Nat} {f f' : Nat → Int64} {x : Int64} (q0 : Nat) (he : ws[q0]? = some (a, .inl (kJ κ, len, .inr (.inl f)))) (hj : j < len) (hs : len < 2 ^ 31) (hf : va_up f j x = f') (hw : ws.set q0 (a, .inl (kJ κ, len, .inr (.inl f'))) = ws') (hd : decode cc pc = .ok (.lastore, 1)) (kk : aw g κ nL (pc + 1) L st ws' k n) : aw g κ nL pc L (.long x :: .int (nI j) :: .ref a :: st) ws k n := by
  obtain ⟨hx, hb, hml, hown, hts, hK, hlk, hR, hz, hN, hfl⟩ := id C
  intro H locs ls hP hD hS hl
  refine va_last hx hb hK hP hD hS q0 1 he rfl (vp_in_nI hj hs) hd (fun H1 locs1 hP1 hD1 hS1 => ?_)
  rw [nI_clamp (Nat.lt_trans hj hs), updL_up, hf, hw] at hP1 hD1
  exact kk H1 locs1 ls hP1 hD1 hS1 hl
theorem a_zast (C : Cx g κ own cc nL rm) {a len j : Nat} {f : Nat → Bool} {x : Bool} (q0 : Nat) (he : ws[q0]? = some (a, .inl (kZ κ, len, .inl (fZ f)))) (hj : j < len) (hs : len < 2 ^ 31) (hw : ws.set q0 (a, .inl (kZ κ, len, .inl (fZ (va_up f j x)))) = ws') (hd : decode cc pc = .ok (.bastore, 1)) (kk : aw g κ nL (pc + 1) L st ws' k n) : aw g κ nL pc L (.int (b2i x) :: .int (nI j) :: .ref a :: st) ws k n := by
  obtain ⟨hx, hb, hml, hown, hts, hK, hlk, hR, hz, hN, hfl⟩ := id C
  intro H locs ls hP hD hS hl
  refine va_zast hx hb hK hP hD hS q0 2 he rfl (vp_in_nI hj hs) hd (fun H1 locs1 hP1 hD1 hS1 => ?_)
  rw [nI_clamp (Nat.lt_trans hj hs), upd_up, b2i_nar, fZ_up, hw] at hP1 hD1
  exact kk H1 locs1 ls hP1 hD1 hS1 hl
theorem a_mmax (C : Cx g κ own cc nL rm) {index : Nat} {x y v : Int32} (h1 : Cond.methodLink own index Lib.Math.max.name ∈ WW) (hv : (if x < y then y else x) = v) (hf : 1 ≤ rm.frames) (ho : (st.map fun v => v.category).sum + 13 ≤ rm.locals) (hc : k ≤ rm.cells) (hs : n ≤ rm.slots) (hd : decode cc pc = .ok (.invokestatic index, 3)) (kk : aw g κ nL (pc + 3) L (.int v :: st) ws k n) : aw g κ nL pc L (.int y :: .int x :: st) ws k n := by
  obtain ⟨hx, hb, hml, hown, hts, hK, hlk, hR, hz, hN, hfl⟩ := id C
  intro H locs ls hP hD hS hl
  refine va_mmax hx hb (hml.trans hl.1.symm) hown (hts _ h1) (hts _ w_maxS) (hts _ w_maxI) (hts _ w_maxC) (by rw [hR]; exact hf) (by rw [hR]; exact ho) (by rw [hR]; exact hc) (by rw [hR]; exact hs) hd ?_
  rw [hv]
  exact kk H locs ls hP hD hS hl
theorem a_mmin (C : Cx g κ own cc nL rm) {index : Nat} {x y v : Int32} (h1 : Cond.methodLink own index Lib.Math.min.name ∈ WW) (hv : (if y < x then y else x) = v) (hf : 1 ≤ rm.frames) (ho : (st.map fun v => v.category).sum + 13 ≤ rm.locals) (hc : k ≤ rm.cells) (hs : n ≤ rm.slots) (hd : decode cc pc = .ok (.invokestatic index, 3)) (kk : aw g κ nL (pc + 3) L (.int v :: st) ws k n) : aw g κ nL pc L (.int y :: .int x :: st) ws k n := by
  obtain ⟨hx, hb, hml, hown, hts, hK, hlk, hR, hz, hN, hfl⟩ := id C
  intro H locs ls hP hD hS hl
  refine va_mmin hx hb (hml.trans hl.1.symm) hown (hts _ h1) (hts _ w_minS) (hts _ w_maxI) (hts _ w_minC) (by rw [hR]; exact hf) (by rw [hR]; exact ho) (by rw [hR]; exact hc) (by rw [hR]; exact hs) hd ?_
  rw [hv]
  exact kk H locs ls hP hD hS hl
/-! calls -/
theorem aPre_blind {av : List Value} {w : va_W} : FrameBlind (va_Pc av (aPre κ w)) := fun a U g' mk q => by
  obtain ⟨q0, q1, q2, q3, q4, q5⟩ := q
  exact ⟨q0, q1, q2, q3, va_K.moved (u := U) (Vm.Alike.refl U.vm) q4, q5.calling g' mk a⟩
theorem aPre_at (C : Cx g κ own cc nL rm) {H : Heap} {locs : List Loc} (hP : va_P (kD κ) vwCl ws H) (hD : va_D (kA κ) ws) (hS : va_S (kA κ) (g_s g).heap H locs) (U : State) (hU : U.heap = H) (hW : (g_s g).WarmedH U.vm) : aPre κ ws U := by
  obtain ⟨hx, hb, hml, hown, hts, hK, hlk, hR, hz, hN, hfl⟩ := id C
  exact ⟨by rw [hU]; exact Nat.le_trans hz hS.1, by rw [hU]; exact hP, hD, va_K.moved hW.alike hK, hN.warm hW hU hS⟩
theorem g_good {y : MethodName} {bytes : ByteArray} {maxL : Nat} {ret : Option FieldType} (hw : Cond.code y bytes maxL ret ∈ WW) : GoodIn WW (.code y bytes maxL ret :: WW) := fun w h => by
  rcases List.mem_cons.mp h with rfl | h
  · exact ⟨hw, (ww_good hw).2⟩
  · exact ⟨h, (ww_good h).2⟩
theorem cb_of (C : Cx g κ own cc nL rm) {y : MethodName} {bytes : ByteArray} {maxL index np : Nat} {ret : Option FieldType} {rm' : Room} (Y : YV y bytes maxL ret np) (hl : Cond.methodLink own index y ∈ WW) (hf : rm'.frames + 1 ≤ rm.frames) (ho : 8 + (maxL + 11) + rm'.locals ≤ rm.locals) : CallB (g_R g) (g_s g) (g_a g) own index y bytes maxL ret (.code y bytes maxL ret :: WW) rm' rm'.cells rm'.slots np := by
  obtain ⟨hx, hb, hml, hown, hts, hK, hlk, hR, hz, hN, hfl⟩ := id C
  exact callB_of np hts (g_good Y.1) rfl rfl rfl (hts _ Y.2.1) (hts _ hl) Y.2.2 ⟨by rw [hR]; exact hf, by rw [hR]; exact ho⟩
theorem aw_ret {mc ms : Nat} {st0 rest : List Value} {P : Option Value → va_W → Prop} {a : Array Value} {free : Addr → Prop} (hfree : ∀ q, free q → kA κ q)
    (hr : ∀ (H : Heap) (locs : List Loc) (ls : Array Slot), va_P (kD κ) vwCl ws H → va_D (kA κ) ws → va_S (kA κ) (g_s g).heap H locs → lv_has ls nL L → va_Run (g_p g) (g_l g) (g_e g) (g_R g) (g_s g) (g_m g) (g_a g) (g_b g) (g_h g) (g_c g) H locs k n mc ms (F0 (g_m g) pc ls st0) rest (aQ κ P a) free)
    (kk : ∀ (ro : Option Value) (w : va_W), P ro w → aw g κ nL (pc + 3) L (ro.toList ++ rest) w (k + mc) (n + ms)) : aw g κ nL pc L st0 ws k n := by
  intro H locs ls hP hD hS hl T hT X
  obtain ⟨v, st₀, t, T', Lc, h0, X', hL, e1, e2, ⟨⟨ro, w, hv, hp, hP1, hD1⟩, hz, hk⟩, sts⟩ := hr H locs ls hP hD hS hl T hT X
  cases hv
  rw [h0] at hz hk
  obtain ⟨t2, a1, b1⟩ := kk v w hp T'.heap (locs ++ Lc) ls (by rw [e1]; exact hP1) hD1 ⟨Nat.le_trans hS.1 (by rw [e1]; exact hz), fun q h1 h2 => by rw [e1, hk q (Nat.lt_of_lt_of_le h1 hS.1) h2]; exact hS.2.1 q h1 h2, fun q hq => by
      rcases List.mem_append.mp hq with h | h
      · exact hS.2.2 q h
      · exact hfree _ (hL q h)⟩ hl T' rfl X'
  exact ⟨t2, sts t2 a1, b1⟩
theorem a_callV (C : Cx g κ own cc nL rm) {y : MethodName} {bytes : ByteArray} {maxL index np ci b : Nat} {ret : Option FieldType} {rm' : Room} {As : List Value} {P : Option Value → va_W → Prop} (hM : CM y bytes maxL ret rm' κ (.ref b :: As) ws P) (Y : YV y bytes maxL ret np) (hl : Cond.methodLink own index y ∈ WW) (hi : Cond.instanceMethod y ∈ WW) (hsel : Cond.selects y.cls y y ∈ WW)
    (q0 : Nat) {fs : List Value} {T : u_T} {N : Nat} (he : ws[q0]? = some (b, .inr (ci, fs))) (hc : vwCl[ci]? = some (y.cls, T, N)) (hn : As.length = np) (hst : L' = L) {st0 : List Value} (hs0 : st0 = As.reverse ++ .ref b :: st) (hroom : (st.map fun v => v.category).sum ≤ 8) (hf : rm'.frames + 1 ≤ rm.frames) (ho : 8 + (maxL + 11) + rm'.locals ≤ rm.locals) (hcs : k + rm'.cells ≤ rm.cells ∧ n + rm'.slots ≤ rm.slots) (hd : decode cc pc = .ok (.invokevirtual index, 3))
    (kk : ∀ (ro : Option Value) (w : va_W), P ro w → aw g κ nL (pc + 3) L (ro.toList ++ st) w (k + rm'.cells) (n + rm'.slots)) : aw g κ nL pc L st0 ws k n := by
  obtain ⟨hx, hb, hml, hown, hts, hK, hlk, hR, hz, hN, hfl⟩ := id C
  refine aw_ret (fun q h => h) (fun H locs ls hP hD hS hl' => va_runV ⟨hx, hb, hml, hown, hts⟩ (hM (g_l g) hfl) ⟨cb_of C Y hl hf ho, hts _ hi, hts _ hsel⟩ ⟨aPre_blind, va_recv hK hP hc he, fun U hU hW => ⟨rfl, aPre_at C hP hD hS U hU hW⟩⟩ rfl hn hl'.1 hs0 (lv_room hroom) hd (by rw [hR]; exact hcs)) kk
theorem a_callS (C : Cx g κ own cc nL rm) {y : MethodName} {bytes : ByteArray} {maxL index np : Nat} {ret : Option FieldType} {rm' : Room} {As : List Value} {P : Option Value → va_W → Prop} (hM : CM y bytes maxL ret rm' κ As ws P) (Y : YV y bytes maxL ret np) (hl : Cond.methodLink own index y ∈ WW) (hs : Cond.static y ∈ WW)
    (hn : As.length = np) {st0 : List Value} (hs0 : st0 = As.reverse ++ st) (hroom : (st.map fun v => v.category).sum ≤ 8) (hf : rm'.frames + 1 ≤ rm.frames) (ho : 8 + (maxL + 11) + rm'.locals ≤ rm.locals) (hcs : k + rm'.cells ≤ rm.cells ∧ n + rm'.slots ≤ rm.slots) (hd : decode cc pc = .ok (.invokestatic index, 3))
    (kk : ∀ (ro : Option Value) (w : va_W), P ro w → aw g κ nL (pc + 3) L (ro.toList ++ st) w (k + rm'.cells) (n + rm'.slots)) : aw g κ nL pc L st0 ws k n := by
  obtain ⟨hx, hb, hml, hown, hts, hK, hlk, hR, hz, hN, hfl⟩ := id C
  refine aw_ret (fun q h => h) (fun H locs ls hP hD hS hl' => va_runS ⟨hx, hb, hml, hown, hts⟩ (hM (g_l g) hfl) ⟨cb_of C Y hl hf ho, hts _ hs⟩ ⟨aPre_blind, fun U hU hW => ⟨rfl, aPre_at C hP hD hS U hU hW⟩⟩ rfl hn hl'.1 hs0 (lv_room hroom) hd (by rw [hR]; exact hcs)) kk
/-- a static method of a nest mate -/
theorem a_callSN (C : Cx g κ own cc nL rm) {y : MethodName} {host : String} {bytes : ByteArray} {maxL index np : Nat} {ret : Option FieldType} {rm' : Room} {As : List Value} {P : Option Value → va_W → Prop} (hM : CM y bytes maxL ret rm' κ As ws P) (Y : YV y bytes maxL ret np) (hl : (own, index, y, host) ∈ nestM) (hs : Cond.static y ∈ WW)
    (hn : As.length = np) {st0 : List Value} (hs0 : st0 = As.reverse ++ st) (hroom : (st.map fun v => v.category).sum ≤ 8) (hf : rm'.frames + 1 ≤ rm.frames) (ho : 8 + (maxL + 11) + rm'.locals ≤ rm.locals) (hcs : k + rm'.cells ≤ rm.cells ∧ n + rm'.slots ≤ rm.slots) (hd : decode cc pc = .ok (.invokestatic index, 3))
    (kk : ∀ (ro : Option Value) (w : va_W), P ro w → aw g κ nL (pc + 3) L (ro.toList ++ st) w (k + rm'.cells) (n + rm'.slots)) : aw g κ nL pc L st0 ws k n := by
  obtain ⟨hx, hb, hml, hown, hts, hK, hlk, hR, hz, hN, hfl⟩ := id C
  refine aw_ret (fun q h => h) (fun H locs ls hP hD hS hl' => va_runSN ⟨hx, hb, hml, hown, hts⟩ (hM (g_l g) hfl) ⟨va_cnB np hts (g_good Y.1) rfl rfl rfl (hN.1 _ hl) (hts _ Y.2.1) Y.2.2 ⟨by rw [hR]; exact hf, by rw [hR]; exact ho⟩, hts _ hs, trivial⟩ ⟨aPre_blind, fun U hU hW => ⟨rfl, aPre_at C hP hD hS U hU hW⟩⟩ rfl hn hl'.1 hs0 (lv_room hroom) hd (by rw [hR]; exact hcs)) kk
/-- a constructor of a nest mate -/
theorem a_callIN (C : Cx g κ own cc nL rm) {y : MethodName} {host : String} {bytes : ByteArray} {maxL index np b : Nat} {rm' : Room} {As : List Value} {P : Option Value → va_W → Prop} (hM : CM y bytes maxL none rm' κ (.ref b :: As) ws P) (Y : YV y bytes maxL none np) (hl : (own, index, y, host) ∈ nestM) (hi : Cond.instanceMethod y ∈ WW) (hin : y.name = "<init>")
    (hn : As.length = np) {st0 : List Value} (hs0 : st0 = As.reverse ++ .ref b :: st) (hroom : (st.map fun v => v.category).sum ≤ 8) (hf : rm'.frames + 1 ≤ rm.frames) (ho : 8 + (maxL + 11) + rm'.locals ≤ rm.locals) (hcs : k + rm'.cells ≤ rm.cells ∧ n + rm'.slots ≤ rm.slots) (hd : decode cc pc = .ok (.invokespecial index, 3))
    (kk : ∀ (ro : Option Value) (w : va_W), P ro w → aw g κ nL (pc + 3) L (ro.toList ++ st) w (k + rm'.cells) (n + rm'.slots)) : aw g κ nL pc L st0 ws k n := by
  obtain ⟨hx, hb, hml, hown, hts, hK, hlk, hR, hz, hN, hfl⟩ := id C
  refine aw_ret (fun q h => h) (fun H locs ls hP hD hS hl' => va_runIN ⟨hx, hb, hml, hown, hts⟩ (hM (g_l g) hfl) ⟨va_cnB np hts (g_good Y.1) rfl rfl rfl (hN.1 _ hl) (hts _ Y.2.1) Y.2.2 ⟨by rw [hR]; exact hf, by rw [hR]; exact ho⟩, hin, hts _ hi⟩ ⟨aPre_blind, fun U hU hW => ⟨rfl, aPre_at C hP hD hS U hU hW⟩⟩ rfl hn hl'.1 hs0 (lv_room hroom) hd (by rw [hR]; exact hcs)) kk
/-- a constructor -/
theorem a_callI (C : Cx g κ own cc nL rm) {y : MethodName} {bytes : ByteArray} {maxL index np b : Nat} {rm' : Room} {As : List Value} {P : Option Value → va_W → Prop} (hM : CM y bytes maxL none rm' κ (.ref b :: As) ws P) (Y : YV y bytes maxL none np) (hl : Cond.methodLink own index y ∈ WW) (hi : Cond.instanceMethod y ∈ WW) (hin : y.name = "<init>")
    (hn : As.length = np) {st0 : List Value} (hs0 : st0 = As.reverse ++ .ref b :: st) (hroom : (st.map fun v => v.category).sum ≤ 8) (hf : rm'.frames + 1 ≤ rm.frames) (ho : 8 + (maxL + 11) + rm'.locals ≤ rm.locals) (hcs : k + rm'.cells ≤ rm.cells ∧ n + rm'.slots ≤ rm.slots) (hd : decode cc pc = .ok (.invokespecial index, 3))
    (kk : ∀ (ro : Option Value) (w : va_W), P ro w → aw g κ nL (pc + 3) L (ro.toList ++ st) w (k + rm'.cells) (n + rm'.slots)) : aw g κ nL pc L st0 ws k n := by
  obtain ⟨hx, hb, hml, hown, hts, hK, hlk, hR, hz, hN, hfl⟩ := id C
  refine aw_ret (fun q h => h) (fun H locs ls hP hD hS hl' => va_runI ⟨hx, hb, hml, hown, hts⟩ (hM (g_l g) hfl) ⟨cb_of C Y hl hf ho, hin, hts _ hi⟩ ⟨aPre_blind, fun U hU hW => ⟨rfl, aPre_at C hP hD hS U hU hW⟩⟩ rfl hn hl'.1 hs0 (lv_room hroom) hd (by rw [hR]; exact hcs)) kk
/-! ends -/
theorem aQ_at {P : Option Value → va_W → Prop} {ro : Option Value} {H : Heap} {locs : List Loc} {a : Array Value} (hp : P ro ws) (hP : va_P (kD κ) vwCl ws H) (hD : va_D (kA κ) ws) (hS : va_S (kA κ) (g_s g).heap H locs) (t : State) (ht : t.heap = H) : aQ κ P a (g_s g) (.returned ro) t := ⟨⟨ro, ws, rfl, hp, by rw [ht]; exact hP, hD⟩, hS.F ht⟩
theorem a_end {P : Option Value → va_W → Prop} {rt : Option FieldType} {mc ms : Nat} (E : Rx g κ rt P mc ms) (hk : k ≤ mc) (hn : n ≤ ms)
    (h : ∀ (H : Heap) (locs : List Loc) (ls : Array Slot), va_P (kD κ) vwCl ws H → va_D (kA κ) ws → va_S (kA κ) (g_s g).heap H locs → lv_has ls nL L → W (g_p g) (g_l g) (g_e g) (g_R g) (g_s g) (g_m g) (g_a g) (g_b g) (g_h g) (g_c g) H locs mc ms (MQ (g_b g) (aQ κ P) (g_a g) (g_s g) mc ms (kA κ)) (F0 (g_m g) pc ls st)) : aw g κ nL pc L st ws k n := by
  intro H locs ls hP hD hS hl
  have h1 := h H locs ls hP hD hS hl
  rcases E.2 with e | ⟨PX, e⟩
  · show W (g_p g) (g_l g) (g_e g) (g_R g) (g_s g) (g_m g) (g_a g) (g_b g) (g_h g) (g_c g) H locs k n (g_Q g) _
    rw [e]
    exact W.widen hk hn h1
  · show W (g_p g) (g_l g) (g_e g) (g_R g) (g_s g) (g_m g) (g_a g) (g_b g) (g_h g) (g_c g) H locs k n (g_Q g) _
    rw [e]
    exact W.widen hk hn (vx_ret h1)
theorem a_iret (C : Cx g κ own cc nL rm) {P : Option Value → va_W → Prop} {mc ms : Nat} (E : Rx g κ (some .int) P mc ms) (hk : k ≤ mc) (hn : n ≤ ms) {v : Int32} (hp : P (some (.int v)) ws) (hd : decode cc pc = .ok (.ireturn, 1)) : aw g κ nL pc L [.int v] ws k n := a_end E hk hn (fun H locs ls hP hD hS hl => W.iret C.1 C.2.1 E.1 (fun t ht hW => aQ_at hp hP hD hS t ht) hS.2.2 hd C.2.2.2.2.2.2.1)
theorem a_zret (C : Cx g κ own cc nL rm) {P : Option Value → va_W → Prop} {mc ms : Nat} (E : Rx g κ (some .boolean) P mc ms) (hk : k ≤ mc) (hn : n ≤ ms) {b : Bool} {v : Int32} (hv : v = b2i b) (hp : P (some (.int (b2i b))) ws) (hd : decode cc pc = .ok (.ireturn, 1)) : aw g κ nL pc L [.int v] ws k n := by
  subst hv
  exact a_end E hk hn (fun H locs ls hP hD hS hl => W.zret C.1 C.2.1 E.1 (b2i_narrow b) (fun t ht hW => aQ_at hp hP hD hS t ht) hS.2.2 hd C.2.2.2.2.2.2.1)
theorem a_lret (C : Cx g κ own cc nL rm) {P : Option Value → va_W → Prop} {mc ms : Nat} (E : Rx g κ (some .long) P mc ms) (hk : k ≤ mc) (hn : n ≤ ms) {v : Int64} (hp : P (some (.long v)) ws) (hd : decode cc pc = .ok (.lreturn, 1)) : aw g κ nL pc L [.long v] ws k n := a_end E hk hn (fun H locs ls hP hD hS hl => W.lret C.1 C.2.1 E.1 (fun t ht hW => aQ_at hp hP hD hS t ht) hS.2.2 hd C.2.2.2.2.2.2.1)
theorem a_dret (C : Cx g κ own cc nL rm) {P : Option Value → va_W → Prop} {mc ms : Nat} (E : Rx g κ (some .double) P mc ms) (hk : k ≤ mc) (hn : n ≤ ms) {v : UInt64} (hp : P (some (.double v)) ws) (hd : decode cc pc = .ok (.dreturn, 1)) : aw g κ nL pc L [.double v] ws k n := a_end E hk hn (fun H locs ls hP hD hS hl => W.dret C.1 C.2.1 E.1 (fun t ht hW => aQ_at hp hP hD hS t ht) hS.2.2 hd C.2.2.2.2.2.2.1)
theorem a_aret (C : Cx g κ own cc nL rm) {P : Option Value → va_W → Prop} {mc ms : Nat} {t0 : FieldType} (E : Rx g κ (some (.array t0)) P mc ms) (hk : k ≤ mc) (hn : n ≤ ms) {a : Nat} (hp : P (some (.ref a)) ws) (hd : decode cc pc = .ok (.areturn, 1)) : aw g κ nL pc L [.ref a] ws k n := a_end E hk hn (fun H locs ls hP hD hS hl => W.aret C.1 C.2.1 E.1 (Or.inr ⟨t0, rfl⟩) (Or.inr ⟨a, rfl⟩) (fun t ht hW => aQ_at hp hP hD hS t ht) hS.2.2 hd C.2.2.2.2.2.2.1)
theorem a_vret (C : Cx g κ own cc nL rm) {P : Option Value → va_W → Prop} {mc ms : Nat} (E : Rx g κ none P mc ms) (hk : k ≤ mc) (hn : n ≤ ms) (hp : P none ws) (hd : decode cc pc = .ok (.return_, 1)) : aw g κ nL pc L [] ws k n := a_end E hk hn (fun H locs ls hP hD hS hl => W.vret C.1 C.2.1 E.1 (fun t ht hW => aQ_at hp hP hD hS t ht) hS.2.2 hd C.2.2.2.2.2.2.1)
end ROWS2
