section
-- ===== PART A: goes FIRST, ahead of the names: the tables' words, and 'selects' of the private methods out of them =====
/-- a private method of a class that the tables say can be made, by its rows of tables_1 -/
def lw_okq (q : MethodName × Nat) : Prop := (q.1.cls ≠ "java/lang/invoke/MethodHandle" ∧ q.1.cls ≠ "java/lang/invoke/VarHandle") ∧ Cond.instantiable q.1.cls q.2 ∈ tables_1 ∧ Cond.privateMethod q.1 ∈ tables_1 ∧ Cond.instanceMethod q.1 ∈ tables_1
theorem lw_p0 : lw_okq (⟨"TrenchBook", "isPairOutOfPhase", "(II)Z"⟩, 5) := ⟨⟨by decide +kernel, by decide +kernel⟩, List.mem_of_getElem? (i := 18) (by decide +kernel), List.mem_of_getElem? (i := 232) (by decide +kernel), List.mem_of_getElem? (i := 233) (by decide +kernel)⟩
theorem lw_p1 : lw_okq (⟨"java/lang/Throwable", "fillInStackTrace", "(I)Ljava/lang/Throwable;"⟩, 6) := ⟨⟨by decide +kernel, by decide +kernel⟩, List.mem_of_getElem? (i := 308) (by decide +kernel), List.mem_of_getElem? (i := 306) (by decide +kernel), List.mem_of_getElem? (i := 307) (by decide +kernel)⟩
theorem lw_p2 : lw_okq (⟨"TrenchBook", "bodiesInDoubt", "()J"⟩, 5) := ⟨⟨by decide +kernel, by decide +kernel⟩, List.mem_of_getElem? (i := 18) (by decide +kernel), List.mem_of_getElem? (i := 349) (by decide +kernel), List.mem_of_getElem? (i := 350) (by decide +kernel)⟩
theorem lw_p3 : lw_okq (⟨"TrenchBook", "pairsOutOfPhase", "()I"⟩, 5) := ⟨⟨by decide +kernel, by decide +kernel⟩, List.mem_of_getElem? (i := 18) (by decide +kernel), List.mem_of_getElem? (i := 361) (by decide +kernel), List.mem_of_getElem? (i := 362) (by decide +kernel)⟩
theorem lw_p4 : lw_okq (⟨"TrenchBook", "requireUnit", "(I)V"⟩, 5) := ⟨⟨by decide +kernel, by decide +kernel⟩, List.mem_of_getElem? (i := 18) (by decide +kernel), List.mem_of_getElem? (i := 369) (by decide +kernel), List.mem_of_getElem? (i := 370) (by decide +kernel)⟩
theorem lw_p5 : lw_okq (⟨"TrenchBook", "requireRelation", "(I)V"⟩, 5) := ⟨⟨by decide +kernel, by decide +kernel⟩, List.mem_of_getElem? (i := 18) (by decide +kernel), List.mem_of_getElem? (i := 386) (by decide +kernel), List.mem_of_getElem? (i := 387) (by decide +kernel)⟩
theorem lw_p6 : lw_okq (⟨"TrenchBook", "requireFind", "(I)V"⟩, 5) := ⟨⟨by decide +kernel, by decide +kernel⟩, List.mem_of_getElem? (i := 18) (by decide +kernel), List.mem_of_getElem? (i := 395) (by decide +kernel), List.mem_of_getElem? (i := 396) (by decide +kernel)⟩
theorem lw_p7 : lw_okq (⟨"TrenchBook", "misfit", "(I)I"⟩, 5) := ⟨⟨by decide +kernel, by decide +kernel⟩, List.mem_of_getElem? (i := 18) (by decide +kernel), List.mem_of_getElem? (i := 400) (by decide +kernel), List.mem_of_getElem? (i := 401) (by decide +kernel)⟩
theorem lw_p8 : lw_okq (⟨"TrenchBook", "renewMatrix", "()V"⟩, 5) := ⟨⟨by decide +kernel, by decide +kernel⟩, List.mem_of_getElem? (i := 18) (by decide +kernel), List.mem_of_getElem? (i := 449) (by decide +kernel), List.mem_of_getElem? (i := 450) (by decide +kernel)⟩
theorem lw_p9 : lw_okq (⟨"TrenchBook$Matrix", "joinUnits", "(LTrenchBook$Relations;)V"⟩, 11) := ⟨⟨by decide +kernel, by decide +kernel⟩, List.mem_of_getElem? (i := 90) (by decide +kernel), List.mem_of_getElem? (i := 457) (by decide +kernel), List.mem_of_getElem? (i := 458) (by decide +kernel)⟩
theorem lw_p10 : lw_okq (⟨"TrenchBook$Matrix", "joinBodies", "(II)V"⟩, 11) := ⟨⟨by decide +kernel, by decide +kernel⟩, List.mem_of_getElem? (i := 90) (by decide +kernel), List.mem_of_getElem? (i := 461) (by decide +kernel), List.mem_of_getElem? (i := 462) (by decide +kernel)⟩
theorem lw_p11 : lw_okq (⟨"TrenchBook$Matrix", "gatherMembers", "()V"⟩, 11) := ⟨⟨by decide +kernel, by decide +kernel⟩, List.mem_of_getElem? (i := 90) (by decide +kernel), List.mem_of_getElem? (i := 466) (by decide +kernel), List.mem_of_getElem? (i := 467) (by decide +kernel)⟩
theorem lw_p12 : lw_okq (⟨"TrenchBook$Matrix", "gatherDirectlyEarlier", "(LTrenchBook$Relations;)V"⟩, 11) := ⟨⟨by decide +kernel, by decide +kernel⟩, List.mem_of_getElem? (i := 90) (by decide +kernel), List.mem_of_getElem? (i := 471) (by decide +kernel), List.mem_of_getElem? (i := 472) (by decide +kernel)⟩
theorem lw_p13 : lw_okq (⟨"TrenchBook$Matrix", "gatherEarlier", "()V"⟩, 11) := ⟨⟨by decide +kernel, by decide +kernel⟩, List.mem_of_getElem? (i := 90) (by decide +kernel), List.mem_of_getElem? (i := 475) (by decide +kernel), List.mem_of_getElem? (i := 476) (by decide +kernel)⟩
theorem lw_p14 : lw_okq (⟨"TrenchBook$Matrix", "gatherLater", "()V"⟩, 11) := ⟨⟨by decide +kernel, by decide +kernel⟩, List.mem_of_getElem? (i := 90) (by decide +kernel), List.mem_of_getElem? (i := 479) (by decide +kernel), List.mem_of_getElem? (i := 480) (by decide +kernel)⟩
theorem lw_p15 : lw_okq (⟨"TrenchBook$Matrix", "gatherLinks", "()V"⟩, 11) := ⟨⟨by decide +kernel, by decide +kernel⟩, List.mem_of_getElem? (i := 90) (by decide +kernel), List.mem_of_getElem? (i := 483) (by decide +kernel), List.mem_of_getElem? (i := 484) (by decide +kernel)⟩
def lw_privs_1 : List (MethodName × Nat) := [(⟨"TrenchBook", "isPairOutOfPhase", "(II)Z"⟩, 5), (⟨"java/lang/Throwable", "fillInStackTrace", "(I)Ljava/lang/Throwable;"⟩, 6), (⟨"TrenchBook", "bodiesInDoubt", "()J"⟩, 5), (⟨"TrenchBook", "pairsOutOfPhase", "()I"⟩, 5), (⟨"TrenchBook", "requireUnit", "(I)V"⟩, 5), (⟨"TrenchBook", "requireRelation", "(I)V"⟩, 5), (⟨"TrenchBook", "requireFind", "(I)V"⟩, 5), (⟨"TrenchBook", "misfit", "(I)I"⟩, 5), (⟨"TrenchBook", "renewMatrix", "()V"⟩, 5), (⟨"TrenchBook$Matrix", "joinUnits", "(LTrenchBook$Relations;)V"⟩, 11), (⟨"TrenchBook$Matrix", "joinBodies", "(II)V"⟩, 11), (⟨"TrenchBook$Matrix", "gatherMembers", "()V"⟩, 11), (⟨"TrenchBook$Matrix", "gatherDirectlyEarlier", "(LTrenchBook$Relations;)V"⟩, 11), (⟨"TrenchBook$Matrix", "gatherEarlier", "()V"⟩, 11), (⟨"TrenchBook$Matrix", "gatherLater", "()V"⟩, 11), (⟨"TrenchBook$Matrix", "gatherLinks", "()V"⟩, 11)]
theorem lw_r1 : ∀ q ∈ lw_privs_1, lw_okq q := List.forall_mem_cons.mpr ⟨lw_p0, List.forall_mem_cons.mpr ⟨lw_p1, List.forall_mem_cons.mpr ⟨lw_p2, List.forall_mem_cons.mpr ⟨lw_p3, List.forall_mem_cons.mpr ⟨lw_p4, List.forall_mem_cons.mpr ⟨lw_p5, List.forall_mem_cons.mpr ⟨lw_p6, List.forall_mem_cons.mpr ⟨lw_p7, List.forall_mem_cons.mpr ⟨lw_p8, List.forall_mem_cons.mpr ⟨lw_p9, List.forall_mem_cons.mpr ⟨lw_p10, List.forall_mem_cons.mpr ⟨lw_p11, List.forall_mem_cons.mpr ⟨lw_p12, List.forall_mem_cons.mpr ⟨lw_p13, List.forall_mem_cons.mpr ⟨lw_p14, List.forall_mem_cons.mpr ⟨lw_p15, fun _ h => absurd h List.not_mem_nil⟩⟩⟩⟩⟩⟩⟩⟩⟩⟩⟩⟩⟩⟩⟩⟩
theorem lw_p16 : lw_okq (⟨"TrenchBook$Matrix", "rank", "(J[J[I)V"⟩, 11) := ⟨⟨by decide +kernel, by decide +kernel⟩, List.mem_of_getElem? (i := 90) (by decide +kernel), List.mem_of_getElem? (i := 488) (by decide +kernel), List.mem_of_getElem? (i := 489) (by decide +kernel)⟩
theorem lw_p17 : lw_okq (⟨"TrenchBook", "renewBounds", "()V"⟩, 5) := ⟨⟨by decide +kernel, by decide +kernel⟩, List.mem_of_getElem? (i := 18) (by decide +kernel), List.mem_of_getElem? (i := 492) (by decide +kernel), List.mem_of_getElem? (i := 493) (by decide +kernel)⟩
theorem lw_p18 : lw_okq (⟨"TrenchBook$Bounds", "gatherDates", "(LTrenchBook$Units;LTrenchBook$Matrix;)V"⟩, 4) := ⟨⟨by decide +kernel, by decide +kernel⟩, List.mem_of_getElem? (i := 184) (by decide +kernel), List.mem_of_getElem? (i := 500) (by decide +kernel), List.mem_of_getElem? (i := 501) (by decide +kernel)⟩
theorem lw_p19 : lw_okq (⟨"TrenchBook$Bounds", "gatherFinds", "(LTrenchBook$Finds;LTrenchBook$Matrix;)V"⟩, 4) := ⟨⟨by decide +kernel, by decide +kernel⟩, List.mem_of_getElem? (i := 184) (by decide +kernel), List.mem_of_getElem? (i := 507) (by decide +kernel), List.mem_of_getElem? (i := 508) (by decide +kernel)⟩
theorem lw_p20 : lw_okq (⟨"TrenchBook$Bounds", "spread", "(ILTrenchBook$Matrix;)V"⟩, 4) := ⟨⟨by decide +kernel, by decide +kernel⟩, List.mem_of_getElem? (i := 184) (by decide +kernel), List.mem_of_getElem? (i := 511) (by decide +kernel), List.mem_of_getElem? (i := 512) (by decide +kernel)⟩
theorem lw_p21 : lw_okq (⟨"TrenchBook", "whyRefused", "(III)I"⟩, 5) := ⟨⟨by decide +kernel, by decide +kernel⟩, List.mem_of_getElem? (i := 18) (by decide +kernel), List.mem_of_getElem? (i := 525) (by decide +kernel), List.mem_of_getElem? (i := 526) (by decide +kernel)⟩
theorem lw_p22 : lw_okq (⟨"TrenchBook", "wouldMakeLoop", "(III)Z"⟩, 5) := ⟨⟨by decide +kernel, by decide +kernel⟩, List.mem_of_getElem? (i := 18) (by decide +kernel), List.mem_of_getElem? (i := 536) (by decide +kernel), List.mem_of_getElem? (i := 537) (by decide +kernel)⟩
theorem lw_p23 : lw_okq (⟨"TrenchBook$Matrix", "nextOnWay", "(IJ)I"⟩, 11) := ⟨⟨by decide +kernel, by decide +kernel⟩, List.mem_of_getElem? (i := 90) (by decide +kernel), List.mem_of_getElem? (i := 611) (by decide +kernel), List.mem_of_getElem? (i := 612) (by decide +kernel)⟩
theorem lw_p24 : lw_okq (⟨"TrenchBook$Finds", "squareOfDistance", "(IIII)I"⟩, 8) := ⟨⟨by decide +kernel, by decide +kernel⟩, List.mem_of_getElem? (i := 142) (by decide +kernel), List.mem_of_getElem? (i := 699) (by decide +kernel), List.mem_of_getElem? (i := 700) (by decide +kernel)⟩
theorem lw_p25 : lw_okq (⟨"TrenchBook", "canBeDug", "(I)Z"⟩, 5) := ⟨⟨by decide +kernel, by decide +kernel⟩, List.mem_of_getElem? (i := 18) (by decide +kernel), List.mem_of_getElem? (i := 710) (by decide +kernel), List.mem_of_getElem? (i := 711) (by decide +kernel)⟩
theorem lw_p26 : lw_okq (⟨"TrenchBook", "unitsToDig", "()J"⟩, 5) := ⟨⟨by decide +kernel, by decide +kernel⟩, List.mem_of_getElem? (i := 18) (by decide +kernel), List.mem_of_getElem? (i := 715) (by decide +kernel), List.mem_of_getElem? (i := 716) (by decide +kernel)⟩
theorem lw_p27 : lw_okq (⟨"TrenchBookModel", "no", "(I)I"⟩, 20) := ⟨⟨by decide +kernel, by decide +kernel⟩, List.mem_of_getElem? (i := 734) (by decide +kernel), List.mem_of_getElem? (i := 813) (by decide +kernel), List.mem_of_getElem? (i := 814) (by decide +kernel)⟩
theorem lw_p28 : lw_okq (⟨"TrenchBookModel", "settle", "()V"⟩, 20) := ⟨⟨by decide +kernel, by decide +kernel⟩, List.mem_of_getElem? (i := 734) (by decide +kernel), List.mem_of_getElem? (i := 817) (by decide +kernel), List.mem_of_getElem? (i := 818) (by decide +kernel)⟩
theorem lw_p29 : lw_okq (⟨"TrenchBookModel", "follow", "()Z"⟩, 20) := ⟨⟨by decide +kernel, by decide +kernel⟩, List.mem_of_getElem? (i := 734) (by decide +kernel), List.mem_of_getElem? (i := 821) (by decide +kernel), List.mem_of_getElem? (i := 822) (by decide +kernel)⟩
theorem lw_p30 : lw_okq (⟨"TrenchBookModel", "joinBodies", "()V"⟩, 20) := ⟨⟨by decide +kernel, by decide +kernel⟩, List.mem_of_getElem? (i := 734) (by decide +kernel), List.mem_of_getElem? (i := 825) (by decide +kernel), List.mem_of_getElem? (i := 826) (by decide +kernel)⟩
theorem lw_p31 : lw_okq (⟨"TrenchBookModel", "rank", "([I[J)V"⟩, 20) := ⟨⟨by decide +kernel, by decide +kernel⟩, List.mem_of_getElem? (i := 734) (by decide +kernel), List.mem_of_getElem? (i := 834) (by decide +kernel), List.mem_of_getElem? (i := 835) (by decide +kernel)⟩
def lw_privs_2 : List (MethodName × Nat) := [(⟨"TrenchBook$Matrix", "rank", "(J[J[I)V"⟩, 11), (⟨"TrenchBook", "renewBounds", "()V"⟩, 5), (⟨"TrenchBook$Bounds", "gatherDates", "(LTrenchBook$Units;LTrenchBook$Matrix;)V"⟩, 4), (⟨"TrenchBook$Bounds", "gatherFinds", "(LTrenchBook$Finds;LTrenchBook$Matrix;)V"⟩, 4), (⟨"TrenchBook$Bounds", "spread", "(ILTrenchBook$Matrix;)V"⟩, 4), (⟨"TrenchBook", "whyRefused", "(III)I"⟩, 5), (⟨"TrenchBook", "wouldMakeLoop", "(III)Z"⟩, 5), (⟨"TrenchBook$Matrix", "nextOnWay", "(IJ)I"⟩, 11), (⟨"TrenchBook$Finds", "squareOfDistance", "(IIII)I"⟩, 8), (⟨"TrenchBook", "canBeDug", "(I)Z"⟩, 5), (⟨"TrenchBook", "unitsToDig", "()J"⟩, 5), (⟨"TrenchBookModel", "no", "(I)I"⟩, 20), (⟨"TrenchBookModel", "settle", "()V"⟩, 20), (⟨"TrenchBookModel", "follow", "()Z"⟩, 20), (⟨"TrenchBookModel", "joinBodies", "()V"⟩, 20), (⟨"TrenchBookModel", "rank", "([I[J)V"⟩, 20)]
theorem lw_r2 : ∀ q ∈ lw_privs_2, lw_okq q := List.forall_mem_cons.mpr ⟨lw_p16, List.forall_mem_cons.mpr ⟨lw_p17, List.forall_mem_cons.mpr ⟨lw_p18, List.forall_mem_cons.mpr ⟨lw_p19, List.forall_mem_cons.mpr ⟨lw_p20, List.forall_mem_cons.mpr ⟨lw_p21, List.forall_mem_cons.mpr ⟨lw_p22, List.forall_mem_cons.mpr ⟨lw_p23, List.forall_mem_cons.mpr ⟨lw_p24, List.forall_mem_cons.mpr ⟨lw_p25, List.forall_mem_cons.mpr ⟨lw_p26, List.forall_mem_cons.mpr ⟨lw_p27, List.forall_mem_cons.mpr ⟨lw_p28, List.forall_mem_cons.mpr ⟨lw_p29, List.forall_mem_cons.mpr ⟨lw_p30, List.forall_mem_cons.mpr ⟨lw_p31, fun _ h => absurd h List.not_mem_nil⟩⟩⟩⟩⟩⟩⟩⟩⟩⟩⟩⟩⟩⟩⟩⟩
theorem lw_p32 : lw_okq (⟨"TrenchBookModel", "isUnit", "(I)Z"⟩, 20) := ⟨⟨by decide +kernel, by decide +kernel⟩, List.mem_of_getElem? (i := 734) (by decide +kernel), List.mem_of_getElem? (i := 843) (by decide +kernel), List.mem_of_getElem? (i := 844) (by decide +kernel)⟩
theorem lw_p33 : lw_okq (⟨"TrenchBookModel", "areSorts", "(III)Z"⟩, 20) := ⟨⟨by decide +kernel, by decide +kernel⟩, List.mem_of_getElem? (i := 734) (by decide +kernel), List.mem_of_getElem? (i := 847) (by decide +kernel), List.mem_of_getElem? (i := 848) (by decide +kernel)⟩
theorem lw_p34 : lw_okq (⟨"TrenchBookModel", "isTold", "(III)Z"⟩, 20) := ⟨⟨by decide +kernel, by decide +kernel⟩, List.mem_of_getElem? (i := 734) (by decide +kernel), List.mem_of_getElem? (i := 851) (by decide +kernel), List.mem_of_getElem? (i := 852) (by decide +kernel)⟩
theorem lw_p35 : lw_okq (⟨"TrenchBookModel", "relationTold", "(II)I"⟩, 20) := ⟨⟨by decide +kernel, by decide +kernel⟩, List.mem_of_getElem? (i := 734) (by decide +kernel), List.mem_of_getElem? (i := 863) (by decide +kernel), List.mem_of_getElem? (i := 864) (by decide +kernel)⟩
theorem lw_p36 : lw_okq (⟨"TrenchBookModel", "counted", "(I)I"⟩, 20) := ⟨⟨by decide +kernel, by decide +kernel⟩, List.mem_of_getElem? (i := 734) (by decide +kernel), List.mem_of_getElem? (i := 871) (by decide +kernel), List.mem_of_getElem? (i := 872) (by decide +kernel)⟩
theorem lw_p37 : lw_okq (⟨"TrenchBookModel", "bodies", "()I"⟩, 20) := ⟨⟨by decide +kernel, by decide +kernel⟩, List.mem_of_getElem? (i := 734) (by decide +kernel), List.mem_of_getElem? (i := 875) (by decide +kernel), List.mem_of_getElem? (i := 876) (by decide +kernel)⟩
theorem lw_p38 : lw_okq (⟨"TrenchBookModel", "isBody", "(I)Z"⟩, 20) := ⟨⟨by decide +kernel, by decide +kernel⟩, List.mem_of_getElem? (i := 734) (by decide +kernel), List.mem_of_getElem? (i := 879) (by decide +kernel), List.mem_of_getElem? (i := 880) (by decide +kernel)⟩
theorem lw_p39 : lw_okq (⟨"TrenchBookModel", "links", "()I"⟩, 20) := ⟨⟨by decide +kernel, by decide +kernel⟩, List.mem_of_getElem? (i := 734) (by decide +kernel), List.mem_of_getElem? (i := 883) (by decide +kernel), List.mem_of_getElem? (i := 884) (by decide +kernel)⟩
theorem lw_p40 : lw_okq (⟨"TrenchBookModel", "dug", "()I"⟩, 20) := ⟨⟨by decide +kernel, by decide +kernel⟩, List.mem_of_getElem? (i := 734) (by decide +kernel), List.mem_of_getElem? (i := 888) (by decide +kernel), List.mem_of_getElem? (i := 889) (by decide +kernel)⟩
theorem lw_p41 : lw_okq (⟨"TrenchBookModel", "doubts", "()I"⟩, 20) := ⟨⟨by decide +kernel, by decide +kernel⟩, List.mem_of_getElem? (i := 734) (by decide +kernel), List.mem_of_getElem? (i := 892) (by decide +kernel), List.mem_of_getElem? (i := 893) (by decide +kernel)⟩
theorem lw_p42 : lw_okq (⟨"TrenchBookModel", "isInDoubt", "(I)Z"⟩, 20) := ⟨⟨by decide +kernel, by decide +kernel⟩, List.mem_of_getElem? (i := 734) (by decide +kernel), List.mem_of_getElem? (i := 896) (by decide +kernel), List.mem_of_getElem? (i := 897) (by decide +kernel)⟩
theorem lw_p43 : lw_okq (⟨"TrenchBookModel", "year", "(IZ)I"⟩, 20) := ⟨⟨by decide +kernel, by decide +kernel⟩, List.mem_of_getElem? (i := 734) (by decide +kernel), List.mem_of_getElem? (i := 900) (by decide +kernel), List.mem_of_getElem? (i := 901) (by decide +kernel)⟩
theorem lw_p44 : lw_okq (⟨"TrenchBookModel", "levels", "()I"⟩, 20) := ⟨⟨by decide +kernel, by decide +kernel⟩, List.mem_of_getElem? (i := 734) (by decide +kernel), List.mem_of_getElem? (i := 904) (by decide +kernel), List.mem_of_getElem? (i := 905) (by decide +kernel)⟩
theorem lw_p45 : lw_okq (⟨"TrenchBookModel", "pairsOut", "()I"⟩, 20) := ⟨⟨by decide +kernel, by decide +kernel⟩, List.mem_of_getElem? (i := 734) (by decide +kernel), List.mem_of_getElem? (i := 908) (by decide +kernel), List.mem_of_getElem? (i := 909) (by decide +kernel)⟩
theorem lw_p46 : lw_okq (⟨"TrenchBookModel", "areOut", "(II)Z"⟩, 20) := ⟨⟨by decide +kernel, by decide +kernel⟩, List.mem_of_getElem? (i := 734) (by decide +kernel), List.mem_of_getElem? (i := 912) (by decide +kernel), List.mem_of_getElem? (i := 913) (by decide +kernel)⟩
theorem lw_p47 : lw_okq (⟨"TrenchBookModel", "unitTold", "(II)I"⟩, 20) := ⟨⟨by decide +kernel, by decide +kernel⟩, List.mem_of_getElem? (i := 734) (by decide +kernel), List.mem_of_getElem? (i := 920) (by decide +kernel), List.mem_of_getElem? (i := 921) (by decide +kernel)⟩
def lw_privs_3 : List (MethodName × Nat) := [(⟨"TrenchBookModel", "isUnit", "(I)Z"⟩, 20), (⟨"TrenchBookModel", "areSorts", "(III)Z"⟩, 20), (⟨"TrenchBookModel", "isTold", "(III)Z"⟩, 20), (⟨"TrenchBookModel", "relationTold", "(II)I"⟩, 20), (⟨"TrenchBookModel", "counted", "(I)I"⟩, 20), (⟨"TrenchBookModel", "bodies", "()I"⟩, 20), (⟨"TrenchBookModel", "isBody", "(I)Z"⟩, 20), (⟨"TrenchBookModel", "links", "()I"⟩, 20), (⟨"TrenchBookModel", "dug", "()I"⟩, 20), (⟨"TrenchBookModel", "doubts", "()I"⟩, 20), (⟨"TrenchBookModel", "isInDoubt", "(I)Z"⟩, 20), (⟨"TrenchBookModel", "year", "(IZ)I"⟩, 20), (⟨"TrenchBookModel", "levels", "()I"⟩, 20), (⟨"TrenchBookModel", "pairsOut", "()I"⟩, 20), (⟨"TrenchBookModel", "areOut", "(II)Z"⟩, 20), (⟨"TrenchBookModel", "unitTold", "(II)I"⟩, 20)]
theorem lw_r3 : ∀ q ∈ lw_privs_3, lw_okq q := List.forall_mem_cons.mpr ⟨lw_p32, List.forall_mem_cons.mpr ⟨lw_p33, List.forall_mem_cons.mpr ⟨lw_p34, List.forall_mem_cons.mpr ⟨lw_p35, List.forall_mem_cons.mpr ⟨lw_p36, List.forall_mem_cons.mpr ⟨lw_p37, List.forall_mem_cons.mpr ⟨lw_p38, List.forall_mem_cons.mpr ⟨lw_p39, List.forall_mem_cons.mpr ⟨lw_p40, List.forall_mem_cons.mpr ⟨lw_p41, List.forall_mem_cons.mpr ⟨lw_p42, List.forall_mem_cons.mpr ⟨lw_p43, List.forall_mem_cons.mpr ⟨lw_p44, List.forall_mem_cons.mpr ⟨lw_p45, List.forall_mem_cons.mpr ⟨lw_p46, List.forall_mem_cons.mpr ⟨lw_p47, fun _ h => absurd h List.not_mem_nil⟩⟩⟩⟩⟩⟩⟩⟩⟩⟩⟩⟩⟩⟩⟩⟩
theorem lw_p48 : lw_okq (⟨"TrenchBookModel", "sizeOf", "(I)I"⟩, 20) := ⟨⟨by decide +kernel, by decide +kernel⟩, List.mem_of_getElem? (i := 734) (by decide +kernel), List.mem_of_getElem? (i := 924) (by decide +kernel), List.mem_of_getElem? (i := 925) (by decide +kernel)⟩
theorem lw_p49 : lw_okq (⟨"TrenchBookModel", "findsIn", "(I)I"⟩, 20) := ⟨⟨by decide +kernel, by decide +kernel⟩, List.mem_of_getElem? (i := 734) (by decide +kernel), List.mem_of_getElem? (i := 928) (by decide +kernel), List.mem_of_getElem? (i := 929) (by decide +kernel)⟩
theorem lw_p50 : lw_okq (⟨"TrenchBookModel", "farTo", "(I)[I"⟩, 20) := ⟨⟨by decide +kernel, by decide +kernel⟩, List.mem_of_getElem? (i := 734) (by decide +kernel), List.mem_of_getElem? (i := 948) (by decide +kernel), List.mem_of_getElem? (i := 949) (by decide +kernel)⟩
theorem lw_p51 : lw_okq (⟨"TrenchBookModel", "isFind", "(I)Z"⟩, 20) := ⟨⟨by decide +kernel, by decide +kernel⟩, List.mem_of_getElem? (i := 734) (by decide +kernel), List.mem_of_getElem? (i := 967) (by decide +kernel), List.mem_of_getElem? (i := 968) (by decide +kernel)⟩
theorem lw_p52 : lw_okq (⟨"TrenchBookModel", "findTold", "(II)I"⟩, 20) := ⟨⟨by decide +kernel, by decide +kernel⟩, List.mem_of_getElem? (i := 734) (by decide +kernel), List.mem_of_getElem? (i := 982) (by decide +kernel), List.mem_of_getElem? (i := 983) (by decide +kernel)⟩
theorem lw_p53 : lw_okq (⟨"TrenchBookModel", "canDig", "(I)Z"⟩, 20) := ⟨⟨by decide +kernel, by decide +kernel⟩, List.mem_of_getElem? (i := 734) (by decide +kernel), List.mem_of_getElem? (i := 1006) (by decide +kernel), List.mem_of_getElem? (i := 1007) (by decide +kernel)⟩
def lw_privs_4 : List (MethodName × Nat) := [(⟨"TrenchBookModel", "sizeOf", "(I)I"⟩, 20), (⟨"TrenchBookModel", "findsIn", "(I)I"⟩, 20), (⟨"TrenchBookModel", "farTo", "(I)[I"⟩, 20), (⟨"TrenchBookModel", "isFind", "(I)Z"⟩, 20), (⟨"TrenchBookModel", "findTold", "(II)I"⟩, 20), (⟨"TrenchBookModel", "canDig", "(I)Z"⟩, 20)]
theorem lw_r4 : ∀ q ∈ lw_privs_4, lw_okq q := List.forall_mem_cons.mpr ⟨lw_p48, List.forall_mem_cons.mpr ⟨lw_p49, List.forall_mem_cons.mpr ⟨lw_p50, List.forall_mem_cons.mpr ⟨lw_p51, List.forall_mem_cons.mpr ⟨lw_p52, List.forall_mem_cons.mpr ⟨lw_p53, fun _ h => absurd h List.not_mem_nil⟩⟩⟩⟩⟩⟩
def lw_privs : List (MethodName × Nat) := lw_privs_1 ++ (lw_privs_2 ++ (lw_privs_3 ++ (lw_privs_4)))
def lw_tbl : List Cond := k2_sels lw_privs ++ tables_1
theorem lw_privs_ok : ∀ q ∈ lw_privs, lw_okq q := by
  show ∀ q ∈ lw_privs_1 ++ (lw_privs_2 ++ (lw_privs_3 ++ (lw_privs_4))), lw_okq q
  exact List.forall_mem_append.mpr ⟨lw_r1, List.forall_mem_append.mpr ⟨lw_r2, List.forall_mem_append.mpr ⟨lw_r3, lw_r4⟩⟩⟩
/-- the streams that the claim lets the run draw from -/
abbrev lw_cs : List Choice := [Jvm.Choice.named "NaN.bits"]
theorem lw_bits : nanBits ∈ lw_cs := by first | decide | exact List.mem_cons_self | simp [lw_cs, nanBits]
-- ===== end of PART A; then your names; then what follows =====
end
section
/-! ===== BEGIN words of one list among another's, by their places ===== -/
theorem goodIn_r {big : List Cond} (ws : List Cond) (ps : List Nat) (hp : ws = ps.filterMap (fun i => big[i]?)) (h : ws.all goodWord = true) : GoodIn big ws := by
  intro w hw
  have h1 := List.all_eq_true.mp h w hw
  rw [hp] at hw
  obtain ⟨i, -, hi⟩ := List.mem_filterMap.mp hw
  have hm : w ∈ big := by first | exact List.mem_of_getElem? hi | exact List.getElem?_mem hi
  exact ⟨hm, good_of_word h1⟩
theorem goodIn_app {big a b : List Cond} (ha : GoodIn big a) (hb : GoodIn big b) : GoodIn big (a ++ b) := fun w h => (List.mem_append.mp h).elim (ha w) (hb w)
theorem goodIn_ca {big a b : List Cond} {c : Cond} (ha : GoodIn big (c :: a)) (hb : GoodIn big b) : GoodIn big (c :: (a ++ b)) := fun w h => (List.mem_cons.mp h).elim (fun e => ha w (List.mem_cons.mpr (Or.inl e))) (fun h => (List.mem_append.mp h).elim (fun h => ha w (List.mem_cons.mpr (Or.inr h))) (hb w))
theorem goodIn_sub {big ws : List Cond} (hm : ∀ w ∈ ws, w ∈ big) (h : ws.all goodWord = true) : GoodIn big ws := fun w hw => ⟨hm w hw, good_of_word (List.all_eq_true.mp h w hw)⟩
/-! ===== END ===== -/

/-! ===== BEGIN exceptions that leave a method, and their catching by the caller (launches without stack traces) ===== -/
section VXA
/-! The laws vx_back, vx_callV, vx_callS, vx_callSW, vx_throw0, vx_throwS follow proofs of the library, with one case more: JvmDerived/Free/Laws.lean (Back.of_free), Shelf42/LK1.lean (callV, callS), Shelf/KitTraced.lean (throwNew0V, throwNewS). -/
/-- where a method has thrown q: the class by its name, the cell, what was written, the world -/
def vx_T (XC : String → State → State → Prop) (st : State) (q : Addr) (t : State) (mc ms : Nat) (free : Addr → Prop) : Prop :=
  ∃ (E : String) (ce : Cell) (L : List Loc), XC E st t ∧ t.heap[q]? = some ce ∧ ce.vm = .none ∧ st.vm.findClass E = some ce.cls ∧ st.WarmedH t.vm ∧ st.sameButNew ({ t with vm := st.vm } : State) L mc ms ∧ ∀ z ∈ L, free z.base
def vx_Q (Qc : Array Value → State → Outcome → State → Prop) (XC : String → State → State → Prop) (mc ms : Nat) (free : Addr → Prop) : Array Value → State → Outcome → State → Prop := fun a st o t =>
  (Qc a st o t ∧ ∃ L, FrameEnd st o t L mc ms ∧ ∀ q ∈ L, free q.base) ∨ ∃ q, o = .threw q ∧ vx_T XC st q t mc ms free
/-- a callee that returns or throws -/
def vx_Met (l : Launch) (y : MethodName) (ws : List Cond) (rm : Room) (Pc : Array Value → State → Prop) (Qc : Array Value → State → Outcome → State → Prop) (XC : String → State → State → Prop) (mc ms : Nat) (free : Addr → Prop) : Prop :=
  MetFree l y (headSpec ws rm) Pc (fun _ _ _ _ _ => True) (vx_Q Qc XC mc ms free)
def vx_Post (XC : String → State → State → Prop) (mc ms : Nat) (free : Addr → Prop) : Pt → Array Value → Addr → Pt → Prop := fun A a q B =>
  ∃ (g : JFrame) (mk : MethodId) (t : State) (L : List Loc) (E : String) (ce : Cell), B.U.heap = t.heap ∧ B.U.vm = t.vm ∧ XC E (A.U.calling g mk a) t ∧ t.heap[q]? = some ce ∧ ce.vm = .none ∧ A.U.vm.findClass E = some ce.cls ∧ B.locs = A.locs ++ L ∧ (∀ z ∈ L, free z.base) ∧ B.cells = A.cells + mc ∧ B.slots = A.slots + ms
def vx_Back (l : Launch) (R : Room) (p : Program) (e : Env) (below : List Frame) (s : State) (sargs : Array Value) (y : MethodName) (len W9 : Nat)
    (Pre : Pt → Array Value → Prop) (Post : Pt → Array Value → Option Value → Pt → Prop) (PostX : Pt → Array Value → Addr → Pt → Prop) : Prop :=
  ∀ (m : MethodId) (meth : Method) (c : Code) (A : Pt) (g : JFrame) (ig : Instr) (mk : MethodId) (a : Array Value),
    Stand p l e R s m sargs below meth c A.U A.locs A.cells A.slots → g.method = m → g.locals.size = c.maxLocals → decode c.code g.pc = .ok (ig, len) →
    2 * g.monitorRoom + (g.stack.map fun v => v.category).sum ≤ W9 → A.U.methodNamed? y = some mk → Pre A a →
    (∃ (v : Option Value) (B : Pt), Stand p l e R s m sargs below meth c B.U B.locs B.cells B.slots ∧ Post A a v B ∧
      Steps p.tables e below (doInvoke e (A.U.setTop g) [] mk a).1 (B.U.setTop { g with pc := g.pc + len, stack := v.toList ++ g.stack })) ∨
    (∃ (q : Addr) (B : Pt), Stand p l e R s m sargs below meth c B.U B.locs B.cells B.slots ∧ PostX A a q B ∧
      Steps p.tables e below (doInvoke e (A.U.setTop g) [] mk a).1 ((B.U.setTop g).pushFrame (.throwing q)))
section Payer
variable {l : Launch} {R : Room} {p : Program} {e : Env} {below : List Frame} {s : State} {sargs : Array Value} {y : MethodName} {len W9 : Nat}
theorem vx_back {ws : List Cond} {rm : Room} {Pc : Array Value → State → Prop} {Qc : Array Value → State → Outcome → State → Prop} {XC : String → State → State → Prop} {mc ms : Nat} {free : Addr → Prop} {bytes : ByteArray} {maxL : Nat} {ret : Option FieldType}
    (hM : vx_Met l y ws rm Pc Qc XC mc ms free) (hblind : FrameBlind Pc) (hrc : rm.cells = mc) (hrs : rm.slots = ms)
    (hframes : rm.frames + 1 ≤ R.frames) (hlocals : W9 + (maxL + 11) + rm.locals ≤ R.locals)
    (hws : ∀ w ∈ ws, ∀ a' U, s.WarmedH U.vm → w.before a' U = true) (hcode : Cond.code y bytes maxL ret ∈ ws) (hinit : ∀ a' U, s.WarmedH U.vm → (Cond.initialized y.cls).before a' U = true) :
    vx_Back l R p e below s sargs y len W9 (PreOf R mc ms Pc) (PostOf Qc mc ms free) (vx_Post XC mc ms free) := by
  intro m meth c A g ig mk a X hg hsize hdg hW hn hp
  have h1 : (headSpec ws rm).pre.before a A.U = true := atoms_intro fun w hw => hws w hw _ _ X.warmed
  have h2 : (Cond.code y bytes maxL ret).before a A.U = true := hws _ hcode _ _ X.warmed
  have h3 : (Cond.initialized y.cls).before a A.U = true := hinit _ _ X.warmed
  have h4 : A.cells + (headSpec ws rm).room.cells ≤ R.cells := by rw [show (headSpec ws rm).room.cells = mc from hrc]; exact hp.1
  have h5 : A.slots + (headSpec ws rm).room.slots ≤ R.slots := by rw [show (headSpec ws rm).room.slots = ms from hrs]; exact hp.2.1
  have hPc : Pc a (A.U.calling g mk a) := hblind _ _ _ _ hp.2.2
  obtain ⟨U, Ls, c0, s0⟩ := A
  dsimp only [Pt.U, Pt.locs, Pt.cells, Pt.slots] at h1 h2 h3 h4 h5 X hn hPc ⊢
  obtain ⟨methY, cY, hmY, hcY, -, hlY, -, -, -, -⟩ := Cond.code_spec hn h2
  obtain ⟨kY, hkY, -⟩ := className_of_methodNamed hn
  have hinitY : kY.init = .initialized := Cond.initialized_spec (findClass_of_methodNamed hn) hkY h3
  have h : At U g.method c below := by rw [hg]; exact X.here
  have hlocals9 : W9 + (maxL + 11) + (headSpec ws rm).room.locals ≤ R.locals := hlocals
  have happ : (headSpec ws rm).appliesLoose y e.platform (U.calling g mk a) = true :=
    Spec.appliesLoose_calling (g := g) h hdg hn hkY hinitY
      (X.room_calling (g := g) (R' := (headSpec ws rm).room) hsize hmY hcY hframes (by rw [hlY]; omega) h4 h5) h1
  obtain ⟨mid, hmid⟩ := h.above
  have hfr : (U.setTop g).frames = (.java g :: mid) ++ below := by rw [State.frames_setTop' g h.top, hmid]; rfl
  obtain ⟨o, s₂, hsteps, -, hend, hq⟩ := Steps.callFree hM p X.admits X.cas X.clock (acts := []) hfr happ hPc trivial
  have hq' : vx_Q Qc XC mc ms free a (U.calling g mk a) o s₂ := hq
  rw [State.frames_setTop' g h.top] at hend
  obtain ⟨g₀, hg0⟩ := Option.isSome_iff_exists.mp h.top
  obtain ⟨r, hr⟩ := State.topJava?_eq_some.mp hg0
  have hr' : (({ U with heap := s₂.heap, slotsUsed := s₂.slotsUsed } : State).setVm s₂.vm).frames = .java g₀ :: r := hr
  rcases hq' with ⟨hqc, L, hfe, hL⟩ | ⟨q, rfl, E, ce, L, hx, hce, hcv, hcl, hW₂, hsm, hL⟩
  · obtain ⟨⟨v, rfl⟩, hW₂, e2, q2, q3, q4, q5, q6⟩ := id hfe
    have e3 : s₂ = ({ (U.calling g mk a).setFrames s₂.frames with heap := s₂.heap, slotsUsed := s₂.slotsUsed } : State).setVm s₂.vm := by
      have : s₂ = ({ s₂ with vm := (U.calling g mk a).vm } : State).setVm s₂.vm := rfl
      rw [e2] at this
      exact this
    obtain ⟨c₂, i₂, len₂, hc₂, hd₂, hf₂⟩ := hend
    have hW' : U.WarmedH s₂.vm := hW₂
    have hcc : c₂ = c := by
      have h1 : s₂.code? g.method = U.code? g.method := by
        rw [State.code?_eq, State.code?_eq, hW'.alike.method?]
      exact Option.some.inj (hc₂.symm.trans (h1.trans h.code))
    subst hcc
    have hlen : len₂ = len := by rw [hdg] at hd₂; cases hd₂; rfl
    subst hlen
    have hs₂ : s₂ = (({ U with heap := s₂.heap, slotsUsed := s₂.slotsUsed } : State).setVm s₂.vm).setTop { g with pc := g.pc + len₂, stack := v.toList ++ g.stack } := by
      refine e3.trans ?_
      rw [hf₂, State.calling_eq h.top, State.setFrames_setFrames, State.setTop_of_frames _ hr', hr]
      rfl
    have hsame : U.sameButNew ({ U with heap := s₂.heap, slotsUsed := s₂.slotsUsed } : State) L mc ms := by
      refine ⟨?_, q2, q3, q4, q5, q6⟩
      obtain ⟨t, ht, -⟩ := State.frames_cons hr
      show ({ U with heap := s₂.heap, slotsUsed := s₂.slotsUsed } : State) = { U.setFrames U.frames with heap := s₂.heap, slotsUsed := s₂.slotsUsed }
      rw [State.setFrames_self ht]
    subst hg
    refine Or.inl ⟨v, ⟨(({ U with heap := s₂.heap, slotsUsed := s₂.slotsUsed } : State).setVm s₂.vm), Ls ++ L, c0 + mc, s0 + ms⟩,
      ⟨X.admits, X.cas, X.clock, X.frames, X.room, X.hears, X.method, X.code, (X.here.setHeapUsed s₂.heap s₂.slotsUsed).setVm hW'.alike, X.tail, State.WarmedH.trans X.warmed hW', X.limits, X.bytes, X.same.trans (hsame.setVm s.vm)⟩,
      ⟨g, mk, s₂, L, rfl, rfl, hqc, rfl, hL, rfl, rfl⟩, ?_⟩
    show Steps p.tables e below _ ((({ U with heap := s₂.heap, slotsUsed := s₂.slotsUsed } : State).setVm s₂.vm).setTop { g with pc := g.pc + len₂, stack := v.toList ++ g.stack })
    rw [← hs₂]
    exact hsteps
  · obtain ⟨e2, q2, q3, q4, q5, q6⟩ := id hsm
    have e3 : s₂ = ({ (U.calling g mk a).setFrames s₂.frames with heap := s₂.heap, slotsUsed := s₂.slotsUsed } : State).setVm s₂.vm := by
      have : s₂ = ({ s₂ with vm := (U.calling g mk a).vm } : State).setVm s₂.vm := rfl
      rw [e2] at this
      exact this
    have hf₂ : s₂.frames = .throwing q :: .java g :: U.frames.tail := hend
    have hW' : U.WarmedH s₂.vm := hW₂
    have hs₂ : s₂ = ((({ U with heap := s₂.heap, slotsUsed := s₂.slotsUsed } : State).setVm s₂.vm).setTop g).pushFrame (.throwing q) := by
      refine e3.trans ?_
      rw [hf₂, State.calling_eq h.top, State.setFrames_setFrames, State.pushFrame, State.frames_setTop _ hr', State.setTop_of_frames _ hr', State.setFrames_setFrames, hr]
      rfl
    have hsame : U.sameButNew ({ U with heap := s₂.heap, slotsUsed := s₂.slotsUsed } : State) L mc ms := by
      refine ⟨?_, q2, q3, q4, q5, q6⟩
      obtain ⟨t, ht, -⟩ := State.frames_cons hr
      show ({ U with heap := s₂.heap, slotsUsed := s₂.slotsUsed } : State) = { U.setFrames U.frames with heap := s₂.heap, slotsUsed := s₂.slotsUsed }
      rw [State.setFrames_self ht]
    subst hg
    refine Or.inr ⟨q, ⟨(({ U with heap := s₂.heap, slotsUsed := s₂.slotsUsed } : State).setVm s₂.vm), Ls ++ L, c0 + mc, s0 + ms⟩,
      ⟨X.admits, X.cas, X.clock, X.frames, X.room, X.hears, X.method, X.code, (X.here.setHeapUsed s₂.heap s₂.slotsUsed).setVm hW'.alike, X.tail, State.WarmedH.trans X.warmed hW', X.limits, X.bytes, X.same.trans (hsame.setVm s.vm)⟩,
      ⟨g, mk, s₂, L, E, ce, rfl, rfl, hx, hce, hcv, hcl, rfl, hL, rfl, rfl⟩, ?_⟩
    show Steps p.tables e below _ (((({ U with heap := s₂.heap, slotsUsed := s₂.slotsUsed } : State).setVm s₂.vm).setTop g).pushFrame (.throwing q))
    rw [← hs₂]
    exact hsteps
end Payer
section Calls
variable {p : Program} {l : Launch} {e : Env} {R : Room} {s : State} {m : MethodId} {args : Array Value} {below : List Frame} {meth : Method} {c : Code} {T : State} {locs : List Loc} {cells slots : Nat}
theorem vx_callV (X : Stand p l e R s m args below meth c T locs cells slots) (hexec : p.tables.exec = Jvm.exec) {own C : String} {index : Nat} {y : MethodName} {bytes : ByteArray} {maxL : Nat} {ret : Option FieldType}
    (hown : s.vm.findClass own = some m.cls) (hlink : (Cond.methodLink own index y).before args s = true) (hinst : (Cond.instanceMethod y).before args s = true) (hsel : (Cond.selects C y y).before args s = true)
    (hcode : (Cond.code y bytes maxL ret).before args s = true) (hy : y.cls ≠ "java/lang/invoke/MethodHandle" ∧ y.cls ≠ "java/lang/invoke/VarHandle")
    {W9 : Nat} {Pre : Pt → Array Value → Prop} {Post : Pt → Array Value → Option Value → Pt → Prop} {PostX : Pt → Array Value → Addr → Pt → Prop} (hK : vx_Back l R p e below s args y 3 W9 Pre Post PostX)
    {b : Addr} {cellB : Cell} (hcell : T.heap[b]? = some cellB) (hobj : cellB.vm.isStatics = false) (hcls : s.vm.findClass C = some cellB.cls)
    {g : JFrame} (hg : g.method = m) (hsize : g.locals.size = c.maxLocals) {argsL rest : List Value} (hlen : ∀ sig, parseMethodDescriptor y.desc = some sig → argsL.length = sig.parameters.length)
    (hstack : g.stack = argsL.reverse ++ .ref b :: rest) (hW : 2 * g.monitorRoom + (rest.map fun v => v.category).sum ≤ W9) (hdg : decode c.code g.pc = .ok (.invokevirtual index, 3))
    (hpre : ∀ vm₁, s.WarmedH vm₁ → Pre ⟨T.setVm vm₁, locs, cells, slots⟩ (Value.ref b :: argsL).toArray) :
    (∃ (v : Option Value) (vm₁ : Vm) (B : Pt), s.WarmedH vm₁ ∧ Stand p l e R s m args below meth c B.U B.locs B.cells B.slots ∧ Post ⟨T.setVm vm₁, locs, cells, slots⟩ (Value.ref b :: argsL).toArray v B ∧
      ∀ target, Steps p.tables e below (B.U.setTop { g with pc := g.pc + 3, stack := v.toList ++ rest }) target → Steps p.tables e below (T.setTop g) target) ∨
    (∃ (q : Addr) (vm₁ : Vm) (B : Pt), s.WarmedH vm₁ ∧ Stand p l e R s m args below meth c B.U B.locs B.cells B.slots ∧ PostX ⟨T.setVm vm₁, locs, cells, slots⟩ (Value.ref b :: argsL).toArray q B ∧
      Steps p.tables e below (T.setTop g) ((B.U.setTop { g with stack := rest }).pushFrame (.throwing q))) := by
  obtain ⟨mk, methM, hnamed, hmethM, hstM, habM⟩ := Cond.instanceMethod_spec hinst
  obtain ⟨methM', cM, hmethM', -, -, -, -, -, -, hsigM⟩ := Cond.code_spec hnamed hcode
  cases hmethM.symm.trans hmethM'
  obtain ⟨c2, r2, m2, q1, q2, q3, q4, kP, hkP, hkPi⟩ := Cond.selects_spec hsel
  cases hcls.symm.trans q1
  cases (State.methodFound?_of_named hnamed hy).symm.trans q2
  cases hnamed.symm.trans q3
  have hselP : selectMethod e.platform s.vm cellB.cls mk = .method mk := by rw [Launch.admits_selectMethod X.admits]; exact q4
  obtain ⟨vm₁, X₁, hstep₁⟩ := X.invokevirtual hexec hown hlink hnamed hmethM hstM hkP hkPi hy (a := b) (cell := cellB) hcell
    (fun z h => by rw [h] at hobj; cases hobj) hselP hmethM habM hkP hkPi (g := g) hg (argsL := argsL) (rest := rest) (hlen _ hsigM) hstack hdg
  rcases hK m meth c ⟨T.setVm vm₁, locs, cells, slots⟩ { g with stack := rest } (.invokevirtual index) mk (Value.ref b :: argsL).toArray X₁ hg hsize hdg hW (X₁.named hnamed) (hpre vm₁ X₁.warmed) with ⟨v, B, X', hpost, hsteps⟩ | ⟨q, B, X', hpost, hsteps⟩
  · exact Or.inl ⟨v, vm₁, B, X₁.warmed, X', hpost, fun target h => hstep₁ _ fun acts => by rw [doInvoke_state]; exact hsteps.trans h⟩
  · exact Or.inr ⟨q, vm₁, B, X₁.warmed, X', hpost, hstep₁ _ fun acts => by rw [doInvoke_state]; exact hsteps⟩
theorem vx_callS (X : Stand p l e R s m args below meth c T locs cells slots) (hexec : p.tables.exec = Jvm.exec) {own : String} {index : Nat} {y : MethodName} {bytes : ByteArray} {maxL : Nat} {ret : Option FieldType}
    (hown : s.vm.findClass own = some m.cls) (hlink : (Cond.methodLink own index y).before args s = true) (hstat : (Cond.static y).before args s = true) (hinit : (Cond.initialized y.cls).before args s = true)
    (hcode : (Cond.code y bytes maxL ret).before args s = true) (hy : y.cls ≠ "java/lang/invoke/MethodHandle" ∧ y.cls ≠ "java/lang/invoke/VarHandle")
    {W9 : Nat} {Pre : Pt → Array Value → Prop} {Post : Pt → Array Value → Option Value → Pt → Prop} {PostX : Pt → Array Value → Addr → Pt → Prop} (hK : vx_Back l R p e below s args y 3 W9 Pre Post PostX)
    {g : JFrame} (hg : g.method = m) (hsize : g.locals.size = c.maxLocals) {argsL rest : List Value} (hlen : ∀ sig, parseMethodDescriptor y.desc = some sig → argsL.length = sig.parameters.length)
    (hstack : g.stack = argsL.reverse ++ rest) (hW : 2 * g.monitorRoom + (rest.map fun v => v.category).sum ≤ W9) (hdg : decode c.code g.pc = .ok (.invokestatic index, 3))
    (hpre : ∀ vm₁, s.WarmedH vm₁ → Pre ⟨T.setVm vm₁, locs, cells, slots⟩ argsL.toArray) :
    (∃ (v : Option Value) (vm₁ : Vm) (B : Pt), s.WarmedH vm₁ ∧ Stand p l e R s m args below meth c B.U B.locs B.cells B.slots ∧ Post ⟨T.setVm vm₁, locs, cells, slots⟩ argsL.toArray v B ∧
      ∀ target, Steps p.tables e below (B.U.setTop { g with pc := g.pc + 3, stack := v.toList ++ rest }) target → Steps p.tables e below (T.setTop g) target) ∨
    (∃ (q : Addr) (vm₁ : Vm) (B : Pt), s.WarmedH vm₁ ∧ Stand p l e R s m args below meth c B.U B.locs B.cells B.slots ∧ PostX ⟨T.setVm vm₁, locs, cells, slots⟩ argsL.toArray q B ∧
      Steps p.tables e below (T.setTop g) ((B.U.setTop { g with stack := rest }).pushFrame (.throwing q))) := by
  obtain ⟨mk, hnamed⟩ := Cond.code_named hcode
  obtain ⟨methM, cM, hmethM, -, -, -, -, -, -, hsigM⟩ := Cond.code_spec hnamed hcode
  have hstatic : methM.isStatic = true := Cond.static_spec hnamed hmethM hstat
  obtain ⟨kP, hkP, -⟩ := className_of_methodNamed hnamed
  have hinitP : kP.init = .initialized := Cond.initialized_spec (findClass_of_methodNamed hnamed) hkP hinit
  obtain ⟨vm₁, X₁, hstep₁⟩ := X.invokestatic hexec hown hlink hnamed hmethM hstatic hkP hinitP hy (g := g) hg (argsL := argsL) (rest := rest) (hlen _ hsigM) hstack hdg
  rcases hK m meth c ⟨T.setVm vm₁, locs, cells, slots⟩ { g with stack := rest } (.invokestatic index) mk argsL.toArray X₁ hg hsize hdg hW (X₁.named hnamed) (hpre vm₁ X₁.warmed) with ⟨v, B, X', hpost, hsteps⟩ | ⟨q, B, X', hpost, hsteps⟩
  · exact Or.inl ⟨v, vm₁, B, X₁.warmed, X', hpost, fun target h => hstep₁ _ fun acts => by rw [doInvoke_state]; exact hsteps.trans h⟩
  · exact Or.inr ⟨q, vm₁, B, X₁.warmed, X', hpost, hstep₁ _ fun acts => by rw [doInvoke_state]; exact hsteps⟩
end Calls
theorem vx_cls {s : State} {T : State} {vm₁ : Vm} {E : String} {k : ClassId} (hW : s.WarmedH vm₁) (h : (T.setVm vm₁).vm.findClass E = some k) : s.vm.findClass E = some k := by
  have h1 : vm₁.findClass E = some k := h
  rw [hW.alike.findClass] at h1
  exact h1
/-- the method's frame g, with q thrown over it -/
def vx_W (p : Program) (l : Launch) (e : Env) (R : Room) (s : State) (m : MethodId) (args : Array Value) (below : List Frame) (meth : Method) (c : Code) (H : Heap) (locs : List Loc) (cells slots : Nat) (Q : State → Prop) (g : JFrame) (q : Addr) : Prop :=
  ∀ T : State, T.heap = H → Stand p l e R s m args below meth c T locs cells slots → ∃ t, Steps p.tables e below ((T.setTop g).pushFrame (.throwing q)) t ∧ Q t
def vx_Run (p : Program) (l : Launch) (e : Env) (R : Room) (s : State) (m : MethodId) (args : Array Value) (below : List Frame) (meth : Method) (c : Code) (H : Heap) (locs : List Loc) (cells slots mc ms : Nat) (g : JFrame) (rest : List Value) (Qa : State → Outcome → State → Prop) (XC : String → State → State → Prop) (free : Addr → Prop) : Prop :=
  ∀ T : State, T.heap = H → Stand p l e R s m args below meth c T locs cells slots →
    (∃ (v : Option Value) (st₀ t T' : State) (L : List Loc), st₀.heap = H ∧ Stand p l e R s m args below meth c T' (locs ++ L) (cells + mc) (slots + ms) ∧ (∀ q ∈ L, free q.base) ∧ T'.heap = t.heap ∧ T'.vm = t.vm ∧ Qa st₀ (.returned v) t ∧
      Goes p e below T g T' { g with pc := g.pc + 3, stack := v.toList ++ rest }) ∨
    (∃ (q : Addr) (st₀ t T' : State) (L : List Loc) (E : String) (ce : Cell), st₀.heap = H ∧ Stand p l e R s m args below meth c T' (locs ++ L) (cells + mc) (slots + ms) ∧ (∀ z ∈ L, free z.base) ∧ T'.heap = t.heap ∧ T'.vm = t.vm ∧ XC E st₀ t ∧ t.heap[q]? = some ce ∧ ce.vm = .none ∧ s.vm.findClass E = some ce.cls ∧
      Steps p.tables e below (T.setTop g) ((T'.setTop { g with stack := rest }).pushFrame (.throwing q)))
def vx_X {S : Type} (px : S → Prop) (B : String → S → State → Prop) (A : Nat → Prop) : String → State → State → Prop := fun E st t => ∃ u : S, px u ∧ B E u t ∧ va_F A st t
section Runs
variable {p : Program} {l : Launch} {e : Env} {R : Room} {s : State} {m : MethodId} {args : Array Value} {below : List Frame} {meth : Method} {c : Code} {H : Heap} {locs : List Loc} {cells slots : Nat}
variable {y : MethodName} {bytes cc : ByteArray} {maxL nL mc ms n index : Nat} {ret : Option FieldType} {ws : List Cond} {rm : Room} {Pc : Array Value → State → Prop} {Qc : Array Value → State → Outcome → State → Prop} {XC : String → State → State → Prop} {free : Addr → Prop} {Ts : List Cond} {own C : String} {b : Addr} {As rest : List Value} {g : JFrame}
theorem vx_callBack (cb : CallB R s args own index y bytes maxL ret ws rm mc ms n) (hM : vx_Met l y ws rm Pc Qc XC mc ms free) (hbl : FrameBlind Pc) : vx_Back l R p e below s args y 3 8 (PreOf R mc ms Pc) (PostOf Qc mc ms free) (vx_Post XC mc ms free) := by
  obtain ⟨hrc, hrs, hfr, hlo, hws, hcw, -, hini, -⟩ := cb
  exact vx_back (bytes := bytes) (maxL := maxL) (ret := ret) hM hbl hrc hrs hfr hlo hws hcw (fun a' U hW => word_at hW (Or.inl (by first | rfl | simp [Cond.onTables, Cond.keeps, Cond.steady])) hini)
theorem vx_runV (S : CallFix p m c cc nL s args Ts own) (hM : vx_Met l y ws rm Pc Qc XC mc ms free) (cw : CallW R s args own C index y bytes maxL ret ws rm mc ms n) (hp : PreV s H C b Pc As)
    (hg : g.method = m) (hn : As.length = n) (hsize : g.locals.size = nL) (hstack : g.stack = As.reverse ++ .ref b :: rest) (hW : 2 * g.monitorRoom + (rest.map fun v => v.category).sum ≤ 8) (hdg : decode cc g.pc = .ok (.invokevirtual index, 3)) (hf : cells + mc ≤ R.cells ∧ slots + ms ≤ R.slots) :
    vx_Run p l e R s m args below meth c H locs cells slots mc ms g rest (Qc (Value.ref b :: As).toArray) XC free := by
  have hK : vx_Back l R p e below s args y 3 8 (PreOf R mc ms Pc) (PostOf Qc mc ms free) (vx_Post XC mc ms free) := vx_callBack cw.1 hM hp.1
  obtain ⟨⟨-, -, -, -, -, -, hcode, -, hy, hlen, hl⟩, hin, hse⟩ := cw
  obtain ⟨hx, hb, hml, ho, -⟩ := S
  obtain ⟨-, ⟨cellB, hcB, hoB, hclB⟩, hPc⟩ := hp
  intro T hT X
  rcases vx_callV X hx (C := C) (bytes := bytes) (maxL := maxL) (ret := ret) ho hl hin hse hcode hy hK (by rw [hT]; exact hcB) hoB hclB hg (hsize.trans hml.symm) (argsL := As) (rest := rest) (fun sig h => hn.trans (hlen sig h)) hstack hW (by rw [hb]; exact hdg)
    (fun vm₁ hW₁ => ⟨hf.1, hf.2, hPc (T.setVm vm₁) hT hW₁⟩) with ⟨v, vm₁, ⟨U', l2, c2, s2⟩, hW₁, X', ⟨g', mk, t, L, e1, e2, hq, h1, hL, h2, h3⟩, st⟩ | ⟨q, vm₁, ⟨U', l2, c2, s2⟩, hW₁, X', ⟨g', mk, t, L, E, ce, e1, e2, hq, hce, hcv, hcl, h1, hL, h2, h3⟩, st⟩
  · dsimp only [Pt.U, Pt.locs, Pt.cells, Pt.slots] at X' e1 e2 h1 h2 h3 st
    subst h1; subst h2; subst h3
    exact Or.inl ⟨v, (T.setVm vm₁).calling g' mk (Value.ref b :: As).toArray, t, U', L, hT, X', hL, e1, e2, hq, st⟩
  · dsimp only [Pt.U, Pt.locs, Pt.cells, Pt.slots] at X' e1 e2 h1 h2 h3 st hcl
    subst h1; subst h2; subst h3
    exact Or.inr ⟨q, (T.setVm vm₁).calling g' mk (Value.ref b :: As).toArray, t, U', L, E, ce, hT, X', hL, e1, e2, hq, hce, hcv, vx_cls hW₁ hcl, st⟩
theorem vx_runS (S : CallFix p m c cc nL s args Ts own) (hM : vx_Met l y ws rm Pc Qc XC mc ms free) (cw : CallB R s args own index y bytes maxL ret ws rm mc ms n ∧ (Cond.static y).before args s = true) (hp : PreS s H Pc As)
    (hg : g.method = m) (hn : As.length = n) (hsize : g.locals.size = nL) (hstack : g.stack = As.reverse ++ rest) (hW : 2 * g.monitorRoom + (rest.map fun v => v.category).sum ≤ 8) (hdg : decode cc g.pc = .ok (.invokestatic index, 3)) (hf : cells + mc ≤ R.cells ∧ slots + ms ≤ R.slots) :
    vx_Run p l e R s m args below meth c H locs cells slots mc ms g rest (Qc As.toArray) XC free := by
  have hK : vx_Back l R p e below s args y 3 8 (PreOf R mc ms Pc) (PostOf Qc mc ms free) (vx_Post XC mc ms free) := vx_callBack cw.1 hM hp.1
  obtain ⟨⟨-, -, -, -, -, -, hcode, hini, hy, hlen, hl⟩, hstt⟩ := cw
  obtain ⟨hx, hb, hml, ho, -⟩ := S
  intro T hT X
  rcases vx_callS X hx (bytes := bytes) (maxL := maxL) (ret := ret) ho hl hstt hini hcode hy hK hg (hsize.trans hml.symm) (argsL := As) (rest := rest) (fun sig h => hn.trans (hlen sig h)) hstack hW (by rw [hb]; exact hdg)
    (fun vm₁ hW₁ => ⟨hf.1, hf.2, hp.2 (T.setVm vm₁) hT hW₁⟩) with ⟨v, vm₁, ⟨U', l2, c2, s2⟩, hW₁, X', ⟨g', mk, t, L, e1, e2, hq, h1, hL, h2, h3⟩, st⟩ | ⟨q, vm₁, ⟨U', l2, c2, s2⟩, hW₁, X', ⟨g', mk, t, L, E, ce, e1, e2, hq, hce, hcv, hcl, h1, hL, h2, h3⟩, st⟩
  · dsimp only [Pt.U, Pt.locs, Pt.cells, Pt.slots] at X' e1 e2 h1 h2 h3 st
    subst h1; subst h2; subst h3
    exact Or.inl ⟨v, (T.setVm vm₁).calling g' mk As.toArray, t, U', L, hT, X', hL, e1, e2, hq, st⟩
  · dsimp only [Pt.U, Pt.locs, Pt.cells, Pt.slots] at X' e1 e2 h1 h2 h3 st hcl
    subst h1; subst h2; subst h3
    exact Or.inr ⟨q, (T.setVm vm₁).calling g' mk As.toArray, t, U', L, E, ce, hT, X', hL, e1, e2, hq, hce, hcv, vx_cls hW₁ hcl, st⟩
end Runs
section Rows
variable {p : Program} {l : Launch} {e : Env} {R : Room} {s : State} {m : MethodId} {args : Array Value} {below : List Frame} {meth : Method} {c : Code} {H : Heap} {locs : List Loc} {cells slots : Nat} {Q : State → Prop}
variable {mc ms : Nat} {free : Addr → Prop} {A0 A1 : Nat → Prop} {H0 : Heap} {a : Array Value} {pc : Nat} {ls : Array Slot} {st0 rest : List Value}
theorem vx_keep {st₀ t T' : State} {L : List Loc} (h0 : st₀.heap = H) (e1 : T'.heap = t.heap) (hS : va_S A0 H0 H locs) (hA : ∀ q, q < H.size → A1 q → A0 q) (hf : ∀ q, free q → A0 q) (hL : ∀ q ∈ L, free q.base) (hF : va_F A1 st₀ t) :
    H.size ≤ T'.heap.size ∧ (∀ q : Nat, q < H.size → ¬ A1 q → T'.heap[q]? = H[q]?) ∧ va_S A0 H0 T'.heap (locs ++ L) := by
  obtain ⟨hz, hk⟩ := hF
  rw [h0] at hz hk
  exact ⟨by rw [e1]; exact hz, fun q h1 h2 => by rw [e1]; exact hk q h1 h2,
    ⟨Nat.le_trans hS.1 (by rw [e1]; exact hz), fun q h1 h2 => by rw [e1, hk q (Nat.lt_of_lt_of_le h1 hS.1) (fun z => h2 (hA q (Nat.lt_of_lt_of_le h1 hS.1) z))]; exact hS.2.1 q h1 h2, fun q hq => by
      rcases List.mem_append.mp hq with h | h
      · exact hS.2.2 q h
      · exact hf _ (hL q h)⟩⟩
theorem vx_calli {S SX : Type} {post : Int32 → S → Prop} {px : SX → Prop} {B : S → State → Prop} {BX : String → SX → State → Prop} {AX : Nat → Prop} (hr : vx_Run p l e R s m args below meth c H locs cells slots mc ms (F0 m pc ls st0) rest (va_Qi post B A1 a) (vx_X px BX AX) free) (hS : va_S A0 H0 H locs) (hA : ∀ q, q < H.size → A1 q → A0 q) (hf : ∀ q, free q → A0 q) (hAX : ∀ q, q < H.size → AX q → A0 q)
    (kx : ∀ (E : String) (ce : Cell) (q9 : Addr) (u : SX) (t : State) (H1 : Heap) (locs1 : List Loc), t.heap = H1 → s.vm.Alike t.vm → px u → BX E u t → H.size ≤ H1.size → (∀ q : Nat, q < H.size → ¬ AX q → H1[q]? = H[q]?) → va_S A0 H0 H1 locs1 → H1[q9]? = some ce → ce.vm = .none → s.vm.findClass E = some ce.cls → vx_W p l e R s m args below meth c H1 locs1 (cells + mc) (slots + ms) Q (F0 m pc ls rest) q9)
    (kk : ∀ (r : Int32) (u : S) (t : State) (H1 : Heap) (locs1 : List Loc), t.heap = H1 → s.vm.Alike t.vm → post r u → B u t → H.size ≤ H1.size → (∀ q : Nat, q < H.size → ¬ A1 q → H1[q]? = H[q]?) → va_S A0 H0 H1 locs1 → W p l e R s m args below meth c H1 locs1 (cells + mc) (slots + ms) Q (F0 m (pc + 3) ls (.int r :: rest))) : W p l e R s m args below meth c H locs cells slots Q (F0 m pc ls st0) := by
  intro T hT X
  rcases hr T hT X with ⟨v, st₀, t, T', L, h0, X', hL, e1, e2, ⟨⟨r, u, hv, hp, hb⟩, hF⟩, st⟩ | ⟨q, st₀, t, T', L, E, ce, h0, X', hL, e1, e2, ⟨u, hp, hb, hF⟩, hce, hcv, hcl, st⟩
  · cases hv
    obtain ⟨k1, k2, k3⟩ := vx_keep h0 e1 hS hA hf hL hF
    obtain ⟨t2, a1, b1⟩ := kk r u t T'.heap (locs ++ L) e1.symm (by rw [← e2]; exact X'.warmed.alike) hp hb k1 k2 k3 T' rfl X'
    exact ⟨t2, st t2 a1, b1⟩
  · obtain ⟨k1, k2, k3⟩ := vx_keep h0 e1 hS hAX hf hL hF
    obtain ⟨t2, a1, b1⟩ := kx E ce q u t T'.heap (locs ++ L) e1.symm (by rw [← e2]; exact X'.warmed.alike) hp hb k1 k2 k3 (by rw [e1]; exact hce) hcv hcl T' rfl X'
    exact ⟨t2, st.trans a1, b1⟩
theorem vx_calll {S SX : Type} {post : Int64 → S → Prop} {px : SX → Prop} {B : S → State → Prop} {BX : String → SX → State → Prop} {AX : Nat → Prop} (hr : vx_Run p l e R s m args below meth c H locs cells slots mc ms (F0 m pc ls st0) rest (va_Ql post B A1 a) (vx_X px BX AX) free) (hS : va_S A0 H0 H locs) (hA : ∀ q, q < H.size → A1 q → A0 q) (hf : ∀ q, free q → A0 q) (hAX : ∀ q, q < H.size → AX q → A0 q)
    (kx : ∀ (E : String) (ce : Cell) (q9 : Addr) (u : SX) (t : State) (H1 : Heap) (locs1 : List Loc), t.heap = H1 → s.vm.Alike t.vm → px u → BX E u t → H.size ≤ H1.size → (∀ q : Nat, q < H.size → ¬ AX q → H1[q]? = H[q]?) → va_S A0 H0 H1 locs1 → H1[q9]? = some ce → ce.vm = .none → s.vm.findClass E = some ce.cls → vx_W p l e R s m args below meth c H1 locs1 (cells + mc) (slots + ms) Q (F0 m pc ls rest) q9)
    (kk : ∀ (r : Int64) (u : S) (t : State) (H1 : Heap) (locs1 : List Loc), t.heap = H1 → s.vm.Alike t.vm → post r u → B u t → H.size ≤ H1.size → (∀ q : Nat, q < H.size → ¬ A1 q → H1[q]? = H[q]?) → va_S A0 H0 H1 locs1 → W p l e R s m args below meth c H1 locs1 (cells + mc) (slots + ms) Q (F0 m (pc + 3) ls (.long r :: rest))) : W p l e R s m args below meth c H locs cells slots Q (F0 m pc ls st0) := by
  intro T hT X
  rcases hr T hT X with ⟨v, st₀, t, T', L, h0, X', hL, e1, e2, ⟨⟨r, u, hv, hp, hb⟩, hF⟩, st⟩ | ⟨q, st₀, t, T', L, E, ce, h0, X', hL, e1, e2, ⟨u, hp, hb, hF⟩, hce, hcv, hcl, st⟩
  · cases hv
    obtain ⟨k1, k2, k3⟩ := vx_keep h0 e1 hS hA hf hL hF
    obtain ⟨t2, a1, b1⟩ := kk r u t T'.heap (locs ++ L) e1.symm (by rw [← e2]; exact X'.warmed.alike) hp hb k1 k2 k3 T' rfl X'
    exact ⟨t2, st t2 a1, b1⟩
  · obtain ⟨k1, k2, k3⟩ := vx_keep h0 e1 hS hAX hf hL hF
    obtain ⟨t2, a1, b1⟩ := kx E ce q u t T'.heap (locs ++ L) e1.symm (by rw [← e2]; exact X'.warmed.alike) hp hb k1 k2 k3 (by rw [e1]; exact hce) hcv hcl T' rfl X'
    exact ⟨t2, st.trans a1, b1⟩
theorem vx_callf {S SX : Type} {post : UInt32 → S → Prop} {px : SX → Prop} {B : S → State → Prop} {BX : String → SX → State → Prop} {AX : Nat → Prop} (hr : vx_Run p l e R s m args below meth c H locs cells slots mc ms (F0 m pc ls st0) rest (va_Qf post B A1 a) (vx_X px BX AX) free) (hS : va_S A0 H0 H locs) (hA : ∀ q, q < H.size → A1 q → A0 q) (hf : ∀ q, free q → A0 q) (hAX : ∀ q, q < H.size → AX q → A0 q)
    (kx : ∀ (E : String) (ce : Cell) (q9 : Addr) (u : SX) (t : State) (H1 : Heap) (locs1 : List Loc), t.heap = H1 → s.vm.Alike t.vm → px u → BX E u t → H.size ≤ H1.size → (∀ q : Nat, q < H.size → ¬ AX q → H1[q]? = H[q]?) → va_S A0 H0 H1 locs1 → H1[q9]? = some ce → ce.vm = .none → s.vm.findClass E = some ce.cls → vx_W p l e R s m args below meth c H1 locs1 (cells + mc) (slots + ms) Q (F0 m pc ls rest) q9)
    (kk : ∀ (r : UInt32) (u : S) (t : State) (H1 : Heap) (locs1 : List Loc), t.heap = H1 → s.vm.Alike t.vm → post r u → B u t → H.size ≤ H1.size → (∀ q : Nat, q < H.size → ¬ A1 q → H1[q]? = H[q]?) → va_S A0 H0 H1 locs1 → W p l e R s m args below meth c H1 locs1 (cells + mc) (slots + ms) Q (F0 m (pc + 3) ls (.float r :: rest))) : W p l e R s m args below meth c H locs cells slots Q (F0 m pc ls st0) := by
  intro T hT X
  rcases hr T hT X with ⟨v, st₀, t, T', L, h0, X', hL, e1, e2, ⟨⟨r, u, hv, hp, hb⟩, hF⟩, st⟩ | ⟨q, st₀, t, T', L, E, ce, h0, X', hL, e1, e2, ⟨u, hp, hb, hF⟩, hce, hcv, hcl, st⟩
  · cases hv
    obtain ⟨k1, k2, k3⟩ := vx_keep h0 e1 hS hA hf hL hF
    obtain ⟨t2, a1, b1⟩ := kk r u t T'.heap (locs ++ L) e1.symm (by rw [← e2]; exact X'.warmed.alike) hp hb k1 k2 k3 T' rfl X'
    exact ⟨t2, st t2 a1, b1⟩
  · obtain ⟨k1, k2, k3⟩ := vx_keep h0 e1 hS hAX hf hL hF
    obtain ⟨t2, a1, b1⟩ := kx E ce q u t T'.heap (locs ++ L) e1.symm (by rw [← e2]; exact X'.warmed.alike) hp hb k1 k2 k3 (by rw [e1]; exact hce) hcv hcl T' rfl X'
    exact ⟨t2, st.trans a1, b1⟩
theorem vx_calld {S SX : Type} {post : UInt64 → S → Prop} {px : SX → Prop} {B : S → State → Prop} {BX : String → SX → State → Prop} {AX : Nat → Prop} (hr : vx_Run p l e R s m args below meth c H locs cells slots mc ms (F0 m pc ls st0) rest (va_Qd post B A1 a) (vx_X px BX AX) free) (hS : va_S A0 H0 H locs) (hA : ∀ q, q < H.size → A1 q → A0 q) (hf : ∀ q, free q → A0 q) (hAX : ∀ q, q < H.size → AX q → A0 q)
    (kx : ∀ (E : String) (ce : Cell) (q9 : Addr) (u : SX) (t : State) (H1 : Heap) (locs1 : List Loc), t.heap = H1 → s.vm.Alike t.vm → px u → BX E u t → H.size ≤ H1.size → (∀ q : Nat, q < H.size → ¬ AX q → H1[q]? = H[q]?) → va_S A0 H0 H1 locs1 → H1[q9]? = some ce → ce.vm = .none → s.vm.findClass E = some ce.cls → vx_W p l e R s m args below meth c H1 locs1 (cells + mc) (slots + ms) Q (F0 m pc ls rest) q9)
    (kk : ∀ (r : UInt64) (u : S) (t : State) (H1 : Heap) (locs1 : List Loc), t.heap = H1 → s.vm.Alike t.vm → post r u → B u t → H.size ≤ H1.size → (∀ q : Nat, q < H.size → ¬ A1 q → H1[q]? = H[q]?) → va_S A0 H0 H1 locs1 → W p l e R s m args below meth c H1 locs1 (cells + mc) (slots + ms) Q (F0 m (pc + 3) ls (.double r :: rest))) : W p l e R s m args below meth c H locs cells slots Q (F0 m pc ls st0) := by
  intro T hT X
  rcases hr T hT X with ⟨v, st₀, t, T', L, h0, X', hL, e1, e2, ⟨⟨r, u, hv, hp, hb⟩, hF⟩, st⟩ | ⟨q, st₀, t, T', L, E, ce, h0, X', hL, e1, e2, ⟨u, hp, hb, hF⟩, hce, hcv, hcl, st⟩
  · cases hv
    obtain ⟨k1, k2, k3⟩ := vx_keep h0 e1 hS hA hf hL hF
    obtain ⟨t2, a1, b1⟩ := kk r u t T'.heap (locs ++ L) e1.symm (by rw [← e2]; exact X'.warmed.alike) hp hb k1 k2 k3 T' rfl X'
    exact ⟨t2, st t2 a1, b1⟩
  · obtain ⟨k1, k2, k3⟩ := vx_keep h0 e1 hS hAX hf hL hF
    obtain ⟨t2, a1, b1⟩ := kx E ce q u t T'.heap (locs ++ L) e1.symm (by rw [← e2]; exact X'.warmed.alike) hp hb k1 k2 k3 (by rw [e1]; exact hce) hcv hcl T' rfl X'
    exact ⟨t2, st.trans a1, b1⟩
theorem vx_callv {S SX : Type} {post : S → Prop} {px : SX → Prop} {B : S → State → Prop} {BX : String → SX → State → Prop} {AX : Nat → Prop} (hr : vx_Run p l e R s m args below meth c H locs cells slots mc ms (F0 m pc ls st0) rest (va_Qv post B A1 a) (vx_X px BX AX) free) (hS : va_S A0 H0 H locs) (hA : ∀ q, q < H.size → A1 q → A0 q) (hf : ∀ q, free q → A0 q) (hAX : ∀ q, q < H.size → AX q → A0 q)
    (kx : ∀ (E : String) (ce : Cell) (q9 : Addr) (u : SX) (t : State) (H1 : Heap) (locs1 : List Loc), t.heap = H1 → s.vm.Alike t.vm → px u → BX E u t → H.size ≤ H1.size → (∀ q : Nat, q < H.size → ¬ AX q → H1[q]? = H[q]?) → va_S A0 H0 H1 locs1 → H1[q9]? = some ce → ce.vm = .none → s.vm.findClass E = some ce.cls → vx_W p l e R s m args below meth c H1 locs1 (cells + mc) (slots + ms) Q (F0 m pc ls rest) q9)
    (kk : ∀ (u : S) (t : State) (H1 : Heap) (locs1 : List Loc), t.heap = H1 → s.vm.Alike t.vm → post u → B u t → H.size ≤ H1.size → (∀ q : Nat, q < H.size → ¬ A1 q → H1[q]? = H[q]?) → va_S A0 H0 H1 locs1 → W p l e R s m args below meth c H1 locs1 (cells + mc) (slots + ms) Q (F0 m (pc + 3) ls (rest))) : W p l e R s m args below meth c H locs cells slots Q (F0 m pc ls st0) := by
  intro T hT X
  rcases hr T hT X with ⟨v, st₀, t, T', L, h0, X', hL, e1, e2, ⟨⟨u, hv, hp, hb⟩, hF⟩, st⟩ | ⟨q, st₀, t, T', L, E, ce, h0, X', hL, e1, e2, ⟨u, hp, hb, hF⟩, hce, hcv, hcl, st⟩
  · cases hv
    obtain ⟨k1, k2, k3⟩ := vx_keep h0 e1 hS hA hf hL hF
    obtain ⟨t2, a1, b1⟩ := kk u t T'.heap (locs ++ L) e1.symm (by rw [← e2]; exact X'.warmed.alike) hp hb k1 k2 k3 T' rfl X'
    exact ⟨t2, st t2 a1, b1⟩
  · obtain ⟨k1, k2, k3⟩ := vx_keep h0 e1 hS hAX hf hL hF
    obtain ⟨t2, a1, b1⟩ := kx E ce q u t T'.heap (locs ++ L) e1.symm (by rw [← e2]; exact X'.warmed.alike) hp hb k1 k2 k3 (by rw [e1]; exact hce) hcv hcl T' rfl X'
    exact ⟨t2, st.trans a1, b1⟩
/-- caught by the row x of this method's table; the rows ahead don't take it -/
theorem vx_catch {own name : String} {E : String} {ce : Cell} {q : Addr} (hown : s.vm.findClass own = some m.cls) (pre : List ExceptionTableEntry) (x : ExceptionTableEntry) (suf : List ExceptionTableEntry) (hsplit : c.exceptionTable.toList = pre ++ x :: suf)
    (hpass : ∀ z ∈ pre, covers z pc = false ∨ (z.catchType ≠ 0 ∧ ∃ nm : String, (Cond.classLink own z.catchType nm).before args s = true ∧ va_Nc E nm s)) (hx : covers x pc = true) (h0 : x.catchType ≠ 0)
    (hlink : (Cond.classLink own x.catchType name).before args s = true) (hcast : (Cond.castable E name).before args s = true) (hcell : H[q]? = some ce) (hv : ce.vm = .none) (hcl : s.vm.findClass E = some ce.cls)
    (kk : W p l e R s m args below meth c H locs cells slots Q (F0 m x.handlerPc ls [.ref q])) : vx_W p l e R s m args below meth c H locs cells slots Q (F0 m pc ls rest) q := by
  intro T hT X
  have hpl : e.platform.magicAccessors = ({} : Platform).magicAccessors := by rw [X.admits.platform]
  obtain ⟨c3, c4, hc3, hc4, hasg⟩ := Cond.castable_spec hcast
  cases Option.some.inj (hc3.symm.trans hcl)
  obtain ⟨c5, hc5, hcl5⟩ := Cond.classLink_spec hown hlink e.platform hpl
  cases Option.some.inj (hc4.symm.trans hc5)
  obtain ⟨vm', X', st⟩ := X.thenCaughtThrough q (g := F0 m pc ls rest) rfl (Steps.refl _) (by rw [hT]; exact hcell) (by rw [hv]; rfl) (by obtain ⟨k9, h9, -⟩ := Vm.findClass_spec hcl; exact ⟨k9, h9⟩) pre x suf hsplit
    (fun z hz => by
      rcases hpass z hz with h | ⟨hz0, nm, hl1, hn1⟩
      · exact Or.inl h
      · obtain ⟨c6, hc6, hcl6⟩ := Cond.classLink_spec hown hl1 e.platform hpl
        obtain ⟨a8, b8, h1, h2, h3⟩ := hn1
        cases Option.some.inj (h1.symm.trans hcl)
        cases Option.some.inj (h2.symm.trans hc6)
        exact Or.inr ⟨hz0, _, hcl6, h3⟩) hx (Or.inr ⟨h0, c4, hcl5, hasg⟩)
  obtain ⟨t, a1, b1⟩ := kk (T.setVm vm') hT X'
  exact ⟨t, st.trans a1, b1⟩
end Rows
section Ends
variable {p : Program} {l : Launch} {e : Env} {R : Room} {s : State} {m : MethodId} {args : Array Value} {below : List Frame} {meth : Method} {c : Code} {H : Heap} {locs : List Loc} {cells slots : Nat} {Q : State → Prop}
variable {mc ms : Nat} {free : Addr → Prop} {A0 A1 : Nat → Prop} {H0 : Heap} {a : Array Value} {ls : Array Slot} {st0 rest : List Value}
variable {Qc : Array Value → State → Outcome → State → Prop} {XC : String → State → State → Prop}
/-- what a body that may throw owes at its end -/
def vx_MQ (below : List Frame) (Qc : Array Value → State → Outcome → State → Prop) (XC : String → State → State → Prop) (a : Array Value) (s : State) (mc ms : Nat) (free : Addr → Prop) : State → Prop := fun t =>
  ∃ o, t.status = .running ∧ Ended t below o ∧ vx_Q Qc XC mc ms free a s o t
theorem vx_ret {g : JFrame} {mc ms : Nat} (k : W p l e R s m args below meth c H locs cells slots (MQ below Qc args s mc ms free) g) : W p l e R s m args below meth c H locs cells slots (vx_MQ below Qc XC args s mc ms free) g := by
  intro T hT X
  obtain ⟨t, a1, o, b1, b2, b3, b4⟩ := k T hT X
  exact ⟨t, a1, o, b1, b2, Or.inl ⟨b3, b4⟩⟩
/-- not caught here: it goes on to the caller -/
theorem vx_widen {g : JFrame} {q : Addr} {k n : Nat} (h1 : cells ≤ k) (h2 : slots ≤ n) (kk : vx_W p l e R s m args below meth c H locs k n Q g q) : vx_W p l e R s m args below meth c H locs cells slots Q g q := fun T hT X => kk T hT (stand_widen X h1 h2)
theorem vx_out {pc : Nat} {E : String} {ce : Cell} {q : Addr} {mc ms : Nat} (hout : ∀ x ∈ c.exceptionTable.toList, covers x pc = false) (hlocks : meth.locks = false) (hcell : H[q]? = some ce) (hv : ce.vm = .none) (hcl : s.vm.findClass E = some ce.cls)
    (hx : ∀ t : State, t.heap = H → s.vm.Alike t.vm → XC E s t) (hf : ∀ z ∈ locs, free z.base) (hc : cells ≤ mc) (hs : slots ≤ ms) :
    vx_W p l e R s m args below meth c H locs cells slots (vx_MQ below Qc XC args s mc ms free) (F0 m pc ls rest) q := by
  intro T hT X
  obtain ⟨st1, hrun, hend, hW, hsm⟩ := X.leaveThrown q (g := F0 m pc ls rest) rfl rfl rfl hout hlocks
  have hcell9 : (T.setFrames (.throwing q :: below)).heap[q]? = some ce := by
    show T.heap[q]? = some ce
    rw [hT]; exact hcell
  exact ⟨_, st1, .threw q, hrun, hend, Or.inr ⟨q, rfl, E, ce, locs, hx _ hT hW.alike, hcell9, hv, hcl, hW, hsm.mono hc hs, hf⟩⟩
theorem vx_frame {U : State} {k n : Nat} (h : s.sameButNew ({ U with vm := s.vm } : State) locs k n) : s.heap.size ≤ U.heap.size ∧ ∀ q : Nat, q < s.heap.size → (∀ z ∈ locs, z.base ≠ q) → U.heap[q]? = s.heap[q]? := by
  obtain ⟨-, h2, -, -, -, h6⟩ := h
  refine ⟨h2, fun q hq hz => ?_⟩
  obtain ⟨c9, e1, e2, e3, e4⟩ := h6 q _ (Array.getElem?_eq_getElem hq)
  have hs : c9.slots = (s.heap[q]).slots := Array.ext_getElem? fun i => e4 i fun hm => hz _ hm rfl
  have h9 : c9 = s.heap[q] := by
    rw [hs] at e2
    exact e2
  have e5 : U.heap[q]? = some c9 := e1
  rw [e5, h9, Array.getElem?_eq_getElem hq]
/-- the words of a throw but the four that speak of the heap -/
def vx_no (w : Cond) : Bool := decide (w ≠ .isRef (.static Bundle.tN "UNASSIGNED_STACK" Bundle.steD)) && decide (w ≠ .isRef (.static Bundle.tN "SUPPRESSED_SENTINEL" Bundle.listD)) && decide (w ≠ .laysStatic Bundle.tN "UNASSIGNED_STACK" Bundle.steD) && decide (w ≠ .laysStatic Bundle.tN "SUPPRESSED_SENTINEL" Bundle.listD)
def vx_at0 (own : String) (ic : Nat) (X : String) (names : List String) : List Cond := (Bundle.ownAtoms0 own ic X names).filter vx_no
def vx_atS (own : String) (ic : Nat) (X : String) (names : List String) : List Cond := (Bundle.ownAtoms own ic X names).filter vx_no
/-- a word that the tables alone decide, or a good one -/
def vx_ot (w : Cond) : Bool := w.onTables || goodWord w
theorem vx_ot_at {args a' : Array Value} {s U : State} {w : Cond} (hW : s.WarmedH U.vm) (hvm : s.vm = U.vm) (hg : vx_ot w = true) (h : w.before args s = true) : w.before a' U = true := by
  simp only [vx_ot, Bool.or_eq_true] at hg
  rcases hg with hg | hg
  · exact va_tabs hg hvm h
  · exact word_at hW (good_of_word hg) h
/-- a list's words: the good ones out of the method's own list, the others by premises of their own -/
theorem vx_hat {args : Array Value} {s : State} {L B : List Cond} (h1 : ∀ w ∈ L.filter goodWord, w.before args s = true) (h2 : ∀ w ∈ L.filter (fun w => !goodWord w), w ∈ B) (h3 : ∀ w ∈ B, w.before args s = true) : ∀ w ∈ L, w.before args s = true := by
  intro w hw
  by_cases g : goodWord w = true
  · exact h1 w (List.mem_filter.mpr ⟨hw, g⟩)
  · refine h3 w (h2 w (List.mem_filter.mpr ⟨hw, ?_⟩))
    show (!goodWord w) = true
    cases hgw : goodWord w
    · rfl
    · exact absurd hgw g
theorem vx_c {args : Array Value} {s : State} {w : Cond} {B : List Cond} (h : w.before args s = true) (t : ∀ w ∈ B, w.before args s = true) : ∀ w' ∈ w :: B, w'.before args s = true := fun w' h' => (List.mem_cons.mp h').elim (fun e => by rw [e]; exact h) (t w')
theorem vx_n {args : Array Value} {s : State} : ∀ w ∈ ([] : List Cond), w.before args s = true := fun _ h => nomatch h
theorem vx_own {args : Array Value} {s : State} {L : List Cond} (h1 : ∀ w ∈ L.filter vx_no, w.before args s = true)
    (hU : (Cond.isRef (.static Bundle.tN "UNASSIGNED_STACK" Bundle.steD)).before args s = true) (hN : (Cond.isRef (.static Bundle.tN "SUPPRESSED_SENTINEL" Bundle.listD)).before args s = true)
    (lU : (Cond.laysStatic Bundle.tN "UNASSIGNED_STACK" Bundle.steD).before args s = true) (lN : (Cond.laysStatic Bundle.tN "SUPPRESSED_SENTINEL" Bundle.listD).before args s = true) : ∀ w ∈ L, w.before args s = true := by
  intro w hw
  by_cases e1 : w = .isRef (.static Bundle.tN "UNASSIGNED_STACK" Bundle.steD)
  · rw [e1]; exact hU
  · by_cases e2 : w = .isRef (.static Bundle.tN "SUPPRESSED_SENTINEL" Bundle.listD)
    · rw [e2]; exact hN
    · by_cases e3 : w = .laysStatic Bundle.tN "UNASSIGNED_STACK" Bundle.steD
      · rw [e3]; exact lU
      · by_cases e4 : w = .laysStatic Bundle.tN "SUPPRESSED_SENTINEL" Bundle.listD
        · rw [e4]; exact lN
        · exact h1 w (List.mem_filter.mpr ⟨hw, by unfold vx_no; rw [decide_eq_true e1, decide_eq_true e2, decide_eq_true e3, decide_eq_true e4]; rfl⟩)
/-- where a static field lies, its class's statics cell in H -/
def vx_L (C n d : String) (A : Nat → Prop) (U : State) (H : Heap) : Prop := ∃ (c : ClassId) (k : Class) (i : Nat) (f : Field) (a : Nat) (cell : Cell), U.vm.findClass C = some c ∧ U.fieldFound? C n d = some (c, k, i, f) ∧ f.isStatic = true ∧ k.statics = some a ∧ H[a]? = some cell ∧ cell.vm.isStatics = true ∧ cell.cls = c ∧ f.slot < cell.slots.size ∧ k.staticTypes[f.slot]? = some f.type ∧ ¬ A a
theorem vx_L.moved {C n d : String} {A : Nat → Prop} {u U : State} {H : Heap} (hvm : u.vm.Alike U.vm) (h : vx_L C n d A u H) : vx_L C n d A U H := by
  obtain ⟨c, k, i, f, a, cell, h1, h2, h3, h4, h5, h6, h7, h8, h9, h10⟩ := h
  obtain ⟨k', hi', he⟩ := State.fieldFound?_setVm hvm h2
  exact ⟨c, k', i, f, a, cell, by rw [hvm.findClass]; exact h1, hi', h3, by rw [he]; exact h4, h5, h6, h7, h8, by rw [he]; exact h9, h10⟩
theorem vx_L.kept {C n d : String} {A : Nat → Prop} {U : State} {H H1 : Heap} (h : vx_L C n d A U H) (hq : ∀ a : Nat, a < H.size → ¬ A a → H1[a]? = H[a]?) : vx_L C n d A U H1 := by
  obtain ⟨c, k, i, f, a, cell, h1, h2, h3, h4, h5, h6, h7, h8, h9, h10⟩ := h
  exact ⟨c, k, i, f, a, cell, h1, h2, h3, h4, by rw [hq a (Array.getElem?_eq_some_iff.mp h5).1 h10]; exact h5, h6, h7, h8, h9, h10⟩
theorem vx_L.narrow {C n d : String} {A B : Nat → Prop} {U : State} {H : Heap} (h : vx_L C n d A U H) (hAB : ∀ q, B q → A q) : vx_L C n d B U H := by
  obtain ⟨c, k, i, f, a, cell, h1, h2, h3, h4, h5, h6, h7, h8, h9, h10⟩ := h
  exact ⟨c, k, i, f, a, cell, h1, h2, h3, h4, h5, h6, h7, h8, h9, fun z => h10 (hAB _ z)⟩
theorem vx_L.word {C n d : String} {A : Nat → Prop} {s : State} {args : Array Value} (h : vx_L C n d A s s.heap) : (Cond.laysStatic C n d).before args s = true := by
  obtain ⟨c, k, i, f, a, cell, h1, h2, h3, h4, h5, h6, h7, h8, h9, -⟩ := h
  show (Cond.laysStatic C n d).holds args s none s [] = true
  exact Cond.laysStatic_of h1 h2 h3 h4 h5 h6 h7 h8 h9
/-- .. and what it holds: null or some reference -/
def vx_Zq (C n d : String) (A : Nat → Prop) (U : State) (H : Heap) : Prop := va_Zq C n d A U H ∧ vx_L C n d A U H
theorem vx_Zq.moved {C n d : String} {A : Nat → Prop} {u U : State} {H : Heap} (hvm : u.vm.Alike U.vm) (h : vx_Zq C n d A u H) : vx_Zq C n d A U H := ⟨va_Zq.moved hvm h.1, vx_L.moved hvm h.2⟩
theorem vx_Zq.kept {C n d : String} {A : Nat → Prop} {U : State} {H H1 : Heap} (h : vx_Zq C n d A U H) (hq : ∀ a : Nat, a < H.size → ¬ A a → H1[a]? = H[a]?) : vx_Zq C n d A U H1 := ⟨va_Zq.kept h.1 hq, vx_L.kept h.2 hq⟩
theorem vx_Zq.narrow {C n d : String} {A B : Nat → Prop} {U : State} {H : Heap} (h : vx_Zq C n d A U H) (hAB : ∀ q, B q → A q) : vx_Zq C n d B U H := ⟨va_Zq.narrow h.1 hAB, vx_L.narrow h.2 hAB⟩
theorem vx_Zqof {args : Array Value} {s : State} {C n d : String} {A : Nat → Prop} (hl : (Cond.laysStatic C n d).before args s = true) (hini : (Cond.initialized C).before args s = true) (h : (Cond.isRef (.static C n d)).before args s = true) (hA : ∀ a : Nat, a < s.heap.size → ¬ A a) : vx_Zq C n d A s s.heap := by
  refine ⟨va_Zqof hl hini h hA, ?_⟩
  obtain ⟨c, k, i, f, a, cell, h1, h2, h3, h4, h5, h6, h7, h8, h9⟩ := Cond.laysStatic_spec hl
  exact ⟨c, k, i, f, a, cell, h1, h2, h3, h4, h5, h6, h7, h8, h9, hA a (Array.getElem?_eq_some_iff.mp h5).1⟩
theorem vx_isRef {C n d : String} {v : Value} {A : Nat → Prop} {s : State} {args : Array Value} (h : va_Z C n d v A s s.heap) (hv : v.isRef = true) : (Cond.isRef (.static C n d)).before args s = true := by
  obtain ⟨cf, kf, fi, f, a, cell, h1, h2, h3, h4, h5, h6, h7, -⟩ := h
  have he : (Term.static C n d).eval args s none [] s = some v := by
    simp [Term.eval, State.fieldNamed?, h1, h2, h4, h5, h6, h7]
  simp only [Cond.before, Cond.holds, Cond.value, he]
  cases v <;> simp_all [Value.isRef]
theorem vx_isRefq {C n d : String} {A : Nat → Prop} {s : State} {args : Array Value} (h : va_Zq C n d A s s.heap) : (Cond.isRef (.static C n d)).before args s = true := by
  rcases h with h | ⟨t, h⟩
  · exact vx_isRef h rfl
  · exact vx_isRef h rfl
/-- the same frame, seen from here: as if the method were called anew in this heap -/
theorem vx_rebase {T : State} (X : Stand p l e R s m args below meth c T locs cells slots) {R' : Room} (hf : R'.frames ≤ R.frames) (hl : R'.locals ≤ R.locals) (hc : cells + R'.cells ≤ R.cells) (hs : slots + R'.slots ≤ R.slots) :
    Stand p l e R' ((T.setVm s.vm).setFrames (.invoking m args :: below)) m args below meth c T [] 0 0 := by
  have htop : (T.setVm s.vm).topJava?.isSome := X.here.top
  have hF : ((T.setVm s.vm).setFrames (.invoking m args :: below)).frames = .invoking m args :: below := State.frames_setFrames _ (State.cur_lt_of_top htop)
  obtain ⟨g₀, hg0⟩ := Option.isSome_iff_exists.mp htop
  obtain ⟨r, hr⟩ := State.topJava?_eq_some.mp hg0
  have hl9 : e.platform.stackLimits (T.setVm s.vm).me = e.platform.stackLimits s.me := X.limits
  have hb9 : (T.setVm s.vm).me.stackBytes = s.me.stackBytes := X.bytes
  refine ⟨X.admits, X.cas, X.clock, hF, ?_, X.hears, X.method, X.code, X.here, X.tail, X.warmed, ?_, ?_, ?_⟩
  · have h := X.room
    have hU : ((T.setVm s.vm).setFrames (.invoking m args :: below)).localsInUse = s.localsInUse := by
      rw [State.localsInUse_invoking hF (meth := meth) (c := c) X.method X.code, State.localsInUse_invoking X.frames X.method X.code]
    simp only [State.hasRoom, Bool.and_eq_true, decide_eq_true_eq] at h ⊢
    obtain ⟨⟨⟨⟨h1, h2, h3, h4, h5, h6⟩, h7⟩, h8⟩, h9⟩ := h
    rw [X.frames, List.length_cons] at h2 h3
    have q1 := X.heapSize
    have q2 := X.used
    simp only [hF, hU, List.length_cons, State.stackLimits_setFrames, State.stackBytes_setFrames, hl9, hb9]
    refine ⟨⟨⟨⟨by omega, by omega, by omega, by omega, by omega, h6⟩, ?_⟩, ?_⟩, X.book⟩
    · show T.heap.size + R'.cells ≤ e.platform.maxCells
      omega
    · show T.slotsUsed + R'.slots ≤ e.platform.maxSlots
      omega
  · rw [State.stackLimits_setFrames]; rfl
  · rw [State.stackBytes_setFrames]; rfl
  · refine ⟨?_, Nat.le_refl _, Nat.le_refl _, ?_, ?_, fun a c9 h9 => ⟨c9, h9, rfl, rfl, fun _ _ => rfl⟩⟩
    · obtain ⟨t, ht, -⟩ := State.frames_cons hr
      show T.setVm s.vm = { ((T.setVm s.vm).setFrames (.invoking m args :: below)).setFrames (T.setVm s.vm).frames with heap := T.heap, slotsUsed := T.slotsUsed }
      rw [State.setFrames_setFrames, State.setFrames_self ht]
      rfl
    · show T.slotsUsed = T.slotsUsed + ((T.heap.toList.drop T.heap.size).map (·.slots.size)).sum
      rw [List.drop_eq_nil_of_le (Nat.le_of_eq Array.length_toList)]
      rfl
    · show ((T.heap.toList.drop T.heap.size).map (·.slots.size)).sum ≤ 0
      rw [List.drop_eq_nil_of_le (Nat.le_of_eq Array.length_toList)]
      exact Nat.le_refl _
/-- 'throw new E()': new; dup; invokespecial; athrow -/
theorem vx_throw0 {cc : ByteArray} {pc : Nat} (hexec : p.tables.exec = Jvm.exec) (hb : c.code = cc) (hl : l.stackTraces = false) {own cls : String} {names : List String} {ik ic mc ms : Nat} {A : Nat → Prop}
    (hown : s.vm.findClass own = some m.cls) (hcls : Bundle.fit cls = true) (hnames : ∀ n ∈ names, Bundle.fit n = true)
    (hk : (Cond.classLink own ik cls).before args s = true) (hini : (Cond.initialized cls).before args s = true) (hat : ∀ w ∈ vx_at0 own ic cls names, w.before args s = true)
    (hgood : ∀ w ∈ Cond.classLink own ik cls :: Cond.initialized cls :: vx_at0 own ic cls names, vx_ot w = true)
    (hU : vx_Zq Bundle.tN "UNASSIGNED_STACK" Bundle.steD A s s.heap) (hN : vx_Zq Bundle.tN "SUPPRESSED_SENTINEL" Bundle.listD A s s.heap) (hS : va_S A s.heap H locs) (hsize : ls.size = c.maxLocals)
    (d0 : decode cc pc = .ok (.new ik, 3)) (d3 : decode cc (pc + 3) = .ok (.dup, 1)) (d4 : decode cc (pc + 4) = .ok (.invokespecial ic, 3)) (d7 : decode cc (pc + 7) = .ok (.athrow, 1))
    (hout : ∀ x ∈ c.exceptionTable.toList, covers x (pc + 7) = false)
    (hRframes : names.length + 3 < R.frames) (hRlocals : (rest.map fun v => v.category).sum + (13 * (names.length + 1) + 42) ≤ R.locals) (hRcells : cells + 1 ≤ R.cells) (hRslots : slots + 6 ≤ R.slots) (hlocks : meth.locks = false)
    (hx : ∀ t : State, s.vm.Alike t.vm → H.size ≤ t.heap.size → (∀ q : Nat, q < H.size → t.heap[q]? = H[q]?) → XC cls s t)
    (hf : ∀ z ∈ locs, free z.base) (hc : cells + 1 ≤ mc) (hs : slots + 6 ≤ ms) :
    W p l e R s m args below meth c H locs cells slots (vx_MQ below Qc XC args s mc ms free) (F0 m pc ls rest) := by
  intro T hT X
  have htr : e.platform.stackTraces = false := (show e.platform.stackTraces = l.stackTraces by rw [X.admits.platform]).trans hl
  have Y := vx_rebase X (R' := { frames := R.frames, locals := R.locals, cells := 1, slots := 6 }) (Nat.le_refl _) (Nat.le_refl _) hRcells hRslots
  obtain ⟨s', hA⟩ : ∃ z, z = (T.setVm s.vm).setFrames (.invoking m args :: below) := ⟨_, rfl⟩
  rw [← hA] at Y
  have hvm : s'.vm = s.vm := by rw [hA]; rfl
  have hhp : s'.heap = H := by rw [hA]; exact hT
  have hW0 : s.WarmedH s'.vm := by rw [hvm]; exact State.WarmedH.refl s
  have hat' : ∀ w ∈ vx_at0 own ic cls names, w.before args s' = true := fun w hw => vx_ot_at hW0 hvm.symm (hgood w (List.mem_cons_of_mem _ (List.mem_cons_of_mem _ hw))) (hat w hw)
  have hk' : (Cond.classLink own ik cls).before args s' = true := vx_ot_at hW0 hvm.symm (hgood _ List.mem_cons_self) hk
  have hini' : (Cond.initialized cls).before args s' = true := vx_ot_at hW0 hvm.symm (hgood _ (List.mem_cons_of_mem _ List.mem_cons_self)) hini
  have hU' : vx_Zq Bundle.tN "UNASSIGNED_STACK" Bundle.steD A s' s'.heap := by rw [hhp]; exact vx_Zq.moved hW0.alike (hU.kept hS.2.1)
  have hN' : vx_Zq Bundle.tN "SUPPRESSED_SENTINEL" Bundle.listD A s' s'.heap := by rw [hhp]; exact vx_Zq.moved hW0.alike (hN.kept hS.2.1)
  have h : ∀ w ∈ Bundle.ownAtoms0 own ic cls names, w.before args s' = true := vx_own hat' (vx_isRefq hU'.1) (vx_isRefq hN'.1) hU'.2.word hN'.2.word
  have hown' : s'.vm.findClass own = some m.cls := by rw [hvm]; exact hown
  have hins : (Cond.instantiable cls 6).before args s' = true := h _ (by simp [Bundle.ownAtoms0])
  obtain ⟨vm₁, cX, kX, hfX, hkX, -, -, X₁, st1⟩ := Y.newCold hexec (own := own) (C := cls) (index := ik) (n := 6) hown' hk' hins hini'
    (g := F0 m pc ls rest) rfl (by rw [hb]; exact d0) (Nat.le_refl _) (Nat.le_refl _)
  generalize hT1 : (T.setVm vm₁).pushCell { cls := cX, slots := kX.instanceTypes.map defaultValue, vm := .none } = T1 at X₁ st1
  have hcat : (Value.ref T.heap.size).category = 1 := rfl
  have hcellA : T1.heap[T.heap.size]? = some (freshCell cX kX) := by rw [← hT1]; exact State.heap_pushCell_size _ _
  have d3' : decode c.code (pc + 3) = .ok (.dup, 1) := by rw [hb]; exact d3
  obtain ⟨U, hsteps, hrun, hend, hW, hsame, ce, hce, hO⟩ := X₁.ctorThrow0 hexec htr (own := own) (cls := cls) (names := names) (ic := ic) hown' hcls hnames h (fun x hx => nomatch hx) hfX hkX hcellA (by rw [hhp, hT]; exact Nat.le_refl _)
    (g := { method := m, pc := pc + 4, locals := ls, stack := .ref T.heap.size :: .ref T.heap.size :: rest, locked := none }) rfl hsize rfl rfl (rest := rest) rfl
    (by rw [hb]; exact d4) (by rw [hb]; exact d7) hout hRframes (by simp only [List.map_cons, List.sum_cons, hcat]; omega) hlocks
  obtain ⟨f1, f2⟩ := vx_frame hsame
  rw [hhp] at f1 f2
  have hWs : s.WarmedH U.vm := State.WarmedH.trans hW0 hW
  have hcl : s.vm.findClass cls = some ce.cls := by
    have h9 := hO.cls
    rw [hvm] at h9
    exact h9
  have hall : s.sameButNew ({ U with vm := s.vm } : State) locs mc ms := by
    subst hA
    obtain ⟨e1, e2⟩ := hsame
    rw [State.setFrames_setFrames] at e1
    have h2 : (T.setVm s.vm).sameButNew ({ U with vm := s.vm } : State) [] (0 + 1) (0 + 6) := ⟨e1, e2⟩
    have h3 := X.same.trans h2
    rw [List.append_nil] at h3
    exact h3.mono hc hs
  refine ⟨U, ?_, .threw T.heap.size, hrun, hend, Or.inr ⟨T.heap.size, rfl, cls, ce, locs, hx U hWs.alike f1 (fun q hq => f2 q hq (fun z hz => nomatch hz)), hce, hO.vm, hcl, hWs, hall, hf⟩⟩
  refine st1 _ ?_
  show Steps p.tables e below (T1.setTop { method := m, pc := pc + 3, locals := ls, stack := .ref T.heap.size :: rest, locked := none }) _
  jvm_step X₁.here [X₁.here.top, hexec, d3', Value.category]
  exact hsteps
/-- 'throw new E("text")': new; dup; ldc; invokespecial; athrow -/
theorem vx_throwS {cc : ByteArray} {pc : Nat} (hexec : p.tables.exec = Jvm.exec) (hb : c.code = cc) (hl : l.stackTraces = false) {own cls text : String} {names : List String} {ik is ic mc ms sa : Nat} {A : Nat → Prop}
    (hown : s.vm.findClass own = some m.cls) (hcls : Bundle.fit cls = true) (hnames : ∀ n ∈ names, Bundle.fit n = true)
    (hk : (Cond.classLink own ik cls).before args s = true) (hini : (Cond.initialized cls).before args s = true) (hstr : vk_R own is text sa s) (hat : ∀ w ∈ vx_atS own ic cls names, w.before args s = true)
    (hgood : ∀ w ∈ Cond.classLink own ik cls :: Cond.initialized cls :: vx_atS own ic cls names, vx_ot w = true)
    (hU : vx_Zq Bundle.tN "UNASSIGNED_STACK" Bundle.steD A s s.heap) (hN : vx_Zq Bundle.tN "SUPPRESSED_SENTINEL" Bundle.listD A s s.heap) (hS : va_S A s.heap H locs) (hsize : ls.size = c.maxLocals)
    (d0 : decode cc pc = .ok (.new ik, 3)) (d3 : decode cc (pc + 3) = .ok (.dup, 1)) (d4 : decode cc (pc + 4) = .ok (.ldc is, 2)) (d6 : decode cc (pc + 6) = .ok (.invokespecial ic, 3)) (d9 : decode cc (pc + 9) = .ok (.athrow, 1))
    (hout : ∀ x ∈ c.exceptionTable.toList, covers x (pc + 9) = false)
    (hRframes : names.length + 3 < R.frames) (hRlocals : (rest.map fun v => v.category).sum + (13 * (names.length + 1) + 43) ≤ R.locals) (hRcells : cells + 1 ≤ R.cells) (hRslots : slots + 6 ≤ R.slots) (hlocks : meth.locks = false)
    (hx : ∀ t : State, s.vm.Alike t.vm → H.size ≤ t.heap.size → (∀ q : Nat, q < H.size → t.heap[q]? = H[q]?) → XC cls s t)
    (hf : ∀ z ∈ locs, free z.base) (hc : cells + 1 ≤ mc) (hs : slots + 6 ≤ ms) :
    W p l e R s m args below meth c H locs cells slots (vx_MQ below Qc XC args s mc ms free) (F0 m pc ls rest) := by
  intro T hT X
  have htr : e.platform.stackTraces = false := (show e.platform.stackTraces = l.stackTraces by rw [X.admits.platform]).trans hl
  have Y := vx_rebase X (R' := { frames := R.frames, locals := R.locals, cells := 1, slots := 6 }) (Nat.le_refl _) (Nat.le_refl _) hRcells hRslots
  obtain ⟨s', hA⟩ : ∃ z, z = (T.setVm s.vm).setFrames (.invoking m args :: below) := ⟨_, rfl⟩
  rw [← hA] at Y
  have hvm : s'.vm = s.vm := by rw [hA]; rfl
  have hhp : s'.heap = H := by rw [hA]; exact hT
  have hW0 : s.WarmedH s'.vm := by rw [hvm]; exact State.WarmedH.refl s
  have hat' : ∀ w ∈ vx_atS own ic cls names, w.before args s' = true := fun w hw => vx_ot_at hW0 hvm.symm (hgood w (List.mem_cons_of_mem _ (List.mem_cons_of_mem _ hw))) (hat w hw)
  have hk' : (Cond.classLink own ik cls).before args s' = true := vx_ot_at hW0 hvm.symm (hgood _ List.mem_cons_self) hk
  have hini' : (Cond.initialized cls).before args s' = true := vx_ot_at hW0 hvm.symm (hgood _ (List.mem_cons_of_mem _ List.mem_cons_self)) hini
  have hU' : vx_Zq Bundle.tN "UNASSIGNED_STACK" Bundle.steD A s' s'.heap := by rw [hhp]; exact vx_Zq.moved hW0.alike (hU.kept hS.2.1)
  have hN' : vx_Zq Bundle.tN "SUPPRESSED_SENTINEL" Bundle.listD A s' s'.heap := by rw [hhp]; exact vx_Zq.moved hW0.alike (hN.kept hS.2.1)
  have h : ∀ w ∈ Bundle.ownAtoms own ic cls names, w.before args s' = true := vx_own hat' (vx_isRefq hU'.1) (vx_isRefq hN'.1) hU'.2.word hN'.2.word
  have hown' : s'.vm.findClass own = some m.cls := by rw [hvm]; exact hown
  have hins : (Cond.instantiable cls 6).before args s' = true := h _ (by simp [Bundle.ownAtoms])
  obtain ⟨vm₁, cX, kX, hfX, hkX, -, -, X₁, st1⟩ := Y.newCold hexec (own := own) (C := cls) (index := ik) (n := 6) hown' hk' hins hini'
    (g := F0 m pc ls rest) rfl (by rw [hb]; exact d0) (Nat.le_refl _) (Nat.le_refl _)
  generalize hT1 : (T.setVm vm₁).pushCell { cls := cX, slots := kX.instanceTypes.map defaultValue, vm := .none } = T1 at X₁ st1
  have hcat : (Value.ref T.heap.size).category = 1 := rfl
  have hcellA : T1.heap[T.heap.size]? = some (freshCell cX kX) := by rw [← hT1]; exact State.heap_pushCell_size _ _
  have d3' : decode c.code (pc + 3) = .ok (.dup, 1) := by rw [hb]; exact d3
  have d4' : decode c.code (pc + 4) = .ok (.ldc is, 2) := by rw [hb]; exact d4
  have hstr' : vk_R own is text sa s' := vk_R.warm hW0 hstr
  obtain ⟨U, hsteps, hrun, hend, hW, hsame, ce, hce, hO⟩ := X₁.ctorThrowS hexec htr (own := own) (cls := cls) (names := names) (ic := ic) hown' hcls hnames h (fun x hx => nomatch hx) hfX hkX hcellA (by rw [hhp, hT]; exact Nat.le_refl _) (msg := .ref sa) rfl
    (g := { method := m, pc := pc + 6, locals := ls, stack := .ref sa :: .ref T.heap.size :: .ref T.heap.size :: rest, locked := none }) rfl hsize rfl rfl (rest := rest) rfl
    (by rw [hb]; exact d6) (by rw [hb]; exact d9) hout hRframes (by simp only [List.map_cons, List.sum_cons, hcat]; omega) hlocks
  obtain ⟨f1, f2⟩ := vx_frame hsame
  rw [hhp] at f1 f2
  have hWs : s.WarmedH U.vm := State.WarmedH.trans hW0 hW
  have hcl : s.vm.findClass cls = some ce.cls := by
    have h9 := hO.cls
    rw [hvm] at h9
    exact h9
  have hall : s.sameButNew ({ U with vm := s.vm } : State) locs mc ms := by
    subst hA
    obtain ⟨e1, e2⟩ := hsame
    rw [State.setFrames_setFrames] at e1
    have h2 : (T.setVm s.vm).sameButNew ({ U with vm := s.vm } : State) [] (0 + 1) (0 + 6) := ⟨e1, e2⟩
    have h3 := X.same.trans h2
    rw [List.append_nil] at h3
    exact h3.mono hc hs
  refine ⟨U, ?_, .threw T.heap.size, hrun, hend, Or.inr ⟨T.heap.size, rfl, cls, ce, locs, hx U hWs.alike f1 (fun q hq => f2 q hq (fun z hz => nomatch hz)), hce, hO.vm, hcl, hWs, hall, hf⟩⟩
  refine st1 _ ?_
  show Steps p.tables e below (T1.setTop { method := m, pc := pc + 3, locals := ls, stack := .ref T.heap.size :: rest, locked := none }) _
  jvm_step X₁.here [X₁.here.top, hexec, d3', Value.category]
  exact X₁.ldcString hexec (own := own) (text := text) (index := is) (a := sa) hown' hstr'.1 hstr'.2
    (g := { method := m, pc := pc + 4, locals := ls, stack := .ref T.heap.size :: .ref T.heap.size :: rest, locked := none }) rfl d4' _ hsteps
/-- 'throw new E("text")', the text by a wide index -/
theorem vx_throwSW {cc : ByteArray} {pc : Nat} (hexec : p.tables.exec = Jvm.exec) (hb : c.code = cc) (hl : l.stackTraces = false) {own cls text : String} {names : List String} {ik is ic mc ms sa : Nat} {A : Nat → Prop}
    (hown : s.vm.findClass own = some m.cls) (hcls : Bundle.fit cls = true) (hnames : ∀ n ∈ names, Bundle.fit n = true)
    (hk : (Cond.classLink own ik cls).before args s = true) (hini : (Cond.initialized cls).before args s = true) (hstr : vk_R own is text sa s) (hat : ∀ w ∈ vx_atS own ic cls names, w.before args s = true)
    (hgood : ∀ w ∈ Cond.classLink own ik cls :: Cond.initialized cls :: vx_atS own ic cls names, vx_ot w = true)
    (hU : vx_Zq Bundle.tN "UNASSIGNED_STACK" Bundle.steD A s s.heap) (hN : vx_Zq Bundle.tN "SUPPRESSED_SENTINEL" Bundle.listD A s s.heap) (hS : va_S A s.heap H locs) (hsize : ls.size = c.maxLocals)
    (d0 : decode cc pc = .ok (.new ik, 3)) (d3 : decode cc (pc + 3) = .ok (.dup, 1)) (d4 : decode cc (pc + 4) = .ok (.ldc_w is, 3)) (d7 : decode cc (pc + 7) = .ok (.invokespecial ic, 3)) (d10 : decode cc (pc + 10) = .ok (.athrow, 1))
    (hout : ∀ x ∈ c.exceptionTable.toList, covers x (pc + 10) = false)
    (hRframes : names.length + 3 < R.frames) (hRlocals : (rest.map fun v => v.category).sum + (13 * (names.length + 1) + 43) ≤ R.locals) (hRcells : cells + 1 ≤ R.cells) (hRslots : slots + 6 ≤ R.slots) (hlocks : meth.locks = false)
    (hx : ∀ t : State, s.vm.Alike t.vm → H.size ≤ t.heap.size → (∀ q : Nat, q < H.size → t.heap[q]? = H[q]?) → XC cls s t)
    (hf : ∀ z ∈ locs, free z.base) (hc : cells + 1 ≤ mc) (hs : slots + 6 ≤ ms) :
    W p l e R s m args below meth c H locs cells slots (vx_MQ below Qc XC args s mc ms free) (F0 m pc ls rest) := by
  intro T hT X
  have htr : e.platform.stackTraces = false := (show e.platform.stackTraces = l.stackTraces by rw [X.admits.platform]).trans hl
  have Y := vx_rebase X (R' := { frames := R.frames, locals := R.locals, cells := 1, slots := 6 }) (Nat.le_refl _) (Nat.le_refl _) hRcells hRslots
  obtain ⟨s', hA⟩ : ∃ z, z = (T.setVm s.vm).setFrames (.invoking m args :: below) := ⟨_, rfl⟩
  rw [← hA] at Y
  have hvm : s'.vm = s.vm := by rw [hA]; rfl
  have hhp : s'.heap = H := by rw [hA]; exact hT
  have hW0 : s.WarmedH s'.vm := by rw [hvm]; exact State.WarmedH.refl s
  have hat' : ∀ w ∈ vx_atS own ic cls names, w.before args s' = true := fun w hw => vx_ot_at hW0 hvm.symm (hgood w (List.mem_cons_of_mem _ (List.mem_cons_of_mem _ hw))) (hat w hw)
  have hk' : (Cond.classLink own ik cls).before args s' = true := vx_ot_at hW0 hvm.symm (hgood _ List.mem_cons_self) hk
  have hini' : (Cond.initialized cls).before args s' = true := vx_ot_at hW0 hvm.symm (hgood _ (List.mem_cons_of_mem _ List.mem_cons_self)) hini
  have hU' : vx_Zq Bundle.tN "UNASSIGNED_STACK" Bundle.steD A s' s'.heap := by rw [hhp]; exact vx_Zq.moved hW0.alike (hU.kept hS.2.1)
  have hN' : vx_Zq Bundle.tN "SUPPRESSED_SENTINEL" Bundle.listD A s' s'.heap := by rw [hhp]; exact vx_Zq.moved hW0.alike (hN.kept hS.2.1)
  have h : ∀ w ∈ Bundle.ownAtoms own ic cls names, w.before args s' = true := vx_own hat' (vx_isRefq hU'.1) (vx_isRefq hN'.1) hU'.2.word hN'.2.word
  have hown' : s'.vm.findClass own = some m.cls := by rw [hvm]; exact hown
  have hins : (Cond.instantiable cls 6).before args s' = true := h _ (by simp [Bundle.ownAtoms])
  obtain ⟨vm₁, cX, kX, hfX, hkX, -, -, X₁, st1⟩ := Y.newCold hexec (own := own) (C := cls) (index := ik) (n := 6) hown' hk' hins hini'
    (g := F0 m pc ls rest) rfl (by rw [hb]; exact d0) (Nat.le_refl _) (Nat.le_refl _)
  generalize hT1 : (T.setVm vm₁).pushCell { cls := cX, slots := kX.instanceTypes.map defaultValue, vm := .none } = T1 at X₁ st1
  have hcat : (Value.ref T.heap.size).category = 1 := rfl
  have hcellA : T1.heap[T.heap.size]? = some (freshCell cX kX) := by rw [← hT1]; exact State.heap_pushCell_size _ _
  have d3' : decode c.code (pc + 3) = .ok (.dup, 1) := by rw [hb]; exact d3
  have d4' : decode c.code (pc + 4) = .ok (.ldc_w is, 3) := by rw [hb]; exact d4
  have hstr' : vk_R own is text sa s' := vk_R.warm hW0 hstr
  obtain ⟨U, hsteps, hrun, hend, hW, hsame, ce, hce, hO⟩ := X₁.ctorThrowS hexec htr (own := own) (cls := cls) (names := names) (ic := ic) hown' hcls hnames h (fun x hx => nomatch hx) hfX hkX hcellA (by rw [hhp, hT]; exact Nat.le_refl _) (msg := .ref sa) rfl
    (g := { method := m, pc := pc + 7, locals := ls, stack := .ref sa :: .ref T.heap.size :: .ref T.heap.size :: rest, locked := none }) rfl hsize rfl rfl (rest := rest) rfl
    (by rw [hb]; exact d7) (by rw [hb]; exact d10) hout hRframes (by simp only [List.map_cons, List.sum_cons, hcat]; omega) hlocks
  obtain ⟨f1, f2⟩ := vx_frame hsame
  rw [hhp] at f1 f2
  have hWs : s.WarmedH U.vm := State.WarmedH.trans hW0 hW
  have hcl : s.vm.findClass cls = some ce.cls := by
    have h9 := hO.cls
    rw [hvm] at h9
    exact h9
  have hall : s.sameButNew ({ U with vm := s.vm } : State) locs mc ms := by
    subst hA
    obtain ⟨e1, e2⟩ := hsame
    rw [State.setFrames_setFrames] at e1
    have h2 : (T.setVm s.vm).sameButNew ({ U with vm := s.vm } : State) [] (0 + 1) (0 + 6) := ⟨e1, e2⟩
    have h3 := X.same.trans h2
    rw [List.append_nil] at h3
    exact h3.mono hc hs
  refine ⟨U, ?_, .threw T.heap.size, hrun, hend, Or.inr ⟨T.heap.size, rfl, cls, ce, locs, hx U hWs.alike f1 (fun q hq => f2 q hq (fun z hz => nomatch hz)), hce, hO.vm, hcl, hWs, hall, hf⟩⟩
  refine st1 _ ?_
  show Steps p.tables e below (T1.setTop { method := m, pc := pc + 3, locals := ls, stack := .ref T.heap.size :: rest, locked := none }) _
  jvm_step X₁.here [X₁.here.top, hexec, d3', Value.category]
  exact X₁.ldcStringW hexec (own := own) (text := text) (index := is) (a := sa) hown' hstr'.1 hstr'.2
    (g := { method := m, pc := pc + 4, locals := ls, stack := .ref T.heap.size :: .ref T.heap.size :: rest, locked := none }) rfl d4' _ hsteps
end Ends
section Bodies
variable {l : Launch}
theorem vx_ofW {y : MethodName} {ws ws' : List Cond} {rm : Room} {Pc : Array Value → State → Prop} {Qc : Array Value → State → Outcome → State → Prop} {XC : String → State → State → Prop} {mc ms : Nat} {free : Addr → Prop} {cc : ByteArray} {maxL : Nat} {ret : Option FieldType}
    (hy : plainName y.cls = true) (hw : ws = Cond.code y cc maxL ret :: ws')
    (body : ∀ p e s m args below meth c s₁, BodyLoose p l y (headSpec ws rm) cc maxL ret e s m args below meth c s₁ → c.maxLocals = maxL → (∀ x ∈ c.exceptionTable.toList, False) → Pc args s →
      W p l e (headSpec ws rm).room s m args below meth c s.heap [] 0 0 (vx_MQ below Qc XC args s mc ms free) (entryFrame m args maxL)) : vx_Met l y ws rm Pc Qc XC mc ms free := by
  refine MetFree.of_bodyS (code := cc) (maxLocals := maxL) (ret := ret) hy ?_ ?_
  · intro args s m h hn
    obtain ⟨meth, c, h1, h2, h3, h4, h5, h6, -, -⟩ := Cond.code_spec hn (atoms_spec (ws := ws) h _ (by rw [hw]; exact List.mem_cons_self))
    exact ⟨meth, c, h1, h2, h3, h4, h5, h6⟩
  · intro p e s m args below meth c s₁ B hml hP _
    have hh0 : s₁.heap = s.heap := by rw [B.state]; rfl
    have ht : ∀ x ∈ c.exceptionTable.toList, False := by
      obtain ⟨meth9, c9, h1, h2, -, -, -, -, h7, -⟩ := Cond.code_spec B.named (atoms_spec (ws := ws) B.pre _ (by rw [hw]; exact List.mem_cons_self))
      cases Option.some.inj (h1.symm.trans B.method)
      cases Option.some.inj (h2.symm.trans (Stand.of_body B).code)
      intro x hx
      rw [Array.isEmpty_iff.mp h7] at hx
      cases hx
    obtain ⟨t, a1, o, b1, b2, b3⟩ := body p e s m args below meth c s₁ B hml ht hP s₁ hh0 (Stand.of_body B)
    exact ⟨t, o, a1, b1, b2, b3⟩
/-- the table of a body with handlers -/
theorem vx_table {p : Program} {x y : MethodName} {S : Spec} {cc bytes : ByteArray} {maxL maxL' : Nat} {ret ret' : Option FieldType} {e : Env} {s s₁ : State} {m : MethodId} {args : Array Value} {below : List Frame} {meth : Method} {c : Code} {hh : List (Nat × Nat × Nat × Nat)}
    (B : BodyLoose p l y S cc maxL ret e s m args below meth c s₁) (h : (Cond.codeWith y bytes maxL' ret' hh).before args s = true) : c.exceptionTable.toList = tableOf hh := by
  obtain ⟨m9, meth9, c9, hn9, h1, h2, -, -, h6, -⟩ := Cond.codeWith_spec h
  cases Option.some.inj (hn9.symm.trans B.named)
  cases Option.some.inj (h1.symm.trans B.method)
  cases Option.some.inj (h2.symm.trans (Stand.of_body B).code)
  rw [← h6, table_eq]
end Bodies
end VXA
/-! ===== END ===== -/
/-! ===== BEGIN a static call of a method with an exception table ===== -/
section VXS
variable {p : Program} {l : Launch} {e : Env} {R : Room} {s : State} {m : MethodId} {args : Array Value} {below : List Frame} {meth : Method} {c : Code} {T : State} {H : Heap} {locs : List Loc} {cells slots : Nat}
abbrev vx_CSW (R : Room) (s : State) (args : Array Value) (own : String) (index : Nat) (y : MethodName) (bytes : ByteArray) (maxL : Nat) (ret : Option FieldType) (hh : List (Nat × Nat × Nat × Nat)) (ws : List Cond) (rm : Room) (mc ms n : Nat) : Prop :=
  (rm.cells = mc ∧ rm.slots = ms ∧ rm.frames + 1 ≤ R.frames ∧ 8 + (maxL + 11) + rm.locals ≤ R.locals ∧ (∀ w ∈ ws, ∀ (a' : Array Value) (U : State), s.WarmedH U.vm → w.before a' U = true) ∧ Cond.codeWith y bytes maxL ret hh ∈ ws) ∧
  (Cond.codeWith y bytes maxL ret hh).before args s = true ∧ (Cond.initialized y.cls).before args s = true ∧ (y.cls ≠ "java/lang/invoke/MethodHandle" ∧ y.cls ≠ "java/lang/invoke/VarHandle") ∧
  (∀ sig, parseMethodDescriptor y.desc = some sig → n = sig.parameters.length) ∧ (Cond.methodLink own index y).before args s = true ∧ (Cond.static y).before args s = true
theorem vx_cwSW {own : String} {index maxL mc ms : Nat} {y : MethodName} {bytes : ByteArray} {ret : Option FieldType} {hh : List (Nat × Nat × Nat × Nat)} {Ts ws ws' : List Cond} {rm : Room} (n : Nat) (ht : ∀ w ∈ Ts, w.before args s = true) (hT : GoodIn Ts (va_wsS own index y ws)) (hw : ws = Cond.codeWith y bytes maxL ret hh :: ws') (hrc : rm.cells = mc) (hrs : rm.slots = ms)
    (hd : y.cls ≠ "java/lang/invoke/MethodHandle" ∧ y.cls ≠ "java/lang/invoke/VarHandle" ∧ (parseMethodDescriptor y.desc).map (fun d => d.parameters.length) = some n) (hR : rm.frames + 1 ≤ R.frames ∧ 8 + (maxL + 11) + rm.locals ≤ R.locals) :
    vx_CSW R s args own index y bytes maxL ret hh ws rm mc ms n := by
  have ok : ∀ w ∈ va_wsS own index y ws, w.before args s = true := fun w h => ht w (hT w h).1
  have hG : GoodIn Ts ws := fun w h => hT w (by unfold va_wsS; exact List.mem_append_right _ h)
  have hc : Cond.codeWith y bytes maxL ret hh ∈ ws := by rw [hw]; exact List.mem_cons_self
  refine ⟨⟨hrc, hrs, hR.1, hR.2, pay_in ht hG, hc⟩, ht _ (hG _ hc).1, ok _ (by simp [va_wsS]), ⟨hd.1, hd.2.1⟩, fun sig h => ?_, ok _ (by simp [va_wsS]), ok _ (by simp [va_wsS])⟩
  have h2 := hd.2.2
  rw [h] at h2
  exact (Option.some.inj h2).symm
theorem vx_callSW (X : Stand p l e R s m args below meth c T locs cells slots) (hexec : p.tables.exec = Jvm.exec) {own : String} {index : Nat} {y : MethodName} {bytes : ByteArray} {maxL : Nat} {ret : Option FieldType} {hh : List (Nat × Nat × Nat × Nat)}
    (hown : s.vm.findClass own = some m.cls) (hlink : (Cond.methodLink own index y).before args s = true) (hstat : (Cond.static y).before args s = true) (hinit : (Cond.initialized y.cls).before args s = true)
    (hcode : (Cond.codeWith y bytes maxL ret hh).before args s = true) (hy : y.cls ≠ "java/lang/invoke/MethodHandle" ∧ y.cls ≠ "java/lang/invoke/VarHandle")
    {W9 : Nat} {Pre : Pt → Array Value → Prop} {Post : Pt → Array Value → Option Value → Pt → Prop} (hK : Back l R p e below s args y 3 W9 Pre Post)
    {g : JFrame} (hg : g.method = m) (hsize : g.locals.size = c.maxLocals) {argsL rest : List Value} (hlen : ∀ sig, parseMethodDescriptor y.desc = some sig → argsL.length = sig.parameters.length)
    (hstack : g.stack = argsL.reverse ++ rest) (hW : 2 * g.monitorRoom + (rest.map fun v => v.category).sum ≤ W9) (hdg : decode c.code g.pc = .ok (.invokestatic index, 3))
    (hpre : ∀ vm₁, s.WarmedH vm₁ → Pre ⟨T.setVm vm₁, locs, cells, slots⟩ argsL.toArray) :
    ∃ (v : Option Value) (vm₁ : Vm) (B : Pt), s.WarmedH vm₁ ∧ Stand p l e R s m args below meth c B.U B.locs B.cells B.slots ∧ Post ⟨T.setVm vm₁, locs, cells, slots⟩ argsL.toArray v B ∧
      ∀ target, Steps p.tables e below (B.U.setTop { g with pc := g.pc + 3, stack := v.toList ++ rest }) target → Steps p.tables e below (T.setTop g) target := by
  obtain ⟨mk, methM, cM, hnamed, hmethM, -, -, -, -, -, -, hsigM⟩ := Cond.codeWith_spec hcode
  have hstatic : methM.isStatic = true := Cond.static_spec hnamed hmethM hstat
  obtain ⟨kP, hkP, -⟩ := className_of_methodNamed hnamed
  have hinitP : kP.init = .initialized := Cond.initialized_spec (findClass_of_methodNamed hnamed) hkP hinit
  obtain ⟨vm₁, X₁, hstep₁⟩ := X.invokestatic hexec hown hlink hnamed hmethM hstatic hkP hinitP hy (g := g) hg (argsL := argsL) (rest := rest) (hlen _ hsigM) hstack hdg
  obtain ⟨v, B, X', hpost, hsteps⟩ := hK m meth c ⟨T.setVm vm₁, locs, cells, slots⟩ { g with stack := rest } (.invokestatic index) mk argsL.toArray X₁ hg hsize hdg hW (X₁.named hnamed) (hpre vm₁ X₁.warmed)
  exact ⟨v, vm₁, B, X₁.warmed, X', hpost, fun target h => hstep₁ _ fun acts => by rw [doInvoke_state]; exact hsteps.trans h⟩
theorem vx_runSW {y : MethodName} {bytes cc : ByteArray} {maxL nL mc ms n index : Nat} {ret : Option FieldType} {hh : List (Nat × Nat × Nat × Nat)} {ws : List Cond} {rm : Room} {Pc : Array Value → State → Prop} {Qc : Array Value → State → Outcome → State → Prop} {free : Addr → Prop} {Ts : List Cond} {own : String} {As rest : List Value} {g : JFrame}
    (S : CallFix p m c cc nL s args Ts own) (hM : Met l y ws rm Pc Qc mc ms free) (cw : vx_CSW R s args own index y bytes maxL ret hh ws rm mc ms n) (hp : PreS s H Pc As)
    (hg : g.method = m) (hn : As.length = n) (hsize : g.locals.size = nL) (hstack : g.stack = As.reverse ++ rest) (hW : 2 * g.monitorRoom + (rest.map fun v => v.category).sum ≤ 8) (hdg : decode cc g.pc = .ok (.invokestatic index, 3)) (hf : cells + mc ≤ R.cells ∧ slots + ms ≤ R.slots) :
    va_Run p l e R s m args below meth c H locs cells slots mc ms g rest (Qc As.toArray) (free) := by
  obtain ⟨⟨hrc, hrs, hfr, hlo, hws, hcw⟩, hcode, hini, hy, hlen, hl, hstt⟩ := cw
  have hK : Back l R p e below s args y 3 8 (PreOf R mc ms Pc) (PostOf Qc mc ms free) := va_backW (hh := hh) (bytes := bytes) (maxL := maxL) (ret := ret) hM hp.1 hrc hrs hfr hlo hws hcw (fun a' U hW => word_at hW (Or.inl (by first | rfl | simp [Cond.onTables, Cond.keeps, Cond.steady])) hini)
  obtain ⟨hx, hb, hml, ho, -⟩ := S
  intro T hT X
  obtain ⟨v, vm₁, ⟨U', l2, c2, s2⟩, hW₁, X', ⟨g', mk, t, L, e1, e2, hq, h1, hL, h2, h3⟩, st⟩ := vx_callSW X hx (hh := hh) (bytes := bytes) (maxL := maxL) (ret := ret) ho hl hstt hini hcode hy hK hg (hsize.trans hml.symm) (argsL := As) (rest := rest) (fun sig h => hn.trans (hlen sig h)) hstack hW (by rw [hb]; exact hdg)
    (fun vm₁ hW₁ => ⟨hf.1, hf.2, hp.2 (T.setVm vm₁) hT hW₁⟩)
  dsimp only [Pt.U, Pt.locs, Pt.cells, Pt.slots] at X' e1 e2 h1 h2 h3 st
  subst h1; subst h2; subst h3
  exact ⟨v, (T.setVm vm₁).calling g' mk As.toArray, t, U', L, hT, X', hL, e1, e2, hq, st⟩
/-- not caught here, past rows that name other classes: it goes on to the caller -/
theorem vx_outP {p : Program} {l : Launch} {e : Env} {R : Room} {s : State} {m : MethodId} {args : Array Value} {below : List Frame} {meth : Method} {c : Code} {H : Heap} {locs : List Loc} {cells slots : Nat} {free : Addr → Prop} {ls : Array Slot} {rest : List Value} {Qc : Array Value → State → Outcome → State → Prop} {XC : String → State → State → Prop}
    {pc : Nat} {own E : String} {ce : Cell} {q : Addr} {mc ms : Nat} (hown : s.vm.findClass own = some m.cls) (hlocks : meth.locks = false)
    (hpass : ∀ z ∈ c.exceptionTable.toList, covers z pc = false ∨ (z.catchType ≠ 0 ∧ ∃ nm : String, (Cond.classLink own z.catchType nm).before args s = true ∧ va_Nc E nm s)) (hcell : H[q]? = some ce) (hv : ce.vm = .none) (hcl : s.vm.findClass E = some ce.cls)
    (hx : ∀ t : State, t.heap = H → s.vm.Alike t.vm → XC E s t) (hf : ∀ z ∈ locs, free z.base) (hc : cells ≤ mc) (hs : slots ≤ ms) :
    vx_W p l e R s m args below meth c H locs cells slots (vx_MQ below Qc XC args s mc ms free) (F0 m pc ls rest) q := by
  intro T hT X
  have hpl : e.platform.magicAccessors = ({} : Platform).magicAccessors := by rw [X.admits.platform]
  obtain ⟨vm', hW', X', st⟩ := X.outThrough hlocks q (g := F0 m pc ls rest) rfl rfl rfl (cell := ce) (by rw [hT]; exact hcell) (by rw [hv]; rfl)
    (by obtain ⟨k9, h9, -⟩ := Vm.findClass_spec hcl; exact ⟨k9, h9⟩) (fun z hz => by
      rcases hpass z hz with h | ⟨hz0, nm, hl1, hn1⟩
      · exact Or.inl h
      · obtain ⟨c6, hc6, hcl6⟩ := Cond.classLink_spec hown hl1 e.platform hpl
        obtain ⟨a8, b8, h1, h2, h3⟩ := hn1
        cases Option.some.inj (h1.symm.trans hcl)
        cases Option.some.inj (h2.symm.trans hc6)
        exact Or.inr ⟨hz0, _, hcl6, h3⟩)
  obtain ⟨g₀, hfr⟩ := X'.frames_eq
  have hcell9 : ((T.setVm vm').setFrames (.throwing q :: below)).heap[q]? = some ce := by
    show T.heap[q]? = some ce
    rw [hT]; exact hcell
  have hend : Ended ((T.setVm vm').setFrames (.throwing q :: below)) below (.threw q) := State.frames_setFrames _ (State.cur_lt_of_frames hfr)
  refine ⟨(T.setVm vm').setFrames (.throwing q :: below), ?_, .threw q, X'.here.running, hend, Or.inr ⟨q, rfl, E, ce, locs, hx _ hT (X'.ends _).1.alike, hcell9, hv, hcl, (X'.ends _).1, (X'.ends _).2.mono hc hs, hf⟩⟩
  rw [X.pushThrowing_eq]
  exact st
/-- a thing of a world lies in the heap -/
theorem vx_lt {D : va_G} {cl : List vw_C} {ws : va_W} {H1 : Heap} (h : va_P D cl ws H1) {k : Nat} {q : Nat × va_E} (hk : ws[k]? = some q) : q.1 < H1.size := (h k q hk).lt
end VXS
/-! ===== END ===== -/
/-! ===== BEGIN methods with a table of their own: called by a name, returning or throwing ===== -/
section VXH
/-! vx_backW, vx_callVX, vx_callSX, vx_callVW, vx_runVW, vx_runVX, vx_runSX, vx_ofWH follow the same proofs as their sisters above (Free/Laws.lean, Shelf42/LK1.lean); vx_outP calls Shelf42/NT130.lean (outThrough). -/
section
variable {l : Launch} {R : Room} {p : Program} {e : Env} {below : List Frame} {s : State} {sargs : Array Value} {y : MethodName} {len W9 : Nat}
theorem vx_backW {ws : List Cond} {rm : Room} {Pc : Array Value → State → Prop} {Qc : Array Value → State → Outcome → State → Prop} {XC : String → State → State → Prop} {mc ms : Nat} {free : Addr → Prop} {bytes : ByteArray} {maxL : Nat} {ret : Option FieldType} {hh : List (Nat × Nat × Nat × Nat)}
    (hM : vx_Met l y ws rm Pc Qc XC mc ms free) (hblind : FrameBlind Pc) (hrc : rm.cells = mc) (hrs : rm.slots = ms)
    (hframes : rm.frames + 1 ≤ R.frames) (hlocals : W9 + (maxL + 11) + rm.locals ≤ R.locals)
    (hws : ∀ w ∈ ws, ∀ a' U, s.WarmedH U.vm → w.before a' U = true) (hcode : Cond.codeWith y bytes maxL ret hh ∈ ws) (hinit : ∀ a' U, s.WarmedH U.vm → (Cond.initialized y.cls).before a' U = true) :
    vx_Back l R p e below s sargs y len W9 (PreOf R mc ms Pc) (PostOf Qc mc ms free) (vx_Post XC mc ms free) := by
  intro m meth c A g ig mk a X hg hsize hdg hW hn hp
  have h1 : (headSpec ws rm).pre.before a A.U = true := atoms_intro fun w hw => hws w hw _ _ X.warmed
  have h2 : (Cond.codeWith y bytes maxL ret hh).before a A.U = true := hws _ hcode _ _ X.warmed
  have h3 : (Cond.initialized y.cls).before a A.U = true := hinit _ _ X.warmed
  have h4 : A.cells + (headSpec ws rm).room.cells ≤ R.cells := by rw [show (headSpec ws rm).room.cells = mc from hrc]; exact hp.1
  have h5 : A.slots + (headSpec ws rm).room.slots ≤ R.slots := by rw [show (headSpec ws rm).room.slots = ms from hrs]; exact hp.2.1
  have hPc : Pc a (A.U.calling g mk a) := hblind _ _ _ _ hp.2.2
  obtain ⟨U, Ls, c0, s0⟩ := A
  dsimp only [Pt.U, Pt.locs, Pt.cells, Pt.slots] at h1 h2 h3 h4 h5 X hn hPc ⊢
  obtain ⟨m9, methY, cY, hn9, hmY, hcY, -, hlY, -⟩ := Cond.codeWith_spec h2
  cases Option.some.inj (hn9.symm.trans hn)
  obtain ⟨kY, hkY, -⟩ := className_of_methodNamed hn
  have hinitY : kY.init = .initialized := Cond.initialized_spec (findClass_of_methodNamed hn) hkY h3
  have h : At U g.method c below := by rw [hg]; exact X.here
  have hlocals9 : W9 + (maxL + 11) + (headSpec ws rm).room.locals ≤ R.locals := hlocals
  have happ : (headSpec ws rm).appliesLoose y e.platform (U.calling g mk a) = true :=
    Spec.appliesLoose_calling (g := g) h hdg hn hkY hinitY
      (X.room_calling (g := g) (R' := (headSpec ws rm).room) hsize hmY hcY hframes (by rw [hlY]; omega) h4 h5) h1
  obtain ⟨mid, hmid⟩ := h.above
  have hfr : (U.setTop g).frames = (.java g :: mid) ++ below := by rw [State.frames_setTop' g h.top, hmid]; rfl
  obtain ⟨o, s₂, hsteps, -, hend, hq⟩ := Steps.callFree hM p X.admits X.cas X.clock (acts := []) hfr happ hPc trivial
  have hq' : vx_Q Qc XC mc ms free a (U.calling g mk a) o s₂ := hq
  rw [State.frames_setTop' g h.top] at hend
  obtain ⟨g₀, hg0⟩ := Option.isSome_iff_exists.mp h.top
  obtain ⟨r, hr⟩ := State.topJava?_eq_some.mp hg0
  have hr' : (({ U with heap := s₂.heap, slotsUsed := s₂.slotsUsed } : State).setVm s₂.vm).frames = .java g₀ :: r := hr
  rcases hq' with ⟨hqc, L, hfe, hL⟩ | ⟨q, rfl, E, ce, L, hx, hce, hcv, hcl, hW₂, hsm, hL⟩
  · obtain ⟨⟨v, rfl⟩, hW₂, e2, q2, q3, q4, q5, q6⟩ := id hfe
    have e3 : s₂ = ({ (U.calling g mk a).setFrames s₂.frames with heap := s₂.heap, slotsUsed := s₂.slotsUsed } : State).setVm s₂.vm := by
      have : s₂ = ({ s₂ with vm := (U.calling g mk a).vm } : State).setVm s₂.vm := rfl
      rw [e2] at this
      exact this
    obtain ⟨c₂, i₂, len₂, hc₂, hd₂, hf₂⟩ := hend
    have hW' : U.WarmedH s₂.vm := hW₂
    have hcc : c₂ = c := by
      have h1 : s₂.code? g.method = U.code? g.method := by
        rw [State.code?_eq, State.code?_eq, hW'.alike.method?]
      exact Option.some.inj (hc₂.symm.trans (h1.trans h.code))
    subst hcc
    have hlen : len₂ = len := by rw [hdg] at hd₂; cases hd₂; rfl
    subst hlen
    have hs₂ : s₂ = (({ U with heap := s₂.heap, slotsUsed := s₂.slotsUsed } : State).setVm s₂.vm).setTop { g with pc := g.pc + len₂, stack := v.toList ++ g.stack } := by
      refine e3.trans ?_
      rw [hf₂, State.calling_eq h.top, State.setFrames_setFrames, State.setTop_of_frames _ hr', hr]
      rfl
    have hsame : U.sameButNew ({ U with heap := s₂.heap, slotsUsed := s₂.slotsUsed } : State) L mc ms := by
      refine ⟨?_, q2, q3, q4, q5, q6⟩
      obtain ⟨t, ht, -⟩ := State.frames_cons hr
      show ({ U with heap := s₂.heap, slotsUsed := s₂.slotsUsed } : State) = { U.setFrames U.frames with heap := s₂.heap, slotsUsed := s₂.slotsUsed }
      rw [State.setFrames_self ht]
    subst hg
    refine Or.inl ⟨v, ⟨(({ U with heap := s₂.heap, slotsUsed := s₂.slotsUsed } : State).setVm s₂.vm), Ls ++ L, c0 + mc, s0 + ms⟩,
      ⟨X.admits, X.cas, X.clock, X.frames, X.room, X.hears, X.method, X.code, (X.here.setHeapUsed s₂.heap s₂.slotsUsed).setVm hW'.alike, X.tail, State.WarmedH.trans X.warmed hW', X.limits, X.bytes, X.same.trans (hsame.setVm s.vm)⟩,
      ⟨g, mk, s₂, L, rfl, rfl, hqc, rfl, hL, rfl, rfl⟩, ?_⟩
    show Steps p.tables e below _ ((({ U with heap := s₂.heap, slotsUsed := s₂.slotsUsed } : State).setVm s₂.vm).setTop { g with pc := g.pc + len₂, stack := v.toList ++ g.stack })
    rw [← hs₂]
    exact hsteps
  · obtain ⟨e2, q2, q3, q4, q5, q6⟩ := id hsm
    have e3 : s₂ = ({ (U.calling g mk a).setFrames s₂.frames with heap := s₂.heap, slotsUsed := s₂.slotsUsed } : State).setVm s₂.vm := by
      have : s₂ = ({ s₂ with vm := (U.calling g mk a).vm } : State).setVm s₂.vm := rfl
      rw [e2] at this
      exact this
    have hf₂ : s₂.frames = .throwing q :: .java g :: U.frames.tail := hend
    have hW' : U.WarmedH s₂.vm := hW₂
    have hs₂ : s₂ = ((({ U with heap := s₂.heap, slotsUsed := s₂.slotsUsed } : State).setVm s₂.vm).setTop g).pushFrame (.throwing q) := by
      refine e3.trans ?_
      rw [hf₂, State.calling_eq h.top, State.setFrames_setFrames, State.pushFrame, State.frames_setTop _ hr', State.setTop_of_frames _ hr', State.setFrames_setFrames, hr]
      rfl
    have hsame : U.sameButNew ({ U with heap := s₂.heap, slotsUsed := s₂.slotsUsed } : State) L mc ms := by
      refine ⟨?_, q2, q3, q4, q5, q6⟩
      obtain ⟨t, ht, -⟩ := State.frames_cons hr
      show ({ U with heap := s₂.heap, slotsUsed := s₂.slotsUsed } : State) = { U.setFrames U.frames with heap := s₂.heap, slotsUsed := s₂.slotsUsed }
      rw [State.setFrames_self ht]
    subst hg
    refine Or.inr ⟨q, ⟨(({ U with heap := s₂.heap, slotsUsed := s₂.slotsUsed } : State).setVm s₂.vm), Ls ++ L, c0 + mc, s0 + ms⟩,
      ⟨X.admits, X.cas, X.clock, X.frames, X.room, X.hears, X.method, X.code, (X.here.setHeapUsed s₂.heap s₂.slotsUsed).setVm hW'.alike, X.tail, State.WarmedH.trans X.warmed hW', X.limits, X.bytes, X.same.trans (hsame.setVm s.vm)⟩,
      ⟨g, mk, s₂, L, E, ce, rfl, rfl, hx, hce, hcv, hcl, rfl, hL, rfl, rfl⟩, ?_⟩
    show Steps p.tables e below _ (((({ U with heap := s₂.heap, slotsUsed := s₂.slotsUsed } : State).setVm s₂.vm).setTop g).pushFrame (.throwing q))
    rw [← hs₂]
    exact hsteps
end
variable {p : Program} {l : Launch} {e : Env} {R : Room} {s : State} {m : MethodId} {args : Array Value} {below : List Frame} {meth : Method} {c : Code} {T : State} {H : Heap} {locs : List Loc} {cells slots : Nat}
theorem vx_callVX (X : Stand p l e R s m args below meth c T locs cells slots) (hexec : p.tables.exec = Jvm.exec) {own C : String} {index : Nat} {y : MethodName} {bytes : ByteArray} {maxL : Nat} {ret : Option FieldType} {hh : List (Nat × Nat × Nat × Nat)}
    (hown : s.vm.findClass own = some m.cls) (hlink : (Cond.methodLink own index y).before args s = true) (hinst : (Cond.instanceMethod y).before args s = true) (hsel : (Cond.selects C y y).before args s = true)
    (hcode : (Cond.codeWith y bytes maxL ret hh).before args s = true) (hy : y.cls ≠ "java/lang/invoke/MethodHandle" ∧ y.cls ≠ "java/lang/invoke/VarHandle")
    {W9 : Nat} {Pre : Pt → Array Value → Prop} {Post : Pt → Array Value → Option Value → Pt → Prop} {PostX : Pt → Array Value → Addr → Pt → Prop} (hK : vx_Back l R p e below s args y 3 W9 Pre Post PostX)
    {b : Addr} {cellB : Cell} (hcell : T.heap[b]? = some cellB) (hobj : cellB.vm.isStatics = false) (hcls : s.vm.findClass C = some cellB.cls)
    {g : JFrame} (hg : g.method = m) (hsize : g.locals.size = c.maxLocals) {argsL rest : List Value} (hlen : ∀ sig, parseMethodDescriptor y.desc = some sig → argsL.length = sig.parameters.length)
    (hstack : g.stack = argsL.reverse ++ .ref b :: rest) (hW : 2 * g.monitorRoom + (rest.map fun v => v.category).sum ≤ W9) (hdg : decode c.code g.pc = .ok (.invokevirtual index, 3))
    (hpre : ∀ vm₁, s.WarmedH vm₁ → Pre ⟨T.setVm vm₁, locs, cells, slots⟩ (Value.ref b :: argsL).toArray) :
    (∃ (v : Option Value) (vm₁ : Vm) (B : Pt), s.WarmedH vm₁ ∧ Stand p l e R s m args below meth c B.U B.locs B.cells B.slots ∧ Post ⟨T.setVm vm₁, locs, cells, slots⟩ (Value.ref b :: argsL).toArray v B ∧
      ∀ target, Steps p.tables e below (B.U.setTop { g with pc := g.pc + 3, stack := v.toList ++ rest }) target → Steps p.tables e below (T.setTop g) target) ∨
    (∃ (q : Addr) (vm₁ : Vm) (B : Pt), s.WarmedH vm₁ ∧ Stand p l e R s m args below meth c B.U B.locs B.cells B.slots ∧ PostX ⟨T.setVm vm₁, locs, cells, slots⟩ (Value.ref b :: argsL).toArray q B ∧
      Steps p.tables e below (T.setTop g) ((B.U.setTop { g with stack := rest }).pushFrame (.throwing q))) := by
  obtain ⟨mk, methM, hnamed, hmethM, hstM, habM⟩ := Cond.instanceMethod_spec hinst
  obtain ⟨m8, methM', cM, hn8, hmethM', -, -, -, -, -, -, hsigM⟩ := Cond.codeWith_spec hcode
  cases Option.some.inj (hn8.symm.trans hnamed)
  cases hmethM.symm.trans hmethM'
  obtain ⟨c2, r2, m2, q1, q2, q3, q4, kP, hkP, hkPi⟩ := Cond.selects_spec hsel
  cases hcls.symm.trans q1
  cases (State.methodFound?_of_named hnamed hy).symm.trans q2
  cases hnamed.symm.trans q3
  have hselP : selectMethod e.platform s.vm cellB.cls mk = .method mk := by rw [Launch.admits_selectMethod X.admits]; exact q4
  obtain ⟨vm₁, X₁, hstep₁⟩ := X.invokevirtual hexec hown hlink hnamed hmethM hstM hkP hkPi hy (a := b) (cell := cellB) hcell
    (fun z h => by rw [h] at hobj; cases hobj) hselP hmethM habM hkP hkPi (g := g) hg (argsL := argsL) (rest := rest) (hlen _ hsigM) hstack hdg
  rcases hK m meth c ⟨T.setVm vm₁, locs, cells, slots⟩ { g with stack := rest } (.invokevirtual index) mk (Value.ref b :: argsL).toArray X₁ hg hsize hdg hW (X₁.named hnamed) (hpre vm₁ X₁.warmed) with ⟨v, B, X', hpost, hsteps⟩ | ⟨q, B, X', hpost, hsteps⟩
  · exact Or.inl ⟨v, vm₁, B, X₁.warmed, X', hpost, fun target h => hstep₁ _ fun acts => by rw [doInvoke_state]; exact hsteps.trans h⟩
  · exact Or.inr ⟨q, vm₁, B, X₁.warmed, X', hpost, hstep₁ _ fun acts => by rw [doInvoke_state]; exact hsteps⟩
theorem vx_callSX (X : Stand p l e R s m args below meth c T locs cells slots) (hexec : p.tables.exec = Jvm.exec) {own : String} {index : Nat} {y : MethodName} {bytes : ByteArray} {maxL : Nat} {ret : Option FieldType} {hh : List (Nat × Nat × Nat × Nat)}
    (hown : s.vm.findClass own = some m.cls) (hlink : (Cond.methodLink own index y).before args s = true) (hstat : (Cond.static y).before args s = true) (hinit : (Cond.initialized y.cls).before args s = true)
    (hcode : (Cond.codeWith y bytes maxL ret hh).before args s = true) (hy : y.cls ≠ "java/lang/invoke/MethodHandle" ∧ y.cls ≠ "java/lang/invoke/VarHandle")
    {W9 : Nat} {Pre : Pt → Array Value → Prop} {Post : Pt → Array Value → Option Value → Pt → Prop} {PostX : Pt → Array Value → Addr → Pt → Prop} (hK : vx_Back l R p e below s args y 3 W9 Pre Post PostX)
    {g : JFrame} (hg : g.method = m) (hsize : g.locals.size = c.maxLocals) {argsL rest : List Value} (hlen : ∀ sig, parseMethodDescriptor y.desc = some sig → argsL.length = sig.parameters.length)
    (hstack : g.stack = argsL.reverse ++ rest) (hW : 2 * g.monitorRoom + (rest.map fun v => v.category).sum ≤ W9) (hdg : decode c.code g.pc = .ok (.invokestatic index, 3))
    (hpre : ∀ vm₁, s.WarmedH vm₁ → Pre ⟨T.setVm vm₁, locs, cells, slots⟩ argsL.toArray) :
    (∃ (v : Option Value) (vm₁ : Vm) (B : Pt), s.WarmedH vm₁ ∧ Stand p l e R s m args below meth c B.U B.locs B.cells B.slots ∧ Post ⟨T.setVm vm₁, locs, cells, slots⟩ argsL.toArray v B ∧
      ∀ target, Steps p.tables e below (B.U.setTop { g with pc := g.pc + 3, stack := v.toList ++ rest }) target → Steps p.tables e below (T.setTop g) target) ∨
    (∃ (q : Addr) (vm₁ : Vm) (B : Pt), s.WarmedH vm₁ ∧ Stand p l e R s m args below meth c B.U B.locs B.cells B.slots ∧ PostX ⟨T.setVm vm₁, locs, cells, slots⟩ argsL.toArray q B ∧
      Steps p.tables e below (T.setTop g) ((B.U.setTop { g with stack := rest }).pushFrame (.throwing q))) := by
  obtain ⟨mk, methM, cM, hnamed, hmethM, -, -, -, -, -, -, hsigM⟩ := Cond.codeWith_spec hcode
  have hstatic : methM.isStatic = true := Cond.static_spec hnamed hmethM hstat
  obtain ⟨kP, hkP, -⟩ := className_of_methodNamed hnamed
  have hinitP : kP.init = .initialized := Cond.initialized_spec (findClass_of_methodNamed hnamed) hkP hinit
  obtain ⟨vm₁, X₁, hstep₁⟩ := X.invokestatic hexec hown hlink hnamed hmethM hstatic hkP hinitP hy (g := g) hg (argsL := argsL) (rest := rest) (hlen _ hsigM) hstack hdg
  rcases hK m meth c ⟨T.setVm vm₁, locs, cells, slots⟩ { g with stack := rest } (.invokestatic index) mk argsL.toArray X₁ hg hsize hdg hW (X₁.named hnamed) (hpre vm₁ X₁.warmed) with ⟨v, B, X', hpost, hsteps⟩ | ⟨q, B, X', hpost, hsteps⟩
  · exact Or.inl ⟨v, vm₁, B, X₁.warmed, X', hpost, fun target h => hstep₁ _ fun acts => by rw [doInvoke_state]; exact hsteps.trans h⟩
  · exact Or.inr ⟨q, vm₁, B, X₁.warmed, X', hpost, hstep₁ _ fun acts => by rw [doInvoke_state]; exact hsteps⟩
theorem vx_callVW (X : Stand p l e R s m args below meth c T locs cells slots) (hexec : p.tables.exec = Jvm.exec) {own C : String} {index : Nat} {y : MethodName} {bytes : ByteArray} {maxL : Nat} {ret : Option FieldType} {hh : List (Nat × Nat × Nat × Nat)}
    (hown : s.vm.findClass own = some m.cls) (hlink : (Cond.methodLink own index y).before args s = true) (hinst : (Cond.instanceMethod y).before args s = true) (hsel : (Cond.selects C y y).before args s = true)
    (hcode : (Cond.codeWith y bytes maxL ret hh).before args s = true) (hy : y.cls ≠ "java/lang/invoke/MethodHandle" ∧ y.cls ≠ "java/lang/invoke/VarHandle")
    {W9 : Nat} {Pre : Pt → Array Value → Prop} {Post : Pt → Array Value → Option Value → Pt → Prop} (hK : Back l R p e below s args y 3 W9 Pre Post)
    {b : Addr} {cellB : Cell} (hcell : T.heap[b]? = some cellB) (hobj : cellB.vm.isStatics = false) (hcls : s.vm.findClass C = some cellB.cls)
    {g : JFrame} (hg : g.method = m) (hsize : g.locals.size = c.maxLocals) {argsL rest : List Value} (hlen : ∀ sig, parseMethodDescriptor y.desc = some sig → argsL.length = sig.parameters.length)
    (hstack : g.stack = argsL.reverse ++ .ref b :: rest) (hW : 2 * g.monitorRoom + (rest.map fun v => v.category).sum ≤ W9) (hdg : decode c.code g.pc = .ok (.invokevirtual index, 3))
    (hpre : ∀ vm₁, s.WarmedH vm₁ → Pre ⟨T.setVm vm₁, locs, cells, slots⟩ (Value.ref b :: argsL).toArray) :
    ∃ (v : Option Value) (vm₁ : Vm) (B : Pt), s.WarmedH vm₁ ∧ Stand p l e R s m args below meth c B.U B.locs B.cells B.slots ∧ Post ⟨T.setVm vm₁, locs, cells, slots⟩ (Value.ref b :: argsL).toArray v B ∧
      ∀ target, Steps p.tables e below (B.U.setTop { g with pc := g.pc + 3, stack := v.toList ++ rest }) target → Steps p.tables e below (T.setTop g) target := by
  obtain ⟨mk, methM, hnamed, hmethM, hstM, habM⟩ := Cond.instanceMethod_spec hinst
  obtain ⟨m8, methM', cM, hn8, hmethM', -, -, -, -, -, -, hsigM⟩ := Cond.codeWith_spec hcode
  cases Option.some.inj (hn8.symm.trans hnamed)
  cases hmethM.symm.trans hmethM'
  obtain ⟨c2, r2, m2, q1, q2, q3, q4, kP, hkP, hkPi⟩ := Cond.selects_spec hsel
  cases hcls.symm.trans q1
  cases (State.methodFound?_of_named hnamed hy).symm.trans q2
  cases hnamed.symm.trans q3
  have hselP : selectMethod e.platform s.vm cellB.cls mk = .method mk := by rw [Launch.admits_selectMethod X.admits]; exact q4
  obtain ⟨vm₁, X₁, hstep₁⟩ := X.invokevirtual hexec hown hlink hnamed hmethM hstM hkP hkPi hy (a := b) (cell := cellB) hcell
    (fun z h => by rw [h] at hobj; cases hobj) hselP hmethM habM hkP hkPi (g := g) hg (argsL := argsL) (rest := rest) (hlen _ hsigM) hstack hdg
  obtain ⟨v, B, X', hpost, hsteps⟩ := hK m meth c ⟨T.setVm vm₁, locs, cells, slots⟩ { g with stack := rest } (.invokevirtual index) mk (Value.ref b :: argsL).toArray X₁ hg hsize hdg hW (X₁.named hnamed) (hpre vm₁ X₁.warmed)
  exact ⟨v, vm₁, B, X₁.warmed, X', hpost, fun target h => hstep₁ _ fun acts => by rw [doInvoke_state]; exact hsteps.trans h⟩
abbrev vx_CVW (R : Room) (s : State) (args : Array Value) (own C : String) (index : Nat) (y : MethodName) (bytes : ByteArray) (maxL : Nat) (ret : Option FieldType) (hh : List (Nat × Nat × Nat × Nat)) (ws : List Cond) (rm : Room) (mc ms n : Nat) : Prop :=
  (rm.cells = mc ∧ rm.slots = ms ∧ rm.frames + 1 ≤ R.frames ∧ 8 + (maxL + 11) + rm.locals ≤ R.locals ∧ (∀ w ∈ ws, ∀ (a' : Array Value) (U : State), s.WarmedH U.vm → w.before a' U = true) ∧ Cond.codeWith y bytes maxL ret hh ∈ ws) ∧
  (Cond.codeWith y bytes maxL ret hh).before args s = true ∧ (Cond.initialized y.cls).before args s = true ∧ (y.cls ≠ "java/lang/invoke/MethodHandle" ∧ y.cls ≠ "java/lang/invoke/VarHandle") ∧
  (∀ sig, parseMethodDescriptor y.desc = some sig → n = sig.parameters.length) ∧ (Cond.methodLink own index y).before args s = true ∧ (Cond.instanceMethod y).before args s = true ∧ (Cond.selects C y y).before args s = true
theorem vx_cwVW {own C : String} {index maxL mc ms : Nat} {y : MethodName} {bytes : ByteArray} {ret : Option FieldType} {hh : List (Nat × Nat × Nat × Nat)} {Ts ws ws' : List Cond} {rm : Room} (n : Nat) (ht : ∀ w ∈ Ts, w.before args s = true) (hT : GoodIn Ts (wsV own index C y ws)) (hw : ws = Cond.codeWith y bytes maxL ret hh :: ws') (hrc : rm.cells = mc) (hrs : rm.slots = ms)
    (hd : y.cls = C ∧ y.cls ≠ "java/lang/invoke/MethodHandle" ∧ y.cls ≠ "java/lang/invoke/VarHandle" ∧ (parseMethodDescriptor y.desc).map (fun d => d.parameters.length) = some n) (hR : rm.frames + 1 ≤ R.frames ∧ 8 + (maxL + 11) + rm.locals ≤ R.locals) :
    vx_CVW R s args own C index y bytes maxL ret hh ws rm mc ms n := by
  obtain ⟨hC, hd⟩ := hd
  subst hC
  have ok : ∀ w ∈ wsV own index y.cls y ws, w.before args s = true := fun w h => ht w (hT w h).1
  have hG : GoodIn Ts ws := fun w h => hT w (by unfold wsV; exact List.mem_append_right _ h)
  have hc : Cond.codeWith y bytes maxL ret hh ∈ ws := by rw [hw]; exact List.mem_cons_self
  refine ⟨⟨hrc, hrs, hR.1, hR.2, pay_in ht hG, hc⟩, ht _ (hG _ hc).1, ok _ (by simp [wsV]), ⟨hd.1, hd.2.1⟩, fun sig h => ?_, ok _ (by simp [wsV]), ok _ (by simp [wsV]), ok _ (by simp [wsV])⟩
  have h2 := hd.2.2
  rw [h] at h2
  exact (Option.some.inj h2).symm
theorem vx_runVW {y : MethodName} {bytes cc : ByteArray} {maxL nL mc ms n index : Nat} {ret : Option FieldType} {hh : List (Nat × Nat × Nat × Nat)} {ws : List Cond} {rm : Room} {Pc : Array Value → State → Prop} {Qc : Array Value → State → Outcome → State → Prop} {free : Addr → Prop} {Ts : List Cond} {own C : String} {b : Addr} {As rest : List Value} {g : JFrame}
    (S : CallFix p m c cc nL s args Ts own) (hM : Met l y ws rm Pc Qc mc ms free) (cw : vx_CVW R s args own C index y bytes maxL ret hh ws rm mc ms n) (hp : PreV s H C b Pc As)
    (hg : g.method = m) (hn : As.length = n) (hsize : g.locals.size = nL) (hstack : g.stack = As.reverse ++ .ref b :: rest) (hW : 2 * g.monitorRoom + (rest.map fun v => v.category).sum ≤ 8) (hdg : decode cc g.pc = .ok (.invokevirtual index, 3)) (hf : cells + mc ≤ R.cells ∧ slots + ms ≤ R.slots) :
    va_Run p l e R s m args below meth c H locs cells slots mc ms g rest (Qc (Value.ref b :: As).toArray) free := by
  obtain ⟨⟨hrc, hrs, hfr, hlo, hws, hcw⟩, hcode, hini, hy, hlen, hl, hin, hse⟩ := cw
  have hK : Back l R p e below s args y 3 8 (PreOf R mc ms Pc) (PostOf Qc mc ms free) := va_backW (hh := hh) (bytes := bytes) (maxL := maxL) (ret := ret) hM hp.1 hrc hrs hfr hlo hws hcw (fun a' U hW => word_at hW (Or.inl (by first | rfl | simp [Cond.onTables, Cond.keeps, Cond.steady])) hini)
  obtain ⟨hx, hb, hml, ho, -⟩ := S
  obtain ⟨-, ⟨cellB, hcB, hoB, hclB⟩, hPc⟩ := hp
  intro T hT X
  obtain ⟨v, vm₁, ⟨U', l2, c2, s2⟩, hW₁, X', ⟨g', mk, t, L, e1, e2, hq, h1, hL, h2, h3⟩, st⟩ := vx_callVW X hx (C := C) (hh := hh) (bytes := bytes) (maxL := maxL) (ret := ret) ho hl hin hse hcode hy hK (by rw [hT]; exact hcB) hoB hclB hg (hsize.trans hml.symm) (argsL := As) (rest := rest) (fun sig h => hn.trans (hlen sig h)) hstack hW (by rw [hb]; exact hdg)
    (fun vm₁ hW₁ => ⟨hf.1, hf.2, hPc (T.setVm vm₁) hT hW₁⟩)
  dsimp only [Pt.U, Pt.locs, Pt.cells, Pt.slots] at X' e1 e2 h1 h2 h3 st
  subst h1; subst h2; subst h3
  exact ⟨v, (T.setVm vm₁).calling g' mk (Value.ref b :: As).toArray, t, U', L, hT, X', hL, e1, e2, hq, st⟩
section
variable {y : MethodName} {bytes cc : ByteArray} {maxL nL mc ms n index : Nat} {ret : Option FieldType} {ws : List Cond} {rm : Room} {Pc : Array Value → State → Prop} {Qc : Array Value → State → Outcome → State → Prop} {XC : String → State → State → Prop} {free : Addr → Prop} {Ts : List Cond} {own C : String} {b : Addr} {As rest : List Value} {g : JFrame}
theorem vx_runVX {hh : List (Nat × Nat × Nat × Nat)} (S : CallFix p m c cc nL s args Ts own) (hM : vx_Met l y ws rm Pc Qc XC mc ms free) (cw : vx_CVW R s args own C index y bytes maxL ret hh ws rm mc ms n) (hp : PreV s H C b Pc As)
    (hg : g.method = m) (hn : As.length = n) (hsize : g.locals.size = nL) (hstack : g.stack = As.reverse ++ .ref b :: rest) (hW : 2 * g.monitorRoom + (rest.map fun v => v.category).sum ≤ 8) (hdg : decode cc g.pc = .ok (.invokevirtual index, 3)) (hf : cells + mc ≤ R.cells ∧ slots + ms ≤ R.slots) :
    vx_Run p l e R s m args below meth c H locs cells slots mc ms g rest (Qc (Value.ref b :: As).toArray) XC free := by
  obtain ⟨⟨hrc, hrs, hfr, hlo, hws, hcw⟩, hcode, hini, hy, hlen, hl, hin, hse⟩ := cw
  have hK : vx_Back l R p e below s args y 3 8 (PreOf R mc ms Pc) (PostOf Qc mc ms free) (vx_Post XC mc ms free) := vx_backW (hh := hh) (bytes := bytes) (maxL := maxL) (ret := ret) hM hp.1 hrc hrs hfr hlo hws hcw (fun a' U hW => word_at hW (Or.inl (by first | rfl | simp [Cond.onTables, Cond.keeps, Cond.steady])) hini)
  obtain ⟨hx, hb, hml, ho, -⟩ := S
  obtain ⟨-, ⟨cellB, hcB, hoB, hclB⟩, hPc⟩ := hp
  intro T hT X
  rcases vx_callVX X hx (C := C) (hh := hh) (bytes := bytes) (maxL := maxL) (ret := ret) ho hl hin hse hcode hy hK (by rw [hT]; exact hcB) hoB hclB hg (hsize.trans hml.symm) (argsL := As) (rest := rest) (fun sig h => hn.trans (hlen sig h)) hstack hW (by rw [hb]; exact hdg)
    (fun vm₁ hW₁ => ⟨hf.1, hf.2, hPc (T.setVm vm₁) hT hW₁⟩) with ⟨v, vm₁, ⟨U', l2, c2, s2⟩, hW₁, X', ⟨g', mk, t, L, e1, e2, hq, h1, hL, h2, h3⟩, st⟩ | ⟨q, vm₁, ⟨U', l2, c2, s2⟩, hW₁, X', ⟨g', mk, t, L, E, ce, e1, e2, hq, hce, hcv, hcl, h1, hL, h2, h3⟩, st⟩
  · dsimp only [Pt.U, Pt.locs, Pt.cells, Pt.slots] at X' e1 e2 h1 h2 h3 st
    subst h1; subst h2; subst h3
    exact Or.inl ⟨v, (T.setVm vm₁).calling g' mk (Value.ref b :: As).toArray, t, U', L, hT, X', hL, e1, e2, hq, st⟩
  · dsimp only [Pt.U, Pt.locs, Pt.cells, Pt.slots] at X' e1 e2 h1 h2 h3 st hcl
    subst h1; subst h2; subst h3
    exact Or.inr ⟨q, (T.setVm vm₁).calling g' mk (Value.ref b :: As).toArray, t, U', L, E, ce, hT, X', hL, e1, e2, hq, hce, hcv, vx_cls hW₁ hcl, st⟩
theorem vx_runSX {hh : List (Nat × Nat × Nat × Nat)} (S : CallFix p m c cc nL s args Ts own) (hM : vx_Met l y ws rm Pc Qc XC mc ms free) (cw : vx_CSW R s args own index y bytes maxL ret hh ws rm mc ms n) (hp : PreS s H Pc As)
    (hg : g.method = m) (hn : As.length = n) (hsize : g.locals.size = nL) (hstack : g.stack = As.reverse ++ rest) (hW : 2 * g.monitorRoom + (rest.map fun v => v.category).sum ≤ 8) (hdg : decode cc g.pc = .ok (.invokestatic index, 3)) (hf : cells + mc ≤ R.cells ∧ slots + ms ≤ R.slots) :
    vx_Run p l e R s m args below meth c H locs cells slots mc ms g rest (Qc As.toArray) XC free := by
  obtain ⟨⟨hrc, hrs, hfr, hlo, hws, hcw⟩, hcode, hini, hy, hlen, hl, hstt⟩ := cw
  have hK : vx_Back l R p e below s args y 3 8 (PreOf R mc ms Pc) (PostOf Qc mc ms free) (vx_Post XC mc ms free) := vx_backW (hh := hh) (bytes := bytes) (maxL := maxL) (ret := ret) hM hp.1 hrc hrs hfr hlo hws hcw (fun a' U hW => word_at hW (Or.inl (by first | rfl | simp [Cond.onTables, Cond.keeps, Cond.steady])) hini)
  obtain ⟨hx, hb, hml, ho, -⟩ := S
  intro T hT X
  rcases vx_callSX X hx (hh := hh) (bytes := bytes) (maxL := maxL) (ret := ret) ho hl hstt hini hcode hy hK hg (hsize.trans hml.symm) (argsL := As) (rest := rest) (fun sig h => hn.trans (hlen sig h)) hstack hW (by rw [hb]; exact hdg)
    (fun vm₁ hW₁ => ⟨hf.1, hf.2, hp.2 (T.setVm vm₁) hT hW₁⟩) with ⟨v, vm₁, ⟨U', l2, c2, s2⟩, hW₁, X', ⟨g', mk, t, L, e1, e2, hq, h1, hL, h2, h3⟩, st⟩ | ⟨q, vm₁, ⟨U', l2, c2, s2⟩, hW₁, X', ⟨g', mk, t, L, E, ce, e1, e2, hq, hce, hcv, hcl, h1, hL, h2, h3⟩, st⟩
  · dsimp only [Pt.U, Pt.locs, Pt.cells, Pt.slots] at X' e1 e2 h1 h2 h3 st
    subst h1; subst h2; subst h3
    exact Or.inl ⟨v, (T.setVm vm₁).calling g' mk As.toArray, t, U', L, hT, X', hL, e1, e2, hq, st⟩
  · dsimp only [Pt.U, Pt.locs, Pt.cells, Pt.slots] at X' e1 e2 h1 h2 h3 st hcl
    subst h1; subst h2; subst h3
    exact Or.inr ⟨q, (T.setVm vm₁).calling g' mk As.toArray, t, U', L, E, ce, hT, X', hL, e1, e2, hq, hce, hcv, vx_cls hW₁ hcl, st⟩
end
end VXH
theorem vx_ofWH {l : Launch} {y : MethodName} {ws ws' : List Cond} {rm : Room} {Pc : Array Value → State → Prop} {Qc : Array Value → State → Outcome → State → Prop} {XC : String → State → State → Prop} {mc ms : Nat} {free : Addr → Prop} {cc : ByteArray} {maxL : Nat} {ret : Option FieldType} {hh : List (Nat × Nat × Nat × Nat)}
    (hy : plainName y.cls = true) (hw : ws = Cond.codeWith y cc maxL ret hh :: ws')
    (body : ∀ p e s m args below meth c s₁, BodyLoose p l y (headSpec ws rm) cc maxL ret e s m args below meth c s₁ → c.maxLocals = maxL → Pc args s →
      W p l e (headSpec ws rm).room s m args below meth c s.heap [] 0 0 (vx_MQ below Qc XC args s mc ms free) (entryFrame m args maxL)) : vx_Met l y ws rm Pc Qc XC mc ms free := by
  refine MetFree.of_bodyS (code := cc) (maxLocals := maxL) (ret := ret) hy ?_ ?_
  · intro args s m h hn
    obtain ⟨m9, meth, c, hn9, h1, h2, h3, h4, -, h5, h6, -⟩ := Cond.codeWith_spec (atoms_spec (ws := ws) h _ (by rw [hw]; exact List.mem_cons_self))
    cases hn.symm.trans hn9
    exact ⟨meth, c, h1, h2, h3, h4, h5, h6⟩
  · intro p e s m args below meth c s₁ B hml hP _
    have hh0 : s₁.heap = s.heap := by rw [B.state]; rfl
    obtain ⟨t, a1, o, b1, b2, b3⟩ := body p e s m args below meth c s₁ B hml hP s₁ hh0 (Stand.of_body B)
    exact ⟨t, o, a1, b1, b2, b3⟩
/-! ===== END ===== -/
end
section
/-! ===== BEGIN printed: names, fields, word lists, decode rows ===== -/
def RX0 : String := "TrenchBook$Bounds"
def TX0 : u_T := fun k => match k with
  | 0 => ("TrenchBook$Bounds", "ownLower", "[I", true)
  | 1 => ("TrenchBook$Bounds", "ownUpper", "[I", true)
  | 2 => ("TrenchBook$Bounds", "lower", "[I", true)
  | _ => ("TrenchBook$Bounds", "upper", "[I", true)
def tyX0 : Nat → FieldType := fun k => match k with
  | 0 => .array .int
  | 1 => .array .int
  | 2 => .array .int
  | _ => .array .int
abbrev wsX00 : List Cond := u_ws RX0 TX0 4
theorem nmX0 : ∀ a, a < 4 → ∀ b, b < 4 → a ≠ b → (TX0 a).2.1 ≠ (TX0 b).2.1 := by decide +kernel
theorem tyX0_ok : ∀ k, k < 4 → parseFieldDescriptor (TX0 k).2.2.1 = some (tyX0 k) := by decide +kernel
abbrev cX0_init : ByteArray := prog_2_method_1_code
def yX0_init : MethodName := ⟨RX0, "<init>", "()V"⟩
abbrev cX0_renew : ByteArray := prog_2_method_2_code
def yX0_renew : MethodName := ⟨RX0, "renew", "(LTrenchBook$Units;LTrenchBook$Finds;LTrenchBook$Matrix;)V"⟩
abbrev cX0_gatherDates : ByteArray := prog_2_method_3_code
def yX0_gatherDates : MethodName := ⟨RX0, "gatherDates", "(LTrenchBook$Units;LTrenchBook$Matrix;)V"⟩
abbrev cX0_gatherFinds : ByteArray := prog_2_method_4_code
def yX0_gatherFinds : MethodName := ⟨RX0, "gatherFinds", "(LTrenchBook$Finds;LTrenchBook$Matrix;)V"⟩
abbrev cX0_spread : ByteArray := prog_2_method_5_code
def yX0_spread : MethodName := ⟨RX0, "spread", "(ILTrenchBook$Matrix;)V"⟩
def RX1 : String := "TrenchBook$Finds"
def TX1 : u_T := fun k => match k with
  | 0 => ("TrenchBook$Finds", "size", "I", false)
  | 1 => ("TrenchBook$Finds", "units", "[I", true)
  | 2 => ("TrenchBook$Finds", "sorts", "[I", true)
  | 3 => ("TrenchBook$Finds", "firsts", "[I", true)
  | 4 => ("TrenchBook$Finds", "lasts", "[I", true)
  | 5 => ("TrenchBook$Finds", "xs", "[I", true)
  | 6 => ("TrenchBook$Finds", "ys", "[I", true)
  | _ => ("TrenchBook$Finds", "zs", "[I", true)
def tyX1 : Nat → FieldType := fun k => match k with
  | 0 => .int
  | 1 => .array .int
  | 2 => .array .int
  | 3 => .array .int
  | 4 => .array .int
  | 5 => .array .int
  | 6 => .array .int
  | _ => .array .int
abbrev wsX10 : List Cond := u_ws RX1 TX1 8
theorem nmX1 : ∀ a, a < 8 → ∀ b, b < 8 → a ≠ b → (TX1 a).2.1 ≠ (TX1 b).2.1 := by decide +kernel
theorem tyX1_ok : ∀ k, k < 8 → parseFieldDescriptor (TX1 k).2.2.1 = some (tyX1 k) := by decide +kernel
abbrev cX1_init : ByteArray := prog_3_method_1_code
def yX1_init : MethodName := ⟨RX1, "<init>", "()V"⟩
abbrev cX1_append : ByteArray := prog_3_method_2_code
def yX1_append : MethodName := ⟨RX1, "append", "(IIII)I"⟩
abbrev cX1_countIn : ByteArray := prog_3_method_3_code
def yX1_countIn : MethodName := ⟨RX1, "countIn", "(I)I"⟩
abbrev cX1_closest : ByteArray := prog_3_method_4_code
def yX1_closest : MethodName := ⟨RX1, "closest", "(IIII)I"⟩
abbrev cX1_squareOfDistance : ByteArray := prog_3_method_5_code
def yX1_squareOfDistance : MethodName := ⟨RX1, "squareOfDistance", "(IIII)I"⟩
def RX2 : String := "TrenchBook$Matrix"
def TX2 : u_T := fun k => match k with
  | 0 => ("TrenchBook$Matrix", "size", "I", false)
  | 1 => ("TrenchBook$Matrix", "bodies", "J", false)
  | 2 => ("TrenchBook$Matrix", "bodyOf", "[I", true)
  | 3 => ("TrenchBook$Matrix", "members", "[J", true)
  | 4 => ("TrenchBook$Matrix", "directlyEarlier", "[J", true)
  | 5 => ("TrenchBook$Matrix", "earlier", "[J", true)
  | 6 => ("TrenchBook$Matrix", "later", "[J", true)
  | 7 => ("TrenchBook$Matrix", "links", "[J", true)
  | 8 => ("TrenchBook$Matrix", "fromBelow", "[I", true)
  | 9 => ("TrenchBook$Matrix", "fromAbove", "[I", true)
  | _ => ("TrenchBook$Matrix", "stepsLeft", "[I", true)
def tyX2 : Nat → FieldType := fun k => match k with
  | 0 => .int
  | 1 => .long
  | 2 => .array .int
  | 3 => .array .long
  | 4 => .array .long
  | 5 => .array .long
  | 6 => .array .long
  | 7 => .array .long
  | 8 => .array .int
  | 9 => .array .int
  | _ => .array .int
abbrev wsX20 : List Cond := u_ws RX2 TX2 11
theorem nmX2 : ∀ a, a < 11 → ∀ b, b < 11 → a ≠ b → (TX2 a).2.1 ≠ (TX2 b).2.1 := by decide +kernel
theorem tyX2_ok : ∀ k, k < 11 → parseFieldDescriptor (TX2 k).2.2.1 = some (tyX2 k) := by decide +kernel
abbrev cX2_init : ByteArray := prog_4_method_1_code
def yX2_init : MethodName := ⟨RX2, "<init>", "()V"⟩
abbrev cX2_isSameBody : ByteArray := prog_4_method_2_code
def yX2_isSameBody : MethodName := ⟨RX2, "isSameBody", "(II)Z"⟩
abbrev cX2_isLater : ByteArray := prog_4_method_3_code
def yX2_isLater : MethodName := ⟨RX2, "isLater", "(II)Z"⟩
abbrev cX2_renew : ByteArray := prog_4_method_4_code
def yX2_renew : MethodName := ⟨RX2, "renew", "(ILTrenchBook$Relations;)V"⟩
abbrev cX2_joinUnits : ByteArray := prog_4_method_5_code
def yX2_joinUnits : MethodName := ⟨RX2, "joinUnits", "(LTrenchBook$Relations;)V"⟩
abbrev cX2_joinBodies : ByteArray := prog_4_method_6_code
def yX2_joinBodies : MethodName := ⟨RX2, "joinBodies", "(II)V"⟩
abbrev cX2_gatherMembers : ByteArray := prog_4_method_7_code
def yX2_gatherMembers : MethodName := ⟨RX2, "gatherMembers", "()V"⟩
abbrev cX2_gatherDirectlyEarlier : ByteArray := prog_4_method_8_code
def yX2_gatherDirectlyEarlier : MethodName := ⟨RX2, "gatherDirectlyEarlier", "(LTrenchBook$Relations;)V"⟩
abbrev cX2_gatherEarlier : ByteArray := prog_4_method_9_code
def yX2_gatherEarlier : MethodName := ⟨RX2, "gatherEarlier", "()V"⟩
abbrev cX2_gatherLater : ByteArray := prog_4_method_10_code
def yX2_gatherLater : MethodName := ⟨RX2, "gatherLater", "()V"⟩
abbrev cX2_gatherLinks : ByteArray := prog_4_method_11_code
def yX2_gatherLinks : MethodName := ⟨RX2, "gatherLinks", "()V"⟩
abbrev cX2_rank : ByteArray := prog_4_method_12_code
def yX2_rank : MethodName := ⟨RX2, "rank", "(J[J[I)V"⟩
abbrev cX2_linkCount : ByteArray := prog_4_method_13_code
def yX2_linkCount : MethodName := ⟨RX2, "linkCount", "()I"⟩
abbrev cX2_levelCount : ByteArray := prog_4_method_14_code
def yX2_levelCount : MethodName := ⟨RX2, "levelCount", "()I"⟩
abbrev cX2_bodiesOnLevel : ByteArray := prog_4_method_15_code
def yX2_bodiesOnLevel : MethodName := ⟨RX2, "bodiesOnLevel", "(IZ)J"⟩
abbrev cX2_bodyOnWay : ByteArray := prog_4_method_16_code
def yX2_bodyOnWay : MethodName := ⟨RX2, "bodyOnWay", "(III)I"⟩
abbrev cX2_nextOnWay : ByteArray := prog_4_method_17_code
def yX2_nextOnWay : MethodName := ⟨RX2, "nextOnWay", "(IJ)I"⟩
def RX3 : String := "TrenchBook$Relations"
def TX3 : u_T := fun k => match k with
  | 0 => ("TrenchBook$Relations", "size", "I", false)
  | 1 => ("TrenchBook$Relations", "kinds", "[I", true)
  | 2 => ("TrenchBook$Relations", "laters", "[I", true)
  | _ => ("TrenchBook$Relations", "earliers", "[I", true)
def tyX3 : Nat → FieldType := fun k => match k with
  | 0 => .int
  | 1 => .array .int
  | 2 => .array .int
  | _ => .array .int
abbrev wsX30 : List Cond := u_ws RX3 TX3 4
theorem nmX3 : ∀ a, a < 4 → ∀ b, b < 4 → a ≠ b → (TX3 a).2.1 ≠ (TX3 b).2.1 := by decide +kernel
theorem tyX3_ok : ∀ k, k < 4 → parseFieldDescriptor (TX3 k).2.2.1 = some (tyX3 k) := by decide +kernel
abbrev cX3_init : ByteArray := prog_5_method_1_code
def yX3_init : MethodName := ⟨RX3, "<init>", "()V"⟩
abbrev cX3_append : ByteArray := prog_5_method_2_code
def yX3_append : MethodName := ⟨RX3, "append", "(III)V"⟩
abbrev cX3_remove : ByteArray := prog_5_method_3_code
def yX3_remove : MethodName := ⟨RX3, "remove", "(I)V"⟩
abbrev cX3_isTold : ByteArray := prog_5_method_4_code
def yX3_isTold : MethodName := ⟨RX3, "isTold", "(III)Z"⟩
def RX4 : String := "TrenchBook$Units"
def TX4 : u_T := fun k => match k with
  | 0 => ("TrenchBook$Units", "size", "I", false)
  | 1 => ("TrenchBook$Units", "dug", "J", false)
  | 2 => ("TrenchBook$Units", "dated", "J", false)
  | 3 => ("TrenchBook$Units", "sorts", "[I", true)
  | 4 => ("TrenchBook$Units", "phases", "[I", true)
  | 5 => ("TrenchBook$Units", "firsts", "[I", true)
  | _ => ("TrenchBook$Units", "lasts", "[I", true)
def tyX4 : Nat → FieldType := fun k => match k with
  | 0 => .int
  | 1 => .long
  | 2 => .long
  | 3 => .array .int
  | 4 => .array .int
  | 5 => .array .int
  | _ => .array .int
abbrev wsX40 : List Cond := u_ws RX4 TX4 7
theorem nmX4 : ∀ a, a < 7 → ∀ b, b < 7 → a ≠ b → (TX4 a).2.1 ≠ (TX4 b).2.1 := by decide +kernel
theorem tyX4_ok : ∀ k, k < 7 → parseFieldDescriptor (TX4 k).2.2.1 = some (tyX4 k) := by decide +kernel
abbrev cX4_init : ByteArray := prog_6_method_1_code
def yX4_init : MethodName := ⟨RX4, "<init>", "()V"⟩
abbrev cX4_append : ByteArray := prog_6_method_2_code
def yX4_append : MethodName := ⟨RX4, "append", "(I)I"⟩
abbrev cX4_setDate : ByteArray := prog_6_method_3_code
def yX4_setDate : MethodName := ⟨RX4, "setDate", "(III)V"⟩
def RX5 : String := "TrenchBook"
def TX5 : u_T := fun k => match k with
  | 0 => ("TrenchBook", "units", "LTrenchBook$Units;", true)
  | 1 => ("TrenchBook", "relations", "LTrenchBook$Relations;", true)
  | 2 => ("TrenchBook", "matrix", "LTrenchBook$Matrix;", true)
  | 3 => ("TrenchBook", "finds", "LTrenchBook$Finds;", true)
  | _ => ("TrenchBook", "bounds", "LTrenchBook$Bounds;", true)
def tyX5 : Nat → FieldType := fun k => match k with
  | 0 => .object "TrenchBook$Units"
  | 1 => .object "TrenchBook$Relations"
  | 2 => .object "TrenchBook$Matrix"
  | 3 => .object "TrenchBook$Finds"
  | _ => .object "TrenchBook$Bounds"
abbrev wsX50 : List Cond := u_ws RX5 TX5 5
theorem nmX5 : ∀ a, a < 5 → ∀ b, b < 5 → a ≠ b → (TX5 a).2.1 ≠ (TX5 b).2.1 := by decide +kernel
theorem tyX5_ok : ∀ k, k < 5 → parseFieldDescriptor (TX5 k).2.2.1 = some (tyX5 k) := by decide +kernel
abbrev cX5_init : ByteArray := prog_1_method_1_code
def yX5_init : MethodName := ⟨RX5, "<init>", "()V"⟩
abbrev cX5_addUnit : ByteArray := prog_1_method_2_code
def yX5_addUnit : MethodName := ⟨RX5, "addUnit", "(I)I"⟩
abbrev cX5_relate : ByteArray := prog_1_method_3_code
def yX5_relate : MethodName := ⟨RX5, "relate", "(III)I"⟩
abbrev cX5_takeBack : ByteArray := prog_1_method_4_code
def yX5_takeBack : MethodName := ⟨RX5, "takeBack", "(I)I"⟩
abbrev cX5_relation : ByteArray := prog_1_method_5_code
def yX5_relation : MethodName := ⟨RX5, "relation", "(II)I"⟩
abbrev cX5_count : ByteArray := prog_1_method_6_code
def yX5_count : MethodName := ⟨RX5, "count", "(I)I"⟩
abbrev cX5_unit : ByteArray := prog_1_method_7_code
def yX5_unit : MethodName := ⟨RX5, "unit", "(II)I"⟩
abbrev cX5_order : ByteArray := prog_1_method_8_code
def yX5_order : MethodName := ⟨RX5, "order", "(II)I"⟩
abbrev cX5_isLinked : ByteArray := prog_1_method_9_code
def yX5_isLinked : MethodName := ⟨RX5, "isLinked", "(II)Z"⟩
abbrev cX5_row : ByteArray := prog_1_method_10_code
def yX5_row : MethodName := ⟨RX5, "row", "(IZI)I"⟩
abbrev cX5_way : ByteArray := prog_1_method_11_code
def yX5_way : MethodName := ⟨RX5, "way", "(III)I"⟩
abbrev cX5_between : ByteArray := prog_1_method_12_code
def yX5_between : MethodName := ⟨RX5, "between", "(II)I"⟩
abbrev cX5_addFind : ByteArray := prog_1_method_13_code
def yX5_addFind : MethodName := ⟨RX5, "addFind", "(IIII)I"⟩
abbrev cX5_place : ByteArray := prog_1_method_14_code
def yX5_place : MethodName := ⟨RX5, "place", "(IIII)I"⟩
abbrev cX5_move : ByteArray := prog_1_method_15_code
def yX5_move : MethodName := ⟨RX5, "move", "(II)I"⟩
abbrev cX5_find : ByteArray := prog_1_method_16_code
def yX5_find : MethodName := ⟨RX5, "find", "(II)I"⟩
abbrev cX5_date : ByteArray := prog_1_method_17_code
def yX5_date : MethodName := ⟨RX5, "date", "(III)I"⟩
abbrev cX5_bound : ByteArray := prog_1_method_18_code
def yX5_bound : MethodName := ⟨RX5, "bound", "(IZ)I"⟩
abbrev cX5_doubt : ByteArray := prog_1_method_19_code
def yX5_doubt : MethodName := ⟨RX5, "doubt", "(I)I"⟩
abbrev cX5_nearest : ByteArray := prog_1_method_20_code
def yX5_nearest : MethodName := ⟨RX5, "nearest", "(IIII)I"⟩
abbrev cX5_dig : ByteArray := prog_1_method_21_code
def yX5_dig : MethodName := ⟨RX5, "dig", "(I)I"⟩
abbrev cX5_next : ByteArray := prog_1_method_22_code
def yX5_next : MethodName := ⟨RX5, "next", "(I)I"⟩
abbrev cX5_setPhase : ByteArray := prog_1_method_23_code
def yX5_setPhase : MethodName := ⟨RX5, "setPhase", "(II)I"⟩
abbrev cX5_phaseAll : ByteArray := prog_1_method_24_code
def yX5_phaseAll : MethodName := ⟨RX5, "phaseAll", "()I"⟩
abbrev cX5_outOfPhase : ByteArray := prog_1_method_25_code
def yX5_outOfPhase : MethodName := ⟨RX5, "outOfPhase", "(Z)I"⟩
abbrev cX5_meanHeight : ByteArray := prog_1_method_26_code
def yX5_meanHeight : MethodName := ⟨RX5, "meanHeight", "()D"⟩
abbrev cX5_digest : ByteArray := prog_1_method_27_code
def yX5_digest : MethodName := ⟨RX5, "digest", "()J"⟩
abbrev cX5_requireUnit : ByteArray := prog_1_method_28_code
def yX5_requireUnit : MethodName := ⟨RX5, "requireUnit", "(I)V"⟩
abbrev cX5_requireRelation : ByteArray := prog_1_method_29_code
def yX5_requireRelation : MethodName := ⟨RX5, "requireRelation", "(I)V"⟩
abbrev cX5_requireFind : ByteArray := prog_1_method_30_code
def yX5_requireFind : MethodName := ⟨RX5, "requireFind", "(I)V"⟩
abbrev cX5_requireFact : ByteArray := prog_1_method_31_code
def yX5_requireFact : MethodName := ⟨RX5, "requireFact", "(II)V"⟩
abbrev cX5_requirePlace : ByteArray := prog_1_method_32_code
def yX5_requirePlace : MethodName := ⟨RX5, "requirePlace", "(I)V"⟩
abbrev cX5_requireYears : ByteArray := prog_1_method_33_code
def yX5_requireYears : MethodName := ⟨RX5, "requireYears", "(II)V"⟩
abbrev cX5_requirePoint : ByteArray := prog_1_method_34_code
def yX5_requirePoint : MethodName := ⟨RX5, "requirePoint", "(III)V"⟩
abbrev cX5_isWithin : ByteArray := prog_1_method_35_code
def yX5_isWithin : MethodName := ⟨RX5, "isWithin", "(III)Z"⟩
abbrev cX5_renewMatrix : ByteArray := prog_1_method_36_code
def yX5_renewMatrix : MethodName := ⟨RX5, "renewMatrix", "()V"⟩
abbrev cX5_renewBounds : ByteArray := prog_1_method_37_code
def yX5_renewBounds : MethodName := ⟨RX5, "renewBounds", "()V"⟩
abbrev cX5_whyRefused : ByteArray := prog_1_method_38_code
def yX5_whyRefused : MethodName := ⟨RX5, "whyRefused", "(III)I"⟩
abbrev cX5_doSortsFit : ByteArray := prog_1_method_39_code
def yX5_doSortsFit : MethodName := ⟨RX5, "doSortsFit", "(III)Z"⟩
abbrev cX5_wouldMakeLoop : ByteArray := prog_1_method_40_code
def yX5_wouldMakeLoop : MethodName := ⟨RX5, "wouldMakeLoop", "(III)Z"⟩
abbrev cX5_bodiesInDoubt : ByteArray := prog_1_method_41_code
def yX5_bodiesInDoubt : MethodName := ⟨RX5, "bodiesInDoubt", "()J"⟩
abbrev cX5_misfit : ByteArray := prog_1_method_42_code
def yX5_misfit : MethodName := ⟨RX5, "misfit", "(I)I"⟩
abbrev cX5_canBeDug : ByteArray := prog_1_method_43_code
def yX5_canBeDug : MethodName := ⟨RX5, "canBeDug", "(I)Z"⟩
abbrev cX5_unitsToDig : ByteArray := prog_1_method_44_code
def yX5_unitsToDig : MethodName := ⟨RX5, "unitsToDig", "()J"⟩
abbrev cX5_isPairOutOfPhase : ByteArray := prog_1_method_45_code
def yX5_isPairOutOfPhase : MethodName := ⟨RX5, "isPairOutOfPhase", "(II)Z"⟩
abbrev cX5_pairsOutOfPhase : ByteArray := prog_1_method_46_code
def yX5_pairsOutOfPhase : MethodName := ⟨RX5, "pairsOutOfPhase", "()I"⟩
abbrev cX5_bit : ByteArray := prog_1_method_47_code
def yX5_bit : MethodName := ⟨RX5, "bit", "(I)J"⟩
abbrev cX5_has : ByteArray := prog_1_method_48_code
def yX5_has : MethodName := ⟨RX5, "has", "(JI)Z"⟩
abbrev cX5_elementAt : ByteArray := prog_1_method_49_code
def yX5_elementAt : MethodName := ⟨RX5, "elementAt", "(JI)I"⟩
def RX6 : String := "TrenchBookModel"
def TX6 : u_T := fun k => match k with
  | 0 => ("TrenchBookModel", "thrown", "I", false)
  | 1 => ("TrenchBookModel", "units", "I", false)
  | 2 => ("TrenchBookModel", "sorts", "[I", true)
  | 3 => ("TrenchBookModel", "firsts", "[I", true)
  | 4 => ("TrenchBookModel", "lasts", "[I", true)
  | 5 => ("TrenchBookModel", "areDated", "[Z", true)
  | 6 => ("TrenchBookModel", "areDug", "[Z", true)
  | 7 => ("TrenchBookModel", "phases", "[I", true)
  | 8 => ("TrenchBookModel", "relations", "I", false)
  | 9 => ("TrenchBookModel", "kinds", "[I", true)
  | 10 => ("TrenchBookModel", "ones", "[I", true)
  | 11 => ("TrenchBookModel", "others", "[I", true)
  | 12 => ("TrenchBookModel", "finds", "I", false)
  | 13 => ("TrenchBookModel", "findParts", "[I", true)
  | 14 => ("TrenchBookModel", "body", "[I", true)
  | 15 => ("TrenchBookModel", "earlier", "[J", true)
  | 16 => ("TrenchBookModel", "later", "[J", true)
  | 17 => ("TrenchBookModel", "linked", "[J", true)
  | 18 => ("TrenchBookModel", "below", "[I", true)
  | _ => ("TrenchBookModel", "above", "[I", true)
def tyX6 : Nat → FieldType := fun k => match k with
  | 0 => .int
  | 1 => .int
  | 2 => .array .int
  | 3 => .array .int
  | 4 => .array .int
  | 5 => .array .boolean
  | 6 => .array .boolean
  | 7 => .array .int
  | 8 => .int
  | 9 => .array .int
  | 10 => .array .int
  | 11 => .array .int
  | 12 => .int
  | 13 => .array .int
  | 14 => .array .int
  | 15 => .array .long
  | 16 => .array .long
  | 17 => .array .long
  | 18 => .array .int
  | _ => .array .int
abbrev wsX60 : List Cond := u_ws RX6 TX6 20
theorem nmX6 : ∀ a, a < 20 → ∀ b, b < 20 → a ≠ b → (TX6 a).2.1 ≠ (TX6 b).2.1 := by decide +kernel
theorem tyX6_ok : ∀ k, k < 20 → parseFieldDescriptor (TX6 k).2.2.1 = some (tyX6 k) := by decide +kernel
abbrev cX6_init : ByteArray := prog_8_method_1_code
def yX6_init : MethodName := ⟨RX6, "<init>", "()V"⟩
abbrev cX6_thrown : ByteArray := prog_8_method_2_code
def yX6_thrown : MethodName := ⟨RX6, "thrown", "()I"⟩
abbrev cX6_no : ByteArray := prog_8_method_3_code
def yX6_no : MethodName := ⟨RX6, "no", "(I)I"⟩
abbrev cX6_isIn : ByteArray := prog_8_method_4_code
def yX6_isIn : MethodName := ⟨RX6, "isIn", "(III)Z"⟩
abbrev cX6_isUnit : ByteArray := prog_8_method_5_code
def yX6_isUnit : MethodName := ⟨RX6, "isUnit", "(I)Z"⟩
abbrev cX6_isBody : ByteArray := prog_8_method_6_code
def yX6_isBody : MethodName := ⟨RX6, "isBody", "(I)Z"⟩
abbrev cX6_has : ByteArray := prog_8_method_7_code
def yX6_has : MethodName := ⟨RX6, "has", "(JI)Z"⟩
abbrev cX6_joinBodies : ByteArray := prog_8_method_8_code
def yX6_joinBodies : MethodName := ⟨RX6, "joinBodies", "()V"⟩
abbrev cX6_follow : ByteArray := prog_8_method_9_code
def yX6_follow : MethodName := ⟨RX6, "follow", "()Z"⟩
abbrev cX6_settle : ByteArray := prog_8_method_10_code
def yX6_settle : MethodName := ⟨RX6, "settle", "()V"⟩
abbrev cX6_rank : ByteArray := prog_8_method_11_code
def yX6_rank : MethodName := ⟨RX6, "rank", "([I[J)V"⟩
abbrev cX6_addUnit : ByteArray := prog_8_method_12_code
def yX6_addUnit : MethodName := ⟨RX6, "addUnit", "(I)I"⟩
abbrev cX6_areSorts : ByteArray := prog_8_method_13_code
def yX6_areSorts : MethodName := ⟨RX6, "areSorts", "(III)Z"⟩
abbrev cX6_isTold : ByteArray := prog_8_method_14_code
def yX6_isTold : MethodName := ⟨RX6, "isTold", "(III)Z"⟩
abbrev cX6_relate : ByteArray := prog_8_method_15_code
def yX6_relate : MethodName := ⟨RX6, "relate", "(III)I"⟩
abbrev cX6_takeBack : ByteArray := prog_8_method_16_code
def yX6_takeBack : MethodName := ⟨RX6, "takeBack", "(I)I"⟩
abbrev cX6_relationTold : ByteArray := prog_8_method_17_code
def yX6_relationTold : MethodName := ⟨RX6, "relationTold", "(II)I"⟩
abbrev cX6_relation : ByteArray := prog_8_method_18_code
def yX6_relation : MethodName := ⟨RX6, "relation", "(II)I"⟩
abbrev cX6_year : ByteArray := prog_8_method_19_code
def yX6_year : MethodName := ⟨RX6, "year", "(IZ)I"⟩
abbrev cX6_isInDoubt : ByteArray := prog_8_method_20_code
def yX6_isInDoubt : MethodName := ⟨RX6, "isInDoubt", "(I)Z"⟩
abbrev cX6_bodies : ByteArray := prog_8_method_21_code
def yX6_bodies : MethodName := ⟨RX6, "bodies", "()I"⟩
abbrev cX6_links : ByteArray := prog_8_method_22_code
def yX6_links : MethodName := ⟨RX6, "links", "()I"⟩
abbrev cX6_dug : ByteArray := prog_8_method_23_code
def yX6_dug : MethodName := ⟨RX6, "dug", "()I"⟩
abbrev cX6_doubts : ByteArray := prog_8_method_24_code
def yX6_doubts : MethodName := ⟨RX6, "doubts", "()I"⟩
abbrev cX6_levels : ByteArray := prog_8_method_25_code
def yX6_levels : MethodName := ⟨RX6, "levels", "()I"⟩
abbrev cX6_areOut : ByteArray := prog_8_method_26_code
def yX6_areOut : MethodName := ⟨RX6, "areOut", "(II)Z"⟩
abbrev cX6_pairsOut : ByteArray := prog_8_method_27_code
def yX6_pairsOut : MethodName := ⟨RX6, "pairsOut", "()I"⟩
abbrev cX6_counted : ByteArray := prog_8_method_28_code
def yX6_counted : MethodName := ⟨RX6, "counted", "(I)I"⟩
abbrev cX6_count : ByteArray := prog_8_method_29_code
def yX6_count : MethodName := ⟨RX6, "count", "(I)I"⟩
abbrev cX6_sizeOf : ByteArray := prog_8_method_30_code
def yX6_sizeOf : MethodName := ⟨RX6, "sizeOf", "(I)I"⟩
abbrev cX6_findsIn : ByteArray := prog_8_method_31_code
def yX6_findsIn : MethodName := ⟨RX6, "findsIn", "(I)I"⟩
abbrev cX6_unitTold : ByteArray := prog_8_method_32_code
def yX6_unitTold : MethodName := ⟨RX6, "unitTold", "(II)I"⟩
abbrev cX6_unit : ByteArray := prog_8_method_33_code
def yX6_unit : MethodName := ⟨RX6, "unit", "(II)I"⟩
abbrev cX6_order : ByteArray := prog_8_method_34_code
def yX6_order : MethodName := ⟨RX6, "order", "(II)I"⟩
abbrev cX6_isLinked : ByteArray := prog_8_method_35_code
def yX6_isLinked : MethodName := ⟨RX6, "isLinked", "(II)Z"⟩
abbrev cX6_row : ByteArray := prog_8_method_36_code
def yX6_row : MethodName := ⟨RX6, "row", "(IZI)I"⟩
abbrev cX6_farTo : ByteArray := prog_8_method_37_code
def yX6_farTo : MethodName := ⟨RX6, "farTo", "(I)[I"⟩
abbrev cX6_way : ByteArray := prog_8_method_38_code
def yX6_way : MethodName := ⟨RX6, "way", "(III)I"⟩
abbrev cX6_between : ByteArray := prog_8_method_39_code
def yX6_between : MethodName := ⟨RX6, "between", "(II)I"⟩
abbrev cX6_addFind : ByteArray := prog_8_method_40_code
def yX6_addFind : MethodName := ⟨RX6, "addFind", "(IIII)I"⟩
abbrev cX6_isFind : ByteArray := prog_8_method_41_code
def yX6_isFind : MethodName := ⟨RX6, "isFind", "(I)Z"⟩
abbrev cX6_isPlace : ByteArray := prog_8_method_42_code
def yX6_isPlace : MethodName := ⟨RX6, "isPlace", "(III)Z"⟩
abbrev cX6_place : ByteArray := prog_8_method_43_code
def yX6_place : MethodName := ⟨RX6, "place", "(IIII)I"⟩
abbrev cX6_move : ByteArray := prog_8_method_44_code
def yX6_move : MethodName := ⟨RX6, "move", "(II)I"⟩
abbrev cX6_findTold : ByteArray := prog_8_method_45_code
def yX6_findTold : MethodName := ⟨RX6, "findTold", "(II)I"⟩
abbrev cX6_find : ByteArray := prog_8_method_46_code
def yX6_find : MethodName := ⟨RX6, "find", "(II)I"⟩
abbrev cX6_date : ByteArray := prog_8_method_47_code
def yX6_date : MethodName := ⟨RX6, "date", "(III)I"⟩
abbrev cX6_bound : ByteArray := prog_8_method_48_code
def yX6_bound : MethodName := ⟨RX6, "bound", "(IZ)I"⟩
abbrev cX6_doubt : ByteArray := prog_8_method_49_code
def yX6_doubt : MethodName := ⟨RX6, "doubt", "(I)I"⟩
abbrev cX6_nearest : ByteArray := prog_8_method_50_code
def yX6_nearest : MethodName := ⟨RX6, "nearest", "(IIII)I"⟩
abbrev cX6_canDig : ByteArray := prog_8_method_51_code
def yX6_canDig : MethodName := ⟨RX6, "canDig", "(I)Z"⟩
abbrev cX6_dig : ByteArray := prog_8_method_52_code
def yX6_dig : MethodName := ⟨RX6, "dig", "(I)I"⟩
abbrev cX6_next : ByteArray := prog_8_method_53_code
def yX6_next : MethodName := ⟨RX6, "next", "(I)I"⟩
abbrev cX6_setPhase : ByteArray := prog_8_method_54_code
def yX6_setPhase : MethodName := ⟨RX6, "setPhase", "(II)I"⟩
abbrev cX6_phaseAll : ByteArray := prog_8_method_55_code
def yX6_phaseAll : MethodName := ⟨RX6, "phaseAll", "()I"⟩
abbrev cX6_outOfPhase : ByteArray := prog_8_method_56_code
def yX6_outOfPhase : MethodName := ⟨RX6, "outOfPhase", "(Z)I"⟩
abbrev cX6_meanHeight : ByteArray := prog_8_method_57_code
def yX6_meanHeight : MethodName := ⟨RX6, "meanHeight", "()D"⟩
abbrev cX6_digest : ByteArray := prog_8_method_58_code
def yX6_digest : MethodName := ⟨RX6, "digest", "()J"⟩
def RJ13 : String := "java/lang/Long"
def TJ13 : u_T := fun k => match k with
  | _ => ("", "", "", false)
def tyJ13 : Nat → FieldType := fun k => match k with
  | _ => .int
abbrev wsJ130 : List Cond := u_ws RJ13 TJ13 0
theorem nmJ13 : ∀ a, a < 0 → ∀ b, b < 0 → a ≠ b → (TJ13 a).2.1 ≠ (TJ13 b).2.1 := by decide +kernel
theorem tyJ13_ok : ∀ k, k < 0 → parseFieldDescriptor (TJ13 k).2.2.1 = some (tyJ13 k) := by decide +kernel
abbrev cJ13_bitCount_95d88 : ByteArray := prog_13_method_50_code
def yJ13_bitCount_95d88 : MethodName := ⟨RJ13, "bitCount", "(J)I"⟩
def RJ9 : String := "java/lang/Math"
def TJ9 : u_T := fun k => match k with
  | _ => ("", "", "", false)
def tyJ9 : Nat → FieldType := fun k => match k with
  | _ => .int
abbrev wsJ90 : List Cond := u_ws RJ9 TJ9 0
theorem nmJ9 : ∀ a, a < 0 → ∀ b, b < 0 → a ≠ b → (TJ9 a).2.1 ≠ (TJ9 b).2.1 := by decide +kernel
theorem tyJ9_ok : ∀ k, k < 0 → parseFieldDescriptor (TJ9 k).2.2.1 = some (tyJ9 k) := by decide +kernel
abbrev cJ9_max_7cf53 : ByteArray := prog_14_method_65_code
def yJ9_max_7cf53 : MethodName := ⟨RJ9, "max", "(II)I"⟩
abbrev cJ9_min_7cf53 : ByteArray := prog_14_method_69_code
def yJ9_min_7cf53 : MethodName := ⟨RJ9, "min", "(II)I"⟩
def RJ0 : String := "java/lang/String"
def TJ0 : u_T := fun k => match k with
  | _ => ("", "", "", false)
def tyJ0 : Nat → FieldType := fun k => match k with
  | _ => .int
abbrev wsJ00 : List Cond := u_ws RJ0 TJ0 0
theorem nmJ0 : ∀ a, a < 0 → ∀ b, b < 0 → a ≠ b → (TJ0 a).2.1 ≠ (TJ0 b).2.1 := by decide +kernel
theorem tyJ0_ok : ∀ k, k < 0 → parseFieldDescriptor (TJ0 k).2.2.1 = some (tyJ0 k) := by decide +kernel
def RJ10 : String := "java/lang/System"
def TJ10 : u_T := fun k => match k with
  | _ => ("", "", "", false)
def tyJ10 : Nat → FieldType := fun k => match k with
  | _ => .int
abbrev wsJ100 : List Cond := u_ws RJ10 TJ10 0
theorem nmJ10 : ∀ a, a < 0 → ∀ b, b < 0 → a ≠ b → (TJ10 a).2.1 ≠ (TJ10 b).2.1 := by decide +kernel
theorem tyJ10_ok : ∀ k, k < 0 → parseFieldDescriptor (TJ10 k).2.2.1 = some (tyJ10 k) := by decide +kernel
def RL : String := "TrenchBookLaw"
abbrev cL_addUnit : ByteArray := method_3_code
def yL_addUnit : MethodName := ⟨RL, "addUnit", "(LTrenchBook;I[J)I"⟩
abbrev cL_relate : ByteArray := method_4_code
def yL_relate : MethodName := ⟨RL, "relate", "(LTrenchBook;III[J)I"⟩
abbrev cL_takeBack : ByteArray := method_5_code
def yL_takeBack : MethodName := ⟨RL, "takeBack", "(LTrenchBook;I[J)I"⟩
abbrev cL_relation : ByteArray := method_6_code
def yL_relation : MethodName := ⟨RL, "relation", "(LTrenchBook;II[J)I"⟩
abbrev cL_count : ByteArray := method_7_code
def yL_count : MethodName := ⟨RL, "count", "(LTrenchBook;I[J)I"⟩
abbrev cL_unit : ByteArray := method_8_code
def yL_unit : MethodName := ⟨RL, "unit", "(LTrenchBook;II[J)I"⟩
abbrev cL_order : ByteArray := method_9_code
def yL_order : MethodName := ⟨RL, "order", "(LTrenchBook;II[J)I"⟩
abbrev cL_isLinked : ByteArray := method_10_code
def yL_isLinked : MethodName := ⟨RL, "isLinked", "(LTrenchBook;II[J)I"⟩
abbrev cL_row : ByteArray := method_11_code
def yL_row : MethodName := ⟨RL, "row", "(LTrenchBook;IZI[J)I"⟩
abbrev cL_way : ByteArray := method_12_code
def yL_way : MethodName := ⟨RL, "way", "(LTrenchBook;III[J)I"⟩
abbrev cL_between : ByteArray := method_13_code
def yL_between : MethodName := ⟨RL, "between", "(LTrenchBook;II[J)I"⟩
abbrev cL_addFind : ByteArray := method_14_code
def yL_addFind : MethodName := ⟨RL, "addFind", "(LTrenchBook;IIII[J)I"⟩
abbrev cL_place : ByteArray := method_15_code
def yL_place : MethodName := ⟨RL, "place", "(LTrenchBook;IIII[J)I"⟩
abbrev cL_move : ByteArray := method_16_code
def yL_move : MethodName := ⟨RL, "move", "(LTrenchBook;II[J)I"⟩
abbrev cL_find : ByteArray := method_17_code
def yL_find : MethodName := ⟨RL, "find", "(LTrenchBook;II[J)I"⟩
abbrev cL_date : ByteArray := method_18_code
def yL_date : MethodName := ⟨RL, "date", "(LTrenchBook;III[J)I"⟩
abbrev cL_bound : ByteArray := method_19_code
def yL_bound : MethodName := ⟨RL, "bound", "(LTrenchBook;IZ[J)I"⟩
abbrev cL_doubt : ByteArray := method_20_code
def yL_doubt : MethodName := ⟨RL, "doubt", "(LTrenchBook;I[J)I"⟩
abbrev cL_nearest : ByteArray := method_21_code
def yL_nearest : MethodName := ⟨RL, "nearest", "(LTrenchBook;IIII[J)I"⟩
abbrev cL_dig : ByteArray := method_22_code
def yL_dig : MethodName := ⟨RL, "dig", "(LTrenchBook;I[J)I"⟩
abbrev cL_next : ByteArray := method_23_code
def yL_next : MethodName := ⟨RL, "next", "(LTrenchBook;I[J)I"⟩
abbrev cL_setPhase : ByteArray := method_24_code
def yL_setPhase : MethodName := ⟨RL, "setPhase", "(LTrenchBook;II[J)I"⟩
abbrev cL_law : ByteArray := code
def yL_law : MethodName := ⟨RL, "law", "([I)Z"⟩
abbrev vwCl : List vw_C := [(RX0, TX0, 4), (RX1, TX1, 8), (RX2, TX2, 11), (RX3, TX3, 4), (RX4, TX4, 7), (RX5, TX5, 5), (RX6, TX6, 20)]
end
section
theorem dX0_init_0 : decode cX0_init 0 = .ok (.aload_n 0, 1) := by decide +kernel
theorem dX0_init_1 : decode cX0_init 1 = .ok (.invokespecial 3, 3) := by decide +kernel
theorem dX0_init_4 : decode cX0_init 4 = .ok (.aload_n 0, 1) := by decide +kernel
theorem dX0_init_5 : decode cX0_init 5 = .ok (.bipush 40, 2) := by decide +kernel
theorem dX0_init_7 : decode cX0_init 7 = .ok (.newarray .int, 2) := by decide +kernel
theorem dX0_init_9 : decode cX0_init 9 = .ok (.putfield 9, 3) := by decide +kernel
theorem dX0_init_12 : decode cX0_init 12 = .ok (.aload_n 0, 1) := by decide +kernel
theorem dX0_init_13 : decode cX0_init 13 = .ok (.bipush 40, 2) := by decide +kernel
theorem dX0_init_15 : decode cX0_init 15 = .ok (.newarray .int, 2) := by decide +kernel
theorem dX0_init_17 : decode cX0_init 17 = .ok (.putfield 15, 3) := by decide +kernel
theorem dX0_init_20 : decode cX0_init 20 = .ok (.aload_n 0, 1) := by decide +kernel
theorem dX0_init_21 : decode cX0_init 21 = .ok (.bipush 40, 2) := by decide +kernel
theorem dX0_init_23 : decode cX0_init 23 = .ok (.newarray .int, 2) := by decide +kernel
theorem dX0_init_25 : decode cX0_init 25 = .ok (.putfield 18, 3) := by decide +kernel
theorem dX0_init_28 : decode cX0_init 28 = .ok (.aload_n 0, 1) := by decide +kernel
theorem dX0_init_29 : decode cX0_init 29 = .ok (.bipush 40, 2) := by decide +kernel
theorem dX0_init_31 : decode cX0_init 31 = .ok (.newarray .int, 2) := by decide +kernel
theorem dX0_init_33 : decode cX0_init 33 = .ok (.putfield 21, 3) := by decide +kernel
theorem dX0_init_36 : decode cX0_init 36 = .ok (.return_, 1) := by decide +kernel
theorem dX0_renew_0 : decode cX0_renew 0 = .ok (.iconst 0, 1) := by decide +kernel
theorem dX0_renew_1 : decode cX0_renew 1 = .ok (.istore 4, 2) := by decide +kernel
theorem dX0_renew_3 : decode cX0_renew 3 = .ok (.iload 4, 2) := by decide +kernel
theorem dX0_renew_5 : decode cX0_renew 5 = .ok (.aload_n 1, 1) := by decide +kernel
theorem dX0_renew_6 : decode cX0_renew 6 = .ok (.getfield 24, 3) := by decide +kernel
theorem dX0_renew_9 : decode cX0_renew 9 = .ok (.if_icmp .ge 29, 3) := by decide +kernel
theorem dX0_renew_12 : decode cX0_renew 12 = .ok (.aload_n 0, 1) := by decide +kernel
theorem dX0_renew_13 : decode cX0_renew 13 = .ok (.getfield 9, 3) := by decide +kernel
theorem dX0_renew_16 : decode cX0_renew 16 = .ok (.iload 4, 2) := by decide +kernel
theorem dX0_renew_18 : decode cX0_renew 18 = .ok (.sipush (-5000), 3) := by decide +kernel
theorem dX0_renew_21 : decode cX0_renew 21 = .ok (.iastore, 1) := by decide +kernel
theorem dX0_renew_22 : decode cX0_renew 22 = .ok (.aload_n 0, 1) := by decide +kernel
theorem dX0_renew_23 : decode cX0_renew 23 = .ok (.getfield 15, 3) := by decide +kernel
theorem dX0_renew_26 : decode cX0_renew 26 = .ok (.iload 4, 2) := by decide +kernel
theorem dX0_renew_28 : decode cX0_renew 28 = .ok (.sipush 2000, 3) := by decide +kernel
theorem dX0_renew_31 : decode cX0_renew 31 = .ok (.iastore, 1) := by decide +kernel
theorem dX0_renew_32 : decode cX0_renew 32 = .ok (.iinc 4 1, 3) := by decide +kernel
theorem dX0_renew_35 : decode cX0_renew 35 = .ok (.goto (-32), 3) := by decide +kernel
theorem dX0_renew_38 : decode cX0_renew 38 = .ok (.aload_n 0, 1) := by decide +kernel
theorem dX0_renew_39 : decode cX0_renew 39 = .ok (.aload_n 1, 1) := by decide +kernel
theorem dX0_renew_40 : decode cX0_renew 40 = .ok (.aload_n 3, 1) := by decide +kernel
theorem dX0_renew_41 : decode cX0_renew 41 = .ok (.invokevirtual 30, 3) := by decide +kernel
theorem dX0_renew_44 : decode cX0_renew 44 = .ok (.aload_n 0, 1) := by decide +kernel
theorem dX0_renew_45 : decode cX0_renew 45 = .ok (.aload_n 2, 1) := by decide +kernel
theorem dX0_renew_46 : decode cX0_renew 46 = .ok (.aload_n 3, 1) := by decide +kernel
theorem dX0_renew_47 : decode cX0_renew 47 = .ok (.invokevirtual 34, 3) := by decide +kernel
theorem dX0_renew_50 : decode cX0_renew 50 = .ok (.aload_n 0, 1) := by decide +kernel
theorem dX0_renew_51 : decode cX0_renew 51 = .ok (.aload_n 1, 1) := by decide +kernel
theorem dX0_renew_52 : decode cX0_renew 52 = .ok (.getfield 24, 3) := by decide +kernel
theorem dX0_renew_55 : decode cX0_renew 55 = .ok (.aload_n 3, 1) := by decide +kernel
theorem dX0_renew_56 : decode cX0_renew 56 = .ok (.invokevirtual 38, 3) := by decide +kernel
theorem dX0_renew_59 : decode cX0_renew 59 = .ok (.return_, 1) := by decide +kernel
theorem dX0_gatherDates_0 : decode cX0_gatherDates 0 = .ok (.iconst 0, 1) := by decide +kernel
theorem dX0_gatherDates_1 : decode cX0_gatherDates 1 = .ok (.istore_n 3, 1) := by decide +kernel
theorem dX0_gatherDates_2 : decode cX0_gatherDates 2 = .ok (.iload_n 3, 1) := by decide +kernel
theorem dX0_gatherDates_3 : decode cX0_gatherDates 3 = .ok (.aload_n 1, 1) := by decide +kernel
theorem dX0_gatherDates_4 : decode cX0_gatherDates 4 = .ok (.getfield 24, 3) := by decide +kernel
theorem dX0_gatherDates_7 : decode cX0_gatherDates 7 = .ok (.if_icmp .ge 74, 3) := by decide +kernel
theorem dX0_gatherDates_10 : decode cX0_gatherDates 10 = .ok (.aload_n 1, 1) := by decide +kernel
theorem dX0_gatherDates_11 : decode cX0_gatherDates 11 = .ok (.getfield 42, 3) := by decide +kernel
theorem dX0_gatherDates_14 : decode cX0_gatherDates 14 = .ok (.iload_n 3, 1) := by decide +kernel
theorem dX0_gatherDates_15 : decode cX0_gatherDates 15 = .ok (.invokestatic 46, 3) := by decide +kernel
theorem dX0_gatherDates_18 : decode cX0_gatherDates 18 = .ok (.ifCond .eq 57, 3) := by decide +kernel
theorem dX0_gatherDates_21 : decode cX0_gatherDates 21 = .ok (.aload_n 2, 1) := by decide +kernel
theorem dX0_gatherDates_22 : decode cX0_gatherDates 22 = .ok (.getfield 50, 3) := by decide +kernel
theorem dX0_gatherDates_25 : decode cX0_gatherDates 25 = .ok (.iload_n 3, 1) := by decide +kernel
theorem dX0_gatherDates_26 : decode cX0_gatherDates 26 = .ok (.iaload, 1) := by decide +kernel
theorem dX0_gatherDates_27 : decode cX0_gatherDates 27 = .ok (.istore 4, 2) := by decide +kernel
theorem dX0_gatherDates_29 : decode cX0_gatherDates 29 = .ok (.aload_n 0, 1) := by decide +kernel
theorem dX0_gatherDates_30 : decode cX0_gatherDates 30 = .ok (.getfield 9, 3) := by decide +kernel
theorem dX0_gatherDates_33 : decode cX0_gatherDates 33 = .ok (.iload 4, 2) := by decide +kernel
theorem dX0_gatherDates_35 : decode cX0_gatherDates 35 = .ok (.aload_n 0, 1) := by decide +kernel
theorem dX0_gatherDates_36 : decode cX0_gatherDates 36 = .ok (.getfield 9, 3) := by decide +kernel
theorem dX0_gatherDates_39 : decode cX0_gatherDates 39 = .ok (.iload 4, 2) := by decide +kernel
theorem dX0_gatherDates_41 : decode cX0_gatherDates 41 = .ok (.iaload, 1) := by decide +kernel
theorem dX0_gatherDates_42 : decode cX0_gatherDates 42 = .ok (.aload_n 1, 1) := by decide +kernel
theorem dX0_gatherDates_43 : decode cX0_gatherDates 43 = .ok (.getfield 55, 3) := by decide +kernel
theorem dX0_gatherDates_46 : decode cX0_gatherDates 46 = .ok (.iload_n 3, 1) := by decide +kernel
theorem dX0_gatherDates_47 : decode cX0_gatherDates 47 = .ok (.iaload, 1) := by decide +kernel
theorem dX0_gatherDates_48 : decode cX0_gatherDates 48 = .ok (.invokestatic 58, 3) := by decide +kernel
theorem dX0_gatherDates_51 : decode cX0_gatherDates 51 = .ok (.iastore, 1) := by decide +kernel
theorem dX0_gatherDates_52 : decode cX0_gatherDates 52 = .ok (.aload_n 0, 1) := by decide +kernel
theorem dX0_gatherDates_53 : decode cX0_gatherDates 53 = .ok (.getfield 15, 3) := by decide +kernel
theorem dX0_gatherDates_56 : decode cX0_gatherDates 56 = .ok (.iload 4, 2) := by decide +kernel
theorem dX0_gatherDates_58 : decode cX0_gatherDates 58 = .ok (.aload_n 0, 1) := by decide +kernel
theorem dX0_gatherDates_59 : decode cX0_gatherDates 59 = .ok (.getfield 15, 3) := by decide +kernel
theorem dX0_gatherDates_62 : decode cX0_gatherDates 62 = .ok (.iload 4, 2) := by decide +kernel
theorem dX0_gatherDates_64 : decode cX0_gatherDates 64 = .ok (.iaload, 1) := by decide +kernel
theorem dX0_gatherDates_65 : decode cX0_gatherDates 65 = .ok (.aload_n 1, 1) := by decide +kernel
theorem dX0_gatherDates_66 : decode cX0_gatherDates 66 = .ok (.getfield 64, 3) := by decide +kernel
theorem dX0_gatherDates_69 : decode cX0_gatherDates 69 = .ok (.iload_n 3, 1) := by decide +kernel
theorem dX0_gatherDates_70 : decode cX0_gatherDates 70 = .ok (.iaload, 1) := by decide +kernel
theorem dX0_gatherDates_71 : decode cX0_gatherDates 71 = .ok (.invokestatic 67, 3) := by decide +kernel
theorem dX0_gatherDates_74 : decode cX0_gatherDates 74 = .ok (.iastore, 1) := by decide +kernel
theorem dX0_gatherDates_75 : decode cX0_gatherDates 75 = .ok (.iinc 3 1, 3) := by decide +kernel
theorem dX0_gatherDates_78 : decode cX0_gatherDates 78 = .ok (.goto (-76), 3) := by decide +kernel
theorem dX0_gatherDates_81 : decode cX0_gatherDates 81 = .ok (.return_, 1) := by decide +kernel
theorem dX0_gatherFinds_0 : decode cX0_gatherFinds 0 = .ok (.iconst 0, 1) := by decide +kernel
theorem dX0_gatherFinds_1 : decode cX0_gatherFinds 1 = .ok (.istore_n 3, 1) := by decide +kernel
theorem dX0_gatherFinds_2 : decode cX0_gatherFinds 2 = .ok (.iload_n 3, 1) := by decide +kernel
theorem dX0_gatherFinds_3 : decode cX0_gatherFinds 3 = .ok (.aload_n 1, 1) := by decide +kernel
theorem dX0_gatherFinds_4 : decode cX0_gatherFinds 4 = .ok (.getfield 70, 3) := by decide +kernel
theorem dX0_gatherFinds_7 : decode cX0_gatherFinds 7 = .ok (.if_icmp .ge 45, 3) := by decide +kernel
theorem dX0_gatherFinds_10 : decode cX0_gatherFinds 10 = .ok (.aload_n 2, 1) := by decide +kernel
theorem dX0_gatherFinds_11 : decode cX0_gatherFinds 11 = .ok (.getfield 50, 3) := by decide +kernel
theorem dX0_gatherFinds_14 : decode cX0_gatherFinds 14 = .ok (.aload_n 1, 1) := by decide +kernel
theorem dX0_gatherFinds_15 : decode cX0_gatherFinds 15 = .ok (.getfield 73, 3) := by decide +kernel
theorem dX0_gatherFinds_18 : decode cX0_gatherFinds 18 = .ok (.iload_n 3, 1) := by decide +kernel
theorem dX0_gatherFinds_19 : decode cX0_gatherFinds 19 = .ok (.iaload, 1) := by decide +kernel
theorem dX0_gatherFinds_20 : decode cX0_gatherFinds 20 = .ok (.iaload, 1) := by decide +kernel
theorem dX0_gatherFinds_21 : decode cX0_gatherFinds 21 = .ok (.istore 4, 2) := by decide +kernel
theorem dX0_gatherFinds_23 : decode cX0_gatherFinds 23 = .ok (.aload_n 0, 1) := by decide +kernel
theorem dX0_gatherFinds_24 : decode cX0_gatherFinds 24 = .ok (.getfield 9, 3) := by decide +kernel
theorem dX0_gatherFinds_27 : decode cX0_gatherFinds 27 = .ok (.iload 4, 2) := by decide +kernel
theorem dX0_gatherFinds_29 : decode cX0_gatherFinds 29 = .ok (.aload_n 0, 1) := by decide +kernel
theorem dX0_gatherFinds_30 : decode cX0_gatherFinds 30 = .ok (.getfield 9, 3) := by decide +kernel
theorem dX0_gatherFinds_33 : decode cX0_gatherFinds 33 = .ok (.iload 4, 2) := by decide +kernel
theorem dX0_gatherFinds_35 : decode cX0_gatherFinds 35 = .ok (.iaload, 1) := by decide +kernel
theorem dX0_gatherFinds_36 : decode cX0_gatherFinds 36 = .ok (.aload_n 1, 1) := by decide +kernel
theorem dX0_gatherFinds_37 : decode cX0_gatherFinds 37 = .ok (.getfield 76, 3) := by decide +kernel
theorem dX0_gatherFinds_40 : decode cX0_gatherFinds 40 = .ok (.iload_n 3, 1) := by decide +kernel
theorem dX0_gatherFinds_41 : decode cX0_gatherFinds 41 = .ok (.iaload, 1) := by decide +kernel
theorem dX0_gatherFinds_42 : decode cX0_gatherFinds 42 = .ok (.invokestatic 58, 3) := by decide +kernel
theorem dX0_gatherFinds_45 : decode cX0_gatherFinds 45 = .ok (.iastore, 1) := by decide +kernel
theorem dX0_gatherFinds_46 : decode cX0_gatherFinds 46 = .ok (.iinc 3 1, 3) := by decide +kernel
theorem dX0_gatherFinds_49 : decode cX0_gatherFinds 49 = .ok (.goto (-47), 3) := by decide +kernel
theorem dX0_gatherFinds_52 : decode cX0_gatherFinds 52 = .ok (.return_, 1) := by decide +kernel
theorem dX0_spread_0 : decode cX0_spread 0 = .ok (.iconst 0, 1) := by decide +kernel
theorem dX0_spread_1 : decode cX0_spread 1 = .ok (.istore_n 3, 1) := by decide +kernel
theorem dX0_spread_2 : decode cX0_spread 2 = .ok (.iload_n 3, 1) := by decide +kernel
theorem dX0_spread_3 : decode cX0_spread 3 = .ok (.iload_n 1, 1) := by decide +kernel
theorem dX0_spread_4 : decode cX0_spread 4 = .ok (.if_icmp .ge 120, 3) := by decide +kernel
theorem dX0_spread_7 : decode cX0_spread 7 = .ok (.aload_n 0, 1) := by decide +kernel
theorem dX0_spread_8 : decode cX0_spread 8 = .ok (.getfield 18, 3) := by decide +kernel
theorem dX0_spread_11 : decode cX0_spread 11 = .ok (.iload_n 3, 1) := by decide +kernel
theorem dX0_spread_12 : decode cX0_spread 12 = .ok (.aload_n 0, 1) := by decide +kernel
theorem dX0_spread_13 : decode cX0_spread 13 = .ok (.getfield 9, 3) := by decide +kernel
theorem dX0_spread_16 : decode cX0_spread 16 = .ok (.iload_n 3, 1) := by decide +kernel
theorem dX0_spread_17 : decode cX0_spread 17 = .ok (.iaload, 1) := by decide +kernel
theorem dX0_spread_18 : decode cX0_spread 18 = .ok (.iastore, 1) := by decide +kernel
theorem dX0_spread_19 : decode cX0_spread 19 = .ok (.aload_n 0, 1) := by decide +kernel
theorem dX0_spread_20 : decode cX0_spread 20 = .ok (.getfield 21, 3) := by decide +kernel
theorem dX0_spread_23 : decode cX0_spread 23 = .ok (.iload_n 3, 1) := by decide +kernel
theorem dX0_spread_24 : decode cX0_spread 24 = .ok (.aload_n 0, 1) := by decide +kernel
theorem dX0_spread_25 : decode cX0_spread 25 = .ok (.getfield 15, 3) := by decide +kernel
theorem dX0_spread_28 : decode cX0_spread 28 = .ok (.iload_n 3, 1) := by decide +kernel
theorem dX0_spread_29 : decode cX0_spread 29 = .ok (.iaload, 1) := by decide +kernel
theorem dX0_spread_30 : decode cX0_spread 30 = .ok (.iastore, 1) := by decide +kernel
theorem dX0_spread_31 : decode cX0_spread 31 = .ok (.iconst 0, 1) := by decide +kernel
theorem dX0_spread_32 : decode cX0_spread 32 = .ok (.istore 4, 2) := by decide +kernel
theorem dX0_spread_34 : decode cX0_spread 34 = .ok (.iload 4, 2) := by decide +kernel
theorem dX0_spread_36 : decode cX0_spread 36 = .ok (.iload_n 1, 1) := by decide +kernel
theorem dX0_spread_37 : decode cX0_spread 37 = .ok (.if_icmp .ge 81, 3) := by decide +kernel
theorem dX0_spread_40 : decode cX0_spread 40 = .ok (.aload_n 2, 1) := by decide +kernel
theorem dX0_spread_41 : decode cX0_spread 41 = .ok (.getfield 77, 3) := by decide +kernel
theorem dX0_spread_44 : decode cX0_spread 44 = .ok (.iload_n 3, 1) := by decide +kernel
theorem dX0_spread_45 : decode cX0_spread 45 = .ok (.laload, 1) := by decide +kernel
theorem dX0_spread_46 : decode cX0_spread 46 = .ok (.iload 4, 2) := by decide +kernel
theorem dX0_spread_48 : decode cX0_spread 48 = .ok (.invokestatic 46, 3) := by decide +kernel
theorem dX0_spread_51 : decode cX0_spread 51 = .ok (.ifCond .eq 25, 3) := by decide +kernel
theorem dX0_spread_54 : decode cX0_spread 54 = .ok (.aload_n 0, 1) := by decide +kernel
theorem dX0_spread_55 : decode cX0_spread 55 = .ok (.getfield 18, 3) := by decide +kernel
theorem dX0_spread_58 : decode cX0_spread 58 = .ok (.iload_n 3, 1) := by decide +kernel
theorem dX0_spread_59 : decode cX0_spread 59 = .ok (.aload_n 0, 1) := by decide +kernel
theorem dX0_spread_60 : decode cX0_spread 60 = .ok (.getfield 18, 3) := by decide +kernel
theorem dX0_spread_63 : decode cX0_spread 63 = .ok (.iload_n 3, 1) := by decide +kernel
theorem dX0_spread_64 : decode cX0_spread 64 = .ok (.iaload, 1) := by decide +kernel
theorem dX0_spread_65 : decode cX0_spread 65 = .ok (.aload_n 0, 1) := by decide +kernel
theorem dX0_spread_66 : decode cX0_spread 66 = .ok (.getfield 9, 3) := by decide +kernel
theorem dX0_spread_69 : decode cX0_spread 69 = .ok (.iload 4, 2) := by decide +kernel
theorem dX0_spread_71 : decode cX0_spread 71 = .ok (.iaload, 1) := by decide +kernel
theorem dX0_spread_72 : decode cX0_spread 72 = .ok (.invokestatic 58, 3) := by decide +kernel
theorem dX0_spread_75 : decode cX0_spread 75 = .ok (.iastore, 1) := by decide +kernel
theorem dX0_spread_76 : decode cX0_spread 76 = .ok (.aload_n 2, 1) := by decide +kernel
theorem dX0_spread_77 : decode cX0_spread 77 = .ok (.getfield 81, 3) := by decide +kernel
theorem dX0_spread_80 : decode cX0_spread 80 = .ok (.iload_n 3, 1) := by decide +kernel
theorem dX0_spread_81 : decode cX0_spread 81 = .ok (.laload, 1) := by decide +kernel
theorem dX0_spread_82 : decode cX0_spread 82 = .ok (.iload 4, 2) := by decide +kernel
theorem dX0_spread_84 : decode cX0_spread 84 = .ok (.invokestatic 46, 3) := by decide +kernel
theorem dX0_spread_87 : decode cX0_spread 87 = .ok (.ifCond .eq 25, 3) := by decide +kernel
theorem dX0_spread_90 : decode cX0_spread 90 = .ok (.aload_n 0, 1) := by decide +kernel
theorem dX0_spread_91 : decode cX0_spread 91 = .ok (.getfield 21, 3) := by decide +kernel
theorem dX0_spread_94 : decode cX0_spread 94 = .ok (.iload_n 3, 1) := by decide +kernel
theorem dX0_spread_95 : decode cX0_spread 95 = .ok (.aload_n 0, 1) := by decide +kernel
theorem dX0_spread_96 : decode cX0_spread 96 = .ok (.getfield 21, 3) := by decide +kernel
theorem dX0_spread_99 : decode cX0_spread 99 = .ok (.iload_n 3, 1) := by decide +kernel
theorem dX0_spread_100 : decode cX0_spread 100 = .ok (.iaload, 1) := by decide +kernel
theorem dX0_spread_101 : decode cX0_spread 101 = .ok (.aload_n 0, 1) := by decide +kernel
theorem dX0_spread_102 : decode cX0_spread 102 = .ok (.getfield 15, 3) := by decide +kernel
theorem dX0_spread_105 : decode cX0_spread 105 = .ok (.iload 4, 2) := by decide +kernel
theorem dX0_spread_107 : decode cX0_spread 107 = .ok (.iaload, 1) := by decide +kernel
theorem dX0_spread_108 : decode cX0_spread 108 = .ok (.invokestatic 67, 3) := by decide +kernel
theorem dX0_spread_111 : decode cX0_spread 111 = .ok (.iastore, 1) := by decide +kernel
theorem dX0_spread_112 : decode cX0_spread 112 = .ok (.iinc 4 1, 3) := by decide +kernel
theorem dX0_spread_115 : decode cX0_spread 115 = .ok (.goto (-81), 3) := by decide +kernel
theorem dX0_spread_118 : decode cX0_spread 118 = .ok (.iinc 3 1, 3) := by decide +kernel
theorem dX0_spread_121 : decode cX0_spread 121 = .ok (.goto (-119), 3) := by decide +kernel
theorem dX0_spread_124 : decode cX0_spread 124 = .ok (.return_, 1) := by decide +kernel
theorem dX1_init_0 : decode cX1_init 0 = .ok (.aload_n 0, 1) := by decide +kernel
theorem dX1_init_1 : decode cX1_init 1 = .ok (.invokespecial 3, 3) := by decide +kernel
theorem dX1_init_4 : decode cX1_init 4 = .ok (.aload_n 0, 1) := by decide +kernel
theorem dX1_init_5 : decode cX1_init 5 = .ok (.bipush 60, 2) := by decide +kernel
theorem dX1_init_7 : decode cX1_init 7 = .ok (.newarray .int, 2) := by decide +kernel
theorem dX1_init_9 : decode cX1_init 9 = .ok (.putfield 9, 3) := by decide +kernel
theorem dX1_init_12 : decode cX1_init 12 = .ok (.aload_n 0, 1) := by decide +kernel
theorem dX1_init_13 : decode cX1_init 13 = .ok (.bipush 60, 2) := by decide +kernel
theorem dX1_init_15 : decode cX1_init 15 = .ok (.newarray .int, 2) := by decide +kernel
theorem dX1_init_17 : decode cX1_init 17 = .ok (.putfield 15, 3) := by decide +kernel
theorem dX1_init_20 : decode cX1_init 20 = .ok (.aload_n 0, 1) := by decide +kernel
theorem dX1_init_21 : decode cX1_init 21 = .ok (.bipush 60, 2) := by decide +kernel
theorem dX1_init_23 : decode cX1_init 23 = .ok (.newarray .int, 2) := by decide +kernel
theorem dX1_init_25 : decode cX1_init 25 = .ok (.putfield 18, 3) := by decide +kernel
theorem dX1_init_28 : decode cX1_init 28 = .ok (.aload_n 0, 1) := by decide +kernel
theorem dX1_init_29 : decode cX1_init 29 = .ok (.bipush 60, 2) := by decide +kernel
theorem dX1_init_31 : decode cX1_init 31 = .ok (.newarray .int, 2) := by decide +kernel
theorem dX1_init_33 : decode cX1_init 33 = .ok (.putfield 21, 3) := by decide +kernel
theorem dX1_init_36 : decode cX1_init 36 = .ok (.aload_n 0, 1) := by decide +kernel
theorem dX1_init_37 : decode cX1_init 37 = .ok (.bipush 60, 2) := by decide +kernel
theorem dX1_init_39 : decode cX1_init 39 = .ok (.newarray .int, 2) := by decide +kernel
theorem dX1_init_41 : decode cX1_init 41 = .ok (.putfield 24, 3) := by decide +kernel
theorem dX1_init_44 : decode cX1_init 44 = .ok (.aload_n 0, 1) := by decide +kernel
theorem dX1_init_45 : decode cX1_init 45 = .ok (.bipush 60, 2) := by decide +kernel
theorem dX1_init_47 : decode cX1_init 47 = .ok (.newarray .int, 2) := by decide +kernel
theorem dX1_init_49 : decode cX1_init 49 = .ok (.putfield 27, 3) := by decide +kernel
theorem dX1_init_52 : decode cX1_init 52 = .ok (.aload_n 0, 1) := by decide +kernel
theorem dX1_init_53 : decode cX1_init 53 = .ok (.bipush 60, 2) := by decide +kernel
theorem dX1_init_55 : decode cX1_init 55 = .ok (.newarray .int, 2) := by decide +kernel
theorem dX1_init_57 : decode cX1_init 57 = .ok (.putfield 30, 3) := by decide +kernel
theorem dX1_init_60 : decode cX1_init 60 = .ok (.return_, 1) := by decide +kernel
theorem dX1_append_0 : decode cX1_append 0 = .ok (.aload_n 0, 1) := by decide +kernel
theorem dX1_append_1 : decode cX1_append 1 = .ok (.getfield 9, 3) := by decide +kernel
theorem dX1_append_4 : decode cX1_append 4 = .ok (.aload_n 0, 1) := by decide +kernel
theorem dX1_append_5 : decode cX1_append 5 = .ok (.getfield 33, 3) := by decide +kernel
theorem dX1_append_8 : decode cX1_append 8 = .ok (.iload_n 1, 1) := by decide +kernel
theorem dX1_append_9 : decode cX1_append 9 = .ok (.iastore, 1) := by decide +kernel
theorem dX1_append_10 : decode cX1_append 10 = .ok (.aload_n 0, 1) := by decide +kernel
theorem dX1_append_11 : decode cX1_append 11 = .ok (.getfield 15, 3) := by decide +kernel
theorem dX1_append_14 : decode cX1_append 14 = .ok (.aload_n 0, 1) := by decide +kernel
theorem dX1_append_15 : decode cX1_append 15 = .ok (.getfield 33, 3) := by decide +kernel
theorem dX1_append_18 : decode cX1_append 18 = .ok (.iload_n 2, 1) := by decide +kernel
theorem dX1_append_19 : decode cX1_append 19 = .ok (.iastore, 1) := by decide +kernel
theorem dX1_append_20 : decode cX1_append 20 = .ok (.aload_n 0, 1) := by decide +kernel
theorem dX1_append_21 : decode cX1_append 21 = .ok (.getfield 18, 3) := by decide +kernel
theorem dX1_append_24 : decode cX1_append 24 = .ok (.aload_n 0, 1) := by decide +kernel
theorem dX1_append_25 : decode cX1_append 25 = .ok (.getfield 33, 3) := by decide +kernel
theorem dX1_append_28 : decode cX1_append 28 = .ok (.iload_n 3, 1) := by decide +kernel
theorem dX1_append_29 : decode cX1_append 29 = .ok (.iastore, 1) := by decide +kernel
theorem dX1_append_30 : decode cX1_append 30 = .ok (.aload_n 0, 1) := by decide +kernel
theorem dX1_append_31 : decode cX1_append 31 = .ok (.getfield 21, 3) := by decide +kernel
theorem dX1_append_34 : decode cX1_append 34 = .ok (.aload_n 0, 1) := by decide +kernel
theorem dX1_append_35 : decode cX1_append 35 = .ok (.getfield 33, 3) := by decide +kernel
theorem dX1_append_38 : decode cX1_append 38 = .ok (.iload 4, 2) := by decide +kernel
theorem dX1_append_40 : decode cX1_append 40 = .ok (.iastore, 1) := by decide +kernel
theorem dX1_append_41 : decode cX1_append 41 = .ok (.aload_n 0, 1) := by decide +kernel
theorem dX1_append_42 : decode cX1_append 42 = .ok (.dup, 1) := by decide +kernel
theorem dX1_append_43 : decode cX1_append 43 = .ok (.getfield 33, 3) := by decide +kernel
theorem dX1_append_46 : decode cX1_append 46 = .ok (.iconst 1, 1) := by decide +kernel
theorem dX1_append_47 : decode cX1_append 47 = .ok (.iadd, 1) := by decide +kernel
theorem dX1_append_48 : decode cX1_append 48 = .ok (.putfield 33, 3) := by decide +kernel
theorem dX1_append_51 : decode cX1_append 51 = .ok (.aload_n 0, 1) := by decide +kernel
theorem dX1_append_52 : decode cX1_append 52 = .ok (.getfield 33, 3) := by decide +kernel
theorem dX1_append_55 : decode cX1_append 55 = .ok (.iconst 1, 1) := by decide +kernel
theorem dX1_append_56 : decode cX1_append 56 = .ok (.isub, 1) := by decide +kernel
theorem dX1_append_57 : decode cX1_append 57 = .ok (.ireturn, 1) := by decide +kernel
theorem dX1_countIn_0 : decode cX1_countIn 0 = .ok (.iconst 0, 1) := by decide +kernel
theorem dX1_countIn_1 : decode cX1_countIn 1 = .ok (.istore_n 2, 1) := by decide +kernel
theorem dX1_countIn_2 : decode cX1_countIn 2 = .ok (.iconst 0, 1) := by decide +kernel
theorem dX1_countIn_3 : decode cX1_countIn 3 = .ok (.istore_n 3, 1) := by decide +kernel
theorem dX1_countIn_4 : decode cX1_countIn 4 = .ok (.iload_n 3, 1) := by decide +kernel
theorem dX1_countIn_5 : decode cX1_countIn 5 = .ok (.aload_n 0, 1) := by decide +kernel
theorem dX1_countIn_6 : decode cX1_countIn 6 = .ok (.getfield 33, 3) := by decide +kernel
theorem dX1_countIn_9 : decode cX1_countIn 9 = .ok (.if_icmp .ge 22, 3) := by decide +kernel
theorem dX1_countIn_12 : decode cX1_countIn 12 = .ok (.aload_n 0, 1) := by decide +kernel
theorem dX1_countIn_13 : decode cX1_countIn 13 = .ok (.getfield 9, 3) := by decide +kernel
theorem dX1_countIn_16 : decode cX1_countIn 16 = .ok (.iload_n 3, 1) := by decide +kernel
theorem dX1_countIn_17 : decode cX1_countIn 17 = .ok (.iaload, 1) := by decide +kernel
theorem dX1_countIn_18 : decode cX1_countIn 18 = .ok (.iload_n 1, 1) := by decide +kernel
theorem dX1_countIn_19 : decode cX1_countIn 19 = .ok (.if_icmp .ne 6, 3) := by decide +kernel
theorem dX1_countIn_22 : decode cX1_countIn 22 = .ok (.iinc 2 1, 3) := by decide +kernel
theorem dX1_countIn_25 : decode cX1_countIn 25 = .ok (.iinc 3 1, 3) := by decide +kernel
theorem dX1_countIn_28 : decode cX1_countIn 28 = .ok (.goto (-24), 3) := by decide +kernel
theorem dX1_countIn_31 : decode cX1_countIn 31 = .ok (.iload_n 2, 1) := by decide +kernel
theorem dX1_countIn_32 : decode cX1_countIn 32 = .ok (.ireturn, 1) := by decide +kernel
theorem dX1_closest_0 : decode cX1_closest 0 = .ok (.iconst (-1), 1) := by decide +kernel
theorem dX1_closest_1 : decode cX1_closest 1 = .ok (.istore 5, 2) := by decide +kernel
theorem dX1_closest_3 : decode cX1_closest 3 = .ok (.iconst 0, 1) := by decide +kernel
theorem dX1_closest_4 : decode cX1_closest 4 = .ok (.istore 6, 2) := by decide +kernel
theorem dX1_closest_6 : decode cX1_closest 6 = .ok (.iconst 0, 1) := by decide +kernel
theorem dX1_closest_7 : decode cX1_closest 7 = .ok (.istore 7, 2) := by decide +kernel
theorem dX1_closest_9 : decode cX1_closest 9 = .ok (.iload 7, 2) := by decide +kernel
theorem dX1_closest_11 : decode cX1_closest 11 = .ok (.aload_n 0, 1) := by decide +kernel
theorem dX1_closest_12 : decode cX1_closest 12 = .ok (.getfield 33, 3) := by decide +kernel
theorem dX1_closest_15 : decode cX1_closest 15 = .ok (.if_icmp .ge 59, 3) := by decide +kernel
theorem dX1_closest_18 : decode cX1_closest 18 = .ok (.iload 4, 2) := by decide +kernel
theorem dX1_closest_20 : decode cX1_closest 20 = .ok (.iconst (-1), 1) := by decide +kernel
theorem dX1_closest_21 : decode cX1_closest 21 = .ok (.if_icmp .eq 15, 3) := by decide +kernel
theorem dX1_closest_24 : decode cX1_closest 24 = .ok (.aload_n 0, 1) := by decide +kernel
theorem dX1_closest_25 : decode cX1_closest 25 = .ok (.getfield 15, 3) := by decide +kernel
theorem dX1_closest_28 : decode cX1_closest 28 = .ok (.iload 7, 2) := by decide +kernel
theorem dX1_closest_30 : decode cX1_closest 30 = .ok (.iaload, 1) := by decide +kernel
theorem dX1_closest_31 : decode cX1_closest 31 = .ok (.iload 4, 2) := by decide +kernel
theorem dX1_closest_33 : decode cX1_closest 33 = .ok (.if_icmp .ne 35, 3) := by decide +kernel
theorem dX1_closest_36 : decode cX1_closest 36 = .ok (.aload_n 0, 1) := by decide +kernel
theorem dX1_closest_37 : decode cX1_closest 37 = .ok (.iload 7, 2) := by decide +kernel
theorem dX1_closest_39 : decode cX1_closest 39 = .ok (.iload_n 1, 1) := by decide +kernel
theorem dX1_closest_40 : decode cX1_closest 40 = .ok (.iload_n 2, 1) := by decide +kernel
theorem dX1_closest_41 : decode cX1_closest 41 = .ok (.iload_n 3, 1) := by decide +kernel
theorem dX1_closest_42 : decode cX1_closest 42 = .ok (.invokevirtual 37, 3) := by decide +kernel
theorem dX1_closest_45 : decode cX1_closest 45 = .ok (.istore 8, 2) := by decide +kernel
theorem dX1_closest_47 : decode cX1_closest 47 = .ok (.iload 5, 2) := by decide +kernel
theorem dX1_closest_49 : decode cX1_closest 49 = .ok (.iconst (-1), 1) := by decide +kernel
theorem dX1_closest_50 : decode cX1_closest 50 = .ok (.if_icmp .eq 10, 3) := by decide +kernel
theorem dX1_closest_53 : decode cX1_closest 53 = .ok (.iload 8, 2) := by decide +kernel
theorem dX1_closest_55 : decode cX1_closest 55 = .ok (.iload 6, 2) := by decide +kernel
theorem dX1_closest_57 : decode cX1_closest 57 = .ok (.if_icmp .ge 11, 3) := by decide +kernel
theorem dX1_closest_60 : decode cX1_closest 60 = .ok (.iload 7, 2) := by decide +kernel
theorem dX1_closest_62 : decode cX1_closest 62 = .ok (.istore 5, 2) := by decide +kernel
theorem dX1_closest_64 : decode cX1_closest 64 = .ok (.iload 8, 2) := by decide +kernel
theorem dX1_closest_66 : decode cX1_closest 66 = .ok (.istore 6, 2) := by decide +kernel
theorem dX1_closest_68 : decode cX1_closest 68 = .ok (.iinc 7 1, 3) := by decide +kernel
theorem dX1_closest_71 : decode cX1_closest 71 = .ok (.goto (-62), 3) := by decide +kernel
theorem dX1_closest_74 : decode cX1_closest 74 = .ok (.iload 5, 2) := by decide +kernel
theorem dX1_closest_76 : decode cX1_closest 76 = .ok (.ireturn, 1) := by decide +kernel
theorem dX1_squareOfDistance_0 : decode cX1_squareOfDistance 0 = .ok (.aload_n 0, 1) := by decide +kernel
theorem dX1_squareOfDistance_1 : decode cX1_squareOfDistance 1 = .ok (.getfield 24, 3) := by decide +kernel
theorem dX1_squareOfDistance_4 : decode cX1_squareOfDistance 4 = .ok (.iload_n 1, 1) := by decide +kernel
theorem dX1_squareOfDistance_5 : decode cX1_squareOfDistance 5 = .ok (.iaload, 1) := by decide +kernel
theorem dX1_squareOfDistance_6 : decode cX1_squareOfDistance 6 = .ok (.iload_n 2, 1) := by decide +kernel
theorem dX1_squareOfDistance_7 : decode cX1_squareOfDistance 7 = .ok (.isub, 1) := by decide +kernel
theorem dX1_squareOfDistance_8 : decode cX1_squareOfDistance 8 = .ok (.istore 5, 2) := by decide +kernel
theorem dX1_squareOfDistance_10 : decode cX1_squareOfDistance 10 = .ok (.aload_n 0, 1) := by decide +kernel
theorem dX1_squareOfDistance_11 : decode cX1_squareOfDistance 11 = .ok (.getfield 27, 3) := by decide +kernel
theorem dX1_squareOfDistance_14 : decode cX1_squareOfDistance 14 = .ok (.iload_n 1, 1) := by decide +kernel
theorem dX1_squareOfDistance_15 : decode cX1_squareOfDistance 15 = .ok (.iaload, 1) := by decide +kernel
theorem dX1_squareOfDistance_16 : decode cX1_squareOfDistance 16 = .ok (.iload_n 3, 1) := by decide +kernel
theorem dX1_squareOfDistance_17 : decode cX1_squareOfDistance 17 = .ok (.isub, 1) := by decide +kernel
theorem dX1_squareOfDistance_18 : decode cX1_squareOfDistance 18 = .ok (.istore 6, 2) := by decide +kernel
theorem dX1_squareOfDistance_20 : decode cX1_squareOfDistance 20 = .ok (.aload_n 0, 1) := by decide +kernel
theorem dX1_squareOfDistance_21 : decode cX1_squareOfDistance 21 = .ok (.getfield 30, 3) := by decide +kernel
theorem dX1_squareOfDistance_24 : decode cX1_squareOfDistance 24 = .ok (.iload_n 1, 1) := by decide +kernel
theorem dX1_squareOfDistance_25 : decode cX1_squareOfDistance 25 = .ok (.iaload, 1) := by decide +kernel
theorem dX1_squareOfDistance_26 : decode cX1_squareOfDistance 26 = .ok (.iload 4, 2) := by decide +kernel
theorem dX1_squareOfDistance_28 : decode cX1_squareOfDistance 28 = .ok (.isub, 1) := by decide +kernel
theorem dX1_squareOfDistance_29 : decode cX1_squareOfDistance 29 = .ok (.istore 7, 2) := by decide +kernel
theorem dX1_squareOfDistance_31 : decode cX1_squareOfDistance 31 = .ok (.iload 5, 2) := by decide +kernel
theorem dX1_squareOfDistance_33 : decode cX1_squareOfDistance 33 = .ok (.iload 5, 2) := by decide +kernel
theorem dX1_squareOfDistance_35 : decode cX1_squareOfDistance 35 = .ok (.imul, 1) := by decide +kernel
theorem dX1_squareOfDistance_36 : decode cX1_squareOfDistance 36 = .ok (.iload 6, 2) := by decide +kernel
theorem dX1_squareOfDistance_38 : decode cX1_squareOfDistance 38 = .ok (.iload 6, 2) := by decide +kernel
theorem dX1_squareOfDistance_40 : decode cX1_squareOfDistance 40 = .ok (.imul, 1) := by decide +kernel
theorem dX1_squareOfDistance_41 : decode cX1_squareOfDistance 41 = .ok (.iadd, 1) := by decide +kernel
theorem dX1_squareOfDistance_42 : decode cX1_squareOfDistance 42 = .ok (.iload 7, 2) := by decide +kernel
theorem dX1_squareOfDistance_44 : decode cX1_squareOfDistance 44 = .ok (.iload 7, 2) := by decide +kernel
theorem dX1_squareOfDistance_46 : decode cX1_squareOfDistance 46 = .ok (.imul, 1) := by decide +kernel
theorem dX1_squareOfDistance_47 : decode cX1_squareOfDistance 47 = .ok (.iadd, 1) := by decide +kernel
theorem dX1_squareOfDistance_48 : decode cX1_squareOfDistance 48 = .ok (.ireturn, 1) := by decide +kernel
theorem dX2_init_0 : decode cX2_init 0 = .ok (.aload_n 0, 1) := by decide +kernel
theorem dX2_init_1 : decode cX2_init 1 = .ok (.invokespecial 3, 3) := by decide +kernel
theorem dX2_init_4 : decode cX2_init 4 = .ok (.aload_n 0, 1) := by decide +kernel
theorem dX2_init_5 : decode cX2_init 5 = .ok (.bipush 40, 2) := by decide +kernel
theorem dX2_init_7 : decode cX2_init 7 = .ok (.newarray .int, 2) := by decide +kernel
theorem dX2_init_9 : decode cX2_init 9 = .ok (.putfield 9, 3) := by decide +kernel
theorem dX2_init_12 : decode cX2_init 12 = .ok (.aload_n 0, 1) := by decide +kernel
theorem dX2_init_13 : decode cX2_init 13 = .ok (.bipush 40, 2) := by decide +kernel
theorem dX2_init_15 : decode cX2_init 15 = .ok (.newarray .long, 2) := by decide +kernel
theorem dX2_init_17 : decode cX2_init 17 = .ok (.putfield 15, 3) := by decide +kernel
theorem dX2_init_20 : decode cX2_init 20 = .ok (.aload_n 0, 1) := by decide +kernel
theorem dX2_init_21 : decode cX2_init 21 = .ok (.bipush 40, 2) := by decide +kernel
theorem dX2_init_23 : decode cX2_init 23 = .ok (.newarray .long, 2) := by decide +kernel
theorem dX2_init_25 : decode cX2_init 25 = .ok (.putfield 19, 3) := by decide +kernel
theorem dX2_init_28 : decode cX2_init 28 = .ok (.aload_n 0, 1) := by decide +kernel
theorem dX2_init_29 : decode cX2_init 29 = .ok (.bipush 40, 2) := by decide +kernel
theorem dX2_init_31 : decode cX2_init 31 = .ok (.newarray .long, 2) := by decide +kernel
theorem dX2_init_33 : decode cX2_init 33 = .ok (.putfield 22, 3) := by decide +kernel
theorem dX2_init_36 : decode cX2_init 36 = .ok (.aload_n 0, 1) := by decide +kernel
theorem dX2_init_37 : decode cX2_init 37 = .ok (.bipush 40, 2) := by decide +kernel
theorem dX2_init_39 : decode cX2_init 39 = .ok (.newarray .long, 2) := by decide +kernel
theorem dX2_init_41 : decode cX2_init 41 = .ok (.putfield 25, 3) := by decide +kernel
theorem dX2_init_44 : decode cX2_init 44 = .ok (.aload_n 0, 1) := by decide +kernel
theorem dX2_init_45 : decode cX2_init 45 = .ok (.bipush 40, 2) := by decide +kernel
theorem dX2_init_47 : decode cX2_init 47 = .ok (.newarray .long, 2) := by decide +kernel
theorem dX2_init_49 : decode cX2_init 49 = .ok (.putfield 28, 3) := by decide +kernel
theorem dX2_init_52 : decode cX2_init 52 = .ok (.aload_n 0, 1) := by decide +kernel
theorem dX2_init_53 : decode cX2_init 53 = .ok (.bipush 40, 2) := by decide +kernel
theorem dX2_init_55 : decode cX2_init 55 = .ok (.newarray .int, 2) := by decide +kernel
theorem dX2_init_57 : decode cX2_init 57 = .ok (.putfield 31, 3) := by decide +kernel
theorem dX2_init_60 : decode cX2_init 60 = .ok (.aload_n 0, 1) := by decide +kernel
theorem dX2_init_61 : decode cX2_init 61 = .ok (.bipush 40, 2) := by decide +kernel
theorem dX2_init_63 : decode cX2_init 63 = .ok (.newarray .int, 2) := by decide +kernel
theorem dX2_init_65 : decode cX2_init 65 = .ok (.putfield 34, 3) := by decide +kernel
theorem dX2_init_68 : decode cX2_init 68 = .ok (.aload_n 0, 1) := by decide +kernel
theorem dX2_init_69 : decode cX2_init 69 = .ok (.bipush 40, 2) := by decide +kernel
theorem dX2_init_71 : decode cX2_init 71 = .ok (.newarray .int, 2) := by decide +kernel
theorem dX2_init_73 : decode cX2_init 73 = .ok (.putfield 37, 3) := by decide +kernel
theorem dX2_init_76 : decode cX2_init 76 = .ok (.return_, 1) := by decide +kernel
theorem dX2_isSameBody_0 : decode cX2_isSameBody 0 = .ok (.aload_n 0, 1) := by decide +kernel
theorem dX2_isSameBody_1 : decode cX2_isSameBody 1 = .ok (.getfield 9, 3) := by decide +kernel
theorem dX2_isSameBody_4 : decode cX2_isSameBody 4 = .ok (.iload_n 1, 1) := by decide +kernel
theorem dX2_isSameBody_5 : decode cX2_isSameBody 5 = .ok (.iaload, 1) := by decide +kernel
theorem dX2_isSameBody_6 : decode cX2_isSameBody 6 = .ok (.aload_n 0, 1) := by decide +kernel
theorem dX2_isSameBody_7 : decode cX2_isSameBody 7 = .ok (.getfield 9, 3) := by decide +kernel
theorem dX2_isSameBody_10 : decode cX2_isSameBody 10 = .ok (.iload_n 2, 1) := by decide +kernel
theorem dX2_isSameBody_11 : decode cX2_isSameBody 11 = .ok (.iaload, 1) := by decide +kernel
theorem dX2_isSameBody_12 : decode cX2_isSameBody 12 = .ok (.if_icmp .ne 7, 3) := by decide +kernel
theorem dX2_isSameBody_15 : decode cX2_isSameBody 15 = .ok (.iconst 1, 1) := by decide +kernel
theorem dX2_isSameBody_16 : decode cX2_isSameBody 16 = .ok (.goto 4, 3) := by decide +kernel
theorem dX2_isSameBody_19 : decode cX2_isSameBody 19 = .ok (.iconst 0, 1) := by decide +kernel
theorem dX2_isSameBody_20 : decode cX2_isSameBody 20 = .ok (.ireturn, 1) := by decide +kernel
theorem dX2_isLater_0 : decode cX2_isLater 0 = .ok (.aload_n 0, 1) := by decide +kernel
theorem dX2_isLater_1 : decode cX2_isLater 1 = .ok (.getfield 22, 3) := by decide +kernel
theorem dX2_isLater_4 : decode cX2_isLater 4 = .ok (.aload_n 0, 1) := by decide +kernel
theorem dX2_isLater_5 : decode cX2_isLater 5 = .ok (.getfield 9, 3) := by decide +kernel
theorem dX2_isLater_8 : decode cX2_isLater 8 = .ok (.iload_n 1, 1) := by decide +kernel
theorem dX2_isLater_9 : decode cX2_isLater 9 = .ok (.iaload, 1) := by decide +kernel
theorem dX2_isLater_10 : decode cX2_isLater 10 = .ok (.laload, 1) := by decide +kernel
theorem dX2_isLater_11 : decode cX2_isLater 11 = .ok (.aload_n 0, 1) := by decide +kernel
theorem dX2_isLater_12 : decode cX2_isLater 12 = .ok (.getfield 9, 3) := by decide +kernel
theorem dX2_isLater_15 : decode cX2_isLater 15 = .ok (.iload_n 2, 1) := by decide +kernel
theorem dX2_isLater_16 : decode cX2_isLater 16 = .ok (.iaload, 1) := by decide +kernel
theorem dX2_isLater_17 : decode cX2_isLater 17 = .ok (.invokestatic 40, 3) := by decide +kernel
theorem dX2_isLater_20 : decode cX2_isLater 20 = .ok (.ireturn, 1) := by decide +kernel
theorem dX2_renew_0 : decode cX2_renew 0 = .ok (.aload_n 0, 1) := by decide +kernel
theorem dX2_renew_1 : decode cX2_renew 1 = .ok (.iload_n 1, 1) := by decide +kernel
theorem dX2_renew_2 : decode cX2_renew 2 = .ok (.putfield 44, 3) := by decide +kernel
theorem dX2_renew_5 : decode cX2_renew 5 = .ok (.aload_n 0, 1) := by decide +kernel
theorem dX2_renew_6 : decode cX2_renew 6 = .ok (.aload_n 2, 1) := by decide +kernel
theorem dX2_renew_7 : decode cX2_renew 7 = .ok (.invokevirtual 48, 3) := by decide +kernel
theorem dX2_renew_10 : decode cX2_renew 10 = .ok (.aload_n 0, 1) := by decide +kernel
theorem dX2_renew_11 : decode cX2_renew 11 = .ok (.invokevirtual 52, 3) := by decide +kernel
theorem dX2_renew_14 : decode cX2_renew 14 = .ok (.aload_n 0, 1) := by decide +kernel
theorem dX2_renew_15 : decode cX2_renew 15 = .ok (.aload_n 2, 1) := by decide +kernel
theorem dX2_renew_16 : decode cX2_renew 16 = .ok (.invokevirtual 55, 3) := by decide +kernel
theorem dX2_renew_19 : decode cX2_renew 19 = .ok (.aload_n 0, 1) := by decide +kernel
theorem dX2_renew_20 : decode cX2_renew 20 = .ok (.invokevirtual 58, 3) := by decide +kernel
theorem dX2_renew_23 : decode cX2_renew 23 = .ok (.aload_n 0, 1) := by decide +kernel
theorem dX2_renew_24 : decode cX2_renew 24 = .ok (.invokevirtual 61, 3) := by decide +kernel
theorem dX2_renew_27 : decode cX2_renew 27 = .ok (.aload_n 0, 1) := by decide +kernel
theorem dX2_renew_28 : decode cX2_renew 28 = .ok (.invokevirtual 64, 3) := by decide +kernel
theorem dX2_renew_31 : decode cX2_renew 31 = .ok (.aload_n 0, 1) := by decide +kernel
theorem dX2_renew_32 : decode cX2_renew 32 = .ok (.aload_n 0, 1) := by decide +kernel
theorem dX2_renew_33 : decode cX2_renew 33 = .ok (.getfield 67, 3) := by decide +kernel
theorem dX2_renew_36 : decode cX2_renew 36 = .ok (.aload_n 0, 1) := by decide +kernel
theorem dX2_renew_37 : decode cX2_renew 37 = .ok (.getfield 22, 3) := by decide +kernel
theorem dX2_renew_40 : decode cX2_renew 40 = .ok (.aload_n 0, 1) := by decide +kernel
theorem dX2_renew_41 : decode cX2_renew 41 = .ok (.getfield 31, 3) := by decide +kernel
theorem dX2_renew_44 : decode cX2_renew 44 = .ok (.invokevirtual 71, 3) := by decide +kernel
theorem dX2_renew_47 : decode cX2_renew 47 = .ok (.aload_n 0, 1) := by decide +kernel
theorem dX2_renew_48 : decode cX2_renew 48 = .ok (.aload_n 0, 1) := by decide +kernel
theorem dX2_renew_49 : decode cX2_renew 49 = .ok (.getfield 67, 3) := by decide +kernel
theorem dX2_renew_52 : decode cX2_renew 52 = .ok (.aload_n 0, 1) := by decide +kernel
theorem dX2_renew_53 : decode cX2_renew 53 = .ok (.getfield 25, 3) := by decide +kernel
theorem dX2_renew_56 : decode cX2_renew 56 = .ok (.aload_n 0, 1) := by decide +kernel
theorem dX2_renew_57 : decode cX2_renew 57 = .ok (.getfield 34, 3) := by decide +kernel
theorem dX2_renew_60 : decode cX2_renew 60 = .ok (.invokevirtual 71, 3) := by decide +kernel
theorem dX2_renew_63 : decode cX2_renew 63 = .ok (.return_, 1) := by decide +kernel
theorem dX2_joinUnits_0 : decode cX2_joinUnits 0 = .ok (.iconst 0, 1) := by decide +kernel
theorem dX2_joinUnits_1 : decode cX2_joinUnits 1 = .ok (.istore_n 2, 1) := by decide +kernel
theorem dX2_joinUnits_2 : decode cX2_joinUnits 2 = .ok (.iload_n 2, 1) := by decide +kernel
theorem dX2_joinUnits_3 : decode cX2_joinUnits 3 = .ok (.aload_n 0, 1) := by decide +kernel
theorem dX2_joinUnits_4 : decode cX2_joinUnits 4 = .ok (.getfield 44, 3) := by decide +kernel
theorem dX2_joinUnits_7 : decode cX2_joinUnits 7 = .ok (.if_icmp .ge 16, 3) := by decide +kernel
theorem dX2_joinUnits_10 : decode cX2_joinUnits 10 = .ok (.aload_n 0, 1) := by decide +kernel
theorem dX2_joinUnits_11 : decode cX2_joinUnits 11 = .ok (.getfield 9, 3) := by decide +kernel
theorem dX2_joinUnits_14 : decode cX2_joinUnits 14 = .ok (.iload_n 2, 1) := by decide +kernel
theorem dX2_joinUnits_15 : decode cX2_joinUnits 15 = .ok (.iload_n 2, 1) := by decide +kernel
theorem dX2_joinUnits_16 : decode cX2_joinUnits 16 = .ok (.iastore, 1) := by decide +kernel
theorem dX2_joinUnits_17 : decode cX2_joinUnits 17 = .ok (.iinc 2 1, 3) := by decide +kernel
theorem dX2_joinUnits_20 : decode cX2_joinUnits 20 = .ok (.goto (-18), 3) := by decide +kernel
theorem dX2_joinUnits_23 : decode cX2_joinUnits 23 = .ok (.iconst 0, 1) := by decide +kernel
theorem dX2_joinUnits_24 : decode cX2_joinUnits 24 = .ok (.istore_n 2, 1) := by decide +kernel
theorem dX2_joinUnits_25 : decode cX2_joinUnits 25 = .ok (.iload_n 2, 1) := by decide +kernel
theorem dX2_joinUnits_26 : decode cX2_joinUnits 26 = .ok (.aload_n 1, 1) := by decide +kernel
theorem dX2_joinUnits_27 : decode cX2_joinUnits 27 = .ok (.getfield 75, 3) := by decide +kernel
theorem dX2_joinUnits_30 : decode cX2_joinUnits 30 = .ok (.if_icmp .ge 45, 3) := by decide +kernel
theorem dX2_joinUnits_33 : decode cX2_joinUnits 33 = .ok (.aload_n 1, 1) := by decide +kernel
theorem dX2_joinUnits_34 : decode cX2_joinUnits 34 = .ok (.getfield 78, 3) := by decide +kernel
theorem dX2_joinUnits_37 : decode cX2_joinUnits 37 = .ok (.iload_n 2, 1) := by decide +kernel
theorem dX2_joinUnits_38 : decode cX2_joinUnits 38 = .ok (.iaload, 1) := by decide +kernel
theorem dX2_joinUnits_39 : decode cX2_joinUnits 39 = .ok (.iconst 4, 1) := by decide +kernel
theorem dX2_joinUnits_40 : decode cX2_joinUnits 40 = .ok (.if_icmp .ne 29, 3) := by decide +kernel
theorem dX2_joinUnits_43 : decode cX2_joinUnits 43 = .ok (.aload_n 0, 1) := by decide +kernel
theorem dX2_joinUnits_44 : decode cX2_joinUnits 44 = .ok (.aload_n 0, 1) := by decide +kernel
theorem dX2_joinUnits_45 : decode cX2_joinUnits 45 = .ok (.getfield 9, 3) := by decide +kernel
theorem dX2_joinUnits_48 : decode cX2_joinUnits 48 = .ok (.aload_n 1, 1) := by decide +kernel
theorem dX2_joinUnits_49 : decode cX2_joinUnits 49 = .ok (.getfield 81, 3) := by decide +kernel
theorem dX2_joinUnits_52 : decode cX2_joinUnits 52 = .ok (.iload_n 2, 1) := by decide +kernel
theorem dX2_joinUnits_53 : decode cX2_joinUnits 53 = .ok (.iaload, 1) := by decide +kernel
theorem dX2_joinUnits_54 : decode cX2_joinUnits 54 = .ok (.iaload, 1) := by decide +kernel
theorem dX2_joinUnits_55 : decode cX2_joinUnits 55 = .ok (.aload_n 0, 1) := by decide +kernel
theorem dX2_joinUnits_56 : decode cX2_joinUnits 56 = .ok (.getfield 9, 3) := by decide +kernel
theorem dX2_joinUnits_59 : decode cX2_joinUnits 59 = .ok (.aload_n 1, 1) := by decide +kernel
theorem dX2_joinUnits_60 : decode cX2_joinUnits 60 = .ok (.getfield 84, 3) := by decide +kernel
theorem dX2_joinUnits_63 : decode cX2_joinUnits 63 = .ok (.iload_n 2, 1) := by decide +kernel
theorem dX2_joinUnits_64 : decode cX2_joinUnits 64 = .ok (.iaload, 1) := by decide +kernel
theorem dX2_joinUnits_65 : decode cX2_joinUnits 65 = .ok (.iaload, 1) := by decide +kernel
theorem dX2_joinUnits_66 : decode cX2_joinUnits 66 = .ok (.invokevirtual 87, 3) := by decide +kernel
theorem dX2_joinUnits_69 : decode cX2_joinUnits 69 = .ok (.iinc 2 1, 3) := by decide +kernel
theorem dX2_joinUnits_72 : decode cX2_joinUnits 72 = .ok (.goto (-47), 3) := by decide +kernel
theorem dX2_joinUnits_75 : decode cX2_joinUnits 75 = .ok (.return_, 1) := by decide +kernel
theorem dX2_joinBodies_0 : decode cX2_joinBodies 0 = .ok (.iload_n 1, 1) := by decide +kernel
theorem dX2_joinBodies_1 : decode cX2_joinBodies 1 = .ok (.iload_n 2, 1) := by decide +kernel
theorem dX2_joinBodies_2 : decode cX2_joinBodies 2 = .ok (.invokestatic 91, 3) := by decide +kernel
theorem dX2_joinBodies_5 : decode cX2_joinBodies 5 = .ok (.istore_n 3, 1) := by decide +kernel
theorem dX2_joinBodies_6 : decode cX2_joinBodies 6 = .ok (.iconst 0, 1) := by decide +kernel
theorem dX2_joinBodies_7 : decode cX2_joinBodies 7 = .ok (.istore 4, 2) := by decide +kernel
theorem dX2_joinBodies_9 : decode cX2_joinBodies 9 = .ok (.iload 4, 2) := by decide +kernel
theorem dX2_joinBodies_11 : decode cX2_joinBodies 11 = .ok (.aload_n 0, 1) := by decide +kernel
theorem dX2_joinBodies_12 : decode cX2_joinBodies 12 = .ok (.getfield 44, 3) := by decide +kernel
theorem dX2_joinBodies_15 : decode cX2_joinBodies 15 = .ok (.if_icmp .ge 39, 3) := by decide +kernel
theorem dX2_joinBodies_18 : decode cX2_joinBodies 18 = .ok (.aload_n 0, 1) := by decide +kernel
theorem dX2_joinBodies_19 : decode cX2_joinBodies 19 = .ok (.getfield 9, 3) := by decide +kernel
theorem dX2_joinBodies_22 : decode cX2_joinBodies 22 = .ok (.iload 4, 2) := by decide +kernel
theorem dX2_joinBodies_24 : decode cX2_joinBodies 24 = .ok (.iaload, 1) := by decide +kernel
theorem dX2_joinBodies_25 : decode cX2_joinBodies 25 = .ok (.iload_n 1, 1) := by decide +kernel
theorem dX2_joinBodies_26 : decode cX2_joinBodies 26 = .ok (.if_icmp .eq 14, 3) := by decide +kernel
theorem dX2_joinBodies_29 : decode cX2_joinBodies 29 = .ok (.aload_n 0, 1) := by decide +kernel
theorem dX2_joinBodies_30 : decode cX2_joinBodies 30 = .ok (.getfield 9, 3) := by decide +kernel
theorem dX2_joinBodies_33 : decode cX2_joinBodies 33 = .ok (.iload 4, 2) := by decide +kernel
theorem dX2_joinBodies_35 : decode cX2_joinBodies 35 = .ok (.iaload, 1) := by decide +kernel
theorem dX2_joinBodies_36 : decode cX2_joinBodies 36 = .ok (.iload_n 2, 1) := by decide +kernel
theorem dX2_joinBodies_37 : decode cX2_joinBodies 37 = .ok (.if_icmp .ne 11, 3) := by decide +kernel
theorem dX2_joinBodies_40 : decode cX2_joinBodies 40 = .ok (.aload_n 0, 1) := by decide +kernel
theorem dX2_joinBodies_41 : decode cX2_joinBodies 41 = .ok (.getfield 9, 3) := by decide +kernel
theorem dX2_joinBodies_44 : decode cX2_joinBodies 44 = .ok (.iload 4, 2) := by decide +kernel
theorem dX2_joinBodies_46 : decode cX2_joinBodies 46 = .ok (.iload_n 3, 1) := by decide +kernel
theorem dX2_joinBodies_47 : decode cX2_joinBodies 47 = .ok (.iastore, 1) := by decide +kernel
theorem dX2_joinBodies_48 : decode cX2_joinBodies 48 = .ok (.iinc 4 1, 3) := by decide +kernel
theorem dX2_joinBodies_51 : decode cX2_joinBodies 51 = .ok (.goto (-42), 3) := by decide +kernel
theorem dX2_joinBodies_54 : decode cX2_joinBodies 54 = .ok (.return_, 1) := by decide +kernel
theorem dX2_gatherMembers_0 : decode cX2_gatherMembers 0 = .ok (.aload_n 0, 1) := by decide +kernel
theorem dX2_gatherMembers_1 : decode cX2_gatherMembers 1 = .ok (.lconst 0, 1) := by decide +kernel
theorem dX2_gatherMembers_2 : decode cX2_gatherMembers 2 = .ok (.putfield 67, 3) := by decide +kernel
theorem dX2_gatherMembers_5 : decode cX2_gatherMembers 5 = .ok (.iconst 0, 1) := by decide +kernel
theorem dX2_gatherMembers_6 : decode cX2_gatherMembers 6 = .ok (.istore_n 1, 1) := by decide +kernel
theorem dX2_gatherMembers_7 : decode cX2_gatherMembers 7 = .ok (.iload_n 1, 1) := by decide +kernel
theorem dX2_gatherMembers_8 : decode cX2_gatherMembers 8 = .ok (.aload_n 0, 1) := by decide +kernel
theorem dX2_gatherMembers_9 : decode cX2_gatherMembers 9 = .ok (.getfield 44, 3) := by decide +kernel
theorem dX2_gatherMembers_12 : decode cX2_gatherMembers 12 = .ok (.if_icmp .ge 16, 3) := by decide +kernel
theorem dX2_gatherMembers_15 : decode cX2_gatherMembers 15 = .ok (.aload_n 0, 1) := by decide +kernel
theorem dX2_gatherMembers_16 : decode cX2_gatherMembers 16 = .ok (.getfield 15, 3) := by decide +kernel
theorem dX2_gatherMembers_19 : decode cX2_gatherMembers 19 = .ok (.iload_n 1, 1) := by decide +kernel
theorem dX2_gatherMembers_20 : decode cX2_gatherMembers 20 = .ok (.lconst 0, 1) := by decide +kernel
theorem dX2_gatherMembers_21 : decode cX2_gatherMembers 21 = .ok (.lastore, 1) := by decide +kernel
theorem dX2_gatherMembers_22 : decode cX2_gatherMembers 22 = .ok (.iinc 1 1, 3) := by decide +kernel
theorem dX2_gatherMembers_25 : decode cX2_gatherMembers 25 = .ok (.goto (-18), 3) := by decide +kernel
theorem dX2_gatherMembers_28 : decode cX2_gatherMembers 28 = .ok (.iconst 0, 1) := by decide +kernel
theorem dX2_gatherMembers_29 : decode cX2_gatherMembers 29 = .ok (.istore_n 1, 1) := by decide +kernel
theorem dX2_gatherMembers_30 : decode cX2_gatherMembers 30 = .ok (.iload_n 1, 1) := by decide +kernel
theorem dX2_gatherMembers_31 : decode cX2_gatherMembers 31 = .ok (.aload_n 0, 1) := by decide +kernel
theorem dX2_gatherMembers_32 : decode cX2_gatherMembers 32 = .ok (.getfield 44, 3) := by decide +kernel
theorem dX2_gatherMembers_35 : decode cX2_gatherMembers 35 = .ok (.if_icmp .ge 45, 3) := by decide +kernel
theorem dX2_gatherMembers_38 : decode cX2_gatherMembers 38 = .ok (.aload_n 0, 1) := by decide +kernel
theorem dX2_gatherMembers_39 : decode cX2_gatherMembers 39 = .ok (.dup, 1) := by decide +kernel
theorem dX2_gatherMembers_40 : decode cX2_gatherMembers 40 = .ok (.getfield 67, 3) := by decide +kernel
theorem dX2_gatherMembers_43 : decode cX2_gatherMembers 43 = .ok (.aload_n 0, 1) := by decide +kernel
theorem dX2_gatherMembers_44 : decode cX2_gatherMembers 44 = .ok (.getfield 9, 3) := by decide +kernel
theorem dX2_gatherMembers_47 : decode cX2_gatherMembers 47 = .ok (.iload_n 1, 1) := by decide +kernel
theorem dX2_gatherMembers_48 : decode cX2_gatherMembers 48 = .ok (.iaload, 1) := by decide +kernel
theorem dX2_gatherMembers_49 : decode cX2_gatherMembers 49 = .ok (.invokestatic 97, 3) := by decide +kernel
theorem dX2_gatherMembers_52 : decode cX2_gatherMembers 52 = .ok (.lor, 1) := by decide +kernel
theorem dX2_gatherMembers_53 : decode cX2_gatherMembers 53 = .ok (.putfield 67, 3) := by decide +kernel
theorem dX2_gatherMembers_56 : decode cX2_gatherMembers 56 = .ok (.aload_n 0, 1) := by decide +kernel
theorem dX2_gatherMembers_57 : decode cX2_gatherMembers 57 = .ok (.getfield 15, 3) := by decide +kernel
theorem dX2_gatherMembers_60 : decode cX2_gatherMembers 60 = .ok (.aload_n 0, 1) := by decide +kernel
theorem dX2_gatherMembers_61 : decode cX2_gatherMembers 61 = .ok (.getfield 9, 3) := by decide +kernel
theorem dX2_gatherMembers_64 : decode cX2_gatherMembers 64 = .ok (.iload_n 1, 1) := by decide +kernel
theorem dX2_gatherMembers_65 : decode cX2_gatherMembers 65 = .ok (.iaload, 1) := by decide +kernel
theorem dX2_gatherMembers_66 : decode cX2_gatherMembers 66 = .ok (.dup2, 1) := by decide +kernel
theorem dX2_gatherMembers_67 : decode cX2_gatherMembers 67 = .ok (.laload, 1) := by decide +kernel
theorem dX2_gatherMembers_68 : decode cX2_gatherMembers 68 = .ok (.iload_n 1, 1) := by decide +kernel
theorem dX2_gatherMembers_69 : decode cX2_gatherMembers 69 = .ok (.invokestatic 97, 3) := by decide +kernel
theorem dX2_gatherMembers_72 : decode cX2_gatherMembers 72 = .ok (.lor, 1) := by decide +kernel
theorem dX2_gatherMembers_73 : decode cX2_gatherMembers 73 = .ok (.lastore, 1) := by decide +kernel
theorem dX2_gatherMembers_74 : decode cX2_gatherMembers 74 = .ok (.iinc 1 1, 3) := by decide +kernel
theorem dX2_gatherMembers_77 : decode cX2_gatherMembers 77 = .ok (.goto (-47), 3) := by decide +kernel
theorem dX2_gatherMembers_80 : decode cX2_gatherMembers 80 = .ok (.return_, 1) := by decide +kernel
theorem dX2_gatherDirectlyEarlier_0 : decode cX2_gatherDirectlyEarlier 0 = .ok (.iconst 0, 1) := by decide +kernel
theorem dX2_gatherDirectlyEarlier_1 : decode cX2_gatherDirectlyEarlier 1 = .ok (.istore_n 2, 1) := by decide +kernel
theorem dX2_gatherDirectlyEarlier_2 : decode cX2_gatherDirectlyEarlier 2 = .ok (.iload_n 2, 1) := by decide +kernel
theorem dX2_gatherDirectlyEarlier_3 : decode cX2_gatherDirectlyEarlier 3 = .ok (.aload_n 0, 1) := by decide +kernel
theorem dX2_gatherDirectlyEarlier_4 : decode cX2_gatherDirectlyEarlier 4 = .ok (.getfield 44, 3) := by decide +kernel
theorem dX2_gatherDirectlyEarlier_7 : decode cX2_gatherDirectlyEarlier 7 = .ok (.if_icmp .ge 16, 3) := by decide +kernel
theorem dX2_gatherDirectlyEarlier_10 : decode cX2_gatherDirectlyEarlier 10 = .ok (.aload_n 0, 1) := by decide +kernel
theorem dX2_gatherDirectlyEarlier_11 : decode cX2_gatherDirectlyEarlier 11 = .ok (.getfield 19, 3) := by decide +kernel
theorem dX2_gatherDirectlyEarlier_14 : decode cX2_gatherDirectlyEarlier 14 = .ok (.iload_n 2, 1) := by decide +kernel
theorem dX2_gatherDirectlyEarlier_15 : decode cX2_gatherDirectlyEarlier 15 = .ok (.lconst 0, 1) := by decide +kernel
theorem dX2_gatherDirectlyEarlier_16 : decode cX2_gatherDirectlyEarlier 16 = .ok (.lastore, 1) := by decide +kernel
theorem dX2_gatherDirectlyEarlier_17 : decode cX2_gatherDirectlyEarlier 17 = .ok (.iinc 2 1, 3) := by decide +kernel
theorem dX2_gatherDirectlyEarlier_20 : decode cX2_gatherDirectlyEarlier 20 = .ok (.goto (-18), 3) := by decide +kernel
theorem dX2_gatherDirectlyEarlier_23 : decode cX2_gatherDirectlyEarlier 23 = .ok (.iconst 0, 1) := by decide +kernel
theorem dX2_gatherDirectlyEarlier_24 : decode cX2_gatherDirectlyEarlier 24 = .ok (.istore_n 2, 1) := by decide +kernel
theorem dX2_gatherDirectlyEarlier_25 : decode cX2_gatherDirectlyEarlier 25 = .ok (.iload_n 2, 1) := by decide +kernel
theorem dX2_gatherDirectlyEarlier_26 : decode cX2_gatherDirectlyEarlier 26 = .ok (.aload_n 1, 1) := by decide +kernel
theorem dX2_gatherDirectlyEarlier_27 : decode cX2_gatherDirectlyEarlier 27 = .ok (.getfield 75, 3) := by decide +kernel
theorem dX2_gatherDirectlyEarlier_30 : decode cX2_gatherDirectlyEarlier 30 = .ok (.if_icmp .ge 54, 3) := by decide +kernel
theorem dX2_gatherDirectlyEarlier_33 : decode cX2_gatherDirectlyEarlier 33 = .ok (.aload_n 1, 1) := by decide +kernel
theorem dX2_gatherDirectlyEarlier_34 : decode cX2_gatherDirectlyEarlier 34 = .ok (.getfield 78, 3) := by decide +kernel
theorem dX2_gatherDirectlyEarlier_37 : decode cX2_gatherDirectlyEarlier 37 = .ok (.iload_n 2, 1) := by decide +kernel
theorem dX2_gatherDirectlyEarlier_38 : decode cX2_gatherDirectlyEarlier 38 = .ok (.iaload, 1) := by decide +kernel
theorem dX2_gatherDirectlyEarlier_39 : decode cX2_gatherDirectlyEarlier 39 = .ok (.iconst 4, 1) := by decide +kernel
theorem dX2_gatherDirectlyEarlier_40 : decode cX2_gatherDirectlyEarlier 40 = .ok (.if_icmp .eq 38, 3) := by decide +kernel
theorem dX2_gatherDirectlyEarlier_43 : decode cX2_gatherDirectlyEarlier 43 = .ok (.aload_n 0, 1) := by decide +kernel
theorem dX2_gatherDirectlyEarlier_44 : decode cX2_gatherDirectlyEarlier 44 = .ok (.getfield 9, 3) := by decide +kernel
theorem dX2_gatherDirectlyEarlier_47 : decode cX2_gatherDirectlyEarlier 47 = .ok (.aload_n 1, 1) := by decide +kernel
theorem dX2_gatherDirectlyEarlier_48 : decode cX2_gatherDirectlyEarlier 48 = .ok (.getfield 81, 3) := by decide +kernel
theorem dX2_gatherDirectlyEarlier_51 : decode cX2_gatherDirectlyEarlier 51 = .ok (.iload_n 2, 1) := by decide +kernel
theorem dX2_gatherDirectlyEarlier_52 : decode cX2_gatherDirectlyEarlier 52 = .ok (.iaload, 1) := by decide +kernel
theorem dX2_gatherDirectlyEarlier_53 : decode cX2_gatherDirectlyEarlier 53 = .ok (.iaload, 1) := by decide +kernel
theorem dX2_gatherDirectlyEarlier_54 : decode cX2_gatherDirectlyEarlier 54 = .ok (.istore_n 3, 1) := by decide +kernel
theorem dX2_gatherDirectlyEarlier_55 : decode cX2_gatherDirectlyEarlier 55 = .ok (.aload_n 0, 1) := by decide +kernel
theorem dX2_gatherDirectlyEarlier_56 : decode cX2_gatherDirectlyEarlier 56 = .ok (.getfield 19, 3) := by decide +kernel
theorem dX2_gatherDirectlyEarlier_59 : decode cX2_gatherDirectlyEarlier 59 = .ok (.iload_n 3, 1) := by decide +kernel
theorem dX2_gatherDirectlyEarlier_60 : decode cX2_gatherDirectlyEarlier 60 = .ok (.dup2, 1) := by decide +kernel
theorem dX2_gatherDirectlyEarlier_61 : decode cX2_gatherDirectlyEarlier 61 = .ok (.laload, 1) := by decide +kernel
theorem dX2_gatherDirectlyEarlier_62 : decode cX2_gatherDirectlyEarlier 62 = .ok (.aload_n 0, 1) := by decide +kernel
theorem dX2_gatherDirectlyEarlier_63 : decode cX2_gatherDirectlyEarlier 63 = .ok (.getfield 9, 3) := by decide +kernel
theorem dX2_gatherDirectlyEarlier_66 : decode cX2_gatherDirectlyEarlier 66 = .ok (.aload_n 1, 1) := by decide +kernel
theorem dX2_gatherDirectlyEarlier_67 : decode cX2_gatherDirectlyEarlier 67 = .ok (.getfield 84, 3) := by decide +kernel
theorem dX2_gatherDirectlyEarlier_70 : decode cX2_gatherDirectlyEarlier 70 = .ok (.iload_n 2, 1) := by decide +kernel
theorem dX2_gatherDirectlyEarlier_71 : decode cX2_gatherDirectlyEarlier 71 = .ok (.iaload, 1) := by decide +kernel
theorem dX2_gatherDirectlyEarlier_72 : decode cX2_gatherDirectlyEarlier 72 = .ok (.iaload, 1) := by decide +kernel
theorem dX2_gatherDirectlyEarlier_73 : decode cX2_gatherDirectlyEarlier 73 = .ok (.invokestatic 97, 3) := by decide +kernel
theorem dX2_gatherDirectlyEarlier_76 : decode cX2_gatherDirectlyEarlier 76 = .ok (.lor, 1) := by decide +kernel
theorem dX2_gatherDirectlyEarlier_77 : decode cX2_gatherDirectlyEarlier 77 = .ok (.lastore, 1) := by decide +kernel
theorem dX2_gatherDirectlyEarlier_78 : decode cX2_gatherDirectlyEarlier 78 = .ok (.iinc 2 1, 3) := by decide +kernel
theorem dX2_gatherDirectlyEarlier_81 : decode cX2_gatherDirectlyEarlier 81 = .ok (.goto (-56), 3) := by decide +kernel
theorem dX2_gatherDirectlyEarlier_84 : decode cX2_gatherDirectlyEarlier 84 = .ok (.return_, 1) := by decide +kernel
theorem dX2_gatherEarlier_0 : decode cX2_gatherEarlier 0 = .ok (.iconst 0, 1) := by decide +kernel
theorem dX2_gatherEarlier_1 : decode cX2_gatherEarlier 1 = .ok (.istore_n 1, 1) := by decide +kernel
theorem dX2_gatherEarlier_2 : decode cX2_gatherEarlier 2 = .ok (.iload_n 1, 1) := by decide +kernel
theorem dX2_gatherEarlier_3 : decode cX2_gatherEarlier 3 = .ok (.aload_n 0, 1) := by decide +kernel
theorem dX2_gatherEarlier_4 : decode cX2_gatherEarlier 4 = .ok (.getfield 44, 3) := by decide +kernel
theorem dX2_gatherEarlier_7 : decode cX2_gatherEarlier 7 = .ok (.if_icmp .ge 21, 3) := by decide +kernel
theorem dX2_gatherEarlier_10 : decode cX2_gatherEarlier 10 = .ok (.aload_n 0, 1) := by decide +kernel
theorem dX2_gatherEarlier_11 : decode cX2_gatherEarlier 11 = .ok (.getfield 22, 3) := by decide +kernel
theorem dX2_gatherEarlier_14 : decode cX2_gatherEarlier 14 = .ok (.iload_n 1, 1) := by decide +kernel
theorem dX2_gatherEarlier_15 : decode cX2_gatherEarlier 15 = .ok (.aload_n 0, 1) := by decide +kernel
theorem dX2_gatherEarlier_16 : decode cX2_gatherEarlier 16 = .ok (.getfield 19, 3) := by decide +kernel
theorem dX2_gatherEarlier_19 : decode cX2_gatherEarlier 19 = .ok (.iload_n 1, 1) := by decide +kernel
theorem dX2_gatherEarlier_20 : decode cX2_gatherEarlier 20 = .ok (.laload, 1) := by decide +kernel
theorem dX2_gatherEarlier_21 : decode cX2_gatherEarlier 21 = .ok (.lastore, 1) := by decide +kernel
theorem dX2_gatherEarlier_22 : decode cX2_gatherEarlier 22 = .ok (.iinc 1 1, 3) := by decide +kernel
theorem dX2_gatherEarlier_25 : decode cX2_gatherEarlier 25 = .ok (.goto (-23), 3) := by decide +kernel
theorem dX2_gatherEarlier_28 : decode cX2_gatherEarlier 28 = .ok (.iconst 0, 1) := by decide +kernel
theorem dX2_gatherEarlier_29 : decode cX2_gatherEarlier 29 = .ok (.istore_n 1, 1) := by decide +kernel
theorem dX2_gatherEarlier_30 : decode cX2_gatherEarlier 30 = .ok (.iload_n 1, 1) := by decide +kernel
theorem dX2_gatherEarlier_31 : decode cX2_gatherEarlier 31 = .ok (.aload_n 0, 1) := by decide +kernel
theorem dX2_gatherEarlier_32 : decode cX2_gatherEarlier 32 = .ok (.getfield 44, 3) := by decide +kernel
theorem dX2_gatherEarlier_35 : decode cX2_gatherEarlier 35 = .ok (.if_icmp .ge 53, 3) := by decide +kernel
theorem dX2_gatherEarlier_38 : decode cX2_gatherEarlier 38 = .ok (.iconst 0, 1) := by decide +kernel
theorem dX2_gatherEarlier_39 : decode cX2_gatherEarlier 39 = .ok (.istore_n 2, 1) := by decide +kernel
theorem dX2_gatherEarlier_40 : decode cX2_gatherEarlier 40 = .ok (.iload_n 2, 1) := by decide +kernel
theorem dX2_gatherEarlier_41 : decode cX2_gatherEarlier 41 = .ok (.aload_n 0, 1) := by decide +kernel
theorem dX2_gatherEarlier_42 : decode cX2_gatherEarlier 42 = .ok (.getfield 44, 3) := by decide +kernel
theorem dX2_gatherEarlier_45 : decode cX2_gatherEarlier 45 = .ok (.if_icmp .ge 37, 3) := by decide +kernel
theorem dX2_gatherEarlier_48 : decode cX2_gatherEarlier 48 = .ok (.aload_n 0, 1) := by decide +kernel
theorem dX2_gatherEarlier_49 : decode cX2_gatherEarlier 49 = .ok (.getfield 22, 3) := by decide +kernel
theorem dX2_gatherEarlier_52 : decode cX2_gatherEarlier 52 = .ok (.iload_n 2, 1) := by decide +kernel
theorem dX2_gatherEarlier_53 : decode cX2_gatherEarlier 53 = .ok (.laload, 1) := by decide +kernel
theorem dX2_gatherEarlier_54 : decode cX2_gatherEarlier 54 = .ok (.iload_n 1, 1) := by decide +kernel
theorem dX2_gatherEarlier_55 : decode cX2_gatherEarlier 55 = .ok (.invokestatic 40, 3) := by decide +kernel
theorem dX2_gatherEarlier_58 : decode cX2_gatherEarlier 58 = .ok (.ifCond .eq 18, 3) := by decide +kernel
theorem dX2_gatherEarlier_61 : decode cX2_gatherEarlier 61 = .ok (.aload_n 0, 1) := by decide +kernel
theorem dX2_gatherEarlier_62 : decode cX2_gatherEarlier 62 = .ok (.getfield 22, 3) := by decide +kernel
theorem dX2_gatherEarlier_65 : decode cX2_gatherEarlier 65 = .ok (.iload_n 2, 1) := by decide +kernel
theorem dX2_gatherEarlier_66 : decode cX2_gatherEarlier 66 = .ok (.dup2, 1) := by decide +kernel
theorem dX2_gatherEarlier_67 : decode cX2_gatherEarlier 67 = .ok (.laload, 1) := by decide +kernel
theorem dX2_gatherEarlier_68 : decode cX2_gatherEarlier 68 = .ok (.aload_n 0, 1) := by decide +kernel
theorem dX2_gatherEarlier_69 : decode cX2_gatherEarlier 69 = .ok (.getfield 22, 3) := by decide +kernel
theorem dX2_gatherEarlier_72 : decode cX2_gatherEarlier 72 = .ok (.iload_n 1, 1) := by decide +kernel
theorem dX2_gatherEarlier_73 : decode cX2_gatherEarlier 73 = .ok (.laload, 1) := by decide +kernel
theorem dX2_gatherEarlier_74 : decode cX2_gatherEarlier 74 = .ok (.lor, 1) := by decide +kernel
theorem dX2_gatherEarlier_75 : decode cX2_gatherEarlier 75 = .ok (.lastore, 1) := by decide +kernel
theorem dX2_gatherEarlier_76 : decode cX2_gatherEarlier 76 = .ok (.iinc 2 1, 3) := by decide +kernel
theorem dX2_gatherEarlier_79 : decode cX2_gatherEarlier 79 = .ok (.goto (-39), 3) := by decide +kernel
theorem dX2_gatherEarlier_82 : decode cX2_gatherEarlier 82 = .ok (.iinc 1 1, 3) := by decide +kernel
theorem dX2_gatherEarlier_85 : decode cX2_gatherEarlier 85 = .ok (.goto (-55), 3) := by decide +kernel
theorem dX2_gatherEarlier_88 : decode cX2_gatherEarlier 88 = .ok (.return_, 1) := by decide +kernel
theorem dX2_gatherLater_0 : decode cX2_gatherLater 0 = .ok (.iconst 0, 1) := by decide +kernel
theorem dX2_gatherLater_1 : decode cX2_gatherLater 1 = .ok (.istore_n 1, 1) := by decide +kernel
theorem dX2_gatherLater_2 : decode cX2_gatherLater 2 = .ok (.iload_n 1, 1) := by decide +kernel
theorem dX2_gatherLater_3 : decode cX2_gatherLater 3 = .ok (.aload_n 0, 1) := by decide +kernel
theorem dX2_gatherLater_4 : decode cX2_gatherLater 4 = .ok (.getfield 44, 3) := by decide +kernel
theorem dX2_gatherLater_7 : decode cX2_gatherLater 7 = .ok (.if_icmp .ge 58, 3) := by decide +kernel
theorem dX2_gatherLater_10 : decode cX2_gatherLater 10 = .ok (.aload_n 0, 1) := by decide +kernel
theorem dX2_gatherLater_11 : decode cX2_gatherLater 11 = .ok (.getfield 25, 3) := by decide +kernel
theorem dX2_gatherLater_14 : decode cX2_gatherLater 14 = .ok (.iload_n 1, 1) := by decide +kernel
theorem dX2_gatherLater_15 : decode cX2_gatherLater 15 = .ok (.lconst 0, 1) := by decide +kernel
theorem dX2_gatherLater_16 : decode cX2_gatherLater 16 = .ok (.lastore, 1) := by decide +kernel
theorem dX2_gatherLater_17 : decode cX2_gatherLater 17 = .ok (.iconst 0, 1) := by decide +kernel
theorem dX2_gatherLater_18 : decode cX2_gatherLater 18 = .ok (.istore_n 2, 1) := by decide +kernel
theorem dX2_gatherLater_19 : decode cX2_gatherLater 19 = .ok (.iload_n 2, 1) := by decide +kernel
theorem dX2_gatherLater_20 : decode cX2_gatherLater 20 = .ok (.aload_n 0, 1) := by decide +kernel
theorem dX2_gatherLater_21 : decode cX2_gatherLater 21 = .ok (.getfield 44, 3) := by decide +kernel
theorem dX2_gatherLater_24 : decode cX2_gatherLater 24 = .ok (.if_icmp .ge 35, 3) := by decide +kernel
theorem dX2_gatherLater_27 : decode cX2_gatherLater 27 = .ok (.aload_n 0, 1) := by decide +kernel
theorem dX2_gatherLater_28 : decode cX2_gatherLater 28 = .ok (.getfield 22, 3) := by decide +kernel
theorem dX2_gatherLater_31 : decode cX2_gatherLater 31 = .ok (.iload_n 2, 1) := by decide +kernel
theorem dX2_gatherLater_32 : decode cX2_gatherLater 32 = .ok (.laload, 1) := by decide +kernel
theorem dX2_gatherLater_33 : decode cX2_gatherLater 33 = .ok (.iload_n 1, 1) := by decide +kernel
theorem dX2_gatherLater_34 : decode cX2_gatherLater 34 = .ok (.invokestatic 40, 3) := by decide +kernel
theorem dX2_gatherLater_37 : decode cX2_gatherLater 37 = .ok (.ifCond .eq 16, 3) := by decide +kernel
theorem dX2_gatherLater_40 : decode cX2_gatherLater 40 = .ok (.aload_n 0, 1) := by decide +kernel
theorem dX2_gatherLater_41 : decode cX2_gatherLater 41 = .ok (.getfield 25, 3) := by decide +kernel
theorem dX2_gatherLater_44 : decode cX2_gatherLater 44 = .ok (.iload_n 1, 1) := by decide +kernel
theorem dX2_gatherLater_45 : decode cX2_gatherLater 45 = .ok (.dup2, 1) := by decide +kernel
theorem dX2_gatherLater_46 : decode cX2_gatherLater 46 = .ok (.laload, 1) := by decide +kernel
theorem dX2_gatherLater_47 : decode cX2_gatherLater 47 = .ok (.iload_n 2, 1) := by decide +kernel
theorem dX2_gatherLater_48 : decode cX2_gatherLater 48 = .ok (.invokestatic 97, 3) := by decide +kernel
theorem dX2_gatherLater_51 : decode cX2_gatherLater 51 = .ok (.lor, 1) := by decide +kernel
theorem dX2_gatherLater_52 : decode cX2_gatherLater 52 = .ok (.lastore, 1) := by decide +kernel
theorem dX2_gatherLater_53 : decode cX2_gatherLater 53 = .ok (.iinc 2 1, 3) := by decide +kernel
theorem dX2_gatherLater_56 : decode cX2_gatherLater 56 = .ok (.goto (-37), 3) := by decide +kernel
theorem dX2_gatherLater_59 : decode cX2_gatherLater 59 = .ok (.iinc 1 1, 3) := by decide +kernel
theorem dX2_gatherLater_62 : decode cX2_gatherLater 62 = .ok (.goto (-60), 3) := by decide +kernel
theorem dX2_gatherLater_65 : decode cX2_gatherLater 65 = .ok (.return_, 1) := by decide +kernel
theorem dX2_gatherLinks_0 : decode cX2_gatherLinks 0 = .ok (.iconst 0, 1) := by decide +kernel
theorem dX2_gatherLinks_1 : decode cX2_gatherLinks 1 = .ok (.istore_n 1, 1) := by decide +kernel
theorem dX2_gatherLinks_2 : decode cX2_gatherLinks 2 = .ok (.iload_n 1, 1) := by decide +kernel
theorem dX2_gatherLinks_3 : decode cX2_gatherLinks 3 = .ok (.aload_n 0, 1) := by decide +kernel
theorem dX2_gatherLinks_4 : decode cX2_gatherLinks 4 = .ok (.getfield 44, 3) := by decide +kernel
theorem dX2_gatherLinks_7 : decode cX2_gatherLinks 7 = .ok (.if_icmp .ge 71, 3) := by decide +kernel
theorem dX2_gatherLinks_10 : decode cX2_gatherLinks 10 = .ok (.lconst 0, 1) := by decide +kernel
theorem dX2_gatherLinks_11 : decode cX2_gatherLinks 11 = .ok (.lstore_n 2, 1) := by decide +kernel
theorem dX2_gatherLinks_12 : decode cX2_gatherLinks 12 = .ok (.iconst 0, 1) := by decide +kernel
theorem dX2_gatherLinks_13 : decode cX2_gatherLinks 13 = .ok (.istore 4, 2) := by decide +kernel
theorem dX2_gatherLinks_15 : decode cX2_gatherLinks 15 = .ok (.iload 4, 2) := by decide +kernel
theorem dX2_gatherLinks_17 : decode cX2_gatherLinks 17 = .ok (.aload_n 0, 1) := by decide +kernel
theorem dX2_gatherLinks_18 : decode cX2_gatherLinks 18 = .ok (.getfield 44, 3) := by decide +kernel
theorem dX2_gatherLinks_21 : decode cX2_gatherLinks 21 = .ok (.if_icmp .ge 33, 3) := by decide +kernel
theorem dX2_gatherLinks_24 : decode cX2_gatherLinks 24 = .ok (.aload_n 0, 1) := by decide +kernel
theorem dX2_gatherLinks_25 : decode cX2_gatherLinks 25 = .ok (.getfield 22, 3) := by decide +kernel
theorem dX2_gatherLinks_28 : decode cX2_gatherLinks 28 = .ok (.iload_n 1, 1) := by decide +kernel
theorem dX2_gatherLinks_29 : decode cX2_gatherLinks 29 = .ok (.laload, 1) := by decide +kernel
theorem dX2_gatherLinks_30 : decode cX2_gatherLinks 30 = .ok (.iload 4, 2) := by decide +kernel
theorem dX2_gatherLinks_32 : decode cX2_gatherLinks 32 = .ok (.invokestatic 40, 3) := by decide +kernel
theorem dX2_gatherLinks_35 : decode cX2_gatherLinks 35 = .ok (.ifCond .eq 13, 3) := by decide +kernel
theorem dX2_gatherLinks_38 : decode cX2_gatherLinks 38 = .ok (.lload_n 2, 1) := by decide +kernel
theorem dX2_gatherLinks_39 : decode cX2_gatherLinks 39 = .ok (.aload_n 0, 1) := by decide +kernel
theorem dX2_gatherLinks_40 : decode cX2_gatherLinks 40 = .ok (.getfield 22, 3) := by decide +kernel
theorem dX2_gatherLinks_43 : decode cX2_gatherLinks 43 = .ok (.iload 4, 2) := by decide +kernel
theorem dX2_gatherLinks_45 : decode cX2_gatherLinks 45 = .ok (.laload, 1) := by decide +kernel
theorem dX2_gatherLinks_46 : decode cX2_gatherLinks 46 = .ok (.lor, 1) := by decide +kernel
theorem dX2_gatherLinks_47 : decode cX2_gatherLinks 47 = .ok (.lstore_n 2, 1) := by decide +kernel
theorem dX2_gatherLinks_48 : decode cX2_gatherLinks 48 = .ok (.iinc 4 1, 3) := by decide +kernel
theorem dX2_gatherLinks_51 : decode cX2_gatherLinks 51 = .ok (.goto (-36), 3) := by decide +kernel
theorem dX2_gatherLinks_54 : decode cX2_gatherLinks 54 = .ok (.aload_n 0, 1) := by decide +kernel
theorem dX2_gatherLinks_55 : decode cX2_gatherLinks 55 = .ok (.getfield 28, 3) := by decide +kernel
theorem dX2_gatherLinks_58 : decode cX2_gatherLinks 58 = .ok (.iload_n 1, 1) := by decide +kernel
theorem dX2_gatherLinks_59 : decode cX2_gatherLinks 59 = .ok (.aload_n 0, 1) := by decide +kernel
theorem dX2_gatherLinks_60 : decode cX2_gatherLinks 60 = .ok (.getfield 19, 3) := by decide +kernel
theorem dX2_gatherLinks_63 : decode cX2_gatherLinks 63 = .ok (.iload_n 1, 1) := by decide +kernel
theorem dX2_gatherLinks_64 : decode cX2_gatherLinks 64 = .ok (.laload, 1) := by decide +kernel
theorem dX2_gatherLinks_65 : decode cX2_gatherLinks 65 = .ok (.lload_n 2, 1) := by decide +kernel
theorem dX2_gatherLinks_66 : decode cX2_gatherLinks 66 = .ok (.ldc2_w 101, 3) := by decide +kernel
theorem dX2_gatherLinks_69 : decode cX2_gatherLinks 69 = .ok (.lxor, 1) := by decide +kernel
theorem dX2_gatherLinks_70 : decode cX2_gatherLinks 70 = .ok (.land, 1) := by decide +kernel
theorem dX2_gatherLinks_71 : decode cX2_gatherLinks 71 = .ok (.lastore, 1) := by decide +kernel
theorem dX2_gatherLinks_72 : decode cX2_gatherLinks 72 = .ok (.iinc 1 1, 3) := by decide +kernel
theorem dX2_gatherLinks_75 : decode cX2_gatherLinks 75 = .ok (.goto (-73), 3) := by decide +kernel
theorem dX2_gatherLinks_78 : decode cX2_gatherLinks 78 = .ok (.return_, 1) := by decide +kernel
theorem dX2_rank_0 : decode cX2_rank 0 = .ok (.lconst 0, 1) := by decide +kernel
theorem dX2_rank_1 : decode cX2_rank 1 = .ok (.lstore 5, 2) := by decide +kernel
theorem dX2_rank_3 : decode cX2_rank 3 = .ok (.iconst 0, 1) := by decide +kernel
theorem dX2_rank_4 : decode cX2_rank 4 = .ok (.istore 7, 2) := by decide +kernel
theorem dX2_rank_6 : decode cX2_rank 6 = .ok (.iload 7, 2) := by decide +kernel
theorem dX2_rank_8 : decode cX2_rank 8 = .ok (.bipush 40, 2) := by decide +kernel
theorem dX2_rank_10 : decode cX2_rank 10 = .ok (.if_icmp .ge 83, 3) := by decide +kernel
theorem dX2_rank_13 : decode cX2_rank 13 = .ok (.lload 5, 2) := by decide +kernel
theorem dX2_rank_15 : decode cX2_rank 15 = .ok (.lload_n 1, 1) := by decide +kernel
theorem dX2_rank_16 : decode cX2_rank 16 = .ok (.lcmp, 1) := by decide +kernel
theorem dX2_rank_17 : decode cX2_rank 17 = .ok (.ifCond .eq 76, 3) := by decide +kernel
theorem dX2_rank_20 : decode cX2_rank 20 = .ok (.lload_n 1, 1) := by decide +kernel
theorem dX2_rank_21 : decode cX2_rank 21 = .ok (.lload 5, 2) := by decide +kernel
theorem dX2_rank_23 : decode cX2_rank 23 = .ok (.ldc2_w 101, 3) := by decide +kernel
theorem dX2_rank_26 : decode cX2_rank 26 = .ok (.lxor, 1) := by decide +kernel
theorem dX2_rank_27 : decode cX2_rank 27 = .ok (.land, 1) := by decide +kernel
theorem dX2_rank_28 : decode cX2_rank 28 = .ok (.lstore 8, 2) := by decide +kernel
theorem dX2_rank_30 : decode cX2_rank 30 = .ok (.iconst 0, 1) := by decide +kernel
theorem dX2_rank_31 : decode cX2_rank 31 = .ok (.istore 10, 2) := by decide +kernel
theorem dX2_rank_33 : decode cX2_rank 33 = .ok (.iload 10, 2) := by decide +kernel
theorem dX2_rank_35 : decode cX2_rank 35 = .ok (.aload_n 0, 1) := by decide +kernel
theorem dX2_rank_36 : decode cX2_rank 36 = .ok (.getfield 44, 3) := by decide +kernel
theorem dX2_rank_39 : decode cX2_rank 39 = .ok (.if_icmp .ge 48, 3) := by decide +kernel
theorem dX2_rank_42 : decode cX2_rank 42 = .ok (.lload 8, 2) := by decide +kernel
theorem dX2_rank_44 : decode cX2_rank 44 = .ok (.iload 10, 2) := by decide +kernel
theorem dX2_rank_46 : decode cX2_rank 46 = .ok (.invokestatic 40, 3) := by decide +kernel
theorem dX2_rank_49 : decode cX2_rank 49 = .ok (.ifCond .eq 32, 3) := by decide +kernel
theorem dX2_rank_52 : decode cX2_rank 52 = .ok (.aload_n 3, 1) := by decide +kernel
theorem dX2_rank_53 : decode cX2_rank 53 = .ok (.iload 10, 2) := by decide +kernel
theorem dX2_rank_55 : decode cX2_rank 55 = .ok (.laload, 1) := by decide +kernel
theorem dX2_rank_56 : decode cX2_rank 56 = .ok (.lload 8, 2) := by decide +kernel
theorem dX2_rank_58 : decode cX2_rank 58 = .ok (.land, 1) := by decide +kernel
theorem dX2_rank_59 : decode cX2_rank 59 = .ok (.lconst 0, 1) := by decide +kernel
theorem dX2_rank_60 : decode cX2_rank 60 = .ok (.lcmp, 1) := by decide +kernel
theorem dX2_rank_61 : decode cX2_rank 61 = .ok (.ifCond .ne 20, 3) := by decide +kernel
theorem dX2_rank_64 : decode cX2_rank 64 = .ok (.aload 4, 2) := by decide +kernel
theorem dX2_rank_66 : decode cX2_rank 66 = .ok (.iload 10, 2) := by decide +kernel
theorem dX2_rank_68 : decode cX2_rank 68 = .ok (.iload 7, 2) := by decide +kernel
theorem dX2_rank_70 : decode cX2_rank 70 = .ok (.iastore, 1) := by decide +kernel
theorem dX2_rank_71 : decode cX2_rank 71 = .ok (.lload 5, 2) := by decide +kernel
theorem dX2_rank_73 : decode cX2_rank 73 = .ok (.iload 10, 2) := by decide +kernel
theorem dX2_rank_75 : decode cX2_rank 75 = .ok (.invokestatic 97, 3) := by decide +kernel
theorem dX2_rank_78 : decode cX2_rank 78 = .ok (.lor, 1) := by decide +kernel
theorem dX2_rank_79 : decode cX2_rank 79 = .ok (.lstore 5, 2) := by decide +kernel
theorem dX2_rank_81 : decode cX2_rank 81 = .ok (.iinc 10 1, 3) := by decide +kernel
theorem dX2_rank_84 : decode cX2_rank 84 = .ok (.goto (-51), 3) := by decide +kernel
theorem dX2_rank_87 : decode cX2_rank 87 = .ok (.iinc 7 1, 3) := by decide +kernel
theorem dX2_rank_90 : decode cX2_rank 90 = .ok (.goto (-84), 3) := by decide +kernel
theorem dX2_rank_93 : decode cX2_rank 93 = .ok (.return_, 1) := by decide +kernel
theorem dX2_linkCount_0 : decode cX2_linkCount 0 = .ok (.iconst 0, 1) := by decide +kernel
theorem dX2_linkCount_1 : decode cX2_linkCount 1 = .ok (.istore_n 1, 1) := by decide +kernel
theorem dX2_linkCount_2 : decode cX2_linkCount 2 = .ok (.iconst 0, 1) := by decide +kernel
theorem dX2_linkCount_3 : decode cX2_linkCount 3 = .ok (.istore_n 2, 1) := by decide +kernel
theorem dX2_linkCount_4 : decode cX2_linkCount 4 = .ok (.iload_n 2, 1) := by decide +kernel
theorem dX2_linkCount_5 : decode cX2_linkCount 5 = .ok (.aload_n 0, 1) := by decide +kernel
theorem dX2_linkCount_6 : decode cX2_linkCount 6 = .ok (.getfield 44, 3) := by decide +kernel
theorem dX2_linkCount_9 : decode cX2_linkCount 9 = .ok (.if_icmp .ge 21, 3) := by decide +kernel
theorem dX2_linkCount_12 : decode cX2_linkCount 12 = .ok (.iload_n 1, 1) := by decide +kernel
theorem dX2_linkCount_13 : decode cX2_linkCount 13 = .ok (.aload_n 0, 1) := by decide +kernel
theorem dX2_linkCount_14 : decode cX2_linkCount 14 = .ok (.getfield 28, 3) := by decide +kernel
theorem dX2_linkCount_17 : decode cX2_linkCount 17 = .ok (.iload_n 2, 1) := by decide +kernel
theorem dX2_linkCount_18 : decode cX2_linkCount 18 = .ok (.laload, 1) := by decide +kernel
theorem dX2_linkCount_19 : decode cX2_linkCount 19 = .ok (.invokestatic 103, 3) := by decide +kernel
theorem dX2_linkCount_22 : decode cX2_linkCount 22 = .ok (.iadd, 1) := by decide +kernel
theorem dX2_linkCount_23 : decode cX2_linkCount 23 = .ok (.istore_n 1, 1) := by decide +kernel
theorem dX2_linkCount_24 : decode cX2_linkCount 24 = .ok (.iinc 2 1, 3) := by decide +kernel
theorem dX2_linkCount_27 : decode cX2_linkCount 27 = .ok (.goto (-23), 3) := by decide +kernel
theorem dX2_linkCount_30 : decode cX2_linkCount 30 = .ok (.iload_n 1, 1) := by decide +kernel
theorem dX2_linkCount_31 : decode cX2_linkCount 31 = .ok (.ireturn, 1) := by decide +kernel
theorem dX2_levelCount_0 : decode cX2_levelCount 0 = .ok (.iconst 0, 1) := by decide +kernel
theorem dX2_levelCount_1 : decode cX2_levelCount 1 = .ok (.istore_n 1, 1) := by decide +kernel
theorem dX2_levelCount_2 : decode cX2_levelCount 2 = .ok (.iconst 0, 1) := by decide +kernel
theorem dX2_levelCount_3 : decode cX2_levelCount 3 = .ok (.istore_n 2, 1) := by decide +kernel
theorem dX2_levelCount_4 : decode cX2_levelCount 4 = .ok (.iload_n 2, 1) := by decide +kernel
theorem dX2_levelCount_5 : decode cX2_levelCount 5 = .ok (.aload_n 0, 1) := by decide +kernel
theorem dX2_levelCount_6 : decode cX2_levelCount 6 = .ok (.getfield 44, 3) := by decide +kernel
theorem dX2_levelCount_9 : decode cX2_levelCount 9 = .ok (.if_icmp .ge 33, 3) := by decide +kernel
theorem dX2_levelCount_12 : decode cX2_levelCount 12 = .ok (.aload_n 0, 1) := by decide +kernel
theorem dX2_levelCount_13 : decode cX2_levelCount 13 = .ok (.getfield 67, 3) := by decide +kernel
theorem dX2_levelCount_16 : decode cX2_levelCount 16 = .ok (.iload_n 2, 1) := by decide +kernel
theorem dX2_levelCount_17 : decode cX2_levelCount 17 = .ok (.invokestatic 40, 3) := by decide +kernel
theorem dX2_levelCount_20 : decode cX2_levelCount 20 = .ok (.ifCond .eq 16, 3) := by decide +kernel
theorem dX2_levelCount_23 : decode cX2_levelCount 23 = .ok (.iload_n 1, 1) := by decide +kernel
theorem dX2_levelCount_24 : decode cX2_levelCount 24 = .ok (.aload_n 0, 1) := by decide +kernel
theorem dX2_levelCount_25 : decode cX2_levelCount 25 = .ok (.getfield 31, 3) := by decide +kernel
theorem dX2_levelCount_28 : decode cX2_levelCount 28 = .ok (.iload_n 2, 1) := by decide +kernel
theorem dX2_levelCount_29 : decode cX2_levelCount 29 = .ok (.iaload, 1) := by decide +kernel
theorem dX2_levelCount_30 : decode cX2_levelCount 30 = .ok (.iconst 1, 1) := by decide +kernel
theorem dX2_levelCount_31 : decode cX2_levelCount 31 = .ok (.iadd, 1) := by decide +kernel
theorem dX2_levelCount_32 : decode cX2_levelCount 32 = .ok (.invokestatic 109, 3) := by decide +kernel
theorem dX2_levelCount_35 : decode cX2_levelCount 35 = .ok (.istore_n 1, 1) := by decide +kernel
theorem dX2_levelCount_36 : decode cX2_levelCount 36 = .ok (.iinc 2 1, 3) := by decide +kernel
theorem dX2_levelCount_39 : decode cX2_levelCount 39 = .ok (.goto (-35), 3) := by decide +kernel
theorem dX2_levelCount_42 : decode cX2_levelCount 42 = .ok (.iload_n 1, 1) := by decide +kernel
theorem dX2_levelCount_43 : decode cX2_levelCount 43 = .ok (.ireturn, 1) := by decide +kernel
theorem dX2_bodiesOnLevel_0 : decode cX2_bodiesOnLevel 0 = .ok (.iload_n 2, 1) := by decide +kernel
theorem dX2_bodiesOnLevel_1 : decode cX2_bodiesOnLevel 1 = .ok (.ifCond .eq 10, 3) := by decide +kernel
theorem dX2_bodiesOnLevel_4 : decode cX2_bodiesOnLevel 4 = .ok (.aload_n 0, 1) := by decide +kernel
theorem dX2_bodiesOnLevel_5 : decode cX2_bodiesOnLevel 5 = .ok (.getfield 31, 3) := by decide +kernel
theorem dX2_bodiesOnLevel_8 : decode cX2_bodiesOnLevel 8 = .ok (.goto 7, 3) := by decide +kernel
theorem dX2_bodiesOnLevel_11 : decode cX2_bodiesOnLevel 11 = .ok (.aload_n 0, 1) := by decide +kernel
theorem dX2_bodiesOnLevel_12 : decode cX2_bodiesOnLevel 12 = .ok (.getfield 34, 3) := by decide +kernel
theorem dX2_bodiesOnLevel_15 : decode cX2_bodiesOnLevel 15 = .ok (.astore_n 3, 1) := by decide +kernel
theorem dX2_bodiesOnLevel_16 : decode cX2_bodiesOnLevel 16 = .ok (.lconst 0, 1) := by decide +kernel
theorem dX2_bodiesOnLevel_17 : decode cX2_bodiesOnLevel 17 = .ok (.lstore 4, 2) := by decide +kernel
theorem dX2_bodiesOnLevel_19 : decode cX2_bodiesOnLevel 19 = .ok (.iconst 0, 1) := by decide +kernel
theorem dX2_bodiesOnLevel_20 : decode cX2_bodiesOnLevel 20 = .ok (.istore 6, 2) := by decide +kernel
theorem dX2_bodiesOnLevel_22 : decode cX2_bodiesOnLevel 22 = .ok (.iload 6, 2) := by decide +kernel
theorem dX2_bodiesOnLevel_24 : decode cX2_bodiesOnLevel 24 = .ok (.aload_n 0, 1) := by decide +kernel
theorem dX2_bodiesOnLevel_25 : decode cX2_bodiesOnLevel 25 = .ok (.getfield 44, 3) := by decide +kernel
theorem dX2_bodiesOnLevel_28 : decode cX2_bodiesOnLevel 28 = .ok (.if_icmp .ge 39, 3) := by decide +kernel
theorem dX2_bodiesOnLevel_31 : decode cX2_bodiesOnLevel 31 = .ok (.aload_n 0, 1) := by decide +kernel
theorem dX2_bodiesOnLevel_32 : decode cX2_bodiesOnLevel 32 = .ok (.getfield 67, 3) := by decide +kernel
theorem dX2_bodiesOnLevel_35 : decode cX2_bodiesOnLevel 35 = .ok (.iload 6, 2) := by decide +kernel
theorem dX2_bodiesOnLevel_37 : decode cX2_bodiesOnLevel 37 = .ok (.invokestatic 40, 3) := by decide +kernel
theorem dX2_bodiesOnLevel_40 : decode cX2_bodiesOnLevel 40 = .ok (.ifCond .eq 21, 3) := by decide +kernel
theorem dX2_bodiesOnLevel_43 : decode cX2_bodiesOnLevel 43 = .ok (.aload_n 3, 1) := by decide +kernel
theorem dX2_bodiesOnLevel_44 : decode cX2_bodiesOnLevel 44 = .ok (.iload 6, 2) := by decide +kernel
theorem dX2_bodiesOnLevel_46 : decode cX2_bodiesOnLevel 46 = .ok (.iaload, 1) := by decide +kernel
theorem dX2_bodiesOnLevel_47 : decode cX2_bodiesOnLevel 47 = .ok (.iload_n 1, 1) := by decide +kernel
theorem dX2_bodiesOnLevel_48 : decode cX2_bodiesOnLevel 48 = .ok (.if_icmp .ne 13, 3) := by decide +kernel
theorem dX2_bodiesOnLevel_51 : decode cX2_bodiesOnLevel 51 = .ok (.lload 4, 2) := by decide +kernel
theorem dX2_bodiesOnLevel_53 : decode cX2_bodiesOnLevel 53 = .ok (.iload 6, 2) := by decide +kernel
theorem dX2_bodiesOnLevel_55 : decode cX2_bodiesOnLevel 55 = .ok (.invokestatic 97, 3) := by decide +kernel
theorem dX2_bodiesOnLevel_58 : decode cX2_bodiesOnLevel 58 = .ok (.lor, 1) := by decide +kernel
theorem dX2_bodiesOnLevel_59 : decode cX2_bodiesOnLevel 59 = .ok (.lstore 4, 2) := by decide +kernel
theorem dX2_bodiesOnLevel_61 : decode cX2_bodiesOnLevel 61 = .ok (.iinc 6 1, 3) := by decide +kernel
theorem dX2_bodiesOnLevel_64 : decode cX2_bodiesOnLevel 64 = .ok (.goto (-42), 3) := by decide +kernel
theorem dX2_bodiesOnLevel_67 : decode cX2_bodiesOnLevel 67 = .ok (.lload 4, 2) := by decide +kernel
theorem dX2_bodiesOnLevel_69 : decode cX2_bodiesOnLevel 69 = .ok (.lreturn, 1) := by decide +kernel
theorem dX2_bodyOnWay_0 : decode cX2_bodyOnWay 0 = .ok (.aload_n 0, 1) := by decide +kernel
theorem dX2_bodyOnWay_1 : decode cX2_bodyOnWay 1 = .ok (.getfield 25, 3) := by decide +kernel
theorem dX2_bodyOnWay_4 : decode cX2_bodyOnWay 4 = .ok (.iload_n 2, 1) := by decide +kernel
theorem dX2_bodyOnWay_5 : decode cX2_bodyOnWay 5 = .ok (.laload, 1) := by decide +kernel
theorem dX2_bodyOnWay_6 : decode cX2_bodyOnWay 6 = .ok (.iload_n 2, 1) := by decide +kernel
theorem dX2_bodyOnWay_7 : decode cX2_bodyOnWay 7 = .ok (.invokestatic 97, 3) := by decide +kernel
theorem dX2_bodyOnWay_10 : decode cX2_bodyOnWay 10 = .ok (.lor, 1) := by decide +kernel
theorem dX2_bodyOnWay_11 : decode cX2_bodyOnWay 11 = .ok (.lstore 4, 2) := by decide +kernel
theorem dX2_bodyOnWay_13 : decode cX2_bodyOnWay 13 = .ok (.lload 4, 2) := by decide +kernel
theorem dX2_bodyOnWay_15 : decode cX2_bodyOnWay 15 = .ok (.iload_n 1, 1) := by decide +kernel
theorem dX2_bodyOnWay_16 : decode cX2_bodyOnWay 16 = .ok (.invokestatic 40, 3) := by decide +kernel
theorem dX2_bodyOnWay_19 : decode cX2_bodyOnWay 19 = .ok (.ifCond .ne 5, 3) := by decide +kernel
theorem dX2_bodyOnWay_22 : decode cX2_bodyOnWay 22 = .ok (.iconst (-1), 1) := by decide +kernel
theorem dX2_bodyOnWay_23 : decode cX2_bodyOnWay 23 = .ok (.ireturn, 1) := by decide +kernel
theorem dX2_bodyOnWay_24 : decode cX2_bodyOnWay 24 = .ok (.aload_n 0, 1) := by decide +kernel
theorem dX2_bodyOnWay_25 : decode cX2_bodyOnWay 25 = .ok (.lload 4, 2) := by decide +kernel
theorem dX2_bodyOnWay_27 : decode cX2_bodyOnWay 27 = .ok (.aload_n 0, 1) := by decide +kernel
theorem dX2_bodyOnWay_28 : decode cX2_bodyOnWay 28 = .ok (.getfield 22, 3) := by decide +kernel
theorem dX2_bodyOnWay_31 : decode cX2_bodyOnWay 31 = .ok (.aload_n 0, 1) := by decide +kernel
theorem dX2_bodyOnWay_32 : decode cX2_bodyOnWay 32 = .ok (.getfield 37, 3) := by decide +kernel
theorem dX2_bodyOnWay_35 : decode cX2_bodyOnWay 35 = .ok (.invokevirtual 71, 3) := by decide +kernel
theorem dX2_bodyOnWay_38 : decode cX2_bodyOnWay 38 = .ok (.iload_n 1, 1) := by decide +kernel
theorem dX2_bodyOnWay_39 : decode cX2_bodyOnWay 39 = .ok (.istore 6, 2) := by decide +kernel
theorem dX2_bodyOnWay_41 : decode cX2_bodyOnWay 41 = .ok (.iconst 0, 1) := by decide +kernel
theorem dX2_bodyOnWay_42 : decode cX2_bodyOnWay 42 = .ok (.istore 7, 2) := by decide +kernel
theorem dX2_bodyOnWay_44 : decode cX2_bodyOnWay 44 = .ok (.iload 7, 2) := by decide +kernel
theorem dX2_bodyOnWay_46 : decode cX2_bodyOnWay 46 = .ok (.iload_n 3, 1) := by decide +kernel
theorem dX2_bodyOnWay_47 : decode cX2_bodyOnWay 47 = .ok (.if_icmp .ge 32, 3) := by decide +kernel
theorem dX2_bodyOnWay_50 : decode cX2_bodyOnWay 50 = .ok (.iload 6, 2) := by decide +kernel
theorem dX2_bodyOnWay_52 : decode cX2_bodyOnWay 52 = .ok (.ifCond .lt 27, 3) := by decide +kernel
theorem dX2_bodyOnWay_55 : decode cX2_bodyOnWay 55 = .ok (.aload_n 0, 1) := by decide +kernel
theorem dX2_bodyOnWay_56 : decode cX2_bodyOnWay 56 = .ok (.iload 6, 2) := by decide +kernel
theorem dX2_bodyOnWay_58 : decode cX2_bodyOnWay 58 = .ok (.aload_n 0, 1) := by decide +kernel
theorem dX2_bodyOnWay_59 : decode cX2_bodyOnWay 59 = .ok (.getfield 28, 3) := by decide +kernel
theorem dX2_bodyOnWay_62 : decode cX2_bodyOnWay 62 = .ok (.iload 6, 2) := by decide +kernel
theorem dX2_bodyOnWay_64 : decode cX2_bodyOnWay 64 = .ok (.laload, 1) := by decide +kernel
theorem dX2_bodyOnWay_65 : decode cX2_bodyOnWay 65 = .ok (.lload 4, 2) := by decide +kernel
theorem dX2_bodyOnWay_67 : decode cX2_bodyOnWay 67 = .ok (.land, 1) := by decide +kernel
theorem dX2_bodyOnWay_68 : decode cX2_bodyOnWay 68 = .ok (.invokevirtual 112, 3) := by decide +kernel
theorem dX2_bodyOnWay_71 : decode cX2_bodyOnWay 71 = .ok (.istore 6, 2) := by decide +kernel
theorem dX2_bodyOnWay_73 : decode cX2_bodyOnWay 73 = .ok (.iinc 7 1, 3) := by decide +kernel
theorem dX2_bodyOnWay_76 : decode cX2_bodyOnWay 76 = .ok (.goto (-32), 3) := by decide +kernel
theorem dX2_bodyOnWay_79 : decode cX2_bodyOnWay 79 = .ok (.iload 6, 2) := by decide +kernel
theorem dX2_bodyOnWay_81 : decode cX2_bodyOnWay 81 = .ok (.ireturn, 1) := by decide +kernel
theorem dX2_nextOnWay_0 : decode cX2_nextOnWay 0 = .ok (.iconst 0, 1) := by decide +kernel
theorem dX2_nextOnWay_1 : decode cX2_nextOnWay 1 = .ok (.istore 4, 2) := by decide +kernel
theorem dX2_nextOnWay_3 : decode cX2_nextOnWay 3 = .ok (.iload 4, 2) := by decide +kernel
theorem dX2_nextOnWay_5 : decode cX2_nextOnWay 5 = .ok (.aload_n 0, 1) := by decide +kernel
theorem dX2_nextOnWay_6 : decode cX2_nextOnWay 6 = .ok (.getfield 44, 3) := by decide +kernel
theorem dX2_nextOnWay_9 : decode cX2_nextOnWay 9 = .ok (.if_icmp .ge 39, 3) := by decide +kernel
theorem dX2_nextOnWay_12 : decode cX2_nextOnWay 12 = .ok (.lload_n 2, 1) := by decide +kernel
theorem dX2_nextOnWay_13 : decode cX2_nextOnWay 13 = .ok (.iload 4, 2) := by decide +kernel
theorem dX2_nextOnWay_15 : decode cX2_nextOnWay 15 = .ok (.invokestatic 40, 3) := by decide +kernel
theorem dX2_nextOnWay_18 : decode cX2_nextOnWay 18 = .ok (.ifCond .eq 24, 3) := by decide +kernel
theorem dX2_nextOnWay_21 : decode cX2_nextOnWay 21 = .ok (.aload_n 0, 1) := by decide +kernel
theorem dX2_nextOnWay_22 : decode cX2_nextOnWay 22 = .ok (.getfield 37, 3) := by decide +kernel
theorem dX2_nextOnWay_25 : decode cX2_nextOnWay 25 = .ok (.iload 4, 2) := by decide +kernel
theorem dX2_nextOnWay_27 : decode cX2_nextOnWay 27 = .ok (.iaload, 1) := by decide +kernel
theorem dX2_nextOnWay_28 : decode cX2_nextOnWay 28 = .ok (.aload_n 0, 1) := by decide +kernel
theorem dX2_nextOnWay_29 : decode cX2_nextOnWay 29 = .ok (.getfield 37, 3) := by decide +kernel
theorem dX2_nextOnWay_32 : decode cX2_nextOnWay 32 = .ok (.iload_n 1, 1) := by decide +kernel
theorem dX2_nextOnWay_33 : decode cX2_nextOnWay 33 = .ok (.iaload, 1) := by decide +kernel
theorem dX2_nextOnWay_34 : decode cX2_nextOnWay 34 = .ok (.iconst 1, 1) := by decide +kernel
theorem dX2_nextOnWay_35 : decode cX2_nextOnWay 35 = .ok (.isub, 1) := by decide +kernel
theorem dX2_nextOnWay_36 : decode cX2_nextOnWay 36 = .ok (.if_icmp .ne 6, 3) := by decide +kernel
theorem dX2_nextOnWay_39 : decode cX2_nextOnWay 39 = .ok (.iload 4, 2) := by decide +kernel
theorem dX2_nextOnWay_41 : decode cX2_nextOnWay 41 = .ok (.ireturn, 1) := by decide +kernel
theorem dX2_nextOnWay_42 : decode cX2_nextOnWay 42 = .ok (.iinc 4 1, 3) := by decide +kernel
theorem dX2_nextOnWay_45 : decode cX2_nextOnWay 45 = .ok (.goto (-42), 3) := by decide +kernel
theorem dX2_nextOnWay_48 : decode cX2_nextOnWay 48 = .ok (.iconst (-1), 1) := by decide +kernel
theorem dX2_nextOnWay_49 : decode cX2_nextOnWay 49 = .ok (.ireturn, 1) := by decide +kernel
theorem dX3_init_0 : decode cX3_init 0 = .ok (.aload_n 0, 1) := by decide +kernel
theorem dX3_init_1 : decode cX3_init 1 = .ok (.invokespecial 3, 3) := by decide +kernel
theorem dX3_init_4 : decode cX3_init 4 = .ok (.aload_n 0, 1) := by decide +kernel
theorem dX3_init_5 : decode cX3_init 5 = .ok (.bipush 80, 2) := by decide +kernel
theorem dX3_init_7 : decode cX3_init 7 = .ok (.newarray .int, 2) := by decide +kernel
theorem dX3_init_9 : decode cX3_init 9 = .ok (.putfield 9, 3) := by decide +kernel
theorem dX3_init_12 : decode cX3_init 12 = .ok (.aload_n 0, 1) := by decide +kernel
theorem dX3_init_13 : decode cX3_init 13 = .ok (.bipush 80, 2) := by decide +kernel
theorem dX3_init_15 : decode cX3_init 15 = .ok (.newarray .int, 2) := by decide +kernel
theorem dX3_init_17 : decode cX3_init 17 = .ok (.putfield 15, 3) := by decide +kernel
theorem dX3_init_20 : decode cX3_init 20 = .ok (.aload_n 0, 1) := by decide +kernel
theorem dX3_init_21 : decode cX3_init 21 = .ok (.bipush 80, 2) := by decide +kernel
theorem dX3_init_23 : decode cX3_init 23 = .ok (.newarray .int, 2) := by decide +kernel
theorem dX3_init_25 : decode cX3_init 25 = .ok (.putfield 18, 3) := by decide +kernel
theorem dX3_init_28 : decode cX3_init 28 = .ok (.return_, 1) := by decide +kernel
theorem dX3_append_0 : decode cX3_append 0 = .ok (.aload_n 0, 1) := by decide +kernel
theorem dX3_append_1 : decode cX3_append 1 = .ok (.getfield 9, 3) := by decide +kernel
theorem dX3_append_4 : decode cX3_append 4 = .ok (.aload_n 0, 1) := by decide +kernel
theorem dX3_append_5 : decode cX3_append 5 = .ok (.getfield 21, 3) := by decide +kernel
theorem dX3_append_8 : decode cX3_append 8 = .ok (.iload_n 1, 1) := by decide +kernel
theorem dX3_append_9 : decode cX3_append 9 = .ok (.iastore, 1) := by decide +kernel
theorem dX3_append_10 : decode cX3_append 10 = .ok (.aload_n 0, 1) := by decide +kernel
theorem dX3_append_11 : decode cX3_append 11 = .ok (.getfield 15, 3) := by decide +kernel
theorem dX3_append_14 : decode cX3_append 14 = .ok (.aload_n 0, 1) := by decide +kernel
theorem dX3_append_15 : decode cX3_append 15 = .ok (.getfield 21, 3) := by decide +kernel
theorem dX3_append_18 : decode cX3_append 18 = .ok (.iload_n 2, 1) := by decide +kernel
theorem dX3_append_19 : decode cX3_append 19 = .ok (.iastore, 1) := by decide +kernel
theorem dX3_append_20 : decode cX3_append 20 = .ok (.aload_n 0, 1) := by decide +kernel
theorem dX3_append_21 : decode cX3_append 21 = .ok (.getfield 18, 3) := by decide +kernel
theorem dX3_append_24 : decode cX3_append 24 = .ok (.aload_n 0, 1) := by decide +kernel
theorem dX3_append_25 : decode cX3_append 25 = .ok (.getfield 21, 3) := by decide +kernel
theorem dX3_append_28 : decode cX3_append 28 = .ok (.iload_n 3, 1) := by decide +kernel
theorem dX3_append_29 : decode cX3_append 29 = .ok (.iastore, 1) := by decide +kernel
theorem dX3_append_30 : decode cX3_append 30 = .ok (.aload_n 0, 1) := by decide +kernel
theorem dX3_append_31 : decode cX3_append 31 = .ok (.dup, 1) := by decide +kernel
theorem dX3_append_32 : decode cX3_append 32 = .ok (.getfield 21, 3) := by decide +kernel
theorem dX3_append_35 : decode cX3_append 35 = .ok (.iconst 1, 1) := by decide +kernel
theorem dX3_append_36 : decode cX3_append 36 = .ok (.iadd, 1) := by decide +kernel
theorem dX3_append_37 : decode cX3_append 37 = .ok (.putfield 21, 3) := by decide +kernel
theorem dX3_append_40 : decode cX3_append 40 = .ok (.return_, 1) := by decide +kernel
theorem dX3_remove_0 : decode cX3_remove 0 = .ok (.iload_n 1, 1) := by decide +kernel
theorem dX3_remove_1 : decode cX3_remove 1 = .ok (.iconst 1, 1) := by decide +kernel
theorem dX3_remove_2 : decode cX3_remove 2 = .ok (.iadd, 1) := by decide +kernel
theorem dX3_remove_3 : decode cX3_remove 3 = .ok (.istore_n 2, 1) := by decide +kernel
theorem dX3_remove_4 : decode cX3_remove 4 = .ok (.iload_n 2, 1) := by decide +kernel
theorem dX3_remove_5 : decode cX3_remove 5 = .ok (.aload_n 0, 1) := by decide +kernel
theorem dX3_remove_6 : decode cX3_remove 6 = .ok (.getfield 21, 3) := by decide +kernel
theorem dX3_remove_9 : decode cX3_remove 9 = .ok (.if_icmp .ge 51, 3) := by decide +kernel
theorem dX3_remove_12 : decode cX3_remove 12 = .ok (.aload_n 0, 1) := by decide +kernel
theorem dX3_remove_13 : decode cX3_remove 13 = .ok (.getfield 9, 3) := by decide +kernel
theorem dX3_remove_16 : decode cX3_remove 16 = .ok (.iload_n 2, 1) := by decide +kernel
theorem dX3_remove_17 : decode cX3_remove 17 = .ok (.iconst 1, 1) := by decide +kernel
theorem dX3_remove_18 : decode cX3_remove 18 = .ok (.isub, 1) := by decide +kernel
theorem dX3_remove_19 : decode cX3_remove 19 = .ok (.aload_n 0, 1) := by decide +kernel
theorem dX3_remove_20 : decode cX3_remove 20 = .ok (.getfield 9, 3) := by decide +kernel
theorem dX3_remove_23 : decode cX3_remove 23 = .ok (.iload_n 2, 1) := by decide +kernel
theorem dX3_remove_24 : decode cX3_remove 24 = .ok (.iaload, 1) := by decide +kernel
theorem dX3_remove_25 : decode cX3_remove 25 = .ok (.iastore, 1) := by decide +kernel
theorem dX3_remove_26 : decode cX3_remove 26 = .ok (.aload_n 0, 1) := by decide +kernel
theorem dX3_remove_27 : decode cX3_remove 27 = .ok (.getfield 15, 3) := by decide +kernel
theorem dX3_remove_30 : decode cX3_remove 30 = .ok (.iload_n 2, 1) := by decide +kernel
theorem dX3_remove_31 : decode cX3_remove 31 = .ok (.iconst 1, 1) := by decide +kernel
theorem dX3_remove_32 : decode cX3_remove 32 = .ok (.isub, 1) := by decide +kernel
theorem dX3_remove_33 : decode cX3_remove 33 = .ok (.aload_n 0, 1) := by decide +kernel
theorem dX3_remove_34 : decode cX3_remove 34 = .ok (.getfield 15, 3) := by decide +kernel
theorem dX3_remove_37 : decode cX3_remove 37 = .ok (.iload_n 2, 1) := by decide +kernel
theorem dX3_remove_38 : decode cX3_remove 38 = .ok (.iaload, 1) := by decide +kernel
theorem dX3_remove_39 : decode cX3_remove 39 = .ok (.iastore, 1) := by decide +kernel
theorem dX3_remove_40 : decode cX3_remove 40 = .ok (.aload_n 0, 1) := by decide +kernel
theorem dX3_remove_41 : decode cX3_remove 41 = .ok (.getfield 18, 3) := by decide +kernel
theorem dX3_remove_44 : decode cX3_remove 44 = .ok (.iload_n 2, 1) := by decide +kernel
theorem dX3_remove_45 : decode cX3_remove 45 = .ok (.iconst 1, 1) := by decide +kernel
theorem dX3_remove_46 : decode cX3_remove 46 = .ok (.isub, 1) := by decide +kernel
theorem dX3_remove_47 : decode cX3_remove 47 = .ok (.aload_n 0, 1) := by decide +kernel
theorem dX3_remove_48 : decode cX3_remove 48 = .ok (.getfield 18, 3) := by decide +kernel
theorem dX3_remove_51 : decode cX3_remove 51 = .ok (.iload_n 2, 1) := by decide +kernel
theorem dX3_remove_52 : decode cX3_remove 52 = .ok (.iaload, 1) := by decide +kernel
theorem dX3_remove_53 : decode cX3_remove 53 = .ok (.iastore, 1) := by decide +kernel
theorem dX3_remove_54 : decode cX3_remove 54 = .ok (.iinc 2 1, 3) := by decide +kernel
theorem dX3_remove_57 : decode cX3_remove 57 = .ok (.goto (-53), 3) := by decide +kernel
theorem dX3_remove_60 : decode cX3_remove 60 = .ok (.aload_n 0, 1) := by decide +kernel
theorem dX3_remove_61 : decode cX3_remove 61 = .ok (.dup, 1) := by decide +kernel
theorem dX3_remove_62 : decode cX3_remove 62 = .ok (.getfield 21, 3) := by decide +kernel
theorem dX3_remove_65 : decode cX3_remove 65 = .ok (.iconst 1, 1) := by decide +kernel
theorem dX3_remove_66 : decode cX3_remove 66 = .ok (.isub, 1) := by decide +kernel
theorem dX3_remove_67 : decode cX3_remove 67 = .ok (.putfield 21, 3) := by decide +kernel
theorem dX3_remove_70 : decode cX3_remove 70 = .ok (.return_, 1) := by decide +kernel
theorem dX3_isTold_0 : decode cX3_isTold 0 = .ok (.iconst 0, 1) := by decide +kernel
theorem dX3_isTold_1 : decode cX3_isTold 1 = .ok (.istore 4, 2) := by decide +kernel
theorem dX3_isTold_3 : decode cX3_isTold 3 = .ok (.iload 4, 2) := by decide +kernel
theorem dX3_isTold_5 : decode cX3_isTold 5 = .ok (.aload_n 0, 1) := by decide +kernel
theorem dX3_isTold_6 : decode cX3_isTold 6 = .ok (.getfield 21, 3) := by decide +kernel
theorem dX3_isTold_9 : decode cX3_isTold 9 = .ok (.if_icmp .ge 95, 3) := by decide +kernel
theorem dX3_isTold_12 : decode cX3_isTold 12 = .ok (.aload_n 0, 1) := by decide +kernel
theorem dX3_isTold_13 : decode cX3_isTold 13 = .ok (.getfield 9, 3) := by decide +kernel
theorem dX3_isTold_16 : decode cX3_isTold 16 = .ok (.iload 4, 2) := by decide +kernel
theorem dX3_isTold_18 : decode cX3_isTold 18 = .ok (.iaload, 1) := by decide +kernel
theorem dX3_isTold_19 : decode cX3_isTold 19 = .ok (.iload_n 1, 1) := by decide +kernel
theorem dX3_isTold_20 : decode cX3_isTold 20 = .ok (.if_icmp .ne 78, 3) := by decide +kernel
theorem dX3_isTold_23 : decode cX3_isTold 23 = .ok (.aload_n 0, 1) := by decide +kernel
theorem dX3_isTold_24 : decode cX3_isTold 24 = .ok (.getfield 15, 3) := by decide +kernel
theorem dX3_isTold_27 : decode cX3_isTold 27 = .ok (.iload 4, 2) := by decide +kernel
theorem dX3_isTold_29 : decode cX3_isTold 29 = .ok (.iaload, 1) := by decide +kernel
theorem dX3_isTold_30 : decode cX3_isTold 30 = .ok (.iload_n 2, 1) := by decide +kernel
theorem dX3_isTold_31 : decode cX3_isTold 31 = .ok (.if_icmp .ne 18, 3) := by decide +kernel
theorem dX3_isTold_34 : decode cX3_isTold 34 = .ok (.aload_n 0, 1) := by decide +kernel
theorem dX3_isTold_35 : decode cX3_isTold 35 = .ok (.getfield 18, 3) := by decide +kernel
theorem dX3_isTold_38 : decode cX3_isTold 38 = .ok (.iload 4, 2) := by decide +kernel
theorem dX3_isTold_40 : decode cX3_isTold 40 = .ok (.iaload, 1) := by decide +kernel
theorem dX3_isTold_41 : decode cX3_isTold 41 = .ok (.iload_n 3, 1) := by decide +kernel
theorem dX3_isTold_42 : decode cX3_isTold 42 = .ok (.if_icmp .ne 7, 3) := by decide +kernel
theorem dX3_isTold_45 : decode cX3_isTold 45 = .ok (.iconst 1, 1) := by decide +kernel
theorem dX3_isTold_46 : decode cX3_isTold 46 = .ok (.goto 4, 3) := by decide +kernel
theorem dX3_isTold_49 : decode cX3_isTold 49 = .ok (.iconst 0, 1) := by decide +kernel
theorem dX3_isTold_50 : decode cX3_isTold 50 = .ok (.istore 5, 2) := by decide +kernel
theorem dX3_isTold_52 : decode cX3_isTold 52 = .ok (.aload_n 0, 1) := by decide +kernel
theorem dX3_isTold_53 : decode cX3_isTold 53 = .ok (.getfield 15, 3) := by decide +kernel
theorem dX3_isTold_56 : decode cX3_isTold 56 = .ok (.iload 4, 2) := by decide +kernel
theorem dX3_isTold_58 : decode cX3_isTold 58 = .ok (.iaload, 1) := by decide +kernel
theorem dX3_isTold_59 : decode cX3_isTold 59 = .ok (.iload_n 3, 1) := by decide +kernel
theorem dX3_isTold_60 : decode cX3_isTold 60 = .ok (.if_icmp .ne 18, 3) := by decide +kernel
theorem dX3_isTold_63 : decode cX3_isTold 63 = .ok (.aload_n 0, 1) := by decide +kernel
theorem dX3_isTold_64 : decode cX3_isTold 64 = .ok (.getfield 18, 3) := by decide +kernel
theorem dX3_isTold_67 : decode cX3_isTold 67 = .ok (.iload 4, 2) := by decide +kernel
theorem dX3_isTold_69 : decode cX3_isTold 69 = .ok (.iaload, 1) := by decide +kernel
theorem dX3_isTold_70 : decode cX3_isTold 70 = .ok (.iload_n 2, 1) := by decide +kernel
theorem dX3_isTold_71 : decode cX3_isTold 71 = .ok (.if_icmp .ne 7, 3) := by decide +kernel
theorem dX3_isTold_74 : decode cX3_isTold 74 = .ok (.iconst 1, 1) := by decide +kernel
theorem dX3_isTold_75 : decode cX3_isTold 75 = .ok (.goto 4, 3) := by decide +kernel
theorem dX3_isTold_78 : decode cX3_isTold 78 = .ok (.iconst 0, 1) := by decide +kernel
theorem dX3_isTold_79 : decode cX3_isTold 79 = .ok (.istore 6, 2) := by decide +kernel
theorem dX3_isTold_81 : decode cX3_isTold 81 = .ok (.iload 5, 2) := by decide +kernel
theorem dX3_isTold_83 : decode cX3_isTold 83 = .ok (.ifCond .ne 13, 3) := by decide +kernel
theorem dX3_isTold_86 : decode cX3_isTold 86 = .ok (.iload_n 1, 1) := by decide +kernel
theorem dX3_isTold_87 : decode cX3_isTold 87 = .ok (.iconst 4, 1) := by decide +kernel
theorem dX3_isTold_88 : decode cX3_isTold 88 = .ok (.if_icmp .ne 10, 3) := by decide +kernel
theorem dX3_isTold_91 : decode cX3_isTold 91 = .ok (.iload 6, 2) := by decide +kernel
theorem dX3_isTold_93 : decode cX3_isTold 93 = .ok (.ifCond .eq 5, 3) := by decide +kernel
theorem dX3_isTold_96 : decode cX3_isTold 96 = .ok (.iconst 1, 1) := by decide +kernel
theorem dX3_isTold_97 : decode cX3_isTold 97 = .ok (.ireturn, 1) := by decide +kernel
theorem dX3_isTold_98 : decode cX3_isTold 98 = .ok (.iinc 4 1, 3) := by decide +kernel
theorem dX3_isTold_101 : decode cX3_isTold 101 = .ok (.goto (-98), 3) := by decide +kernel
theorem dX3_isTold_104 : decode cX3_isTold 104 = .ok (.iconst 0, 1) := by decide +kernel
theorem dX3_isTold_105 : decode cX3_isTold 105 = .ok (.ireturn, 1) := by decide +kernel
theorem dX4_init_0 : decode cX4_init 0 = .ok (.aload_n 0, 1) := by decide +kernel
theorem dX4_init_1 : decode cX4_init 1 = .ok (.invokespecial 3, 3) := by decide +kernel
theorem dX4_init_4 : decode cX4_init 4 = .ok (.aload_n 0, 1) := by decide +kernel
theorem dX4_init_5 : decode cX4_init 5 = .ok (.bipush 40, 2) := by decide +kernel
theorem dX4_init_7 : decode cX4_init 7 = .ok (.newarray .int, 2) := by decide +kernel
theorem dX4_init_9 : decode cX4_init 9 = .ok (.putfield 9, 3) := by decide +kernel
theorem dX4_init_12 : decode cX4_init 12 = .ok (.aload_n 0, 1) := by decide +kernel
theorem dX4_init_13 : decode cX4_init 13 = .ok (.bipush 40, 2) := by decide +kernel
theorem dX4_init_15 : decode cX4_init 15 = .ok (.newarray .int, 2) := by decide +kernel
theorem dX4_init_17 : decode cX4_init 17 = .ok (.putfield 15, 3) := by decide +kernel
theorem dX4_init_20 : decode cX4_init 20 = .ok (.aload_n 0, 1) := by decide +kernel
theorem dX4_init_21 : decode cX4_init 21 = .ok (.bipush 40, 2) := by decide +kernel
theorem dX4_init_23 : decode cX4_init 23 = .ok (.newarray .int, 2) := by decide +kernel
theorem dX4_init_25 : decode cX4_init 25 = .ok (.putfield 18, 3) := by decide +kernel
theorem dX4_init_28 : decode cX4_init 28 = .ok (.aload_n 0, 1) := by decide +kernel
theorem dX4_init_29 : decode cX4_init 29 = .ok (.bipush 40, 2) := by decide +kernel
theorem dX4_init_31 : decode cX4_init 31 = .ok (.newarray .int, 2) := by decide +kernel
theorem dX4_init_33 : decode cX4_init 33 = .ok (.putfield 21, 3) := by decide +kernel
theorem dX4_init_36 : decode cX4_init 36 = .ok (.return_, 1) := by decide +kernel
theorem dX4_append_0 : decode cX4_append 0 = .ok (.aload_n 0, 1) := by decide +kernel
theorem dX4_append_1 : decode cX4_append 1 = .ok (.getfield 9, 3) := by decide +kernel
theorem dX4_append_4 : decode cX4_append 4 = .ok (.aload_n 0, 1) := by decide +kernel
theorem dX4_append_5 : decode cX4_append 5 = .ok (.getfield 24, 3) := by decide +kernel
theorem dX4_append_8 : decode cX4_append 8 = .ok (.iload_n 1, 1) := by decide +kernel
theorem dX4_append_9 : decode cX4_append 9 = .ok (.iastore, 1) := by decide +kernel
theorem dX4_append_10 : decode cX4_append 10 = .ok (.aload_n 0, 1) := by decide +kernel
theorem dX4_append_11 : decode cX4_append 11 = .ok (.dup, 1) := by decide +kernel
theorem dX4_append_12 : decode cX4_append 12 = .ok (.getfield 24, 3) := by decide +kernel
theorem dX4_append_15 : decode cX4_append 15 = .ok (.iconst 1, 1) := by decide +kernel
theorem dX4_append_16 : decode cX4_append 16 = .ok (.iadd, 1) := by decide +kernel
theorem dX4_append_17 : decode cX4_append 17 = .ok (.putfield 24, 3) := by decide +kernel
theorem dX4_append_20 : decode cX4_append 20 = .ok (.aload_n 0, 1) := by decide +kernel
theorem dX4_append_21 : decode cX4_append 21 = .ok (.getfield 24, 3) := by decide +kernel
theorem dX4_append_24 : decode cX4_append 24 = .ok (.iconst 1, 1) := by decide +kernel
theorem dX4_append_25 : decode cX4_append 25 = .ok (.isub, 1) := by decide +kernel
theorem dX4_append_26 : decode cX4_append 26 = .ok (.ireturn, 1) := by decide +kernel
theorem dX4_setDate_0 : decode cX4_setDate 0 = .ok (.aload_n 0, 1) := by decide +kernel
theorem dX4_setDate_1 : decode cX4_setDate 1 = .ok (.getfield 18, 3) := by decide +kernel
theorem dX4_setDate_4 : decode cX4_setDate 4 = .ok (.iload_n 1, 1) := by decide +kernel
theorem dX4_setDate_5 : decode cX4_setDate 5 = .ok (.iload_n 2, 1) := by decide +kernel
theorem dX4_setDate_6 : decode cX4_setDate 6 = .ok (.iastore, 1) := by decide +kernel
theorem dX4_setDate_7 : decode cX4_setDate 7 = .ok (.aload_n 0, 1) := by decide +kernel
theorem dX4_setDate_8 : decode cX4_setDate 8 = .ok (.getfield 21, 3) := by decide +kernel
theorem dX4_setDate_11 : decode cX4_setDate 11 = .ok (.iload_n 1, 1) := by decide +kernel
theorem dX4_setDate_12 : decode cX4_setDate 12 = .ok (.iload_n 3, 1) := by decide +kernel
theorem dX4_setDate_13 : decode cX4_setDate 13 = .ok (.iastore, 1) := by decide +kernel
theorem dX4_setDate_14 : decode cX4_setDate 14 = .ok (.iload_n 2, 1) := by decide +kernel
theorem dX4_setDate_15 : decode cX4_setDate 15 = .ok (.iload_n 3, 1) := by decide +kernel
theorem dX4_setDate_16 : decode cX4_setDate 16 = .ok (.if_icmp .gt 19, 3) := by decide +kernel
theorem dX4_setDate_19 : decode cX4_setDate 19 = .ok (.aload_n 0, 1) := by decide +kernel
theorem dX4_setDate_20 : decode cX4_setDate 20 = .ok (.dup, 1) := by decide +kernel
theorem dX4_setDate_21 : decode cX4_setDate 21 = .ok (.getfield 28, 3) := by decide +kernel
theorem dX4_setDate_24 : decode cX4_setDate 24 = .ok (.iload_n 1, 1) := by decide +kernel
theorem dX4_setDate_25 : decode cX4_setDate 25 = .ok (.invokestatic 32, 3) := by decide +kernel
theorem dX4_setDate_28 : decode cX4_setDate 28 = .ok (.lor, 1) := by decide +kernel
theorem dX4_setDate_29 : decode cX4_setDate 29 = .ok (.putfield 28, 3) := by decide +kernel
theorem dX4_setDate_32 : decode cX4_setDate 32 = .ok (.goto 20, 3) := by decide +kernel
theorem dX4_setDate_35 : decode cX4_setDate 35 = .ok (.aload_n 0, 1) := by decide +kernel
theorem dX4_setDate_36 : decode cX4_setDate 36 = .ok (.dup, 1) := by decide +kernel
theorem dX4_setDate_37 : decode cX4_setDate 37 = .ok (.getfield 28, 3) := by decide +kernel
theorem dX4_setDate_40 : decode cX4_setDate 40 = .ok (.iload_n 1, 1) := by decide +kernel
theorem dX4_setDate_41 : decode cX4_setDate 41 = .ok (.invokestatic 32, 3) := by decide +kernel
theorem dX4_setDate_44 : decode cX4_setDate 44 = .ok (.ldc2_w 36, 3) := by decide +kernel
theorem dX4_setDate_47 : decode cX4_setDate 47 = .ok (.lxor, 1) := by decide +kernel
theorem dX4_setDate_48 : decode cX4_setDate 48 = .ok (.land, 1) := by decide +kernel
theorem dX4_setDate_49 : decode cX4_setDate 49 = .ok (.putfield 28, 3) := by decide +kernel
theorem dX4_setDate_52 : decode cX4_setDate 52 = .ok (.return_, 1) := by decide +kernel
theorem dX5_init_0 : decode cX5_init 0 = .ok (.aload_n 0, 1) := by decide +kernel
theorem dX5_init_1 : decode cX5_init 1 = .ok (.invokespecial 1, 3) := by decide +kernel
theorem dX5_init_4 : decode cX5_init 4 = .ok (.aload_n 0, 1) := by decide +kernel
theorem dX5_init_5 : decode cX5_init 5 = .ok (.new 7, 3) := by decide +kernel
theorem dX5_init_8 : decode cX5_init 8 = .ok (.dup, 1) := by decide +kernel
theorem dX5_init_9 : decode cX5_init 9 = .ok (.invokespecial 9, 3) := by decide +kernel
theorem dX5_init_12 : decode cX5_init 12 = .ok (.putfield 10, 3) := by decide +kernel
theorem dX5_init_15 : decode cX5_init 15 = .ok (.aload_n 0, 1) := by decide +kernel
theorem dX5_init_16 : decode cX5_init 16 = .ok (.new 16, 3) := by decide +kernel
theorem dX5_init_19 : decode cX5_init 19 = .ok (.dup, 1) := by decide +kernel
theorem dX5_init_20 : decode cX5_init 20 = .ok (.invokespecial 18, 3) := by decide +kernel
theorem dX5_init_23 : decode cX5_init 23 = .ok (.putfield 19, 3) := by decide +kernel
theorem dX5_init_26 : decode cX5_init 26 = .ok (.aload_n 0, 1) := by decide +kernel
theorem dX5_init_27 : decode cX5_init 27 = .ok (.new 23, 3) := by decide +kernel
theorem dX5_init_30 : decode cX5_init 30 = .ok (.dup, 1) := by decide +kernel
theorem dX5_init_31 : decode cX5_init 31 = .ok (.invokespecial 25, 3) := by decide +kernel
theorem dX5_init_34 : decode cX5_init 34 = .ok (.putfield 26, 3) := by decide +kernel
theorem dX5_init_37 : decode cX5_init 37 = .ok (.aload_n 0, 1) := by decide +kernel
theorem dX5_init_38 : decode cX5_init 38 = .ok (.new 30, 3) := by decide +kernel
theorem dX5_init_41 : decode cX5_init 41 = .ok (.dup, 1) := by decide +kernel
theorem dX5_init_42 : decode cX5_init 42 = .ok (.invokespecial 32, 3) := by decide +kernel
theorem dX5_init_45 : decode cX5_init 45 = .ok (.putfield 33, 3) := by decide +kernel
theorem dX5_init_48 : decode cX5_init 48 = .ok (.aload_n 0, 1) := by decide +kernel
theorem dX5_init_49 : decode cX5_init 49 = .ok (.new 37, 3) := by decide +kernel
theorem dX5_init_52 : decode cX5_init 52 = .ok (.dup, 1) := by decide +kernel
theorem dX5_init_53 : decode cX5_init 53 = .ok (.invokespecial 39, 3) := by decide +kernel
theorem dX5_init_56 : decode cX5_init 56 = .ok (.putfield 40, 3) := by decide +kernel
theorem dX5_init_59 : decode cX5_init 59 = .ok (.return_, 1) := by decide +kernel
theorem dX5_addUnit_0 : decode cX5_addUnit 0 = .ok (.iload_n 1, 1) := by decide +kernel
theorem dX5_addUnit_1 : decode cX5_addUnit 1 = .ok (.iconst 0, 1) := by decide +kernel
theorem dX5_addUnit_2 : decode cX5_addUnit 2 = .ok (.iconst 3, 1) := by decide +kernel
theorem dX5_addUnit_3 : decode cX5_addUnit 3 = .ok (.invokestatic 44, 3) := by decide +kernel
theorem dX5_addUnit_6 : decode cX5_addUnit 6 = .ok (.ifCond .ne 13, 3) := by decide +kernel
theorem dX5_addUnit_9 : decode cX5_addUnit 9 = .ok (.new 48, 3) := by decide +kernel
theorem dX5_addUnit_12 : decode cX5_addUnit 12 = .ok (.dup, 1) := by decide +kernel
theorem dX5_addUnit_13 : decode cX5_addUnit 13 = .ok (.ldc 50, 2) := by decide +kernel
theorem dX5_addUnit_15 : decode cX5_addUnit 15 = .ok (.invokespecial 52, 3) := by decide +kernel
theorem dX5_addUnit_18 : decode cX5_addUnit 18 = .ok (.athrow, 1) := by decide +kernel
theorem dX5_addUnit_19 : decode cX5_addUnit 19 = .ok (.aload_n 0, 1) := by decide +kernel
theorem dX5_addUnit_20 : decode cX5_addUnit 20 = .ok (.getfield 10, 3) := by decide +kernel
theorem dX5_addUnit_23 : decode cX5_addUnit 23 = .ok (.getfield 55, 3) := by decide +kernel
theorem dX5_addUnit_26 : decode cX5_addUnit 26 = .ok (.bipush 40, 2) := by decide +kernel
theorem dX5_addUnit_28 : decode cX5_addUnit 28 = .ok (.if_icmp .lt 13, 3) := by decide +kernel
theorem dX5_addUnit_31 : decode cX5_addUnit 31 = .ok (.new 59, 3) := by decide +kernel
theorem dX5_addUnit_34 : decode cX5_addUnit 34 = .ok (.dup, 1) := by decide +kernel
theorem dX5_addUnit_35 : decode cX5_addUnit 35 = .ok (.ldc 61, 2) := by decide +kernel
theorem dX5_addUnit_37 : decode cX5_addUnit 37 = .ok (.invokespecial 63, 3) := by decide +kernel
theorem dX5_addUnit_40 : decode cX5_addUnit 40 = .ok (.athrow, 1) := by decide +kernel
theorem dX5_addUnit_41 : decode cX5_addUnit 41 = .ok (.aload_n 0, 1) := by decide +kernel
theorem dX5_addUnit_42 : decode cX5_addUnit 42 = .ok (.getfield 10, 3) := by decide +kernel
theorem dX5_addUnit_45 : decode cX5_addUnit 45 = .ok (.iload_n 1, 1) := by decide +kernel
theorem dX5_addUnit_46 : decode cX5_addUnit 46 = .ok (.invokevirtual 64, 3) := by decide +kernel
theorem dX5_addUnit_49 : decode cX5_addUnit 49 = .ok (.istore_n 2, 1) := by decide +kernel
theorem dX5_addUnit_50 : decode cX5_addUnit 50 = .ok (.aload_n 0, 1) := by decide +kernel
theorem dX5_addUnit_51 : decode cX5_addUnit 51 = .ok (.invokevirtual 68, 3) := by decide +kernel
theorem dX5_addUnit_54 : decode cX5_addUnit 54 = .ok (.iload_n 2, 1) := by decide +kernel
theorem dX5_addUnit_55 : decode cX5_addUnit 55 = .ok (.ireturn, 1) := by decide +kernel
theorem dX5_relate_0 : decode cX5_relate 0 = .ok (.iload_n 1, 1) := by decide +kernel
theorem dX5_relate_1 : decode cX5_relate 1 = .ok (.iconst 0, 1) := by decide +kernel
theorem dX5_relate_2 : decode cX5_relate 2 = .ok (.iconst 4, 1) := by decide +kernel
theorem dX5_relate_3 : decode cX5_relate 3 = .ok (.invokestatic 44, 3) := by decide +kernel
theorem dX5_relate_6 : decode cX5_relate 6 = .ok (.ifCond .ne 13, 3) := by decide +kernel
theorem dX5_relate_9 : decode cX5_relate 9 = .ok (.new 48, 3) := by decide +kernel
theorem dX5_relate_12 : decode cX5_relate 12 = .ok (.dup, 1) := by decide +kernel
theorem dX5_relate_13 : decode cX5_relate 13 = .ok (.ldc 71, 2) := by decide +kernel
theorem dX5_relate_15 : decode cX5_relate 15 = .ok (.invokespecial 52, 3) := by decide +kernel
theorem dX5_relate_18 : decode cX5_relate 18 = .ok (.athrow, 1) := by decide +kernel
theorem dX5_relate_19 : decode cX5_relate 19 = .ok (.aload_n 0, 1) := by decide +kernel
theorem dX5_relate_20 : decode cX5_relate 20 = .ok (.iload_n 2, 1) := by decide +kernel
theorem dX5_relate_21 : decode cX5_relate 21 = .ok (.invokevirtual 73, 3) := by decide +kernel
theorem dX5_relate_24 : decode cX5_relate 24 = .ok (.aload_n 0, 1) := by decide +kernel
theorem dX5_relate_25 : decode cX5_relate 25 = .ok (.iload_n 3, 1) := by decide +kernel
theorem dX5_relate_26 : decode cX5_relate 26 = .ok (.invokevirtual 73, 3) := by decide +kernel
theorem dX5_relate_29 : decode cX5_relate 29 = .ok (.aload_n 0, 1) := by decide +kernel
theorem dX5_relate_30 : decode cX5_relate 30 = .ok (.getfield 19, 3) := by decide +kernel
theorem dX5_relate_33 : decode cX5_relate 33 = .ok (.getfield 77, 3) := by decide +kernel
theorem dX5_relate_36 : decode cX5_relate 36 = .ok (.bipush 80, 2) := by decide +kernel
theorem dX5_relate_38 : decode cX5_relate 38 = .ok (.if_icmp .lt 13, 3) := by decide +kernel
theorem dX5_relate_41 : decode cX5_relate 41 = .ok (.new 59, 3) := by decide +kernel
theorem dX5_relate_44 : decode cX5_relate 44 = .ok (.dup, 1) := by decide +kernel
theorem dX5_relate_45 : decode cX5_relate 45 = .ok (.ldc 78, 2) := by decide +kernel
theorem dX5_relate_47 : decode cX5_relate 47 = .ok (.invokespecial 63, 3) := by decide +kernel
theorem dX5_relate_50 : decode cX5_relate 50 = .ok (.athrow, 1) := by decide +kernel
theorem dX5_relate_51 : decode cX5_relate 51 = .ok (.aload_n 0, 1) := by decide +kernel
theorem dX5_relate_52 : decode cX5_relate 52 = .ok (.iload_n 1, 1) := by decide +kernel
theorem dX5_relate_53 : decode cX5_relate 53 = .ok (.iload_n 2, 1) := by decide +kernel
theorem dX5_relate_54 : decode cX5_relate 54 = .ok (.iload_n 3, 1) := by decide +kernel
theorem dX5_relate_55 : decode cX5_relate 55 = .ok (.invokevirtual 80, 3) := by decide +kernel
theorem dX5_relate_58 : decode cX5_relate 58 = .ok (.istore 4, 2) := by decide +kernel
theorem dX5_relate_60 : decode cX5_relate 60 = .ok (.iload 4, 2) := by decide +kernel
theorem dX5_relate_62 : decode cX5_relate 62 = .ok (.ifCond .ne 17, 3) := by decide +kernel
theorem dX5_relate_65 : decode cX5_relate 65 = .ok (.aload_n 0, 1) := by decide +kernel
theorem dX5_relate_66 : decode cX5_relate 66 = .ok (.getfield 19, 3) := by decide +kernel
theorem dX5_relate_69 : decode cX5_relate 69 = .ok (.iload_n 1, 1) := by decide +kernel
theorem dX5_relate_70 : decode cX5_relate 70 = .ok (.iload_n 2, 1) := by decide +kernel
theorem dX5_relate_71 : decode cX5_relate 71 = .ok (.iload_n 3, 1) := by decide +kernel
theorem dX5_relate_72 : decode cX5_relate 72 = .ok (.invokevirtual 84, 3) := by decide +kernel
theorem dX5_relate_75 : decode cX5_relate 75 = .ok (.aload_n 0, 1) := by decide +kernel
theorem dX5_relate_76 : decode cX5_relate 76 = .ok (.invokevirtual 68, 3) := by decide +kernel
theorem dX5_relate_79 : decode cX5_relate 79 = .ok (.iload 4, 2) := by decide +kernel
theorem dX5_relate_81 : decode cX5_relate 81 = .ok (.ireturn, 1) := by decide +kernel
theorem dX5_takeBack_0 : decode cX5_takeBack 0 = .ok (.aload_n 0, 1) := by decide +kernel
theorem dX5_takeBack_1 : decode cX5_takeBack 1 = .ok (.iload_n 1, 1) := by decide +kernel
theorem dX5_takeBack_2 : decode cX5_takeBack 2 = .ok (.invokevirtual 87, 3) := by decide +kernel
theorem dX5_takeBack_5 : decode cX5_takeBack 5 = .ok (.aload_n 0, 1) := by decide +kernel
theorem dX5_takeBack_6 : decode cX5_takeBack 6 = .ok (.getfield 19, 3) := by decide +kernel
theorem dX5_takeBack_9 : decode cX5_takeBack 9 = .ok (.iload_n 1, 1) := by decide +kernel
theorem dX5_takeBack_10 : decode cX5_takeBack 10 = .ok (.invokevirtual 90, 3) := by decide +kernel
theorem dX5_takeBack_13 : decode cX5_takeBack 13 = .ok (.aload_n 0, 1) := by decide +kernel
theorem dX5_takeBack_14 : decode cX5_takeBack 14 = .ok (.invokevirtual 68, 3) := by decide +kernel
theorem dX5_takeBack_17 : decode cX5_takeBack 17 = .ok (.aload_n 0, 1) := by decide +kernel
theorem dX5_takeBack_18 : decode cX5_takeBack 18 = .ok (.getfield 19, 3) := by decide +kernel
theorem dX5_takeBack_21 : decode cX5_takeBack 21 = .ok (.getfield 77, 3) := by decide +kernel
theorem dX5_takeBack_24 : decode cX5_takeBack 24 = .ok (.ireturn, 1) := by decide +kernel
theorem dX5_relation_0 : decode cX5_relation 0 = .ok (.aload_n 0, 1) := by decide +kernel
theorem dX5_relation_1 : decode cX5_relation 1 = .ok (.iload_n 1, 1) := by decide +kernel
theorem dX5_relation_2 : decode cX5_relation 2 = .ok (.invokevirtual 87, 3) := by decide +kernel
theorem dX5_relation_5 : decode cX5_relation 5 = .ok (.iload_n 2, 1) := by decide +kernel
theorem dX5_relation_6 : decode cX5_relation 6 = .ok (.iconst 3, 1) := by decide +kernel
theorem dX5_relation_7 : decode cX5_relation 7 = .ok (.invokestatic 93, 3) := by decide +kernel
theorem dX5_relation_10 : decode cX5_relation 10 = .ok (.iload_n 2, 1) := by decide +kernel
theorem dX5_relation_11 : decode cX5_relation 11 = .ok (.lookupswitch 45 #[(0, 25), (1, 35)], 25) := by decide +kernel
theorem dX5_relation_36 : decode cX5_relation 36 = .ok (.aload_n 0, 1) := by decide +kernel
theorem dX5_relation_37 : decode cX5_relation 37 = .ok (.getfield 19, 3) := by decide +kernel
theorem dX5_relation_40 : decode cX5_relation 40 = .ok (.getfield 97, 3) := by decide +kernel
theorem dX5_relation_43 : decode cX5_relation 43 = .ok (.iload_n 1, 1) := by decide +kernel
theorem dX5_relation_44 : decode cX5_relation 44 = .ok (.iaload, 1) := by decide +kernel
theorem dX5_relation_45 : decode cX5_relation 45 = .ok (.ireturn, 1) := by decide +kernel
theorem dX5_relation_46 : decode cX5_relation 46 = .ok (.aload_n 0, 1) := by decide +kernel
theorem dX5_relation_47 : decode cX5_relation 47 = .ok (.getfield 19, 3) := by decide +kernel
theorem dX5_relation_50 : decode cX5_relation 50 = .ok (.getfield 101, 3) := by decide +kernel
theorem dX5_relation_53 : decode cX5_relation 53 = .ok (.iload_n 1, 1) := by decide +kernel
theorem dX5_relation_54 : decode cX5_relation 54 = .ok (.iaload, 1) := by decide +kernel
theorem dX5_relation_55 : decode cX5_relation 55 = .ok (.ireturn, 1) := by decide +kernel
theorem dX5_relation_56 : decode cX5_relation 56 = .ok (.aload_n 0, 1) := by decide +kernel
theorem dX5_relation_57 : decode cX5_relation 57 = .ok (.getfield 19, 3) := by decide +kernel
theorem dX5_relation_60 : decode cX5_relation 60 = .ok (.getfield 104, 3) := by decide +kernel
theorem dX5_relation_63 : decode cX5_relation 63 = .ok (.iload_n 1, 1) := by decide +kernel
theorem dX5_relation_64 : decode cX5_relation 64 = .ok (.iaload, 1) := by decide +kernel
theorem dX5_relation_65 : decode cX5_relation 65 = .ok (.ireturn, 1) := by decide +kernel
theorem dX5_count_0 : decode cX5_count 0 = .ok (.iload_n 1, 1) := by decide +kernel
theorem dX5_count_1 : decode cX5_count 1 = .ok (.bipush 9, 2) := by decide +kernel
theorem dX5_count_3 : decode cX5_count 3 = .ok (.invokestatic 93, 3) := by decide +kernel
theorem dX5_count_6 : decode cX5_count 6 = .ok (.iload_n 1, 1) := by decide +kernel
theorem dX5_count_7 : decode cX5_count 7 = .ok (.tableswitch 115 0 7 #[45, 53, 61, 72, 80, 88, 99, 107], 45) := by decide +kernel
theorem dX5_count_52 : decode cX5_count 52 = .ok (.aload_n 0, 1) := by decide +kernel
theorem dX5_count_53 : decode cX5_count 53 = .ok (.getfield 10, 3) := by decide +kernel
theorem dX5_count_56 : decode cX5_count 56 = .ok (.getfield 55, 3) := by decide +kernel
theorem dX5_count_59 : decode cX5_count 59 = .ok (.ireturn, 1) := by decide +kernel
theorem dX5_count_60 : decode cX5_count 60 = .ok (.aload_n 0, 1) := by decide +kernel
theorem dX5_count_61 : decode cX5_count 61 = .ok (.getfield 19, 3) := by decide +kernel
theorem dX5_count_64 : decode cX5_count 64 = .ok (.getfield 77, 3) := by decide +kernel
theorem dX5_count_67 : decode cX5_count 67 = .ok (.ireturn, 1) := by decide +kernel
theorem dX5_count_68 : decode cX5_count 68 = .ok (.aload_n 0, 1) := by decide +kernel
theorem dX5_count_69 : decode cX5_count 69 = .ok (.getfield 26, 3) := by decide +kernel
theorem dX5_count_72 : decode cX5_count 72 = .ok (.getfield 107, 3) := by decide +kernel
theorem dX5_count_75 : decode cX5_count 75 = .ok (.invokestatic 111, 3) := by decide +kernel
theorem dX5_count_78 : decode cX5_count 78 = .ok (.ireturn, 1) := by decide +kernel
theorem dX5_count_79 : decode cX5_count 79 = .ok (.aload_n 0, 1) := by decide +kernel
theorem dX5_count_80 : decode cX5_count 80 = .ok (.getfield 26, 3) := by decide +kernel
theorem dX5_count_83 : decode cX5_count 83 = .ok (.invokevirtual 117, 3) := by decide +kernel
theorem dX5_count_86 : decode cX5_count 86 = .ok (.ireturn, 1) := by decide +kernel
theorem dX5_count_87 : decode cX5_count 87 = .ok (.aload_n 0, 1) := by decide +kernel
theorem dX5_count_88 : decode cX5_count 88 = .ok (.getfield 33, 3) := by decide +kernel
theorem dX5_count_91 : decode cX5_count 91 = .ok (.getfield 121, 3) := by decide +kernel
theorem dX5_count_94 : decode cX5_count 94 = .ok (.ireturn, 1) := by decide +kernel
theorem dX5_count_95 : decode cX5_count 95 = .ok (.aload_n 0, 1) := by decide +kernel
theorem dX5_count_96 : decode cX5_count 96 = .ok (.getfield 10, 3) := by decide +kernel
theorem dX5_count_99 : decode cX5_count 99 = .ok (.getfield 122, 3) := by decide +kernel
theorem dX5_count_102 : decode cX5_count 102 = .ok (.invokestatic 111, 3) := by decide +kernel
theorem dX5_count_105 : decode cX5_count 105 = .ok (.ireturn, 1) := by decide +kernel
theorem dX5_count_106 : decode cX5_count 106 = .ok (.aload_n 0, 1) := by decide +kernel
theorem dX5_count_107 : decode cX5_count 107 = .ok (.invokevirtual 125, 3) := by decide +kernel
theorem dX5_count_110 : decode cX5_count 110 = .ok (.invokestatic 111, 3) := by decide +kernel
theorem dX5_count_113 : decode cX5_count 113 = .ok (.ireturn, 1) := by decide +kernel
theorem dX5_count_114 : decode cX5_count 114 = .ok (.aload_n 0, 1) := by decide +kernel
theorem dX5_count_115 : decode cX5_count 115 = .ok (.getfield 26, 3) := by decide +kernel
theorem dX5_count_118 : decode cX5_count 118 = .ok (.invokevirtual 129, 3) := by decide +kernel
theorem dX5_count_121 : decode cX5_count 121 = .ok (.ireturn, 1) := by decide +kernel
theorem dX5_count_122 : decode cX5_count 122 = .ok (.aload_n 0, 1) := by decide +kernel
theorem dX5_count_123 : decode cX5_count 123 = .ok (.invokevirtual 132, 3) := by decide +kernel
theorem dX5_count_126 : decode cX5_count 126 = .ok (.ireturn, 1) := by decide +kernel
theorem dX5_unit_0 : decode cX5_unit 0 = .ok (.aload_n 0, 1) := by decide +kernel
theorem dX5_unit_1 : decode cX5_unit 1 = .ok (.iload_n 1, 1) := by decide +kernel
theorem dX5_unit_2 : decode cX5_unit 2 = .ok (.invokevirtual 73, 3) := by decide +kernel
theorem dX5_unit_5 : decode cX5_unit 5 = .ok (.iload_n 2, 1) := by decide +kernel
theorem dX5_unit_6 : decode cX5_unit 6 = .ok (.bipush 10, 2) := by decide +kernel
theorem dX5_unit_8 : decode cX5_unit 8 = .ok (.invokestatic 93, 3) := by decide +kernel
theorem dX5_unit_11 : decode cX5_unit 11 = .ok (.aload_n 0, 1) := by decide +kernel
theorem dX5_unit_12 : decode cX5_unit 12 = .ok (.getfield 26, 3) := by decide +kernel
theorem dX5_unit_15 : decode cX5_unit 15 = .ok (.getfield 135, 3) := by decide +kernel
theorem dX5_unit_18 : decode cX5_unit 18 = .ok (.iload_n 1, 1) := by decide +kernel
theorem dX5_unit_19 : decode cX5_unit 19 = .ok (.iaload, 1) := by decide +kernel
theorem dX5_unit_20 : decode cX5_unit 20 = .ok (.istore_n 3, 1) := by decide +kernel
theorem dX5_unit_21 : decode cX5_unit 21 = .ok (.iload_n 2, 1) := by decide +kernel
theorem dX5_unit_22 : decode cX5_unit 22 = .ok (.tableswitch 151 0 8 #[50, 60, 62, 75, 85, 95, 108, 121, 141], 50) := by decide +kernel
theorem dX5_unit_72 : decode cX5_unit 72 = .ok (.aload_n 0, 1) := by decide +kernel
theorem dX5_unit_73 : decode cX5_unit 73 = .ok (.getfield 10, 3) := by decide +kernel
theorem dX5_unit_76 : decode cX5_unit 76 = .ok (.getfield 138, 3) := by decide +kernel
theorem dX5_unit_79 : decode cX5_unit 79 = .ok (.iload_n 1, 1) := by decide +kernel
theorem dX5_unit_80 : decode cX5_unit 80 = .ok (.iaload, 1) := by decide +kernel
theorem dX5_unit_81 : decode cX5_unit 81 = .ok (.ireturn, 1) := by decide +kernel
theorem dX5_unit_82 : decode cX5_unit 82 = .ok (.iload_n 3, 1) := by decide +kernel
theorem dX5_unit_83 : decode cX5_unit 83 = .ok (.ireturn, 1) := by decide +kernel
theorem dX5_unit_84 : decode cX5_unit 84 = .ok (.aload_n 0, 1) := by decide +kernel
theorem dX5_unit_85 : decode cX5_unit 85 = .ok (.getfield 26, 3) := by decide +kernel
theorem dX5_unit_88 : decode cX5_unit 88 = .ok (.getfield 141, 3) := by decide +kernel
theorem dX5_unit_91 : decode cX5_unit 91 = .ok (.iload_n 3, 1) := by decide +kernel
theorem dX5_unit_92 : decode cX5_unit 92 = .ok (.laload, 1) := by decide +kernel
theorem dX5_unit_93 : decode cX5_unit 93 = .ok (.invokestatic 111, 3) := by decide +kernel
theorem dX5_unit_96 : decode cX5_unit 96 = .ok (.ireturn, 1) := by decide +kernel
theorem dX5_unit_97 : decode cX5_unit 97 = .ok (.aload_n 0, 1) := by decide +kernel
theorem dX5_unit_98 : decode cX5_unit 98 = .ok (.getfield 26, 3) := by decide +kernel
theorem dX5_unit_101 : decode cX5_unit 101 = .ok (.getfield 145, 3) := by decide +kernel
theorem dX5_unit_104 : decode cX5_unit 104 = .ok (.iload_n 3, 1) := by decide +kernel
theorem dX5_unit_105 : decode cX5_unit 105 = .ok (.iaload, 1) := by decide +kernel
theorem dX5_unit_106 : decode cX5_unit 106 = .ok (.ireturn, 1) := by decide +kernel
theorem dX5_unit_107 : decode cX5_unit 107 = .ok (.aload_n 0, 1) := by decide +kernel
theorem dX5_unit_108 : decode cX5_unit 108 = .ok (.getfield 26, 3) := by decide +kernel
theorem dX5_unit_111 : decode cX5_unit 111 = .ok (.getfield 148, 3) := by decide +kernel
theorem dX5_unit_114 : decode cX5_unit 114 = .ok (.iload_n 3, 1) := by decide +kernel
theorem dX5_unit_115 : decode cX5_unit 115 = .ok (.iaload, 1) := by decide +kernel
theorem dX5_unit_116 : decode cX5_unit 116 = .ok (.ireturn, 1) := by decide +kernel
theorem dX5_unit_117 : decode cX5_unit 117 = .ok (.aload_n 0, 1) := by decide +kernel
theorem dX5_unit_118 : decode cX5_unit 118 = .ok (.getfield 26, 3) := by decide +kernel
theorem dX5_unit_121 : decode cX5_unit 121 = .ok (.getfield 151, 3) := by decide +kernel
theorem dX5_unit_124 : decode cX5_unit 124 = .ok (.iload_n 3, 1) := by decide +kernel
theorem dX5_unit_125 : decode cX5_unit 125 = .ok (.laload, 1) := by decide +kernel
theorem dX5_unit_126 : decode cX5_unit 126 = .ok (.invokestatic 111, 3) := by decide +kernel
theorem dX5_unit_129 : decode cX5_unit 129 = .ok (.ireturn, 1) := by decide +kernel
theorem dX5_unit_130 : decode cX5_unit 130 = .ok (.aload_n 0, 1) := by decide +kernel
theorem dX5_unit_131 : decode cX5_unit 131 = .ok (.getfield 26, 3) := by decide +kernel
theorem dX5_unit_134 : decode cX5_unit 134 = .ok (.getfield 154, 3) := by decide +kernel
theorem dX5_unit_137 : decode cX5_unit 137 = .ok (.iload_n 3, 1) := by decide +kernel
theorem dX5_unit_138 : decode cX5_unit 138 = .ok (.laload, 1) := by decide +kernel
theorem dX5_unit_139 : decode cX5_unit 139 = .ok (.invokestatic 111, 3) := by decide +kernel
theorem dX5_unit_142 : decode cX5_unit 142 = .ok (.ireturn, 1) := by decide +kernel
theorem dX5_unit_143 : decode cX5_unit 143 = .ok (.aload_n 0, 1) := by decide +kernel
theorem dX5_unit_144 : decode cX5_unit 144 = .ok (.getfield 10, 3) := by decide +kernel
theorem dX5_unit_147 : decode cX5_unit 147 = .ok (.getfield 122, 3) := by decide +kernel
theorem dX5_unit_150 : decode cX5_unit 150 = .ok (.iload_n 1, 1) := by decide +kernel
theorem dX5_unit_151 : decode cX5_unit 151 = .ok (.invokestatic 157, 3) := by decide +kernel
theorem dX5_unit_154 : decode cX5_unit 154 = .ok (.ifCond .eq 7, 3) := by decide +kernel
theorem dX5_unit_157 : decode cX5_unit 157 = .ok (.iconst 1, 1) := by decide +kernel
theorem dX5_unit_158 : decode cX5_unit 158 = .ok (.goto 4, 3) := by decide +kernel
theorem dX5_unit_161 : decode cX5_unit 161 = .ok (.iconst 0, 1) := by decide +kernel
theorem dX5_unit_162 : decode cX5_unit 162 = .ok (.ireturn, 1) := by decide +kernel
theorem dX5_unit_163 : decode cX5_unit 163 = .ok (.aload_n 0, 1) := by decide +kernel
theorem dX5_unit_164 : decode cX5_unit 164 = .ok (.getfield 10, 3) := by decide +kernel
theorem dX5_unit_167 : decode cX5_unit 167 = .ok (.getfield 161, 3) := by decide +kernel
theorem dX5_unit_170 : decode cX5_unit 170 = .ok (.iload_n 1, 1) := by decide +kernel
theorem dX5_unit_171 : decode cX5_unit 171 = .ok (.iaload, 1) := by decide +kernel
theorem dX5_unit_172 : decode cX5_unit 172 = .ok (.ireturn, 1) := by decide +kernel
theorem dX5_unit_173 : decode cX5_unit 173 = .ok (.aload_n 0, 1) := by decide +kernel
theorem dX5_unit_174 : decode cX5_unit 174 = .ok (.getfield 33, 3) := by decide +kernel
theorem dX5_unit_177 : decode cX5_unit 177 = .ok (.iload_n 1, 1) := by decide +kernel
theorem dX5_unit_178 : decode cX5_unit 178 = .ok (.invokevirtual 164, 3) := by decide +kernel
theorem dX5_unit_181 : decode cX5_unit 181 = .ok (.ireturn, 1) := by decide +kernel
theorem dX5_order_0 : decode cX5_order 0 = .ok (.aload_n 0, 1) := by decide +kernel
theorem dX5_order_1 : decode cX5_order 1 = .ok (.iload_n 1, 1) := by decide +kernel
theorem dX5_order_2 : decode cX5_order 2 = .ok (.invokevirtual 73, 3) := by decide +kernel
theorem dX5_order_5 : decode cX5_order 5 = .ok (.aload_n 0, 1) := by decide +kernel
theorem dX5_order_6 : decode cX5_order 6 = .ok (.iload_n 2, 1) := by decide +kernel
theorem dX5_order_7 : decode cX5_order 7 = .ok (.invokevirtual 73, 3) := by decide +kernel
theorem dX5_order_10 : decode cX5_order 10 = .ok (.aload_n 0, 1) := by decide +kernel
theorem dX5_order_11 : decode cX5_order 11 = .ok (.getfield 26, 3) := by decide +kernel
theorem dX5_order_14 : decode cX5_order 14 = .ok (.iload_n 1, 1) := by decide +kernel
theorem dX5_order_15 : decode cX5_order 15 = .ok (.iload_n 2, 1) := by decide +kernel
theorem dX5_order_16 : decode cX5_order 16 = .ok (.invokevirtual 167, 3) := by decide +kernel
theorem dX5_order_19 : decode cX5_order 19 = .ok (.ifCond .eq 5, 3) := by decide +kernel
theorem dX5_order_22 : decode cX5_order 22 = .ok (.iconst 0, 1) := by decide +kernel
theorem dX5_order_23 : decode cX5_order 23 = .ok (.ireturn, 1) := by decide +kernel
theorem dX5_order_24 : decode cX5_order 24 = .ok (.aload_n 0, 1) := by decide +kernel
theorem dX5_order_25 : decode cX5_order 25 = .ok (.getfield 26, 3) := by decide +kernel
theorem dX5_order_28 : decode cX5_order 28 = .ok (.iload_n 1, 1) := by decide +kernel
theorem dX5_order_29 : decode cX5_order 29 = .ok (.iload_n 2, 1) := by decide +kernel
theorem dX5_order_30 : decode cX5_order 30 = .ok (.invokevirtual 171, 3) := by decide +kernel
theorem dX5_order_33 : decode cX5_order 33 = .ok (.ifCond .eq 5, 3) := by decide +kernel
theorem dX5_order_36 : decode cX5_order 36 = .ok (.iconst 1, 1) := by decide +kernel
theorem dX5_order_37 : decode cX5_order 37 = .ok (.ireturn, 1) := by decide +kernel
theorem dX5_order_38 : decode cX5_order 38 = .ok (.aload_n 0, 1) := by decide +kernel
theorem dX5_order_39 : decode cX5_order 39 = .ok (.getfield 26, 3) := by decide +kernel
theorem dX5_order_42 : decode cX5_order 42 = .ok (.iload_n 2, 1) := by decide +kernel
theorem dX5_order_43 : decode cX5_order 43 = .ok (.iload_n 1, 1) := by decide +kernel
theorem dX5_order_44 : decode cX5_order 44 = .ok (.invokevirtual 171, 3) := by decide +kernel
theorem dX5_order_47 : decode cX5_order 47 = .ok (.ifCond .eq 7, 3) := by decide +kernel
theorem dX5_order_50 : decode cX5_order 50 = .ok (.iconst (-1), 1) := by decide +kernel
theorem dX5_order_51 : decode cX5_order 51 = .ok (.goto 4, 3) := by decide +kernel
theorem dX5_order_54 : decode cX5_order 54 = .ok (.iconst 2, 1) := by decide +kernel
theorem dX5_order_55 : decode cX5_order 55 = .ok (.ireturn, 1) := by decide +kernel
theorem dX5_isLinked_0 : decode cX5_isLinked 0 = .ok (.aload_n 0, 1) := by decide +kernel
theorem dX5_isLinked_1 : decode cX5_isLinked 1 = .ok (.iload_n 1, 1) := by decide +kernel
theorem dX5_isLinked_2 : decode cX5_isLinked 2 = .ok (.invokevirtual 73, 3) := by decide +kernel
theorem dX5_isLinked_5 : decode cX5_isLinked 5 = .ok (.aload_n 0, 1) := by decide +kernel
theorem dX5_isLinked_6 : decode cX5_isLinked 6 = .ok (.iload_n 2, 1) := by decide +kernel
theorem dX5_isLinked_7 : decode cX5_isLinked 7 = .ok (.invokevirtual 73, 3) := by decide +kernel
theorem dX5_isLinked_10 : decode cX5_isLinked 10 = .ok (.aload_n 0, 1) := by decide +kernel
theorem dX5_isLinked_11 : decode cX5_isLinked 11 = .ok (.getfield 26, 3) := by decide +kernel
theorem dX5_isLinked_14 : decode cX5_isLinked 14 = .ok (.getfield 174, 3) := by decide +kernel
theorem dX5_isLinked_17 : decode cX5_isLinked 17 = .ok (.aload_n 0, 1) := by decide +kernel
theorem dX5_isLinked_18 : decode cX5_isLinked 18 = .ok (.getfield 26, 3) := by decide +kernel
theorem dX5_isLinked_21 : decode cX5_isLinked 21 = .ok (.getfield 135, 3) := by decide +kernel
theorem dX5_isLinked_24 : decode cX5_isLinked 24 = .ok (.iload_n 1, 1) := by decide +kernel
theorem dX5_isLinked_25 : decode cX5_isLinked 25 = .ok (.iaload, 1) := by decide +kernel
theorem dX5_isLinked_26 : decode cX5_isLinked 26 = .ok (.laload, 1) := by decide +kernel
theorem dX5_isLinked_27 : decode cX5_isLinked 27 = .ok (.aload_n 0, 1) := by decide +kernel
theorem dX5_isLinked_28 : decode cX5_isLinked 28 = .ok (.getfield 26, 3) := by decide +kernel
theorem dX5_isLinked_31 : decode cX5_isLinked 31 = .ok (.getfield 135, 3) := by decide +kernel
theorem dX5_isLinked_34 : decode cX5_isLinked 34 = .ok (.iload_n 2, 1) := by decide +kernel
theorem dX5_isLinked_35 : decode cX5_isLinked 35 = .ok (.iaload, 1) := by decide +kernel
theorem dX5_isLinked_36 : decode cX5_isLinked 36 = .ok (.invokestatic 157, 3) := by decide +kernel
theorem dX5_isLinked_39 : decode cX5_isLinked 39 = .ok (.ireturn, 1) := by decide +kernel
theorem dX5_row_0 : decode cX5_row 0 = .ok (.iload_n 1, 1) := by decide +kernel
theorem dX5_row_1 : decode cX5_row 1 = .ok (.invokestatic 177, 3) := by decide +kernel
theorem dX5_row_4 : decode cX5_row 4 = .ok (.iload_n 3, 1) := by decide +kernel
theorem dX5_row_5 : decode cX5_row 5 = .ok (.invokestatic 177, 3) := by decide +kernel
theorem dX5_row_8 : decode cX5_row 8 = .ok (.aload_n 0, 1) := by decide +kernel
theorem dX5_row_9 : decode cX5_row 9 = .ok (.getfield 26, 3) := by decide +kernel
theorem dX5_row_12 : decode cX5_row 12 = .ok (.iload_n 1, 1) := by decide +kernel
theorem dX5_row_13 : decode cX5_row 13 = .ok (.iload_n 2, 1) := by decide +kernel
theorem dX5_row_14 : decode cX5_row 14 = .ok (.invokevirtual 180, 3) := by decide +kernel
theorem dX5_row_17 : decode cX5_row 17 = .ok (.iload_n 3, 1) := by decide +kernel
theorem dX5_row_18 : decode cX5_row 18 = .ok (.invokestatic 184, 3) := by decide +kernel
theorem dX5_row_21 : decode cX5_row 21 = .ok (.ireturn, 1) := by decide +kernel
theorem dX5_way_0 : decode cX5_way 0 = .ok (.aload_n 0, 1) := by decide +kernel
theorem dX5_way_1 : decode cX5_way 1 = .ok (.iload_n 1, 1) := by decide +kernel
theorem dX5_way_2 : decode cX5_way 2 = .ok (.invokevirtual 73, 3) := by decide +kernel
theorem dX5_way_5 : decode cX5_way 5 = .ok (.aload_n 0, 1) := by decide +kernel
theorem dX5_way_6 : decode cX5_way 6 = .ok (.iload_n 2, 1) := by decide +kernel
theorem dX5_way_7 : decode cX5_way 7 = .ok (.invokevirtual 73, 3) := by decide +kernel
theorem dX5_way_10 : decode cX5_way 10 = .ok (.iload_n 3, 1) := by decide +kernel
theorem dX5_way_11 : decode cX5_way 11 = .ok (.iconst 0, 1) := by decide +kernel
theorem dX5_way_12 : decode cX5_way 12 = .ok (.bipush 39, 2) := by decide +kernel
theorem dX5_way_14 : decode cX5_way 14 = .ok (.invokestatic 44, 3) := by decide +kernel
theorem dX5_way_17 : decode cX5_way 17 = .ok (.ifCond .ne 13, 3) := by decide +kernel
theorem dX5_way_20 : decode cX5_way 20 = .ok (.new 48, 3) := by decide +kernel
theorem dX5_way_23 : decode cX5_way 23 = .ok (.dup, 1) := by decide +kernel
theorem dX5_way_24 : decode cX5_way 24 = .ok (.ldc 188, 2) := by decide +kernel
theorem dX5_way_26 : decode cX5_way 26 = .ok (.invokespecial 52, 3) := by decide +kernel
theorem dX5_way_29 : decode cX5_way 29 = .ok (.athrow, 1) := by decide +kernel
theorem dX5_way_30 : decode cX5_way 30 = .ok (.aload_n 0, 1) := by decide +kernel
theorem dX5_way_31 : decode cX5_way 31 = .ok (.getfield 26, 3) := by decide +kernel
theorem dX5_way_34 : decode cX5_way 34 = .ok (.aload_n 0, 1) := by decide +kernel
theorem dX5_way_35 : decode cX5_way 35 = .ok (.getfield 26, 3) := by decide +kernel
theorem dX5_way_38 : decode cX5_way 38 = .ok (.getfield 135, 3) := by decide +kernel
theorem dX5_way_41 : decode cX5_way 41 = .ok (.iload_n 1, 1) := by decide +kernel
theorem dX5_way_42 : decode cX5_way 42 = .ok (.iaload, 1) := by decide +kernel
theorem dX5_way_43 : decode cX5_way 43 = .ok (.aload_n 0, 1) := by decide +kernel
theorem dX5_way_44 : decode cX5_way 44 = .ok (.getfield 26, 3) := by decide +kernel
theorem dX5_way_47 : decode cX5_way 47 = .ok (.getfield 135, 3) := by decide +kernel
theorem dX5_way_50 : decode cX5_way 50 = .ok (.iload_n 2, 1) := by decide +kernel
theorem dX5_way_51 : decode cX5_way 51 = .ok (.iaload, 1) := by decide +kernel
theorem dX5_way_52 : decode cX5_way 52 = .ok (.iload_n 3, 1) := by decide +kernel
theorem dX5_way_53 : decode cX5_way 53 = .ok (.invokevirtual 190, 3) := by decide +kernel
theorem dX5_way_56 : decode cX5_way 56 = .ok (.ireturn, 1) := by decide +kernel
theorem dX5_between_0 : decode cX5_between 0 = .ok (.aload_n 0, 1) := by decide +kernel
theorem dX5_between_1 : decode cX5_between 1 = .ok (.iload_n 1, 1) := by decide +kernel
theorem dX5_between_2 : decode cX5_between 2 = .ok (.invokevirtual 73, 3) := by decide +kernel
theorem dX5_between_5 : decode cX5_between 5 = .ok (.aload_n 0, 1) := by decide +kernel
theorem dX5_between_6 : decode cX5_between 6 = .ok (.iload_n 2, 1) := by decide +kernel
theorem dX5_between_7 : decode cX5_between 7 = .ok (.invokevirtual 73, 3) := by decide +kernel
theorem dX5_between_10 : decode cX5_between 10 = .ok (.aload_n 0, 1) := by decide +kernel
theorem dX5_between_11 : decode cX5_between 11 = .ok (.getfield 26, 3) := by decide +kernel
theorem dX5_between_14 : decode cX5_between 14 = .ok (.getfield 151, 3) := by decide +kernel
theorem dX5_between_17 : decode cX5_between 17 = .ok (.aload_n 0, 1) := by decide +kernel
theorem dX5_between_18 : decode cX5_between 18 = .ok (.getfield 26, 3) := by decide +kernel
theorem dX5_between_21 : decode cX5_between 21 = .ok (.getfield 135, 3) := by decide +kernel
theorem dX5_between_24 : decode cX5_between 24 = .ok (.iload_n 1, 1) := by decide +kernel
theorem dX5_between_25 : decode cX5_between 25 = .ok (.iaload, 1) := by decide +kernel
theorem dX5_between_26 : decode cX5_between 26 = .ok (.laload, 1) := by decide +kernel
theorem dX5_between_27 : decode cX5_between 27 = .ok (.aload_n 0, 1) := by decide +kernel
theorem dX5_between_28 : decode cX5_between 28 = .ok (.getfield 26, 3) := by decide +kernel
theorem dX5_between_31 : decode cX5_between 31 = .ok (.getfield 154, 3) := by decide +kernel
theorem dX5_between_34 : decode cX5_between 34 = .ok (.aload_n 0, 1) := by decide +kernel
theorem dX5_between_35 : decode cX5_between 35 = .ok (.getfield 26, 3) := by decide +kernel
theorem dX5_between_38 : decode cX5_between 38 = .ok (.getfield 135, 3) := by decide +kernel
theorem dX5_between_41 : decode cX5_between 41 = .ok (.iload_n 2, 1) := by decide +kernel
theorem dX5_between_42 : decode cX5_between 42 = .ok (.iaload, 1) := by decide +kernel
theorem dX5_between_43 : decode cX5_between 43 = .ok (.laload, 1) := by decide +kernel
theorem dX5_between_44 : decode cX5_between 44 = .ok (.land, 1) := by decide +kernel
theorem dX5_between_45 : decode cX5_between 45 = .ok (.invokestatic 111, 3) := by decide +kernel
theorem dX5_between_48 : decode cX5_between 48 = .ok (.ireturn, 1) := by decide +kernel
theorem dX5_addFind_0 : decode cX5_addFind 0 = .ok (.aload_n 0, 1) := by decide +kernel
theorem dX5_addFind_1 : decode cX5_addFind 1 = .ok (.iload_n 1, 1) := by decide +kernel
theorem dX5_addFind_2 : decode cX5_addFind 2 = .ok (.invokevirtual 73, 3) := by decide +kernel
theorem dX5_addFind_5 : decode cX5_addFind 5 = .ok (.iload_n 2, 1) := by decide +kernel
theorem dX5_addFind_6 : decode cX5_addFind 6 = .ok (.iconst 0, 1) := by decide +kernel
theorem dX5_addFind_7 : decode cX5_addFind 7 = .ok (.bipush 9, 2) := by decide +kernel
theorem dX5_addFind_9 : decode cX5_addFind 9 = .ok (.invokestatic 44, 3) := by decide +kernel
theorem dX5_addFind_12 : decode cX5_addFind 12 = .ok (.ifCond .ne 13, 3) := by decide +kernel
theorem dX5_addFind_15 : decode cX5_addFind 15 = .ok (.new 48, 3) := by decide +kernel
theorem dX5_addFind_18 : decode cX5_addFind 18 = .ok (.dup, 1) := by decide +kernel
theorem dX5_addFind_19 : decode cX5_addFind 19 = .ok (.ldc 193, 2) := by decide +kernel
theorem dX5_addFind_21 : decode cX5_addFind 21 = .ok (.invokespecial 52, 3) := by decide +kernel
theorem dX5_addFind_24 : decode cX5_addFind 24 = .ok (.athrow, 1) := by decide +kernel
theorem dX5_addFind_25 : decode cX5_addFind 25 = .ok (.iload_n 3, 1) := by decide +kernel
theorem dX5_addFind_26 : decode cX5_addFind 26 = .ok (.iload 4, 2) := by decide +kernel
theorem dX5_addFind_28 : decode cX5_addFind 28 = .ok (.invokestatic 195, 3) := by decide +kernel
theorem dX5_addFind_31 : decode cX5_addFind 31 = .ok (.iload_n 3, 1) := by decide +kernel
theorem dX5_addFind_32 : decode cX5_addFind 32 = .ok (.iload 4, 2) := by decide +kernel
theorem dX5_addFind_34 : decode cX5_addFind 34 = .ok (.if_icmp .le 13, 3) := by decide +kernel
theorem dX5_addFind_37 : decode cX5_addFind 37 = .ok (.new 48, 3) := by decide +kernel
theorem dX5_addFind_40 : decode cX5_addFind 40 = .ok (.dup, 1) := by decide +kernel
theorem dX5_addFind_41 : decode cX5_addFind 41 = .ok (.ldc 198, 2) := by decide +kernel
theorem dX5_addFind_43 : decode cX5_addFind 43 = .ok (.invokespecial 52, 3) := by decide +kernel
theorem dX5_addFind_46 : decode cX5_addFind 46 = .ok (.athrow, 1) := by decide +kernel
theorem dX5_addFind_47 : decode cX5_addFind 47 = .ok (.aload_n 0, 1) := by decide +kernel
theorem dX5_addFind_48 : decode cX5_addFind 48 = .ok (.getfield 33, 3) := by decide +kernel
theorem dX5_addFind_51 : decode cX5_addFind 51 = .ok (.getfield 121, 3) := by decide +kernel
theorem dX5_addFind_54 : decode cX5_addFind 54 = .ok (.bipush 60, 2) := by decide +kernel
theorem dX5_addFind_56 : decode cX5_addFind 56 = .ok (.if_icmp .lt 13, 3) := by decide +kernel
theorem dX5_addFind_59 : decode cX5_addFind 59 = .ok (.new 59, 3) := by decide +kernel
theorem dX5_addFind_62 : decode cX5_addFind 62 = .ok (.dup, 1) := by decide +kernel
theorem dX5_addFind_63 : decode cX5_addFind 63 = .ok (.ldc 200, 2) := by decide +kernel
theorem dX5_addFind_65 : decode cX5_addFind 65 = .ok (.invokespecial 63, 3) := by decide +kernel
theorem dX5_addFind_68 : decode cX5_addFind 68 = .ok (.athrow, 1) := by decide +kernel
theorem dX5_addFind_69 : decode cX5_addFind 69 = .ok (.aload_n 0, 1) := by decide +kernel
theorem dX5_addFind_70 : decode cX5_addFind 70 = .ok (.getfield 33, 3) := by decide +kernel
theorem dX5_addFind_73 : decode cX5_addFind 73 = .ok (.iload_n 1, 1) := by decide +kernel
theorem dX5_addFind_74 : decode cX5_addFind 74 = .ok (.iload_n 2, 1) := by decide +kernel
theorem dX5_addFind_75 : decode cX5_addFind 75 = .ok (.iload_n 3, 1) := by decide +kernel
theorem dX5_addFind_76 : decode cX5_addFind 76 = .ok (.iload 4, 2) := by decide +kernel
theorem dX5_addFind_78 : decode cX5_addFind 78 = .ok (.invokevirtual 202, 3) := by decide +kernel
theorem dX5_addFind_81 : decode cX5_addFind 81 = .ok (.istore 5, 2) := by decide +kernel
theorem dX5_addFind_83 : decode cX5_addFind 83 = .ok (.aload_n 0, 1) := by decide +kernel
theorem dX5_addFind_84 : decode cX5_addFind 84 = .ok (.invokevirtual 205, 3) := by decide +kernel
theorem dX5_addFind_87 : decode cX5_addFind 87 = .ok (.iload 5, 2) := by decide +kernel
theorem dX5_addFind_89 : decode cX5_addFind 89 = .ok (.ireturn, 1) := by decide +kernel
theorem dX5_place_0 : decode cX5_place 0 = .ok (.aload_n 0, 1) := by decide +kernel
theorem dX5_place_1 : decode cX5_place 1 = .ok (.iload_n 1, 1) := by decide +kernel
theorem dX5_place_2 : decode cX5_place 2 = .ok (.invokevirtual 208, 3) := by decide +kernel
theorem dX5_place_5 : decode cX5_place 5 = .ok (.iload_n 2, 1) := by decide +kernel
theorem dX5_place_6 : decode cX5_place 6 = .ok (.iload_n 3, 1) := by decide +kernel
theorem dX5_place_7 : decode cX5_place 7 = .ok (.iload 4, 2) := by decide +kernel
theorem dX5_place_9 : decode cX5_place 9 = .ok (.invokestatic 211, 3) := by decide +kernel
theorem dX5_place_12 : decode cX5_place 12 = .ok (.aload_n 0, 1) := by decide +kernel
theorem dX5_place_13 : decode cX5_place 13 = .ok (.getfield 33, 3) := by decide +kernel
theorem dX5_place_16 : decode cX5_place 16 = .ok (.getfield 214, 3) := by decide +kernel
theorem dX5_place_19 : decode cX5_place 19 = .ok (.iload_n 1, 1) := by decide +kernel
theorem dX5_place_20 : decode cX5_place 20 = .ok (.iaload, 1) := by decide +kernel
theorem dX5_place_21 : decode cX5_place 21 = .ok (.istore 5, 2) := by decide +kernel
theorem dX5_place_23 : decode cX5_place 23 = .ok (.aload_n 0, 1) := by decide +kernel
theorem dX5_place_24 : decode cX5_place 24 = .ok (.getfield 33, 3) := by decide +kernel
theorem dX5_place_27 : decode cX5_place 27 = .ok (.getfield 217, 3) := by decide +kernel
theorem dX5_place_30 : decode cX5_place 30 = .ok (.iload_n 1, 1) := by decide +kernel
theorem dX5_place_31 : decode cX5_place 31 = .ok (.iload_n 2, 1) := by decide +kernel
theorem dX5_place_32 : decode cX5_place 32 = .ok (.iastore, 1) := by decide +kernel
theorem dX5_place_33 : decode cX5_place 33 = .ok (.aload_n 0, 1) := by decide +kernel
theorem dX5_place_34 : decode cX5_place 34 = .ok (.getfield 33, 3) := by decide +kernel
theorem dX5_place_37 : decode cX5_place 37 = .ok (.getfield 220, 3) := by decide +kernel
theorem dX5_place_40 : decode cX5_place 40 = .ok (.iload_n 1, 1) := by decide +kernel
theorem dX5_place_41 : decode cX5_place 41 = .ok (.iload_n 3, 1) := by decide +kernel
theorem dX5_place_42 : decode cX5_place 42 = .ok (.iastore, 1) := by decide +kernel
theorem dX5_place_43 : decode cX5_place 43 = .ok (.aload_n 0, 1) := by decide +kernel
theorem dX5_place_44 : decode cX5_place 44 = .ok (.getfield 33, 3) := by decide +kernel
theorem dX5_place_47 : decode cX5_place 47 = .ok (.getfield 214, 3) := by decide +kernel
theorem dX5_place_50 : decode cX5_place 50 = .ok (.iload_n 1, 1) := by decide +kernel
theorem dX5_place_51 : decode cX5_place 51 = .ok (.iload 4, 2) := by decide +kernel
theorem dX5_place_53 : decode cX5_place 53 = .ok (.iastore, 1) := by decide +kernel
theorem dX5_place_54 : decode cX5_place 54 = .ok (.iload 5, 2) := by decide +kernel
theorem dX5_place_56 : decode cX5_place 56 = .ok (.ireturn, 1) := by decide +kernel
theorem dX5_move_0 : decode cX5_move 0 = .ok (.aload_n 0, 1) := by decide +kernel
theorem dX5_move_1 : decode cX5_move 1 = .ok (.iload_n 1, 1) := by decide +kernel
theorem dX5_move_2 : decode cX5_move 2 = .ok (.invokevirtual 208, 3) := by decide +kernel
theorem dX5_move_5 : decode cX5_move 5 = .ok (.aload_n 0, 1) := by decide +kernel
theorem dX5_move_6 : decode cX5_move 6 = .ok (.iload_n 2, 1) := by decide +kernel
theorem dX5_move_7 : decode cX5_move 7 = .ok (.invokevirtual 73, 3) := by decide +kernel
theorem dX5_move_10 : decode cX5_move 10 = .ok (.aload_n 0, 1) := by decide +kernel
theorem dX5_move_11 : decode cX5_move 11 = .ok (.getfield 33, 3) := by decide +kernel
theorem dX5_move_14 : decode cX5_move 14 = .ok (.getfield 223, 3) := by decide +kernel
theorem dX5_move_17 : decode cX5_move 17 = .ok (.iload_n 1, 1) := by decide +kernel
theorem dX5_move_18 : decode cX5_move 18 = .ok (.iaload, 1) := by decide +kernel
theorem dX5_move_19 : decode cX5_move 19 = .ok (.istore_n 3, 1) := by decide +kernel
theorem dX5_move_20 : decode cX5_move 20 = .ok (.aload_n 0, 1) := by decide +kernel
theorem dX5_move_21 : decode cX5_move 21 = .ok (.getfield 33, 3) := by decide +kernel
theorem dX5_move_24 : decode cX5_move 24 = .ok (.getfield 223, 3) := by decide +kernel
theorem dX5_move_27 : decode cX5_move 27 = .ok (.iload_n 1, 1) := by decide +kernel
theorem dX5_move_28 : decode cX5_move 28 = .ok (.iload_n 2, 1) := by decide +kernel
theorem dX5_move_29 : decode cX5_move 29 = .ok (.iastore, 1) := by decide +kernel
theorem dX5_move_30 : decode cX5_move 30 = .ok (.aload_n 0, 1) := by decide +kernel
theorem dX5_move_31 : decode cX5_move 31 = .ok (.invokevirtual 205, 3) := by decide +kernel
theorem dX5_move_34 : decode cX5_move 34 = .ok (.iload_n 3, 1) := by decide +kernel
theorem dX5_move_35 : decode cX5_move 35 = .ok (.ireturn, 1) := by decide +kernel
theorem dX5_find_0 : decode cX5_find 0 = .ok (.aload_n 0, 1) := by decide +kernel
theorem dX5_find_1 : decode cX5_find 1 = .ok (.iload_n 1, 1) := by decide +kernel
theorem dX5_find_2 : decode cX5_find 2 = .ok (.invokevirtual 208, 3) := by decide +kernel
theorem dX5_find_5 : decode cX5_find 5 = .ok (.iload_n 2, 1) := by decide +kernel
theorem dX5_find_6 : decode cX5_find 6 = .ok (.bipush 8, 2) := by decide +kernel
theorem dX5_find_8 : decode cX5_find 8 = .ok (.invokestatic 93, 3) := by decide +kernel
theorem dX5_find_11 : decode cX5_find 11 = .ok (.iload_n 2, 1) := by decide +kernel
theorem dX5_find_12 : decode cX5_find 12 = .ok (.tableswitch 114 0 6 #[44, 54, 64, 74, 84, 94, 104], 44) := by decide +kernel
theorem dX5_find_56 : decode cX5_find 56 = .ok (.aload_n 0, 1) := by decide +kernel
theorem dX5_find_57 : decode cX5_find 57 = .ok (.getfield 33, 3) := by decide +kernel
theorem dX5_find_60 : decode cX5_find 60 = .ok (.getfield 223, 3) := by decide +kernel
theorem dX5_find_63 : decode cX5_find 63 = .ok (.iload_n 1, 1) := by decide +kernel
theorem dX5_find_64 : decode cX5_find 64 = .ok (.iaload, 1) := by decide +kernel
theorem dX5_find_65 : decode cX5_find 65 = .ok (.ireturn, 1) := by decide +kernel
theorem dX5_find_66 : decode cX5_find 66 = .ok (.aload_n 0, 1) := by decide +kernel
theorem dX5_find_67 : decode cX5_find 67 = .ok (.getfield 33, 3) := by decide +kernel
theorem dX5_find_70 : decode cX5_find 70 = .ok (.getfield 225, 3) := by decide +kernel
theorem dX5_find_73 : decode cX5_find 73 = .ok (.iload_n 1, 1) := by decide +kernel
theorem dX5_find_74 : decode cX5_find 74 = .ok (.iaload, 1) := by decide +kernel
theorem dX5_find_75 : decode cX5_find 75 = .ok (.ireturn, 1) := by decide +kernel
theorem dX5_find_76 : decode cX5_find 76 = .ok (.aload_n 0, 1) := by decide +kernel
theorem dX5_find_77 : decode cX5_find 77 = .ok (.getfield 33, 3) := by decide +kernel
theorem dX5_find_80 : decode cX5_find 80 = .ok (.getfield 226, 3) := by decide +kernel
theorem dX5_find_83 : decode cX5_find 83 = .ok (.iload_n 1, 1) := by decide +kernel
theorem dX5_find_84 : decode cX5_find 84 = .ok (.iaload, 1) := by decide +kernel
theorem dX5_find_85 : decode cX5_find 85 = .ok (.ireturn, 1) := by decide +kernel
theorem dX5_find_86 : decode cX5_find 86 = .ok (.aload_n 0, 1) := by decide +kernel
theorem dX5_find_87 : decode cX5_find 87 = .ok (.getfield 33, 3) := by decide +kernel
theorem dX5_find_90 : decode cX5_find 90 = .ok (.getfield 229, 3) := by decide +kernel
theorem dX5_find_93 : decode cX5_find 93 = .ok (.iload_n 1, 1) := by decide +kernel
theorem dX5_find_94 : decode cX5_find 94 = .ok (.iaload, 1) := by decide +kernel
theorem dX5_find_95 : decode cX5_find 95 = .ok (.ireturn, 1) := by decide +kernel
theorem dX5_find_96 : decode cX5_find 96 = .ok (.aload_n 0, 1) := by decide +kernel
theorem dX5_find_97 : decode cX5_find 97 = .ok (.getfield 33, 3) := by decide +kernel
theorem dX5_find_100 : decode cX5_find 100 = .ok (.getfield 217, 3) := by decide +kernel
theorem dX5_find_103 : decode cX5_find 103 = .ok (.iload_n 1, 1) := by decide +kernel
theorem dX5_find_104 : decode cX5_find 104 = .ok (.iaload, 1) := by decide +kernel
theorem dX5_find_105 : decode cX5_find 105 = .ok (.ireturn, 1) := by decide +kernel
theorem dX5_find_106 : decode cX5_find 106 = .ok (.aload_n 0, 1) := by decide +kernel
theorem dX5_find_107 : decode cX5_find 107 = .ok (.getfield 33, 3) := by decide +kernel
theorem dX5_find_110 : decode cX5_find 110 = .ok (.getfield 220, 3) := by decide +kernel
theorem dX5_find_113 : decode cX5_find 113 = .ok (.iload_n 1, 1) := by decide +kernel
theorem dX5_find_114 : decode cX5_find 114 = .ok (.iaload, 1) := by decide +kernel
theorem dX5_find_115 : decode cX5_find 115 = .ok (.ireturn, 1) := by decide +kernel
theorem dX5_find_116 : decode cX5_find 116 = .ok (.aload_n 0, 1) := by decide +kernel
theorem dX5_find_117 : decode cX5_find 117 = .ok (.getfield 33, 3) := by decide +kernel
theorem dX5_find_120 : decode cX5_find 120 = .ok (.getfield 214, 3) := by decide +kernel
theorem dX5_find_123 : decode cX5_find 123 = .ok (.iload_n 1, 1) := by decide +kernel
theorem dX5_find_124 : decode cX5_find 124 = .ok (.iaload, 1) := by decide +kernel
theorem dX5_find_125 : decode cX5_find 125 = .ok (.ireturn, 1) := by decide +kernel
theorem dX5_find_126 : decode cX5_find 126 = .ok (.aload_n 0, 1) := by decide +kernel
theorem dX5_find_127 : decode cX5_find 127 = .ok (.iload_n 1, 1) := by decide +kernel
theorem dX5_find_128 : decode cX5_find 128 = .ok (.invokevirtual 232, 3) := by decide +kernel
theorem dX5_find_131 : decode cX5_find 131 = .ok (.ireturn, 1) := by decide +kernel
theorem dX5_date_0 : decode cX5_date 0 = .ok (.aload_n 0, 1) := by decide +kernel
theorem dX5_date_1 : decode cX5_date 1 = .ok (.iload_n 1, 1) := by decide +kernel
theorem dX5_date_2 : decode cX5_date 2 = .ok (.invokevirtual 73, 3) := by decide +kernel
theorem dX5_date_5 : decode cX5_date 5 = .ok (.iload_n 2, 1) := by decide +kernel
theorem dX5_date_6 : decode cX5_date 6 = .ok (.iload_n 3, 1) := by decide +kernel
theorem dX5_date_7 : decode cX5_date 7 = .ok (.invokestatic 195, 3) := by decide +kernel
theorem dX5_date_10 : decode cX5_date 10 = .ok (.aload_n 0, 1) := by decide +kernel
theorem dX5_date_11 : decode cX5_date 11 = .ok (.getfield 10, 3) := by decide +kernel
theorem dX5_date_14 : decode cX5_date 14 = .ok (.getfield 235, 3) := by decide +kernel
theorem dX5_date_17 : decode cX5_date 17 = .ok (.iload_n 1, 1) := by decide +kernel
theorem dX5_date_18 : decode cX5_date 18 = .ok (.invokestatic 157, 3) := by decide +kernel
theorem dX5_date_21 : decode cX5_date 21 = .ok (.ifCond .eq 7, 3) := by decide +kernel
theorem dX5_date_24 : decode cX5_date 24 = .ok (.iconst 1, 1) := by decide +kernel
theorem dX5_date_25 : decode cX5_date 25 = .ok (.goto 4, 3) := by decide +kernel
theorem dX5_date_28 : decode cX5_date 28 = .ok (.iconst 0, 1) := by decide +kernel
theorem dX5_date_29 : decode cX5_date 29 = .ok (.istore 4, 2) := by decide +kernel
theorem dX5_date_31 : decode cX5_date 31 = .ok (.aload_n 0, 1) := by decide +kernel
theorem dX5_date_32 : decode cX5_date 32 = .ok (.getfield 10, 3) := by decide +kernel
theorem dX5_date_35 : decode cX5_date 35 = .ok (.iload_n 1, 1) := by decide +kernel
theorem dX5_date_36 : decode cX5_date 36 = .ok (.iload_n 2, 1) := by decide +kernel
theorem dX5_date_37 : decode cX5_date 37 = .ok (.iload_n 3, 1) := by decide +kernel
theorem dX5_date_38 : decode cX5_date 38 = .ok (.invokevirtual 238, 3) := by decide +kernel
theorem dX5_date_41 : decode cX5_date 41 = .ok (.aload_n 0, 1) := by decide +kernel
theorem dX5_date_42 : decode cX5_date 42 = .ok (.invokevirtual 205, 3) := by decide +kernel
theorem dX5_date_45 : decode cX5_date 45 = .ok (.iload 4, 2) := by decide +kernel
theorem dX5_date_47 : decode cX5_date 47 = .ok (.ireturn, 1) := by decide +kernel
theorem dX5_bound_0 : decode cX5_bound 0 = .ok (.aload_n 0, 1) := by decide +kernel
theorem dX5_bound_1 : decode cX5_bound 1 = .ok (.iload_n 1, 1) := by decide +kernel
theorem dX5_bound_2 : decode cX5_bound 2 = .ok (.invokevirtual 73, 3) := by decide +kernel
theorem dX5_bound_5 : decode cX5_bound 5 = .ok (.aload_n 0, 1) := by decide +kernel
theorem dX5_bound_6 : decode cX5_bound 6 = .ok (.getfield 26, 3) := by decide +kernel
theorem dX5_bound_9 : decode cX5_bound 9 = .ok (.getfield 135, 3) := by decide +kernel
theorem dX5_bound_12 : decode cX5_bound 12 = .ok (.iload_n 1, 1) := by decide +kernel
theorem dX5_bound_13 : decode cX5_bound 13 = .ok (.iaload, 1) := by decide +kernel
theorem dX5_bound_14 : decode cX5_bound 14 = .ok (.istore_n 3, 1) := by decide +kernel
theorem dX5_bound_15 : decode cX5_bound 15 = .ok (.iload_n 2, 1) := by decide +kernel
theorem dX5_bound_16 : decode cX5_bound 16 = .ok (.ifCond .eq 15, 3) := by decide +kernel
theorem dX5_bound_19 : decode cX5_bound 19 = .ok (.aload_n 0, 1) := by decide +kernel
theorem dX5_bound_20 : decode cX5_bound 20 = .ok (.getfield 40, 3) := by decide +kernel
theorem dX5_bound_23 : decode cX5_bound 23 = .ok (.getfield 241, 3) := by decide +kernel
theorem dX5_bound_26 : decode cX5_bound 26 = .ok (.iload_n 3, 1) := by decide +kernel
theorem dX5_bound_27 : decode cX5_bound 27 = .ok (.iaload, 1) := by decide +kernel
theorem dX5_bound_28 : decode cX5_bound 28 = .ok (.goto 12, 3) := by decide +kernel
theorem dX5_bound_31 : decode cX5_bound 31 = .ok (.aload_n 0, 1) := by decide +kernel
theorem dX5_bound_32 : decode cX5_bound 32 = .ok (.getfield 40, 3) := by decide +kernel
theorem dX5_bound_35 : decode cX5_bound 35 = .ok (.getfield 244, 3) := by decide +kernel
theorem dX5_bound_38 : decode cX5_bound 38 = .ok (.iload_n 3, 1) := by decide +kernel
theorem dX5_bound_39 : decode cX5_bound 39 = .ok (.iaload, 1) := by decide +kernel
theorem dX5_bound_40 : decode cX5_bound 40 = .ok (.ireturn, 1) := by decide +kernel
theorem dX5_doubt_0 : decode cX5_doubt 0 = .ok (.iload_n 1, 1) := by decide +kernel
theorem dX5_doubt_1 : decode cX5_doubt 1 = .ok (.invokestatic 177, 3) := by decide +kernel
theorem dX5_doubt_4 : decode cX5_doubt 4 = .ok (.aload_n 0, 1) := by decide +kernel
theorem dX5_doubt_5 : decode cX5_doubt 5 = .ok (.invokevirtual 125, 3) := by decide +kernel
theorem dX5_doubt_8 : decode cX5_doubt 8 = .ok (.iload_n 1, 1) := by decide +kernel
theorem dX5_doubt_9 : decode cX5_doubt 9 = .ok (.invokestatic 184, 3) := by decide +kernel
theorem dX5_doubt_12 : decode cX5_doubt 12 = .ok (.ireturn, 1) := by decide +kernel
theorem dX5_nearest_0 : decode cX5_nearest 0 = .ok (.iload_n 1, 1) := by decide +kernel
theorem dX5_nearest_1 : decode cX5_nearest 1 = .ok (.iload_n 2, 1) := by decide +kernel
theorem dX5_nearest_2 : decode cX5_nearest 2 = .ok (.iload_n 3, 1) := by decide +kernel
theorem dX5_nearest_3 : decode cX5_nearest 3 = .ok (.invokestatic 211, 3) := by decide +kernel
theorem dX5_nearest_6 : decode cX5_nearest 6 = .ok (.iload 4, 2) := by decide +kernel
theorem dX5_nearest_8 : decode cX5_nearest 8 = .ok (.iconst (-1), 1) := by decide +kernel
theorem dX5_nearest_9 : decode cX5_nearest 9 = .ok (.bipush 9, 2) := by decide +kernel
theorem dX5_nearest_11 : decode cX5_nearest 11 = .ok (.invokestatic 44, 3) := by decide +kernel
theorem dX5_nearest_14 : decode cX5_nearest 14 = .ok (.ifCond .ne 13, 3) := by decide +kernel
theorem dX5_nearest_17 : decode cX5_nearest 17 = .ok (.new 48, 3) := by decide +kernel
theorem dX5_nearest_20 : decode cX5_nearest 20 = .ok (.dup, 1) := by decide +kernel
theorem dX5_nearest_21 : decode cX5_nearest 21 = .ok (.ldc 247, 2) := by decide +kernel
theorem dX5_nearest_23 : decode cX5_nearest 23 = .ok (.invokespecial 52, 3) := by decide +kernel
theorem dX5_nearest_26 : decode cX5_nearest 26 = .ok (.athrow, 1) := by decide +kernel
theorem dX5_nearest_27 : decode cX5_nearest 27 = .ok (.aload_n 0, 1) := by decide +kernel
theorem dX5_nearest_28 : decode cX5_nearest 28 = .ok (.getfield 33, 3) := by decide +kernel
theorem dX5_nearest_31 : decode cX5_nearest 31 = .ok (.iload_n 1, 1) := by decide +kernel
theorem dX5_nearest_32 : decode cX5_nearest 32 = .ok (.iload_n 2, 1) := by decide +kernel
theorem dX5_nearest_33 : decode cX5_nearest 33 = .ok (.iload_n 3, 1) := by decide +kernel
theorem dX5_nearest_34 : decode cX5_nearest 34 = .ok (.iload 4, 2) := by decide +kernel
theorem dX5_nearest_36 : decode cX5_nearest 36 = .ok (.invokevirtual 249, 3) := by decide +kernel
theorem dX5_nearest_39 : decode cX5_nearest 39 = .ok (.ireturn, 1) := by decide +kernel
theorem dX5_dig_0 : decode cX5_dig 0 = .ok (.aload_n 0, 1) := by decide +kernel
theorem dX5_dig_1 : decode cX5_dig 1 = .ok (.iload_n 1, 1) := by decide +kernel
theorem dX5_dig_2 : decode cX5_dig 2 = .ok (.invokevirtual 73, 3) := by decide +kernel
theorem dX5_dig_5 : decode cX5_dig 5 = .ok (.aload_n 0, 1) := by decide +kernel
theorem dX5_dig_6 : decode cX5_dig 6 = .ok (.iload_n 1, 1) := by decide +kernel
theorem dX5_dig_7 : decode cX5_dig 7 = .ok (.invokevirtual 252, 3) := by decide +kernel
theorem dX5_dig_10 : decode cX5_dig 10 = .ok (.ifCond .ne 14, 3) := by decide +kernel
theorem dX5_dig_13 : decode cX5_dig 13 = .ok (.new 59, 3) := by decide +kernel
theorem dX5_dig_16 : decode cX5_dig 16 = .ok (.dup, 1) := by decide +kernel
theorem dX5_dig_17 : decode cX5_dig 17 = .ok (.ldc_w 256, 3) := by decide +kernel
theorem dX5_dig_20 : decode cX5_dig 20 = .ok (.invokespecial 63, 3) := by decide +kernel
theorem dX5_dig_23 : decode cX5_dig 23 = .ok (.athrow, 1) := by decide +kernel
theorem dX5_dig_24 : decode cX5_dig 24 = .ok (.aload_n 0, 1) := by decide +kernel
theorem dX5_dig_25 : decode cX5_dig 25 = .ok (.getfield 10, 3) := by decide +kernel
theorem dX5_dig_28 : decode cX5_dig 28 = .ok (.dup, 1) := by decide +kernel
theorem dX5_dig_29 : decode cX5_dig 29 = .ok (.getfield 122, 3) := by decide +kernel
theorem dX5_dig_32 : decode cX5_dig 32 = .ok (.iload_n 1, 1) := by decide +kernel
theorem dX5_dig_33 : decode cX5_dig 33 = .ok (.invokestatic 258, 3) := by decide +kernel
theorem dX5_dig_36 : decode cX5_dig 36 = .ok (.lor, 1) := by decide +kernel
theorem dX5_dig_37 : decode cX5_dig 37 = .ok (.putfield 122, 3) := by decide +kernel
theorem dX5_dig_40 : decode cX5_dig 40 = .ok (.aload_n 0, 1) := by decide +kernel
theorem dX5_dig_41 : decode cX5_dig 41 = .ok (.invokevirtual 262, 3) := by decide +kernel
theorem dX5_dig_44 : decode cX5_dig 44 = .ok (.invokestatic 111, 3) := by decide +kernel
theorem dX5_dig_47 : decode cX5_dig 47 = .ok (.ireturn, 1) := by decide +kernel
theorem dX5_next_0 : decode cX5_next 0 = .ok (.iload_n 1, 1) := by decide +kernel
theorem dX5_next_1 : decode cX5_next 1 = .ok (.invokestatic 177, 3) := by decide +kernel
theorem dX5_next_4 : decode cX5_next 4 = .ok (.aload_n 0, 1) := by decide +kernel
theorem dX5_next_5 : decode cX5_next 5 = .ok (.invokevirtual 262, 3) := by decide +kernel
theorem dX5_next_8 : decode cX5_next 8 = .ok (.iload_n 1, 1) := by decide +kernel
theorem dX5_next_9 : decode cX5_next 9 = .ok (.invokestatic 184, 3) := by decide +kernel
theorem dX5_next_12 : decode cX5_next 12 = .ok (.ireturn, 1) := by decide +kernel
theorem dX5_setPhase_0 : decode cX5_setPhase 0 = .ok (.aload_n 0, 1) := by decide +kernel
theorem dX5_setPhase_1 : decode cX5_setPhase 1 = .ok (.iload_n 1, 1) := by decide +kernel
theorem dX5_setPhase_2 : decode cX5_setPhase 2 = .ok (.invokevirtual 73, 3) := by decide +kernel
theorem dX5_setPhase_5 : decode cX5_setPhase 5 = .ok (.iload_n 2, 1) := by decide +kernel
theorem dX5_setPhase_6 : decode cX5_setPhase 6 = .ok (.iconst 0, 1) := by decide +kernel
theorem dX5_setPhase_7 : decode cX5_setPhase 7 = .ok (.bipush 20, 2) := by decide +kernel
theorem dX5_setPhase_9 : decode cX5_setPhase 9 = .ok (.invokestatic 44, 3) := by decide +kernel
theorem dX5_setPhase_12 : decode cX5_setPhase 12 = .ok (.ifCond .ne 14, 3) := by decide +kernel
theorem dX5_setPhase_15 : decode cX5_setPhase 15 = .ok (.new 48, 3) := by decide +kernel
theorem dX5_setPhase_18 : decode cX5_setPhase 18 = .ok (.dup, 1) := by decide +kernel
theorem dX5_setPhase_19 : decode cX5_setPhase 19 = .ok (.ldc_w 265, 3) := by decide +kernel
theorem dX5_setPhase_22 : decode cX5_setPhase 22 = .ok (.invokespecial 52, 3) := by decide +kernel
theorem dX5_setPhase_25 : decode cX5_setPhase 25 = .ok (.athrow, 1) := by decide +kernel
theorem dX5_setPhase_26 : decode cX5_setPhase 26 = .ok (.aload_n 0, 1) := by decide +kernel
theorem dX5_setPhase_27 : decode cX5_setPhase 27 = .ok (.getfield 10, 3) := by decide +kernel
theorem dX5_setPhase_30 : decode cX5_setPhase 30 = .ok (.getfield 161, 3) := by decide +kernel
theorem dX5_setPhase_33 : decode cX5_setPhase 33 = .ok (.iload_n 1, 1) := by decide +kernel
theorem dX5_setPhase_34 : decode cX5_setPhase 34 = .ok (.iaload, 1) := by decide +kernel
theorem dX5_setPhase_35 : decode cX5_setPhase 35 = .ok (.istore_n 3, 1) := by decide +kernel
theorem dX5_setPhase_36 : decode cX5_setPhase 36 = .ok (.aload_n 0, 1) := by decide +kernel
theorem dX5_setPhase_37 : decode cX5_setPhase 37 = .ok (.getfield 10, 3) := by decide +kernel
theorem dX5_setPhase_40 : decode cX5_setPhase 40 = .ok (.getfield 161, 3) := by decide +kernel
theorem dX5_setPhase_43 : decode cX5_setPhase 43 = .ok (.iload_n 1, 1) := by decide +kernel
theorem dX5_setPhase_44 : decode cX5_setPhase 44 = .ok (.iload_n 2, 1) := by decide +kernel
theorem dX5_setPhase_45 : decode cX5_setPhase 45 = .ok (.iastore, 1) := by decide +kernel
theorem dX5_setPhase_46 : decode cX5_setPhase 46 = .ok (.iload_n 3, 1) := by decide +kernel
theorem dX5_setPhase_47 : decode cX5_setPhase 47 = .ok (.ireturn, 1) := by decide +kernel
theorem dX5_phaseAll_0 : decode cX5_phaseAll 0 = .ok (.iconst 0, 1) := by decide +kernel
theorem dX5_phaseAll_1 : decode cX5_phaseAll 1 = .ok (.istore_n 1, 1) := by decide +kernel
theorem dX5_phaseAll_2 : decode cX5_phaseAll 2 = .ok (.iconst 0, 1) := by decide +kernel
theorem dX5_phaseAll_3 : decode cX5_phaseAll 3 = .ok (.istore_n 2, 1) := by decide +kernel
theorem dX5_phaseAll_4 : decode cX5_phaseAll 4 = .ok (.iload_n 2, 1) := by decide +kernel
theorem dX5_phaseAll_5 : decode cX5_phaseAll 5 = .ok (.aload_n 0, 1) := by decide +kernel
theorem dX5_phaseAll_6 : decode cX5_phaseAll 6 = .ok (.getfield 10, 3) := by decide +kernel
theorem dX5_phaseAll_9 : decode cX5_phaseAll 9 = .ok (.getfield 55, 3) := by decide +kernel
theorem dX5_phaseAll_12 : decode cX5_phaseAll 12 = .ok (.if_icmp .ge 58, 3) := by decide +kernel
theorem dX5_phaseAll_15 : decode cX5_phaseAll 15 = .ok (.bipush 20, 2) := by decide +kernel
theorem dX5_phaseAll_17 : decode cX5_phaseAll 17 = .ok (.aload_n 0, 1) := by decide +kernel
theorem dX5_phaseAll_18 : decode cX5_phaseAll 18 = .ok (.getfield 26, 3) := by decide +kernel
theorem dX5_phaseAll_21 : decode cX5_phaseAll 21 = .ok (.getfield 145, 3) := by decide +kernel
theorem dX5_phaseAll_24 : decode cX5_phaseAll 24 = .ok (.aload_n 0, 1) := by decide +kernel
theorem dX5_phaseAll_25 : decode cX5_phaseAll 25 = .ok (.getfield 26, 3) := by decide +kernel
theorem dX5_phaseAll_28 : decode cX5_phaseAll 28 = .ok (.getfield 135, 3) := by decide +kernel
theorem dX5_phaseAll_31 : decode cX5_phaseAll 31 = .ok (.iload_n 2, 1) := by decide +kernel
theorem dX5_phaseAll_32 : decode cX5_phaseAll 32 = .ok (.iaload, 1) := by decide +kernel
theorem dX5_phaseAll_33 : decode cX5_phaseAll 33 = .ok (.iaload, 1) := by decide +kernel
theorem dX5_phaseAll_34 : decode cX5_phaseAll 34 = .ok (.invokestatic 267, 3) := by decide +kernel
theorem dX5_phaseAll_37 : decode cX5_phaseAll 37 = .ok (.istore_n 3, 1) := by decide +kernel
theorem dX5_phaseAll_38 : decode cX5_phaseAll 38 = .ok (.aload_n 0, 1) := by decide +kernel
theorem dX5_phaseAll_39 : decode cX5_phaseAll 39 = .ok (.getfield 10, 3) := by decide +kernel
theorem dX5_phaseAll_42 : decode cX5_phaseAll 42 = .ok (.getfield 161, 3) := by decide +kernel
theorem dX5_phaseAll_45 : decode cX5_phaseAll 45 = .ok (.iload_n 2, 1) := by decide +kernel
theorem dX5_phaseAll_46 : decode cX5_phaseAll 46 = .ok (.iaload, 1) := by decide +kernel
theorem dX5_phaseAll_47 : decode cX5_phaseAll 47 = .ok (.iload_n 3, 1) := by decide +kernel
theorem dX5_phaseAll_48 : decode cX5_phaseAll 48 = .ok (.if_icmp .eq 16, 3) := by decide +kernel
theorem dX5_phaseAll_51 : decode cX5_phaseAll 51 = .ok (.aload_n 0, 1) := by decide +kernel
theorem dX5_phaseAll_52 : decode cX5_phaseAll 52 = .ok (.getfield 10, 3) := by decide +kernel
theorem dX5_phaseAll_55 : decode cX5_phaseAll 55 = .ok (.getfield 161, 3) := by decide +kernel
theorem dX5_phaseAll_58 : decode cX5_phaseAll 58 = .ok (.iload_n 2, 1) := by decide +kernel
theorem dX5_phaseAll_59 : decode cX5_phaseAll 59 = .ok (.iload_n 3, 1) := by decide +kernel
theorem dX5_phaseAll_60 : decode cX5_phaseAll 60 = .ok (.iastore, 1) := by decide +kernel
theorem dX5_phaseAll_61 : decode cX5_phaseAll 61 = .ok (.iinc 1 1, 3) := by decide +kernel
theorem dX5_phaseAll_64 : decode cX5_phaseAll 64 = .ok (.iinc 2 1, 3) := by decide +kernel
theorem dX5_phaseAll_67 : decode cX5_phaseAll 67 = .ok (.goto (-63), 3) := by decide +kernel
theorem dX5_phaseAll_70 : decode cX5_phaseAll 70 = .ok (.iload_n 1, 1) := by decide +kernel
theorem dX5_phaseAll_71 : decode cX5_phaseAll 71 = .ok (.ireturn, 1) := by decide +kernel
theorem dX5_outOfPhase_0 : decode cX5_outOfPhase 0 = .ok (.iconst 0, 1) := by decide +kernel
theorem dX5_outOfPhase_1 : decode cX5_outOfPhase 1 = .ok (.istore_n 2, 1) := by decide +kernel
theorem dX5_outOfPhase_2 : decode cX5_outOfPhase 2 = .ok (.iload_n 2, 1) := by decide +kernel
theorem dX5_outOfPhase_3 : decode cX5_outOfPhase 3 = .ok (.aload_n 0, 1) := by decide +kernel
theorem dX5_outOfPhase_4 : decode cX5_outOfPhase 4 = .ok (.getfield 10, 3) := by decide +kernel
theorem dX5_outOfPhase_7 : decode cX5_outOfPhase 7 = .ok (.getfield 55, 3) := by decide +kernel
theorem dX5_outOfPhase_10 : decode cX5_outOfPhase 10 = .ok (.if_icmp .ge 47, 3) := by decide +kernel
theorem dX5_outOfPhase_13 : decode cX5_outOfPhase 13 = .ok (.iconst 0, 1) := by decide +kernel
theorem dX5_outOfPhase_14 : decode cX5_outOfPhase 14 = .ok (.istore_n 3, 1) := by decide +kernel
theorem dX5_outOfPhase_15 : decode cX5_outOfPhase 15 = .ok (.iload_n 3, 1) := by decide +kernel
theorem dX5_outOfPhase_16 : decode cX5_outOfPhase 16 = .ok (.aload_n 0, 1) := by decide +kernel
theorem dX5_outOfPhase_17 : decode cX5_outOfPhase 17 = .ok (.getfield 10, 3) := by decide +kernel
theorem dX5_outOfPhase_20 : decode cX5_outOfPhase 20 = .ok (.getfield 55, 3) := by decide +kernel
theorem dX5_outOfPhase_23 : decode cX5_outOfPhase 23 = .ok (.if_icmp .ge 28, 3) := by decide +kernel
theorem dX5_outOfPhase_26 : decode cX5_outOfPhase 26 = .ok (.aload_n 0, 1) := by decide +kernel
theorem dX5_outOfPhase_27 : decode cX5_outOfPhase 27 = .ok (.iload_n 2, 1) := by decide +kernel
theorem dX5_outOfPhase_28 : decode cX5_outOfPhase 28 = .ok (.iload_n 3, 1) := by decide +kernel
theorem dX5_outOfPhase_29 : decode cX5_outOfPhase 29 = .ok (.invokevirtual 273, 3) := by decide +kernel
theorem dX5_outOfPhase_32 : decode cX5_outOfPhase 32 = .ok (.ifCond .eq 13, 3) := by decide +kernel
theorem dX5_outOfPhase_35 : decode cX5_outOfPhase 35 = .ok (.iload_n 1, 1) := by decide +kernel
theorem dX5_outOfPhase_36 : decode cX5_outOfPhase 36 = .ok (.ifCond .eq 7, 3) := by decide +kernel
theorem dX5_outOfPhase_39 : decode cX5_outOfPhase 39 = .ok (.iload_n 3, 1) := by decide +kernel
theorem dX5_outOfPhase_40 : decode cX5_outOfPhase 40 = .ok (.goto 4, 3) := by decide +kernel
theorem dX5_outOfPhase_43 : decode cX5_outOfPhase 43 = .ok (.iload_n 2, 1) := by decide +kernel
theorem dX5_outOfPhase_44 : decode cX5_outOfPhase 44 = .ok (.ireturn, 1) := by decide +kernel
theorem dX5_outOfPhase_45 : decode cX5_outOfPhase 45 = .ok (.iinc 3 1, 3) := by decide +kernel
theorem dX5_outOfPhase_48 : decode cX5_outOfPhase 48 = .ok (.goto (-33), 3) := by decide +kernel
theorem dX5_outOfPhase_51 : decode cX5_outOfPhase 51 = .ok (.iinc 2 1, 3) := by decide +kernel
theorem dX5_outOfPhase_54 : decode cX5_outOfPhase 54 = .ok (.goto (-52), 3) := by decide +kernel
theorem dX5_outOfPhase_57 : decode cX5_outOfPhase 57 = .ok (.iconst (-1), 1) := by decide +kernel
theorem dX5_outOfPhase_58 : decode cX5_outOfPhase 58 = .ok (.ireturn, 1) := by decide +kernel
theorem dX5_meanHeight_0 : decode cX5_meanHeight 0 = .ok (.aload_n 0, 1) := by decide +kernel
theorem dX5_meanHeight_1 : decode cX5_meanHeight 1 = .ok (.getfield 33, 3) := by decide +kernel
theorem dX5_meanHeight_4 : decode cX5_meanHeight 4 = .ok (.getfield 121, 3) := by decide +kernel
theorem dX5_meanHeight_7 : decode cX5_meanHeight 7 = .ok (.ifCond .gt 5, 3) := by decide +kernel
theorem dX5_meanHeight_10 : decode cX5_meanHeight 10 = .ok (.dconst 0, 1) := by decide +kernel
theorem dX5_meanHeight_11 : decode cX5_meanHeight 11 = .ok (.dreturn, 1) := by decide +kernel
theorem dX5_meanHeight_12 : decode cX5_meanHeight 12 = .ok (.iconst 0, 1) := by decide +kernel
theorem dX5_meanHeight_13 : decode cX5_meanHeight 13 = .ok (.istore_n 1, 1) := by decide +kernel
theorem dX5_meanHeight_14 : decode cX5_meanHeight 14 = .ok (.iconst 0, 1) := by decide +kernel
theorem dX5_meanHeight_15 : decode cX5_meanHeight 15 = .ok (.istore_n 2, 1) := by decide +kernel
theorem dX5_meanHeight_16 : decode cX5_meanHeight 16 = .ok (.iload_n 2, 1) := by decide +kernel
theorem dX5_meanHeight_17 : decode cX5_meanHeight 17 = .ok (.aload_n 0, 1) := by decide +kernel
theorem dX5_meanHeight_18 : decode cX5_meanHeight 18 = .ok (.getfield 33, 3) := by decide +kernel
theorem dX5_meanHeight_21 : decode cX5_meanHeight 21 = .ok (.getfield 121, 3) := by decide +kernel
theorem dX5_meanHeight_24 : decode cX5_meanHeight 24 = .ok (.if_icmp .ge 21, 3) := by decide +kernel
theorem dX5_meanHeight_27 : decode cX5_meanHeight 27 = .ok (.iload_n 1, 1) := by decide +kernel
theorem dX5_meanHeight_28 : decode cX5_meanHeight 28 = .ok (.aload_n 0, 1) := by decide +kernel
theorem dX5_meanHeight_29 : decode cX5_meanHeight 29 = .ok (.getfield 33, 3) := by decide +kernel
theorem dX5_meanHeight_32 : decode cX5_meanHeight 32 = .ok (.getfield 214, 3) := by decide +kernel
theorem dX5_meanHeight_35 : decode cX5_meanHeight 35 = .ok (.iload_n 2, 1) := by decide +kernel
theorem dX5_meanHeight_36 : decode cX5_meanHeight 36 = .ok (.iaload, 1) := by decide +kernel
theorem dX5_meanHeight_37 : decode cX5_meanHeight 37 = .ok (.iadd, 1) := by decide +kernel
theorem dX5_meanHeight_38 : decode cX5_meanHeight 38 = .ok (.istore_n 1, 1) := by decide +kernel
theorem dX5_meanHeight_39 : decode cX5_meanHeight 39 = .ok (.iinc 2 1, 3) := by decide +kernel
theorem dX5_meanHeight_42 : decode cX5_meanHeight 42 = .ok (.goto (-26), 3) := by decide +kernel
theorem dX5_meanHeight_45 : decode cX5_meanHeight 45 = .ok (.iload_n 1, 1) := by decide +kernel
theorem dX5_meanHeight_46 : decode cX5_meanHeight 46 = .ok (.i2d, 1) := by decide +kernel
theorem dX5_meanHeight_47 : decode cX5_meanHeight 47 = .ok (.aload_n 0, 1) := by decide +kernel
theorem dX5_meanHeight_48 : decode cX5_meanHeight 48 = .ok (.getfield 33, 3) := by decide +kernel
theorem dX5_meanHeight_51 : decode cX5_meanHeight 51 = .ok (.getfield 121, 3) := by decide +kernel
theorem dX5_meanHeight_54 : decode cX5_meanHeight 54 = .ok (.i2d, 1) := by decide +kernel
theorem dX5_meanHeight_55 : decode cX5_meanHeight 55 = .ok (.ddiv, 1) := by decide +kernel
theorem dX5_meanHeight_56 : decode cX5_meanHeight 56 = .ok (.dreturn, 1) := by decide +kernel
theorem dX5_digest_0 : decode cX5_digest 0 = .ok (.ldc2_w 276, 3) := by decide +kernel
theorem dX5_digest_3 : decode cX5_digest 3 = .ok (.lstore_n 1, 1) := by decide +kernel
theorem dX5_digest_4 : decode cX5_digest 4 = .ok (.iconst 0, 1) := by decide +kernel
theorem dX5_digest_5 : decode cX5_digest 5 = .ok (.istore_n 3, 1) := by decide +kernel
theorem dX5_digest_6 : decode cX5_digest 6 = .ok (.iload_n 3, 1) := by decide +kernel
theorem dX5_digest_7 : decode cX5_digest 7 = .ok (.bipush 9, 2) := by decide +kernel
theorem dX5_digest_9 : decode cX5_digest 9 = .ok (.if_icmp .ge 22, 3) := by decide +kernel
theorem dX5_digest_12 : decode cX5_digest 12 = .ok (.lload_n 1, 1) := by decide +kernel
theorem dX5_digest_13 : decode cX5_digest 13 = .ok (.ldc2_w 278, 3) := by decide +kernel
theorem dX5_digest_16 : decode cX5_digest 16 = .ok (.lmul, 1) := by decide +kernel
theorem dX5_digest_17 : decode cX5_digest 17 = .ok (.aload_n 0, 1) := by decide +kernel
theorem dX5_digest_18 : decode cX5_digest 18 = .ok (.iload_n 3, 1) := by decide +kernel
theorem dX5_digest_19 : decode cX5_digest 19 = .ok (.invokevirtual 280, 3) := by decide +kernel
theorem dX5_digest_22 : decode cX5_digest 22 = .ok (.i2l, 1) := by decide +kernel
theorem dX5_digest_23 : decode cX5_digest 23 = .ok (.ladd, 1) := by decide +kernel
theorem dX5_digest_24 : decode cX5_digest 24 = .ok (.lstore_n 1, 1) := by decide +kernel
theorem dX5_digest_25 : decode cX5_digest 25 = .ok (.iinc 3 1, 3) := by decide +kernel
theorem dX5_digest_28 : decode cX5_digest 28 = .ok (.goto (-22), 3) := by decide +kernel
theorem dX5_digest_31 : decode cX5_digest 31 = .ok (.iconst 0, 1) := by decide +kernel
theorem dX5_digest_32 : decode cX5_digest 32 = .ok (.istore_n 3, 1) := by decide +kernel
theorem dX5_digest_33 : decode cX5_digest 33 = .ok (.iload_n 3, 1) := by decide +kernel
theorem dX5_digest_34 : decode cX5_digest 34 = .ok (.aload_n 0, 1) := by decide +kernel
theorem dX5_digest_35 : decode cX5_digest 35 = .ok (.getfield 10, 3) := by decide +kernel
theorem dX5_digest_38 : decode cX5_digest 38 = .ok (.getfield 55, 3) := by decide +kernel
theorem dX5_digest_41 : decode cX5_digest 41 = .ok (.if_icmp .ge 68, 3) := by decide +kernel
theorem dX5_digest_44 : decode cX5_digest 44 = .ok (.iconst 0, 1) := by decide +kernel
theorem dX5_digest_45 : decode cX5_digest 45 = .ok (.istore 4, 2) := by decide +kernel
theorem dX5_digest_47 : decode cX5_digest 47 = .ok (.iload 4, 2) := by decide +kernel
theorem dX5_digest_49 : decode cX5_digest 49 = .ok (.bipush 10, 2) := by decide +kernel
theorem dX5_digest_51 : decode cX5_digest 51 = .ok (.if_icmp .ge 24, 3) := by decide +kernel
theorem dX5_digest_54 : decode cX5_digest 54 = .ok (.lload_n 1, 1) := by decide +kernel
theorem dX5_digest_55 : decode cX5_digest 55 = .ok (.ldc2_w 278, 3) := by decide +kernel
theorem dX5_digest_58 : decode cX5_digest 58 = .ok (.lmul, 1) := by decide +kernel
theorem dX5_digest_59 : decode cX5_digest 59 = .ok (.aload_n 0, 1) := by decide +kernel
theorem dX5_digest_60 : decode cX5_digest 60 = .ok (.iload_n 3, 1) := by decide +kernel
theorem dX5_digest_61 : decode cX5_digest 61 = .ok (.iload 4, 2) := by decide +kernel
theorem dX5_digest_63 : decode cX5_digest 63 = .ok (.invokevirtual 283, 3) := by decide +kernel
theorem dX5_digest_66 : decode cX5_digest 66 = .ok (.i2l, 1) := by decide +kernel
theorem dX5_digest_67 : decode cX5_digest 67 = .ok (.ladd, 1) := by decide +kernel
theorem dX5_digest_68 : decode cX5_digest 68 = .ok (.lstore_n 1, 1) := by decide +kernel
theorem dX5_digest_69 : decode cX5_digest 69 = .ok (.iinc 4 1, 3) := by decide +kernel
theorem dX5_digest_72 : decode cX5_digest 72 = .ok (.goto (-25), 3) := by decide +kernel
theorem dX5_digest_75 : decode cX5_digest 75 = .ok (.lload_n 1, 1) := by decide +kernel
theorem dX5_digest_76 : decode cX5_digest 76 = .ok (.ldc2_w 278, 3) := by decide +kernel
theorem dX5_digest_79 : decode cX5_digest 79 = .ok (.lmul, 1) := by decide +kernel
theorem dX5_digest_80 : decode cX5_digest 80 = .ok (.aload_n 0, 1) := by decide +kernel
theorem dX5_digest_81 : decode cX5_digest 81 = .ok (.iload_n 3, 1) := by decide +kernel
theorem dX5_digest_82 : decode cX5_digest 82 = .ok (.iconst 0, 1) := by decide +kernel
theorem dX5_digest_83 : decode cX5_digest 83 = .ok (.invokevirtual 286, 3) := by decide +kernel
theorem dX5_digest_86 : decode cX5_digest 86 = .ok (.i2l, 1) := by decide +kernel
theorem dX5_digest_87 : decode cX5_digest 87 = .ok (.ladd, 1) := by decide +kernel
theorem dX5_digest_88 : decode cX5_digest 88 = .ok (.lstore_n 1, 1) := by decide +kernel
theorem dX5_digest_89 : decode cX5_digest 89 = .ok (.lload_n 1, 1) := by decide +kernel
theorem dX5_digest_90 : decode cX5_digest 90 = .ok (.ldc2_w 278, 3) := by decide +kernel
theorem dX5_digest_93 : decode cX5_digest 93 = .ok (.lmul, 1) := by decide +kernel
theorem dX5_digest_94 : decode cX5_digest 94 = .ok (.aload_n 0, 1) := by decide +kernel
theorem dX5_digest_95 : decode cX5_digest 95 = .ok (.iload_n 3, 1) := by decide +kernel
theorem dX5_digest_96 : decode cX5_digest 96 = .ok (.iconst 1, 1) := by decide +kernel
theorem dX5_digest_97 : decode cX5_digest 97 = .ok (.invokevirtual 286, 3) := by decide +kernel
theorem dX5_digest_100 : decode cX5_digest 100 = .ok (.i2l, 1) := by decide +kernel
theorem dX5_digest_101 : decode cX5_digest 101 = .ok (.ladd, 1) := by decide +kernel
theorem dX5_digest_102 : decode cX5_digest 102 = .ok (.lstore_n 1, 1) := by decide +kernel
theorem dX5_digest_103 : decode cX5_digest 103 = .ok (.iinc 3 1, 3) := by decide +kernel
theorem dX5_digest_106 : decode cX5_digest 106 = .ok (.goto (-73), 3) := by decide +kernel
theorem dX5_digest_109 : decode cX5_digest 109 = .ok (.iconst 0, 1) := by decide +kernel
theorem dX5_digest_110 : decode cX5_digest 110 = .ok (.istore_n 3, 1) := by decide +kernel
theorem dX5_digest_111 : decode cX5_digest 111 = .ok (.iload_n 3, 1) := by decide +kernel
theorem dX5_digest_112 : decode cX5_digest 112 = .ok (.aload_n 0, 1) := by decide +kernel
theorem dX5_digest_113 : decode cX5_digest 113 = .ok (.getfield 19, 3) := by decide +kernel
theorem dX5_digest_116 : decode cX5_digest 116 = .ok (.getfield 77, 3) := by decide +kernel
theorem dX5_digest_119 : decode cX5_digest 119 = .ok (.if_icmp .ge 39, 3) := by decide +kernel
theorem dX5_digest_122 : decode cX5_digest 122 = .ok (.iconst 0, 1) := by decide +kernel
theorem dX5_digest_123 : decode cX5_digest 123 = .ok (.istore 4, 2) := by decide +kernel
theorem dX5_digest_125 : decode cX5_digest 125 = .ok (.iload 4, 2) := by decide +kernel
theorem dX5_digest_127 : decode cX5_digest 127 = .ok (.iconst 3, 1) := by decide +kernel
theorem dX5_digest_128 : decode cX5_digest 128 = .ok (.if_icmp .ge 24, 3) := by decide +kernel
theorem dX5_digest_131 : decode cX5_digest 131 = .ok (.lload_n 1, 1) := by decide +kernel
theorem dX5_digest_132 : decode cX5_digest 132 = .ok (.ldc2_w 278, 3) := by decide +kernel
theorem dX5_digest_135 : decode cX5_digest 135 = .ok (.lmul, 1) := by decide +kernel
theorem dX5_digest_136 : decode cX5_digest 136 = .ok (.aload_n 0, 1) := by decide +kernel
theorem dX5_digest_137 : decode cX5_digest 137 = .ok (.iload_n 3, 1) := by decide +kernel
theorem dX5_digest_138 : decode cX5_digest 138 = .ok (.iload 4, 2) := by decide +kernel
theorem dX5_digest_140 : decode cX5_digest 140 = .ok (.invokevirtual 290, 3) := by decide +kernel
theorem dX5_digest_143 : decode cX5_digest 143 = .ok (.i2l, 1) := by decide +kernel
theorem dX5_digest_144 : decode cX5_digest 144 = .ok (.ladd, 1) := by decide +kernel
theorem dX5_digest_145 : decode cX5_digest 145 = .ok (.lstore_n 1, 1) := by decide +kernel
theorem dX5_digest_146 : decode cX5_digest 146 = .ok (.iinc 4 1, 3) := by decide +kernel
theorem dX5_digest_149 : decode cX5_digest 149 = .ok (.goto (-24), 3) := by decide +kernel
theorem dX5_digest_152 : decode cX5_digest 152 = .ok (.iinc 3 1, 3) := by decide +kernel
theorem dX5_digest_155 : decode cX5_digest 155 = .ok (.goto (-44), 3) := by decide +kernel
theorem dX5_digest_158 : decode cX5_digest 158 = .ok (.iconst 0, 1) := by decide +kernel
theorem dX5_digest_159 : decode cX5_digest 159 = .ok (.istore_n 3, 1) := by decide +kernel
theorem dX5_digest_160 : decode cX5_digest 160 = .ok (.iload_n 3, 1) := by decide +kernel
theorem dX5_digest_161 : decode cX5_digest 161 = .ok (.aload_n 0, 1) := by decide +kernel
theorem dX5_digest_162 : decode cX5_digest 162 = .ok (.getfield 33, 3) := by decide +kernel
theorem dX5_digest_165 : decode cX5_digest 165 = .ok (.getfield 121, 3) := by decide +kernel
theorem dX5_digest_168 : decode cX5_digest 168 = .ok (.if_icmp .ge 40, 3) := by decide +kernel
theorem dX5_digest_171 : decode cX5_digest 171 = .ok (.iconst 0, 1) := by decide +kernel
theorem dX5_digest_172 : decode cX5_digest 172 = .ok (.istore 4, 2) := by decide +kernel
theorem dX5_digest_174 : decode cX5_digest 174 = .ok (.iload 4, 2) := by decide +kernel
theorem dX5_digest_176 : decode cX5_digest 176 = .ok (.bipush 8, 2) := by decide +kernel
theorem dX5_digest_178 : decode cX5_digest 178 = .ok (.if_icmp .ge 24, 3) := by decide +kernel
theorem dX5_digest_181 : decode cX5_digest 181 = .ok (.lload_n 1, 1) := by decide +kernel
theorem dX5_digest_182 : decode cX5_digest 182 = .ok (.ldc2_w 278, 3) := by decide +kernel
theorem dX5_digest_185 : decode cX5_digest 185 = .ok (.lmul, 1) := by decide +kernel
theorem dX5_digest_186 : decode cX5_digest 186 = .ok (.aload_n 0, 1) := by decide +kernel
theorem dX5_digest_187 : decode cX5_digest 187 = .ok (.iload_n 3, 1) := by decide +kernel
theorem dX5_digest_188 : decode cX5_digest 188 = .ok (.iload 4, 2) := by decide +kernel
theorem dX5_digest_190 : decode cX5_digest 190 = .ok (.invokevirtual 293, 3) := by decide +kernel
theorem dX5_digest_193 : decode cX5_digest 193 = .ok (.i2l, 1) := by decide +kernel
theorem dX5_digest_194 : decode cX5_digest 194 = .ok (.ladd, 1) := by decide +kernel
theorem dX5_digest_195 : decode cX5_digest 195 = .ok (.lstore_n 1, 1) := by decide +kernel
theorem dX5_digest_196 : decode cX5_digest 196 = .ok (.iinc 4 1, 3) := by decide +kernel
theorem dX5_digest_199 : decode cX5_digest 199 = .ok (.goto (-25), 3) := by decide +kernel
theorem dX5_digest_202 : decode cX5_digest 202 = .ok (.iinc 3 1, 3) := by decide +kernel
theorem dX5_digest_205 : decode cX5_digest 205 = .ok (.goto (-45), 3) := by decide +kernel
theorem dX5_digest_208 : decode cX5_digest 208 = .ok (.lload_n 1, 1) := by decide +kernel
theorem dX5_digest_209 : decode cX5_digest 209 = .ok (.lreturn, 1) := by decide +kernel
theorem dX5_requireUnit_0 : decode cX5_requireUnit 0 = .ok (.iload_n 1, 1) := by decide +kernel
theorem dX5_requireUnit_1 : decode cX5_requireUnit 1 = .ok (.iconst 0, 1) := by decide +kernel
theorem dX5_requireUnit_2 : decode cX5_requireUnit 2 = .ok (.aload_n 0, 1) := by decide +kernel
theorem dX5_requireUnit_3 : decode cX5_requireUnit 3 = .ok (.getfield 10, 3) := by decide +kernel
theorem dX5_requireUnit_6 : decode cX5_requireUnit 6 = .ok (.getfield 55, 3) := by decide +kernel
theorem dX5_requireUnit_9 : decode cX5_requireUnit 9 = .ok (.iconst 1, 1) := by decide +kernel
theorem dX5_requireUnit_10 : decode cX5_requireUnit 10 = .ok (.isub, 1) := by decide +kernel
theorem dX5_requireUnit_11 : decode cX5_requireUnit 11 = .ok (.invokestatic 44, 3) := by decide +kernel
theorem dX5_requireUnit_14 : decode cX5_requireUnit 14 = .ok (.ifCond .ne 14, 3) := by decide +kernel
theorem dX5_requireUnit_17 : decode cX5_requireUnit 17 = .ok (.new 296, 3) := by decide +kernel
theorem dX5_requireUnit_20 : decode cX5_requireUnit 20 = .ok (.dup, 1) := by decide +kernel
theorem dX5_requireUnit_21 : decode cX5_requireUnit 21 = .ok (.ldc_w 298, 3) := by decide +kernel
theorem dX5_requireUnit_24 : decode cX5_requireUnit 24 = .ok (.invokespecial 300, 3) := by decide +kernel
theorem dX5_requireUnit_27 : decode cX5_requireUnit 27 = .ok (.athrow, 1) := by decide +kernel
theorem dX5_requireUnit_28 : decode cX5_requireUnit 28 = .ok (.return_, 1) := by decide +kernel
theorem dX5_requireRelation_0 : decode cX5_requireRelation 0 = .ok (.iload_n 1, 1) := by decide +kernel
theorem dX5_requireRelation_1 : decode cX5_requireRelation 1 = .ok (.iconst 0, 1) := by decide +kernel
theorem dX5_requireRelation_2 : decode cX5_requireRelation 2 = .ok (.aload_n 0, 1) := by decide +kernel
theorem dX5_requireRelation_3 : decode cX5_requireRelation 3 = .ok (.getfield 19, 3) := by decide +kernel
theorem dX5_requireRelation_6 : decode cX5_requireRelation 6 = .ok (.getfield 77, 3) := by decide +kernel
theorem dX5_requireRelation_9 : decode cX5_requireRelation 9 = .ok (.iconst 1, 1) := by decide +kernel
theorem dX5_requireRelation_10 : decode cX5_requireRelation 10 = .ok (.isub, 1) := by decide +kernel
theorem dX5_requireRelation_11 : decode cX5_requireRelation 11 = .ok (.invokestatic 44, 3) := by decide +kernel
theorem dX5_requireRelation_14 : decode cX5_requireRelation 14 = .ok (.ifCond .ne 14, 3) := by decide +kernel
theorem dX5_requireRelation_17 : decode cX5_requireRelation 17 = .ok (.new 296, 3) := by decide +kernel
theorem dX5_requireRelation_20 : decode cX5_requireRelation 20 = .ok (.dup, 1) := by decide +kernel
theorem dX5_requireRelation_21 : decode cX5_requireRelation 21 = .ok (.ldc_w 301, 3) := by decide +kernel
theorem dX5_requireRelation_24 : decode cX5_requireRelation 24 = .ok (.invokespecial 300, 3) := by decide +kernel
theorem dX5_requireRelation_27 : decode cX5_requireRelation 27 = .ok (.athrow, 1) := by decide +kernel
theorem dX5_requireRelation_28 : decode cX5_requireRelation 28 = .ok (.return_, 1) := by decide +kernel
theorem dX5_requireFind_0 : decode cX5_requireFind 0 = .ok (.iload_n 1, 1) := by decide +kernel
theorem dX5_requireFind_1 : decode cX5_requireFind 1 = .ok (.iconst 0, 1) := by decide +kernel
theorem dX5_requireFind_2 : decode cX5_requireFind 2 = .ok (.aload_n 0, 1) := by decide +kernel
theorem dX5_requireFind_3 : decode cX5_requireFind 3 = .ok (.getfield 33, 3) := by decide +kernel
theorem dX5_requireFind_6 : decode cX5_requireFind 6 = .ok (.getfield 121, 3) := by decide +kernel
theorem dX5_requireFind_9 : decode cX5_requireFind 9 = .ok (.iconst 1, 1) := by decide +kernel
theorem dX5_requireFind_10 : decode cX5_requireFind 10 = .ok (.isub, 1) := by decide +kernel
theorem dX5_requireFind_11 : decode cX5_requireFind 11 = .ok (.invokestatic 44, 3) := by decide +kernel
theorem dX5_requireFind_14 : decode cX5_requireFind 14 = .ok (.ifCond .ne 14, 3) := by decide +kernel
theorem dX5_requireFind_17 : decode cX5_requireFind 17 = .ok (.new 296, 3) := by decide +kernel
theorem dX5_requireFind_20 : decode cX5_requireFind 20 = .ok (.dup, 1) := by decide +kernel
theorem dX5_requireFind_21 : decode cX5_requireFind 21 = .ok (.ldc_w 303, 3) := by decide +kernel
theorem dX5_requireFind_24 : decode cX5_requireFind 24 = .ok (.invokespecial 300, 3) := by decide +kernel
theorem dX5_requireFind_27 : decode cX5_requireFind 27 = .ok (.athrow, 1) := by decide +kernel
theorem dX5_requireFind_28 : decode cX5_requireFind 28 = .ok (.return_, 1) := by decide +kernel
theorem dX5_requireFact_0 : decode cX5_requireFact 0 = .ok (.iload_n 0, 1) := by decide +kernel
theorem dX5_requireFact_1 : decode cX5_requireFact 1 = .ok (.iconst 0, 1) := by decide +kernel
theorem dX5_requireFact_2 : decode cX5_requireFact 2 = .ok (.iload_n 1, 1) := by decide +kernel
theorem dX5_requireFact_3 : decode cX5_requireFact 3 = .ok (.iconst 1, 1) := by decide +kernel
theorem dX5_requireFact_4 : decode cX5_requireFact 4 = .ok (.isub, 1) := by decide +kernel
theorem dX5_requireFact_5 : decode cX5_requireFact 5 = .ok (.invokestatic 44, 3) := by decide +kernel
theorem dX5_requireFact_8 : decode cX5_requireFact 8 = .ok (.ifCond .ne 14, 3) := by decide +kernel
theorem dX5_requireFact_11 : decode cX5_requireFact 11 = .ok (.new 296, 3) := by decide +kernel
theorem dX5_requireFact_14 : decode cX5_requireFact 14 = .ok (.dup, 1) := by decide +kernel
theorem dX5_requireFact_15 : decode cX5_requireFact 15 = .ok (.ldc_w 305, 3) := by decide +kernel
theorem dX5_requireFact_18 : decode cX5_requireFact 18 = .ok (.invokespecial 300, 3) := by decide +kernel
theorem dX5_requireFact_21 : decode cX5_requireFact 21 = .ok (.athrow, 1) := by decide +kernel
theorem dX5_requireFact_22 : decode cX5_requireFact 22 = .ok (.return_, 1) := by decide +kernel
theorem dX5_requirePlace_0 : decode cX5_requirePlace 0 = .ok (.iload_n 0, 1) := by decide +kernel
theorem dX5_requirePlace_1 : decode cX5_requirePlace 1 = .ok (.iconst 0, 1) := by decide +kernel
theorem dX5_requirePlace_2 : decode cX5_requirePlace 2 = .ok (.bipush 39, 2) := by decide +kernel
theorem dX5_requirePlace_4 : decode cX5_requirePlace 4 = .ok (.invokestatic 44, 3) := by decide +kernel
theorem dX5_requirePlace_7 : decode cX5_requirePlace 7 = .ok (.ifCond .ne 14, 3) := by decide +kernel
theorem dX5_requirePlace_10 : decode cX5_requirePlace 10 = .ok (.new 296, 3) := by decide +kernel
theorem dX5_requirePlace_13 : decode cX5_requirePlace 13 = .ok (.dup, 1) := by decide +kernel
theorem dX5_requirePlace_14 : decode cX5_requirePlace 14 = .ok (.ldc_w 307, 3) := by decide +kernel
theorem dX5_requirePlace_17 : decode cX5_requirePlace 17 = .ok (.invokespecial 300, 3) := by decide +kernel
theorem dX5_requirePlace_20 : decode cX5_requirePlace 20 = .ok (.athrow, 1) := by decide +kernel
theorem dX5_requirePlace_21 : decode cX5_requirePlace 21 = .ok (.return_, 1) := by decide +kernel
theorem dX5_requireYears_0 : decode cX5_requireYears 0 = .ok (.iload_n 0, 1) := by decide +kernel
theorem dX5_requireYears_1 : decode cX5_requireYears 1 = .ok (.sipush (-5000), 3) := by decide +kernel
theorem dX5_requireYears_4 : decode cX5_requireYears 4 = .ok (.sipush 2000, 3) := by decide +kernel
theorem dX5_requireYears_7 : decode cX5_requireYears 7 = .ok (.invokestatic 44, 3) := by decide +kernel
theorem dX5_requireYears_10 : decode cX5_requireYears 10 = .ok (.ifCond .eq 16, 3) := by decide +kernel
theorem dX5_requireYears_13 : decode cX5_requireYears 13 = .ok (.iload_n 1, 1) := by decide +kernel
theorem dX5_requireYears_14 : decode cX5_requireYears 14 = .ok (.sipush (-5000), 3) := by decide +kernel
theorem dX5_requireYears_17 : decode cX5_requireYears 17 = .ok (.sipush 2000, 3) := by decide +kernel
theorem dX5_requireYears_20 : decode cX5_requireYears 20 = .ok (.invokestatic 44, 3) := by decide +kernel
theorem dX5_requireYears_23 : decode cX5_requireYears 23 = .ok (.ifCond .ne 14, 3) := by decide +kernel
theorem dX5_requireYears_26 : decode cX5_requireYears 26 = .ok (.new 48, 3) := by decide +kernel
theorem dX5_requireYears_29 : decode cX5_requireYears 29 = .ok (.dup, 1) := by decide +kernel
theorem dX5_requireYears_30 : decode cX5_requireYears 30 = .ok (.ldc_w 309, 3) := by decide +kernel
theorem dX5_requireYears_33 : decode cX5_requireYears 33 = .ok (.invokespecial 52, 3) := by decide +kernel
theorem dX5_requireYears_36 : decode cX5_requireYears 36 = .ok (.athrow, 1) := by decide +kernel
theorem dX5_requireYears_37 : decode cX5_requireYears 37 = .ok (.return_, 1) := by decide +kernel
theorem dX5_requirePoint_0 : decode cX5_requirePoint 0 = .ok (.iload_n 0, 1) := by decide +kernel
theorem dX5_requirePoint_1 : decode cX5_requirePoint 1 = .ok (.iconst 0, 1) := by decide +kernel
theorem dX5_requirePoint_2 : decode cX5_requirePoint 2 = .ok (.sipush 5000, 3) := by decide +kernel
theorem dX5_requirePoint_5 : decode cX5_requirePoint 5 = .ok (.invokestatic 44, 3) := by decide +kernel
theorem dX5_requirePoint_8 : decode cX5_requirePoint 8 = .ok (.ifCond .eq 14, 3) := by decide +kernel
theorem dX5_requirePoint_11 : decode cX5_requirePoint 11 = .ok (.iload_n 1, 1) := by decide +kernel
theorem dX5_requirePoint_12 : decode cX5_requirePoint 12 = .ok (.iconst 0, 1) := by decide +kernel
theorem dX5_requirePoint_13 : decode cX5_requirePoint 13 = .ok (.sipush 5000, 3) := by decide +kernel
theorem dX5_requirePoint_16 : decode cX5_requirePoint 16 = .ok (.invokestatic 44, 3) := by decide +kernel
theorem dX5_requirePoint_19 : decode cX5_requirePoint 19 = .ok (.ifCond .ne 14, 3) := by decide +kernel
theorem dX5_requirePoint_22 : decode cX5_requirePoint 22 = .ok (.new 48, 3) := by decide +kernel
theorem dX5_requirePoint_25 : decode cX5_requirePoint 25 = .ok (.dup, 1) := by decide +kernel
theorem dX5_requirePoint_26 : decode cX5_requirePoint 26 = .ok (.ldc_w 311, 3) := by decide +kernel
theorem dX5_requirePoint_29 : decode cX5_requirePoint 29 = .ok (.invokespecial 52, 3) := by decide +kernel
theorem dX5_requirePoint_32 : decode cX5_requirePoint 32 = .ok (.athrow, 1) := by decide +kernel
theorem dX5_requirePoint_33 : decode cX5_requirePoint 33 = .ok (.iload_n 2, 1) := by decide +kernel
theorem dX5_requirePoint_34 : decode cX5_requirePoint 34 = .ok (.sipush (-1000), 3) := by decide +kernel
theorem dX5_requirePoint_37 : decode cX5_requirePoint 37 = .ok (.sipush 1000, 3) := by decide +kernel
theorem dX5_requirePoint_40 : decode cX5_requirePoint 40 = .ok (.invokestatic 44, 3) := by decide +kernel
theorem dX5_requirePoint_43 : decode cX5_requirePoint 43 = .ok (.ifCond .ne 14, 3) := by decide +kernel
theorem dX5_requirePoint_46 : decode cX5_requirePoint 46 = .ok (.new 48, 3) := by decide +kernel
theorem dX5_requirePoint_49 : decode cX5_requirePoint 49 = .ok (.dup, 1) := by decide +kernel
theorem dX5_requirePoint_50 : decode cX5_requirePoint 50 = .ok (.ldc_w 313, 3) := by decide +kernel
theorem dX5_requirePoint_53 : decode cX5_requirePoint 53 = .ok (.invokespecial 52, 3) := by decide +kernel
theorem dX5_requirePoint_56 : decode cX5_requirePoint 56 = .ok (.athrow, 1) := by decide +kernel
theorem dX5_requirePoint_57 : decode cX5_requirePoint 57 = .ok (.return_, 1) := by decide +kernel
theorem dX5_isWithin_0 : decode cX5_isWithin 0 = .ok (.iload_n 0, 1) := by decide +kernel
theorem dX5_isWithin_1 : decode cX5_isWithin 1 = .ok (.iload_n 1, 1) := by decide +kernel
theorem dX5_isWithin_2 : decode cX5_isWithin 2 = .ok (.if_icmp .lt 12, 3) := by decide +kernel
theorem dX5_isWithin_5 : decode cX5_isWithin 5 = .ok (.iload_n 0, 1) := by decide +kernel
theorem dX5_isWithin_6 : decode cX5_isWithin 6 = .ok (.iload_n 2, 1) := by decide +kernel
theorem dX5_isWithin_7 : decode cX5_isWithin 7 = .ok (.if_icmp .gt 7, 3) := by decide +kernel
theorem dX5_isWithin_10 : decode cX5_isWithin 10 = .ok (.iconst 1, 1) := by decide +kernel
theorem dX5_isWithin_11 : decode cX5_isWithin 11 = .ok (.goto 4, 3) := by decide +kernel
theorem dX5_isWithin_14 : decode cX5_isWithin 14 = .ok (.iconst 0, 1) := by decide +kernel
theorem dX5_isWithin_15 : decode cX5_isWithin 15 = .ok (.ireturn, 1) := by decide +kernel
theorem dX5_renewMatrix_0 : decode cX5_renewMatrix 0 = .ok (.aload_n 0, 1) := by decide +kernel
theorem dX5_renewMatrix_1 : decode cX5_renewMatrix 1 = .ok (.getfield 26, 3) := by decide +kernel
theorem dX5_renewMatrix_4 : decode cX5_renewMatrix 4 = .ok (.aload_n 0, 1) := by decide +kernel
theorem dX5_renewMatrix_5 : decode cX5_renewMatrix 5 = .ok (.getfield 10, 3) := by decide +kernel
theorem dX5_renewMatrix_8 : decode cX5_renewMatrix 8 = .ok (.getfield 55, 3) := by decide +kernel
theorem dX5_renewMatrix_11 : decode cX5_renewMatrix 11 = .ok (.aload_n 0, 1) := by decide +kernel
theorem dX5_renewMatrix_12 : decode cX5_renewMatrix 12 = .ok (.getfield 19, 3) := by decide +kernel
theorem dX5_renewMatrix_15 : decode cX5_renewMatrix 15 = .ok (.invokevirtual 315, 3) := by decide +kernel
theorem dX5_renewMatrix_18 : decode cX5_renewMatrix 18 = .ok (.aload_n 0, 1) := by decide +kernel
theorem dX5_renewMatrix_19 : decode cX5_renewMatrix 19 = .ok (.invokevirtual 205, 3) := by decide +kernel
theorem dX5_renewMatrix_22 : decode cX5_renewMatrix 22 = .ok (.return_, 1) := by decide +kernel
theorem dX5_renewBounds_0 : decode cX5_renewBounds 0 = .ok (.aload_n 0, 1) := by decide +kernel
theorem dX5_renewBounds_1 : decode cX5_renewBounds 1 = .ok (.getfield 40, 3) := by decide +kernel
theorem dX5_renewBounds_4 : decode cX5_renewBounds 4 = .ok (.aload_n 0, 1) := by decide +kernel
theorem dX5_renewBounds_5 : decode cX5_renewBounds 5 = .ok (.getfield 10, 3) := by decide +kernel
theorem dX5_renewBounds_8 : decode cX5_renewBounds 8 = .ok (.aload_n 0, 1) := by decide +kernel
theorem dX5_renewBounds_9 : decode cX5_renewBounds 9 = .ok (.getfield 33, 3) := by decide +kernel
theorem dX5_renewBounds_12 : decode cX5_renewBounds 12 = .ok (.aload_n 0, 1) := by decide +kernel
theorem dX5_renewBounds_13 : decode cX5_renewBounds 13 = .ok (.getfield 26, 3) := by decide +kernel
theorem dX5_renewBounds_16 : decode cX5_renewBounds 16 = .ok (.invokevirtual 319, 3) := by decide +kernel
theorem dX5_renewBounds_19 : decode cX5_renewBounds 19 = .ok (.return_, 1) := by decide +kernel
theorem dX5_whyRefused_0 : decode cX5_whyRefused 0 = .ok (.iload_n 2, 1) := by decide +kernel
theorem dX5_whyRefused_1 : decode cX5_whyRefused 1 = .ok (.iload_n 3, 1) := by decide +kernel
theorem dX5_whyRefused_2 : decode cX5_whyRefused 2 = .ok (.if_icmp .ne 5, 3) := by decide +kernel
theorem dX5_whyRefused_5 : decode cX5_whyRefused 5 = .ok (.iconst 1, 1) := by decide +kernel
theorem dX5_whyRefused_6 : decode cX5_whyRefused 6 = .ok (.ireturn, 1) := by decide +kernel
theorem dX5_whyRefused_7 : decode cX5_whyRefused 7 = .ok (.iload_n 1, 1) := by decide +kernel
theorem dX5_whyRefused_8 : decode cX5_whyRefused 8 = .ok (.aload_n 0, 1) := by decide +kernel
theorem dX5_whyRefused_9 : decode cX5_whyRefused 9 = .ok (.getfield 10, 3) := by decide +kernel
theorem dX5_whyRefused_12 : decode cX5_whyRefused 12 = .ok (.getfield 138, 3) := by decide +kernel
theorem dX5_whyRefused_15 : decode cX5_whyRefused 15 = .ok (.iload_n 2, 1) := by decide +kernel
theorem dX5_whyRefused_16 : decode cX5_whyRefused 16 = .ok (.iaload, 1) := by decide +kernel
theorem dX5_whyRefused_17 : decode cX5_whyRefused 17 = .ok (.aload_n 0, 1) := by decide +kernel
theorem dX5_whyRefused_18 : decode cX5_whyRefused 18 = .ok (.getfield 10, 3) := by decide +kernel
theorem dX5_whyRefused_21 : decode cX5_whyRefused 21 = .ok (.getfield 138, 3) := by decide +kernel
theorem dX5_whyRefused_24 : decode cX5_whyRefused 24 = .ok (.iload_n 3, 1) := by decide +kernel
theorem dX5_whyRefused_25 : decode cX5_whyRefused 25 = .ok (.iaload, 1) := by decide +kernel
theorem dX5_whyRefused_26 : decode cX5_whyRefused 26 = .ok (.invokestatic 322, 3) := by decide +kernel
theorem dX5_whyRefused_29 : decode cX5_whyRefused 29 = .ok (.ifCond .ne 5, 3) := by decide +kernel
theorem dX5_whyRefused_32 : decode cX5_whyRefused 32 = .ok (.iconst 2, 1) := by decide +kernel
theorem dX5_whyRefused_33 : decode cX5_whyRefused 33 = .ok (.ireturn, 1) := by decide +kernel
theorem dX5_whyRefused_34 : decode cX5_whyRefused 34 = .ok (.aload_n 0, 1) := by decide +kernel
theorem dX5_whyRefused_35 : decode cX5_whyRefused 35 = .ok (.getfield 19, 3) := by decide +kernel
theorem dX5_whyRefused_38 : decode cX5_whyRefused 38 = .ok (.iload_n 1, 1) := by decide +kernel
theorem dX5_whyRefused_39 : decode cX5_whyRefused 39 = .ok (.iload_n 2, 1) := by decide +kernel
theorem dX5_whyRefused_40 : decode cX5_whyRefused 40 = .ok (.iload_n 3, 1) := by decide +kernel
theorem dX5_whyRefused_41 : decode cX5_whyRefused 41 = .ok (.invokevirtual 325, 3) := by decide +kernel
theorem dX5_whyRefused_44 : decode cX5_whyRefused 44 = .ok (.ifCond .eq 5, 3) := by decide +kernel
theorem dX5_whyRefused_47 : decode cX5_whyRefused 47 = .ok (.iconst 3, 1) := by decide +kernel
theorem dX5_whyRefused_48 : decode cX5_whyRefused 48 = .ok (.ireturn, 1) := by decide +kernel
theorem dX5_whyRefused_49 : decode cX5_whyRefused 49 = .ok (.aload_n 0, 1) := by decide +kernel
theorem dX5_whyRefused_50 : decode cX5_whyRefused 50 = .ok (.iload_n 1, 1) := by decide +kernel
theorem dX5_whyRefused_51 : decode cX5_whyRefused 51 = .ok (.iload_n 2, 1) := by decide +kernel
theorem dX5_whyRefused_52 : decode cX5_whyRefused 52 = .ok (.iload_n 3, 1) := by decide +kernel
theorem dX5_whyRefused_53 : decode cX5_whyRefused 53 = .ok (.invokevirtual 328, 3) := by decide +kernel
theorem dX5_whyRefused_56 : decode cX5_whyRefused 56 = .ok (.ifCond .eq 7, 3) := by decide +kernel
theorem dX5_whyRefused_59 : decode cX5_whyRefused 59 = .ok (.iconst 4, 1) := by decide +kernel
theorem dX5_whyRefused_60 : decode cX5_whyRefused 60 = .ok (.goto 4, 3) := by decide +kernel
theorem dX5_whyRefused_63 : decode cX5_whyRefused 63 = .ok (.iconst 0, 1) := by decide +kernel
theorem dX5_whyRefused_64 : decode cX5_whyRefused 64 = .ok (.ireturn, 1) := by decide +kernel
theorem dX5_doSortsFit_0 : decode cX5_doSortsFit 0 = .ok (.iload_n 0, 1) := by decide +kernel
theorem dX5_doSortsFit_1 : decode cX5_doSortsFit 1 = .ok (.tableswitch 80 1 4 #[31, 42, 58, 69], 31) := by decide +kernel
theorem dX5_doSortsFit_32 : decode cX5_doSortsFit 32 = .ok (.iload_n 1, 1) := by decide +kernel
theorem dX5_doSortsFit_33 : decode cX5_doSortsFit 33 = .ok (.iconst 1, 1) := by decide +kernel
theorem dX5_doSortsFit_34 : decode cX5_doSortsFit 34 = .ok (.if_icmp .ne 7, 3) := by decide +kernel
theorem dX5_doSortsFit_37 : decode cX5_doSortsFit 37 = .ok (.iconst 1, 1) := by decide +kernel
theorem dX5_doSortsFit_38 : decode cX5_doSortsFit 38 = .ok (.goto 4, 3) := by decide +kernel
theorem dX5_doSortsFit_41 : decode cX5_doSortsFit 41 = .ok (.iconst 0, 1) := by decide +kernel
theorem dX5_doSortsFit_42 : decode cX5_doSortsFit 42 = .ok (.ireturn, 1) := by decide +kernel
theorem dX5_doSortsFit_43 : decode cX5_doSortsFit 43 = .ok (.iload_n 1, 1) := by decide +kernel
theorem dX5_doSortsFit_44 : decode cX5_doSortsFit 44 = .ok (.iconst 2, 1) := by decide +kernel
theorem dX5_doSortsFit_45 : decode cX5_doSortsFit 45 = .ok (.if_icmp .ne 12, 3) := by decide +kernel
theorem dX5_doSortsFit_48 : decode cX5_doSortsFit 48 = .ok (.iload_n 2, 1) := by decide +kernel
theorem dX5_doSortsFit_49 : decode cX5_doSortsFit 49 = .ok (.iconst 1, 1) := by decide +kernel
theorem dX5_doSortsFit_50 : decode cX5_doSortsFit 50 = .ok (.if_icmp .ne 7, 3) := by decide +kernel
theorem dX5_doSortsFit_53 : decode cX5_doSortsFit 53 = .ok (.iconst 1, 1) := by decide +kernel
theorem dX5_doSortsFit_54 : decode cX5_doSortsFit 54 = .ok (.goto 4, 3) := by decide +kernel
theorem dX5_doSortsFit_57 : decode cX5_doSortsFit 57 = .ok (.iconst 0, 1) := by decide +kernel
theorem dX5_doSortsFit_58 : decode cX5_doSortsFit 58 = .ok (.ireturn, 1) := by decide +kernel
theorem dX5_doSortsFit_59 : decode cX5_doSortsFit 59 = .ok (.iload_n 1, 1) := by decide +kernel
theorem dX5_doSortsFit_60 : decode cX5_doSortsFit 60 = .ok (.iconst 3, 1) := by decide +kernel
theorem dX5_doSortsFit_61 : decode cX5_doSortsFit 61 = .ok (.if_icmp .ne 7, 3) := by decide +kernel
theorem dX5_doSortsFit_64 : decode cX5_doSortsFit 64 = .ok (.iconst 1, 1) := by decide +kernel
theorem dX5_doSortsFit_65 : decode cX5_doSortsFit 65 = .ok (.goto 4, 3) := by decide +kernel
theorem dX5_doSortsFit_68 : decode cX5_doSortsFit 68 = .ok (.iconst 0, 1) := by decide +kernel
theorem dX5_doSortsFit_69 : decode cX5_doSortsFit 69 = .ok (.ireturn, 1) := by decide +kernel
theorem dX5_doSortsFit_70 : decode cX5_doSortsFit 70 = .ok (.iload_n 1, 1) := by decide +kernel
theorem dX5_doSortsFit_71 : decode cX5_doSortsFit 71 = .ok (.iload_n 2, 1) := by decide +kernel
theorem dX5_doSortsFit_72 : decode cX5_doSortsFit 72 = .ok (.if_icmp .ne 7, 3) := by decide +kernel
theorem dX5_doSortsFit_75 : decode cX5_doSortsFit 75 = .ok (.iconst 1, 1) := by decide +kernel
theorem dX5_doSortsFit_76 : decode cX5_doSortsFit 76 = .ok (.goto 4, 3) := by decide +kernel
theorem dX5_doSortsFit_79 : decode cX5_doSortsFit 79 = .ok (.iconst 0, 1) := by decide +kernel
theorem dX5_doSortsFit_80 : decode cX5_doSortsFit 80 = .ok (.ireturn, 1) := by decide +kernel
theorem dX5_doSortsFit_81 : decode cX5_doSortsFit 81 = .ok (.iconst 1, 1) := by decide +kernel
theorem dX5_doSortsFit_82 : decode cX5_doSortsFit 82 = .ok (.ireturn, 1) := by decide +kernel
theorem dX5_wouldMakeLoop_0 : decode cX5_wouldMakeLoop 0 = .ok (.iload_n 1, 1) := by decide +kernel
theorem dX5_wouldMakeLoop_1 : decode cX5_wouldMakeLoop 1 = .ok (.iconst 4, 1) := by decide +kernel
theorem dX5_wouldMakeLoop_2 : decode cX5_wouldMakeLoop 2 = .ok (.if_icmp .ne 33, 3) := by decide +kernel
theorem dX5_wouldMakeLoop_5 : decode cX5_wouldMakeLoop 5 = .ok (.aload_n 0, 1) := by decide +kernel
theorem dX5_wouldMakeLoop_6 : decode cX5_wouldMakeLoop 6 = .ok (.getfield 26, 3) := by decide +kernel
theorem dX5_wouldMakeLoop_9 : decode cX5_wouldMakeLoop 9 = .ok (.iload_n 2, 1) := by decide +kernel
theorem dX5_wouldMakeLoop_10 : decode cX5_wouldMakeLoop 10 = .ok (.iload_n 3, 1) := by decide +kernel
theorem dX5_wouldMakeLoop_11 : decode cX5_wouldMakeLoop 11 = .ok (.invokevirtual 171, 3) := by decide +kernel
theorem dX5_wouldMakeLoop_14 : decode cX5_wouldMakeLoop 14 = .ok (.ifCond .ne 15, 3) := by decide +kernel
theorem dX5_wouldMakeLoop_17 : decode cX5_wouldMakeLoop 17 = .ok (.aload_n 0, 1) := by decide +kernel
theorem dX5_wouldMakeLoop_18 : decode cX5_wouldMakeLoop 18 = .ok (.getfield 26, 3) := by decide +kernel
theorem dX5_wouldMakeLoop_21 : decode cX5_wouldMakeLoop 21 = .ok (.iload_n 3, 1) := by decide +kernel
theorem dX5_wouldMakeLoop_22 : decode cX5_wouldMakeLoop 22 = .ok (.iload_n 2, 1) := by decide +kernel
theorem dX5_wouldMakeLoop_23 : decode cX5_wouldMakeLoop 23 = .ok (.invokevirtual 171, 3) := by decide +kernel
theorem dX5_wouldMakeLoop_26 : decode cX5_wouldMakeLoop 26 = .ok (.ifCond .eq 7, 3) := by decide +kernel
theorem dX5_wouldMakeLoop_29 : decode cX5_wouldMakeLoop 29 = .ok (.iconst 1, 1) := by decide +kernel
theorem dX5_wouldMakeLoop_30 : decode cX5_wouldMakeLoop 30 = .ok (.goto 4, 3) := by decide +kernel
theorem dX5_wouldMakeLoop_33 : decode cX5_wouldMakeLoop 33 = .ok (.iconst 0, 1) := by decide +kernel
theorem dX5_wouldMakeLoop_34 : decode cX5_wouldMakeLoop 34 = .ok (.ireturn, 1) := by decide +kernel
theorem dX5_wouldMakeLoop_35 : decode cX5_wouldMakeLoop 35 = .ok (.aload_n 0, 1) := by decide +kernel
theorem dX5_wouldMakeLoop_36 : decode cX5_wouldMakeLoop 36 = .ok (.getfield 26, 3) := by decide +kernel
theorem dX5_wouldMakeLoop_39 : decode cX5_wouldMakeLoop 39 = .ok (.iload_n 2, 1) := by decide +kernel
theorem dX5_wouldMakeLoop_40 : decode cX5_wouldMakeLoop 40 = .ok (.iload_n 3, 1) := by decide +kernel
theorem dX5_wouldMakeLoop_41 : decode cX5_wouldMakeLoop 41 = .ok (.invokevirtual 167, 3) := by decide +kernel
theorem dX5_wouldMakeLoop_44 : decode cX5_wouldMakeLoop 44 = .ok (.ifCond .ne 15, 3) := by decide +kernel
theorem dX5_wouldMakeLoop_47 : decode cX5_wouldMakeLoop 47 = .ok (.aload_n 0, 1) := by decide +kernel
theorem dX5_wouldMakeLoop_48 : decode cX5_wouldMakeLoop 48 = .ok (.getfield 26, 3) := by decide +kernel
theorem dX5_wouldMakeLoop_51 : decode cX5_wouldMakeLoop 51 = .ok (.iload_n 3, 1) := by decide +kernel
theorem dX5_wouldMakeLoop_52 : decode cX5_wouldMakeLoop 52 = .ok (.iload_n 2, 1) := by decide +kernel
theorem dX5_wouldMakeLoop_53 : decode cX5_wouldMakeLoop 53 = .ok (.invokevirtual 171, 3) := by decide +kernel
theorem dX5_wouldMakeLoop_56 : decode cX5_wouldMakeLoop 56 = .ok (.ifCond .eq 7, 3) := by decide +kernel
theorem dX5_wouldMakeLoop_59 : decode cX5_wouldMakeLoop 59 = .ok (.iconst 1, 1) := by decide +kernel
theorem dX5_wouldMakeLoop_60 : decode cX5_wouldMakeLoop 60 = .ok (.goto 4, 3) := by decide +kernel
theorem dX5_wouldMakeLoop_63 : decode cX5_wouldMakeLoop 63 = .ok (.iconst 0, 1) := by decide +kernel
theorem dX5_wouldMakeLoop_64 : decode cX5_wouldMakeLoop 64 = .ok (.ireturn, 1) := by decide +kernel
theorem dX5_bodiesInDoubt_0 : decode cX5_bodiesInDoubt 0 = .ok (.lconst 0, 1) := by decide +kernel
theorem dX5_bodiesInDoubt_1 : decode cX5_bodiesInDoubt 1 = .ok (.lstore_n 1, 1) := by decide +kernel
theorem dX5_bodiesInDoubt_2 : decode cX5_bodiesInDoubt 2 = .ok (.iconst 0, 1) := by decide +kernel
theorem dX5_bodiesInDoubt_3 : decode cX5_bodiesInDoubt 3 = .ok (.istore_n 3, 1) := by decide +kernel
theorem dX5_bodiesInDoubt_4 : decode cX5_bodiesInDoubt 4 = .ok (.iload_n 3, 1) := by decide +kernel
theorem dX5_bodiesInDoubt_5 : decode cX5_bodiesInDoubt 5 = .ok (.aload_n 0, 1) := by decide +kernel
theorem dX5_bodiesInDoubt_6 : decode cX5_bodiesInDoubt 6 = .ok (.getfield 10, 3) := by decide +kernel
theorem dX5_bodiesInDoubt_9 : decode cX5_bodiesInDoubt 9 = .ok (.getfield 55, 3) := by decide +kernel
theorem dX5_bodiesInDoubt_12 : decode cX5_bodiesInDoubt 12 = .ok (.if_icmp .ge 51, 3) := by decide +kernel
theorem dX5_bodiesInDoubt_15 : decode cX5_bodiesInDoubt 15 = .ok (.aload_n 0, 1) := by decide +kernel
theorem dX5_bodiesInDoubt_16 : decode cX5_bodiesInDoubt 16 = .ok (.getfield 26, 3) := by decide +kernel
theorem dX5_bodiesInDoubt_19 : decode cX5_bodiesInDoubt 19 = .ok (.getfield 107, 3) := by decide +kernel
theorem dX5_bodiesInDoubt_22 : decode cX5_bodiesInDoubt 22 = .ok (.iload_n 3, 1) := by decide +kernel
theorem dX5_bodiesInDoubt_23 : decode cX5_bodiesInDoubt 23 = .ok (.invokestatic 157, 3) := by decide +kernel
theorem dX5_bodiesInDoubt_26 : decode cX5_bodiesInDoubt 26 = .ok (.ifCond .eq 31, 3) := by decide +kernel
theorem dX5_bodiesInDoubt_29 : decode cX5_bodiesInDoubt 29 = .ok (.aload_n 0, 1) := by decide +kernel
theorem dX5_bodiesInDoubt_30 : decode cX5_bodiesInDoubt 30 = .ok (.getfield 40, 3) := by decide +kernel
theorem dX5_bodiesInDoubt_33 : decode cX5_bodiesInDoubt 33 = .ok (.getfield 244, 3) := by decide +kernel
theorem dX5_bodiesInDoubt_36 : decode cX5_bodiesInDoubt 36 = .ok (.iload_n 3, 1) := by decide +kernel
theorem dX5_bodiesInDoubt_37 : decode cX5_bodiesInDoubt 37 = .ok (.iaload, 1) := by decide +kernel
theorem dX5_bodiesInDoubt_38 : decode cX5_bodiesInDoubt 38 = .ok (.aload_n 0, 1) := by decide +kernel
theorem dX5_bodiesInDoubt_39 : decode cX5_bodiesInDoubt 39 = .ok (.getfield 40, 3) := by decide +kernel
theorem dX5_bodiesInDoubt_42 : decode cX5_bodiesInDoubt 42 = .ok (.getfield 241, 3) := by decide +kernel
theorem dX5_bodiesInDoubt_45 : decode cX5_bodiesInDoubt 45 = .ok (.iload_n 3, 1) := by decide +kernel
theorem dX5_bodiesInDoubt_46 : decode cX5_bodiesInDoubt 46 = .ok (.iaload, 1) := by decide +kernel
theorem dX5_bodiesInDoubt_47 : decode cX5_bodiesInDoubt 47 = .ok (.if_icmp .le 10, 3) := by decide +kernel
theorem dX5_bodiesInDoubt_50 : decode cX5_bodiesInDoubt 50 = .ok (.lload_n 1, 1) := by decide +kernel
theorem dX5_bodiesInDoubt_51 : decode cX5_bodiesInDoubt 51 = .ok (.iload_n 3, 1) := by decide +kernel
theorem dX5_bodiesInDoubt_52 : decode cX5_bodiesInDoubt 52 = .ok (.invokestatic 258, 3) := by decide +kernel
theorem dX5_bodiesInDoubt_55 : decode cX5_bodiesInDoubt 55 = .ok (.lor, 1) := by decide +kernel
theorem dX5_bodiesInDoubt_56 : decode cX5_bodiesInDoubt 56 = .ok (.lstore_n 1, 1) := by decide +kernel
theorem dX5_bodiesInDoubt_57 : decode cX5_bodiesInDoubt 57 = .ok (.iinc 3 1, 3) := by decide +kernel
theorem dX5_bodiesInDoubt_60 : decode cX5_bodiesInDoubt 60 = .ok (.goto (-56), 3) := by decide +kernel
theorem dX5_bodiesInDoubt_63 : decode cX5_bodiesInDoubt 63 = .ok (.lload_n 1, 1) := by decide +kernel
theorem dX5_bodiesInDoubt_64 : decode cX5_bodiesInDoubt 64 = .ok (.lreturn, 1) := by decide +kernel
theorem dX5_misfit_0 : decode cX5_misfit 0 = .ok (.aload_n 0, 1) := by decide +kernel
theorem dX5_misfit_1 : decode cX5_misfit 1 = .ok (.getfield 26, 3) := by decide +kernel
theorem dX5_misfit_4 : decode cX5_misfit 4 = .ok (.getfield 135, 3) := by decide +kernel
theorem dX5_misfit_7 : decode cX5_misfit 7 = .ok (.aload_n 0, 1) := by decide +kernel
theorem dX5_misfit_8 : decode cX5_misfit 8 = .ok (.getfield 33, 3) := by decide +kernel
theorem dX5_misfit_11 : decode cX5_misfit 11 = .ok (.getfield 223, 3) := by decide +kernel
theorem dX5_misfit_14 : decode cX5_misfit 14 = .ok (.iload_n 1, 1) := by decide +kernel
theorem dX5_misfit_15 : decode cX5_misfit 15 = .ok (.iaload, 1) := by decide +kernel
theorem dX5_misfit_16 : decode cX5_misfit 16 = .ok (.iaload, 1) := by decide +kernel
theorem dX5_misfit_17 : decode cX5_misfit 17 = .ok (.istore_n 2, 1) := by decide +kernel
theorem dX5_misfit_18 : decode cX5_misfit 18 = .ok (.aload_n 0, 1) := by decide +kernel
theorem dX5_misfit_19 : decode cX5_misfit 19 = .ok (.getfield 33, 3) := by decide +kernel
theorem dX5_misfit_22 : decode cX5_misfit 22 = .ok (.getfield 226, 3) := by decide +kernel
theorem dX5_misfit_25 : decode cX5_misfit 25 = .ok (.iload_n 1, 1) := by decide +kernel
theorem dX5_misfit_26 : decode cX5_misfit 26 = .ok (.iaload, 1) := by decide +kernel
theorem dX5_misfit_27 : decode cX5_misfit 27 = .ok (.aload_n 0, 1) := by decide +kernel
theorem dX5_misfit_28 : decode cX5_misfit 28 = .ok (.getfield 40, 3) := by decide +kernel
theorem dX5_misfit_31 : decode cX5_misfit 31 = .ok (.getfield 241, 3) := by decide +kernel
theorem dX5_misfit_34 : decode cX5_misfit 34 = .ok (.iload_n 2, 1) := by decide +kernel
theorem dX5_misfit_35 : decode cX5_misfit 35 = .ok (.iaload, 1) := by decide +kernel
theorem dX5_misfit_36 : decode cX5_misfit 36 = .ok (.if_icmp .le 5, 3) := by decide +kernel
theorem dX5_misfit_39 : decode cX5_misfit 39 = .ok (.iconst 2, 1) := by decide +kernel
theorem dX5_misfit_40 : decode cX5_misfit 40 = .ok (.ireturn, 1) := by decide +kernel
theorem dX5_misfit_41 : decode cX5_misfit 41 = .ok (.aload_n 0, 1) := by decide +kernel
theorem dX5_misfit_42 : decode cX5_misfit 42 = .ok (.getfield 33, 3) := by decide +kernel
theorem dX5_misfit_45 : decode cX5_misfit 45 = .ok (.getfield 229, 3) := by decide +kernel
theorem dX5_misfit_48 : decode cX5_misfit 48 = .ok (.iload_n 1, 1) := by decide +kernel
theorem dX5_misfit_49 : decode cX5_misfit 49 = .ok (.iaload, 1) := by decide +kernel
theorem dX5_misfit_50 : decode cX5_misfit 50 = .ok (.aload_n 0, 1) := by decide +kernel
theorem dX5_misfit_51 : decode cX5_misfit 51 = .ok (.getfield 40, 3) := by decide +kernel
theorem dX5_misfit_54 : decode cX5_misfit 54 = .ok (.getfield 244, 3) := by decide +kernel
theorem dX5_misfit_57 : decode cX5_misfit 57 = .ok (.iload_n 2, 1) := by decide +kernel
theorem dX5_misfit_58 : decode cX5_misfit 58 = .ok (.iaload, 1) := by decide +kernel
theorem dX5_misfit_59 : decode cX5_misfit 59 = .ok (.if_icmp .ge 7, 3) := by decide +kernel
theorem dX5_misfit_62 : decode cX5_misfit 62 = .ok (.iconst 1, 1) := by decide +kernel
theorem dX5_misfit_63 : decode cX5_misfit 63 = .ok (.goto 4, 3) := by decide +kernel
theorem dX5_misfit_66 : decode cX5_misfit 66 = .ok (.iconst 0, 1) := by decide +kernel
theorem dX5_misfit_67 : decode cX5_misfit 67 = .ok (.ireturn, 1) := by decide +kernel
theorem dX5_canBeDug_0 : decode cX5_canBeDug 0 = .ok (.aload_n 0, 1) := by decide +kernel
theorem dX5_canBeDug_1 : decode cX5_canBeDug 1 = .ok (.getfield 10, 3) := by decide +kernel
theorem dX5_canBeDug_4 : decode cX5_canBeDug 4 = .ok (.getfield 122, 3) := by decide +kernel
theorem dX5_canBeDug_7 : decode cX5_canBeDug 7 = .ok (.iload_n 1, 1) := by decide +kernel
theorem dX5_canBeDug_8 : decode cX5_canBeDug 8 = .ok (.invokestatic 157, 3) := by decide +kernel
theorem dX5_canBeDug_11 : decode cX5_canBeDug 11 = .ok (.ifCond .eq 5, 3) := by decide +kernel
theorem dX5_canBeDug_14 : decode cX5_canBeDug 14 = .ok (.iconst 0, 1) := by decide +kernel
theorem dX5_canBeDug_15 : decode cX5_canBeDug 15 = .ok (.ireturn, 1) := by decide +kernel
theorem dX5_canBeDug_16 : decode cX5_canBeDug 16 = .ok (.iconst 0, 1) := by decide +kernel
theorem dX5_canBeDug_17 : decode cX5_canBeDug 17 = .ok (.istore_n 2, 1) := by decide +kernel
theorem dX5_canBeDug_18 : decode cX5_canBeDug 18 = .ok (.iload_n 2, 1) := by decide +kernel
theorem dX5_canBeDug_19 : decode cX5_canBeDug 19 = .ok (.aload_n 0, 1) := by decide +kernel
theorem dX5_canBeDug_20 : decode cX5_canBeDug 20 = .ok (.getfield 10, 3) := by decide +kernel
theorem dX5_canBeDug_23 : decode cX5_canBeDug 23 = .ok (.getfield 55, 3) := by decide +kernel
theorem dX5_canBeDug_26 : decode cX5_canBeDug 26 = .ok (.if_icmp .ge 37, 3) := by decide +kernel
theorem dX5_canBeDug_29 : decode cX5_canBeDug 29 = .ok (.aload_n 0, 1) := by decide +kernel
theorem dX5_canBeDug_30 : decode cX5_canBeDug 30 = .ok (.getfield 26, 3) := by decide +kernel
theorem dX5_canBeDug_33 : decode cX5_canBeDug 33 = .ok (.iload_n 2, 1) := by decide +kernel
theorem dX5_canBeDug_34 : decode cX5_canBeDug 34 = .ok (.iload_n 1, 1) := by decide +kernel
theorem dX5_canBeDug_35 : decode cX5_canBeDug 35 = .ok (.invokevirtual 171, 3) := by decide +kernel
theorem dX5_canBeDug_38 : decode cX5_canBeDug 38 = .ok (.ifCond .eq 19, 3) := by decide +kernel
theorem dX5_canBeDug_41 : decode cX5_canBeDug 41 = .ok (.aload_n 0, 1) := by decide +kernel
theorem dX5_canBeDug_42 : decode cX5_canBeDug 42 = .ok (.getfield 10, 3) := by decide +kernel
theorem dX5_canBeDug_45 : decode cX5_canBeDug 45 = .ok (.getfield 122, 3) := by decide +kernel
theorem dX5_canBeDug_48 : decode cX5_canBeDug 48 = .ok (.iload_n 2, 1) := by decide +kernel
theorem dX5_canBeDug_49 : decode cX5_canBeDug 49 = .ok (.invokestatic 157, 3) := by decide +kernel
theorem dX5_canBeDug_52 : decode cX5_canBeDug 52 = .ok (.ifCond .ne 5, 3) := by decide +kernel
theorem dX5_canBeDug_55 : decode cX5_canBeDug 55 = .ok (.iconst 0, 1) := by decide +kernel
theorem dX5_canBeDug_56 : decode cX5_canBeDug 56 = .ok (.ireturn, 1) := by decide +kernel
theorem dX5_canBeDug_57 : decode cX5_canBeDug 57 = .ok (.iinc 2 1, 3) := by decide +kernel
theorem dX5_canBeDug_60 : decode cX5_canBeDug 60 = .ok (.goto (-42), 3) := by decide +kernel
theorem dX5_canBeDug_63 : decode cX5_canBeDug 63 = .ok (.iconst 1, 1) := by decide +kernel
theorem dX5_canBeDug_64 : decode cX5_canBeDug 64 = .ok (.ireturn, 1) := by decide +kernel
theorem dX5_unitsToDig_0 : decode cX5_unitsToDig 0 = .ok (.lconst 0, 1) := by decide +kernel
theorem dX5_unitsToDig_1 : decode cX5_unitsToDig 1 = .ok (.lstore_n 1, 1) := by decide +kernel
theorem dX5_unitsToDig_2 : decode cX5_unitsToDig 2 = .ok (.iconst 0, 1) := by decide +kernel
theorem dX5_unitsToDig_3 : decode cX5_unitsToDig 3 = .ok (.istore_n 3, 1) := by decide +kernel
theorem dX5_unitsToDig_4 : decode cX5_unitsToDig 4 = .ok (.iload_n 3, 1) := by decide +kernel
theorem dX5_unitsToDig_5 : decode cX5_unitsToDig 5 = .ok (.aload_n 0, 1) := by decide +kernel
theorem dX5_unitsToDig_6 : decode cX5_unitsToDig 6 = .ok (.getfield 10, 3) := by decide +kernel
theorem dX5_unitsToDig_9 : decode cX5_unitsToDig 9 = .ok (.getfield 55, 3) := by decide +kernel
theorem dX5_unitsToDig_12 : decode cX5_unitsToDig 12 = .ok (.if_icmp .ge 24, 3) := by decide +kernel
theorem dX5_unitsToDig_15 : decode cX5_unitsToDig 15 = .ok (.aload_n 0, 1) := by decide +kernel
theorem dX5_unitsToDig_16 : decode cX5_unitsToDig 16 = .ok (.iload_n 3, 1) := by decide +kernel
theorem dX5_unitsToDig_17 : decode cX5_unitsToDig 17 = .ok (.invokevirtual 252, 3) := by decide +kernel
theorem dX5_unitsToDig_20 : decode cX5_unitsToDig 20 = .ok (.ifCond .eq 10, 3) := by decide +kernel
theorem dX5_unitsToDig_23 : decode cX5_unitsToDig 23 = .ok (.lload_n 1, 1) := by decide +kernel
theorem dX5_unitsToDig_24 : decode cX5_unitsToDig 24 = .ok (.iload_n 3, 1) := by decide +kernel
theorem dX5_unitsToDig_25 : decode cX5_unitsToDig 25 = .ok (.invokestatic 258, 3) := by decide +kernel
theorem dX5_unitsToDig_28 : decode cX5_unitsToDig 28 = .ok (.lor, 1) := by decide +kernel
theorem dX5_unitsToDig_29 : decode cX5_unitsToDig 29 = .ok (.lstore_n 1, 1) := by decide +kernel
theorem dX5_unitsToDig_30 : decode cX5_unitsToDig 30 = .ok (.iinc 3 1, 3) := by decide +kernel
theorem dX5_unitsToDig_33 : decode cX5_unitsToDig 33 = .ok (.goto (-29), 3) := by decide +kernel
theorem dX5_unitsToDig_36 : decode cX5_unitsToDig 36 = .ok (.lload_n 1, 1) := by decide +kernel
theorem dX5_unitsToDig_37 : decode cX5_unitsToDig 37 = .ok (.lreturn, 1) := by decide +kernel
theorem dX5_isPairOutOfPhase_0 : decode cX5_isPairOutOfPhase 0 = .ok (.aload_n 0, 1) := by decide +kernel
theorem dX5_isPairOutOfPhase_1 : decode cX5_isPairOutOfPhase 1 = .ok (.getfield 26, 3) := by decide +kernel
theorem dX5_isPairOutOfPhase_4 : decode cX5_isPairOutOfPhase 4 = .ok (.iload_n 1, 1) := by decide +kernel
theorem dX5_isPairOutOfPhase_5 : decode cX5_isPairOutOfPhase 5 = .ok (.iload_n 2, 1) := by decide +kernel
theorem dX5_isPairOutOfPhase_6 : decode cX5_isPairOutOfPhase 6 = .ok (.invokevirtual 167, 3) := by decide +kernel
theorem dX5_isPairOutOfPhase_9 : decode cX5_isPairOutOfPhase 9 = .ok (.ifCond .eq 35, 3) := by decide +kernel
theorem dX5_isPairOutOfPhase_12 : decode cX5_isPairOutOfPhase 12 = .ok (.iload_n 1, 1) := by decide +kernel
theorem dX5_isPairOutOfPhase_13 : decode cX5_isPairOutOfPhase 13 = .ok (.iload_n 2, 1) := by decide +kernel
theorem dX5_isPairOutOfPhase_14 : decode cX5_isPairOutOfPhase 14 = .ok (.if_icmp .ge 28, 3) := by decide +kernel
theorem dX5_isPairOutOfPhase_17 : decode cX5_isPairOutOfPhase 17 = .ok (.aload_n 0, 1) := by decide +kernel
theorem dX5_isPairOutOfPhase_18 : decode cX5_isPairOutOfPhase 18 = .ok (.getfield 10, 3) := by decide +kernel
theorem dX5_isPairOutOfPhase_21 : decode cX5_isPairOutOfPhase 21 = .ok (.getfield 161, 3) := by decide +kernel
theorem dX5_isPairOutOfPhase_24 : decode cX5_isPairOutOfPhase 24 = .ok (.iload_n 1, 1) := by decide +kernel
theorem dX5_isPairOutOfPhase_25 : decode cX5_isPairOutOfPhase 25 = .ok (.iaload, 1) := by decide +kernel
theorem dX5_isPairOutOfPhase_26 : decode cX5_isPairOutOfPhase 26 = .ok (.aload_n 0, 1) := by decide +kernel
theorem dX5_isPairOutOfPhase_27 : decode cX5_isPairOutOfPhase 27 = .ok (.getfield 10, 3) := by decide +kernel
theorem dX5_isPairOutOfPhase_30 : decode cX5_isPairOutOfPhase 30 = .ok (.getfield 161, 3) := by decide +kernel
theorem dX5_isPairOutOfPhase_33 : decode cX5_isPairOutOfPhase 33 = .ok (.iload_n 2, 1) := by decide +kernel
theorem dX5_isPairOutOfPhase_34 : decode cX5_isPairOutOfPhase 34 = .ok (.iaload, 1) := by decide +kernel
theorem dX5_isPairOutOfPhase_35 : decode cX5_isPairOutOfPhase 35 = .ok (.if_icmp .eq 7, 3) := by decide +kernel
theorem dX5_isPairOutOfPhase_38 : decode cX5_isPairOutOfPhase 38 = .ok (.iconst 1, 1) := by decide +kernel
theorem dX5_isPairOutOfPhase_39 : decode cX5_isPairOutOfPhase 39 = .ok (.goto 4, 3) := by decide +kernel
theorem dX5_isPairOutOfPhase_42 : decode cX5_isPairOutOfPhase 42 = .ok (.iconst 0, 1) := by decide +kernel
theorem dX5_isPairOutOfPhase_43 : decode cX5_isPairOutOfPhase 43 = .ok (.ireturn, 1) := by decide +kernel
theorem dX5_isPairOutOfPhase_44 : decode cX5_isPairOutOfPhase 44 = .ok (.aload_n 0, 1) := by decide +kernel
theorem dX5_isPairOutOfPhase_45 : decode cX5_isPairOutOfPhase 45 = .ok (.getfield 26, 3) := by decide +kernel
theorem dX5_isPairOutOfPhase_48 : decode cX5_isPairOutOfPhase 48 = .ok (.iload_n 1, 1) := by decide +kernel
theorem dX5_isPairOutOfPhase_49 : decode cX5_isPairOutOfPhase 49 = .ok (.iload_n 2, 1) := by decide +kernel
theorem dX5_isPairOutOfPhase_50 : decode cX5_isPairOutOfPhase 50 = .ok (.invokevirtual 171, 3) := by decide +kernel
theorem dX5_isPairOutOfPhase_53 : decode cX5_isPairOutOfPhase 53 = .ok (.ifCond .eq 28, 3) := by decide +kernel
theorem dX5_isPairOutOfPhase_56 : decode cX5_isPairOutOfPhase 56 = .ok (.aload_n 0, 1) := by decide +kernel
theorem dX5_isPairOutOfPhase_57 : decode cX5_isPairOutOfPhase 57 = .ok (.getfield 10, 3) := by decide +kernel
theorem dX5_isPairOutOfPhase_60 : decode cX5_isPairOutOfPhase 60 = .ok (.getfield 161, 3) := by decide +kernel
theorem dX5_isPairOutOfPhase_63 : decode cX5_isPairOutOfPhase 63 = .ok (.iload_n 1, 1) := by decide +kernel
theorem dX5_isPairOutOfPhase_64 : decode cX5_isPairOutOfPhase 64 = .ok (.iaload, 1) := by decide +kernel
theorem dX5_isPairOutOfPhase_65 : decode cX5_isPairOutOfPhase 65 = .ok (.aload_n 0, 1) := by decide +kernel
theorem dX5_isPairOutOfPhase_66 : decode cX5_isPairOutOfPhase 66 = .ok (.getfield 10, 3) := by decide +kernel
theorem dX5_isPairOutOfPhase_69 : decode cX5_isPairOutOfPhase 69 = .ok (.getfield 161, 3) := by decide +kernel
theorem dX5_isPairOutOfPhase_72 : decode cX5_isPairOutOfPhase 72 = .ok (.iload_n 2, 1) := by decide +kernel
theorem dX5_isPairOutOfPhase_73 : decode cX5_isPairOutOfPhase 73 = .ok (.iaload, 1) := by decide +kernel
theorem dX5_isPairOutOfPhase_74 : decode cX5_isPairOutOfPhase 74 = .ok (.if_icmp .ge 7, 3) := by decide +kernel
theorem dX5_isPairOutOfPhase_77 : decode cX5_isPairOutOfPhase 77 = .ok (.iconst 1, 1) := by decide +kernel
theorem dX5_isPairOutOfPhase_78 : decode cX5_isPairOutOfPhase 78 = .ok (.goto 4, 3) := by decide +kernel
theorem dX5_isPairOutOfPhase_81 : decode cX5_isPairOutOfPhase 81 = .ok (.iconst 0, 1) := by decide +kernel
theorem dX5_isPairOutOfPhase_82 : decode cX5_isPairOutOfPhase 82 = .ok (.ireturn, 1) := by decide +kernel
theorem dX5_pairsOutOfPhase_0 : decode cX5_pairsOutOfPhase 0 = .ok (.iconst 0, 1) := by decide +kernel
theorem dX5_pairsOutOfPhase_1 : decode cX5_pairsOutOfPhase 1 = .ok (.istore_n 1, 1) := by decide +kernel
theorem dX5_pairsOutOfPhase_2 : decode cX5_pairsOutOfPhase 2 = .ok (.iconst 0, 1) := by decide +kernel
theorem dX5_pairsOutOfPhase_3 : decode cX5_pairsOutOfPhase 3 = .ok (.istore_n 2, 1) := by decide +kernel
theorem dX5_pairsOutOfPhase_4 : decode cX5_pairsOutOfPhase 4 = .ok (.iload_n 2, 1) := by decide +kernel
theorem dX5_pairsOutOfPhase_5 : decode cX5_pairsOutOfPhase 5 = .ok (.aload_n 0, 1) := by decide +kernel
theorem dX5_pairsOutOfPhase_6 : decode cX5_pairsOutOfPhase 6 = .ok (.getfield 10, 3) := by decide +kernel
theorem dX5_pairsOutOfPhase_9 : decode cX5_pairsOutOfPhase 9 = .ok (.getfield 55, 3) := by decide +kernel
theorem dX5_pairsOutOfPhase_12 : decode cX5_pairsOutOfPhase 12 = .ok (.if_icmp .ge 40, 3) := by decide +kernel
theorem dX5_pairsOutOfPhase_15 : decode cX5_pairsOutOfPhase 15 = .ok (.iconst 0, 1) := by decide +kernel
theorem dX5_pairsOutOfPhase_16 : decode cX5_pairsOutOfPhase 16 = .ok (.istore_n 3, 1) := by decide +kernel
theorem dX5_pairsOutOfPhase_17 : decode cX5_pairsOutOfPhase 17 = .ok (.iload_n 3, 1) := by decide +kernel
theorem dX5_pairsOutOfPhase_18 : decode cX5_pairsOutOfPhase 18 = .ok (.aload_n 0, 1) := by decide +kernel
theorem dX5_pairsOutOfPhase_19 : decode cX5_pairsOutOfPhase 19 = .ok (.getfield 10, 3) := by decide +kernel
theorem dX5_pairsOutOfPhase_22 : decode cX5_pairsOutOfPhase 22 = .ok (.getfield 55, 3) := by decide +kernel
theorem dX5_pairsOutOfPhase_25 : decode cX5_pairsOutOfPhase 25 = .ok (.if_icmp .ge 21, 3) := by decide +kernel
theorem dX5_pairsOutOfPhase_28 : decode cX5_pairsOutOfPhase 28 = .ok (.aload_n 0, 1) := by decide +kernel
theorem dX5_pairsOutOfPhase_29 : decode cX5_pairsOutOfPhase 29 = .ok (.iload_n 2, 1) := by decide +kernel
theorem dX5_pairsOutOfPhase_30 : decode cX5_pairsOutOfPhase 30 = .ok (.iload_n 3, 1) := by decide +kernel
theorem dX5_pairsOutOfPhase_31 : decode cX5_pairsOutOfPhase 31 = .ok (.invokevirtual 273, 3) := by decide +kernel
theorem dX5_pairsOutOfPhase_34 : decode cX5_pairsOutOfPhase 34 = .ok (.ifCond .eq 6, 3) := by decide +kernel
theorem dX5_pairsOutOfPhase_37 : decode cX5_pairsOutOfPhase 37 = .ok (.iinc 1 1, 3) := by decide +kernel
theorem dX5_pairsOutOfPhase_40 : decode cX5_pairsOutOfPhase 40 = .ok (.iinc 3 1, 3) := by decide +kernel
theorem dX5_pairsOutOfPhase_43 : decode cX5_pairsOutOfPhase 43 = .ok (.goto (-26), 3) := by decide +kernel
theorem dX5_pairsOutOfPhase_46 : decode cX5_pairsOutOfPhase 46 = .ok (.iinc 2 1, 3) := by decide +kernel
theorem dX5_pairsOutOfPhase_49 : decode cX5_pairsOutOfPhase 49 = .ok (.goto (-45), 3) := by decide +kernel
theorem dX5_pairsOutOfPhase_52 : decode cX5_pairsOutOfPhase 52 = .ok (.iload_n 1, 1) := by decide +kernel
theorem dX5_pairsOutOfPhase_53 : decode cX5_pairsOutOfPhase 53 = .ok (.ireturn, 1) := by decide +kernel
theorem dX5_bit_0 : decode cX5_bit 0 = .ok (.lconst 1, 1) := by decide +kernel
theorem dX5_bit_1 : decode cX5_bit 1 = .ok (.iload_n 0, 1) := by decide +kernel
theorem dX5_bit_2 : decode cX5_bit 2 = .ok (.lshl, 1) := by decide +kernel
theorem dX5_bit_3 : decode cX5_bit 3 = .ok (.lreturn, 1) := by decide +kernel
theorem dX5_has_0 : decode cX5_has 0 = .ok (.lload_n 0, 1) := by decide +kernel
theorem dX5_has_1 : decode cX5_has 1 = .ok (.iload_n 2, 1) := by decide +kernel
theorem dX5_has_2 : decode cX5_has 2 = .ok (.invokestatic 258, 3) := by decide +kernel
theorem dX5_has_5 : decode cX5_has 5 = .ok (.land, 1) := by decide +kernel
theorem dX5_has_6 : decode cX5_has 6 = .ok (.lconst 0, 1) := by decide +kernel
theorem dX5_has_7 : decode cX5_has 7 = .ok (.lcmp, 1) := by decide +kernel
theorem dX5_has_8 : decode cX5_has 8 = .ok (.ifCond .eq 7, 3) := by decide +kernel
theorem dX5_has_11 : decode cX5_has 11 = .ok (.iconst 1, 1) := by decide +kernel
theorem dX5_has_12 : decode cX5_has 12 = .ok (.goto 4, 3) := by decide +kernel
theorem dX5_has_15 : decode cX5_has 15 = .ok (.iconst 0, 1) := by decide +kernel
theorem dX5_has_16 : decode cX5_has 16 = .ok (.ireturn, 1) := by decide +kernel
theorem dX5_elementAt_0 : decode cX5_elementAt 0 = .ok (.iload_n 2, 1) := by decide +kernel
theorem dX5_elementAt_1 : decode cX5_elementAt 1 = .ok (.istore_n 3, 1) := by decide +kernel
theorem dX5_elementAt_2 : decode cX5_elementAt 2 = .ok (.iconst 0, 1) := by decide +kernel
theorem dX5_elementAt_3 : decode cX5_elementAt 3 = .ok (.istore 4, 2) := by decide +kernel
theorem dX5_elementAt_5 : decode cX5_elementAt 5 = .ok (.iload 4, 2) := by decide +kernel
theorem dX5_elementAt_7 : decode cX5_elementAt 7 = .ok (.bipush 40, 2) := by decide +kernel
theorem dX5_elementAt_9 : decode cX5_elementAt 9 = .ok (.if_icmp .ge 28, 3) := by decide +kernel
theorem dX5_elementAt_12 : decode cX5_elementAt 12 = .ok (.lload_n 0, 1) := by decide +kernel
theorem dX5_elementAt_13 : decode cX5_elementAt 13 = .ok (.iload 4, 2) := by decide +kernel
theorem dX5_elementAt_15 : decode cX5_elementAt 15 = .ok (.invokestatic 157, 3) := by decide +kernel
theorem dX5_elementAt_18 : decode cX5_elementAt 18 = .ok (.ifCond .eq 13, 3) := by decide +kernel
theorem dX5_elementAt_21 : decode cX5_elementAt 21 = .ok (.iload_n 3, 1) := by decide +kernel
theorem dX5_elementAt_22 : decode cX5_elementAt 22 = .ok (.ifCond .ne 6, 3) := by decide +kernel
theorem dX5_elementAt_25 : decode cX5_elementAt 25 = .ok (.iload 4, 2) := by decide +kernel
theorem dX5_elementAt_27 : decode cX5_elementAt 27 = .ok (.ireturn, 1) := by decide +kernel
theorem dX5_elementAt_28 : decode cX5_elementAt 28 = .ok (.iinc 3 (-1), 3) := by decide +kernel
theorem dX5_elementAt_31 : decode cX5_elementAt 31 = .ok (.iinc 4 1, 3) := by decide +kernel
theorem dX5_elementAt_34 : decode cX5_elementAt 34 = .ok (.goto (-29), 3) := by decide +kernel
theorem dX5_elementAt_37 : decode cX5_elementAt 37 = .ok (.iconst (-1), 1) := by decide +kernel
theorem dX5_elementAt_38 : decode cX5_elementAt 38 = .ok (.ireturn, 1) := by decide +kernel
theorem dX6_init_0 : decode cX6_init 0 = .ok (.aload_n 0, 1) := by decide +kernel
theorem dX6_init_1 : decode cX6_init 1 = .ok (.invokespecial 1, 3) := by decide +kernel
theorem dX6_init_4 : decode cX6_init 4 = .ok (.aload_n 0, 1) := by decide +kernel
theorem dX6_init_5 : decode cX6_init 5 = .ok (.bipush 40, 2) := by decide +kernel
theorem dX6_init_7 : decode cX6_init 7 = .ok (.newarray .int, 2) := by decide +kernel
theorem dX6_init_9 : decode cX6_init 9 = .ok (.putfield 9, 3) := by decide +kernel
theorem dX6_init_12 : decode cX6_init 12 = .ok (.aload_n 0, 1) := by decide +kernel
theorem dX6_init_13 : decode cX6_init 13 = .ok (.bipush 40, 2) := by decide +kernel
theorem dX6_init_15 : decode cX6_init 15 = .ok (.newarray .int, 2) := by decide +kernel
theorem dX6_init_17 : decode cX6_init 17 = .ok (.putfield 13, 3) := by decide +kernel
theorem dX6_init_20 : decode cX6_init 20 = .ok (.aload_n 0, 1) := by decide +kernel
theorem dX6_init_21 : decode cX6_init 21 = .ok (.bipush 40, 2) := by decide +kernel
theorem dX6_init_23 : decode cX6_init 23 = .ok (.newarray .int, 2) := by decide +kernel
theorem dX6_init_25 : decode cX6_init 25 = .ok (.putfield 16, 3) := by decide +kernel
theorem dX6_init_28 : decode cX6_init 28 = .ok (.aload_n 0, 1) := by decide +kernel
theorem dX6_init_29 : decode cX6_init 29 = .ok (.bipush 40, 2) := by decide +kernel
theorem dX6_init_31 : decode cX6_init 31 = .ok (.newarray .boolean, 2) := by decide +kernel
theorem dX6_init_33 : decode cX6_init 33 = .ok (.putfield 19, 3) := by decide +kernel
theorem dX6_init_36 : decode cX6_init 36 = .ok (.aload_n 0, 1) := by decide +kernel
theorem dX6_init_37 : decode cX6_init 37 = .ok (.bipush 40, 2) := by decide +kernel
theorem dX6_init_39 : decode cX6_init 39 = .ok (.newarray .boolean, 2) := by decide +kernel
theorem dX6_init_41 : decode cX6_init 41 = .ok (.putfield 23, 3) := by decide +kernel
theorem dX6_init_44 : decode cX6_init 44 = .ok (.aload_n 0, 1) := by decide +kernel
theorem dX6_init_45 : decode cX6_init 45 = .ok (.bipush 40, 2) := by decide +kernel
theorem dX6_init_47 : decode cX6_init 47 = .ok (.newarray .int, 2) := by decide +kernel
theorem dX6_init_49 : decode cX6_init 49 = .ok (.putfield 26, 3) := by decide +kernel
theorem dX6_init_52 : decode cX6_init 52 = .ok (.aload_n 0, 1) := by decide +kernel
theorem dX6_init_53 : decode cX6_init 53 = .ok (.bipush 80, 2) := by decide +kernel
theorem dX6_init_55 : decode cX6_init 55 = .ok (.newarray .int, 2) := by decide +kernel
theorem dX6_init_57 : decode cX6_init 57 = .ok (.putfield 29, 3) := by decide +kernel
theorem dX6_init_60 : decode cX6_init 60 = .ok (.aload_n 0, 1) := by decide +kernel
theorem dX6_init_61 : decode cX6_init 61 = .ok (.bipush 80, 2) := by decide +kernel
theorem dX6_init_63 : decode cX6_init 63 = .ok (.newarray .int, 2) := by decide +kernel
theorem dX6_init_65 : decode cX6_init 65 = .ok (.putfield 32, 3) := by decide +kernel
theorem dX6_init_68 : decode cX6_init 68 = .ok (.aload_n 0, 1) := by decide +kernel
theorem dX6_init_69 : decode cX6_init 69 = .ok (.bipush 80, 2) := by decide +kernel
theorem dX6_init_71 : decode cX6_init 71 = .ok (.newarray .int, 2) := by decide +kernel
theorem dX6_init_73 : decode cX6_init 73 = .ok (.putfield 35, 3) := by decide +kernel
theorem dX6_init_76 : decode cX6_init 76 = .ok (.aload_n 0, 1) := by decide +kernel
theorem dX6_init_77 : decode cX6_init 77 = .ok (.sipush 420, 3) := by decide +kernel
theorem dX6_init_80 : decode cX6_init 80 = .ok (.newarray .int, 2) := by decide +kernel
theorem dX6_init_82 : decode cX6_init 82 = .ok (.putfield 38, 3) := by decide +kernel
theorem dX6_init_85 : decode cX6_init 85 = .ok (.aload_n 0, 1) := by decide +kernel
theorem dX6_init_86 : decode cX6_init 86 = .ok (.bipush 40, 2) := by decide +kernel
theorem dX6_init_88 : decode cX6_init 88 = .ok (.newarray .int, 2) := by decide +kernel
theorem dX6_init_90 : decode cX6_init 90 = .ok (.putfield 41, 3) := by decide +kernel
theorem dX6_init_93 : decode cX6_init 93 = .ok (.aload_n 0, 1) := by decide +kernel
theorem dX6_init_94 : decode cX6_init 94 = .ok (.bipush 40, 2) := by decide +kernel
theorem dX6_init_96 : decode cX6_init 96 = .ok (.newarray .long, 2) := by decide +kernel
theorem dX6_init_98 : decode cX6_init 98 = .ok (.putfield 44, 3) := by decide +kernel
theorem dX6_init_101 : decode cX6_init 101 = .ok (.aload_n 0, 1) := by decide +kernel
theorem dX6_init_102 : decode cX6_init 102 = .ok (.bipush 40, 2) := by decide +kernel
theorem dX6_init_104 : decode cX6_init 104 = .ok (.newarray .long, 2) := by decide +kernel
theorem dX6_init_106 : decode cX6_init 106 = .ok (.putfield 48, 3) := by decide +kernel
theorem dX6_init_109 : decode cX6_init 109 = .ok (.aload_n 0, 1) := by decide +kernel
theorem dX6_init_110 : decode cX6_init 110 = .ok (.bipush 40, 2) := by decide +kernel
theorem dX6_init_112 : decode cX6_init 112 = .ok (.newarray .long, 2) := by decide +kernel
theorem dX6_init_114 : decode cX6_init 114 = .ok (.putfield 51, 3) := by decide +kernel
theorem dX6_init_117 : decode cX6_init 117 = .ok (.aload_n 0, 1) := by decide +kernel
theorem dX6_init_118 : decode cX6_init 118 = .ok (.bipush 40, 2) := by decide +kernel
theorem dX6_init_120 : decode cX6_init 120 = .ok (.newarray .int, 2) := by decide +kernel
theorem dX6_init_122 : decode cX6_init 122 = .ok (.putfield 54, 3) := by decide +kernel
theorem dX6_init_125 : decode cX6_init 125 = .ok (.aload_n 0, 1) := by decide +kernel
theorem dX6_init_126 : decode cX6_init 126 = .ok (.bipush 40, 2) := by decide +kernel
theorem dX6_init_128 : decode cX6_init 128 = .ok (.newarray .int, 2) := by decide +kernel
theorem dX6_init_130 : decode cX6_init 130 = .ok (.putfield 57, 3) := by decide +kernel
theorem dX6_init_133 : decode cX6_init 133 = .ok (.return_, 1) := by decide +kernel
theorem dX6_thrown_0 : decode cX6_thrown 0 = .ok (.aload_n 0, 1) := by decide +kernel
theorem dX6_thrown_1 : decode cX6_thrown 1 = .ok (.getfield 60, 3) := by decide +kernel
theorem dX6_thrown_4 : decode cX6_thrown 4 = .ok (.ireturn, 1) := by decide +kernel
theorem dX6_no_0 : decode cX6_no 0 = .ok (.aload_n 0, 1) := by decide +kernel
theorem dX6_no_1 : decode cX6_no 1 = .ok (.iload_n 1, 1) := by decide +kernel
theorem dX6_no_2 : decode cX6_no 2 = .ok (.putfield 60, 3) := by decide +kernel
theorem dX6_no_5 : decode cX6_no 5 = .ok (.iconst 0, 1) := by decide +kernel
theorem dX6_no_6 : decode cX6_no 6 = .ok (.ireturn, 1) := by decide +kernel
theorem dX6_isIn_0 : decode cX6_isIn 0 = .ok (.iload_n 0, 1) := by decide +kernel
theorem dX6_isIn_1 : decode cX6_isIn 1 = .ok (.iload_n 1, 1) := by decide +kernel
theorem dX6_isIn_2 : decode cX6_isIn 2 = .ok (.if_icmp .lt 12, 3) := by decide +kernel
theorem dX6_isIn_5 : decode cX6_isIn 5 = .ok (.iload_n 0, 1) := by decide +kernel
theorem dX6_isIn_6 : decode cX6_isIn 6 = .ok (.iload_n 2, 1) := by decide +kernel
theorem dX6_isIn_7 : decode cX6_isIn 7 = .ok (.if_icmp .gt 7, 3) := by decide +kernel
theorem dX6_isIn_10 : decode cX6_isIn 10 = .ok (.iconst 1, 1) := by decide +kernel
theorem dX6_isIn_11 : decode cX6_isIn 11 = .ok (.goto 4, 3) := by decide +kernel
theorem dX6_isIn_14 : decode cX6_isIn 14 = .ok (.iconst 0, 1) := by decide +kernel
theorem dX6_isIn_15 : decode cX6_isIn 15 = .ok (.ireturn, 1) := by decide +kernel
theorem dX6_isUnit_0 : decode cX6_isUnit 0 = .ok (.iload_n 1, 1) := by decide +kernel
theorem dX6_isUnit_1 : decode cX6_isUnit 1 = .ok (.iconst 0, 1) := by decide +kernel
theorem dX6_isUnit_2 : decode cX6_isUnit 2 = .ok (.aload_n 0, 1) := by decide +kernel
theorem dX6_isUnit_3 : decode cX6_isUnit 3 = .ok (.getfield 64, 3) := by decide +kernel
theorem dX6_isUnit_6 : decode cX6_isUnit 6 = .ok (.iconst 1, 1) := by decide +kernel
theorem dX6_isUnit_7 : decode cX6_isUnit 7 = .ok (.isub, 1) := by decide +kernel
theorem dX6_isUnit_8 : decode cX6_isUnit 8 = .ok (.invokestatic 67, 3) := by decide +kernel
theorem dX6_isUnit_11 : decode cX6_isUnit 11 = .ok (.ireturn, 1) := by decide +kernel
theorem dX6_isBody_0 : decode cX6_isBody 0 = .ok (.aload_n 0, 1) := by decide +kernel
theorem dX6_isBody_1 : decode cX6_isBody 1 = .ok (.getfield 41, 3) := by decide +kernel
theorem dX6_isBody_4 : decode cX6_isBody 4 = .ok (.iload_n 1, 1) := by decide +kernel
theorem dX6_isBody_5 : decode cX6_isBody 5 = .ok (.iaload, 1) := by decide +kernel
theorem dX6_isBody_6 : decode cX6_isBody 6 = .ok (.iload_n 1, 1) := by decide +kernel
theorem dX6_isBody_7 : decode cX6_isBody 7 = .ok (.if_icmp .ne 7, 3) := by decide +kernel
theorem dX6_isBody_10 : decode cX6_isBody 10 = .ok (.iconst 1, 1) := by decide +kernel
theorem dX6_isBody_11 : decode cX6_isBody 11 = .ok (.goto 4, 3) := by decide +kernel
theorem dX6_isBody_14 : decode cX6_isBody 14 = .ok (.iconst 0, 1) := by decide +kernel
theorem dX6_isBody_15 : decode cX6_isBody 15 = .ok (.ireturn, 1) := by decide +kernel
theorem dX6_has_0 : decode cX6_has 0 = .ok (.lload_n 0, 1) := by decide +kernel
theorem dX6_has_1 : decode cX6_has 1 = .ok (.iload_n 2, 1) := by decide +kernel
theorem dX6_has_2 : decode cX6_has 2 = .ok (.lshr, 1) := by decide +kernel
theorem dX6_has_3 : decode cX6_has 3 = .ok (.lconst 1, 1) := by decide +kernel
theorem dX6_has_4 : decode cX6_has 4 = .ok (.land, 1) := by decide +kernel
theorem dX6_has_5 : decode cX6_has 5 = .ok (.lconst 1, 1) := by decide +kernel
theorem dX6_has_6 : decode cX6_has 6 = .ok (.lcmp, 1) := by decide +kernel
theorem dX6_has_7 : decode cX6_has 7 = .ok (.ifCond .ne 7, 3) := by decide +kernel
theorem dX6_has_10 : decode cX6_has 10 = .ok (.iconst 1, 1) := by decide +kernel
theorem dX6_has_11 : decode cX6_has 11 = .ok (.goto 4, 3) := by decide +kernel
theorem dX6_has_14 : decode cX6_has 14 = .ok (.iconst 0, 1) := by decide +kernel
theorem dX6_has_15 : decode cX6_has 15 = .ok (.ireturn, 1) := by decide +kernel
theorem dX6_joinBodies_0 : decode cX6_joinBodies 0 = .ok (.iconst 0, 1) := by decide +kernel
theorem dX6_joinBodies_1 : decode cX6_joinBodies 1 = .ok (.istore_n 1, 1) := by decide +kernel
theorem dX6_joinBodies_2 : decode cX6_joinBodies 2 = .ok (.iload_n 1, 1) := by decide +kernel
theorem dX6_joinBodies_3 : decode cX6_joinBodies 3 = .ok (.aload_n 0, 1) := by decide +kernel
theorem dX6_joinBodies_4 : decode cX6_joinBodies 4 = .ok (.getfield 64, 3) := by decide +kernel
theorem dX6_joinBodies_7 : decode cX6_joinBodies 7 = .ok (.if_icmp .ge 16, 3) := by decide +kernel
theorem dX6_joinBodies_10 : decode cX6_joinBodies 10 = .ok (.aload_n 0, 1) := by decide +kernel
theorem dX6_joinBodies_11 : decode cX6_joinBodies 11 = .ok (.getfield 41, 3) := by decide +kernel
theorem dX6_joinBodies_14 : decode cX6_joinBodies 14 = .ok (.iload_n 1, 1) := by decide +kernel
theorem dX6_joinBodies_15 : decode cX6_joinBodies 15 = .ok (.iload_n 1, 1) := by decide +kernel
theorem dX6_joinBodies_16 : decode cX6_joinBodies 16 = .ok (.iastore, 1) := by decide +kernel
theorem dX6_joinBodies_17 : decode cX6_joinBodies 17 = .ok (.iinc 1 1, 3) := by decide +kernel
theorem dX6_joinBodies_20 : decode cX6_joinBodies 20 = .ok (.goto (-18), 3) := by decide +kernel
theorem dX6_joinBodies_23 : decode cX6_joinBodies 23 = .ok (.iconst 1, 1) := by decide +kernel
theorem dX6_joinBodies_24 : decode cX6_joinBodies 24 = .ok (.istore_n 1, 1) := by decide +kernel
theorem dX6_joinBodies_25 : decode cX6_joinBodies 25 = .ok (.iload_n 1, 1) := by decide +kernel
theorem dX6_joinBodies_26 : decode cX6_joinBodies 26 = .ok (.ifCond .eq 114, 3) := by decide +kernel
theorem dX6_joinBodies_29 : decode cX6_joinBodies 29 = .ok (.iconst 0, 1) := by decide +kernel
theorem dX6_joinBodies_30 : decode cX6_joinBodies 30 = .ok (.istore_n 1, 1) := by decide +kernel
theorem dX6_joinBodies_31 : decode cX6_joinBodies 31 = .ok (.iconst 0, 1) := by decide +kernel
theorem dX6_joinBodies_32 : decode cX6_joinBodies 32 = .ok (.istore_n 2, 1) := by decide +kernel
theorem dX6_joinBodies_33 : decode cX6_joinBodies 33 = .ok (.iload_n 2, 1) := by decide +kernel
theorem dX6_joinBodies_34 : decode cX6_joinBodies 34 = .ok (.aload_n 0, 1) := by decide +kernel
theorem dX6_joinBodies_35 : decode cX6_joinBodies 35 = .ok (.getfield 71, 3) := by decide +kernel
theorem dX6_joinBodies_38 : decode cX6_joinBodies 38 = .ok (.if_icmp .ge 99, 3) := by decide +kernel
theorem dX6_joinBodies_41 : decode cX6_joinBodies 41 = .ok (.aload_n 0, 1) := by decide +kernel
theorem dX6_joinBodies_42 : decode cX6_joinBodies 42 = .ok (.getfield 29, 3) := by decide +kernel
theorem dX6_joinBodies_45 : decode cX6_joinBodies 45 = .ok (.iload_n 2, 1) := by decide +kernel
theorem dX6_joinBodies_46 : decode cX6_joinBodies 46 = .ok (.iaload, 1) := by decide +kernel
theorem dX6_joinBodies_47 : decode cX6_joinBodies 47 = .ok (.iconst 4, 1) := by decide +kernel
theorem dX6_joinBodies_48 : decode cX6_joinBodies 48 = .ok (.if_icmp .ne 83, 3) := by decide +kernel
theorem dX6_joinBodies_51 : decode cX6_joinBodies 51 = .ok (.aload_n 0, 1) := by decide +kernel
theorem dX6_joinBodies_52 : decode cX6_joinBodies 52 = .ok (.getfield 41, 3) := by decide +kernel
theorem dX6_joinBodies_55 : decode cX6_joinBodies 55 = .ok (.aload_n 0, 1) := by decide +kernel
theorem dX6_joinBodies_56 : decode cX6_joinBodies 56 = .ok (.getfield 32, 3) := by decide +kernel
theorem dX6_joinBodies_59 : decode cX6_joinBodies 59 = .ok (.iload_n 2, 1) := by decide +kernel
theorem dX6_joinBodies_60 : decode cX6_joinBodies 60 = .ok (.iaload, 1) := by decide +kernel
theorem dX6_joinBodies_61 : decode cX6_joinBodies 61 = .ok (.iaload, 1) := by decide +kernel
theorem dX6_joinBodies_62 : decode cX6_joinBodies 62 = .ok (.aload_n 0, 1) := by decide +kernel
theorem dX6_joinBodies_63 : decode cX6_joinBodies 63 = .ok (.getfield 41, 3) := by decide +kernel
theorem dX6_joinBodies_66 : decode cX6_joinBodies 66 = .ok (.aload_n 0, 1) := by decide +kernel
theorem dX6_joinBodies_67 : decode cX6_joinBodies 67 = .ok (.getfield 35, 3) := by decide +kernel
theorem dX6_joinBodies_70 : decode cX6_joinBodies 70 = .ok (.iload_n 2, 1) := by decide +kernel
theorem dX6_joinBodies_71 : decode cX6_joinBodies 71 = .ok (.iaload, 1) := by decide +kernel
theorem dX6_joinBodies_72 : decode cX6_joinBodies 72 = .ok (.iaload, 1) := by decide +kernel
theorem dX6_joinBodies_73 : decode cX6_joinBodies 73 = .ok (.if_icmp .ne 6, 3) := by decide +kernel
theorem dX6_joinBodies_76 : decode cX6_joinBodies 76 = .ok (.goto 55, 3) := by decide +kernel
theorem dX6_joinBodies_79 : decode cX6_joinBodies 79 = .ok (.aload_n 0, 1) := by decide +kernel
theorem dX6_joinBodies_80 : decode cX6_joinBodies 80 = .ok (.getfield 41, 3) := by decide +kernel
theorem dX6_joinBodies_83 : decode cX6_joinBodies 83 = .ok (.aload_n 0, 1) := by decide +kernel
theorem dX6_joinBodies_84 : decode cX6_joinBodies 84 = .ok (.getfield 32, 3) := by decide +kernel
theorem dX6_joinBodies_87 : decode cX6_joinBodies 87 = .ok (.iload_n 2, 1) := by decide +kernel
theorem dX6_joinBodies_88 : decode cX6_joinBodies 88 = .ok (.iaload, 1) := by decide +kernel
theorem dX6_joinBodies_89 : decode cX6_joinBodies 89 = .ok (.iaload, 1) := by decide +kernel
theorem dX6_joinBodies_90 : decode cX6_joinBodies 90 = .ok (.aload_n 0, 1) := by decide +kernel
theorem dX6_joinBodies_91 : decode cX6_joinBodies 91 = .ok (.getfield 41, 3) := by decide +kernel
theorem dX6_joinBodies_94 : decode cX6_joinBodies 94 = .ok (.aload_n 0, 1) := by decide +kernel
theorem dX6_joinBodies_95 : decode cX6_joinBodies 95 = .ok (.getfield 35, 3) := by decide +kernel
theorem dX6_joinBodies_98 : decode cX6_joinBodies 98 = .ok (.iload_n 2, 1) := by decide +kernel
theorem dX6_joinBodies_99 : decode cX6_joinBodies 99 = .ok (.iaload, 1) := by decide +kernel
theorem dX6_joinBodies_100 : decode cX6_joinBodies 100 = .ok (.iaload, 1) := by decide +kernel
theorem dX6_joinBodies_101 : decode cX6_joinBodies 101 = .ok (.invokestatic 74, 3) := by decide +kernel
theorem dX6_joinBodies_104 : decode cX6_joinBodies 104 = .ok (.istore_n 3, 1) := by decide +kernel
theorem dX6_joinBodies_105 : decode cX6_joinBodies 105 = .ok (.aload_n 0, 1) := by decide +kernel
theorem dX6_joinBodies_106 : decode cX6_joinBodies 106 = .ok (.getfield 41, 3) := by decide +kernel
theorem dX6_joinBodies_109 : decode cX6_joinBodies 109 = .ok (.aload_n 0, 1) := by decide +kernel
theorem dX6_joinBodies_110 : decode cX6_joinBodies 110 = .ok (.getfield 32, 3) := by decide +kernel
theorem dX6_joinBodies_113 : decode cX6_joinBodies 113 = .ok (.iload_n 2, 1) := by decide +kernel
theorem dX6_joinBodies_114 : decode cX6_joinBodies 114 = .ok (.iaload, 1) := by decide +kernel
theorem dX6_joinBodies_115 : decode cX6_joinBodies 115 = .ok (.iload_n 3, 1) := by decide +kernel
theorem dX6_joinBodies_116 : decode cX6_joinBodies 116 = .ok (.iastore, 1) := by decide +kernel
theorem dX6_joinBodies_117 : decode cX6_joinBodies 117 = .ok (.aload_n 0, 1) := by decide +kernel
theorem dX6_joinBodies_118 : decode cX6_joinBodies 118 = .ok (.getfield 41, 3) := by decide +kernel
theorem dX6_joinBodies_121 : decode cX6_joinBodies 121 = .ok (.aload_n 0, 1) := by decide +kernel
theorem dX6_joinBodies_122 : decode cX6_joinBodies 122 = .ok (.getfield 35, 3) := by decide +kernel
theorem dX6_joinBodies_125 : decode cX6_joinBodies 125 = .ok (.iload_n 2, 1) := by decide +kernel
theorem dX6_joinBodies_126 : decode cX6_joinBodies 126 = .ok (.iaload, 1) := by decide +kernel
theorem dX6_joinBodies_127 : decode cX6_joinBodies 127 = .ok (.iload_n 3, 1) := by decide +kernel
theorem dX6_joinBodies_128 : decode cX6_joinBodies 128 = .ok (.iastore, 1) := by decide +kernel
theorem dX6_joinBodies_129 : decode cX6_joinBodies 129 = .ok (.iconst 1, 1) := by decide +kernel
theorem dX6_joinBodies_130 : decode cX6_joinBodies 130 = .ok (.istore_n 1, 1) := by decide +kernel
theorem dX6_joinBodies_131 : decode cX6_joinBodies 131 = .ok (.iinc 2 1, 3) := by decide +kernel
theorem dX6_joinBodies_134 : decode cX6_joinBodies 134 = .ok (.goto (-101), 3) := by decide +kernel
theorem dX6_joinBodies_137 : decode cX6_joinBodies 137 = .ok (.goto (-112), 3) := by decide +kernel
theorem dX6_joinBodies_140 : decode cX6_joinBodies 140 = .ok (.return_, 1) := by decide +kernel
theorem dX6_follow_0 : decode cX6_follow 0 = .ok (.aload_n 0, 1) := by decide +kernel
theorem dX6_follow_1 : decode cX6_follow 1 = .ok (.invokevirtual 80, 3) := by decide +kernel
theorem dX6_follow_4 : decode cX6_follow 4 = .ok (.iconst 0, 1) := by decide +kernel
theorem dX6_follow_5 : decode cX6_follow 5 = .ok (.istore_n 1, 1) := by decide +kernel
theorem dX6_follow_6 : decode cX6_follow 6 = .ok (.iload_n 1, 1) := by decide +kernel
theorem dX6_follow_7 : decode cX6_follow 7 = .ok (.aload_n 0, 1) := by decide +kernel
theorem dX6_follow_8 : decode cX6_follow 8 = .ok (.getfield 64, 3) := by decide +kernel
theorem dX6_follow_11 : decode cX6_follow 11 = .ok (.if_icmp .ge 16, 3) := by decide +kernel
theorem dX6_follow_14 : decode cX6_follow 14 = .ok (.aload_n 0, 1) := by decide +kernel
theorem dX6_follow_15 : decode cX6_follow 15 = .ok (.getfield 44, 3) := by decide +kernel
theorem dX6_follow_18 : decode cX6_follow 18 = .ok (.iload_n 1, 1) := by decide +kernel
theorem dX6_follow_19 : decode cX6_follow 19 = .ok (.lconst 0, 1) := by decide +kernel
theorem dX6_follow_20 : decode cX6_follow 20 = .ok (.lastore, 1) := by decide +kernel
theorem dX6_follow_21 : decode cX6_follow 21 = .ok (.iinc 1 1, 3) := by decide +kernel
theorem dX6_follow_24 : decode cX6_follow 24 = .ok (.goto (-18), 3) := by decide +kernel
theorem dX6_follow_27 : decode cX6_follow 27 = .ok (.iconst 0, 1) := by decide +kernel
theorem dX6_follow_28 : decode cX6_follow 28 = .ok (.istore_n 1, 1) := by decide +kernel
theorem dX6_follow_29 : decode cX6_follow 29 = .ok (.iload_n 1, 1) := by decide +kernel
theorem dX6_follow_30 : decode cX6_follow 30 = .ok (.aload_n 0, 1) := by decide +kernel
theorem dX6_follow_31 : decode cX6_follow 31 = .ok (.getfield 71, 3) := by decide +kernel
theorem dX6_follow_34 : decode cX6_follow 34 = .ok (.if_icmp .ge 51, 3) := by decide +kernel
theorem dX6_follow_37 : decode cX6_follow 37 = .ok (.aload_n 0, 1) := by decide +kernel
theorem dX6_follow_38 : decode cX6_follow 38 = .ok (.getfield 29, 3) := by decide +kernel
theorem dX6_follow_41 : decode cX6_follow 41 = .ok (.iload_n 1, 1) := by decide +kernel
theorem dX6_follow_42 : decode cX6_follow 42 = .ok (.iaload, 1) := by decide +kernel
theorem dX6_follow_43 : decode cX6_follow 43 = .ok (.iconst 4, 1) := by decide +kernel
theorem dX6_follow_44 : decode cX6_follow 44 = .ok (.if_icmp .eq 35, 3) := by decide +kernel
theorem dX6_follow_47 : decode cX6_follow 47 = .ok (.aload_n 0, 1) := by decide +kernel
theorem dX6_follow_48 : decode cX6_follow 48 = .ok (.getfield 44, 3) := by decide +kernel
theorem dX6_follow_51 : decode cX6_follow 51 = .ok (.aload_n 0, 1) := by decide +kernel
theorem dX6_follow_52 : decode cX6_follow 52 = .ok (.getfield 41, 3) := by decide +kernel
theorem dX6_follow_55 : decode cX6_follow 55 = .ok (.aload_n 0, 1) := by decide +kernel
theorem dX6_follow_56 : decode cX6_follow 56 = .ok (.getfield 32, 3) := by decide +kernel
theorem dX6_follow_59 : decode cX6_follow 59 = .ok (.iload_n 1, 1) := by decide +kernel
theorem dX6_follow_60 : decode cX6_follow 60 = .ok (.iaload, 1) := by decide +kernel
theorem dX6_follow_61 : decode cX6_follow 61 = .ok (.iaload, 1) := by decide +kernel
theorem dX6_follow_62 : decode cX6_follow 62 = .ok (.dup2, 1) := by decide +kernel
theorem dX6_follow_63 : decode cX6_follow 63 = .ok (.laload, 1) := by decide +kernel
theorem dX6_follow_64 : decode cX6_follow 64 = .ok (.lconst 1, 1) := by decide +kernel
theorem dX6_follow_65 : decode cX6_follow 65 = .ok (.aload_n 0, 1) := by decide +kernel
theorem dX6_follow_66 : decode cX6_follow 66 = .ok (.getfield 41, 3) := by decide +kernel
theorem dX6_follow_69 : decode cX6_follow 69 = .ok (.aload_n 0, 1) := by decide +kernel
theorem dX6_follow_70 : decode cX6_follow 70 = .ok (.getfield 35, 3) := by decide +kernel
theorem dX6_follow_73 : decode cX6_follow 73 = .ok (.iload_n 1, 1) := by decide +kernel
theorem dX6_follow_74 : decode cX6_follow 74 = .ok (.iaload, 1) := by decide +kernel
theorem dX6_follow_75 : decode cX6_follow 75 = .ok (.iaload, 1) := by decide +kernel
theorem dX6_follow_76 : decode cX6_follow 76 = .ok (.lshl, 1) := by decide +kernel
theorem dX6_follow_77 : decode cX6_follow 77 = .ok (.lor, 1) := by decide +kernel
theorem dX6_follow_78 : decode cX6_follow 78 = .ok (.lastore, 1) := by decide +kernel
theorem dX6_follow_79 : decode cX6_follow 79 = .ok (.iinc 1 1, 3) := by decide +kernel
theorem dX6_follow_82 : decode cX6_follow 82 = .ok (.goto (-53), 3) := by decide +kernel
theorem dX6_follow_85 : decode cX6_follow 85 = .ok (.iconst 0, 1) := by decide +kernel
theorem dX6_follow_86 : decode cX6_follow 86 = .ok (.istore_n 1, 1) := by decide +kernel
theorem dX6_follow_87 : decode cX6_follow 87 = .ok (.iload_n 1, 1) := by decide +kernel
theorem dX6_follow_88 : decode cX6_follow 88 = .ok (.aload_n 0, 1) := by decide +kernel
theorem dX6_follow_89 : decode cX6_follow 89 = .ok (.getfield 64, 3) := by decide +kernel
theorem dX6_follow_92 : decode cX6_follow 92 = .ok (.if_icmp .ge 53, 3) := by decide +kernel
theorem dX6_follow_95 : decode cX6_follow 95 = .ok (.iconst 0, 1) := by decide +kernel
theorem dX6_follow_96 : decode cX6_follow 96 = .ok (.istore_n 2, 1) := by decide +kernel
theorem dX6_follow_97 : decode cX6_follow 97 = .ok (.iload_n 2, 1) := by decide +kernel
theorem dX6_follow_98 : decode cX6_follow 98 = .ok (.aload_n 0, 1) := by decide +kernel
theorem dX6_follow_99 : decode cX6_follow 99 = .ok (.getfield 64, 3) := by decide +kernel
theorem dX6_follow_102 : decode cX6_follow 102 = .ok (.if_icmp .ge 37, 3) := by decide +kernel
theorem dX6_follow_105 : decode cX6_follow 105 = .ok (.aload_n 0, 1) := by decide +kernel
theorem dX6_follow_106 : decode cX6_follow 106 = .ok (.getfield 44, 3) := by decide +kernel
theorem dX6_follow_109 : decode cX6_follow 109 = .ok (.iload_n 2, 1) := by decide +kernel
theorem dX6_follow_110 : decode cX6_follow 110 = .ok (.laload, 1) := by decide +kernel
theorem dX6_follow_111 : decode cX6_follow 111 = .ok (.iload_n 1, 1) := by decide +kernel
theorem dX6_follow_112 : decode cX6_follow 112 = .ok (.invokestatic 83, 3) := by decide +kernel
theorem dX6_follow_115 : decode cX6_follow 115 = .ok (.ifCond .eq 18, 3) := by decide +kernel
theorem dX6_follow_118 : decode cX6_follow 118 = .ok (.aload_n 0, 1) := by decide +kernel
theorem dX6_follow_119 : decode cX6_follow 119 = .ok (.getfield 44, 3) := by decide +kernel
theorem dX6_follow_122 : decode cX6_follow 122 = .ok (.iload_n 2, 1) := by decide +kernel
theorem dX6_follow_123 : decode cX6_follow 123 = .ok (.dup2, 1) := by decide +kernel
theorem dX6_follow_124 : decode cX6_follow 124 = .ok (.laload, 1) := by decide +kernel
theorem dX6_follow_125 : decode cX6_follow 125 = .ok (.aload_n 0, 1) := by decide +kernel
theorem dX6_follow_126 : decode cX6_follow 126 = .ok (.getfield 44, 3) := by decide +kernel
theorem dX6_follow_129 : decode cX6_follow 129 = .ok (.iload_n 1, 1) := by decide +kernel
theorem dX6_follow_130 : decode cX6_follow 130 = .ok (.laload, 1) := by decide +kernel
theorem dX6_follow_131 : decode cX6_follow 131 = .ok (.lor, 1) := by decide +kernel
theorem dX6_follow_132 : decode cX6_follow 132 = .ok (.lastore, 1) := by decide +kernel
theorem dX6_follow_133 : decode cX6_follow 133 = .ok (.iinc 2 1, 3) := by decide +kernel
theorem dX6_follow_136 : decode cX6_follow 136 = .ok (.goto (-39), 3) := by decide +kernel
theorem dX6_follow_139 : decode cX6_follow 139 = .ok (.iinc 1 1, 3) := by decide +kernel
theorem dX6_follow_142 : decode cX6_follow 142 = .ok (.goto (-55), 3) := by decide +kernel
theorem dX6_follow_145 : decode cX6_follow 145 = .ok (.iconst 0, 1) := by decide +kernel
theorem dX6_follow_146 : decode cX6_follow 146 = .ok (.istore_n 1, 1) := by decide +kernel
theorem dX6_follow_147 : decode cX6_follow 147 = .ok (.iload_n 1, 1) := by decide +kernel
theorem dX6_follow_148 : decode cX6_follow 148 = .ok (.aload_n 0, 1) := by decide +kernel
theorem dX6_follow_149 : decode cX6_follow 149 = .ok (.getfield 64, 3) := by decide +kernel
theorem dX6_follow_152 : decode cX6_follow 152 = .ok (.if_icmp .ge 24, 3) := by decide +kernel
theorem dX6_follow_155 : decode cX6_follow 155 = .ok (.aload_n 0, 1) := by decide +kernel
theorem dX6_follow_156 : decode cX6_follow 156 = .ok (.getfield 44, 3) := by decide +kernel
theorem dX6_follow_159 : decode cX6_follow 159 = .ok (.iload_n 1, 1) := by decide +kernel
theorem dX6_follow_160 : decode cX6_follow 160 = .ok (.laload, 1) := by decide +kernel
theorem dX6_follow_161 : decode cX6_follow 161 = .ok (.iload_n 1, 1) := by decide +kernel
theorem dX6_follow_162 : decode cX6_follow 162 = .ok (.invokestatic 83, 3) := by decide +kernel
theorem dX6_follow_165 : decode cX6_follow 165 = .ok (.ifCond .eq 5, 3) := by decide +kernel
theorem dX6_follow_168 : decode cX6_follow 168 = .ok (.iconst 0, 1) := by decide +kernel
theorem dX6_follow_169 : decode cX6_follow 169 = .ok (.ireturn, 1) := by decide +kernel
theorem dX6_follow_170 : decode cX6_follow 170 = .ok (.iinc 1 1, 3) := by decide +kernel
theorem dX6_follow_173 : decode cX6_follow 173 = .ok (.goto (-26), 3) := by decide +kernel
theorem dX6_follow_176 : decode cX6_follow 176 = .ok (.iconst 1, 1) := by decide +kernel
theorem dX6_follow_177 : decode cX6_follow 177 = .ok (.ireturn, 1) := by decide +kernel
theorem dX6_settle_0 : decode cX6_settle 0 = .ok (.aload_n 0, 1) := by decide +kernel
theorem dX6_settle_1 : decode cX6_settle 1 = .ok (.invokevirtual 87, 3) := by decide +kernel
theorem dX6_settle_4 : decode cX6_settle 4 = .ok (.pop, 1) := by decide +kernel
theorem dX6_settle_5 : decode cX6_settle 5 = .ok (.iconst 0, 1) := by decide +kernel
theorem dX6_settle_6 : decode cX6_settle 6 = .ok (.istore_n 1, 1) := by decide +kernel
theorem dX6_settle_7 : decode cX6_settle 7 = .ok (.iload_n 1, 1) := by decide +kernel
theorem dX6_settle_8 : decode cX6_settle 8 = .ok (.aload_n 0, 1) := by decide +kernel
theorem dX6_settle_9 : decode cX6_settle 9 = .ok (.getfield 64, 3) := by decide +kernel
theorem dX6_settle_12 : decode cX6_settle 12 = .ok (.if_icmp .ge 16, 3) := by decide +kernel
theorem dX6_settle_15 : decode cX6_settle 15 = .ok (.aload_n 0, 1) := by decide +kernel
theorem dX6_settle_16 : decode cX6_settle 16 = .ok (.getfield 48, 3) := by decide +kernel
theorem dX6_settle_19 : decode cX6_settle 19 = .ok (.iload_n 1, 1) := by decide +kernel
theorem dX6_settle_20 : decode cX6_settle 20 = .ok (.lconst 0, 1) := by decide +kernel
theorem dX6_settle_21 : decode cX6_settle 21 = .ok (.lastore, 1) := by decide +kernel
theorem dX6_settle_22 : decode cX6_settle 22 = .ok (.iinc 1 1, 3) := by decide +kernel
theorem dX6_settle_25 : decode cX6_settle 25 = .ok (.goto (-18), 3) := by decide +kernel
theorem dX6_settle_28 : decode cX6_settle 28 = .ok (.iconst 0, 1) := by decide +kernel
theorem dX6_settle_29 : decode cX6_settle 29 = .ok (.istore_n 1, 1) := by decide +kernel
theorem dX6_settle_30 : decode cX6_settle 30 = .ok (.iload_n 1, 1) := by decide +kernel
theorem dX6_settle_31 : decode cX6_settle 31 = .ok (.aload_n 0, 1) := by decide +kernel
theorem dX6_settle_32 : decode cX6_settle 32 = .ok (.getfield 64, 3) := by decide +kernel
theorem dX6_settle_35 : decode cX6_settle 35 = .ok (.if_icmp .ge 50, 3) := by decide +kernel
theorem dX6_settle_38 : decode cX6_settle 38 = .ok (.iconst 0, 1) := by decide +kernel
theorem dX6_settle_39 : decode cX6_settle 39 = .ok (.istore_n 2, 1) := by decide +kernel
theorem dX6_settle_40 : decode cX6_settle 40 = .ok (.iload_n 2, 1) := by decide +kernel
theorem dX6_settle_41 : decode cX6_settle 41 = .ok (.aload_n 0, 1) := by decide +kernel
theorem dX6_settle_42 : decode cX6_settle 42 = .ok (.getfield 64, 3) := by decide +kernel
theorem dX6_settle_45 : decode cX6_settle 45 = .ok (.if_icmp .ge 34, 3) := by decide +kernel
theorem dX6_settle_48 : decode cX6_settle 48 = .ok (.aload_n 0, 1) := by decide +kernel
theorem dX6_settle_49 : decode cX6_settle 49 = .ok (.getfield 44, 3) := by decide +kernel
theorem dX6_settle_52 : decode cX6_settle 52 = .ok (.iload_n 1, 1) := by decide +kernel
theorem dX6_settle_53 : decode cX6_settle 53 = .ok (.laload, 1) := by decide +kernel
theorem dX6_settle_54 : decode cX6_settle 54 = .ok (.iload_n 2, 1) := by decide +kernel
theorem dX6_settle_55 : decode cX6_settle 55 = .ok (.invokestatic 83, 3) := by decide +kernel
theorem dX6_settle_58 : decode cX6_settle 58 = .ok (.ifCond .eq 15, 3) := by decide +kernel
theorem dX6_settle_61 : decode cX6_settle 61 = .ok (.aload_n 0, 1) := by decide +kernel
theorem dX6_settle_62 : decode cX6_settle 62 = .ok (.getfield 48, 3) := by decide +kernel
theorem dX6_settle_65 : decode cX6_settle 65 = .ok (.iload_n 2, 1) := by decide +kernel
theorem dX6_settle_66 : decode cX6_settle 66 = .ok (.dup2, 1) := by decide +kernel
theorem dX6_settle_67 : decode cX6_settle 67 = .ok (.laload, 1) := by decide +kernel
theorem dX6_settle_68 : decode cX6_settle 68 = .ok (.lconst 1, 1) := by decide +kernel
theorem dX6_settle_69 : decode cX6_settle 69 = .ok (.iload_n 1, 1) := by decide +kernel
theorem dX6_settle_70 : decode cX6_settle 70 = .ok (.lshl, 1) := by decide +kernel
theorem dX6_settle_71 : decode cX6_settle 71 = .ok (.lor, 1) := by decide +kernel
theorem dX6_settle_72 : decode cX6_settle 72 = .ok (.lastore, 1) := by decide +kernel
theorem dX6_settle_73 : decode cX6_settle 73 = .ok (.iinc 2 1, 3) := by decide +kernel
theorem dX6_settle_76 : decode cX6_settle 76 = .ok (.goto (-36), 3) := by decide +kernel
theorem dX6_settle_79 : decode cX6_settle 79 = .ok (.iinc 1 1, 3) := by decide +kernel
theorem dX6_settle_82 : decode cX6_settle 82 = .ok (.goto (-52), 3) := by decide +kernel
theorem dX6_settle_85 : decode cX6_settle 85 = .ok (.iconst 0, 1) := by decide +kernel
theorem dX6_settle_86 : decode cX6_settle 86 = .ok (.istore_n 1, 1) := by decide +kernel
theorem dX6_settle_87 : decode cX6_settle 87 = .ok (.iload_n 1, 1) := by decide +kernel
theorem dX6_settle_88 : decode cX6_settle 88 = .ok (.aload_n 0, 1) := by decide +kernel
theorem dX6_settle_89 : decode cX6_settle 89 = .ok (.getfield 64, 3) := by decide +kernel
theorem dX6_settle_92 : decode cX6_settle 92 = .ok (.if_icmp .ge 69, 3) := by decide +kernel
theorem dX6_settle_95 : decode cX6_settle 95 = .ok (.aload_n 0, 1) := by decide +kernel
theorem dX6_settle_96 : decode cX6_settle 96 = .ok (.getfield 51, 3) := by decide +kernel
theorem dX6_settle_99 : decode cX6_settle 99 = .ok (.iload_n 1, 1) := by decide +kernel
theorem dX6_settle_100 : decode cX6_settle 100 = .ok (.aload_n 0, 1) := by decide +kernel
theorem dX6_settle_101 : decode cX6_settle 101 = .ok (.getfield 44, 3) := by decide +kernel
theorem dX6_settle_104 : decode cX6_settle 104 = .ok (.iload_n 1, 1) := by decide +kernel
theorem dX6_settle_105 : decode cX6_settle 105 = .ok (.laload, 1) := by decide +kernel
theorem dX6_settle_106 : decode cX6_settle 106 = .ok (.lastore, 1) := by decide +kernel
theorem dX6_settle_107 : decode cX6_settle 107 = .ok (.iconst 0, 1) := by decide +kernel
theorem dX6_settle_108 : decode cX6_settle 108 = .ok (.istore_n 2, 1) := by decide +kernel
theorem dX6_settle_109 : decode cX6_settle 109 = .ok (.iload_n 2, 1) := by decide +kernel
theorem dX6_settle_110 : decode cX6_settle 110 = .ok (.aload_n 0, 1) := by decide +kernel
theorem dX6_settle_111 : decode cX6_settle 111 = .ok (.getfield 64, 3) := by decide +kernel
theorem dX6_settle_114 : decode cX6_settle 114 = .ok (.if_icmp .ge 41, 3) := by decide +kernel
theorem dX6_settle_117 : decode cX6_settle 117 = .ok (.aload_n 0, 1) := by decide +kernel
theorem dX6_settle_118 : decode cX6_settle 118 = .ok (.getfield 44, 3) := by decide +kernel
theorem dX6_settle_121 : decode cX6_settle 121 = .ok (.iload_n 1, 1) := by decide +kernel
theorem dX6_settle_122 : decode cX6_settle 122 = .ok (.laload, 1) := by decide +kernel
theorem dX6_settle_123 : decode cX6_settle 123 = .ok (.iload_n 2, 1) := by decide +kernel
theorem dX6_settle_124 : decode cX6_settle 124 = .ok (.invokestatic 83, 3) := by decide +kernel
theorem dX6_settle_127 : decode cX6_settle 127 = .ok (.ifCond .eq 22, 3) := by decide +kernel
theorem dX6_settle_130 : decode cX6_settle 130 = .ok (.aload_n 0, 1) := by decide +kernel
theorem dX6_settle_131 : decode cX6_settle 131 = .ok (.getfield 51, 3) := by decide +kernel
theorem dX6_settle_134 : decode cX6_settle 134 = .ok (.iload_n 1, 1) := by decide +kernel
theorem dX6_settle_135 : decode cX6_settle 135 = .ok (.dup2, 1) := by decide +kernel
theorem dX6_settle_136 : decode cX6_settle 136 = .ok (.laload, 1) := by decide +kernel
theorem dX6_settle_137 : decode cX6_settle 137 = .ok (.aload_n 0, 1) := by decide +kernel
theorem dX6_settle_138 : decode cX6_settle 138 = .ok (.getfield 44, 3) := by decide +kernel
theorem dX6_settle_141 : decode cX6_settle 141 = .ok (.iload_n 2, 1) := by decide +kernel
theorem dX6_settle_142 : decode cX6_settle 142 = .ok (.laload, 1) := by decide +kernel
theorem dX6_settle_143 : decode cX6_settle 143 = .ok (.ldc2_w 91, 3) := by decide +kernel
theorem dX6_settle_146 : decode cX6_settle 146 = .ok (.lxor, 1) := by decide +kernel
theorem dX6_settle_147 : decode cX6_settle 147 = .ok (.land, 1) := by decide +kernel
theorem dX6_settle_148 : decode cX6_settle 148 = .ok (.lastore, 1) := by decide +kernel
theorem dX6_settle_149 : decode cX6_settle 149 = .ok (.iinc 2 1, 3) := by decide +kernel
theorem dX6_settle_152 : decode cX6_settle 152 = .ok (.goto (-43), 3) := by decide +kernel
theorem dX6_settle_155 : decode cX6_settle 155 = .ok (.iinc 1 1, 3) := by decide +kernel
theorem dX6_settle_158 : decode cX6_settle 158 = .ok (.goto (-71), 3) := by decide +kernel
theorem dX6_settle_161 : decode cX6_settle 161 = .ok (.aload_n 0, 1) := by decide +kernel
theorem dX6_settle_162 : decode cX6_settle 162 = .ok (.aload_n 0, 1) := by decide +kernel
theorem dX6_settle_163 : decode cX6_settle 163 = .ok (.getfield 54, 3) := by decide +kernel
theorem dX6_settle_166 : decode cX6_settle 166 = .ok (.aload_n 0, 1) := by decide +kernel
theorem dX6_settle_167 : decode cX6_settle 167 = .ok (.getfield 44, 3) := by decide +kernel
theorem dX6_settle_170 : decode cX6_settle 170 = .ok (.invokevirtual 93, 3) := by decide +kernel
theorem dX6_settle_173 : decode cX6_settle 173 = .ok (.aload_n 0, 1) := by decide +kernel
theorem dX6_settle_174 : decode cX6_settle 174 = .ok (.aload_n 0, 1) := by decide +kernel
theorem dX6_settle_175 : decode cX6_settle 175 = .ok (.getfield 57, 3) := by decide +kernel
theorem dX6_settle_178 : decode cX6_settle 178 = .ok (.aload_n 0, 1) := by decide +kernel
theorem dX6_settle_179 : decode cX6_settle 179 = .ok (.getfield 48, 3) := by decide +kernel
theorem dX6_settle_182 : decode cX6_settle 182 = .ok (.invokevirtual 93, 3) := by decide +kernel
theorem dX6_settle_185 : decode cX6_settle 185 = .ok (.return_, 1) := by decide +kernel
theorem dX6_rank_0 : decode cX6_rank 0 = .ok (.iconst 0, 1) := by decide +kernel
theorem dX6_rank_1 : decode cX6_rank 1 = .ok (.istore_n 3, 1) := by decide +kernel
theorem dX6_rank_2 : decode cX6_rank 2 = .ok (.iload_n 3, 1) := by decide +kernel
theorem dX6_rank_3 : decode cX6_rank 3 = .ok (.aload_n 0, 1) := by decide +kernel
theorem dX6_rank_4 : decode cX6_rank 4 = .ok (.getfield 64, 3) := by decide +kernel
theorem dX6_rank_7 : decode cX6_rank 7 = .ok (.if_icmp .ge 13, 3) := by decide +kernel
theorem dX6_rank_10 : decode cX6_rank 10 = .ok (.aload_n 1, 1) := by decide +kernel
theorem dX6_rank_11 : decode cX6_rank 11 = .ok (.iload_n 3, 1) := by decide +kernel
theorem dX6_rank_12 : decode cX6_rank 12 = .ok (.iconst 0, 1) := by decide +kernel
theorem dX6_rank_13 : decode cX6_rank 13 = .ok (.iastore, 1) := by decide +kernel
theorem dX6_rank_14 : decode cX6_rank 14 = .ok (.iinc 3 1, 3) := by decide +kernel
theorem dX6_rank_17 : decode cX6_rank 17 = .ok (.goto (-15), 3) := by decide +kernel
theorem dX6_rank_20 : decode cX6_rank 20 = .ok (.iconst 0, 1) := by decide +kernel
theorem dX6_rank_21 : decode cX6_rank 21 = .ok (.istore_n 3, 1) := by decide +kernel
theorem dX6_rank_22 : decode cX6_rank 22 = .ok (.iload_n 3, 1) := by decide +kernel
theorem dX6_rank_23 : decode cX6_rank 23 = .ok (.aload_n 0, 1) := by decide +kernel
theorem dX6_rank_24 : decode cX6_rank 24 = .ok (.getfield 64, 3) := by decide +kernel
theorem dX6_rank_27 : decode cX6_rank 27 = .ok (.if_icmp .ge 74, 3) := by decide +kernel
theorem dX6_rank_30 : decode cX6_rank 30 = .ok (.iconst 0, 1) := by decide +kernel
theorem dX6_rank_31 : decode cX6_rank 31 = .ok (.istore 4, 2) := by decide +kernel
theorem dX6_rank_33 : decode cX6_rank 33 = .ok (.iload 4, 2) := by decide +kernel
theorem dX6_rank_35 : decode cX6_rank 35 = .ok (.aload_n 0, 1) := by decide +kernel
theorem dX6_rank_36 : decode cX6_rank 36 = .ok (.getfield 64, 3) := by decide +kernel
theorem dX6_rank_39 : decode cX6_rank 39 = .ok (.if_icmp .ge 56, 3) := by decide +kernel
theorem dX6_rank_42 : decode cX6_rank 42 = .ok (.iconst 0, 1) := by decide +kernel
theorem dX6_rank_43 : decode cX6_rank 43 = .ok (.istore 5, 2) := by decide +kernel
theorem dX6_rank_45 : decode cX6_rank 45 = .ok (.iload 5, 2) := by decide +kernel
theorem dX6_rank_47 : decode cX6_rank 47 = .ok (.aload_n 0, 1) := by decide +kernel
theorem dX6_rank_48 : decode cX6_rank 48 = .ok (.getfield 64, 3) := by decide +kernel
theorem dX6_rank_51 : decode cX6_rank 51 = .ok (.if_icmp .ge 38, 3) := by decide +kernel
theorem dX6_rank_54 : decode cX6_rank 54 = .ok (.aload_n 2, 1) := by decide +kernel
theorem dX6_rank_55 : decode cX6_rank 55 = .ok (.iload 4, 2) := by decide +kernel
theorem dX6_rank_57 : decode cX6_rank 57 = .ok (.laload, 1) := by decide +kernel
theorem dX6_rank_58 : decode cX6_rank 58 = .ok (.iload 5, 2) := by decide +kernel
theorem dX6_rank_60 : decode cX6_rank 60 = .ok (.invokestatic 83, 3) := by decide +kernel
theorem dX6_rank_63 : decode cX6_rank 63 = .ok (.ifCond .eq 20, 3) := by decide +kernel
theorem dX6_rank_66 : decode cX6_rank 66 = .ok (.aload_n 1, 1) := by decide +kernel
theorem dX6_rank_67 : decode cX6_rank 67 = .ok (.iload 4, 2) := by decide +kernel
theorem dX6_rank_69 : decode cX6_rank 69 = .ok (.aload_n 1, 1) := by decide +kernel
theorem dX6_rank_70 : decode cX6_rank 70 = .ok (.iload 4, 2) := by decide +kernel
theorem dX6_rank_72 : decode cX6_rank 72 = .ok (.iaload, 1) := by decide +kernel
theorem dX6_rank_73 : decode cX6_rank 73 = .ok (.aload_n 1, 1) := by decide +kernel
theorem dX6_rank_74 : decode cX6_rank 74 = .ok (.iload 5, 2) := by decide +kernel
theorem dX6_rank_76 : decode cX6_rank 76 = .ok (.iaload, 1) := by decide +kernel
theorem dX6_rank_77 : decode cX6_rank 77 = .ok (.iconst 1, 1) := by decide +kernel
theorem dX6_rank_78 : decode cX6_rank 78 = .ok (.iadd, 1) := by decide +kernel
theorem dX6_rank_79 : decode cX6_rank 79 = .ok (.invokestatic 97, 3) := by decide +kernel
theorem dX6_rank_82 : decode cX6_rank 82 = .ok (.iastore, 1) := by decide +kernel
theorem dX6_rank_83 : decode cX6_rank 83 = .ok (.iinc 5 1, 3) := by decide +kernel
theorem dX6_rank_86 : decode cX6_rank 86 = .ok (.goto (-41), 3) := by decide +kernel
theorem dX6_rank_89 : decode cX6_rank 89 = .ok (.iinc 4 1, 3) := by decide +kernel
theorem dX6_rank_92 : decode cX6_rank 92 = .ok (.goto (-59), 3) := by decide +kernel
theorem dX6_rank_95 : decode cX6_rank 95 = .ok (.iinc 3 1, 3) := by decide +kernel
theorem dX6_rank_98 : decode cX6_rank 98 = .ok (.goto (-76), 3) := by decide +kernel
theorem dX6_rank_101 : decode cX6_rank 101 = .ok (.return_, 1) := by decide +kernel
theorem dX6_addUnit_0 : decode cX6_addUnit 0 = .ok (.aload_n 0, 1) := by decide +kernel
theorem dX6_addUnit_1 : decode cX6_addUnit 1 = .ok (.iconst 0, 1) := by decide +kernel
theorem dX6_addUnit_2 : decode cX6_addUnit 2 = .ok (.putfield 60, 3) := by decide +kernel
theorem dX6_addUnit_5 : decode cX6_addUnit 5 = .ok (.iload_n 1, 1) := by decide +kernel
theorem dX6_addUnit_6 : decode cX6_addUnit 6 = .ok (.iconst 0, 1) := by decide +kernel
theorem dX6_addUnit_7 : decode cX6_addUnit 7 = .ok (.iconst 3, 1) := by decide +kernel
theorem dX6_addUnit_8 : decode cX6_addUnit 8 = .ok (.invokestatic 67, 3) := by decide +kernel
theorem dX6_addUnit_11 : decode cX6_addUnit 11 = .ok (.ifCond .ne 9, 3) := by decide +kernel
theorem dX6_addUnit_14 : decode cX6_addUnit 14 = .ok (.aload_n 0, 1) := by decide +kernel
theorem dX6_addUnit_15 : decode cX6_addUnit 15 = .ok (.iconst 1, 1) := by decide +kernel
theorem dX6_addUnit_16 : decode cX6_addUnit 16 = .ok (.invokevirtual 100, 3) := by decide +kernel
theorem dX6_addUnit_19 : decode cX6_addUnit 19 = .ok (.ireturn, 1) := by decide +kernel
theorem dX6_addUnit_20 : decode cX6_addUnit 20 = .ok (.aload_n 0, 1) := by decide +kernel
theorem dX6_addUnit_21 : decode cX6_addUnit 21 = .ok (.getfield 64, 3) := by decide +kernel
theorem dX6_addUnit_24 : decode cX6_addUnit 24 = .ok (.bipush 40, 2) := by decide +kernel
theorem dX6_addUnit_26 : decode cX6_addUnit 26 = .ok (.if_icmp .ne 9, 3) := by decide +kernel
theorem dX6_addUnit_29 : decode cX6_addUnit 29 = .ok (.aload_n 0, 1) := by decide +kernel
theorem dX6_addUnit_30 : decode cX6_addUnit 30 = .ok (.iconst 2, 1) := by decide +kernel
theorem dX6_addUnit_31 : decode cX6_addUnit 31 = .ok (.invokevirtual 100, 3) := by decide +kernel
theorem dX6_addUnit_34 : decode cX6_addUnit 34 = .ok (.ireturn, 1) := by decide +kernel
theorem dX6_addUnit_35 : decode cX6_addUnit 35 = .ok (.aload_n 0, 1) := by decide +kernel
theorem dX6_addUnit_36 : decode cX6_addUnit 36 = .ok (.getfield 9, 3) := by decide +kernel
theorem dX6_addUnit_39 : decode cX6_addUnit 39 = .ok (.aload_n 0, 1) := by decide +kernel
theorem dX6_addUnit_40 : decode cX6_addUnit 40 = .ok (.getfield 64, 3) := by decide +kernel
theorem dX6_addUnit_43 : decode cX6_addUnit 43 = .ok (.iload_n 1, 1) := by decide +kernel
theorem dX6_addUnit_44 : decode cX6_addUnit 44 = .ok (.iastore, 1) := by decide +kernel
theorem dX6_addUnit_45 : decode cX6_addUnit 45 = .ok (.aload_n 0, 1) := by decide +kernel
theorem dX6_addUnit_46 : decode cX6_addUnit 46 = .ok (.dup, 1) := by decide +kernel
theorem dX6_addUnit_47 : decode cX6_addUnit 47 = .ok (.getfield 64, 3) := by decide +kernel
theorem dX6_addUnit_50 : decode cX6_addUnit 50 = .ok (.iconst 1, 1) := by decide +kernel
theorem dX6_addUnit_51 : decode cX6_addUnit 51 = .ok (.iadd, 1) := by decide +kernel
theorem dX6_addUnit_52 : decode cX6_addUnit 52 = .ok (.putfield 64, 3) := by decide +kernel
theorem dX6_addUnit_55 : decode cX6_addUnit 55 = .ok (.aload_n 0, 1) := by decide +kernel
theorem dX6_addUnit_56 : decode cX6_addUnit 56 = .ok (.invokevirtual 104, 3) := by decide +kernel
theorem dX6_addUnit_59 : decode cX6_addUnit 59 = .ok (.aload_n 0, 1) := by decide +kernel
theorem dX6_addUnit_60 : decode cX6_addUnit 60 = .ok (.getfield 64, 3) := by decide +kernel
theorem dX6_addUnit_63 : decode cX6_addUnit 63 = .ok (.iconst 1, 1) := by decide +kernel
theorem dX6_addUnit_64 : decode cX6_addUnit 64 = .ok (.isub, 1) := by decide +kernel
theorem dX6_addUnit_65 : decode cX6_addUnit 65 = .ok (.ireturn, 1) := by decide +kernel
theorem dX6_areSorts_0 : decode cX6_areSorts 0 = .ok (.iload_n 1, 1) := by decide +kernel
theorem dX6_areSorts_1 : decode cX6_areSorts 1 = .ok (.ifCond .ne 5, 3) := by decide +kernel
theorem dX6_areSorts_4 : decode cX6_areSorts 4 = .ok (.iconst 1, 1) := by decide +kernel
theorem dX6_areSorts_5 : decode cX6_areSorts 5 = .ok (.ireturn, 1) := by decide +kernel
theorem dX6_areSorts_6 : decode cX6_areSorts 6 = .ok (.iload_n 1, 1) := by decide +kernel
theorem dX6_areSorts_7 : decode cX6_areSorts 7 = .ok (.iconst 1, 1) := by decide +kernel
theorem dX6_areSorts_8 : decode cX6_areSorts 8 = .ok (.if_icmp .ne 19, 3) := by decide +kernel
theorem dX6_areSorts_11 : decode cX6_areSorts 11 = .ok (.aload_n 0, 1) := by decide +kernel
theorem dX6_areSorts_12 : decode cX6_areSorts 12 = .ok (.getfield 9, 3) := by decide +kernel
theorem dX6_areSorts_15 : decode cX6_areSorts 15 = .ok (.iload_n 2, 1) := by decide +kernel
theorem dX6_areSorts_16 : decode cX6_areSorts 16 = .ok (.iaload, 1) := by decide +kernel
theorem dX6_areSorts_17 : decode cX6_areSorts 17 = .ok (.iconst 1, 1) := by decide +kernel
theorem dX6_areSorts_18 : decode cX6_areSorts 18 = .ok (.if_icmp .ne 7, 3) := by decide +kernel
theorem dX6_areSorts_21 : decode cX6_areSorts 21 = .ok (.iconst 1, 1) := by decide +kernel
theorem dX6_areSorts_22 : decode cX6_areSorts 22 = .ok (.goto 4, 3) := by decide +kernel
theorem dX6_areSorts_25 : decode cX6_areSorts 25 = .ok (.iconst 0, 1) := by decide +kernel
theorem dX6_areSorts_26 : decode cX6_areSorts 26 = .ok (.ireturn, 1) := by decide +kernel
theorem dX6_areSorts_27 : decode cX6_areSorts 27 = .ok (.iload_n 1, 1) := by decide +kernel
theorem dX6_areSorts_28 : decode cX6_areSorts 28 = .ok (.iconst 2, 1) := by decide +kernel
theorem dX6_areSorts_29 : decode cX6_areSorts 29 = .ok (.if_icmp .ne 29, 3) := by decide +kernel
theorem dX6_areSorts_32 : decode cX6_areSorts 32 = .ok (.aload_n 0, 1) := by decide +kernel
theorem dX6_areSorts_33 : decode cX6_areSorts 33 = .ok (.getfield 9, 3) := by decide +kernel
theorem dX6_areSorts_36 : decode cX6_areSorts 36 = .ok (.iload_n 2, 1) := by decide +kernel
theorem dX6_areSorts_37 : decode cX6_areSorts 37 = .ok (.iaload, 1) := by decide +kernel
theorem dX6_areSorts_38 : decode cX6_areSorts 38 = .ok (.iconst 2, 1) := by decide +kernel
theorem dX6_areSorts_39 : decode cX6_areSorts 39 = .ok (.if_icmp .ne 17, 3) := by decide +kernel
theorem dX6_areSorts_42 : decode cX6_areSorts 42 = .ok (.aload_n 0, 1) := by decide +kernel
theorem dX6_areSorts_43 : decode cX6_areSorts 43 = .ok (.getfield 9, 3) := by decide +kernel
theorem dX6_areSorts_46 : decode cX6_areSorts 46 = .ok (.iload_n 3, 1) := by decide +kernel
theorem dX6_areSorts_47 : decode cX6_areSorts 47 = .ok (.iaload, 1) := by decide +kernel
theorem dX6_areSorts_48 : decode cX6_areSorts 48 = .ok (.iconst 1, 1) := by decide +kernel
theorem dX6_areSorts_49 : decode cX6_areSorts 49 = .ok (.if_icmp .ne 7, 3) := by decide +kernel
theorem dX6_areSorts_52 : decode cX6_areSorts 52 = .ok (.iconst 1, 1) := by decide +kernel
theorem dX6_areSorts_53 : decode cX6_areSorts 53 = .ok (.goto 4, 3) := by decide +kernel
theorem dX6_areSorts_56 : decode cX6_areSorts 56 = .ok (.iconst 0, 1) := by decide +kernel
theorem dX6_areSorts_57 : decode cX6_areSorts 57 = .ok (.ireturn, 1) := by decide +kernel
theorem dX6_areSorts_58 : decode cX6_areSorts 58 = .ok (.iload_n 1, 1) := by decide +kernel
theorem dX6_areSorts_59 : decode cX6_areSorts 59 = .ok (.iconst 4, 1) := by decide +kernel
theorem dX6_areSorts_60 : decode cX6_areSorts 60 = .ok (.if_icmp .ne 26, 3) := by decide +kernel
theorem dX6_areSorts_63 : decode cX6_areSorts 63 = .ok (.aload_n 0, 1) := by decide +kernel
theorem dX6_areSorts_64 : decode cX6_areSorts 64 = .ok (.getfield 9, 3) := by decide +kernel
theorem dX6_areSorts_67 : decode cX6_areSorts 67 = .ok (.iload_n 2, 1) := by decide +kernel
theorem dX6_areSorts_68 : decode cX6_areSorts 68 = .ok (.iaload, 1) := by decide +kernel
theorem dX6_areSorts_69 : decode cX6_areSorts 69 = .ok (.aload_n 0, 1) := by decide +kernel
theorem dX6_areSorts_70 : decode cX6_areSorts 70 = .ok (.getfield 9, 3) := by decide +kernel
theorem dX6_areSorts_73 : decode cX6_areSorts 73 = .ok (.iload_n 3, 1) := by decide +kernel
theorem dX6_areSorts_74 : decode cX6_areSorts 74 = .ok (.iaload, 1) := by decide +kernel
theorem dX6_areSorts_75 : decode cX6_areSorts 75 = .ok (.if_icmp .ne 7, 3) := by decide +kernel
theorem dX6_areSorts_78 : decode cX6_areSorts 78 = .ok (.iconst 1, 1) := by decide +kernel
theorem dX6_areSorts_79 : decode cX6_areSorts 79 = .ok (.goto 22, 3) := by decide +kernel
theorem dX6_areSorts_82 : decode cX6_areSorts 82 = .ok (.iconst 0, 1) := by decide +kernel
theorem dX6_areSorts_83 : decode cX6_areSorts 83 = .ok (.goto 18, 3) := by decide +kernel
theorem dX6_areSorts_86 : decode cX6_areSorts 86 = .ok (.aload_n 0, 1) := by decide +kernel
theorem dX6_areSorts_87 : decode cX6_areSorts 87 = .ok (.getfield 9, 3) := by decide +kernel
theorem dX6_areSorts_90 : decode cX6_areSorts 90 = .ok (.iload_n 2, 1) := by decide +kernel
theorem dX6_areSorts_91 : decode cX6_areSorts 91 = .ok (.iaload, 1) := by decide +kernel
theorem dX6_areSorts_92 : decode cX6_areSorts 92 = .ok (.iconst 3, 1) := by decide +kernel
theorem dX6_areSorts_93 : decode cX6_areSorts 93 = .ok (.if_icmp .ne 7, 3) := by decide +kernel
theorem dX6_areSorts_96 : decode cX6_areSorts 96 = .ok (.iconst 1, 1) := by decide +kernel
theorem dX6_areSorts_97 : decode cX6_areSorts 97 = .ok (.goto 4, 3) := by decide +kernel
theorem dX6_areSorts_100 : decode cX6_areSorts 100 = .ok (.iconst 0, 1) := by decide +kernel
theorem dX6_areSorts_101 : decode cX6_areSorts 101 = .ok (.ireturn, 1) := by decide +kernel
theorem dX6_isTold_0 : decode cX6_isTold 0 = .ok (.iconst 0, 1) := by decide +kernel
theorem dX6_isTold_1 : decode cX6_isTold 1 = .ok (.istore 4, 2) := by decide +kernel
theorem dX6_isTold_3 : decode cX6_isTold 3 = .ok (.iload 4, 2) := by decide +kernel
theorem dX6_isTold_5 : decode cX6_isTold 5 = .ok (.aload_n 0, 1) := by decide +kernel
theorem dX6_isTold_6 : decode cX6_isTold 6 = .ok (.getfield 71, 3) := by decide +kernel
theorem dX6_isTold_9 : decode cX6_isTold 9 = .ok (.if_icmp .ge 74, 3) := by decide +kernel
theorem dX6_isTold_12 : decode cX6_isTold 12 = .ok (.aload_n 0, 1) := by decide +kernel
theorem dX6_isTold_13 : decode cX6_isTold 13 = .ok (.getfield 29, 3) := by decide +kernel
theorem dX6_isTold_16 : decode cX6_isTold 16 = .ok (.iload 4, 2) := by decide +kernel
theorem dX6_isTold_18 : decode cX6_isTold 18 = .ok (.iaload, 1) := by decide +kernel
theorem dX6_isTold_19 : decode cX6_isTold 19 = .ok (.iload_n 1, 1) := by decide +kernel
theorem dX6_isTold_20 : decode cX6_isTold 20 = .ok (.if_icmp .eq 6, 3) := by decide +kernel
theorem dX6_isTold_23 : decode cX6_isTold 23 = .ok (.goto 54, 3) := by decide +kernel
theorem dX6_isTold_26 : decode cX6_isTold 26 = .ok (.aload_n 0, 1) := by decide +kernel
theorem dX6_isTold_27 : decode cX6_isTold 27 = .ok (.getfield 32, 3) := by decide +kernel
theorem dX6_isTold_30 : decode cX6_isTold 30 = .ok (.iload 4, 2) := by decide +kernel
theorem dX6_isTold_32 : decode cX6_isTold 32 = .ok (.iaload, 1) := by decide +kernel
theorem dX6_isTold_33 : decode cX6_isTold 33 = .ok (.iload_n 2, 1) := by decide +kernel
theorem dX6_isTold_34 : decode cX6_isTold 34 = .ok (.if_icmp .ne 14, 3) := by decide +kernel
theorem dX6_isTold_37 : decode cX6_isTold 37 = .ok (.aload_n 0, 1) := by decide +kernel
theorem dX6_isTold_38 : decode cX6_isTold 38 = .ok (.getfield 35, 3) := by decide +kernel
theorem dX6_isTold_41 : decode cX6_isTold 41 = .ok (.iload 4, 2) := by decide +kernel
theorem dX6_isTold_43 : decode cX6_isTold 43 = .ok (.iaload, 1) := by decide +kernel
theorem dX6_isTold_44 : decode cX6_isTold 44 = .ok (.iload_n 3, 1) := by decide +kernel
theorem dX6_isTold_45 : decode cX6_isTold 45 = .ok (.if_icmp .eq 30, 3) := by decide +kernel
theorem dX6_isTold_48 : decode cX6_isTold 48 = .ok (.iload_n 1, 1) := by decide +kernel
theorem dX6_isTold_49 : decode cX6_isTold 49 = .ok (.iconst 4, 1) := by decide +kernel
theorem dX6_isTold_50 : decode cX6_isTold 50 = .ok (.if_icmp .ne 27, 3) := by decide +kernel
theorem dX6_isTold_53 : decode cX6_isTold 53 = .ok (.aload_n 0, 1) := by decide +kernel
theorem dX6_isTold_54 : decode cX6_isTold 54 = .ok (.getfield 32, 3) := by decide +kernel
theorem dX6_isTold_57 : decode cX6_isTold 57 = .ok (.iload 4, 2) := by decide +kernel
theorem dX6_isTold_59 : decode cX6_isTold 59 = .ok (.iaload, 1) := by decide +kernel
theorem dX6_isTold_60 : decode cX6_isTold 60 = .ok (.iload_n 3, 1) := by decide +kernel
theorem dX6_isTold_61 : decode cX6_isTold 61 = .ok (.if_icmp .ne 16, 3) := by decide +kernel
theorem dX6_isTold_64 : decode cX6_isTold 64 = .ok (.aload_n 0, 1) := by decide +kernel
theorem dX6_isTold_65 : decode cX6_isTold 65 = .ok (.getfield 35, 3) := by decide +kernel
theorem dX6_isTold_68 : decode cX6_isTold 68 = .ok (.iload 4, 2) := by decide +kernel
theorem dX6_isTold_70 : decode cX6_isTold 70 = .ok (.iaload, 1) := by decide +kernel
theorem dX6_isTold_71 : decode cX6_isTold 71 = .ok (.iload_n 2, 1) := by decide +kernel
theorem dX6_isTold_72 : decode cX6_isTold 72 = .ok (.if_icmp .ne 5, 3) := by decide +kernel
theorem dX6_isTold_75 : decode cX6_isTold 75 = .ok (.iconst 1, 1) := by decide +kernel
theorem dX6_isTold_76 : decode cX6_isTold 76 = .ok (.ireturn, 1) := by decide +kernel
theorem dX6_isTold_77 : decode cX6_isTold 77 = .ok (.iinc 4 1, 3) := by decide +kernel
theorem dX6_isTold_80 : decode cX6_isTold 80 = .ok (.goto (-77), 3) := by decide +kernel
theorem dX6_isTold_83 : decode cX6_isTold 83 = .ok (.iconst 0, 1) := by decide +kernel
theorem dX6_isTold_84 : decode cX6_isTold 84 = .ok (.ireturn, 1) := by decide +kernel
theorem dX6_relate_0 : decode cX6_relate 0 = .ok (.aload_n 0, 1) := by decide +kernel
theorem dX6_relate_1 : decode cX6_relate 1 = .ok (.iconst 0, 1) := by decide +kernel
theorem dX6_relate_2 : decode cX6_relate 2 = .ok (.putfield 60, 3) := by decide +kernel
theorem dX6_relate_5 : decode cX6_relate 5 = .ok (.iload_n 1, 1) := by decide +kernel
theorem dX6_relate_6 : decode cX6_relate 6 = .ok (.iconst 0, 1) := by decide +kernel
theorem dX6_relate_7 : decode cX6_relate 7 = .ok (.iconst 4, 1) := by decide +kernel
theorem dX6_relate_8 : decode cX6_relate 8 = .ok (.invokestatic 67, 3) := by decide +kernel
theorem dX6_relate_11 : decode cX6_relate 11 = .ok (.ifCond .ne 9, 3) := by decide +kernel
theorem dX6_relate_14 : decode cX6_relate 14 = .ok (.aload_n 0, 1) := by decide +kernel
theorem dX6_relate_15 : decode cX6_relate 15 = .ok (.iconst 1, 1) := by decide +kernel
theorem dX6_relate_16 : decode cX6_relate 16 = .ok (.invokevirtual 100, 3) := by decide +kernel
theorem dX6_relate_19 : decode cX6_relate 19 = .ok (.ireturn, 1) := by decide +kernel
theorem dX6_relate_20 : decode cX6_relate 20 = .ok (.aload_n 0, 1) := by decide +kernel
theorem dX6_relate_21 : decode cX6_relate 21 = .ok (.iload_n 2, 1) := by decide +kernel
theorem dX6_relate_22 : decode cX6_relate 22 = .ok (.invokevirtual 107, 3) := by decide +kernel
theorem dX6_relate_25 : decode cX6_relate 25 = .ok (.ifCond .eq 11, 3) := by decide +kernel
theorem dX6_relate_28 : decode cX6_relate 28 = .ok (.aload_n 0, 1) := by decide +kernel
theorem dX6_relate_29 : decode cX6_relate 29 = .ok (.iload_n 3, 1) := by decide +kernel
theorem dX6_relate_30 : decode cX6_relate 30 = .ok (.invokevirtual 107, 3) := by decide +kernel
theorem dX6_relate_33 : decode cX6_relate 33 = .ok (.ifCond .ne 9, 3) := by decide +kernel
theorem dX6_relate_36 : decode cX6_relate 36 = .ok (.aload_n 0, 1) := by decide +kernel
theorem dX6_relate_37 : decode cX6_relate 37 = .ok (.iconst 2, 1) := by decide +kernel
theorem dX6_relate_38 : decode cX6_relate 38 = .ok (.invokevirtual 100, 3) := by decide +kernel
theorem dX6_relate_41 : decode cX6_relate 41 = .ok (.ireturn, 1) := by decide +kernel
theorem dX6_relate_42 : decode cX6_relate 42 = .ok (.aload_n 0, 1) := by decide +kernel
theorem dX6_relate_43 : decode cX6_relate 43 = .ok (.getfield 71, 3) := by decide +kernel
theorem dX6_relate_46 : decode cX6_relate 46 = .ok (.bipush 80, 2) := by decide +kernel
theorem dX6_relate_48 : decode cX6_relate 48 = .ok (.if_icmp .ne 9, 3) := by decide +kernel
theorem dX6_relate_51 : decode cX6_relate 51 = .ok (.aload_n 0, 1) := by decide +kernel
theorem dX6_relate_52 : decode cX6_relate 52 = .ok (.iconst 3, 1) := by decide +kernel
theorem dX6_relate_53 : decode cX6_relate 53 = .ok (.invokevirtual 100, 3) := by decide +kernel
theorem dX6_relate_56 : decode cX6_relate 56 = .ok (.ireturn, 1) := by decide +kernel
theorem dX6_relate_57 : decode cX6_relate 57 = .ok (.iload_n 2, 1) := by decide +kernel
theorem dX6_relate_58 : decode cX6_relate 58 = .ok (.iload_n 3, 1) := by decide +kernel
theorem dX6_relate_59 : decode cX6_relate 59 = .ok (.if_icmp .ne 5, 3) := by decide +kernel
theorem dX6_relate_62 : decode cX6_relate 62 = .ok (.iconst 1, 1) := by decide +kernel
theorem dX6_relate_63 : decode cX6_relate 63 = .ok (.ireturn, 1) := by decide +kernel
theorem dX6_relate_64 : decode cX6_relate 64 = .ok (.aload_n 0, 1) := by decide +kernel
theorem dX6_relate_65 : decode cX6_relate 65 = .ok (.iload_n 1, 1) := by decide +kernel
theorem dX6_relate_66 : decode cX6_relate 66 = .ok (.iload_n 2, 1) := by decide +kernel
theorem dX6_relate_67 : decode cX6_relate 67 = .ok (.iload_n 3, 1) := by decide +kernel
theorem dX6_relate_68 : decode cX6_relate 68 = .ok (.invokevirtual 111, 3) := by decide +kernel
theorem dX6_relate_71 : decode cX6_relate 71 = .ok (.ifCond .ne 5, 3) := by decide +kernel
theorem dX6_relate_74 : decode cX6_relate 74 = .ok (.iconst 2, 1) := by decide +kernel
theorem dX6_relate_75 : decode cX6_relate 75 = .ok (.ireturn, 1) := by decide +kernel
theorem dX6_relate_76 : decode cX6_relate 76 = .ok (.aload_n 0, 1) := by decide +kernel
theorem dX6_relate_77 : decode cX6_relate 77 = .ok (.iload_n 1, 1) := by decide +kernel
theorem dX6_relate_78 : decode cX6_relate 78 = .ok (.iload_n 2, 1) := by decide +kernel
theorem dX6_relate_79 : decode cX6_relate 79 = .ok (.iload_n 3, 1) := by decide +kernel
theorem dX6_relate_80 : decode cX6_relate 80 = .ok (.invokevirtual 114, 3) := by decide +kernel
theorem dX6_relate_83 : decode cX6_relate 83 = .ok (.ifCond .eq 5, 3) := by decide +kernel
theorem dX6_relate_86 : decode cX6_relate 86 = .ok (.iconst 3, 1) := by decide +kernel
theorem dX6_relate_87 : decode cX6_relate 87 = .ok (.ireturn, 1) := by decide +kernel
theorem dX6_relate_88 : decode cX6_relate 88 = .ok (.aload_n 0, 1) := by decide +kernel
theorem dX6_relate_89 : decode cX6_relate 89 = .ok (.getfield 29, 3) := by decide +kernel
theorem dX6_relate_92 : decode cX6_relate 92 = .ok (.aload_n 0, 1) := by decide +kernel
theorem dX6_relate_93 : decode cX6_relate 93 = .ok (.getfield 71, 3) := by decide +kernel
theorem dX6_relate_96 : decode cX6_relate 96 = .ok (.iload_n 1, 1) := by decide +kernel
theorem dX6_relate_97 : decode cX6_relate 97 = .ok (.iastore, 1) := by decide +kernel
theorem dX6_relate_98 : decode cX6_relate 98 = .ok (.aload_n 0, 1) := by decide +kernel
theorem dX6_relate_99 : decode cX6_relate 99 = .ok (.getfield 32, 3) := by decide +kernel
theorem dX6_relate_102 : decode cX6_relate 102 = .ok (.aload_n 0, 1) := by decide +kernel
theorem dX6_relate_103 : decode cX6_relate 103 = .ok (.getfield 71, 3) := by decide +kernel
theorem dX6_relate_106 : decode cX6_relate 106 = .ok (.iload_n 2, 1) := by decide +kernel
theorem dX6_relate_107 : decode cX6_relate 107 = .ok (.iastore, 1) := by decide +kernel
theorem dX6_relate_108 : decode cX6_relate 108 = .ok (.aload_n 0, 1) := by decide +kernel
theorem dX6_relate_109 : decode cX6_relate 109 = .ok (.getfield 35, 3) := by decide +kernel
theorem dX6_relate_112 : decode cX6_relate 112 = .ok (.aload_n 0, 1) := by decide +kernel
theorem dX6_relate_113 : decode cX6_relate 113 = .ok (.getfield 71, 3) := by decide +kernel
theorem dX6_relate_116 : decode cX6_relate 116 = .ok (.iload_n 3, 1) := by decide +kernel
theorem dX6_relate_117 : decode cX6_relate 117 = .ok (.iastore, 1) := by decide +kernel
theorem dX6_relate_118 : decode cX6_relate 118 = .ok (.aload_n 0, 1) := by decide +kernel
theorem dX6_relate_119 : decode cX6_relate 119 = .ok (.dup, 1) := by decide +kernel
theorem dX6_relate_120 : decode cX6_relate 120 = .ok (.getfield 71, 3) := by decide +kernel
theorem dX6_relate_123 : decode cX6_relate 123 = .ok (.iconst 1, 1) := by decide +kernel
theorem dX6_relate_124 : decode cX6_relate 124 = .ok (.iadd, 1) := by decide +kernel
theorem dX6_relate_125 : decode cX6_relate 125 = .ok (.putfield 71, 3) := by decide +kernel
theorem dX6_relate_128 : decode cX6_relate 128 = .ok (.aload_n 0, 1) := by decide +kernel
theorem dX6_relate_129 : decode cX6_relate 129 = .ok (.invokevirtual 87, 3) := by decide +kernel
theorem dX6_relate_132 : decode cX6_relate 132 = .ok (.istore 4, 2) := by decide +kernel
theorem dX6_relate_134 : decode cX6_relate 134 = .ok (.iload 4, 2) := by decide +kernel
theorem dX6_relate_136 : decode cX6_relate 136 = .ok (.ifCond .ne 13, 3) := by decide +kernel
theorem dX6_relate_139 : decode cX6_relate 139 = .ok (.aload_n 0, 1) := by decide +kernel
theorem dX6_relate_140 : decode cX6_relate 140 = .ok (.dup, 1) := by decide +kernel
theorem dX6_relate_141 : decode cX6_relate 141 = .ok (.getfield 71, 3) := by decide +kernel
theorem dX6_relate_144 : decode cX6_relate 144 = .ok (.iconst 1, 1) := by decide +kernel
theorem dX6_relate_145 : decode cX6_relate 145 = .ok (.isub, 1) := by decide +kernel
theorem dX6_relate_146 : decode cX6_relate 146 = .ok (.putfield 71, 3) := by decide +kernel
theorem dX6_relate_149 : decode cX6_relate 149 = .ok (.aload_n 0, 1) := by decide +kernel
theorem dX6_relate_150 : decode cX6_relate 150 = .ok (.invokevirtual 104, 3) := by decide +kernel
theorem dX6_relate_153 : decode cX6_relate 153 = .ok (.iload 4, 2) := by decide +kernel
theorem dX6_relate_155 : decode cX6_relate 155 = .ok (.ifCond .eq 7, 3) := by decide +kernel
theorem dX6_relate_158 : decode cX6_relate 158 = .ok (.iconst 0, 1) := by decide +kernel
theorem dX6_relate_159 : decode cX6_relate 159 = .ok (.goto 4, 3) := by decide +kernel
theorem dX6_relate_162 : decode cX6_relate 162 = .ok (.iconst 4, 1) := by decide +kernel
theorem dX6_relate_163 : decode cX6_relate 163 = .ok (.ireturn, 1) := by decide +kernel
theorem dX6_takeBack_0 : decode cX6_takeBack 0 = .ok (.aload_n 0, 1) := by decide +kernel
theorem dX6_takeBack_1 : decode cX6_takeBack 1 = .ok (.iconst 0, 1) := by decide +kernel
theorem dX6_takeBack_2 : decode cX6_takeBack 2 = .ok (.putfield 60, 3) := by decide +kernel
theorem dX6_takeBack_5 : decode cX6_takeBack 5 = .ok (.iload_n 1, 1) := by decide +kernel
theorem dX6_takeBack_6 : decode cX6_takeBack 6 = .ok (.iconst 0, 1) := by decide +kernel
theorem dX6_takeBack_7 : decode cX6_takeBack 7 = .ok (.aload_n 0, 1) := by decide +kernel
theorem dX6_takeBack_8 : decode cX6_takeBack 8 = .ok (.getfield 71, 3) := by decide +kernel
theorem dX6_takeBack_11 : decode cX6_takeBack 11 = .ok (.iconst 1, 1) := by decide +kernel
theorem dX6_takeBack_12 : decode cX6_takeBack 12 = .ok (.isub, 1) := by decide +kernel
theorem dX6_takeBack_13 : decode cX6_takeBack 13 = .ok (.invokestatic 67, 3) := by decide +kernel
theorem dX6_takeBack_16 : decode cX6_takeBack 16 = .ok (.ifCond .ne 9, 3) := by decide +kernel
theorem dX6_takeBack_19 : decode cX6_takeBack 19 = .ok (.aload_n 0, 1) := by decide +kernel
theorem dX6_takeBack_20 : decode cX6_takeBack 20 = .ok (.iconst 1, 1) := by decide +kernel
theorem dX6_takeBack_21 : decode cX6_takeBack 21 = .ok (.invokevirtual 100, 3) := by decide +kernel
theorem dX6_takeBack_24 : decode cX6_takeBack 24 = .ok (.ireturn, 1) := by decide +kernel
theorem dX6_takeBack_25 : decode cX6_takeBack 25 = .ok (.iload_n 1, 1) := by decide +kernel
theorem dX6_takeBack_26 : decode cX6_takeBack 26 = .ok (.istore_n 2, 1) := by decide +kernel
theorem dX6_takeBack_27 : decode cX6_takeBack 27 = .ok (.iload_n 2, 1) := by decide +kernel
theorem dX6_takeBack_28 : decode cX6_takeBack 28 = .ok (.iconst 1, 1) := by decide +kernel
theorem dX6_takeBack_29 : decode cX6_takeBack 29 = .ok (.iadd, 1) := by decide +kernel
theorem dX6_takeBack_30 : decode cX6_takeBack 30 = .ok (.aload_n 0, 1) := by decide +kernel
theorem dX6_takeBack_31 : decode cX6_takeBack 31 = .ok (.getfield 71, 3) := by decide +kernel
theorem dX6_takeBack_34 : decode cX6_takeBack 34 = .ok (.if_icmp .ge 51, 3) := by decide +kernel
theorem dX6_takeBack_37 : decode cX6_takeBack 37 = .ok (.aload_n 0, 1) := by decide +kernel
theorem dX6_takeBack_38 : decode cX6_takeBack 38 = .ok (.getfield 29, 3) := by decide +kernel
theorem dX6_takeBack_41 : decode cX6_takeBack 41 = .ok (.iload_n 2, 1) := by decide +kernel
theorem dX6_takeBack_42 : decode cX6_takeBack 42 = .ok (.aload_n 0, 1) := by decide +kernel
theorem dX6_takeBack_43 : decode cX6_takeBack 43 = .ok (.getfield 29, 3) := by decide +kernel
theorem dX6_takeBack_46 : decode cX6_takeBack 46 = .ok (.iload_n 2, 1) := by decide +kernel
theorem dX6_takeBack_47 : decode cX6_takeBack 47 = .ok (.iconst 1, 1) := by decide +kernel
theorem dX6_takeBack_48 : decode cX6_takeBack 48 = .ok (.iadd, 1) := by decide +kernel
theorem dX6_takeBack_49 : decode cX6_takeBack 49 = .ok (.iaload, 1) := by decide +kernel
theorem dX6_takeBack_50 : decode cX6_takeBack 50 = .ok (.iastore, 1) := by decide +kernel
theorem dX6_takeBack_51 : decode cX6_takeBack 51 = .ok (.aload_n 0, 1) := by decide +kernel
theorem dX6_takeBack_52 : decode cX6_takeBack 52 = .ok (.getfield 32, 3) := by decide +kernel
theorem dX6_takeBack_55 : decode cX6_takeBack 55 = .ok (.iload_n 2, 1) := by decide +kernel
theorem dX6_takeBack_56 : decode cX6_takeBack 56 = .ok (.aload_n 0, 1) := by decide +kernel
theorem dX6_takeBack_57 : decode cX6_takeBack 57 = .ok (.getfield 32, 3) := by decide +kernel
theorem dX6_takeBack_60 : decode cX6_takeBack 60 = .ok (.iload_n 2, 1) := by decide +kernel
theorem dX6_takeBack_61 : decode cX6_takeBack 61 = .ok (.iconst 1, 1) := by decide +kernel
theorem dX6_takeBack_62 : decode cX6_takeBack 62 = .ok (.iadd, 1) := by decide +kernel
theorem dX6_takeBack_63 : decode cX6_takeBack 63 = .ok (.iaload, 1) := by decide +kernel
theorem dX6_takeBack_64 : decode cX6_takeBack 64 = .ok (.iastore, 1) := by decide +kernel
theorem dX6_takeBack_65 : decode cX6_takeBack 65 = .ok (.aload_n 0, 1) := by decide +kernel
theorem dX6_takeBack_66 : decode cX6_takeBack 66 = .ok (.getfield 35, 3) := by decide +kernel
theorem dX6_takeBack_69 : decode cX6_takeBack 69 = .ok (.iload_n 2, 1) := by decide +kernel
theorem dX6_takeBack_70 : decode cX6_takeBack 70 = .ok (.aload_n 0, 1) := by decide +kernel
theorem dX6_takeBack_71 : decode cX6_takeBack 71 = .ok (.getfield 35, 3) := by decide +kernel
theorem dX6_takeBack_74 : decode cX6_takeBack 74 = .ok (.iload_n 2, 1) := by decide +kernel
theorem dX6_takeBack_75 : decode cX6_takeBack 75 = .ok (.iconst 1, 1) := by decide +kernel
theorem dX6_takeBack_76 : decode cX6_takeBack 76 = .ok (.iadd, 1) := by decide +kernel
theorem dX6_takeBack_77 : decode cX6_takeBack 77 = .ok (.iaload, 1) := by decide +kernel
theorem dX6_takeBack_78 : decode cX6_takeBack 78 = .ok (.iastore, 1) := by decide +kernel
theorem dX6_takeBack_79 : decode cX6_takeBack 79 = .ok (.iinc 2 1, 3) := by decide +kernel
theorem dX6_takeBack_82 : decode cX6_takeBack 82 = .ok (.goto (-55), 3) := by decide +kernel
theorem dX6_takeBack_85 : decode cX6_takeBack 85 = .ok (.aload_n 0, 1) := by decide +kernel
theorem dX6_takeBack_86 : decode cX6_takeBack 86 = .ok (.dup, 1) := by decide +kernel
theorem dX6_takeBack_87 : decode cX6_takeBack 87 = .ok (.getfield 71, 3) := by decide +kernel
theorem dX6_takeBack_90 : decode cX6_takeBack 90 = .ok (.iconst 1, 1) := by decide +kernel
theorem dX6_takeBack_91 : decode cX6_takeBack 91 = .ok (.isub, 1) := by decide +kernel
theorem dX6_takeBack_92 : decode cX6_takeBack 92 = .ok (.putfield 71, 3) := by decide +kernel
theorem dX6_takeBack_95 : decode cX6_takeBack 95 = .ok (.aload_n 0, 1) := by decide +kernel
theorem dX6_takeBack_96 : decode cX6_takeBack 96 = .ok (.invokevirtual 104, 3) := by decide +kernel
theorem dX6_takeBack_99 : decode cX6_takeBack 99 = .ok (.aload_n 0, 1) := by decide +kernel
theorem dX6_takeBack_100 : decode cX6_takeBack 100 = .ok (.getfield 71, 3) := by decide +kernel
theorem dX6_takeBack_103 : decode cX6_takeBack 103 = .ok (.ireturn, 1) := by decide +kernel
theorem dX6_relationTold_0 : decode cX6_relationTold 0 = .ok (.iload_n 2, 1) := by decide +kernel
theorem dX6_relationTold_1 : decode cX6_relationTold 1 = .ok (.ifCond .ne 12, 3) := by decide +kernel
theorem dX6_relationTold_4 : decode cX6_relationTold 4 = .ok (.aload_n 0, 1) := by decide +kernel
theorem dX6_relationTold_5 : decode cX6_relationTold 5 = .ok (.getfield 29, 3) := by decide +kernel
theorem dX6_relationTold_8 : decode cX6_relationTold 8 = .ok (.iload_n 1, 1) := by decide +kernel
theorem dX6_relationTold_9 : decode cX6_relationTold 9 = .ok (.iaload, 1) := by decide +kernel
theorem dX6_relationTold_10 : decode cX6_relationTold 10 = .ok (.goto 23, 3) := by decide +kernel
theorem dX6_relationTold_13 : decode cX6_relationTold 13 = .ok (.iload_n 2, 1) := by decide +kernel
theorem dX6_relationTold_14 : decode cX6_relationTold 14 = .ok (.iconst 1, 1) := by decide +kernel
theorem dX6_relationTold_15 : decode cX6_relationTold 15 = .ok (.if_icmp .ne 12, 3) := by decide +kernel
theorem dX6_relationTold_18 : decode cX6_relationTold 18 = .ok (.aload_n 0, 1) := by decide +kernel
theorem dX6_relationTold_19 : decode cX6_relationTold 19 = .ok (.getfield 32, 3) := by decide +kernel
theorem dX6_relationTold_22 : decode cX6_relationTold 22 = .ok (.iload_n 1, 1) := by decide +kernel
theorem dX6_relationTold_23 : decode cX6_relationTold 23 = .ok (.iaload, 1) := by decide +kernel
theorem dX6_relationTold_24 : decode cX6_relationTold 24 = .ok (.goto 9, 3) := by decide +kernel
theorem dX6_relationTold_27 : decode cX6_relationTold 27 = .ok (.aload_n 0, 1) := by decide +kernel
theorem dX6_relationTold_28 : decode cX6_relationTold 28 = .ok (.getfield 35, 3) := by decide +kernel
theorem dX6_relationTold_31 : decode cX6_relationTold 31 = .ok (.iload_n 1, 1) := by decide +kernel
theorem dX6_relationTold_32 : decode cX6_relationTold 32 = .ok (.iaload, 1) := by decide +kernel
theorem dX6_relationTold_33 : decode cX6_relationTold 33 = .ok (.ireturn, 1) := by decide +kernel
theorem dX6_relation_0 : decode cX6_relation 0 = .ok (.aload_n 0, 1) := by decide +kernel
theorem dX6_relation_1 : decode cX6_relation 1 = .ok (.iconst 0, 1) := by decide +kernel
theorem dX6_relation_2 : decode cX6_relation 2 = .ok (.putfield 60, 3) := by decide +kernel
theorem dX6_relation_5 : decode cX6_relation 5 = .ok (.iload_n 1, 1) := by decide +kernel
theorem dX6_relation_6 : decode cX6_relation 6 = .ok (.iconst 0, 1) := by decide +kernel
theorem dX6_relation_7 : decode cX6_relation 7 = .ok (.aload_n 0, 1) := by decide +kernel
theorem dX6_relation_8 : decode cX6_relation 8 = .ok (.getfield 71, 3) := by decide +kernel
theorem dX6_relation_11 : decode cX6_relation 11 = .ok (.iconst 1, 1) := by decide +kernel
theorem dX6_relation_12 : decode cX6_relation 12 = .ok (.isub, 1) := by decide +kernel
theorem dX6_relation_13 : decode cX6_relation 13 = .ok (.invokestatic 67, 3) := by decide +kernel
theorem dX6_relation_16 : decode cX6_relation 16 = .ok (.ifCond .eq 21, 3) := by decide +kernel
theorem dX6_relation_19 : decode cX6_relation 19 = .ok (.iload_n 2, 1) := by decide +kernel
theorem dX6_relation_20 : decode cX6_relation 20 = .ok (.iconst 0, 1) := by decide +kernel
theorem dX6_relation_21 : decode cX6_relation 21 = .ok (.iconst 2, 1) := by decide +kernel
theorem dX6_relation_22 : decode cX6_relation 22 = .ok (.invokestatic 67, 3) := by decide +kernel
theorem dX6_relation_25 : decode cX6_relation 25 = .ok (.ifCond .eq 12, 3) := by decide +kernel
theorem dX6_relation_28 : decode cX6_relation 28 = .ok (.aload_n 0, 1) := by decide +kernel
theorem dX6_relation_29 : decode cX6_relation 29 = .ok (.iload_n 1, 1) := by decide +kernel
theorem dX6_relation_30 : decode cX6_relation 30 = .ok (.iload_n 2, 1) := by decide +kernel
theorem dX6_relation_31 : decode cX6_relation 31 = .ok (.invokevirtual 117, 3) := by decide +kernel
theorem dX6_relation_34 : decode cX6_relation 34 = .ok (.goto 8, 3) := by decide +kernel
theorem dX6_relation_37 : decode cX6_relation 37 = .ok (.aload_n 0, 1) := by decide +kernel
theorem dX6_relation_38 : decode cX6_relation 38 = .ok (.iconst 1, 1) := by decide +kernel
theorem dX6_relation_39 : decode cX6_relation 39 = .ok (.invokevirtual 100, 3) := by decide +kernel
theorem dX6_relation_42 : decode cX6_relation 42 = .ok (.ireturn, 1) := by decide +kernel
theorem dX6_year_0 : decode cX6_year 0 = .ok (.aload_n 0, 1) := by decide +kernel
theorem dX6_year_1 : decode cX6_year 1 = .ok (.getfield 41, 3) := by decide +kernel
theorem dX6_year_4 : decode cX6_year 4 = .ok (.iload_n 1, 1) := by decide +kernel
theorem dX6_year_5 : decode cX6_year 5 = .ok (.iaload, 1) := by decide +kernel
theorem dX6_year_6 : decode cX6_year 6 = .ok (.istore_n 3, 1) := by decide +kernel
theorem dX6_year_7 : decode cX6_year 7 = .ok (.iload_n 2, 1) := by decide +kernel
theorem dX6_year_8 : decode cX6_year 8 = .ok (.ifCond .eq 9, 3) := by decide +kernel
theorem dX6_year_11 : decode cX6_year 11 = .ok (.sipush 2000, 3) := by decide +kernel
theorem dX6_year_14 : decode cX6_year 14 = .ok (.goto 6, 3) := by decide +kernel
theorem dX6_year_17 : decode cX6_year 17 = .ok (.sipush (-5000), 3) := by decide +kernel
theorem dX6_year_20 : decode cX6_year 20 = .ok (.istore 4, 2) := by decide +kernel
theorem dX6_year_22 : decode cX6_year 22 = .ok (.iload_n 2, 1) := by decide +kernel
theorem dX6_year_23 : decode cX6_year 23 = .ok (.ifCond .eq 12, 3) := by decide +kernel
theorem dX6_year_26 : decode cX6_year 26 = .ok (.aload_n 0, 1) := by decide +kernel
theorem dX6_year_27 : decode cX6_year 27 = .ok (.getfield 48, 3) := by decide +kernel
theorem dX6_year_30 : decode cX6_year 30 = .ok (.iload_n 3, 1) := by decide +kernel
theorem dX6_year_31 : decode cX6_year 31 = .ok (.laload, 1) := by decide +kernel
theorem dX6_year_32 : decode cX6_year 32 = .ok (.goto 9, 3) := by decide +kernel
theorem dX6_year_35 : decode cX6_year 35 = .ok (.aload_n 0, 1) := by decide +kernel
theorem dX6_year_36 : decode cX6_year 36 = .ok (.getfield 44, 3) := by decide +kernel
theorem dX6_year_39 : decode cX6_year 39 = .ok (.iload_n 3, 1) := by decide +kernel
theorem dX6_year_40 : decode cX6_year 40 = .ok (.laload, 1) := by decide +kernel
theorem dX6_year_41 : decode cX6_year 41 = .ok (.lconst 1, 1) := by decide +kernel
theorem dX6_year_42 : decode cX6_year 42 = .ok (.iload_n 3, 1) := by decide +kernel
theorem dX6_year_43 : decode cX6_year 43 = .ok (.lshl, 1) := by decide +kernel
theorem dX6_year_44 : decode cX6_year 44 = .ok (.lor, 1) := by decide +kernel
theorem dX6_year_45 : decode cX6_year 45 = .ok (.lstore 5, 2) := by decide +kernel
theorem dX6_year_47 : decode cX6_year 47 = .ok (.iconst 0, 1) := by decide +kernel
theorem dX6_year_48 : decode cX6_year 48 = .ok (.istore 7, 2) := by decide +kernel
theorem dX6_year_50 : decode cX6_year 50 = .ok (.iload 7, 2) := by decide +kernel
theorem dX6_year_52 : decode cX6_year 52 = .ok (.aload_n 0, 1) := by decide +kernel
theorem dX6_year_53 : decode cX6_year 53 = .ok (.getfield 64, 3) := by decide +kernel
theorem dX6_year_56 : decode cX6_year 56 = .ok (.if_icmp .ge 70, 3) := by decide +kernel
theorem dX6_year_59 : decode cX6_year 59 = .ok (.lload 5, 2) := by decide +kernel
theorem dX6_year_61 : decode cX6_year 61 = .ok (.aload_n 0, 1) := by decide +kernel
theorem dX6_year_62 : decode cX6_year 62 = .ok (.getfield 41, 3) := by decide +kernel
theorem dX6_year_65 : decode cX6_year 65 = .ok (.iload 7, 2) := by decide +kernel
theorem dX6_year_67 : decode cX6_year 67 = .ok (.iaload, 1) := by decide +kernel
theorem dX6_year_68 : decode cX6_year 68 = .ok (.invokestatic 83, 3) := by decide +kernel
theorem dX6_year_71 : decode cX6_year 71 = .ok (.ifCond .eq 49, 3) := by decide +kernel
theorem dX6_year_74 : decode cX6_year 74 = .ok (.aload_n 0, 1) := by decide +kernel
theorem dX6_year_75 : decode cX6_year 75 = .ok (.getfield 19, 3) := by decide +kernel
theorem dX6_year_78 : decode cX6_year 78 = .ok (.iload 7, 2) := by decide +kernel
theorem dX6_year_80 : decode cX6_year 80 = .ok (.baload, 1) := by decide +kernel
theorem dX6_year_81 : decode cX6_year 81 = .ok (.ifCond .ne 6, 3) := by decide +kernel
theorem dX6_year_84 : decode cX6_year 84 = .ok (.goto 36, 3) := by decide +kernel
theorem dX6_year_87 : decode cX6_year 87 = .ok (.iload_n 2, 1) := by decide +kernel
theorem dX6_year_88 : decode cX6_year 88 = .ok (.ifCond .eq 18, 3) := by decide +kernel
theorem dX6_year_91 : decode cX6_year 91 = .ok (.iload 4, 2) := by decide +kernel
theorem dX6_year_93 : decode cX6_year 93 = .ok (.aload_n 0, 1) := by decide +kernel
theorem dX6_year_94 : decode cX6_year 94 = .ok (.getfield 16, 3) := by decide +kernel
theorem dX6_year_97 : decode cX6_year 97 = .ok (.iload 7, 2) := by decide +kernel
theorem dX6_year_99 : decode cX6_year 99 = .ok (.iaload, 1) := by decide +kernel
theorem dX6_year_100 : decode cX6_year 100 = .ok (.invokestatic 74, 3) := by decide +kernel
theorem dX6_year_103 : decode cX6_year 103 = .ok (.goto 15, 3) := by decide +kernel
theorem dX6_year_106 : decode cX6_year 106 = .ok (.iload 4, 2) := by decide +kernel
theorem dX6_year_108 : decode cX6_year 108 = .ok (.aload_n 0, 1) := by decide +kernel
theorem dX6_year_109 : decode cX6_year 109 = .ok (.getfield 13, 3) := by decide +kernel
theorem dX6_year_112 : decode cX6_year 112 = .ok (.iload 7, 2) := by decide +kernel
theorem dX6_year_114 : decode cX6_year 114 = .ok (.iaload, 1) := by decide +kernel
theorem dX6_year_115 : decode cX6_year 115 = .ok (.invokestatic 97, 3) := by decide +kernel
theorem dX6_year_118 : decode cX6_year 118 = .ok (.istore 4, 2) := by decide +kernel
theorem dX6_year_120 : decode cX6_year 120 = .ok (.iinc 7 1, 3) := by decide +kernel
theorem dX6_year_123 : decode cX6_year 123 = .ok (.goto (-73), 3) := by decide +kernel
theorem dX6_year_126 : decode cX6_year 126 = .ok (.iconst 0, 1) := by decide +kernel
theorem dX6_year_127 : decode cX6_year 127 = .ok (.istore 7, 2) := by decide +kernel
theorem dX6_year_129 : decode cX6_year 129 = .ok (.iload 7, 2) := by decide +kernel
theorem dX6_year_131 : decode cX6_year 131 = .ok (.aload_n 0, 1) := by decide +kernel
theorem dX6_year_132 : decode cX6_year 132 = .ok (.getfield 120, 3) := by decide +kernel
theorem dX6_year_135 : decode cX6_year 135 = .ok (.if_icmp .ge 55, 3) := by decide +kernel
theorem dX6_year_138 : decode cX6_year 138 = .ok (.iload_n 2, 1) := by decide +kernel
theorem dX6_year_139 : decode cX6_year 139 = .ok (.ifCond .ne 51, 3) := by decide +kernel
theorem dX6_year_142 : decode cX6_year 142 = .ok (.lload 5, 2) := by decide +kernel
theorem dX6_year_144 : decode cX6_year 144 = .ok (.aload_n 0, 1) := by decide +kernel
theorem dX6_year_145 : decode cX6_year 145 = .ok (.getfield 41, 3) := by decide +kernel
theorem dX6_year_148 : decode cX6_year 148 = .ok (.aload_n 0, 1) := by decide +kernel
theorem dX6_year_149 : decode cX6_year 149 = .ok (.getfield 38, 3) := by decide +kernel
theorem dX6_year_152 : decode cX6_year 152 = .ok (.bipush 7, 2) := by decide +kernel
theorem dX6_year_154 : decode cX6_year 154 = .ok (.iload 7, 2) := by decide +kernel
theorem dX6_year_156 : decode cX6_year 156 = .ok (.imul, 1) := by decide +kernel
theorem dX6_year_157 : decode cX6_year 157 = .ok (.iaload, 1) := by decide +kernel
theorem dX6_year_158 : decode cX6_year 158 = .ok (.iaload, 1) := by decide +kernel
theorem dX6_year_159 : decode cX6_year 159 = .ok (.invokestatic 83, 3) := by decide +kernel
theorem dX6_year_162 : decode cX6_year 162 = .ok (.ifCond .eq 22, 3) := by decide +kernel
theorem dX6_year_165 : decode cX6_year 165 = .ok (.iload 4, 2) := by decide +kernel
theorem dX6_year_167 : decode cX6_year 167 = .ok (.aload_n 0, 1) := by decide +kernel
theorem dX6_year_168 : decode cX6_year 168 = .ok (.getfield 38, 3) := by decide +kernel
theorem dX6_year_171 : decode cX6_year 171 = .ok (.bipush 7, 2) := by decide +kernel
theorem dX6_year_173 : decode cX6_year 173 = .ok (.iload 7, 2) := by decide +kernel
theorem dX6_year_175 : decode cX6_year 175 = .ok (.imul, 1) := by decide +kernel
theorem dX6_year_176 : decode cX6_year 176 = .ok (.iconst 2, 1) := by decide +kernel
theorem dX6_year_177 : decode cX6_year 177 = .ok (.iadd, 1) := by decide +kernel
theorem dX6_year_178 : decode cX6_year 178 = .ok (.iaload, 1) := by decide +kernel
theorem dX6_year_179 : decode cX6_year 179 = .ok (.invokestatic 97, 3) := by decide +kernel
theorem dX6_year_182 : decode cX6_year 182 = .ok (.istore 4, 2) := by decide +kernel
theorem dX6_year_184 : decode cX6_year 184 = .ok (.iinc 7 1, 3) := by decide +kernel
theorem dX6_year_187 : decode cX6_year 187 = .ok (.goto (-58), 3) := by decide +kernel
theorem dX6_year_190 : decode cX6_year 190 = .ok (.iload 4, 2) := by decide +kernel
theorem dX6_year_192 : decode cX6_year 192 = .ok (.ireturn, 1) := by decide +kernel
theorem dX6_isInDoubt_0 : decode cX6_isInDoubt 0 = .ok (.aload_n 0, 1) := by decide +kernel
theorem dX6_isInDoubt_1 : decode cX6_isInDoubt 1 = .ok (.iload_n 1, 1) := by decide +kernel
theorem dX6_isInDoubt_2 : decode cX6_isInDoubt 2 = .ok (.iconst 0, 1) := by decide +kernel
theorem dX6_isInDoubt_3 : decode cX6_isInDoubt 3 = .ok (.invokevirtual 123, 3) := by decide +kernel
theorem dX6_isInDoubt_6 : decode cX6_isInDoubt 6 = .ok (.aload_n 0, 1) := by decide +kernel
theorem dX6_isInDoubt_7 : decode cX6_isInDoubt 7 = .ok (.iload_n 1, 1) := by decide +kernel
theorem dX6_isInDoubt_8 : decode cX6_isInDoubt 8 = .ok (.iconst 1, 1) := by decide +kernel
theorem dX6_isInDoubt_9 : decode cX6_isInDoubt 9 = .ok (.invokevirtual 123, 3) := by decide +kernel
theorem dX6_isInDoubt_12 : decode cX6_isInDoubt 12 = .ok (.if_icmp .le 7, 3) := by decide +kernel
theorem dX6_isInDoubt_15 : decode cX6_isInDoubt 15 = .ok (.iconst 1, 1) := by decide +kernel
theorem dX6_isInDoubt_16 : decode cX6_isInDoubt 16 = .ok (.goto 4, 3) := by decide +kernel
theorem dX6_isInDoubt_19 : decode cX6_isInDoubt 19 = .ok (.iconst 0, 1) := by decide +kernel
theorem dX6_isInDoubt_20 : decode cX6_isInDoubt 20 = .ok (.ireturn, 1) := by decide +kernel
theorem dX6_bodies_0 : decode cX6_bodies 0 = .ok (.iconst 0, 1) := by decide +kernel
theorem dX6_bodies_1 : decode cX6_bodies 1 = .ok (.istore_n 1, 1) := by decide +kernel
theorem dX6_bodies_2 : decode cX6_bodies 2 = .ok (.iconst 0, 1) := by decide +kernel
theorem dX6_bodies_3 : decode cX6_bodies 3 = .ok (.istore_n 2, 1) := by decide +kernel
theorem dX6_bodies_4 : decode cX6_bodies 4 = .ok (.iload_n 2, 1) := by decide +kernel
theorem dX6_bodies_5 : decode cX6_bodies 5 = .ok (.aload_n 0, 1) := by decide +kernel
theorem dX6_bodies_6 : decode cX6_bodies 6 = .ok (.getfield 64, 3) := by decide +kernel
theorem dX6_bodies_9 : decode cX6_bodies 9 = .ok (.if_icmp .ge 25, 3) := by decide +kernel
theorem dX6_bodies_12 : decode cX6_bodies 12 = .ok (.iload_n 1, 1) := by decide +kernel
theorem dX6_bodies_13 : decode cX6_bodies 13 = .ok (.aload_n 0, 1) := by decide +kernel
theorem dX6_bodies_14 : decode cX6_bodies 14 = .ok (.iload_n 2, 1) := by decide +kernel
theorem dX6_bodies_15 : decode cX6_bodies 15 = .ok (.invokevirtual 127, 3) := by decide +kernel
theorem dX6_bodies_18 : decode cX6_bodies 18 = .ok (.ifCond .eq 7, 3) := by decide +kernel
theorem dX6_bodies_21 : decode cX6_bodies 21 = .ok (.iconst 1, 1) := by decide +kernel
theorem dX6_bodies_22 : decode cX6_bodies 22 = .ok (.goto 4, 3) := by decide +kernel
theorem dX6_bodies_25 : decode cX6_bodies 25 = .ok (.iconst 0, 1) := by decide +kernel
theorem dX6_bodies_26 : decode cX6_bodies 26 = .ok (.iadd, 1) := by decide +kernel
theorem dX6_bodies_27 : decode cX6_bodies 27 = .ok (.istore_n 1, 1) := by decide +kernel
theorem dX6_bodies_28 : decode cX6_bodies 28 = .ok (.iinc 2 1, 3) := by decide +kernel
theorem dX6_bodies_31 : decode cX6_bodies 31 = .ok (.goto (-27), 3) := by decide +kernel
theorem dX6_bodies_34 : decode cX6_bodies 34 = .ok (.iload_n 1, 1) := by decide +kernel
theorem dX6_bodies_35 : decode cX6_bodies 35 = .ok (.ireturn, 1) := by decide +kernel
theorem dX6_links_0 : decode cX6_links 0 = .ok (.iconst 0, 1) := by decide +kernel
theorem dX6_links_1 : decode cX6_links 1 = .ok (.istore_n 1, 1) := by decide +kernel
theorem dX6_links_2 : decode cX6_links 2 = .ok (.iconst 0, 1) := by decide +kernel
theorem dX6_links_3 : decode cX6_links 3 = .ok (.istore_n 2, 1) := by decide +kernel
theorem dX6_links_4 : decode cX6_links 4 = .ok (.iload_n 2, 1) := by decide +kernel
theorem dX6_links_5 : decode cX6_links 5 = .ok (.aload_n 0, 1) := by decide +kernel
theorem dX6_links_6 : decode cX6_links 6 = .ok (.getfield 64, 3) := by decide +kernel
theorem dX6_links_9 : decode cX6_links 9 = .ok (.if_icmp .ge 21, 3) := by decide +kernel
theorem dX6_links_12 : decode cX6_links 12 = .ok (.iload_n 1, 1) := by decide +kernel
theorem dX6_links_13 : decode cX6_links 13 = .ok (.aload_n 0, 1) := by decide +kernel
theorem dX6_links_14 : decode cX6_links 14 = .ok (.getfield 51, 3) := by decide +kernel
theorem dX6_links_17 : decode cX6_links 17 = .ok (.iload_n 2, 1) := by decide +kernel
theorem dX6_links_18 : decode cX6_links 18 = .ok (.laload, 1) := by decide +kernel
theorem dX6_links_19 : decode cX6_links 19 = .ok (.invokestatic 130, 3) := by decide +kernel
theorem dX6_links_22 : decode cX6_links 22 = .ok (.iadd, 1) := by decide +kernel
theorem dX6_links_23 : decode cX6_links 23 = .ok (.istore_n 1, 1) := by decide +kernel
theorem dX6_links_24 : decode cX6_links 24 = .ok (.iinc 2 1, 3) := by decide +kernel
theorem dX6_links_27 : decode cX6_links 27 = .ok (.goto (-23), 3) := by decide +kernel
theorem dX6_links_30 : decode cX6_links 30 = .ok (.iload_n 1, 1) := by decide +kernel
theorem dX6_links_31 : decode cX6_links 31 = .ok (.ireturn, 1) := by decide +kernel
theorem dX6_dug_0 : decode cX6_dug 0 = .ok (.iconst 0, 1) := by decide +kernel
theorem dX6_dug_1 : decode cX6_dug 1 = .ok (.istore_n 1, 1) := by decide +kernel
theorem dX6_dug_2 : decode cX6_dug 2 = .ok (.iconst 0, 1) := by decide +kernel
theorem dX6_dug_3 : decode cX6_dug 3 = .ok (.istore_n 2, 1) := by decide +kernel
theorem dX6_dug_4 : decode cX6_dug 4 = .ok (.iload_n 2, 1) := by decide +kernel
theorem dX6_dug_5 : decode cX6_dug 5 = .ok (.aload_n 0, 1) := by decide +kernel
theorem dX6_dug_6 : decode cX6_dug 6 = .ok (.getfield 64, 3) := by decide +kernel
theorem dX6_dug_9 : decode cX6_dug 9 = .ok (.if_icmp .ge 26, 3) := by decide +kernel
theorem dX6_dug_12 : decode cX6_dug 12 = .ok (.iload_n 1, 1) := by decide +kernel
theorem dX6_dug_13 : decode cX6_dug 13 = .ok (.aload_n 0, 1) := by decide +kernel
theorem dX6_dug_14 : decode cX6_dug 14 = .ok (.getfield 23, 3) := by decide +kernel
theorem dX6_dug_17 : decode cX6_dug 17 = .ok (.iload_n 2, 1) := by decide +kernel
theorem dX6_dug_18 : decode cX6_dug 18 = .ok (.baload, 1) := by decide +kernel
theorem dX6_dug_19 : decode cX6_dug 19 = .ok (.ifCond .eq 7, 3) := by decide +kernel
theorem dX6_dug_22 : decode cX6_dug 22 = .ok (.iconst 1, 1) := by decide +kernel
theorem dX6_dug_23 : decode cX6_dug 23 = .ok (.goto 4, 3) := by decide +kernel
theorem dX6_dug_26 : decode cX6_dug 26 = .ok (.iconst 0, 1) := by decide +kernel
theorem dX6_dug_27 : decode cX6_dug 27 = .ok (.iadd, 1) := by decide +kernel
theorem dX6_dug_28 : decode cX6_dug 28 = .ok (.istore_n 1, 1) := by decide +kernel
theorem dX6_dug_29 : decode cX6_dug 29 = .ok (.iinc 2 1, 3) := by decide +kernel
theorem dX6_dug_32 : decode cX6_dug 32 = .ok (.goto (-28), 3) := by decide +kernel
theorem dX6_dug_35 : decode cX6_dug 35 = .ok (.iload_n 1, 1) := by decide +kernel
theorem dX6_dug_36 : decode cX6_dug 36 = .ok (.ireturn, 1) := by decide +kernel
theorem dX6_doubts_0 : decode cX6_doubts 0 = .ok (.iconst 0, 1) := by decide +kernel
theorem dX6_doubts_1 : decode cX6_doubts 1 = .ok (.istore_n 1, 1) := by decide +kernel
theorem dX6_doubts_2 : decode cX6_doubts 2 = .ok (.iconst 0, 1) := by decide +kernel
theorem dX6_doubts_3 : decode cX6_doubts 3 = .ok (.istore_n 2, 1) := by decide +kernel
theorem dX6_doubts_4 : decode cX6_doubts 4 = .ok (.iload_n 2, 1) := by decide +kernel
theorem dX6_doubts_5 : decode cX6_doubts 5 = .ok (.aload_n 0, 1) := by decide +kernel
theorem dX6_doubts_6 : decode cX6_doubts 6 = .ok (.getfield 64, 3) := by decide +kernel
theorem dX6_doubts_9 : decode cX6_doubts 9 = .ok (.if_icmp .ge 33, 3) := by decide +kernel
theorem dX6_doubts_12 : decode cX6_doubts 12 = .ok (.iload_n 1, 1) := by decide +kernel
theorem dX6_doubts_13 : decode cX6_doubts 13 = .ok (.aload_n 0, 1) := by decide +kernel
theorem dX6_doubts_14 : decode cX6_doubts 14 = .ok (.iload_n 2, 1) := by decide +kernel
theorem dX6_doubts_15 : decode cX6_doubts 15 = .ok (.invokevirtual 127, 3) := by decide +kernel
theorem dX6_doubts_18 : decode cX6_doubts 18 = .ok (.ifCond .eq 15, 3) := by decide +kernel
theorem dX6_doubts_21 : decode cX6_doubts 21 = .ok (.aload_n 0, 1) := by decide +kernel
theorem dX6_doubts_22 : decode cX6_doubts 22 = .ok (.iload_n 2, 1) := by decide +kernel
theorem dX6_doubts_23 : decode cX6_doubts 23 = .ok (.invokevirtual 136, 3) := by decide +kernel
theorem dX6_doubts_26 : decode cX6_doubts 26 = .ok (.ifCond .eq 7, 3) := by decide +kernel
theorem dX6_doubts_29 : decode cX6_doubts 29 = .ok (.iconst 1, 1) := by decide +kernel
theorem dX6_doubts_30 : decode cX6_doubts 30 = .ok (.goto 4, 3) := by decide +kernel
theorem dX6_doubts_33 : decode cX6_doubts 33 = .ok (.iconst 0, 1) := by decide +kernel
theorem dX6_doubts_34 : decode cX6_doubts 34 = .ok (.iadd, 1) := by decide +kernel
theorem dX6_doubts_35 : decode cX6_doubts 35 = .ok (.istore_n 1, 1) := by decide +kernel
theorem dX6_doubts_36 : decode cX6_doubts 36 = .ok (.iinc 2 1, 3) := by decide +kernel
theorem dX6_doubts_39 : decode cX6_doubts 39 = .ok (.goto (-35), 3) := by decide +kernel
theorem dX6_doubts_42 : decode cX6_doubts 42 = .ok (.iload_n 1, 1) := by decide +kernel
theorem dX6_doubts_43 : decode cX6_doubts 43 = .ok (.ireturn, 1) := by decide +kernel
theorem dX6_levels_0 : decode cX6_levels 0 = .ok (.iconst 0, 1) := by decide +kernel
theorem dX6_levels_1 : decode cX6_levels 1 = .ok (.istore_n 1, 1) := by decide +kernel
theorem dX6_levels_2 : decode cX6_levels 2 = .ok (.iconst 0, 1) := by decide +kernel
theorem dX6_levels_3 : decode cX6_levels 3 = .ok (.istore_n 2, 1) := by decide +kernel
theorem dX6_levels_4 : decode cX6_levels 4 = .ok (.iload_n 2, 1) := by decide +kernel
theorem dX6_levels_5 : decode cX6_levels 5 = .ok (.aload_n 0, 1) := by decide +kernel
theorem dX6_levels_6 : decode cX6_levels 6 = .ok (.getfield 64, 3) := by decide +kernel
theorem dX6_levels_9 : decode cX6_levels 9 = .ok (.if_icmp .ge 30, 3) := by decide +kernel
theorem dX6_levels_12 : decode cX6_levels 12 = .ok (.aload_n 0, 1) := by decide +kernel
theorem dX6_levels_13 : decode cX6_levels 13 = .ok (.iload_n 2, 1) := by decide +kernel
theorem dX6_levels_14 : decode cX6_levels 14 = .ok (.invokevirtual 127, 3) := by decide +kernel
theorem dX6_levels_17 : decode cX6_levels 17 = .ok (.ifCond .eq 16, 3) := by decide +kernel
theorem dX6_levels_20 : decode cX6_levels 20 = .ok (.iload_n 1, 1) := by decide +kernel
theorem dX6_levels_21 : decode cX6_levels 21 = .ok (.aload_n 0, 1) := by decide +kernel
theorem dX6_levels_22 : decode cX6_levels 22 = .ok (.getfield 54, 3) := by decide +kernel
theorem dX6_levels_25 : decode cX6_levels 25 = .ok (.iload_n 2, 1) := by decide +kernel
theorem dX6_levels_26 : decode cX6_levels 26 = .ok (.iaload, 1) := by decide +kernel
theorem dX6_levels_27 : decode cX6_levels 27 = .ok (.iconst 1, 1) := by decide +kernel
theorem dX6_levels_28 : decode cX6_levels 28 = .ok (.iadd, 1) := by decide +kernel
theorem dX6_levels_29 : decode cX6_levels 29 = .ok (.invokestatic 97, 3) := by decide +kernel
theorem dX6_levels_32 : decode cX6_levels 32 = .ok (.istore_n 1, 1) := by decide +kernel
theorem dX6_levels_33 : decode cX6_levels 33 = .ok (.iinc 2 1, 3) := by decide +kernel
theorem dX6_levels_36 : decode cX6_levels 36 = .ok (.goto (-32), 3) := by decide +kernel
theorem dX6_levels_39 : decode cX6_levels 39 = .ok (.iload_n 1, 1) := by decide +kernel
theorem dX6_levels_40 : decode cX6_levels 40 = .ok (.ireturn, 1) := by decide +kernel
theorem dX6_areOut_0 : decode cX6_areOut 0 = .ok (.aload_n 0, 1) := by decide +kernel
theorem dX6_areOut_1 : decode cX6_areOut 1 = .ok (.getfield 41, 3) := by decide +kernel
theorem dX6_areOut_4 : decode cX6_areOut 4 = .ok (.iload_n 1, 1) := by decide +kernel
theorem dX6_areOut_5 : decode cX6_areOut 5 = .ok (.iaload, 1) := by decide +kernel
theorem dX6_areOut_6 : decode cX6_areOut 6 = .ok (.aload_n 0, 1) := by decide +kernel
theorem dX6_areOut_7 : decode cX6_areOut 7 = .ok (.getfield 41, 3) := by decide +kernel
theorem dX6_areOut_10 : decode cX6_areOut 10 = .ok (.iload_n 2, 1) := by decide +kernel
theorem dX6_areOut_11 : decode cX6_areOut 11 = .ok (.iaload, 1) := by decide +kernel
theorem dX6_areOut_12 : decode cX6_areOut 12 = .ok (.if_icmp .ne 29, 3) := by decide +kernel
theorem dX6_areOut_15 : decode cX6_areOut 15 = .ok (.iload_n 1, 1) := by decide +kernel
theorem dX6_areOut_16 : decode cX6_areOut 16 = .ok (.iload_n 2, 1) := by decide +kernel
theorem dX6_areOut_17 : decode cX6_areOut 17 = .ok (.if_icmp .ge 22, 3) := by decide +kernel
theorem dX6_areOut_20 : decode cX6_areOut 20 = .ok (.aload_n 0, 1) := by decide +kernel
theorem dX6_areOut_21 : decode cX6_areOut 21 = .ok (.getfield 26, 3) := by decide +kernel
theorem dX6_areOut_24 : decode cX6_areOut 24 = .ok (.iload_n 1, 1) := by decide +kernel
theorem dX6_areOut_25 : decode cX6_areOut 25 = .ok (.iaload, 1) := by decide +kernel
theorem dX6_areOut_26 : decode cX6_areOut 26 = .ok (.aload_n 0, 1) := by decide +kernel
theorem dX6_areOut_27 : decode cX6_areOut 27 = .ok (.getfield 26, 3) := by decide +kernel
theorem dX6_areOut_30 : decode cX6_areOut 30 = .ok (.iload_n 2, 1) := by decide +kernel
theorem dX6_areOut_31 : decode cX6_areOut 31 = .ok (.iaload, 1) := by decide +kernel
theorem dX6_areOut_32 : decode cX6_areOut 32 = .ok (.if_icmp .eq 7, 3) := by decide +kernel
theorem dX6_areOut_35 : decode cX6_areOut 35 = .ok (.iconst 1, 1) := by decide +kernel
theorem dX6_areOut_36 : decode cX6_areOut 36 = .ok (.goto 4, 3) := by decide +kernel
theorem dX6_areOut_39 : decode cX6_areOut 39 = .ok (.iconst 0, 1) := by decide +kernel
theorem dX6_areOut_40 : decode cX6_areOut 40 = .ok (.ireturn, 1) := by decide +kernel
theorem dX6_areOut_41 : decode cX6_areOut 41 = .ok (.aload_n 0, 1) := by decide +kernel
theorem dX6_areOut_42 : decode cX6_areOut 42 = .ok (.getfield 44, 3) := by decide +kernel
theorem dX6_areOut_45 : decode cX6_areOut 45 = .ok (.aload_n 0, 1) := by decide +kernel
theorem dX6_areOut_46 : decode cX6_areOut 46 = .ok (.getfield 41, 3) := by decide +kernel
theorem dX6_areOut_49 : decode cX6_areOut 49 = .ok (.iload_n 1, 1) := by decide +kernel
theorem dX6_areOut_50 : decode cX6_areOut 50 = .ok (.iaload, 1) := by decide +kernel
theorem dX6_areOut_51 : decode cX6_areOut 51 = .ok (.laload, 1) := by decide +kernel
theorem dX6_areOut_52 : decode cX6_areOut 52 = .ok (.aload_n 0, 1) := by decide +kernel
theorem dX6_areOut_53 : decode cX6_areOut 53 = .ok (.getfield 41, 3) := by decide +kernel
theorem dX6_areOut_56 : decode cX6_areOut 56 = .ok (.iload_n 2, 1) := by decide +kernel
theorem dX6_areOut_57 : decode cX6_areOut 57 = .ok (.iaload, 1) := by decide +kernel
theorem dX6_areOut_58 : decode cX6_areOut 58 = .ok (.invokestatic 83, 3) := by decide +kernel
theorem dX6_areOut_61 : decode cX6_areOut 61 = .ok (.ifCond .eq 22, 3) := by decide +kernel
theorem dX6_areOut_64 : decode cX6_areOut 64 = .ok (.aload_n 0, 1) := by decide +kernel
theorem dX6_areOut_65 : decode cX6_areOut 65 = .ok (.getfield 26, 3) := by decide +kernel
theorem dX6_areOut_68 : decode cX6_areOut 68 = .ok (.iload_n 1, 1) := by decide +kernel
theorem dX6_areOut_69 : decode cX6_areOut 69 = .ok (.iaload, 1) := by decide +kernel
theorem dX6_areOut_70 : decode cX6_areOut 70 = .ok (.aload_n 0, 1) := by decide +kernel
theorem dX6_areOut_71 : decode cX6_areOut 71 = .ok (.getfield 26, 3) := by decide +kernel
theorem dX6_areOut_74 : decode cX6_areOut 74 = .ok (.iload_n 2, 1) := by decide +kernel
theorem dX6_areOut_75 : decode cX6_areOut 75 = .ok (.iaload, 1) := by decide +kernel
theorem dX6_areOut_76 : decode cX6_areOut 76 = .ok (.if_icmp .ge 7, 3) := by decide +kernel
theorem dX6_areOut_79 : decode cX6_areOut 79 = .ok (.iconst 1, 1) := by decide +kernel
theorem dX6_areOut_80 : decode cX6_areOut 80 = .ok (.goto 4, 3) := by decide +kernel
theorem dX6_areOut_83 : decode cX6_areOut 83 = .ok (.iconst 0, 1) := by decide +kernel
theorem dX6_areOut_84 : decode cX6_areOut 84 = .ok (.ireturn, 1) := by decide +kernel
theorem dX6_pairsOut_0 : decode cX6_pairsOut 0 = .ok (.iconst 0, 1) := by decide +kernel
theorem dX6_pairsOut_1 : decode cX6_pairsOut 1 = .ok (.istore_n 1, 1) := by decide +kernel
theorem dX6_pairsOut_2 : decode cX6_pairsOut 2 = .ok (.iconst 0, 1) := by decide +kernel
theorem dX6_pairsOut_3 : decode cX6_pairsOut 3 = .ok (.istore_n 2, 1) := by decide +kernel
theorem dX6_pairsOut_4 : decode cX6_pairsOut 4 = .ok (.iload_n 2, 1) := by decide +kernel
theorem dX6_pairsOut_5 : decode cX6_pairsOut 5 = .ok (.aload_n 0, 1) := by decide +kernel
theorem dX6_pairsOut_6 : decode cX6_pairsOut 6 = .ok (.getfield 64, 3) := by decide +kernel
theorem dX6_pairsOut_9 : decode cX6_pairsOut 9 = .ok (.if_icmp .ge 42, 3) := by decide +kernel
theorem dX6_pairsOut_12 : decode cX6_pairsOut 12 = .ok (.iconst 0, 1) := by decide +kernel
theorem dX6_pairsOut_13 : decode cX6_pairsOut 13 = .ok (.istore_n 3, 1) := by decide +kernel
theorem dX6_pairsOut_14 : decode cX6_pairsOut 14 = .ok (.iload_n 3, 1) := by decide +kernel
theorem dX6_pairsOut_15 : decode cX6_pairsOut 15 = .ok (.aload_n 0, 1) := by decide +kernel
theorem dX6_pairsOut_16 : decode cX6_pairsOut 16 = .ok (.getfield 64, 3) := by decide +kernel
theorem dX6_pairsOut_19 : decode cX6_pairsOut 19 = .ok (.if_icmp .ge 26, 3) := by decide +kernel
theorem dX6_pairsOut_22 : decode cX6_pairsOut 22 = .ok (.iload_n 1, 1) := by decide +kernel
theorem dX6_pairsOut_23 : decode cX6_pairsOut 23 = .ok (.aload_n 0, 1) := by decide +kernel
theorem dX6_pairsOut_24 : decode cX6_pairsOut 24 = .ok (.iload_n 2, 1) := by decide +kernel
theorem dX6_pairsOut_25 : decode cX6_pairsOut 25 = .ok (.iload_n 3, 1) := by decide +kernel
theorem dX6_pairsOut_26 : decode cX6_pairsOut 26 = .ok (.invokevirtual 139, 3) := by decide +kernel
theorem dX6_pairsOut_29 : decode cX6_pairsOut 29 = .ok (.ifCond .eq 7, 3) := by decide +kernel
theorem dX6_pairsOut_32 : decode cX6_pairsOut 32 = .ok (.iconst 1, 1) := by decide +kernel
theorem dX6_pairsOut_33 : decode cX6_pairsOut 33 = .ok (.goto 4, 3) := by decide +kernel
theorem dX6_pairsOut_36 : decode cX6_pairsOut 36 = .ok (.iconst 0, 1) := by decide +kernel
theorem dX6_pairsOut_37 : decode cX6_pairsOut 37 = .ok (.iadd, 1) := by decide +kernel
theorem dX6_pairsOut_38 : decode cX6_pairsOut 38 = .ok (.istore_n 1, 1) := by decide +kernel
theorem dX6_pairsOut_39 : decode cX6_pairsOut 39 = .ok (.iinc 3 1, 3) := by decide +kernel
theorem dX6_pairsOut_42 : decode cX6_pairsOut 42 = .ok (.goto (-28), 3) := by decide +kernel
theorem dX6_pairsOut_45 : decode cX6_pairsOut 45 = .ok (.iinc 2 1, 3) := by decide +kernel
theorem dX6_pairsOut_48 : decode cX6_pairsOut 48 = .ok (.goto (-44), 3) := by decide +kernel
theorem dX6_pairsOut_51 : decode cX6_pairsOut 51 = .ok (.iload_n 1, 1) := by decide +kernel
theorem dX6_pairsOut_52 : decode cX6_pairsOut 52 = .ok (.ireturn, 1) := by decide +kernel
theorem dX6_counted_0 : decode cX6_counted 0 = .ok (.iload_n 1, 1) := by decide +kernel
theorem dX6_counted_1 : decode cX6_counted 1 = .ok (.tableswitch 87 0 7 #[47, 52, 57, 62, 67, 72, 77, 82], 47) := by decide +kernel
theorem dX6_counted_48 : decode cX6_counted 48 = .ok (.aload_n 0, 1) := by decide +kernel
theorem dX6_counted_49 : decode cX6_counted 49 = .ok (.getfield 64, 3) := by decide +kernel
theorem dX6_counted_52 : decode cX6_counted 52 = .ok (.ireturn, 1) := by decide +kernel
theorem dX6_counted_53 : decode cX6_counted 53 = .ok (.aload_n 0, 1) := by decide +kernel
theorem dX6_counted_54 : decode cX6_counted 54 = .ok (.getfield 71, 3) := by decide +kernel
theorem dX6_counted_57 : decode cX6_counted 57 = .ok (.ireturn, 1) := by decide +kernel
theorem dX6_counted_58 : decode cX6_counted 58 = .ok (.aload_n 0, 1) := by decide +kernel
theorem dX6_counted_59 : decode cX6_counted 59 = .ok (.invokevirtual 143, 3) := by decide +kernel
theorem dX6_counted_62 : decode cX6_counted 62 = .ok (.ireturn, 1) := by decide +kernel
theorem dX6_counted_63 : decode cX6_counted 63 = .ok (.aload_n 0, 1) := by decide +kernel
theorem dX6_counted_64 : decode cX6_counted 64 = .ok (.invokevirtual 147, 3) := by decide +kernel
theorem dX6_counted_67 : decode cX6_counted 67 = .ok (.ireturn, 1) := by decide +kernel
theorem dX6_counted_68 : decode cX6_counted 68 = .ok (.aload_n 0, 1) := by decide +kernel
theorem dX6_counted_69 : decode cX6_counted 69 = .ok (.getfield 120, 3) := by decide +kernel
theorem dX6_counted_72 : decode cX6_counted 72 = .ok (.ireturn, 1) := by decide +kernel
theorem dX6_counted_73 : decode cX6_counted 73 = .ok (.aload_n 0, 1) := by decide +kernel
theorem dX6_counted_74 : decode cX6_counted 74 = .ok (.invokevirtual 150, 3) := by decide +kernel
theorem dX6_counted_77 : decode cX6_counted 77 = .ok (.ireturn, 1) := by decide +kernel
theorem dX6_counted_78 : decode cX6_counted 78 = .ok (.aload_n 0, 1) := by decide +kernel
theorem dX6_counted_79 : decode cX6_counted 79 = .ok (.invokevirtual 153, 3) := by decide +kernel
theorem dX6_counted_82 : decode cX6_counted 82 = .ok (.ireturn, 1) := by decide +kernel
theorem dX6_counted_83 : decode cX6_counted 83 = .ok (.aload_n 0, 1) := by decide +kernel
theorem dX6_counted_84 : decode cX6_counted 84 = .ok (.invokevirtual 156, 3) := by decide +kernel
theorem dX6_counted_87 : decode cX6_counted 87 = .ok (.ireturn, 1) := by decide +kernel
theorem dX6_counted_88 : decode cX6_counted 88 = .ok (.aload_n 0, 1) := by decide +kernel
theorem dX6_counted_89 : decode cX6_counted 89 = .ok (.invokevirtual 159, 3) := by decide +kernel
theorem dX6_counted_92 : decode cX6_counted 92 = .ok (.ireturn, 1) := by decide +kernel
theorem dX6_count_0 : decode cX6_count 0 = .ok (.aload_n 0, 1) := by decide +kernel
theorem dX6_count_1 : decode cX6_count 1 = .ok (.iconst 0, 1) := by decide +kernel
theorem dX6_count_2 : decode cX6_count 2 = .ok (.putfield 60, 3) := by decide +kernel
theorem dX6_count_5 : decode cX6_count 5 = .ok (.iload_n 1, 1) := by decide +kernel
theorem dX6_count_6 : decode cX6_count 6 = .ok (.iconst 0, 1) := by decide +kernel
theorem dX6_count_7 : decode cX6_count 7 = .ok (.bipush 8, 2) := by decide +kernel
theorem dX6_count_9 : decode cX6_count 9 = .ok (.invokestatic 67, 3) := by decide +kernel
theorem dX6_count_12 : decode cX6_count 12 = .ok (.ifCond .eq 11, 3) := by decide +kernel
theorem dX6_count_15 : decode cX6_count 15 = .ok (.aload_n 0, 1) := by decide +kernel
theorem dX6_count_16 : decode cX6_count 16 = .ok (.iload_n 1, 1) := by decide +kernel
theorem dX6_count_17 : decode cX6_count 17 = .ok (.invokevirtual 162, 3) := by decide +kernel
theorem dX6_count_20 : decode cX6_count 20 = .ok (.goto 8, 3) := by decide +kernel
theorem dX6_count_23 : decode cX6_count 23 = .ok (.aload_n 0, 1) := by decide +kernel
theorem dX6_count_24 : decode cX6_count 24 = .ok (.iconst 1, 1) := by decide +kernel
theorem dX6_count_25 : decode cX6_count 25 = .ok (.invokevirtual 100, 3) := by decide +kernel
theorem dX6_count_28 : decode cX6_count 28 = .ok (.ireturn, 1) := by decide +kernel
theorem dX6_sizeOf_0 : decode cX6_sizeOf 0 = .ok (.iconst 0, 1) := by decide +kernel
theorem dX6_sizeOf_1 : decode cX6_sizeOf 1 = .ok (.istore_n 2, 1) := by decide +kernel
theorem dX6_sizeOf_2 : decode cX6_sizeOf 2 = .ok (.iconst 0, 1) := by decide +kernel
theorem dX6_sizeOf_3 : decode cX6_sizeOf 3 = .ok (.istore_n 3, 1) := by decide +kernel
theorem dX6_sizeOf_4 : decode cX6_sizeOf 4 = .ok (.iload_n 3, 1) := by decide +kernel
theorem dX6_sizeOf_5 : decode cX6_sizeOf 5 = .ok (.aload_n 0, 1) := by decide +kernel
theorem dX6_sizeOf_6 : decode cX6_sizeOf 6 = .ok (.getfield 64, 3) := by decide +kernel
theorem dX6_sizeOf_9 : decode cX6_sizeOf 9 = .ok (.if_icmp .ge 32, 3) := by decide +kernel
theorem dX6_sizeOf_12 : decode cX6_sizeOf 12 = .ok (.iload_n 2, 1) := by decide +kernel
theorem dX6_sizeOf_13 : decode cX6_sizeOf 13 = .ok (.aload_n 0, 1) := by decide +kernel
theorem dX6_sizeOf_14 : decode cX6_sizeOf 14 = .ok (.getfield 41, 3) := by decide +kernel
theorem dX6_sizeOf_17 : decode cX6_sizeOf 17 = .ok (.iload_n 3, 1) := by decide +kernel
theorem dX6_sizeOf_18 : decode cX6_sizeOf 18 = .ok (.iaload, 1) := by decide +kernel
theorem dX6_sizeOf_19 : decode cX6_sizeOf 19 = .ok (.aload_n 0, 1) := by decide +kernel
theorem dX6_sizeOf_20 : decode cX6_sizeOf 20 = .ok (.getfield 41, 3) := by decide +kernel
theorem dX6_sizeOf_23 : decode cX6_sizeOf 23 = .ok (.iload_n 1, 1) := by decide +kernel
theorem dX6_sizeOf_24 : decode cX6_sizeOf 24 = .ok (.iaload, 1) := by decide +kernel
theorem dX6_sizeOf_25 : decode cX6_sizeOf 25 = .ok (.if_icmp .ne 7, 3) := by decide +kernel
theorem dX6_sizeOf_28 : decode cX6_sizeOf 28 = .ok (.iconst 1, 1) := by decide +kernel
theorem dX6_sizeOf_29 : decode cX6_sizeOf 29 = .ok (.goto 4, 3) := by decide +kernel
theorem dX6_sizeOf_32 : decode cX6_sizeOf 32 = .ok (.iconst 0, 1) := by decide +kernel
theorem dX6_sizeOf_33 : decode cX6_sizeOf 33 = .ok (.iadd, 1) := by decide +kernel
theorem dX6_sizeOf_34 : decode cX6_sizeOf 34 = .ok (.istore_n 2, 1) := by decide +kernel
theorem dX6_sizeOf_35 : decode cX6_sizeOf 35 = .ok (.iinc 3 1, 3) := by decide +kernel
theorem dX6_sizeOf_38 : decode cX6_sizeOf 38 = .ok (.goto (-34), 3) := by decide +kernel
theorem dX6_sizeOf_41 : decode cX6_sizeOf 41 = .ok (.iload_n 2, 1) := by decide +kernel
theorem dX6_sizeOf_42 : decode cX6_sizeOf 42 = .ok (.ireturn, 1) := by decide +kernel
theorem dX6_findsIn_0 : decode cX6_findsIn 0 = .ok (.iconst 0, 1) := by decide +kernel
theorem dX6_findsIn_1 : decode cX6_findsIn 1 = .ok (.istore_n 2, 1) := by decide +kernel
theorem dX6_findsIn_2 : decode cX6_findsIn 2 = .ok (.iconst 0, 1) := by decide +kernel
theorem dX6_findsIn_3 : decode cX6_findsIn 3 = .ok (.istore_n 3, 1) := by decide +kernel
theorem dX6_findsIn_4 : decode cX6_findsIn 4 = .ok (.iload_n 3, 1) := by decide +kernel
theorem dX6_findsIn_5 : decode cX6_findsIn 5 = .ok (.aload_n 0, 1) := by decide +kernel
theorem dX6_findsIn_6 : decode cX6_findsIn 6 = .ok (.getfield 120, 3) := by decide +kernel
theorem dX6_findsIn_9 : decode cX6_findsIn 9 = .ok (.if_icmp .ge 30, 3) := by decide +kernel
theorem dX6_findsIn_12 : decode cX6_findsIn 12 = .ok (.iload_n 2, 1) := by decide +kernel
theorem dX6_findsIn_13 : decode cX6_findsIn 13 = .ok (.aload_n 0, 1) := by decide +kernel
theorem dX6_findsIn_14 : decode cX6_findsIn 14 = .ok (.getfield 38, 3) := by decide +kernel
theorem dX6_findsIn_17 : decode cX6_findsIn 17 = .ok (.bipush 7, 2) := by decide +kernel
theorem dX6_findsIn_19 : decode cX6_findsIn 19 = .ok (.iload_n 3, 1) := by decide +kernel
theorem dX6_findsIn_20 : decode cX6_findsIn 20 = .ok (.imul, 1) := by decide +kernel
theorem dX6_findsIn_21 : decode cX6_findsIn 21 = .ok (.iaload, 1) := by decide +kernel
theorem dX6_findsIn_22 : decode cX6_findsIn 22 = .ok (.iload_n 1, 1) := by decide +kernel
theorem dX6_findsIn_23 : decode cX6_findsIn 23 = .ok (.if_icmp .ne 7, 3) := by decide +kernel
theorem dX6_findsIn_26 : decode cX6_findsIn 26 = .ok (.iconst 1, 1) := by decide +kernel
theorem dX6_findsIn_27 : decode cX6_findsIn 27 = .ok (.goto 4, 3) := by decide +kernel
theorem dX6_findsIn_30 : decode cX6_findsIn 30 = .ok (.iconst 0, 1) := by decide +kernel
theorem dX6_findsIn_31 : decode cX6_findsIn 31 = .ok (.iadd, 1) := by decide +kernel
theorem dX6_findsIn_32 : decode cX6_findsIn 32 = .ok (.istore_n 2, 1) := by decide +kernel
theorem dX6_findsIn_33 : decode cX6_findsIn 33 = .ok (.iinc 3 1, 3) := by decide +kernel
theorem dX6_findsIn_36 : decode cX6_findsIn 36 = .ok (.goto (-32), 3) := by decide +kernel
theorem dX6_findsIn_39 : decode cX6_findsIn 39 = .ok (.iload_n 2, 1) := by decide +kernel
theorem dX6_findsIn_40 : decode cX6_findsIn 40 = .ok (.ireturn, 1) := by decide +kernel
theorem dX6_unitTold_0 : decode cX6_unitTold 0 = .ok (.aload_n 0, 1) := by decide +kernel
theorem dX6_unitTold_1 : decode cX6_unitTold 1 = .ok (.getfield 41, 3) := by decide +kernel
theorem dX6_unitTold_4 : decode cX6_unitTold 4 = .ok (.iload_n 1, 1) := by decide +kernel
theorem dX6_unitTold_5 : decode cX6_unitTold 5 = .ok (.iaload, 1) := by decide +kernel
theorem dX6_unitTold_6 : decode cX6_unitTold 6 = .ok (.istore_n 3, 1) := by decide +kernel
theorem dX6_unitTold_7 : decode cX6_unitTold 7 = .ok (.bipush 10, 2) := by decide +kernel
theorem dX6_unitTold_9 : decode cX6_unitTold 9 = .ok (.newarray .int, 2) := by decide +kernel
theorem dX6_unitTold_11 : decode cX6_unitTold 11 = .ok (.dup, 1) := by decide +kernel
theorem dX6_unitTold_12 : decode cX6_unitTold 12 = .ok (.iconst 0, 1) := by decide +kernel
theorem dX6_unitTold_13 : decode cX6_unitTold 13 = .ok (.aload_n 0, 1) := by decide +kernel
theorem dX6_unitTold_14 : decode cX6_unitTold 14 = .ok (.getfield 9, 3) := by decide +kernel
theorem dX6_unitTold_17 : decode cX6_unitTold 17 = .ok (.iload_n 1, 1) := by decide +kernel
theorem dX6_unitTold_18 : decode cX6_unitTold 18 = .ok (.iaload, 1) := by decide +kernel
theorem dX6_unitTold_19 : decode cX6_unitTold 19 = .ok (.iastore, 1) := by decide +kernel
theorem dX6_unitTold_20 : decode cX6_unitTold 20 = .ok (.dup, 1) := by decide +kernel
theorem dX6_unitTold_21 : decode cX6_unitTold 21 = .ok (.iconst 1, 1) := by decide +kernel
theorem dX6_unitTold_22 : decode cX6_unitTold 22 = .ok (.iload_n 3, 1) := by decide +kernel
theorem dX6_unitTold_23 : decode cX6_unitTold 23 = .ok (.iastore, 1) := by decide +kernel
theorem dX6_unitTold_24 : decode cX6_unitTold 24 = .ok (.dup, 1) := by decide +kernel
theorem dX6_unitTold_25 : decode cX6_unitTold 25 = .ok (.iconst 2, 1) := by decide +kernel
theorem dX6_unitTold_26 : decode cX6_unitTold 26 = .ok (.aload_n 0, 1) := by decide +kernel
theorem dX6_unitTold_27 : decode cX6_unitTold 27 = .ok (.iload_n 1, 1) := by decide +kernel
theorem dX6_unitTold_28 : decode cX6_unitTold 28 = .ok (.invokevirtual 165, 3) := by decide +kernel
theorem dX6_unitTold_31 : decode cX6_unitTold 31 = .ok (.iastore, 1) := by decide +kernel
theorem dX6_unitTold_32 : decode cX6_unitTold 32 = .ok (.dup, 1) := by decide +kernel
theorem dX6_unitTold_33 : decode cX6_unitTold 33 = .ok (.iconst 3, 1) := by decide +kernel
theorem dX6_unitTold_34 : decode cX6_unitTold 34 = .ok (.aload_n 0, 1) := by decide +kernel
theorem dX6_unitTold_35 : decode cX6_unitTold 35 = .ok (.getfield 54, 3) := by decide +kernel
theorem dX6_unitTold_38 : decode cX6_unitTold 38 = .ok (.iload_n 3, 1) := by decide +kernel
theorem dX6_unitTold_39 : decode cX6_unitTold 39 = .ok (.iaload, 1) := by decide +kernel
theorem dX6_unitTold_40 : decode cX6_unitTold 40 = .ok (.iastore, 1) := by decide +kernel
theorem dX6_unitTold_41 : decode cX6_unitTold 41 = .ok (.dup, 1) := by decide +kernel
theorem dX6_unitTold_42 : decode cX6_unitTold 42 = .ok (.iconst 4, 1) := by decide +kernel
theorem dX6_unitTold_43 : decode cX6_unitTold 43 = .ok (.aload_n 0, 1) := by decide +kernel
theorem dX6_unitTold_44 : decode cX6_unitTold 44 = .ok (.getfield 57, 3) := by decide +kernel
theorem dX6_unitTold_47 : decode cX6_unitTold 47 = .ok (.iload_n 3, 1) := by decide +kernel
theorem dX6_unitTold_48 : decode cX6_unitTold 48 = .ok (.iaload, 1) := by decide +kernel
theorem dX6_unitTold_49 : decode cX6_unitTold 49 = .ok (.iastore, 1) := by decide +kernel
theorem dX6_unitTold_50 : decode cX6_unitTold 50 = .ok (.dup, 1) := by decide +kernel
theorem dX6_unitTold_51 : decode cX6_unitTold 51 = .ok (.iconst 5, 1) := by decide +kernel
theorem dX6_unitTold_52 : decode cX6_unitTold 52 = .ok (.aload_n 0, 1) := by decide +kernel
theorem dX6_unitTold_53 : decode cX6_unitTold 53 = .ok (.getfield 44, 3) := by decide +kernel
theorem dX6_unitTold_56 : decode cX6_unitTold 56 = .ok (.iload_n 3, 1) := by decide +kernel
theorem dX6_unitTold_57 : decode cX6_unitTold 57 = .ok (.laload, 1) := by decide +kernel
theorem dX6_unitTold_58 : decode cX6_unitTold 58 = .ok (.invokestatic 130, 3) := by decide +kernel
theorem dX6_unitTold_61 : decode cX6_unitTold 61 = .ok (.iastore, 1) := by decide +kernel
theorem dX6_unitTold_62 : decode cX6_unitTold 62 = .ok (.dup, 1) := by decide +kernel
theorem dX6_unitTold_63 : decode cX6_unitTold 63 = .ok (.bipush 6, 2) := by decide +kernel
theorem dX6_unitTold_65 : decode cX6_unitTold 65 = .ok (.aload_n 0, 1) := by decide +kernel
theorem dX6_unitTold_66 : decode cX6_unitTold 66 = .ok (.getfield 48, 3) := by decide +kernel
theorem dX6_unitTold_69 : decode cX6_unitTold 69 = .ok (.iload_n 3, 1) := by decide +kernel
theorem dX6_unitTold_70 : decode cX6_unitTold 70 = .ok (.laload, 1) := by decide +kernel
theorem dX6_unitTold_71 : decode cX6_unitTold 71 = .ok (.invokestatic 130, 3) := by decide +kernel
theorem dX6_unitTold_74 : decode cX6_unitTold 74 = .ok (.iastore, 1) := by decide +kernel
theorem dX6_unitTold_75 : decode cX6_unitTold 75 = .ok (.dup, 1) := by decide +kernel
theorem dX6_unitTold_76 : decode cX6_unitTold 76 = .ok (.bipush 7, 2) := by decide +kernel
theorem dX6_unitTold_78 : decode cX6_unitTold 78 = .ok (.aload_n 0, 1) := by decide +kernel
theorem dX6_unitTold_79 : decode cX6_unitTold 79 = .ok (.getfield 23, 3) := by decide +kernel
theorem dX6_unitTold_82 : decode cX6_unitTold 82 = .ok (.iload_n 1, 1) := by decide +kernel
theorem dX6_unitTold_83 : decode cX6_unitTold 83 = .ok (.baload, 1) := by decide +kernel
theorem dX6_unitTold_84 : decode cX6_unitTold 84 = .ok (.ifCond .eq 7, 3) := by decide +kernel
theorem dX6_unitTold_87 : decode cX6_unitTold 87 = .ok (.iconst 1, 1) := by decide +kernel
theorem dX6_unitTold_88 : decode cX6_unitTold 88 = .ok (.goto 4, 3) := by decide +kernel
theorem dX6_unitTold_91 : decode cX6_unitTold 91 = .ok (.iconst 0, 1) := by decide +kernel
theorem dX6_unitTold_92 : decode cX6_unitTold 92 = .ok (.iastore, 1) := by decide +kernel
theorem dX6_unitTold_93 : decode cX6_unitTold 93 = .ok (.dup, 1) := by decide +kernel
theorem dX6_unitTold_94 : decode cX6_unitTold 94 = .ok (.bipush 8, 2) := by decide +kernel
theorem dX6_unitTold_96 : decode cX6_unitTold 96 = .ok (.aload_n 0, 1) := by decide +kernel
theorem dX6_unitTold_97 : decode cX6_unitTold 97 = .ok (.getfield 26, 3) := by decide +kernel
theorem dX6_unitTold_100 : decode cX6_unitTold 100 = .ok (.iload_n 1, 1) := by decide +kernel
theorem dX6_unitTold_101 : decode cX6_unitTold 101 = .ok (.iaload, 1) := by decide +kernel
theorem dX6_unitTold_102 : decode cX6_unitTold 102 = .ok (.iastore, 1) := by decide +kernel
theorem dX6_unitTold_103 : decode cX6_unitTold 103 = .ok (.dup, 1) := by decide +kernel
theorem dX6_unitTold_104 : decode cX6_unitTold 104 = .ok (.bipush 9, 2) := by decide +kernel
theorem dX6_unitTold_106 : decode cX6_unitTold 106 = .ok (.aload_n 0, 1) := by decide +kernel
theorem dX6_unitTold_107 : decode cX6_unitTold 107 = .ok (.iload_n 1, 1) := by decide +kernel
theorem dX6_unitTold_108 : decode cX6_unitTold 108 = .ok (.invokevirtual 168, 3) := by decide +kernel
theorem dX6_unitTold_111 : decode cX6_unitTold 111 = .ok (.iastore, 1) := by decide +kernel
theorem dX6_unitTold_112 : decode cX6_unitTold 112 = .ok (.astore 4, 2) := by decide +kernel
theorem dX6_unitTold_114 : decode cX6_unitTold 114 = .ok (.aload 4, 2) := by decide +kernel
theorem dX6_unitTold_116 : decode cX6_unitTold 116 = .ok (.iload_n 2, 1) := by decide +kernel
theorem dX6_unitTold_117 : decode cX6_unitTold 117 = .ok (.iaload, 1) := by decide +kernel
theorem dX6_unitTold_118 : decode cX6_unitTold 118 = .ok (.ireturn, 1) := by decide +kernel
theorem dX6_unit_0 : decode cX6_unit 0 = .ok (.aload_n 0, 1) := by decide +kernel
theorem dX6_unit_1 : decode cX6_unit 1 = .ok (.iconst 0, 1) := by decide +kernel
theorem dX6_unit_2 : decode cX6_unit 2 = .ok (.putfield 60, 3) := by decide +kernel
theorem dX6_unit_5 : decode cX6_unit 5 = .ok (.aload_n 0, 1) := by decide +kernel
theorem dX6_unit_6 : decode cX6_unit 6 = .ok (.iload_n 1, 1) := by decide +kernel
theorem dX6_unit_7 : decode cX6_unit 7 = .ok (.invokevirtual 107, 3) := by decide +kernel
theorem dX6_unit_10 : decode cX6_unit 10 = .ok (.ifCond .eq 22, 3) := by decide +kernel
theorem dX6_unit_13 : decode cX6_unit 13 = .ok (.iload_n 2, 1) := by decide +kernel
theorem dX6_unit_14 : decode cX6_unit 14 = .ok (.iconst 0, 1) := by decide +kernel
theorem dX6_unit_15 : decode cX6_unit 15 = .ok (.bipush 9, 2) := by decide +kernel
theorem dX6_unit_17 : decode cX6_unit 17 = .ok (.invokestatic 67, 3) := by decide +kernel
theorem dX6_unit_20 : decode cX6_unit 20 = .ok (.ifCond .eq 12, 3) := by decide +kernel
theorem dX6_unit_23 : decode cX6_unit 23 = .ok (.aload_n 0, 1) := by decide +kernel
theorem dX6_unit_24 : decode cX6_unit 24 = .ok (.iload_n 1, 1) := by decide +kernel
theorem dX6_unit_25 : decode cX6_unit 25 = .ok (.iload_n 2, 1) := by decide +kernel
theorem dX6_unit_26 : decode cX6_unit 26 = .ok (.invokevirtual 171, 3) := by decide +kernel
theorem dX6_unit_29 : decode cX6_unit 29 = .ok (.goto 8, 3) := by decide +kernel
theorem dX6_unit_32 : decode cX6_unit 32 = .ok (.aload_n 0, 1) := by decide +kernel
theorem dX6_unit_33 : decode cX6_unit 33 = .ok (.iconst 1, 1) := by decide +kernel
theorem dX6_unit_34 : decode cX6_unit 34 = .ok (.invokevirtual 100, 3) := by decide +kernel
theorem dX6_unit_37 : decode cX6_unit 37 = .ok (.ireturn, 1) := by decide +kernel
theorem dX6_order_0 : decode cX6_order 0 = .ok (.aload_n 0, 1) := by decide +kernel
theorem dX6_order_1 : decode cX6_order 1 = .ok (.iconst 0, 1) := by decide +kernel
theorem dX6_order_2 : decode cX6_order 2 = .ok (.putfield 60, 3) := by decide +kernel
theorem dX6_order_5 : decode cX6_order 5 = .ok (.aload_n 0, 1) := by decide +kernel
theorem dX6_order_6 : decode cX6_order 6 = .ok (.iload_n 1, 1) := by decide +kernel
theorem dX6_order_7 : decode cX6_order 7 = .ok (.invokevirtual 107, 3) := by decide +kernel
theorem dX6_order_10 : decode cX6_order 10 = .ok (.ifCond .eq 11, 3) := by decide +kernel
theorem dX6_order_13 : decode cX6_order 13 = .ok (.aload_n 0, 1) := by decide +kernel
theorem dX6_order_14 : decode cX6_order 14 = .ok (.iload_n 2, 1) := by decide +kernel
theorem dX6_order_15 : decode cX6_order 15 = .ok (.invokevirtual 107, 3) := by decide +kernel
theorem dX6_order_18 : decode cX6_order 18 = .ok (.ifCond .ne 9, 3) := by decide +kernel
theorem dX6_order_21 : decode cX6_order 21 = .ok (.aload_n 0, 1) := by decide +kernel
theorem dX6_order_22 : decode cX6_order 22 = .ok (.iconst 1, 1) := by decide +kernel
theorem dX6_order_23 : decode cX6_order 23 = .ok (.invokevirtual 100, 3) := by decide +kernel
theorem dX6_order_26 : decode cX6_order 26 = .ok (.ireturn, 1) := by decide +kernel
theorem dX6_order_27 : decode cX6_order 27 = .ok (.aload_n 0, 1) := by decide +kernel
theorem dX6_order_28 : decode cX6_order 28 = .ok (.getfield 41, 3) := by decide +kernel
theorem dX6_order_31 : decode cX6_order 31 = .ok (.iload_n 1, 1) := by decide +kernel
theorem dX6_order_32 : decode cX6_order 32 = .ok (.iaload, 1) := by decide +kernel
theorem dX6_order_33 : decode cX6_order 33 = .ok (.aload_n 0, 1) := by decide +kernel
theorem dX6_order_34 : decode cX6_order 34 = .ok (.getfield 41, 3) := by decide +kernel
theorem dX6_order_37 : decode cX6_order 37 = .ok (.iload_n 2, 1) := by decide +kernel
theorem dX6_order_38 : decode cX6_order 38 = .ok (.iaload, 1) := by decide +kernel
theorem dX6_order_39 : decode cX6_order 39 = .ok (.if_icmp .ne 7, 3) := by decide +kernel
theorem dX6_order_42 : decode cX6_order 42 = .ok (.iconst 0, 1) := by decide +kernel
theorem dX6_order_43 : decode cX6_order 43 = .ok (.goto 58, 3) := by decide +kernel
theorem dX6_order_46 : decode cX6_order 46 = .ok (.aload_n 0, 1) := by decide +kernel
theorem dX6_order_47 : decode cX6_order 47 = .ok (.getfield 44, 3) := by decide +kernel
theorem dX6_order_50 : decode cX6_order 50 = .ok (.aload_n 0, 1) := by decide +kernel
theorem dX6_order_51 : decode cX6_order 51 = .ok (.getfield 41, 3) := by decide +kernel
theorem dX6_order_54 : decode cX6_order 54 = .ok (.iload_n 1, 1) := by decide +kernel
theorem dX6_order_55 : decode cX6_order 55 = .ok (.iaload, 1) := by decide +kernel
theorem dX6_order_56 : decode cX6_order 56 = .ok (.laload, 1) := by decide +kernel
theorem dX6_order_57 : decode cX6_order 57 = .ok (.aload_n 0, 1) := by decide +kernel
theorem dX6_order_58 : decode cX6_order 58 = .ok (.getfield 41, 3) := by decide +kernel
theorem dX6_order_61 : decode cX6_order 61 = .ok (.iload_n 2, 1) := by decide +kernel
theorem dX6_order_62 : decode cX6_order 62 = .ok (.iaload, 1) := by decide +kernel
theorem dX6_order_63 : decode cX6_order 63 = .ok (.invokestatic 83, 3) := by decide +kernel
theorem dX6_order_66 : decode cX6_order 66 = .ok (.ifCond .eq 7, 3) := by decide +kernel
theorem dX6_order_69 : decode cX6_order 69 = .ok (.iconst 1, 1) := by decide +kernel
theorem dX6_order_70 : decode cX6_order 70 = .ok (.goto 31, 3) := by decide +kernel
theorem dX6_order_73 : decode cX6_order 73 = .ok (.aload_n 0, 1) := by decide +kernel
theorem dX6_order_74 : decode cX6_order 74 = .ok (.getfield 44, 3) := by decide +kernel
theorem dX6_order_77 : decode cX6_order 77 = .ok (.aload_n 0, 1) := by decide +kernel
theorem dX6_order_78 : decode cX6_order 78 = .ok (.getfield 41, 3) := by decide +kernel
theorem dX6_order_81 : decode cX6_order 81 = .ok (.iload_n 2, 1) := by decide +kernel
theorem dX6_order_82 : decode cX6_order 82 = .ok (.iaload, 1) := by decide +kernel
theorem dX6_order_83 : decode cX6_order 83 = .ok (.laload, 1) := by decide +kernel
theorem dX6_order_84 : decode cX6_order 84 = .ok (.aload_n 0, 1) := by decide +kernel
theorem dX6_order_85 : decode cX6_order 85 = .ok (.getfield 41, 3) := by decide +kernel
theorem dX6_order_88 : decode cX6_order 88 = .ok (.iload_n 1, 1) := by decide +kernel
theorem dX6_order_89 : decode cX6_order 89 = .ok (.iaload, 1) := by decide +kernel
theorem dX6_order_90 : decode cX6_order 90 = .ok (.invokestatic 83, 3) := by decide +kernel
theorem dX6_order_93 : decode cX6_order 93 = .ok (.ifCond .eq 7, 3) := by decide +kernel
theorem dX6_order_96 : decode cX6_order 96 = .ok (.iconst (-1), 1) := by decide +kernel
theorem dX6_order_97 : decode cX6_order 97 = .ok (.goto 4, 3) := by decide +kernel
theorem dX6_order_100 : decode cX6_order 100 = .ok (.iconst 2, 1) := by decide +kernel
theorem dX6_order_101 : decode cX6_order 101 = .ok (.ireturn, 1) := by decide +kernel
theorem dX6_isLinked_0 : decode cX6_isLinked 0 = .ok (.aload_n 0, 1) := by decide +kernel
theorem dX6_isLinked_1 : decode cX6_isLinked 1 = .ok (.aload_n 0, 1) := by decide +kernel
theorem dX6_isLinked_2 : decode cX6_isLinked 2 = .ok (.iload_n 1, 1) := by decide +kernel
theorem dX6_isLinked_3 : decode cX6_isLinked 3 = .ok (.invokevirtual 107, 3) := by decide +kernel
theorem dX6_isLinked_6 : decode cX6_isLinked 6 = .ok (.ifCond .eq 15, 3) := by decide +kernel
theorem dX6_isLinked_9 : decode cX6_isLinked 9 = .ok (.aload_n 0, 1) := by decide +kernel
theorem dX6_isLinked_10 : decode cX6_isLinked 10 = .ok (.iload_n 2, 1) := by decide +kernel
theorem dX6_isLinked_11 : decode cX6_isLinked 11 = .ok (.invokevirtual 107, 3) := by decide +kernel
theorem dX6_isLinked_14 : decode cX6_isLinked 14 = .ok (.ifCond .eq 7, 3) := by decide +kernel
theorem dX6_isLinked_17 : decode cX6_isLinked 17 = .ok (.iconst 0, 1) := by decide +kernel
theorem dX6_isLinked_18 : decode cX6_isLinked 18 = .ok (.goto 4, 3) := by decide +kernel
theorem dX6_isLinked_21 : decode cX6_isLinked 21 = .ok (.iconst 1, 1) := by decide +kernel
theorem dX6_isLinked_22 : decode cX6_isLinked 22 = .ok (.putfield 60, 3) := by decide +kernel
theorem dX6_isLinked_25 : decode cX6_isLinked 25 = .ok (.aload_n 0, 1) := by decide +kernel
theorem dX6_isLinked_26 : decode cX6_isLinked 26 = .ok (.getfield 60, 3) := by decide +kernel
theorem dX6_isLinked_29 : decode cX6_isLinked 29 = .ok (.ifCond .ne 30, 3) := by decide +kernel
theorem dX6_isLinked_32 : decode cX6_isLinked 32 = .ok (.aload_n 0, 1) := by decide +kernel
theorem dX6_isLinked_33 : decode cX6_isLinked 33 = .ok (.getfield 51, 3) := by decide +kernel
theorem dX6_isLinked_36 : decode cX6_isLinked 36 = .ok (.aload_n 0, 1) := by decide +kernel
theorem dX6_isLinked_37 : decode cX6_isLinked 37 = .ok (.getfield 41, 3) := by decide +kernel
theorem dX6_isLinked_40 : decode cX6_isLinked 40 = .ok (.iload_n 1, 1) := by decide +kernel
theorem dX6_isLinked_41 : decode cX6_isLinked 41 = .ok (.iaload, 1) := by decide +kernel
theorem dX6_isLinked_42 : decode cX6_isLinked 42 = .ok (.laload, 1) := by decide +kernel
theorem dX6_isLinked_43 : decode cX6_isLinked 43 = .ok (.aload_n 0, 1) := by decide +kernel
theorem dX6_isLinked_44 : decode cX6_isLinked 44 = .ok (.getfield 41, 3) := by decide +kernel
theorem dX6_isLinked_47 : decode cX6_isLinked 47 = .ok (.iload_n 2, 1) := by decide +kernel
theorem dX6_isLinked_48 : decode cX6_isLinked 48 = .ok (.iaload, 1) := by decide +kernel
theorem dX6_isLinked_49 : decode cX6_isLinked 49 = .ok (.invokestatic 83, 3) := by decide +kernel
theorem dX6_isLinked_52 : decode cX6_isLinked 52 = .ok (.ifCond .eq 7, 3) := by decide +kernel
theorem dX6_isLinked_55 : decode cX6_isLinked 55 = .ok (.iconst 1, 1) := by decide +kernel
theorem dX6_isLinked_56 : decode cX6_isLinked 56 = .ok (.goto 4, 3) := by decide +kernel
theorem dX6_isLinked_59 : decode cX6_isLinked 59 = .ok (.iconst 0, 1) := by decide +kernel
theorem dX6_isLinked_60 : decode cX6_isLinked 60 = .ok (.ireturn, 1) := by decide +kernel
theorem dX6_row_0 : decode cX6_row 0 = .ok (.aload_n 0, 1) := by decide +kernel
theorem dX6_row_1 : decode cX6_row 1 = .ok (.iconst 0, 1) := by decide +kernel
theorem dX6_row_2 : decode cX6_row 2 = .ok (.putfield 60, 3) := by decide +kernel
theorem dX6_row_5 : decode cX6_row 5 = .ok (.iload_n 1, 1) := by decide +kernel
theorem dX6_row_6 : decode cX6_row 6 = .ok (.iconst 0, 1) := by decide +kernel
theorem dX6_row_7 : decode cX6_row 7 = .ok (.bipush 39, 2) := by decide +kernel
theorem dX6_row_9 : decode cX6_row 9 = .ok (.invokestatic 67, 3) := by decide +kernel
theorem dX6_row_12 : decode cX6_row 12 = .ok (.ifCond .eq 13, 3) := by decide +kernel
theorem dX6_row_15 : decode cX6_row 15 = .ok (.iload_n 3, 1) := by decide +kernel
theorem dX6_row_16 : decode cX6_row 16 = .ok (.iconst 0, 1) := by decide +kernel
theorem dX6_row_17 : decode cX6_row 17 = .ok (.bipush 39, 2) := by decide +kernel
theorem dX6_row_19 : decode cX6_row 19 = .ok (.invokestatic 67, 3) := by decide +kernel
theorem dX6_row_22 : decode cX6_row 22 = .ok (.ifCond .ne 9, 3) := by decide +kernel
theorem dX6_row_25 : decode cX6_row 25 = .ok (.aload_n 0, 1) := by decide +kernel
theorem dX6_row_26 : decode cX6_row 26 = .ok (.iconst 1, 1) := by decide +kernel
theorem dX6_row_27 : decode cX6_row 27 = .ok (.invokevirtual 100, 3) := by decide +kernel
theorem dX6_row_30 : decode cX6_row 30 = .ok (.ireturn, 1) := by decide +kernel
theorem dX6_row_31 : decode cX6_row 31 = .ok (.iload_n 3, 1) := by decide +kernel
theorem dX6_row_32 : decode cX6_row 32 = .ok (.istore 4, 2) := by decide +kernel
theorem dX6_row_34 : decode cX6_row 34 = .ok (.iconst 0, 1) := by decide +kernel
theorem dX6_row_35 : decode cX6_row 35 = .ok (.istore 5, 2) := by decide +kernel
theorem dX6_row_37 : decode cX6_row 37 = .ok (.iload 5, 2) := by decide +kernel
theorem dX6_row_39 : decode cX6_row 39 = .ok (.aload_n 0, 1) := by decide +kernel
theorem dX6_row_40 : decode cX6_row 40 = .ok (.getfield 64, 3) := by decide +kernel
theorem dX6_row_43 : decode cX6_row 43 = .ok (.if_icmp .ge 57, 3) := by decide +kernel
theorem dX6_row_46 : decode cX6_row 46 = .ok (.aload_n 0, 1) := by decide +kernel
theorem dX6_row_47 : decode cX6_row 47 = .ok (.iload 5, 2) := by decide +kernel
theorem dX6_row_49 : decode cX6_row 49 = .ok (.invokevirtual 127, 3) := by decide +kernel
theorem dX6_row_52 : decode cX6_row 52 = .ok (.ifCond .eq 42, 3) := by decide +kernel
theorem dX6_row_55 : decode cX6_row 55 = .ok (.iload_n 2, 1) := by decide +kernel
theorem dX6_row_56 : decode cX6_row 56 = .ok (.ifCond .eq 13, 3) := by decide +kernel
theorem dX6_row_59 : decode cX6_row 59 = .ok (.aload_n 0, 1) := by decide +kernel
theorem dX6_row_60 : decode cX6_row 60 = .ok (.getfield 54, 3) := by decide +kernel
theorem dX6_row_63 : decode cX6_row 63 = .ok (.iload 5, 2) := by decide +kernel
theorem dX6_row_65 : decode cX6_row 65 = .ok (.iaload, 1) := by decide +kernel
theorem dX6_row_66 : decode cX6_row 66 = .ok (.goto 10, 3) := by decide +kernel
theorem dX6_row_69 : decode cX6_row 69 = .ok (.aload_n 0, 1) := by decide +kernel
theorem dX6_row_70 : decode cX6_row 70 = .ok (.getfield 57, 3) := by decide +kernel
theorem dX6_row_73 : decode cX6_row 73 = .ok (.iload 5, 2) := by decide +kernel
theorem dX6_row_75 : decode cX6_row 75 = .ok (.iaload, 1) := by decide +kernel
theorem dX6_row_76 : decode cX6_row 76 = .ok (.iload_n 1, 1) := by decide +kernel
theorem dX6_row_77 : decode cX6_row 77 = .ok (.if_icmp .eq 6, 3) := by decide +kernel
theorem dX6_row_80 : decode cX6_row 80 = .ok (.goto 14, 3) := by decide +kernel
theorem dX6_row_83 : decode cX6_row 83 = .ok (.iload 4, 2) := by decide +kernel
theorem dX6_row_85 : decode cX6_row 85 = .ok (.ifCond .ne 6, 3) := by decide +kernel
theorem dX6_row_88 : decode cX6_row 88 = .ok (.iload 5, 2) := by decide +kernel
theorem dX6_row_90 : decode cX6_row 90 = .ok (.ireturn, 1) := by decide +kernel
theorem dX6_row_91 : decode cX6_row 91 = .ok (.iinc 4 (-1), 3) := by decide +kernel
theorem dX6_row_94 : decode cX6_row 94 = .ok (.iinc 5 1, 3) := by decide +kernel
theorem dX6_row_97 : decode cX6_row 97 = .ok (.goto (-60), 3) := by decide +kernel
theorem dX6_row_100 : decode cX6_row 100 = .ok (.iconst (-1), 1) := by decide +kernel
theorem dX6_row_101 : decode cX6_row 101 = .ok (.ireturn, 1) := by decide +kernel
theorem dX6_farTo_0 : decode cX6_farTo 0 = .ok (.bipush 40, 2) := by decide +kernel
theorem dX6_farTo_2 : decode cX6_farTo 2 = .ok (.newarray .int, 2) := by decide +kernel
theorem dX6_farTo_4 : decode cX6_farTo 4 = .ok (.astore_n 2, 1) := by decide +kernel
theorem dX6_farTo_5 : decode cX6_farTo 5 = .ok (.iconst 0, 1) := by decide +kernel
theorem dX6_farTo_6 : decode cX6_farTo 6 = .ok (.istore_n 3, 1) := by decide +kernel
theorem dX6_farTo_7 : decode cX6_farTo 7 = .ok (.iload_n 3, 1) := by decide +kernel
theorem dX6_farTo_8 : decode cX6_farTo 8 = .ok (.bipush 40, 2) := by decide +kernel
theorem dX6_farTo_10 : decode cX6_farTo 10 = .ok (.if_icmp .ge 22, 3) := by decide +kernel
theorem dX6_farTo_13 : decode cX6_farTo 13 = .ok (.aload_n 2, 1) := by decide +kernel
theorem dX6_farTo_14 : decode cX6_farTo 14 = .ok (.iload_n 3, 1) := by decide +kernel
theorem dX6_farTo_15 : decode cX6_farTo 15 = .ok (.iload_n 3, 1) := by decide +kernel
theorem dX6_farTo_16 : decode cX6_farTo 16 = .ok (.iload_n 1, 1) := by decide +kernel
theorem dX6_farTo_17 : decode cX6_farTo 17 = .ok (.if_icmp .ne 7, 3) := by decide +kernel
theorem dX6_farTo_20 : decode cX6_farTo 20 = .ok (.iconst 0, 1) := by decide +kernel
theorem dX6_farTo_21 : decode cX6_farTo 21 = .ok (.goto 4, 3) := by decide +kernel
theorem dX6_farTo_24 : decode cX6_farTo 24 = .ok (.iconst (-1), 1) := by decide +kernel
theorem dX6_farTo_25 : decode cX6_farTo 25 = .ok (.iastore, 1) := by decide +kernel
theorem dX6_farTo_26 : decode cX6_farTo 26 = .ok (.iinc 3 1, 3) := by decide +kernel
theorem dX6_farTo_29 : decode cX6_farTo 29 = .ok (.goto (-22), 3) := by decide +kernel
theorem dX6_farTo_32 : decode cX6_farTo 32 = .ok (.iconst 0, 1) := by decide +kernel
theorem dX6_farTo_33 : decode cX6_farTo 33 = .ok (.istore_n 3, 1) := by decide +kernel
theorem dX6_farTo_34 : decode cX6_farTo 34 = .ok (.iload_n 3, 1) := by decide +kernel
theorem dX6_farTo_35 : decode cX6_farTo 35 = .ok (.aload_n 0, 1) := by decide +kernel
theorem dX6_farTo_36 : decode cX6_farTo 36 = .ok (.getfield 64, 3) := by decide +kernel
theorem dX6_farTo_39 : decode cX6_farTo 39 = .ok (.if_icmp .ge 85, 3) := by decide +kernel
theorem dX6_farTo_42 : decode cX6_farTo 42 = .ok (.iconst 0, 1) := by decide +kernel
theorem dX6_farTo_43 : decode cX6_farTo 43 = .ok (.istore 4, 2) := by decide +kernel
theorem dX6_farTo_45 : decode cX6_farTo 45 = .ok (.iload 4, 2) := by decide +kernel
theorem dX6_farTo_47 : decode cX6_farTo 47 = .ok (.aload_n 0, 1) := by decide +kernel
theorem dX6_farTo_48 : decode cX6_farTo 48 = .ok (.getfield 64, 3) := by decide +kernel
theorem dX6_farTo_51 : decode cX6_farTo 51 = .ok (.if_icmp .ge 67, 3) := by decide +kernel
theorem dX6_farTo_54 : decode cX6_farTo 54 = .ok (.iconst 0, 1) := by decide +kernel
theorem dX6_farTo_55 : decode cX6_farTo 55 = .ok (.istore 5, 2) := by decide +kernel
theorem dX6_farTo_57 : decode cX6_farTo 57 = .ok (.iload 5, 2) := by decide +kernel
theorem dX6_farTo_59 : decode cX6_farTo 59 = .ok (.aload_n 0, 1) := by decide +kernel
theorem dX6_farTo_60 : decode cX6_farTo 60 = .ok (.getfield 64, 3) := by decide +kernel
theorem dX6_farTo_63 : decode cX6_farTo 63 = .ok (.if_icmp .ge 49, 3) := by decide +kernel
theorem dX6_farTo_66 : decode cX6_farTo 66 = .ok (.aload_n 0, 1) := by decide +kernel
theorem dX6_farTo_67 : decode cX6_farTo 67 = .ok (.getfield 51, 3) := by decide +kernel
theorem dX6_farTo_70 : decode cX6_farTo 70 = .ok (.iload 4, 2) := by decide +kernel
theorem dX6_farTo_72 : decode cX6_farTo 72 = .ok (.laload, 1) := by decide +kernel
theorem dX6_farTo_73 : decode cX6_farTo 73 = .ok (.iload 5, 2) := by decide +kernel
theorem dX6_farTo_75 : decode cX6_farTo 75 = .ok (.invokestatic 83, 3) := by decide +kernel
theorem dX6_farTo_78 : decode cX6_farTo 78 = .ok (.ifCond .eq 28, 3) := by decide +kernel
theorem dX6_farTo_81 : decode cX6_farTo 81 = .ok (.aload_n 2, 1) := by decide +kernel
theorem dX6_farTo_82 : decode cX6_farTo 82 = .ok (.iload 5, 2) := by decide +kernel
theorem dX6_farTo_84 : decode cX6_farTo 84 = .ok (.iaload, 1) := by decide +kernel
theorem dX6_farTo_85 : decode cX6_farTo 85 = .ok (.iconst (-1), 1) := by decide +kernel
theorem dX6_farTo_86 : decode cX6_farTo 86 = .ok (.if_icmp .eq 20, 3) := by decide +kernel
theorem dX6_farTo_89 : decode cX6_farTo 89 = .ok (.aload_n 2, 1) := by decide +kernel
theorem dX6_farTo_90 : decode cX6_farTo 90 = .ok (.iload 4, 2) := by decide +kernel
theorem dX6_farTo_92 : decode cX6_farTo 92 = .ok (.aload_n 2, 1) := by decide +kernel
theorem dX6_farTo_93 : decode cX6_farTo 93 = .ok (.iload 4, 2) := by decide +kernel
theorem dX6_farTo_95 : decode cX6_farTo 95 = .ok (.iaload, 1) := by decide +kernel
theorem dX6_farTo_96 : decode cX6_farTo 96 = .ok (.aload_n 2, 1) := by decide +kernel
theorem dX6_farTo_97 : decode cX6_farTo 97 = .ok (.iload 5, 2) := by decide +kernel
theorem dX6_farTo_99 : decode cX6_farTo 99 = .ok (.iaload, 1) := by decide +kernel
theorem dX6_farTo_100 : decode cX6_farTo 100 = .ok (.iconst 1, 1) := by decide +kernel
theorem dX6_farTo_101 : decode cX6_farTo 101 = .ok (.iadd, 1) := by decide +kernel
theorem dX6_farTo_102 : decode cX6_farTo 102 = .ok (.invokestatic 97, 3) := by decide +kernel
theorem dX6_farTo_105 : decode cX6_farTo 105 = .ok (.iastore, 1) := by decide +kernel
theorem dX6_farTo_106 : decode cX6_farTo 106 = .ok (.iinc 5 1, 3) := by decide +kernel
theorem dX6_farTo_109 : decode cX6_farTo 109 = .ok (.goto (-52), 3) := by decide +kernel
theorem dX6_farTo_112 : decode cX6_farTo 112 = .ok (.iinc 4 1, 3) := by decide +kernel
theorem dX6_farTo_115 : decode cX6_farTo 115 = .ok (.goto (-70), 3) := by decide +kernel
theorem dX6_farTo_118 : decode cX6_farTo 118 = .ok (.iinc 3 1, 3) := by decide +kernel
theorem dX6_farTo_121 : decode cX6_farTo 121 = .ok (.goto (-87), 3) := by decide +kernel
theorem dX6_farTo_124 : decode cX6_farTo 124 = .ok (.aload_n 2, 1) := by decide +kernel
theorem dX6_farTo_125 : decode cX6_farTo 125 = .ok (.areturn, 1) := by decide +kernel
theorem dX6_way_0 : decode cX6_way 0 = .ok (.aload_n 0, 1) := by decide +kernel
theorem dX6_way_1 : decode cX6_way 1 = .ok (.iconst 0, 1) := by decide +kernel
theorem dX6_way_2 : decode cX6_way 2 = .ok (.putfield 60, 3) := by decide +kernel
theorem dX6_way_5 : decode cX6_way 5 = .ok (.aload_n 0, 1) := by decide +kernel
theorem dX6_way_6 : decode cX6_way 6 = .ok (.iload_n 1, 1) := by decide +kernel
theorem dX6_way_7 : decode cX6_way 7 = .ok (.invokevirtual 107, 3) := by decide +kernel
theorem dX6_way_10 : decode cX6_way 10 = .ok (.ifCond .eq 11, 3) := by decide +kernel
theorem dX6_way_13 : decode cX6_way 13 = .ok (.aload_n 0, 1) := by decide +kernel
theorem dX6_way_14 : decode cX6_way 14 = .ok (.iload_n 2, 1) := by decide +kernel
theorem dX6_way_15 : decode cX6_way 15 = .ok (.invokevirtual 107, 3) := by decide +kernel
theorem dX6_way_18 : decode cX6_way 18 = .ok (.ifCond .ne 9, 3) := by decide +kernel
theorem dX6_way_21 : decode cX6_way 21 = .ok (.aload_n 0, 1) := by decide +kernel
theorem dX6_way_22 : decode cX6_way 22 = .ok (.iconst 1, 1) := by decide +kernel
theorem dX6_way_23 : decode cX6_way 23 = .ok (.invokevirtual 100, 3) := by decide +kernel
theorem dX6_way_26 : decode cX6_way 26 = .ok (.ireturn, 1) := by decide +kernel
theorem dX6_way_27 : decode cX6_way 27 = .ok (.iload_n 3, 1) := by decide +kernel
theorem dX6_way_28 : decode cX6_way 28 = .ok (.iconst 0, 1) := by decide +kernel
theorem dX6_way_29 : decode cX6_way 29 = .ok (.bipush 39, 2) := by decide +kernel
theorem dX6_way_31 : decode cX6_way 31 = .ok (.invokestatic 67, 3) := by decide +kernel
theorem dX6_way_34 : decode cX6_way 34 = .ok (.ifCond .ne 9, 3) := by decide +kernel
theorem dX6_way_37 : decode cX6_way 37 = .ok (.aload_n 0, 1) := by decide +kernel
theorem dX6_way_38 : decode cX6_way 38 = .ok (.iconst 2, 1) := by decide +kernel
theorem dX6_way_39 : decode cX6_way 39 = .ok (.invokevirtual 100, 3) := by decide +kernel
theorem dX6_way_42 : decode cX6_way 42 = .ok (.ireturn, 1) := by decide +kernel
theorem dX6_way_43 : decode cX6_way 43 = .ok (.aload_n 0, 1) := by decide +kernel
theorem dX6_way_44 : decode cX6_way 44 = .ok (.aload_n 0, 1) := by decide +kernel
theorem dX6_way_45 : decode cX6_way 45 = .ok (.getfield 41, 3) := by decide +kernel
theorem dX6_way_48 : decode cX6_way 48 = .ok (.iload_n 2, 1) := by decide +kernel
theorem dX6_way_49 : decode cX6_way 49 = .ok (.iaload, 1) := by decide +kernel
theorem dX6_way_50 : decode cX6_way 50 = .ok (.invokevirtual 174, 3) := by decide +kernel
theorem dX6_way_53 : decode cX6_way 53 = .ok (.astore 4, 2) := by decide +kernel
theorem dX6_way_55 : decode cX6_way 55 = .ok (.aload_n 0, 1) := by decide +kernel
theorem dX6_way_56 : decode cX6_way 56 = .ok (.getfield 41, 3) := by decide +kernel
theorem dX6_way_59 : decode cX6_way 59 = .ok (.iload_n 1, 1) := by decide +kernel
theorem dX6_way_60 : decode cX6_way 60 = .ok (.iaload, 1) := by decide +kernel
theorem dX6_way_61 : decode cX6_way 61 = .ok (.istore 5, 2) := by decide +kernel
theorem dX6_way_63 : decode cX6_way 63 = .ok (.aload 4, 2) := by decide +kernel
theorem dX6_way_65 : decode cX6_way 65 = .ok (.iload 5, 2) := by decide +kernel
theorem dX6_way_67 : decode cX6_way 67 = .ok (.iaload, 1) := by decide +kernel
theorem dX6_way_68 : decode cX6_way 68 = .ok (.iconst (-1), 1) := by decide +kernel
theorem dX6_way_69 : decode cX6_way 69 = .ok (.if_icmp .eq 12, 3) := by decide +kernel
theorem dX6_way_72 : decode cX6_way 72 = .ok (.iload_n 3, 1) := by decide +kernel
theorem dX6_way_73 : decode cX6_way 73 = .ok (.aload 4, 2) := by decide +kernel
theorem dX6_way_75 : decode cX6_way 75 = .ok (.iload 5, 2) := by decide +kernel
theorem dX6_way_77 : decode cX6_way 77 = .ok (.iaload, 1) := by decide +kernel
theorem dX6_way_78 : decode cX6_way 78 = .ok (.if_icmp .le 5, 3) := by decide +kernel
theorem dX6_way_81 : decode cX6_way 81 = .ok (.iconst (-1), 1) := by decide +kernel
theorem dX6_way_82 : decode cX6_way 82 = .ok (.ireturn, 1) := by decide +kernel
theorem dX6_way_83 : decode cX6_way 83 = .ok (.iconst 0, 1) := by decide +kernel
theorem dX6_way_84 : decode cX6_way 84 = .ok (.istore 6, 2) := by decide +kernel
theorem dX6_way_86 : decode cX6_way 86 = .ok (.iload 6, 2) := by decide +kernel
theorem dX6_way_88 : decode cX6_way 88 = .ok (.iload_n 3, 1) := by decide +kernel
theorem dX6_way_89 : decode cX6_way 89 = .ok (.if_icmp .ge 52, 3) := by decide +kernel
theorem dX6_way_92 : decode cX6_way 92 = .ok (.iconst 0, 1) := by decide +kernel
theorem dX6_way_93 : decode cX6_way 93 = .ok (.istore 7, 2) := by decide +kernel
theorem dX6_way_95 : decode cX6_way 95 = .ok (.aload_n 0, 1) := by decide +kernel
theorem dX6_way_96 : decode cX6_way 96 = .ok (.getfield 51, 3) := by decide +kernel
theorem dX6_way_99 : decode cX6_way 99 = .ok (.iload 5, 2) := by decide +kernel
theorem dX6_way_101 : decode cX6_way 101 = .ok (.laload, 1) := by decide +kernel
theorem dX6_way_102 : decode cX6_way 102 = .ok (.iload 7, 2) := by decide +kernel
theorem dX6_way_104 : decode cX6_way 104 = .ok (.invokestatic 83, 3) := by decide +kernel
theorem dX6_way_107 : decode cX6_way 107 = .ok (.ifCond .eq 18, 3) := by decide +kernel
theorem dX6_way_110 : decode cX6_way 110 = .ok (.aload 4, 2) := by decide +kernel
theorem dX6_way_112 : decode cX6_way 112 = .ok (.iload 7, 2) := by decide +kernel
theorem dX6_way_114 : decode cX6_way 114 = .ok (.iaload, 1) := by decide +kernel
theorem dX6_way_115 : decode cX6_way 115 = .ok (.aload 4, 2) := by decide +kernel
theorem dX6_way_117 : decode cX6_way 117 = .ok (.iload 5, 2) := by decide +kernel
theorem dX6_way_119 : decode cX6_way 119 = .ok (.iaload, 1) := by decide +kernel
theorem dX6_way_120 : decode cX6_way 120 = .ok (.iconst 1, 1) := by decide +kernel
theorem dX6_way_121 : decode cX6_way 121 = .ok (.isub, 1) := by decide +kernel
theorem dX6_way_122 : decode cX6_way 122 = .ok (.if_icmp .eq 9, 3) := by decide +kernel
theorem dX6_way_125 : decode cX6_way 125 = .ok (.iinc 7 1, 3) := by decide +kernel
theorem dX6_way_128 : decode cX6_way 128 = .ok (.goto (-33), 3) := by decide +kernel
theorem dX6_way_131 : decode cX6_way 131 = .ok (.iload 7, 2) := by decide +kernel
theorem dX6_way_133 : decode cX6_way 133 = .ok (.istore 5, 2) := by decide +kernel
theorem dX6_way_135 : decode cX6_way 135 = .ok (.iinc 6 1, 3) := by decide +kernel
theorem dX6_way_138 : decode cX6_way 138 = .ok (.goto (-52), 3) := by decide +kernel
theorem dX6_way_141 : decode cX6_way 141 = .ok (.iload 5, 2) := by decide +kernel
theorem dX6_way_143 : decode cX6_way 143 = .ok (.ireturn, 1) := by decide +kernel
theorem dX6_between_0 : decode cX6_between 0 = .ok (.aload_n 0, 1) := by decide +kernel
theorem dX6_between_1 : decode cX6_between 1 = .ok (.iconst 0, 1) := by decide +kernel
theorem dX6_between_2 : decode cX6_between 2 = .ok (.putfield 60, 3) := by decide +kernel
theorem dX6_between_5 : decode cX6_between 5 = .ok (.aload_n 0, 1) := by decide +kernel
theorem dX6_between_6 : decode cX6_between 6 = .ok (.iload_n 1, 1) := by decide +kernel
theorem dX6_between_7 : decode cX6_between 7 = .ok (.invokevirtual 107, 3) := by decide +kernel
theorem dX6_between_10 : decode cX6_between 10 = .ok (.ifCond .eq 40, 3) := by decide +kernel
theorem dX6_between_13 : decode cX6_between 13 = .ok (.aload_n 0, 1) := by decide +kernel
theorem dX6_between_14 : decode cX6_between 14 = .ok (.iload_n 2, 1) := by decide +kernel
theorem dX6_between_15 : decode cX6_between 15 = .ok (.invokevirtual 107, 3) := by decide +kernel
theorem dX6_between_18 : decode cX6_between 18 = .ok (.ifCond .eq 32, 3) := by decide +kernel
theorem dX6_between_21 : decode cX6_between 21 = .ok (.aload_n 0, 1) := by decide +kernel
theorem dX6_between_22 : decode cX6_between 22 = .ok (.getfield 44, 3) := by decide +kernel
theorem dX6_between_25 : decode cX6_between 25 = .ok (.aload_n 0, 1) := by decide +kernel
theorem dX6_between_26 : decode cX6_between 26 = .ok (.getfield 41, 3) := by decide +kernel
theorem dX6_between_29 : decode cX6_between 29 = .ok (.iload_n 1, 1) := by decide +kernel
theorem dX6_between_30 : decode cX6_between 30 = .ok (.iaload, 1) := by decide +kernel
theorem dX6_between_31 : decode cX6_between 31 = .ok (.laload, 1) := by decide +kernel
theorem dX6_between_32 : decode cX6_between 32 = .ok (.aload_n 0, 1) := by decide +kernel
theorem dX6_between_33 : decode cX6_between 33 = .ok (.getfield 48, 3) := by decide +kernel
theorem dX6_between_36 : decode cX6_between 36 = .ok (.aload_n 0, 1) := by decide +kernel
theorem dX6_between_37 : decode cX6_between 37 = .ok (.getfield 41, 3) := by decide +kernel
theorem dX6_between_40 : decode cX6_between 40 = .ok (.iload_n 2, 1) := by decide +kernel
theorem dX6_between_41 : decode cX6_between 41 = .ok (.iaload, 1) := by decide +kernel
theorem dX6_between_42 : decode cX6_between 42 = .ok (.laload, 1) := by decide +kernel
theorem dX6_between_43 : decode cX6_between 43 = .ok (.land, 1) := by decide +kernel
theorem dX6_between_44 : decode cX6_between 44 = .ok (.invokestatic 130, 3) := by decide +kernel
theorem dX6_between_47 : decode cX6_between 47 = .ok (.goto 8, 3) := by decide +kernel
theorem dX6_between_50 : decode cX6_between 50 = .ok (.aload_n 0, 1) := by decide +kernel
theorem dX6_between_51 : decode cX6_between 51 = .ok (.iconst 1, 1) := by decide +kernel
theorem dX6_between_52 : decode cX6_between 52 = .ok (.invokevirtual 100, 3) := by decide +kernel
theorem dX6_between_55 : decode cX6_between 55 = .ok (.ireturn, 1) := by decide +kernel
theorem dX6_addFind_0 : decode cX6_addFind 0 = .ok (.aload_n 0, 1) := by decide +kernel
theorem dX6_addFind_1 : decode cX6_addFind 1 = .ok (.iconst 0, 1) := by decide +kernel
theorem dX6_addFind_2 : decode cX6_addFind 2 = .ok (.putfield 60, 3) := by decide +kernel
theorem dX6_addFind_5 : decode cX6_addFind 5 = .ok (.aload_n 0, 1) := by decide +kernel
theorem dX6_addFind_6 : decode cX6_addFind 6 = .ok (.iload_n 1, 1) := by decide +kernel
theorem dX6_addFind_7 : decode cX6_addFind 7 = .ok (.invokevirtual 107, 3) := by decide +kernel
theorem dX6_addFind_10 : decode cX6_addFind 10 = .ok (.ifCond .ne 9, 3) := by decide +kernel
theorem dX6_addFind_13 : decode cX6_addFind 13 = .ok (.aload_n 0, 1) := by decide +kernel
theorem dX6_addFind_14 : decode cX6_addFind 14 = .ok (.iconst 1, 1) := by decide +kernel
theorem dX6_addFind_15 : decode cX6_addFind 15 = .ok (.invokevirtual 100, 3) := by decide +kernel
theorem dX6_addFind_18 : decode cX6_addFind 18 = .ok (.ireturn, 1) := by decide +kernel
theorem dX6_addFind_19 : decode cX6_addFind 19 = .ok (.iload_n 2, 1) := by decide +kernel
theorem dX6_addFind_20 : decode cX6_addFind 20 = .ok (.iconst 0, 1) := by decide +kernel
theorem dX6_addFind_21 : decode cX6_addFind 21 = .ok (.bipush 9, 2) := by decide +kernel
theorem dX6_addFind_23 : decode cX6_addFind 23 = .ok (.invokestatic 67, 3) := by decide +kernel
theorem dX6_addFind_26 : decode cX6_addFind 26 = .ok (.ifCond .eq 36, 3) := by decide +kernel
theorem dX6_addFind_29 : decode cX6_addFind 29 = .ok (.iload_n 3, 1) := by decide +kernel
theorem dX6_addFind_30 : decode cX6_addFind 30 = .ok (.sipush (-5000), 3) := by decide +kernel
theorem dX6_addFind_33 : decode cX6_addFind 33 = .ok (.sipush 2000, 3) := by decide +kernel
theorem dX6_addFind_36 : decode cX6_addFind 36 = .ok (.invokestatic 67, 3) := by decide +kernel
theorem dX6_addFind_39 : decode cX6_addFind 39 = .ok (.ifCond .eq 23, 3) := by decide +kernel
theorem dX6_addFind_42 : decode cX6_addFind 42 = .ok (.iload 4, 2) := by decide +kernel
theorem dX6_addFind_44 : decode cX6_addFind 44 = .ok (.sipush (-5000), 3) := by decide +kernel
theorem dX6_addFind_47 : decode cX6_addFind 47 = .ok (.sipush 2000, 3) := by decide +kernel
theorem dX6_addFind_50 : decode cX6_addFind 50 = .ok (.invokestatic 67, 3) := by decide +kernel
theorem dX6_addFind_53 : decode cX6_addFind 53 = .ok (.ifCond .eq 9, 3) := by decide +kernel
theorem dX6_addFind_56 : decode cX6_addFind 56 = .ok (.iload_n 3, 1) := by decide +kernel
theorem dX6_addFind_57 : decode cX6_addFind 57 = .ok (.iload 4, 2) := by decide +kernel
theorem dX6_addFind_59 : decode cX6_addFind 59 = .ok (.if_icmp .le 9, 3) := by decide +kernel
theorem dX6_addFind_62 : decode cX6_addFind 62 = .ok (.aload_n 0, 1) := by decide +kernel
theorem dX6_addFind_63 : decode cX6_addFind 63 = .ok (.iconst 2, 1) := by decide +kernel
theorem dX6_addFind_64 : decode cX6_addFind 64 = .ok (.invokevirtual 100, 3) := by decide +kernel
theorem dX6_addFind_67 : decode cX6_addFind 67 = .ok (.ireturn, 1) := by decide +kernel
theorem dX6_addFind_68 : decode cX6_addFind 68 = .ok (.aload_n 0, 1) := by decide +kernel
theorem dX6_addFind_69 : decode cX6_addFind 69 = .ok (.getfield 120, 3) := by decide +kernel
theorem dX6_addFind_72 : decode cX6_addFind 72 = .ok (.bipush 60, 2) := by decide +kernel
theorem dX6_addFind_74 : decode cX6_addFind 74 = .ok (.if_icmp .ne 9, 3) := by decide +kernel
theorem dX6_addFind_77 : decode cX6_addFind 77 = .ok (.aload_n 0, 1) := by decide +kernel
theorem dX6_addFind_78 : decode cX6_addFind 78 = .ok (.iconst 3, 1) := by decide +kernel
theorem dX6_addFind_79 : decode cX6_addFind 79 = .ok (.invokevirtual 100, 3) := by decide +kernel
theorem dX6_addFind_82 : decode cX6_addFind 82 = .ok (.ireturn, 1) := by decide +kernel
theorem dX6_addFind_83 : decode cX6_addFind 83 = .ok (.bipush 7, 2) := by decide +kernel
theorem dX6_addFind_85 : decode cX6_addFind 85 = .ok (.newarray .int, 2) := by decide +kernel
theorem dX6_addFind_87 : decode cX6_addFind 87 = .ok (.dup, 1) := by decide +kernel
theorem dX6_addFind_88 : decode cX6_addFind 88 = .ok (.iconst 0, 1) := by decide +kernel
theorem dX6_addFind_89 : decode cX6_addFind 89 = .ok (.iload_n 1, 1) := by decide +kernel
theorem dX6_addFind_90 : decode cX6_addFind 90 = .ok (.iastore, 1) := by decide +kernel
theorem dX6_addFind_91 : decode cX6_addFind 91 = .ok (.dup, 1) := by decide +kernel
theorem dX6_addFind_92 : decode cX6_addFind 92 = .ok (.iconst 1, 1) := by decide +kernel
theorem dX6_addFind_93 : decode cX6_addFind 93 = .ok (.iload_n 2, 1) := by decide +kernel
theorem dX6_addFind_94 : decode cX6_addFind 94 = .ok (.iastore, 1) := by decide +kernel
theorem dX6_addFind_95 : decode cX6_addFind 95 = .ok (.dup, 1) := by decide +kernel
theorem dX6_addFind_96 : decode cX6_addFind 96 = .ok (.iconst 2, 1) := by decide +kernel
theorem dX6_addFind_97 : decode cX6_addFind 97 = .ok (.iload_n 3, 1) := by decide +kernel
theorem dX6_addFind_98 : decode cX6_addFind 98 = .ok (.iastore, 1) := by decide +kernel
theorem dX6_addFind_99 : decode cX6_addFind 99 = .ok (.dup, 1) := by decide +kernel
theorem dX6_addFind_100 : decode cX6_addFind 100 = .ok (.iconst 3, 1) := by decide +kernel
theorem dX6_addFind_101 : decode cX6_addFind 101 = .ok (.iload 4, 2) := by decide +kernel
theorem dX6_addFind_103 : decode cX6_addFind 103 = .ok (.iastore, 1) := by decide +kernel
theorem dX6_addFind_104 : decode cX6_addFind 104 = .ok (.dup, 1) := by decide +kernel
theorem dX6_addFind_105 : decode cX6_addFind 105 = .ok (.iconst 4, 1) := by decide +kernel
theorem dX6_addFind_106 : decode cX6_addFind 106 = .ok (.iconst 0, 1) := by decide +kernel
theorem dX6_addFind_107 : decode cX6_addFind 107 = .ok (.iastore, 1) := by decide +kernel
theorem dX6_addFind_108 : decode cX6_addFind 108 = .ok (.dup, 1) := by decide +kernel
theorem dX6_addFind_109 : decode cX6_addFind 109 = .ok (.iconst 5, 1) := by decide +kernel
theorem dX6_addFind_110 : decode cX6_addFind 110 = .ok (.iconst 0, 1) := by decide +kernel
theorem dX6_addFind_111 : decode cX6_addFind 111 = .ok (.iastore, 1) := by decide +kernel
theorem dX6_addFind_112 : decode cX6_addFind 112 = .ok (.dup, 1) := by decide +kernel
theorem dX6_addFind_113 : decode cX6_addFind 113 = .ok (.bipush 6, 2) := by decide +kernel
theorem dX6_addFind_115 : decode cX6_addFind 115 = .ok (.iconst 0, 1) := by decide +kernel
theorem dX6_addFind_116 : decode cX6_addFind 116 = .ok (.iastore, 1) := by decide +kernel
theorem dX6_addFind_117 : decode cX6_addFind 117 = .ok (.astore 5, 2) := by decide +kernel
theorem dX6_addFind_119 : decode cX6_addFind 119 = .ok (.aload 5, 2) := by decide +kernel
theorem dX6_addFind_121 : decode cX6_addFind 121 = .ok (.iconst 0, 1) := by decide +kernel
theorem dX6_addFind_122 : decode cX6_addFind 122 = .ok (.aload_n 0, 1) := by decide +kernel
theorem dX6_addFind_123 : decode cX6_addFind 123 = .ok (.getfield 38, 3) := by decide +kernel
theorem dX6_addFind_126 : decode cX6_addFind 126 = .ok (.bipush 7, 2) := by decide +kernel
theorem dX6_addFind_128 : decode cX6_addFind 128 = .ok (.aload_n 0, 1) := by decide +kernel
theorem dX6_addFind_129 : decode cX6_addFind 129 = .ok (.getfield 120, 3) := by decide +kernel
theorem dX6_addFind_132 : decode cX6_addFind 132 = .ok (.imul, 1) := by decide +kernel
theorem dX6_addFind_133 : decode cX6_addFind 133 = .ok (.bipush 7, 2) := by decide +kernel
theorem dX6_addFind_135 : decode cX6_addFind 135 = .ok (.invokestatic 178, 3) := by decide +kernel
theorem dX6_addFind_138 : decode cX6_addFind 138 = .ok (.aload_n 0, 1) := by decide +kernel
theorem dX6_addFind_139 : decode cX6_addFind 139 = .ok (.dup, 1) := by decide +kernel
theorem dX6_addFind_140 : decode cX6_addFind 140 = .ok (.getfield 120, 3) := by decide +kernel
theorem dX6_addFind_143 : decode cX6_addFind 143 = .ok (.iconst 1, 1) := by decide +kernel
theorem dX6_addFind_144 : decode cX6_addFind 144 = .ok (.iadd, 1) := by decide +kernel
theorem dX6_addFind_145 : decode cX6_addFind 145 = .ok (.putfield 120, 3) := by decide +kernel
theorem dX6_addFind_148 : decode cX6_addFind 148 = .ok (.aload_n 0, 1) := by decide +kernel
theorem dX6_addFind_149 : decode cX6_addFind 149 = .ok (.getfield 120, 3) := by decide +kernel
theorem dX6_addFind_152 : decode cX6_addFind 152 = .ok (.iconst 1, 1) := by decide +kernel
theorem dX6_addFind_153 : decode cX6_addFind 153 = .ok (.isub, 1) := by decide +kernel
theorem dX6_addFind_154 : decode cX6_addFind 154 = .ok (.ireturn, 1) := by decide +kernel
theorem dX6_isFind_0 : decode cX6_isFind 0 = .ok (.iload_n 1, 1) := by decide +kernel
theorem dX6_isFind_1 : decode cX6_isFind 1 = .ok (.iconst 0, 1) := by decide +kernel
theorem dX6_isFind_2 : decode cX6_isFind 2 = .ok (.aload_n 0, 1) := by decide +kernel
theorem dX6_isFind_3 : decode cX6_isFind 3 = .ok (.getfield 120, 3) := by decide +kernel
theorem dX6_isFind_6 : decode cX6_isFind 6 = .ok (.iconst 1, 1) := by decide +kernel
theorem dX6_isFind_7 : decode cX6_isFind 7 = .ok (.isub, 1) := by decide +kernel
theorem dX6_isFind_8 : decode cX6_isFind 8 = .ok (.invokestatic 67, 3) := by decide +kernel
theorem dX6_isFind_11 : decode cX6_isFind 11 = .ok (.ireturn, 1) := by decide +kernel
theorem dX6_isPlace_0 : decode cX6_isPlace 0 = .ok (.iload_n 0, 1) := by decide +kernel
theorem dX6_isPlace_1 : decode cX6_isPlace 1 = .ok (.iconst 0, 1) := by decide +kernel
theorem dX6_isPlace_2 : decode cX6_isPlace 2 = .ok (.sipush 5000, 3) := by decide +kernel
theorem dX6_isPlace_5 : decode cX6_isPlace 5 = .ok (.invokestatic 67, 3) := by decide +kernel
theorem dX6_isPlace_8 : decode cX6_isPlace 8 = .ok (.ifCond .eq 31, 3) := by decide +kernel
theorem dX6_isPlace_11 : decode cX6_isPlace 11 = .ok (.iload_n 1, 1) := by decide +kernel
theorem dX6_isPlace_12 : decode cX6_isPlace 12 = .ok (.iconst 0, 1) := by decide +kernel
theorem dX6_isPlace_13 : decode cX6_isPlace 13 = .ok (.sipush 5000, 3) := by decide +kernel
theorem dX6_isPlace_16 : decode cX6_isPlace 16 = .ok (.invokestatic 67, 3) := by decide +kernel
theorem dX6_isPlace_19 : decode cX6_isPlace 19 = .ok (.ifCond .eq 20, 3) := by decide +kernel
theorem dX6_isPlace_22 : decode cX6_isPlace 22 = .ok (.iload_n 2, 1) := by decide +kernel
theorem dX6_isPlace_23 : decode cX6_isPlace 23 = .ok (.sipush (-1000), 3) := by decide +kernel
theorem dX6_isPlace_26 : decode cX6_isPlace 26 = .ok (.sipush 1000, 3) := by decide +kernel
theorem dX6_isPlace_29 : decode cX6_isPlace 29 = .ok (.invokestatic 67, 3) := by decide +kernel
theorem dX6_isPlace_32 : decode cX6_isPlace 32 = .ok (.ifCond .eq 7, 3) := by decide +kernel
theorem dX6_isPlace_35 : decode cX6_isPlace 35 = .ok (.iconst 1, 1) := by decide +kernel
theorem dX6_isPlace_36 : decode cX6_isPlace 36 = .ok (.goto 4, 3) := by decide +kernel
theorem dX6_isPlace_39 : decode cX6_isPlace 39 = .ok (.iconst 0, 1) := by decide +kernel
theorem dX6_isPlace_40 : decode cX6_isPlace 40 = .ok (.ireturn, 1) := by decide +kernel
theorem dX6_place_0 : decode cX6_place 0 = .ok (.aload_n 0, 1) := by decide +kernel
theorem dX6_place_1 : decode cX6_place 1 = .ok (.iconst 0, 1) := by decide +kernel
theorem dX6_place_2 : decode cX6_place 2 = .ok (.putfield 60, 3) := by decide +kernel
theorem dX6_place_5 : decode cX6_place 5 = .ok (.aload_n 0, 1) := by decide +kernel
theorem dX6_place_6 : decode cX6_place 6 = .ok (.iload_n 1, 1) := by decide +kernel
theorem dX6_place_7 : decode cX6_place 7 = .ok (.invokevirtual 184, 3) := by decide +kernel
theorem dX6_place_10 : decode cX6_place 10 = .ok (.ifCond .ne 9, 3) := by decide +kernel
theorem dX6_place_13 : decode cX6_place 13 = .ok (.aload_n 0, 1) := by decide +kernel
theorem dX6_place_14 : decode cX6_place 14 = .ok (.iconst 1, 1) := by decide +kernel
theorem dX6_place_15 : decode cX6_place 15 = .ok (.invokevirtual 100, 3) := by decide +kernel
theorem dX6_place_18 : decode cX6_place 18 = .ok (.ireturn, 1) := by decide +kernel
theorem dX6_place_19 : decode cX6_place 19 = .ok (.iload_n 2, 1) := by decide +kernel
theorem dX6_place_20 : decode cX6_place 20 = .ok (.iload_n 3, 1) := by decide +kernel
theorem dX6_place_21 : decode cX6_place 21 = .ok (.iload 4, 2) := by decide +kernel
theorem dX6_place_23 : decode cX6_place 23 = .ok (.invokestatic 187, 3) := by decide +kernel
theorem dX6_place_26 : decode cX6_place 26 = .ok (.ifCond .ne 9, 3) := by decide +kernel
theorem dX6_place_29 : decode cX6_place 29 = .ok (.aload_n 0, 1) := by decide +kernel
theorem dX6_place_30 : decode cX6_place 30 = .ok (.iconst 2, 1) := by decide +kernel
theorem dX6_place_31 : decode cX6_place 31 = .ok (.invokevirtual 100, 3) := by decide +kernel
theorem dX6_place_34 : decode cX6_place 34 = .ok (.ireturn, 1) := by decide +kernel
theorem dX6_place_35 : decode cX6_place 35 = .ok (.aload_n 0, 1) := by decide +kernel
theorem dX6_place_36 : decode cX6_place 36 = .ok (.getfield 38, 3) := by decide +kernel
theorem dX6_place_39 : decode cX6_place 39 = .ok (.bipush 7, 2) := by decide +kernel
theorem dX6_place_41 : decode cX6_place 41 = .ok (.iload_n 1, 1) := by decide +kernel
theorem dX6_place_42 : decode cX6_place 42 = .ok (.imul, 1) := by decide +kernel
theorem dX6_place_43 : decode cX6_place 43 = .ok (.bipush 6, 2) := by decide +kernel
theorem dX6_place_45 : decode cX6_place 45 = .ok (.iadd, 1) := by decide +kernel
theorem dX6_place_46 : decode cX6_place 46 = .ok (.iaload, 1) := by decide +kernel
theorem dX6_place_47 : decode cX6_place 47 = .ok (.istore 5, 2) := by decide +kernel
theorem dX6_place_49 : decode cX6_place 49 = .ok (.aload_n 0, 1) := by decide +kernel
theorem dX6_place_50 : decode cX6_place 50 = .ok (.getfield 38, 3) := by decide +kernel
theorem dX6_place_53 : decode cX6_place 53 = .ok (.bipush 7, 2) := by decide +kernel
theorem dX6_place_55 : decode cX6_place 55 = .ok (.iload_n 1, 1) := by decide +kernel
theorem dX6_place_56 : decode cX6_place 56 = .ok (.imul, 1) := by decide +kernel
theorem dX6_place_57 : decode cX6_place 57 = .ok (.iconst 4, 1) := by decide +kernel
theorem dX6_place_58 : decode cX6_place 58 = .ok (.iadd, 1) := by decide +kernel
theorem dX6_place_59 : decode cX6_place 59 = .ok (.iload_n 2, 1) := by decide +kernel
theorem dX6_place_60 : decode cX6_place 60 = .ok (.iastore, 1) := by decide +kernel
theorem dX6_place_61 : decode cX6_place 61 = .ok (.aload_n 0, 1) := by decide +kernel
theorem dX6_place_62 : decode cX6_place 62 = .ok (.getfield 38, 3) := by decide +kernel
theorem dX6_place_65 : decode cX6_place 65 = .ok (.bipush 7, 2) := by decide +kernel
theorem dX6_place_67 : decode cX6_place 67 = .ok (.iload_n 1, 1) := by decide +kernel
theorem dX6_place_68 : decode cX6_place 68 = .ok (.imul, 1) := by decide +kernel
theorem dX6_place_69 : decode cX6_place 69 = .ok (.iconst 5, 1) := by decide +kernel
theorem dX6_place_70 : decode cX6_place 70 = .ok (.iadd, 1) := by decide +kernel
theorem dX6_place_71 : decode cX6_place 71 = .ok (.iload_n 3, 1) := by decide +kernel
theorem dX6_place_72 : decode cX6_place 72 = .ok (.iastore, 1) := by decide +kernel
theorem dX6_place_73 : decode cX6_place 73 = .ok (.aload_n 0, 1) := by decide +kernel
theorem dX6_place_74 : decode cX6_place 74 = .ok (.getfield 38, 3) := by decide +kernel
theorem dX6_place_77 : decode cX6_place 77 = .ok (.bipush 7, 2) := by decide +kernel
theorem dX6_place_79 : decode cX6_place 79 = .ok (.iload_n 1, 1) := by decide +kernel
theorem dX6_place_80 : decode cX6_place 80 = .ok (.imul, 1) := by decide +kernel
theorem dX6_place_81 : decode cX6_place 81 = .ok (.bipush 6, 2) := by decide +kernel
theorem dX6_place_83 : decode cX6_place 83 = .ok (.iadd, 1) := by decide +kernel
theorem dX6_place_84 : decode cX6_place 84 = .ok (.iload 4, 2) := by decide +kernel
theorem dX6_place_86 : decode cX6_place 86 = .ok (.iastore, 1) := by decide +kernel
theorem dX6_place_87 : decode cX6_place 87 = .ok (.iload 5, 2) := by decide +kernel
theorem dX6_place_89 : decode cX6_place 89 = .ok (.ireturn, 1) := by decide +kernel
theorem dX6_move_0 : decode cX6_move 0 = .ok (.aload_n 0, 1) := by decide +kernel
theorem dX6_move_1 : decode cX6_move 1 = .ok (.iconst 0, 1) := by decide +kernel
theorem dX6_move_2 : decode cX6_move 2 = .ok (.putfield 60, 3) := by decide +kernel
theorem dX6_move_5 : decode cX6_move 5 = .ok (.aload_n 0, 1) := by decide +kernel
theorem dX6_move_6 : decode cX6_move 6 = .ok (.iload_n 1, 1) := by decide +kernel
theorem dX6_move_7 : decode cX6_move 7 = .ok (.invokevirtual 184, 3) := by decide +kernel
theorem dX6_move_10 : decode cX6_move 10 = .ok (.ifCond .eq 11, 3) := by decide +kernel
theorem dX6_move_13 : decode cX6_move 13 = .ok (.aload_n 0, 1) := by decide +kernel
theorem dX6_move_14 : decode cX6_move 14 = .ok (.iload_n 2, 1) := by decide +kernel
theorem dX6_move_15 : decode cX6_move 15 = .ok (.invokevirtual 107, 3) := by decide +kernel
theorem dX6_move_18 : decode cX6_move 18 = .ok (.ifCond .ne 9, 3) := by decide +kernel
theorem dX6_move_21 : decode cX6_move 21 = .ok (.aload_n 0, 1) := by decide +kernel
theorem dX6_move_22 : decode cX6_move 22 = .ok (.iconst 1, 1) := by decide +kernel
theorem dX6_move_23 : decode cX6_move 23 = .ok (.invokevirtual 100, 3) := by decide +kernel
theorem dX6_move_26 : decode cX6_move 26 = .ok (.ireturn, 1) := by decide +kernel
theorem dX6_move_27 : decode cX6_move 27 = .ok (.aload_n 0, 1) := by decide +kernel
theorem dX6_move_28 : decode cX6_move 28 = .ok (.getfield 38, 3) := by decide +kernel
theorem dX6_move_31 : decode cX6_move 31 = .ok (.bipush 7, 2) := by decide +kernel
theorem dX6_move_33 : decode cX6_move 33 = .ok (.iload_n 1, 1) := by decide +kernel
theorem dX6_move_34 : decode cX6_move 34 = .ok (.imul, 1) := by decide +kernel
theorem dX6_move_35 : decode cX6_move 35 = .ok (.iaload, 1) := by decide +kernel
theorem dX6_move_36 : decode cX6_move 36 = .ok (.istore_n 3, 1) := by decide +kernel
theorem dX6_move_37 : decode cX6_move 37 = .ok (.aload_n 0, 1) := by decide +kernel
theorem dX6_move_38 : decode cX6_move 38 = .ok (.getfield 38, 3) := by decide +kernel
theorem dX6_move_41 : decode cX6_move 41 = .ok (.bipush 7, 2) := by decide +kernel
theorem dX6_move_43 : decode cX6_move 43 = .ok (.iload_n 1, 1) := by decide +kernel
theorem dX6_move_44 : decode cX6_move 44 = .ok (.imul, 1) := by decide +kernel
theorem dX6_move_45 : decode cX6_move 45 = .ok (.iload_n 2, 1) := by decide +kernel
theorem dX6_move_46 : decode cX6_move 46 = .ok (.iastore, 1) := by decide +kernel
theorem dX6_move_47 : decode cX6_move 47 = .ok (.iload_n 3, 1) := by decide +kernel
theorem dX6_move_48 : decode cX6_move 48 = .ok (.ireturn, 1) := by decide +kernel
theorem dX6_findTold_0 : decode cX6_findTold 0 = .ok (.iload_n 2, 1) := by decide +kernel
theorem dX6_findTold_1 : decode cX6_findTold 1 = .ok (.bipush 7, 2) := by decide +kernel
theorem dX6_findTold_3 : decode cX6_findTold 3 = .ok (.if_icmp .ge 15, 3) := by decide +kernel
theorem dX6_findTold_6 : decode cX6_findTold 6 = .ok (.aload_n 0, 1) := by decide +kernel
theorem dX6_findTold_7 : decode cX6_findTold 7 = .ok (.getfield 38, 3) := by decide +kernel
theorem dX6_findTold_10 : decode cX6_findTold 10 = .ok (.bipush 7, 2) := by decide +kernel
theorem dX6_findTold_12 : decode cX6_findTold 12 = .ok (.iload_n 1, 1) := by decide +kernel
theorem dX6_findTold_13 : decode cX6_findTold 13 = .ok (.imul, 1) := by decide +kernel
theorem dX6_findTold_14 : decode cX6_findTold 14 = .ok (.iload_n 2, 1) := by decide +kernel
theorem dX6_findTold_15 : decode cX6_findTold 15 = .ok (.iadd, 1) := by decide +kernel
theorem dX6_findTold_16 : decode cX6_findTold 16 = .ok (.iaload, 1) := by decide +kernel
theorem dX6_findTold_17 : decode cX6_findTold 17 = .ok (.ireturn, 1) := by decide +kernel
theorem dX6_findTold_18 : decode cX6_findTold 18 = .ok (.aload_n 0, 1) := by decide +kernel
theorem dX6_findTold_19 : decode cX6_findTold 19 = .ok (.getfield 38, 3) := by decide +kernel
theorem dX6_findTold_22 : decode cX6_findTold 22 = .ok (.bipush 7, 2) := by decide +kernel
theorem dX6_findTold_24 : decode cX6_findTold 24 = .ok (.iload_n 1, 1) := by decide +kernel
theorem dX6_findTold_25 : decode cX6_findTold 25 = .ok (.imul, 1) := by decide +kernel
theorem dX6_findTold_26 : decode cX6_findTold 26 = .ok (.iaload, 1) := by decide +kernel
theorem dX6_findTold_27 : decode cX6_findTold 27 = .ok (.istore_n 3, 1) := by decide +kernel
theorem dX6_findTold_28 : decode cX6_findTold 28 = .ok (.aload_n 0, 1) := by decide +kernel
theorem dX6_findTold_29 : decode cX6_findTold 29 = .ok (.getfield 38, 3) := by decide +kernel
theorem dX6_findTold_32 : decode cX6_findTold 32 = .ok (.bipush 7, 2) := by decide +kernel
theorem dX6_findTold_34 : decode cX6_findTold 34 = .ok (.iload_n 1, 1) := by decide +kernel
theorem dX6_findTold_35 : decode cX6_findTold 35 = .ok (.imul, 1) := by decide +kernel
theorem dX6_findTold_36 : decode cX6_findTold 36 = .ok (.iconst 2, 1) := by decide +kernel
theorem dX6_findTold_37 : decode cX6_findTold 37 = .ok (.iadd, 1) := by decide +kernel
theorem dX6_findTold_38 : decode cX6_findTold 38 = .ok (.iaload, 1) := by decide +kernel
theorem dX6_findTold_39 : decode cX6_findTold 39 = .ok (.aload_n 0, 1) := by decide +kernel
theorem dX6_findTold_40 : decode cX6_findTold 40 = .ok (.iload_n 3, 1) := by decide +kernel
theorem dX6_findTold_41 : decode cX6_findTold 41 = .ok (.iconst 1, 1) := by decide +kernel
theorem dX6_findTold_42 : decode cX6_findTold 42 = .ok (.invokevirtual 123, 3) := by decide +kernel
theorem dX6_findTold_45 : decode cX6_findTold 45 = .ok (.if_icmp .le 7, 3) := by decide +kernel
theorem dX6_findTold_48 : decode cX6_findTold 48 = .ok (.iconst 2, 1) := by decide +kernel
theorem dX6_findTold_49 : decode cX6_findTold 49 = .ok (.goto 28, 3) := by decide +kernel
theorem dX6_findTold_52 : decode cX6_findTold 52 = .ok (.aload_n 0, 1) := by decide +kernel
theorem dX6_findTold_53 : decode cX6_findTold 53 = .ok (.getfield 38, 3) := by decide +kernel
theorem dX6_findTold_56 : decode cX6_findTold 56 = .ok (.bipush 7, 2) := by decide +kernel
theorem dX6_findTold_58 : decode cX6_findTold 58 = .ok (.iload_n 1, 1) := by decide +kernel
theorem dX6_findTold_59 : decode cX6_findTold 59 = .ok (.imul, 1) := by decide +kernel
theorem dX6_findTold_60 : decode cX6_findTold 60 = .ok (.iconst 3, 1) := by decide +kernel
theorem dX6_findTold_61 : decode cX6_findTold 61 = .ok (.iadd, 1) := by decide +kernel
theorem dX6_findTold_62 : decode cX6_findTold 62 = .ok (.iaload, 1) := by decide +kernel
theorem dX6_findTold_63 : decode cX6_findTold 63 = .ok (.aload_n 0, 1) := by decide +kernel
theorem dX6_findTold_64 : decode cX6_findTold 64 = .ok (.iload_n 3, 1) := by decide +kernel
theorem dX6_findTold_65 : decode cX6_findTold 65 = .ok (.iconst 0, 1) := by decide +kernel
theorem dX6_findTold_66 : decode cX6_findTold 66 = .ok (.invokevirtual 123, 3) := by decide +kernel
theorem dX6_findTold_69 : decode cX6_findTold 69 = .ok (.if_icmp .ge 7, 3) := by decide +kernel
theorem dX6_findTold_72 : decode cX6_findTold 72 = .ok (.iconst 1, 1) := by decide +kernel
theorem dX6_findTold_73 : decode cX6_findTold 73 = .ok (.goto 4, 3) := by decide +kernel
theorem dX6_findTold_76 : decode cX6_findTold 76 = .ok (.iconst 0, 1) := by decide +kernel
theorem dX6_findTold_77 : decode cX6_findTold 77 = .ok (.ireturn, 1) := by decide +kernel
theorem dX6_find_0 : decode cX6_find 0 = .ok (.aload_n 0, 1) := by decide +kernel
theorem dX6_find_1 : decode cX6_find 1 = .ok (.iconst 0, 1) := by decide +kernel
theorem dX6_find_2 : decode cX6_find 2 = .ok (.putfield 60, 3) := by decide +kernel
theorem dX6_find_5 : decode cX6_find 5 = .ok (.aload_n 0, 1) := by decide +kernel
theorem dX6_find_6 : decode cX6_find 6 = .ok (.iload_n 1, 1) := by decide +kernel
theorem dX6_find_7 : decode cX6_find 7 = .ok (.invokevirtual 184, 3) := by decide +kernel
theorem dX6_find_10 : decode cX6_find 10 = .ok (.ifCond .eq 22, 3) := by decide +kernel
theorem dX6_find_13 : decode cX6_find 13 = .ok (.iload_n 2, 1) := by decide +kernel
theorem dX6_find_14 : decode cX6_find 14 = .ok (.iconst 0, 1) := by decide +kernel
theorem dX6_find_15 : decode cX6_find 15 = .ok (.bipush 7, 2) := by decide +kernel
theorem dX6_find_17 : decode cX6_find 17 = .ok (.invokestatic 67, 3) := by decide +kernel
theorem dX6_find_20 : decode cX6_find 20 = .ok (.ifCond .eq 12, 3) := by decide +kernel
theorem dX6_find_23 : decode cX6_find 23 = .ok (.aload_n 0, 1) := by decide +kernel
theorem dX6_find_24 : decode cX6_find 24 = .ok (.iload_n 1, 1) := by decide +kernel
theorem dX6_find_25 : decode cX6_find 25 = .ok (.iload_n 2, 1) := by decide +kernel
theorem dX6_find_26 : decode cX6_find 26 = .ok (.invokevirtual 190, 3) := by decide +kernel
theorem dX6_find_29 : decode cX6_find 29 = .ok (.goto 8, 3) := by decide +kernel
theorem dX6_find_32 : decode cX6_find 32 = .ok (.aload_n 0, 1) := by decide +kernel
theorem dX6_find_33 : decode cX6_find 33 = .ok (.iconst 1, 1) := by decide +kernel
theorem dX6_find_34 : decode cX6_find 34 = .ok (.invokevirtual 100, 3) := by decide +kernel
theorem dX6_find_37 : decode cX6_find 37 = .ok (.ireturn, 1) := by decide +kernel
theorem dX6_date_0 : decode cX6_date 0 = .ok (.aload_n 0, 1) := by decide +kernel
theorem dX6_date_1 : decode cX6_date 1 = .ok (.iconst 0, 1) := by decide +kernel
theorem dX6_date_2 : decode cX6_date 2 = .ok (.putfield 60, 3) := by decide +kernel
theorem dX6_date_5 : decode cX6_date 5 = .ok (.aload_n 0, 1) := by decide +kernel
theorem dX6_date_6 : decode cX6_date 6 = .ok (.iload_n 1, 1) := by decide +kernel
theorem dX6_date_7 : decode cX6_date 7 = .ok (.invokevirtual 107, 3) := by decide +kernel
theorem dX6_date_10 : decode cX6_date 10 = .ok (.ifCond .ne 9, 3) := by decide +kernel
theorem dX6_date_13 : decode cX6_date 13 = .ok (.aload_n 0, 1) := by decide +kernel
theorem dX6_date_14 : decode cX6_date 14 = .ok (.iconst 1, 1) := by decide +kernel
theorem dX6_date_15 : decode cX6_date 15 = .ok (.invokevirtual 100, 3) := by decide +kernel
theorem dX6_date_18 : decode cX6_date 18 = .ok (.ireturn, 1) := by decide +kernel
theorem dX6_date_19 : decode cX6_date 19 = .ok (.iload_n 2, 1) := by decide +kernel
theorem dX6_date_20 : decode cX6_date 20 = .ok (.sipush (-5000), 3) := by decide +kernel
theorem dX6_date_23 : decode cX6_date 23 = .ok (.sipush 2000, 3) := by decide +kernel
theorem dX6_date_26 : decode cX6_date 26 = .ok (.invokestatic 67, 3) := by decide +kernel
theorem dX6_date_29 : decode cX6_date 29 = .ok (.ifCond .eq 16, 3) := by decide +kernel
theorem dX6_date_32 : decode cX6_date 32 = .ok (.iload_n 3, 1) := by decide +kernel
theorem dX6_date_33 : decode cX6_date 33 = .ok (.sipush (-5000), 3) := by decide +kernel
theorem dX6_date_36 : decode cX6_date 36 = .ok (.sipush 2000, 3) := by decide +kernel
theorem dX6_date_39 : decode cX6_date 39 = .ok (.invokestatic 67, 3) := by decide +kernel
theorem dX6_date_42 : decode cX6_date 42 = .ok (.ifCond .ne 9, 3) := by decide +kernel
theorem dX6_date_45 : decode cX6_date 45 = .ok (.aload_n 0, 1) := by decide +kernel
theorem dX6_date_46 : decode cX6_date 46 = .ok (.iconst 2, 1) := by decide +kernel
theorem dX6_date_47 : decode cX6_date 47 = .ok (.invokevirtual 100, 3) := by decide +kernel
theorem dX6_date_50 : decode cX6_date 50 = .ok (.ireturn, 1) := by decide +kernel
theorem dX6_date_51 : decode cX6_date 51 = .ok (.aload_n 0, 1) := by decide +kernel
theorem dX6_date_52 : decode cX6_date 52 = .ok (.getfield 19, 3) := by decide +kernel
theorem dX6_date_55 : decode cX6_date 55 = .ok (.iload_n 1, 1) := by decide +kernel
theorem dX6_date_56 : decode cX6_date 56 = .ok (.baload, 1) := by decide +kernel
theorem dX6_date_57 : decode cX6_date 57 = .ok (.ifCond .eq 7, 3) := by decide +kernel
theorem dX6_date_60 : decode cX6_date 60 = .ok (.iconst 1, 1) := by decide +kernel
theorem dX6_date_61 : decode cX6_date 61 = .ok (.goto 4, 3) := by decide +kernel
theorem dX6_date_64 : decode cX6_date 64 = .ok (.iconst 0, 1) := by decide +kernel
theorem dX6_date_65 : decode cX6_date 65 = .ok (.istore 4, 2) := by decide +kernel
theorem dX6_date_67 : decode cX6_date 67 = .ok (.aload_n 0, 1) := by decide +kernel
theorem dX6_date_68 : decode cX6_date 68 = .ok (.getfield 19, 3) := by decide +kernel
theorem dX6_date_71 : decode cX6_date 71 = .ok (.iload_n 1, 1) := by decide +kernel
theorem dX6_date_72 : decode cX6_date 72 = .ok (.iload_n 2, 1) := by decide +kernel
theorem dX6_date_73 : decode cX6_date 73 = .ok (.iload_n 3, 1) := by decide +kernel
theorem dX6_date_74 : decode cX6_date 74 = .ok (.if_icmp .gt 7, 3) := by decide +kernel
theorem dX6_date_77 : decode cX6_date 77 = .ok (.iconst 1, 1) := by decide +kernel
theorem dX6_date_78 : decode cX6_date 78 = .ok (.goto 4, 3) := by decide +kernel
theorem dX6_date_81 : decode cX6_date 81 = .ok (.iconst 0, 1) := by decide +kernel
theorem dX6_date_82 : decode cX6_date 82 = .ok (.bastore, 1) := by decide +kernel
theorem dX6_date_83 : decode cX6_date 83 = .ok (.aload_n 0, 1) := by decide +kernel
theorem dX6_date_84 : decode cX6_date 84 = .ok (.getfield 13, 3) := by decide +kernel
theorem dX6_date_87 : decode cX6_date 87 = .ok (.iload_n 1, 1) := by decide +kernel
theorem dX6_date_88 : decode cX6_date 88 = .ok (.iload_n 2, 1) := by decide +kernel
theorem dX6_date_89 : decode cX6_date 89 = .ok (.iastore, 1) := by decide +kernel
theorem dX6_date_90 : decode cX6_date 90 = .ok (.aload_n 0, 1) := by decide +kernel
theorem dX6_date_91 : decode cX6_date 91 = .ok (.getfield 16, 3) := by decide +kernel
theorem dX6_date_94 : decode cX6_date 94 = .ok (.iload_n 1, 1) := by decide +kernel
theorem dX6_date_95 : decode cX6_date 95 = .ok (.iload_n 3, 1) := by decide +kernel
theorem dX6_date_96 : decode cX6_date 96 = .ok (.iastore, 1) := by decide +kernel
theorem dX6_date_97 : decode cX6_date 97 = .ok (.iload 4, 2) := by decide +kernel
theorem dX6_date_99 : decode cX6_date 99 = .ok (.ireturn, 1) := by decide +kernel
theorem dX6_bound_0 : decode cX6_bound 0 = .ok (.aload_n 0, 1) := by decide +kernel
theorem dX6_bound_1 : decode cX6_bound 1 = .ok (.iconst 0, 1) := by decide +kernel
theorem dX6_bound_2 : decode cX6_bound 2 = .ok (.putfield 60, 3) := by decide +kernel
theorem dX6_bound_5 : decode cX6_bound 5 = .ok (.aload_n 0, 1) := by decide +kernel
theorem dX6_bound_6 : decode cX6_bound 6 = .ok (.iload_n 1, 1) := by decide +kernel
theorem dX6_bound_7 : decode cX6_bound 7 = .ok (.invokevirtual 107, 3) := by decide +kernel
theorem dX6_bound_10 : decode cX6_bound 10 = .ok (.ifCond .eq 12, 3) := by decide +kernel
theorem dX6_bound_13 : decode cX6_bound 13 = .ok (.aload_n 0, 1) := by decide +kernel
theorem dX6_bound_14 : decode cX6_bound 14 = .ok (.iload_n 1, 1) := by decide +kernel
theorem dX6_bound_15 : decode cX6_bound 15 = .ok (.iload_n 2, 1) := by decide +kernel
theorem dX6_bound_16 : decode cX6_bound 16 = .ok (.invokevirtual 123, 3) := by decide +kernel
theorem dX6_bound_19 : decode cX6_bound 19 = .ok (.goto 8, 3) := by decide +kernel
theorem dX6_bound_22 : decode cX6_bound 22 = .ok (.aload_n 0, 1) := by decide +kernel
theorem dX6_bound_23 : decode cX6_bound 23 = .ok (.iconst 1, 1) := by decide +kernel
theorem dX6_bound_24 : decode cX6_bound 24 = .ok (.invokevirtual 100, 3) := by decide +kernel
theorem dX6_bound_27 : decode cX6_bound 27 = .ok (.ireturn, 1) := by decide +kernel
theorem dX6_doubt_0 : decode cX6_doubt 0 = .ok (.aload_n 0, 1) := by decide +kernel
theorem dX6_doubt_1 : decode cX6_doubt 1 = .ok (.iconst 0, 1) := by decide +kernel
theorem dX6_doubt_2 : decode cX6_doubt 2 = .ok (.putfield 60, 3) := by decide +kernel
theorem dX6_doubt_5 : decode cX6_doubt 5 = .ok (.iload_n 1, 1) := by decide +kernel
theorem dX6_doubt_6 : decode cX6_doubt 6 = .ok (.iconst 0, 1) := by decide +kernel
theorem dX6_doubt_7 : decode cX6_doubt 7 = .ok (.bipush 39, 2) := by decide +kernel
theorem dX6_doubt_9 : decode cX6_doubt 9 = .ok (.invokestatic 67, 3) := by decide +kernel
theorem dX6_doubt_12 : decode cX6_doubt 12 = .ok (.ifCond .ne 9, 3) := by decide +kernel
theorem dX6_doubt_15 : decode cX6_doubt 15 = .ok (.aload_n 0, 1) := by decide +kernel
theorem dX6_doubt_16 : decode cX6_doubt 16 = .ok (.iconst 1, 1) := by decide +kernel
theorem dX6_doubt_17 : decode cX6_doubt 17 = .ok (.invokevirtual 100, 3) := by decide +kernel
theorem dX6_doubt_20 : decode cX6_doubt 20 = .ok (.ireturn, 1) := by decide +kernel
theorem dX6_doubt_21 : decode cX6_doubt 21 = .ok (.iload_n 1, 1) := by decide +kernel
theorem dX6_doubt_22 : decode cX6_doubt 22 = .ok (.istore_n 2, 1) := by decide +kernel
theorem dX6_doubt_23 : decode cX6_doubt 23 = .ok (.iconst 0, 1) := by decide +kernel
theorem dX6_doubt_24 : decode cX6_doubt 24 = .ok (.istore_n 3, 1) := by decide +kernel
theorem dX6_doubt_25 : decode cX6_doubt 25 = .ok (.iload_n 3, 1) := by decide +kernel
theorem dX6_doubt_26 : decode cX6_doubt 26 = .ok (.aload_n 0, 1) := by decide +kernel
theorem dX6_doubt_27 : decode cX6_doubt 27 = .ok (.getfield 64, 3) := by decide +kernel
theorem dX6_doubt_30 : decode cX6_doubt 30 = .ok (.if_icmp .ge 37, 3) := by decide +kernel
theorem dX6_doubt_33 : decode cX6_doubt 33 = .ok (.aload_n 0, 1) := by decide +kernel
theorem dX6_doubt_34 : decode cX6_doubt 34 = .ok (.iload_n 3, 1) := by decide +kernel
theorem dX6_doubt_35 : decode cX6_doubt 35 = .ok (.invokevirtual 127, 3) := by decide +kernel
theorem dX6_doubt_38 : decode cX6_doubt 38 = .ok (.ifCond .eq 23, 3) := by decide +kernel
theorem dX6_doubt_41 : decode cX6_doubt 41 = .ok (.aload_n 0, 1) := by decide +kernel
theorem dX6_doubt_42 : decode cX6_doubt 42 = .ok (.iload_n 3, 1) := by decide +kernel
theorem dX6_doubt_43 : decode cX6_doubt 43 = .ok (.invokevirtual 136, 3) := by decide +kernel
theorem dX6_doubt_46 : decode cX6_doubt 46 = .ok (.ifCond .ne 6, 3) := by decide +kernel
theorem dX6_doubt_49 : decode cX6_doubt 49 = .ok (.goto 12, 3) := by decide +kernel
theorem dX6_doubt_52 : decode cX6_doubt 52 = .ok (.iload_n 2, 1) := by decide +kernel
theorem dX6_doubt_53 : decode cX6_doubt 53 = .ok (.ifCond .ne 5, 3) := by decide +kernel
theorem dX6_doubt_56 : decode cX6_doubt 56 = .ok (.iload_n 3, 1) := by decide +kernel
theorem dX6_doubt_57 : decode cX6_doubt 57 = .ok (.ireturn, 1) := by decide +kernel
theorem dX6_doubt_58 : decode cX6_doubt 58 = .ok (.iinc 2 (-1), 3) := by decide +kernel
theorem dX6_doubt_61 : decode cX6_doubt 61 = .ok (.iinc 3 1, 3) := by decide +kernel
theorem dX6_doubt_64 : decode cX6_doubt 64 = .ok (.goto (-39), 3) := by decide +kernel
theorem dX6_doubt_67 : decode cX6_doubt 67 = .ok (.iconst (-1), 1) := by decide +kernel
theorem dX6_doubt_68 : decode cX6_doubt 68 = .ok (.ireturn, 1) := by decide +kernel
theorem dX6_nearest_0 : decode cX6_nearest 0 = .ok (.aload_n 0, 1) := by decide +kernel
theorem dX6_nearest_1 : decode cX6_nearest 1 = .ok (.iconst 0, 1) := by decide +kernel
theorem dX6_nearest_2 : decode cX6_nearest 2 = .ok (.putfield 60, 3) := by decide +kernel
theorem dX6_nearest_5 : decode cX6_nearest 5 = .ok (.iload_n 1, 1) := by decide +kernel
theorem dX6_nearest_6 : decode cX6_nearest 6 = .ok (.iload_n 2, 1) := by decide +kernel
theorem dX6_nearest_7 : decode cX6_nearest 7 = .ok (.iload_n 3, 1) := by decide +kernel
theorem dX6_nearest_8 : decode cX6_nearest 8 = .ok (.invokestatic 187, 3) := by decide +kernel
theorem dX6_nearest_11 : decode cX6_nearest 11 = .ok (.ifCond .eq 14, 3) := by decide +kernel
theorem dX6_nearest_14 : decode cX6_nearest 14 = .ok (.iload 4, 2) := by decide +kernel
theorem dX6_nearest_16 : decode cX6_nearest 16 = .ok (.iconst (-1), 1) := by decide +kernel
theorem dX6_nearest_17 : decode cX6_nearest 17 = .ok (.bipush 9, 2) := by decide +kernel
theorem dX6_nearest_19 : decode cX6_nearest 19 = .ok (.invokestatic 67, 3) := by decide +kernel
theorem dX6_nearest_22 : decode cX6_nearest 22 = .ok (.ifCond .ne 9, 3) := by decide +kernel
theorem dX6_nearest_25 : decode cX6_nearest 25 = .ok (.aload_n 0, 1) := by decide +kernel
theorem dX6_nearest_26 : decode cX6_nearest 26 = .ok (.iconst 1, 1) := by decide +kernel
theorem dX6_nearest_27 : decode cX6_nearest 27 = .ok (.invokevirtual 100, 3) := by decide +kernel
theorem dX6_nearest_30 : decode cX6_nearest 30 = .ok (.ireturn, 1) := by decide +kernel
theorem dX6_nearest_31 : decode cX6_nearest 31 = .ok (.iconst (-1), 1) := by decide +kernel
theorem dX6_nearest_32 : decode cX6_nearest 32 = .ok (.istore 5, 2) := by decide +kernel
theorem dX6_nearest_34 : decode cX6_nearest 34 = .ok (.iconst 0, 1) := by decide +kernel
theorem dX6_nearest_35 : decode cX6_nearest 35 = .ok (.istore 6, 2) := by decide +kernel
theorem dX6_nearest_37 : decode cX6_nearest 37 = .ok (.iconst 0, 1) := by decide +kernel
theorem dX6_nearest_38 : decode cX6_nearest 38 = .ok (.istore 7, 2) := by decide +kernel
theorem dX6_nearest_40 : decode cX6_nearest 40 = .ok (.iload 7, 2) := by decide +kernel
theorem dX6_nearest_42 : decode cX6_nearest 42 = .ok (.aload_n 0, 1) := by decide +kernel
theorem dX6_nearest_43 : decode cX6_nearest 43 = .ok (.getfield 120, 3) := by decide +kernel
theorem dX6_nearest_46 : decode cX6_nearest 46 = .ok (.if_icmp .ge 127, 3) := by decide +kernel
theorem dX6_nearest_49 : decode cX6_nearest 49 = .ok (.iload 4, 2) := by decide +kernel
theorem dX6_nearest_51 : decode cX6_nearest 51 = .ok (.iconst (-1), 1) := by decide +kernel
theorem dX6_nearest_52 : decode cX6_nearest 52 = .ok (.if_icmp .eq 23, 3) := by decide +kernel
theorem dX6_nearest_55 : decode cX6_nearest 55 = .ok (.aload_n 0, 1) := by decide +kernel
theorem dX6_nearest_56 : decode cX6_nearest 56 = .ok (.getfield 38, 3) := by decide +kernel
theorem dX6_nearest_59 : decode cX6_nearest 59 = .ok (.bipush 7, 2) := by decide +kernel
theorem dX6_nearest_61 : decode cX6_nearest 61 = .ok (.iload 7, 2) := by decide +kernel
theorem dX6_nearest_63 : decode cX6_nearest 63 = .ok (.imul, 1) := by decide +kernel
theorem dX6_nearest_64 : decode cX6_nearest 64 = .ok (.iconst 1, 1) := by decide +kernel
theorem dX6_nearest_65 : decode cX6_nearest 65 = .ok (.iadd, 1) := by decide +kernel
theorem dX6_nearest_66 : decode cX6_nearest 66 = .ok (.iaload, 1) := by decide +kernel
theorem dX6_nearest_67 : decode cX6_nearest 67 = .ok (.iload 4, 2) := by decide +kernel
theorem dX6_nearest_69 : decode cX6_nearest 69 = .ok (.if_icmp .eq 6, 3) := by decide +kernel
theorem dX6_nearest_72 : decode cX6_nearest 72 = .ok (.goto 95, 3) := by decide +kernel
theorem dX6_nearest_75 : decode cX6_nearest 75 = .ok (.aload_n 0, 1) := by decide +kernel
theorem dX6_nearest_76 : decode cX6_nearest 76 = .ok (.getfield 38, 3) := by decide +kernel
theorem dX6_nearest_79 : decode cX6_nearest 79 = .ok (.bipush 7, 2) := by decide +kernel
theorem dX6_nearest_81 : decode cX6_nearest 81 = .ok (.iload 7, 2) := by decide +kernel
theorem dX6_nearest_83 : decode cX6_nearest 83 = .ok (.imul, 1) := by decide +kernel
theorem dX6_nearest_84 : decode cX6_nearest 84 = .ok (.iconst 4, 1) := by decide +kernel
theorem dX6_nearest_85 : decode cX6_nearest 85 = .ok (.iadd, 1) := by decide +kernel
theorem dX6_nearest_86 : decode cX6_nearest 86 = .ok (.iaload, 1) := by decide +kernel
theorem dX6_nearest_87 : decode cX6_nearest 87 = .ok (.iload_n 1, 1) := by decide +kernel
theorem dX6_nearest_88 : decode cX6_nearest 88 = .ok (.isub, 1) := by decide +kernel
theorem dX6_nearest_89 : decode cX6_nearest 89 = .ok (.istore 8, 2) := by decide +kernel
theorem dX6_nearest_91 : decode cX6_nearest 91 = .ok (.aload_n 0, 1) := by decide +kernel
theorem dX6_nearest_92 : decode cX6_nearest 92 = .ok (.getfield 38, 3) := by decide +kernel
theorem dX6_nearest_95 : decode cX6_nearest 95 = .ok (.bipush 7, 2) := by decide +kernel
theorem dX6_nearest_97 : decode cX6_nearest 97 = .ok (.iload 7, 2) := by decide +kernel
theorem dX6_nearest_99 : decode cX6_nearest 99 = .ok (.imul, 1) := by decide +kernel
theorem dX6_nearest_100 : decode cX6_nearest 100 = .ok (.iconst 5, 1) := by decide +kernel
theorem dX6_nearest_101 : decode cX6_nearest 101 = .ok (.iadd, 1) := by decide +kernel
theorem dX6_nearest_102 : decode cX6_nearest 102 = .ok (.iaload, 1) := by decide +kernel
theorem dX6_nearest_103 : decode cX6_nearest 103 = .ok (.iload_n 2, 1) := by decide +kernel
theorem dX6_nearest_104 : decode cX6_nearest 104 = .ok (.isub, 1) := by decide +kernel
theorem dX6_nearest_105 : decode cX6_nearest 105 = .ok (.istore 9, 2) := by decide +kernel
theorem dX6_nearest_107 : decode cX6_nearest 107 = .ok (.aload_n 0, 1) := by decide +kernel
theorem dX6_nearest_108 : decode cX6_nearest 108 = .ok (.getfield 38, 3) := by decide +kernel
theorem dX6_nearest_111 : decode cX6_nearest 111 = .ok (.bipush 7, 2) := by decide +kernel
theorem dX6_nearest_113 : decode cX6_nearest 113 = .ok (.iload 7, 2) := by decide +kernel
theorem dX6_nearest_115 : decode cX6_nearest 115 = .ok (.imul, 1) := by decide +kernel
theorem dX6_nearest_116 : decode cX6_nearest 116 = .ok (.bipush 6, 2) := by decide +kernel
theorem dX6_nearest_118 : decode cX6_nearest 118 = .ok (.iadd, 1) := by decide +kernel
theorem dX6_nearest_119 : decode cX6_nearest 119 = .ok (.iaload, 1) := by decide +kernel
theorem dX6_nearest_120 : decode cX6_nearest 120 = .ok (.iload_n 3, 1) := by decide +kernel
theorem dX6_nearest_121 : decode cX6_nearest 121 = .ok (.isub, 1) := by decide +kernel
theorem dX6_nearest_122 : decode cX6_nearest 122 = .ok (.istore 10, 2) := by decide +kernel
theorem dX6_nearest_124 : decode cX6_nearest 124 = .ok (.iload 8, 2) := by decide +kernel
theorem dX6_nearest_126 : decode cX6_nearest 126 = .ok (.iload 8, 2) := by decide +kernel
theorem dX6_nearest_128 : decode cX6_nearest 128 = .ok (.imul, 1) := by decide +kernel
theorem dX6_nearest_129 : decode cX6_nearest 129 = .ok (.iload 9, 2) := by decide +kernel
theorem dX6_nearest_131 : decode cX6_nearest 131 = .ok (.iload 9, 2) := by decide +kernel
theorem dX6_nearest_133 : decode cX6_nearest 133 = .ok (.imul, 1) := by decide +kernel
theorem dX6_nearest_134 : decode cX6_nearest 134 = .ok (.iadd, 1) := by decide +kernel
theorem dX6_nearest_135 : decode cX6_nearest 135 = .ok (.iload 10, 2) := by decide +kernel
theorem dX6_nearest_137 : decode cX6_nearest 137 = .ok (.iload 10, 2) := by decide +kernel
theorem dX6_nearest_139 : decode cX6_nearest 139 = .ok (.imul, 1) := by decide +kernel
theorem dX6_nearest_140 : decode cX6_nearest 140 = .ok (.iadd, 1) := by decide +kernel
theorem dX6_nearest_141 : decode cX6_nearest 141 = .ok (.istore 11, 2) := by decide +kernel
theorem dX6_nearest_143 : decode cX6_nearest 143 = .ok (.iload 5, 2) := by decide +kernel
theorem dX6_nearest_145 : decode cX6_nearest 145 = .ok (.iconst (-1), 1) := by decide +kernel
theorem dX6_nearest_146 : decode cX6_nearest 146 = .ok (.if_icmp .eq 13, 3) := by decide +kernel
theorem dX6_nearest_149 : decode cX6_nearest 149 = .ok (.iload 11, 2) := by decide +kernel
theorem dX6_nearest_151 : decode cX6_nearest 151 = .ok (.iload 6, 2) := by decide +kernel
theorem dX6_nearest_153 : decode cX6_nearest 153 = .ok (.if_icmp .lt 6, 3) := by decide +kernel
theorem dX6_nearest_156 : decode cX6_nearest 156 = .ok (.goto 11, 3) := by decide +kernel
theorem dX6_nearest_159 : decode cX6_nearest 159 = .ok (.iload 7, 2) := by decide +kernel
theorem dX6_nearest_161 : decode cX6_nearest 161 = .ok (.istore 5, 2) := by decide +kernel
theorem dX6_nearest_163 : decode cX6_nearest 163 = .ok (.iload 11, 2) := by decide +kernel
theorem dX6_nearest_165 : decode cX6_nearest 165 = .ok (.istore 6, 2) := by decide +kernel
theorem dX6_nearest_167 : decode cX6_nearest 167 = .ok (.iinc 7 1, 3) := by decide +kernel
theorem dX6_nearest_170 : decode cX6_nearest 170 = .ok (.goto (-130), 3) := by decide +kernel
theorem dX6_nearest_173 : decode cX6_nearest 173 = .ok (.iload 5, 2) := by decide +kernel
theorem dX6_nearest_175 : decode cX6_nearest 175 = .ok (.ireturn, 1) := by decide +kernel
theorem dX6_canDig_0 : decode cX6_canDig 0 = .ok (.aload_n 0, 1) := by decide +kernel
theorem dX6_canDig_1 : decode cX6_canDig 1 = .ok (.getfield 23, 3) := by decide +kernel
theorem dX6_canDig_4 : decode cX6_canDig 4 = .ok (.iload_n 1, 1) := by decide +kernel
theorem dX6_canDig_5 : decode cX6_canDig 5 = .ok (.baload, 1) := by decide +kernel
theorem dX6_canDig_6 : decode cX6_canDig 6 = .ok (.ifCond .eq 5, 3) := by decide +kernel
theorem dX6_canDig_9 : decode cX6_canDig 9 = .ok (.iconst 0, 1) := by decide +kernel
theorem dX6_canDig_10 : decode cX6_canDig 10 = .ok (.ireturn, 1) := by decide +kernel
theorem dX6_canDig_11 : decode cX6_canDig 11 = .ok (.iconst 0, 1) := by decide +kernel
theorem dX6_canDig_12 : decode cX6_canDig 12 = .ok (.istore_n 2, 1) := by decide +kernel
theorem dX6_canDig_13 : decode cX6_canDig 13 = .ok (.iload_n 2, 1) := by decide +kernel
theorem dX6_canDig_14 : decode cX6_canDig 14 = .ok (.aload_n 0, 1) := by decide +kernel
theorem dX6_canDig_15 : decode cX6_canDig 15 = .ok (.getfield 64, 3) := by decide +kernel
theorem dX6_canDig_18 : decode cX6_canDig 18 = .ok (.if_icmp .ge 43, 3) := by decide +kernel
theorem dX6_canDig_21 : decode cX6_canDig 21 = .ok (.aload_n 0, 1) := by decide +kernel
theorem dX6_canDig_22 : decode cX6_canDig 22 = .ok (.getfield 48, 3) := by decide +kernel
theorem dX6_canDig_25 : decode cX6_canDig 25 = .ok (.aload_n 0, 1) := by decide +kernel
theorem dX6_canDig_26 : decode cX6_canDig 26 = .ok (.getfield 41, 3) := by decide +kernel
theorem dX6_canDig_29 : decode cX6_canDig 29 = .ok (.iload_n 1, 1) := by decide +kernel
theorem dX6_canDig_30 : decode cX6_canDig 30 = .ok (.iaload, 1) := by decide +kernel
theorem dX6_canDig_31 : decode cX6_canDig 31 = .ok (.laload, 1) := by decide +kernel
theorem dX6_canDig_32 : decode cX6_canDig 32 = .ok (.aload_n 0, 1) := by decide +kernel
theorem dX6_canDig_33 : decode cX6_canDig 33 = .ok (.getfield 41, 3) := by decide +kernel
theorem dX6_canDig_36 : decode cX6_canDig 36 = .ok (.iload_n 2, 1) := by decide +kernel
theorem dX6_canDig_37 : decode cX6_canDig 37 = .ok (.iaload, 1) := by decide +kernel
theorem dX6_canDig_38 : decode cX6_canDig 38 = .ok (.invokestatic 83, 3) := by decide +kernel
theorem dX6_canDig_41 : decode cX6_canDig 41 = .ok (.ifCond .eq 14, 3) := by decide +kernel
theorem dX6_canDig_44 : decode cX6_canDig 44 = .ok (.aload_n 0, 1) := by decide +kernel
theorem dX6_canDig_45 : decode cX6_canDig 45 = .ok (.getfield 23, 3) := by decide +kernel
theorem dX6_canDig_48 : decode cX6_canDig 48 = .ok (.iload_n 2, 1) := by decide +kernel
theorem dX6_canDig_49 : decode cX6_canDig 49 = .ok (.baload, 1) := by decide +kernel
theorem dX6_canDig_50 : decode cX6_canDig 50 = .ok (.ifCond .ne 5, 3) := by decide +kernel
theorem dX6_canDig_53 : decode cX6_canDig 53 = .ok (.iconst 0, 1) := by decide +kernel
theorem dX6_canDig_54 : decode cX6_canDig 54 = .ok (.ireturn, 1) := by decide +kernel
theorem dX6_canDig_55 : decode cX6_canDig 55 = .ok (.iinc 2 1, 3) := by decide +kernel
theorem dX6_canDig_58 : decode cX6_canDig 58 = .ok (.goto (-45), 3) := by decide +kernel
theorem dX6_canDig_61 : decode cX6_canDig 61 = .ok (.iconst 1, 1) := by decide +kernel
theorem dX6_canDig_62 : decode cX6_canDig 62 = .ok (.ireturn, 1) := by decide +kernel
theorem dX6_dig_0 : decode cX6_dig 0 = .ok (.aload_n 0, 1) := by decide +kernel
theorem dX6_dig_1 : decode cX6_dig 1 = .ok (.iconst 0, 1) := by decide +kernel
theorem dX6_dig_2 : decode cX6_dig 2 = .ok (.putfield 60, 3) := by decide +kernel
theorem dX6_dig_5 : decode cX6_dig 5 = .ok (.aload_n 0, 1) := by decide +kernel
theorem dX6_dig_6 : decode cX6_dig 6 = .ok (.iload_n 1, 1) := by decide +kernel
theorem dX6_dig_7 : decode cX6_dig 7 = .ok (.invokevirtual 107, 3) := by decide +kernel
theorem dX6_dig_10 : decode cX6_dig 10 = .ok (.ifCond .ne 9, 3) := by decide +kernel
theorem dX6_dig_13 : decode cX6_dig 13 = .ok (.aload_n 0, 1) := by decide +kernel
theorem dX6_dig_14 : decode cX6_dig 14 = .ok (.iconst 1, 1) := by decide +kernel
theorem dX6_dig_15 : decode cX6_dig 15 = .ok (.invokevirtual 100, 3) := by decide +kernel
theorem dX6_dig_18 : decode cX6_dig 18 = .ok (.ireturn, 1) := by decide +kernel
theorem dX6_dig_19 : decode cX6_dig 19 = .ok (.aload_n 0, 1) := by decide +kernel
theorem dX6_dig_20 : decode cX6_dig 20 = .ok (.iload_n 1, 1) := by decide +kernel
theorem dX6_dig_21 : decode cX6_dig 21 = .ok (.invokevirtual 193, 3) := by decide +kernel
theorem dX6_dig_24 : decode cX6_dig 24 = .ok (.ifCond .ne 9, 3) := by decide +kernel
theorem dX6_dig_27 : decode cX6_dig 27 = .ok (.aload_n 0, 1) := by decide +kernel
theorem dX6_dig_28 : decode cX6_dig 28 = .ok (.iconst 2, 1) := by decide +kernel
theorem dX6_dig_29 : decode cX6_dig 29 = .ok (.invokevirtual 100, 3) := by decide +kernel
theorem dX6_dig_32 : decode cX6_dig 32 = .ok (.ireturn, 1) := by decide +kernel
theorem dX6_dig_33 : decode cX6_dig 33 = .ok (.aload_n 0, 1) := by decide +kernel
theorem dX6_dig_34 : decode cX6_dig 34 = .ok (.getfield 23, 3) := by decide +kernel
theorem dX6_dig_37 : decode cX6_dig 37 = .ok (.iload_n 1, 1) := by decide +kernel
theorem dX6_dig_38 : decode cX6_dig 38 = .ok (.iconst 1, 1) := by decide +kernel
theorem dX6_dig_39 : decode cX6_dig 39 = .ok (.bastore, 1) := by decide +kernel
theorem dX6_dig_40 : decode cX6_dig 40 = .ok (.iconst 0, 1) := by decide +kernel
theorem dX6_dig_41 : decode cX6_dig 41 = .ok (.istore_n 2, 1) := by decide +kernel
theorem dX6_dig_42 : decode cX6_dig 42 = .ok (.iconst 0, 1) := by decide +kernel
theorem dX6_dig_43 : decode cX6_dig 43 = .ok (.istore_n 3, 1) := by decide +kernel
theorem dX6_dig_44 : decode cX6_dig 44 = .ok (.iload_n 3, 1) := by decide +kernel
theorem dX6_dig_45 : decode cX6_dig 45 = .ok (.aload_n 0, 1) := by decide +kernel
theorem dX6_dig_46 : decode cX6_dig 46 = .ok (.getfield 64, 3) := by decide +kernel
theorem dX6_dig_49 : decode cX6_dig 49 = .ok (.if_icmp .ge 25, 3) := by decide +kernel
theorem dX6_dig_52 : decode cX6_dig 52 = .ok (.iload_n 2, 1) := by decide +kernel
theorem dX6_dig_53 : decode cX6_dig 53 = .ok (.aload_n 0, 1) := by decide +kernel
theorem dX6_dig_54 : decode cX6_dig 54 = .ok (.iload_n 3, 1) := by decide +kernel
theorem dX6_dig_55 : decode cX6_dig 55 = .ok (.invokevirtual 193, 3) := by decide +kernel
theorem dX6_dig_58 : decode cX6_dig 58 = .ok (.ifCond .eq 7, 3) := by decide +kernel
theorem dX6_dig_61 : decode cX6_dig 61 = .ok (.iconst 1, 1) := by decide +kernel
theorem dX6_dig_62 : decode cX6_dig 62 = .ok (.goto 4, 3) := by decide +kernel
theorem dX6_dig_65 : decode cX6_dig 65 = .ok (.iconst 0, 1) := by decide +kernel
theorem dX6_dig_66 : decode cX6_dig 66 = .ok (.iadd, 1) := by decide +kernel
theorem dX6_dig_67 : decode cX6_dig 67 = .ok (.istore_n 2, 1) := by decide +kernel
theorem dX6_dig_68 : decode cX6_dig 68 = .ok (.iinc 3 1, 3) := by decide +kernel
theorem dX6_dig_71 : decode cX6_dig 71 = .ok (.goto (-27), 3) := by decide +kernel
theorem dX6_dig_74 : decode cX6_dig 74 = .ok (.iload_n 2, 1) := by decide +kernel
theorem dX6_dig_75 : decode cX6_dig 75 = .ok (.ireturn, 1) := by decide +kernel
theorem dX6_next_0 : decode cX6_next 0 = .ok (.aload_n 0, 1) := by decide +kernel
theorem dX6_next_1 : decode cX6_next 1 = .ok (.iconst 0, 1) := by decide +kernel
theorem dX6_next_2 : decode cX6_next 2 = .ok (.putfield 60, 3) := by decide +kernel
theorem dX6_next_5 : decode cX6_next 5 = .ok (.iload_n 1, 1) := by decide +kernel
theorem dX6_next_6 : decode cX6_next 6 = .ok (.iconst 0, 1) := by decide +kernel
theorem dX6_next_7 : decode cX6_next 7 = .ok (.bipush 39, 2) := by decide +kernel
theorem dX6_next_9 : decode cX6_next 9 = .ok (.invokestatic 67, 3) := by decide +kernel
theorem dX6_next_12 : decode cX6_next 12 = .ok (.ifCond .ne 9, 3) := by decide +kernel
theorem dX6_next_15 : decode cX6_next 15 = .ok (.aload_n 0, 1) := by decide +kernel
theorem dX6_next_16 : decode cX6_next 16 = .ok (.iconst 1, 1) := by decide +kernel
theorem dX6_next_17 : decode cX6_next 17 = .ok (.invokevirtual 100, 3) := by decide +kernel
theorem dX6_next_20 : decode cX6_next 20 = .ok (.ireturn, 1) := by decide +kernel
theorem dX6_next_21 : decode cX6_next 21 = .ok (.iload_n 1, 1) := by decide +kernel
theorem dX6_next_22 : decode cX6_next 22 = .ok (.istore_n 2, 1) := by decide +kernel
theorem dX6_next_23 : decode cX6_next 23 = .ok (.iconst 0, 1) := by decide +kernel
theorem dX6_next_24 : decode cX6_next 24 = .ok (.istore_n 3, 1) := by decide +kernel
theorem dX6_next_25 : decode cX6_next 25 = .ok (.iload_n 3, 1) := by decide +kernel
theorem dX6_next_26 : decode cX6_next 26 = .ok (.aload_n 0, 1) := by decide +kernel
theorem dX6_next_27 : decode cX6_next 27 = .ok (.getfield 64, 3) := by decide +kernel
theorem dX6_next_30 : decode cX6_next 30 = .ok (.if_icmp .ge 29, 3) := by decide +kernel
theorem dX6_next_33 : decode cX6_next 33 = .ok (.aload_n 0, 1) := by decide +kernel
theorem dX6_next_34 : decode cX6_next 34 = .ok (.iload_n 3, 1) := by decide +kernel
theorem dX6_next_35 : decode cX6_next 35 = .ok (.invokevirtual 193, 3) := by decide +kernel
theorem dX6_next_38 : decode cX6_next 38 = .ok (.ifCond .ne 6, 3) := by decide +kernel
theorem dX6_next_41 : decode cX6_next 41 = .ok (.goto 12, 3) := by decide +kernel
theorem dX6_next_44 : decode cX6_next 44 = .ok (.iload_n 2, 1) := by decide +kernel
theorem dX6_next_45 : decode cX6_next 45 = .ok (.ifCond .ne 5, 3) := by decide +kernel
theorem dX6_next_48 : decode cX6_next 48 = .ok (.iload_n 3, 1) := by decide +kernel
theorem dX6_next_49 : decode cX6_next 49 = .ok (.ireturn, 1) := by decide +kernel
theorem dX6_next_50 : decode cX6_next 50 = .ok (.iinc 2 (-1), 3) := by decide +kernel
theorem dX6_next_53 : decode cX6_next 53 = .ok (.iinc 3 1, 3) := by decide +kernel
theorem dX6_next_56 : decode cX6_next 56 = .ok (.goto (-31), 3) := by decide +kernel
theorem dX6_next_59 : decode cX6_next 59 = .ok (.iconst (-1), 1) := by decide +kernel
theorem dX6_next_60 : decode cX6_next 60 = .ok (.ireturn, 1) := by decide +kernel
theorem dX6_setPhase_0 : decode cX6_setPhase 0 = .ok (.aload_n 0, 1) := by decide +kernel
theorem dX6_setPhase_1 : decode cX6_setPhase 1 = .ok (.iconst 0, 1) := by decide +kernel
theorem dX6_setPhase_2 : decode cX6_setPhase 2 = .ok (.putfield 60, 3) := by decide +kernel
theorem dX6_setPhase_5 : decode cX6_setPhase 5 = .ok (.aload_n 0, 1) := by decide +kernel
theorem dX6_setPhase_6 : decode cX6_setPhase 6 = .ok (.iload_n 1, 1) := by decide +kernel
theorem dX6_setPhase_7 : decode cX6_setPhase 7 = .ok (.invokevirtual 107, 3) := by decide +kernel
theorem dX6_setPhase_10 : decode cX6_setPhase 10 = .ok (.ifCond .ne 9, 3) := by decide +kernel
theorem dX6_setPhase_13 : decode cX6_setPhase 13 = .ok (.aload_n 0, 1) := by decide +kernel
theorem dX6_setPhase_14 : decode cX6_setPhase 14 = .ok (.iconst 1, 1) := by decide +kernel
theorem dX6_setPhase_15 : decode cX6_setPhase 15 = .ok (.invokevirtual 100, 3) := by decide +kernel
theorem dX6_setPhase_18 : decode cX6_setPhase 18 = .ok (.ireturn, 1) := by decide +kernel
theorem dX6_setPhase_19 : decode cX6_setPhase 19 = .ok (.iload_n 2, 1) := by decide +kernel
theorem dX6_setPhase_20 : decode cX6_setPhase 20 = .ok (.iconst 0, 1) := by decide +kernel
theorem dX6_setPhase_21 : decode cX6_setPhase 21 = .ok (.bipush 20, 2) := by decide +kernel
theorem dX6_setPhase_23 : decode cX6_setPhase 23 = .ok (.invokestatic 67, 3) := by decide +kernel
theorem dX6_setPhase_26 : decode cX6_setPhase 26 = .ok (.ifCond .ne 9, 3) := by decide +kernel
theorem dX6_setPhase_29 : decode cX6_setPhase 29 = .ok (.aload_n 0, 1) := by decide +kernel
theorem dX6_setPhase_30 : decode cX6_setPhase 30 = .ok (.iconst 2, 1) := by decide +kernel
theorem dX6_setPhase_31 : decode cX6_setPhase 31 = .ok (.invokevirtual 100, 3) := by decide +kernel
theorem dX6_setPhase_34 : decode cX6_setPhase 34 = .ok (.ireturn, 1) := by decide +kernel
theorem dX6_setPhase_35 : decode cX6_setPhase 35 = .ok (.aload_n 0, 1) := by decide +kernel
theorem dX6_setPhase_36 : decode cX6_setPhase 36 = .ok (.getfield 26, 3) := by decide +kernel
theorem dX6_setPhase_39 : decode cX6_setPhase 39 = .ok (.iload_n 1, 1) := by decide +kernel
theorem dX6_setPhase_40 : decode cX6_setPhase 40 = .ok (.iaload, 1) := by decide +kernel
theorem dX6_setPhase_41 : decode cX6_setPhase 41 = .ok (.istore_n 3, 1) := by decide +kernel
theorem dX6_setPhase_42 : decode cX6_setPhase 42 = .ok (.aload_n 0, 1) := by decide +kernel
theorem dX6_setPhase_43 : decode cX6_setPhase 43 = .ok (.getfield 26, 3) := by decide +kernel
theorem dX6_setPhase_46 : decode cX6_setPhase 46 = .ok (.iload_n 1, 1) := by decide +kernel
theorem dX6_setPhase_47 : decode cX6_setPhase 47 = .ok (.iload_n 2, 1) := by decide +kernel
theorem dX6_setPhase_48 : decode cX6_setPhase 48 = .ok (.iastore, 1) := by decide +kernel
theorem dX6_setPhase_49 : decode cX6_setPhase 49 = .ok (.iload_n 3, 1) := by decide +kernel
theorem dX6_setPhase_50 : decode cX6_setPhase 50 = .ok (.ireturn, 1) := by decide +kernel
theorem dX6_phaseAll_0 : decode cX6_phaseAll 0 = .ok (.aload_n 0, 1) := by decide +kernel
theorem dX6_phaseAll_1 : decode cX6_phaseAll 1 = .ok (.iconst 0, 1) := by decide +kernel
theorem dX6_phaseAll_2 : decode cX6_phaseAll 2 = .ok (.putfield 60, 3) := by decide +kernel
theorem dX6_phaseAll_5 : decode cX6_phaseAll 5 = .ok (.iconst 0, 1) := by decide +kernel
theorem dX6_phaseAll_6 : decode cX6_phaseAll 6 = .ok (.istore_n 1, 1) := by decide +kernel
theorem dX6_phaseAll_7 : decode cX6_phaseAll 7 = .ok (.iconst 0, 1) := by decide +kernel
theorem dX6_phaseAll_8 : decode cX6_phaseAll 8 = .ok (.istore_n 2, 1) := by decide +kernel
theorem dX6_phaseAll_9 : decode cX6_phaseAll 9 = .ok (.iload_n 2, 1) := by decide +kernel
theorem dX6_phaseAll_10 : decode cX6_phaseAll 10 = .ok (.aload_n 0, 1) := by decide +kernel
theorem dX6_phaseAll_11 : decode cX6_phaseAll 11 = .ok (.getfield 64, 3) := by decide +kernel
theorem dX6_phaseAll_14 : decode cX6_phaseAll 14 = .ok (.if_icmp .ge 51, 3) := by decide +kernel
theorem dX6_phaseAll_17 : decode cX6_phaseAll 17 = .ok (.bipush 20, 2) := by decide +kernel
theorem dX6_phaseAll_19 : decode cX6_phaseAll 19 = .ok (.aload_n 0, 1) := by decide +kernel
theorem dX6_phaseAll_20 : decode cX6_phaseAll 20 = .ok (.getfield 54, 3) := by decide +kernel
theorem dX6_phaseAll_23 : decode cX6_phaseAll 23 = .ok (.aload_n 0, 1) := by decide +kernel
theorem dX6_phaseAll_24 : decode cX6_phaseAll 24 = .ok (.getfield 41, 3) := by decide +kernel
theorem dX6_phaseAll_27 : decode cX6_phaseAll 27 = .ok (.iload_n 2, 1) := by decide +kernel
theorem dX6_phaseAll_28 : decode cX6_phaseAll 28 = .ok (.iaload, 1) := by decide +kernel
theorem dX6_phaseAll_29 : decode cX6_phaseAll 29 = .ok (.iaload, 1) := by decide +kernel
theorem dX6_phaseAll_30 : decode cX6_phaseAll 30 = .ok (.invokestatic 74, 3) := by decide +kernel
theorem dX6_phaseAll_33 : decode cX6_phaseAll 33 = .ok (.istore_n 3, 1) := by decide +kernel
theorem dX6_phaseAll_34 : decode cX6_phaseAll 34 = .ok (.iload_n 1, 1) := by decide +kernel
theorem dX6_phaseAll_35 : decode cX6_phaseAll 35 = .ok (.aload_n 0, 1) := by decide +kernel
theorem dX6_phaseAll_36 : decode cX6_phaseAll 36 = .ok (.getfield 26, 3) := by decide +kernel
theorem dX6_phaseAll_39 : decode cX6_phaseAll 39 = .ok (.iload_n 2, 1) := by decide +kernel
theorem dX6_phaseAll_40 : decode cX6_phaseAll 40 = .ok (.iaload, 1) := by decide +kernel
theorem dX6_phaseAll_41 : decode cX6_phaseAll 41 = .ok (.iload_n 3, 1) := by decide +kernel
theorem dX6_phaseAll_42 : decode cX6_phaseAll 42 = .ok (.if_icmp .eq 7, 3) := by decide +kernel
theorem dX6_phaseAll_45 : decode cX6_phaseAll 45 = .ok (.iconst 1, 1) := by decide +kernel
theorem dX6_phaseAll_46 : decode cX6_phaseAll 46 = .ok (.goto 4, 3) := by decide +kernel
theorem dX6_phaseAll_49 : decode cX6_phaseAll 49 = .ok (.iconst 0, 1) := by decide +kernel
theorem dX6_phaseAll_50 : decode cX6_phaseAll 50 = .ok (.iadd, 1) := by decide +kernel
theorem dX6_phaseAll_51 : decode cX6_phaseAll 51 = .ok (.istore_n 1, 1) := by decide +kernel
theorem dX6_phaseAll_52 : decode cX6_phaseAll 52 = .ok (.aload_n 0, 1) := by decide +kernel
theorem dX6_phaseAll_53 : decode cX6_phaseAll 53 = .ok (.getfield 26, 3) := by decide +kernel
theorem dX6_phaseAll_56 : decode cX6_phaseAll 56 = .ok (.iload_n 2, 1) := by decide +kernel
theorem dX6_phaseAll_57 : decode cX6_phaseAll 57 = .ok (.iload_n 3, 1) := by decide +kernel
theorem dX6_phaseAll_58 : decode cX6_phaseAll 58 = .ok (.iastore, 1) := by decide +kernel
theorem dX6_phaseAll_59 : decode cX6_phaseAll 59 = .ok (.iinc 2 1, 3) := by decide +kernel
theorem dX6_phaseAll_62 : decode cX6_phaseAll 62 = .ok (.goto (-53), 3) := by decide +kernel
theorem dX6_phaseAll_65 : decode cX6_phaseAll 65 = .ok (.iload_n 1, 1) := by decide +kernel
theorem dX6_phaseAll_66 : decode cX6_phaseAll 66 = .ok (.ireturn, 1) := by decide +kernel
theorem dX6_outOfPhase_0 : decode cX6_outOfPhase 0 = .ok (.aload_n 0, 1) := by decide +kernel
theorem dX6_outOfPhase_1 : decode cX6_outOfPhase 1 = .ok (.iconst 0, 1) := by decide +kernel
theorem dX6_outOfPhase_2 : decode cX6_outOfPhase 2 = .ok (.putfield 60, 3) := by decide +kernel
theorem dX6_outOfPhase_5 : decode cX6_outOfPhase 5 = .ok (.iconst 0, 1) := by decide +kernel
theorem dX6_outOfPhase_6 : decode cX6_outOfPhase 6 = .ok (.istore_n 2, 1) := by decide +kernel
theorem dX6_outOfPhase_7 : decode cX6_outOfPhase 7 = .ok (.iload_n 2, 1) := by decide +kernel
theorem dX6_outOfPhase_8 : decode cX6_outOfPhase 8 = .ok (.aload_n 0, 1) := by decide +kernel
theorem dX6_outOfPhase_9 : decode cX6_outOfPhase 9 = .ok (.getfield 64, 3) := by decide +kernel
theorem dX6_outOfPhase_12 : decode cX6_outOfPhase 12 = .ok (.if_icmp .ge 44, 3) := by decide +kernel
theorem dX6_outOfPhase_15 : decode cX6_outOfPhase 15 = .ok (.iconst 0, 1) := by decide +kernel
theorem dX6_outOfPhase_16 : decode cX6_outOfPhase 16 = .ok (.istore_n 3, 1) := by decide +kernel
theorem dX6_outOfPhase_17 : decode cX6_outOfPhase 17 = .ok (.iload_n 3, 1) := by decide +kernel
theorem dX6_outOfPhase_18 : decode cX6_outOfPhase 18 = .ok (.aload_n 0, 1) := by decide +kernel
theorem dX6_outOfPhase_19 : decode cX6_outOfPhase 19 = .ok (.getfield 64, 3) := by decide +kernel
theorem dX6_outOfPhase_22 : decode cX6_outOfPhase 22 = .ok (.if_icmp .ge 28, 3) := by decide +kernel
theorem dX6_outOfPhase_25 : decode cX6_outOfPhase 25 = .ok (.aload_n 0, 1) := by decide +kernel
theorem dX6_outOfPhase_26 : decode cX6_outOfPhase 26 = .ok (.iload_n 2, 1) := by decide +kernel
theorem dX6_outOfPhase_27 : decode cX6_outOfPhase 27 = .ok (.iload_n 3, 1) := by decide +kernel
theorem dX6_outOfPhase_28 : decode cX6_outOfPhase 28 = .ok (.invokevirtual 139, 3) := by decide +kernel
theorem dX6_outOfPhase_31 : decode cX6_outOfPhase 31 = .ok (.ifCond .eq 13, 3) := by decide +kernel
theorem dX6_outOfPhase_34 : decode cX6_outOfPhase 34 = .ok (.iload_n 1, 1) := by decide +kernel
theorem dX6_outOfPhase_35 : decode cX6_outOfPhase 35 = .ok (.ifCond .eq 7, 3) := by decide +kernel
theorem dX6_outOfPhase_38 : decode cX6_outOfPhase 38 = .ok (.iload_n 3, 1) := by decide +kernel
theorem dX6_outOfPhase_39 : decode cX6_outOfPhase 39 = .ok (.goto 4, 3) := by decide +kernel
theorem dX6_outOfPhase_42 : decode cX6_outOfPhase 42 = .ok (.iload_n 2, 1) := by decide +kernel
theorem dX6_outOfPhase_43 : decode cX6_outOfPhase 43 = .ok (.ireturn, 1) := by decide +kernel
theorem dX6_outOfPhase_44 : decode cX6_outOfPhase 44 = .ok (.iinc 3 1, 3) := by decide +kernel
theorem dX6_outOfPhase_47 : decode cX6_outOfPhase 47 = .ok (.goto (-30), 3) := by decide +kernel
theorem dX6_outOfPhase_50 : decode cX6_outOfPhase 50 = .ok (.iinc 2 1, 3) := by decide +kernel
theorem dX6_outOfPhase_53 : decode cX6_outOfPhase 53 = .ok (.goto (-46), 3) := by decide +kernel
theorem dX6_outOfPhase_56 : decode cX6_outOfPhase 56 = .ok (.iconst (-1), 1) := by decide +kernel
theorem dX6_outOfPhase_57 : decode cX6_outOfPhase 57 = .ok (.ireturn, 1) := by decide +kernel
theorem dX6_meanHeight_0 : decode cX6_meanHeight 0 = .ok (.aload_n 0, 1) := by decide +kernel
theorem dX6_meanHeight_1 : decode cX6_meanHeight 1 = .ok (.iconst 0, 1) := by decide +kernel
theorem dX6_meanHeight_2 : decode cX6_meanHeight 2 = .ok (.putfield 60, 3) := by decide +kernel
theorem dX6_meanHeight_5 : decode cX6_meanHeight 5 = .ok (.iconst 0, 1) := by decide +kernel
theorem dX6_meanHeight_6 : decode cX6_meanHeight 6 = .ok (.istore_n 1, 1) := by decide +kernel
theorem dX6_meanHeight_7 : decode cX6_meanHeight 7 = .ok (.iconst 0, 1) := by decide +kernel
theorem dX6_meanHeight_8 : decode cX6_meanHeight 8 = .ok (.istore_n 2, 1) := by decide +kernel
theorem dX6_meanHeight_9 : decode cX6_meanHeight 9 = .ok (.iload_n 2, 1) := by decide +kernel
theorem dX6_meanHeight_10 : decode cX6_meanHeight 10 = .ok (.aload_n 0, 1) := by decide +kernel
theorem dX6_meanHeight_11 : decode cX6_meanHeight 11 = .ok (.getfield 120, 3) := by decide +kernel
theorem dX6_meanHeight_14 : decode cX6_meanHeight 14 = .ok (.if_icmp .ge 24, 3) := by decide +kernel
theorem dX6_meanHeight_17 : decode cX6_meanHeight 17 = .ok (.iload_n 1, 1) := by decide +kernel
theorem dX6_meanHeight_18 : decode cX6_meanHeight 18 = .ok (.aload_n 0, 1) := by decide +kernel
theorem dX6_meanHeight_19 : decode cX6_meanHeight 19 = .ok (.getfield 38, 3) := by decide +kernel
theorem dX6_meanHeight_22 : decode cX6_meanHeight 22 = .ok (.bipush 7, 2) := by decide +kernel
theorem dX6_meanHeight_24 : decode cX6_meanHeight 24 = .ok (.iload_n 2, 1) := by decide +kernel
theorem dX6_meanHeight_25 : decode cX6_meanHeight 25 = .ok (.imul, 1) := by decide +kernel
theorem dX6_meanHeight_26 : decode cX6_meanHeight 26 = .ok (.bipush 6, 2) := by decide +kernel
theorem dX6_meanHeight_28 : decode cX6_meanHeight 28 = .ok (.iadd, 1) := by decide +kernel
theorem dX6_meanHeight_29 : decode cX6_meanHeight 29 = .ok (.iaload, 1) := by decide +kernel
theorem dX6_meanHeight_30 : decode cX6_meanHeight 30 = .ok (.iadd, 1) := by decide +kernel
theorem dX6_meanHeight_31 : decode cX6_meanHeight 31 = .ok (.istore_n 1, 1) := by decide +kernel
theorem dX6_meanHeight_32 : decode cX6_meanHeight 32 = .ok (.iinc 2 1, 3) := by decide +kernel
theorem dX6_meanHeight_35 : decode cX6_meanHeight 35 = .ok (.goto (-26), 3) := by decide +kernel
theorem dX6_meanHeight_38 : decode cX6_meanHeight 38 = .ok (.aload_n 0, 1) := by decide +kernel
theorem dX6_meanHeight_39 : decode cX6_meanHeight 39 = .ok (.getfield 120, 3) := by decide +kernel
theorem dX6_meanHeight_42 : decode cX6_meanHeight 42 = .ok (.ifCond .ne 7, 3) := by decide +kernel
theorem dX6_meanHeight_45 : decode cX6_meanHeight 45 = .ok (.dconst 0, 1) := by decide +kernel
theorem dX6_meanHeight_46 : decode cX6_meanHeight 46 = .ok (.goto 11, 3) := by decide +kernel
theorem dX6_meanHeight_49 : decode cX6_meanHeight 49 = .ok (.iload_n 1, 1) := by decide +kernel
theorem dX6_meanHeight_50 : decode cX6_meanHeight 50 = .ok (.i2d, 1) := by decide +kernel
theorem dX6_meanHeight_51 : decode cX6_meanHeight 51 = .ok (.aload_n 0, 1) := by decide +kernel
theorem dX6_meanHeight_52 : decode cX6_meanHeight 52 = .ok (.getfield 120, 3) := by decide +kernel
theorem dX6_meanHeight_55 : decode cX6_meanHeight 55 = .ok (.i2d, 1) := by decide +kernel
theorem dX6_meanHeight_56 : decode cX6_meanHeight 56 = .ok (.ddiv, 1) := by decide +kernel
theorem dX6_meanHeight_57 : decode cX6_meanHeight 57 = .ok (.dreturn, 1) := by decide +kernel
theorem dX6_digest_0 : decode cX6_digest 0 = .ok (.aload_n 0, 1) := by decide +kernel
theorem dX6_digest_1 : decode cX6_digest 1 = .ok (.iconst 0, 1) := by decide +kernel
theorem dX6_digest_2 : decode cX6_digest 2 = .ok (.putfield 60, 3) := by decide +kernel
theorem dX6_digest_5 : decode cX6_digest 5 = .ok (.ldc2_w 196, 3) := by decide +kernel
theorem dX6_digest_8 : decode cX6_digest 8 = .ok (.lstore_n 1, 1) := by decide +kernel
theorem dX6_digest_9 : decode cX6_digest 9 = .ok (.iconst 0, 1) := by decide +kernel
theorem dX6_digest_10 : decode cX6_digest 10 = .ok (.istore_n 3, 1) := by decide +kernel
theorem dX6_digest_11 : decode cX6_digest 11 = .ok (.iload_n 3, 1) := by decide +kernel
theorem dX6_digest_12 : decode cX6_digest 12 = .ok (.bipush 9, 2) := by decide +kernel
theorem dX6_digest_14 : decode cX6_digest 14 = .ok (.if_icmp .ge 22, 3) := by decide +kernel
theorem dX6_digest_17 : decode cX6_digest 17 = .ok (.lload_n 1, 1) := by decide +kernel
theorem dX6_digest_18 : decode cX6_digest 18 = .ok (.ldc2_w 198, 3) := by decide +kernel
theorem dX6_digest_21 : decode cX6_digest 21 = .ok (.lmul, 1) := by decide +kernel
theorem dX6_digest_22 : decode cX6_digest 22 = .ok (.aload_n 0, 1) := by decide +kernel
theorem dX6_digest_23 : decode cX6_digest 23 = .ok (.iload_n 3, 1) := by decide +kernel
theorem dX6_digest_24 : decode cX6_digest 24 = .ok (.invokevirtual 162, 3) := by decide +kernel
theorem dX6_digest_27 : decode cX6_digest 27 = .ok (.i2l, 1) := by decide +kernel
theorem dX6_digest_28 : decode cX6_digest 28 = .ok (.ladd, 1) := by decide +kernel
theorem dX6_digest_29 : decode cX6_digest 29 = .ok (.lstore_n 1, 1) := by decide +kernel
theorem dX6_digest_30 : decode cX6_digest 30 = .ok (.iinc 3 1, 3) := by decide +kernel
theorem dX6_digest_33 : decode cX6_digest 33 = .ok (.goto (-22), 3) := by decide +kernel
theorem dX6_digest_36 : decode cX6_digest 36 = .ok (.iconst 0, 1) := by decide +kernel
theorem dX6_digest_37 : decode cX6_digest 37 = .ok (.istore_n 3, 1) := by decide +kernel
theorem dX6_digest_38 : decode cX6_digest 38 = .ok (.iload_n 3, 1) := by decide +kernel
theorem dX6_digest_39 : decode cX6_digest 39 = .ok (.aload_n 0, 1) := by decide +kernel
theorem dX6_digest_40 : decode cX6_digest 40 = .ok (.getfield 64, 3) := by decide +kernel
theorem dX6_digest_43 : decode cX6_digest 43 = .ok (.if_icmp .ge 66, 3) := by decide +kernel
theorem dX6_digest_46 : decode cX6_digest 46 = .ok (.iconst 0, 1) := by decide +kernel
theorem dX6_digest_47 : decode cX6_digest 47 = .ok (.istore 4, 2) := by decide +kernel
theorem dX6_digest_49 : decode cX6_digest 49 = .ok (.iload 4, 2) := by decide +kernel
theorem dX6_digest_51 : decode cX6_digest 51 = .ok (.bipush 10, 2) := by decide +kernel
theorem dX6_digest_53 : decode cX6_digest 53 = .ok (.if_icmp .ge 24, 3) := by decide +kernel
theorem dX6_digest_56 : decode cX6_digest 56 = .ok (.lload_n 1, 1) := by decide +kernel
theorem dX6_digest_57 : decode cX6_digest 57 = .ok (.ldc2_w 198, 3) := by decide +kernel
theorem dX6_digest_60 : decode cX6_digest 60 = .ok (.lmul, 1) := by decide +kernel
theorem dX6_digest_61 : decode cX6_digest 61 = .ok (.aload_n 0, 1) := by decide +kernel
theorem dX6_digest_62 : decode cX6_digest 62 = .ok (.iload_n 3, 1) := by decide +kernel
theorem dX6_digest_63 : decode cX6_digest 63 = .ok (.iload 4, 2) := by decide +kernel
theorem dX6_digest_65 : decode cX6_digest 65 = .ok (.invokevirtual 171, 3) := by decide +kernel
theorem dX6_digest_68 : decode cX6_digest 68 = .ok (.i2l, 1) := by decide +kernel
theorem dX6_digest_69 : decode cX6_digest 69 = .ok (.ladd, 1) := by decide +kernel
theorem dX6_digest_70 : decode cX6_digest 70 = .ok (.lstore_n 1, 1) := by decide +kernel
theorem dX6_digest_71 : decode cX6_digest 71 = .ok (.iinc 4 1, 3) := by decide +kernel
theorem dX6_digest_74 : decode cX6_digest 74 = .ok (.goto (-25), 3) := by decide +kernel
theorem dX6_digest_77 : decode cX6_digest 77 = .ok (.lload_n 1, 1) := by decide +kernel
theorem dX6_digest_78 : decode cX6_digest 78 = .ok (.ldc2_w 198, 3) := by decide +kernel
theorem dX6_digest_81 : decode cX6_digest 81 = .ok (.lmul, 1) := by decide +kernel
theorem dX6_digest_82 : decode cX6_digest 82 = .ok (.aload_n 0, 1) := by decide +kernel
theorem dX6_digest_83 : decode cX6_digest 83 = .ok (.iload_n 3, 1) := by decide +kernel
theorem dX6_digest_84 : decode cX6_digest 84 = .ok (.iconst 0, 1) := by decide +kernel
theorem dX6_digest_85 : decode cX6_digest 85 = .ok (.invokevirtual 123, 3) := by decide +kernel
theorem dX6_digest_88 : decode cX6_digest 88 = .ok (.i2l, 1) := by decide +kernel
theorem dX6_digest_89 : decode cX6_digest 89 = .ok (.ladd, 1) := by decide +kernel
theorem dX6_digest_90 : decode cX6_digest 90 = .ok (.ldc2_w 198, 3) := by decide +kernel
theorem dX6_digest_93 : decode cX6_digest 93 = .ok (.lmul, 1) := by decide +kernel
theorem dX6_digest_94 : decode cX6_digest 94 = .ok (.aload_n 0, 1) := by decide +kernel
theorem dX6_digest_95 : decode cX6_digest 95 = .ok (.iload_n 3, 1) := by decide +kernel
theorem dX6_digest_96 : decode cX6_digest 96 = .ok (.iconst 1, 1) := by decide +kernel
theorem dX6_digest_97 : decode cX6_digest 97 = .ok (.invokevirtual 123, 3) := by decide +kernel
theorem dX6_digest_100 : decode cX6_digest 100 = .ok (.i2l, 1) := by decide +kernel
theorem dX6_digest_101 : decode cX6_digest 101 = .ok (.ladd, 1) := by decide +kernel
theorem dX6_digest_102 : decode cX6_digest 102 = .ok (.lstore_n 1, 1) := by decide +kernel
theorem dX6_digest_103 : decode cX6_digest 103 = .ok (.iinc 3 1, 3) := by decide +kernel
theorem dX6_digest_106 : decode cX6_digest 106 = .ok (.goto (-68), 3) := by decide +kernel
theorem dX6_digest_109 : decode cX6_digest 109 = .ok (.iconst 0, 1) := by decide +kernel
theorem dX6_digest_110 : decode cX6_digest 110 = .ok (.istore_n 3, 1) := by decide +kernel
theorem dX6_digest_111 : decode cX6_digest 111 = .ok (.iload_n 3, 1) := by decide +kernel
theorem dX6_digest_112 : decode cX6_digest 112 = .ok (.aload_n 0, 1) := by decide +kernel
theorem dX6_digest_113 : decode cX6_digest 113 = .ok (.getfield 71, 3) := by decide +kernel
theorem dX6_digest_116 : decode cX6_digest 116 = .ok (.if_icmp .ge 39, 3) := by decide +kernel
theorem dX6_digest_119 : decode cX6_digest 119 = .ok (.iconst 0, 1) := by decide +kernel
theorem dX6_digest_120 : decode cX6_digest 120 = .ok (.istore 4, 2) := by decide +kernel
theorem dX6_digest_122 : decode cX6_digest 122 = .ok (.iload 4, 2) := by decide +kernel
theorem dX6_digest_124 : decode cX6_digest 124 = .ok (.iconst 3, 1) := by decide +kernel
theorem dX6_digest_125 : decode cX6_digest 125 = .ok (.if_icmp .ge 24, 3) := by decide +kernel
theorem dX6_digest_128 : decode cX6_digest 128 = .ok (.lload_n 1, 1) := by decide +kernel
theorem dX6_digest_129 : decode cX6_digest 129 = .ok (.ldc2_w 198, 3) := by decide +kernel
theorem dX6_digest_132 : decode cX6_digest 132 = .ok (.lmul, 1) := by decide +kernel
theorem dX6_digest_133 : decode cX6_digest 133 = .ok (.aload_n 0, 1) := by decide +kernel
theorem dX6_digest_134 : decode cX6_digest 134 = .ok (.iload_n 3, 1) := by decide +kernel
theorem dX6_digest_135 : decode cX6_digest 135 = .ok (.iload 4, 2) := by decide +kernel
theorem dX6_digest_137 : decode cX6_digest 137 = .ok (.invokevirtual 117, 3) := by decide +kernel
theorem dX6_digest_140 : decode cX6_digest 140 = .ok (.i2l, 1) := by decide +kernel
theorem dX6_digest_141 : decode cX6_digest 141 = .ok (.ladd, 1) := by decide +kernel
theorem dX6_digest_142 : decode cX6_digest 142 = .ok (.lstore_n 1, 1) := by decide +kernel
theorem dX6_digest_143 : decode cX6_digest 143 = .ok (.iinc 4 1, 3) := by decide +kernel
theorem dX6_digest_146 : decode cX6_digest 146 = .ok (.goto (-24), 3) := by decide +kernel
theorem dX6_digest_149 : decode cX6_digest 149 = .ok (.iinc 3 1, 3) := by decide +kernel
theorem dX6_digest_152 : decode cX6_digest 152 = .ok (.goto (-41), 3) := by decide +kernel
theorem dX6_digest_155 : decode cX6_digest 155 = .ok (.iconst 0, 1) := by decide +kernel
theorem dX6_digest_156 : decode cX6_digest 156 = .ok (.istore_n 3, 1) := by decide +kernel
theorem dX6_digest_157 : decode cX6_digest 157 = .ok (.iload_n 3, 1) := by decide +kernel
theorem dX6_digest_158 : decode cX6_digest 158 = .ok (.aload_n 0, 1) := by decide +kernel
theorem dX6_digest_159 : decode cX6_digest 159 = .ok (.getfield 120, 3) := by decide +kernel
theorem dX6_digest_162 : decode cX6_digest 162 = .ok (.if_icmp .ge 40, 3) := by decide +kernel
theorem dX6_digest_165 : decode cX6_digest 165 = .ok (.iconst 0, 1) := by decide +kernel
theorem dX6_digest_166 : decode cX6_digest 166 = .ok (.istore 4, 2) := by decide +kernel
theorem dX6_digest_168 : decode cX6_digest 168 = .ok (.iload 4, 2) := by decide +kernel
theorem dX6_digest_170 : decode cX6_digest 170 = .ok (.bipush 8, 2) := by decide +kernel
theorem dX6_digest_172 : decode cX6_digest 172 = .ok (.if_icmp .ge 24, 3) := by decide +kernel
theorem dX6_digest_175 : decode cX6_digest 175 = .ok (.lload_n 1, 1) := by decide +kernel
theorem dX6_digest_176 : decode cX6_digest 176 = .ok (.ldc2_w 198, 3) := by decide +kernel
theorem dX6_digest_179 : decode cX6_digest 179 = .ok (.lmul, 1) := by decide +kernel
theorem dX6_digest_180 : decode cX6_digest 180 = .ok (.aload_n 0, 1) := by decide +kernel
theorem dX6_digest_181 : decode cX6_digest 181 = .ok (.iload_n 3, 1) := by decide +kernel
theorem dX6_digest_182 : decode cX6_digest 182 = .ok (.iload 4, 2) := by decide +kernel
theorem dX6_digest_184 : decode cX6_digest 184 = .ok (.invokevirtual 190, 3) := by decide +kernel
theorem dX6_digest_187 : decode cX6_digest 187 = .ok (.i2l, 1) := by decide +kernel
theorem dX6_digest_188 : decode cX6_digest 188 = .ok (.ladd, 1) := by decide +kernel
theorem dX6_digest_189 : decode cX6_digest 189 = .ok (.lstore_n 1, 1) := by decide +kernel
theorem dX6_digest_190 : decode cX6_digest 190 = .ok (.iinc 4 1, 3) := by decide +kernel
theorem dX6_digest_193 : decode cX6_digest 193 = .ok (.goto (-25), 3) := by decide +kernel
theorem dX6_digest_196 : decode cX6_digest 196 = .ok (.iinc 3 1, 3) := by decide +kernel
theorem dX6_digest_199 : decode cX6_digest 199 = .ok (.goto (-42), 3) := by decide +kernel
theorem dX6_digest_202 : decode cX6_digest 202 = .ok (.lload_n 1, 1) := by decide +kernel
theorem dX6_digest_203 : decode cX6_digest 203 = .ok (.lreturn, 1) := by decide +kernel
theorem dJ13_bitCount_95d88_0 : decode cJ13_bitCount_95d88 0 = .ok (.lload_n 0, 1) := by decide +kernel
theorem dJ13_bitCount_95d88_1 : decode cJ13_bitCount_95d88 1 = .ok (.lload_n 0, 1) := by decide +kernel
theorem dJ13_bitCount_95d88_2 : decode cJ13_bitCount_95d88 2 = .ok (.iconst 1, 1) := by decide +kernel
theorem dJ13_bitCount_95d88_3 : decode cJ13_bitCount_95d88 3 = .ok (.lushr, 1) := by decide +kernel
theorem dJ13_bitCount_95d88_4 : decode cJ13_bitCount_95d88 4 = .ok (.ldc2_w 314, 3) := by decide +kernel
theorem dJ13_bitCount_95d88_7 : decode cJ13_bitCount_95d88 7 = .ok (.land, 1) := by decide +kernel
theorem dJ13_bitCount_95d88_8 : decode cJ13_bitCount_95d88 8 = .ok (.lsub, 1) := by decide +kernel
theorem dJ13_bitCount_95d88_9 : decode cJ13_bitCount_95d88 9 = .ok (.lstore_n 0, 1) := by decide +kernel
theorem dJ13_bitCount_95d88_10 : decode cJ13_bitCount_95d88 10 = .ok (.lload_n 0, 1) := by decide +kernel
theorem dJ13_bitCount_95d88_11 : decode cJ13_bitCount_95d88 11 = .ok (.ldc2_w 316, 3) := by decide +kernel
theorem dJ13_bitCount_95d88_14 : decode cJ13_bitCount_95d88 14 = .ok (.land, 1) := by decide +kernel
theorem dJ13_bitCount_95d88_15 : decode cJ13_bitCount_95d88 15 = .ok (.lload_n 0, 1) := by decide +kernel
theorem dJ13_bitCount_95d88_16 : decode cJ13_bitCount_95d88 16 = .ok (.iconst 2, 1) := by decide +kernel
theorem dJ13_bitCount_95d88_17 : decode cJ13_bitCount_95d88 17 = .ok (.lushr, 1) := by decide +kernel
theorem dJ13_bitCount_95d88_18 : decode cJ13_bitCount_95d88 18 = .ok (.ldc2_w 316, 3) := by decide +kernel
theorem dJ13_bitCount_95d88_21 : decode cJ13_bitCount_95d88 21 = .ok (.land, 1) := by decide +kernel
theorem dJ13_bitCount_95d88_22 : decode cJ13_bitCount_95d88 22 = .ok (.ladd, 1) := by decide +kernel
theorem dJ13_bitCount_95d88_23 : decode cJ13_bitCount_95d88 23 = .ok (.lstore_n 0, 1) := by decide +kernel
theorem dJ13_bitCount_95d88_24 : decode cJ13_bitCount_95d88 24 = .ok (.lload_n 0, 1) := by decide +kernel
theorem dJ13_bitCount_95d88_25 : decode cJ13_bitCount_95d88 25 = .ok (.lload_n 0, 1) := by decide +kernel
theorem dJ13_bitCount_95d88_26 : decode cJ13_bitCount_95d88 26 = .ok (.iconst 4, 1) := by decide +kernel
theorem dJ13_bitCount_95d88_27 : decode cJ13_bitCount_95d88 27 = .ok (.lushr, 1) := by decide +kernel
theorem dJ13_bitCount_95d88_28 : decode cJ13_bitCount_95d88 28 = .ok (.ladd, 1) := by decide +kernel
theorem dJ13_bitCount_95d88_29 : decode cJ13_bitCount_95d88 29 = .ok (.ldc2_w 318, 3) := by decide +kernel
theorem dJ13_bitCount_95d88_32 : decode cJ13_bitCount_95d88 32 = .ok (.land, 1) := by decide +kernel
theorem dJ13_bitCount_95d88_33 : decode cJ13_bitCount_95d88 33 = .ok (.lstore_n 0, 1) := by decide +kernel
theorem dJ13_bitCount_95d88_34 : decode cJ13_bitCount_95d88 34 = .ok (.lload_n 0, 1) := by decide +kernel
theorem dJ13_bitCount_95d88_35 : decode cJ13_bitCount_95d88 35 = .ok (.lload_n 0, 1) := by decide +kernel
theorem dJ13_bitCount_95d88_36 : decode cJ13_bitCount_95d88 36 = .ok (.bipush 8, 2) := by decide +kernel
theorem dJ13_bitCount_95d88_38 : decode cJ13_bitCount_95d88 38 = .ok (.lushr, 1) := by decide +kernel
theorem dJ13_bitCount_95d88_39 : decode cJ13_bitCount_95d88 39 = .ok (.ladd, 1) := by decide +kernel
theorem dJ13_bitCount_95d88_40 : decode cJ13_bitCount_95d88 40 = .ok (.lstore_n 0, 1) := by decide +kernel
theorem dJ13_bitCount_95d88_41 : decode cJ13_bitCount_95d88 41 = .ok (.lload_n 0, 1) := by decide +kernel
theorem dJ13_bitCount_95d88_42 : decode cJ13_bitCount_95d88 42 = .ok (.lload_n 0, 1) := by decide +kernel
theorem dJ13_bitCount_95d88_43 : decode cJ13_bitCount_95d88 43 = .ok (.bipush 16, 2) := by decide +kernel
theorem dJ13_bitCount_95d88_45 : decode cJ13_bitCount_95d88 45 = .ok (.lushr, 1) := by decide +kernel
theorem dJ13_bitCount_95d88_46 : decode cJ13_bitCount_95d88 46 = .ok (.ladd, 1) := by decide +kernel
theorem dJ13_bitCount_95d88_47 : decode cJ13_bitCount_95d88 47 = .ok (.lstore_n 0, 1) := by decide +kernel
theorem dJ13_bitCount_95d88_48 : decode cJ13_bitCount_95d88 48 = .ok (.lload_n 0, 1) := by decide +kernel
theorem dJ13_bitCount_95d88_49 : decode cJ13_bitCount_95d88 49 = .ok (.lload_n 0, 1) := by decide +kernel
theorem dJ13_bitCount_95d88_50 : decode cJ13_bitCount_95d88 50 = .ok (.bipush 32, 2) := by decide +kernel
theorem dJ13_bitCount_95d88_52 : decode cJ13_bitCount_95d88 52 = .ok (.lushr, 1) := by decide +kernel
theorem dJ13_bitCount_95d88_53 : decode cJ13_bitCount_95d88 53 = .ok (.ladd, 1) := by decide +kernel
theorem dJ13_bitCount_95d88_54 : decode cJ13_bitCount_95d88 54 = .ok (.lstore_n 0, 1) := by decide +kernel
theorem dJ13_bitCount_95d88_55 : decode cJ13_bitCount_95d88 55 = .ok (.lload_n 0, 1) := by decide +kernel
theorem dJ13_bitCount_95d88_56 : decode cJ13_bitCount_95d88 56 = .ok (.l2i, 1) := by decide +kernel
theorem dJ13_bitCount_95d88_57 : decode cJ13_bitCount_95d88 57 = .ok (.bipush 127, 2) := by decide +kernel
theorem dJ13_bitCount_95d88_59 : decode cJ13_bitCount_95d88 59 = .ok (.iand, 1) := by decide +kernel
theorem dJ13_bitCount_95d88_60 : decode cJ13_bitCount_95d88 60 = .ok (.ireturn, 1) := by decide +kernel
theorem dJ9_max_7cf53_0 : decode cJ9_max_7cf53 0 = .ok (.iload_n 0, 1) := by decide +kernel
theorem dJ9_max_7cf53_1 : decode cJ9_max_7cf53 1 = .ok (.iload_n 1, 1) := by decide +kernel
theorem dJ9_max_7cf53_2 : decode cJ9_max_7cf53 2 = .ok (.if_icmp .lt 7, 3) := by decide +kernel
theorem dJ9_max_7cf53_5 : decode cJ9_max_7cf53 5 = .ok (.iload_n 0, 1) := by decide +kernel
theorem dJ9_max_7cf53_6 : decode cJ9_max_7cf53 6 = .ok (.goto 4, 3) := by decide +kernel
theorem dJ9_max_7cf53_9 : decode cJ9_max_7cf53 9 = .ok (.iload_n 1, 1) := by decide +kernel
theorem dJ9_max_7cf53_10 : decode cJ9_max_7cf53 10 = .ok (.ireturn, 1) := by decide +kernel
theorem dJ9_min_7cf53_0 : decode cJ9_min_7cf53 0 = .ok (.iload_n 0, 1) := by decide +kernel
theorem dJ9_min_7cf53_1 : decode cJ9_min_7cf53 1 = .ok (.iload_n 1, 1) := by decide +kernel
theorem dJ9_min_7cf53_2 : decode cJ9_min_7cf53 2 = .ok (.if_icmp .gt 7, 3) := by decide +kernel
theorem dJ9_min_7cf53_5 : decode cJ9_min_7cf53 5 = .ok (.iload_n 0, 1) := by decide +kernel
theorem dJ9_min_7cf53_6 : decode cJ9_min_7cf53 6 = .ok (.goto 4, 3) := by decide +kernel
theorem dJ9_min_7cf53_9 : decode cJ9_min_7cf53 9 = .ok (.iload_n 1, 1) := by decide +kernel
theorem dJ9_min_7cf53_10 : decode cJ9_min_7cf53 10 = .ok (.ireturn, 1) := by decide +kernel
theorem dL_addUnit_0 : decode cL_addUnit 0 = .ok (.aload_n 2, 1) := by decide +kernel
theorem dL_addUnit_1 : decode cL_addUnit 1 = .ok (.iconst 0, 1) := by decide +kernel
theorem dL_addUnit_2 : decode cL_addUnit 2 = .ok (.aload_n 0, 1) := by decide +kernel
theorem dL_addUnit_3 : decode cL_addUnit 3 = .ok (.iload_n 1, 1) := by decide +kernel
theorem dL_addUnit_4 : decode cL_addUnit 4 = .ok (.invokevirtual 7, 3) := by decide +kernel
theorem dL_addUnit_7 : decode cL_addUnit 7 = .ok (.i2l, 1) := by decide +kernel
theorem dL_addUnit_8 : decode cL_addUnit 8 = .ok (.lastore, 1) := by decide +kernel
theorem dL_addUnit_9 : decode cL_addUnit 9 = .ok (.goto 9, 3) := by decide +kernel
theorem dL_addUnit_12 : decode cL_addUnit 12 = .ok (.astore_n 3, 1) := by decide +kernel
theorem dL_addUnit_13 : decode cL_addUnit 13 = .ok (.iconst 1, 1) := by decide +kernel
theorem dL_addUnit_14 : decode cL_addUnit 14 = .ok (.ireturn, 1) := by decide +kernel
theorem dL_addUnit_15 : decode cL_addUnit 15 = .ok (.astore_n 3, 1) := by decide +kernel
theorem dL_addUnit_16 : decode cL_addUnit 16 = .ok (.iconst 2, 1) := by decide +kernel
theorem dL_addUnit_17 : decode cL_addUnit 17 = .ok (.ireturn, 1) := by decide +kernel
theorem dL_addUnit_18 : decode cL_addUnit 18 = .ok (.iconst 0, 1) := by decide +kernel
theorem dL_addUnit_19 : decode cL_addUnit 19 = .ok (.ireturn, 1) := by decide +kernel
theorem dL_relate_0 : decode cL_relate 0 = .ok (.aload 4, 2) := by decide +kernel
theorem dL_relate_2 : decode cL_relate 2 = .ok (.iconst 0, 1) := by decide +kernel
theorem dL_relate_3 : decode cL_relate 3 = .ok (.aload_n 0, 1) := by decide +kernel
theorem dL_relate_4 : decode cL_relate 4 = .ok (.iload_n 1, 1) := by decide +kernel
theorem dL_relate_5 : decode cL_relate 5 = .ok (.iload_n 2, 1) := by decide +kernel
theorem dL_relate_6 : decode cL_relate 6 = .ok (.iload_n 3, 1) := by decide +kernel
theorem dL_relate_7 : decode cL_relate 7 = .ok (.invokevirtual 17, 3) := by decide +kernel
theorem dL_relate_10 : decode cL_relate 10 = .ok (.i2l, 1) := by decide +kernel
theorem dL_relate_11 : decode cL_relate 11 = .ok (.lastore, 1) := by decide +kernel
theorem dL_relate_12 : decode cL_relate 12 = .ok (.goto 15, 3) := by decide +kernel
theorem dL_relate_15 : decode cL_relate 15 = .ok (.astore 5, 2) := by decide +kernel
theorem dL_relate_17 : decode cL_relate 17 = .ok (.iconst 1, 1) := by decide +kernel
theorem dL_relate_18 : decode cL_relate 18 = .ok (.ireturn, 1) := by decide +kernel
theorem dL_relate_19 : decode cL_relate 19 = .ok (.astore 5, 2) := by decide +kernel
theorem dL_relate_21 : decode cL_relate 21 = .ok (.iconst 2, 1) := by decide +kernel
theorem dL_relate_22 : decode cL_relate 22 = .ok (.ireturn, 1) := by decide +kernel
theorem dL_relate_23 : decode cL_relate 23 = .ok (.astore 5, 2) := by decide +kernel
theorem dL_relate_25 : decode cL_relate 25 = .ok (.iconst 3, 1) := by decide +kernel
theorem dL_relate_26 : decode cL_relate 26 = .ok (.ireturn, 1) := by decide +kernel
theorem dL_relate_27 : decode cL_relate 27 = .ok (.iconst 0, 1) := by decide +kernel
theorem dL_relate_28 : decode cL_relate 28 = .ok (.ireturn, 1) := by decide +kernel
theorem dL_takeBack_0 : decode cL_takeBack 0 = .ok (.aload_n 2, 1) := by decide +kernel
theorem dL_takeBack_1 : decode cL_takeBack 1 = .ok (.iconst 0, 1) := by decide +kernel
theorem dL_takeBack_2 : decode cL_takeBack 2 = .ok (.aload_n 0, 1) := by decide +kernel
theorem dL_takeBack_3 : decode cL_takeBack 3 = .ok (.iload_n 1, 1) := by decide +kernel
theorem dL_takeBack_4 : decode cL_takeBack 4 = .ok (.invokevirtual 23, 3) := by decide +kernel
theorem dL_takeBack_7 : decode cL_takeBack 7 = .ok (.i2l, 1) := by decide +kernel
theorem dL_takeBack_8 : decode cL_takeBack 8 = .ok (.lastore, 1) := by decide +kernel
theorem dL_takeBack_9 : decode cL_takeBack 9 = .ok (.goto 6, 3) := by decide +kernel
theorem dL_takeBack_12 : decode cL_takeBack 12 = .ok (.astore_n 3, 1) := by decide +kernel
theorem dL_takeBack_13 : decode cL_takeBack 13 = .ok (.iconst 1, 1) := by decide +kernel
theorem dL_takeBack_14 : decode cL_takeBack 14 = .ok (.ireturn, 1) := by decide +kernel
theorem dL_takeBack_15 : decode cL_takeBack 15 = .ok (.iconst 0, 1) := by decide +kernel
theorem dL_takeBack_16 : decode cL_takeBack 16 = .ok (.ireturn, 1) := by decide +kernel
theorem dL_relation_0 : decode cL_relation 0 = .ok (.aload_n 3, 1) := by decide +kernel
theorem dL_relation_1 : decode cL_relation 1 = .ok (.iconst 0, 1) := by decide +kernel
theorem dL_relation_2 : decode cL_relation 2 = .ok (.aload_n 0, 1) := by decide +kernel
theorem dL_relation_3 : decode cL_relation 3 = .ok (.iload_n 1, 1) := by decide +kernel
theorem dL_relation_4 : decode cL_relation 4 = .ok (.iload_n 2, 1) := by decide +kernel
theorem dL_relation_5 : decode cL_relation 5 = .ok (.invokevirtual 26, 3) := by decide +kernel
theorem dL_relation_8 : decode cL_relation 8 = .ok (.i2l, 1) := by decide +kernel
theorem dL_relation_9 : decode cL_relation 9 = .ok (.lastore, 1) := by decide +kernel
theorem dL_relation_10 : decode cL_relation 10 = .ok (.goto 7, 3) := by decide +kernel
theorem dL_relation_13 : decode cL_relation 13 = .ok (.astore 4, 2) := by decide +kernel
theorem dL_relation_15 : decode cL_relation 15 = .ok (.iconst 1, 1) := by decide +kernel
theorem dL_relation_16 : decode cL_relation 16 = .ok (.ireturn, 1) := by decide +kernel
theorem dL_relation_17 : decode cL_relation 17 = .ok (.iconst 0, 1) := by decide +kernel
theorem dL_relation_18 : decode cL_relation 18 = .ok (.ireturn, 1) := by decide +kernel
theorem dL_count_0 : decode cL_count 0 = .ok (.aload_n 2, 1) := by decide +kernel
theorem dL_count_1 : decode cL_count 1 = .ok (.iconst 0, 1) := by decide +kernel
theorem dL_count_2 : decode cL_count 2 = .ok (.aload_n 0, 1) := by decide +kernel
theorem dL_count_3 : decode cL_count 3 = .ok (.iload_n 1, 1) := by decide +kernel
theorem dL_count_4 : decode cL_count 4 = .ok (.invokevirtual 30, 3) := by decide +kernel
theorem dL_count_7 : decode cL_count 7 = .ok (.i2l, 1) := by decide +kernel
theorem dL_count_8 : decode cL_count 8 = .ok (.lastore, 1) := by decide +kernel
theorem dL_count_9 : decode cL_count 9 = .ok (.goto 6, 3) := by decide +kernel
theorem dL_count_12 : decode cL_count 12 = .ok (.astore_n 3, 1) := by decide +kernel
theorem dL_count_13 : decode cL_count 13 = .ok (.iconst 1, 1) := by decide +kernel
theorem dL_count_14 : decode cL_count 14 = .ok (.ireturn, 1) := by decide +kernel
theorem dL_count_15 : decode cL_count 15 = .ok (.iconst 0, 1) := by decide +kernel
theorem dL_count_16 : decode cL_count 16 = .ok (.ireturn, 1) := by decide +kernel
theorem dL_unit_0 : decode cL_unit 0 = .ok (.aload_n 3, 1) := by decide +kernel
theorem dL_unit_1 : decode cL_unit 1 = .ok (.iconst 0, 1) := by decide +kernel
theorem dL_unit_2 : decode cL_unit 2 = .ok (.aload_n 0, 1) := by decide +kernel
theorem dL_unit_3 : decode cL_unit 3 = .ok (.iload_n 1, 1) := by decide +kernel
theorem dL_unit_4 : decode cL_unit 4 = .ok (.iload_n 2, 1) := by decide +kernel
theorem dL_unit_5 : decode cL_unit 5 = .ok (.invokevirtual 33, 3) := by decide +kernel
theorem dL_unit_8 : decode cL_unit 8 = .ok (.i2l, 1) := by decide +kernel
theorem dL_unit_9 : decode cL_unit 9 = .ok (.lastore, 1) := by decide +kernel
theorem dL_unit_10 : decode cL_unit 10 = .ok (.goto 7, 3) := by decide +kernel
theorem dL_unit_13 : decode cL_unit 13 = .ok (.astore 4, 2) := by decide +kernel
theorem dL_unit_15 : decode cL_unit 15 = .ok (.iconst 1, 1) := by decide +kernel
theorem dL_unit_16 : decode cL_unit 16 = .ok (.ireturn, 1) := by decide +kernel
theorem dL_unit_17 : decode cL_unit 17 = .ok (.iconst 0, 1) := by decide +kernel
theorem dL_unit_18 : decode cL_unit 18 = .ok (.ireturn, 1) := by decide +kernel
theorem dL_order_0 : decode cL_order 0 = .ok (.aload_n 3, 1) := by decide +kernel
theorem dL_order_1 : decode cL_order 1 = .ok (.iconst 0, 1) := by decide +kernel
theorem dL_order_2 : decode cL_order 2 = .ok (.aload_n 0, 1) := by decide +kernel
theorem dL_order_3 : decode cL_order 3 = .ok (.iload_n 1, 1) := by decide +kernel
theorem dL_order_4 : decode cL_order 4 = .ok (.iload_n 2, 1) := by decide +kernel
theorem dL_order_5 : decode cL_order 5 = .ok (.invokevirtual 36, 3) := by decide +kernel
theorem dL_order_8 : decode cL_order 8 = .ok (.i2l, 1) := by decide +kernel
theorem dL_order_9 : decode cL_order 9 = .ok (.lastore, 1) := by decide +kernel
theorem dL_order_10 : decode cL_order 10 = .ok (.goto 7, 3) := by decide +kernel
theorem dL_order_13 : decode cL_order 13 = .ok (.astore 4, 2) := by decide +kernel
theorem dL_order_15 : decode cL_order 15 = .ok (.iconst 1, 1) := by decide +kernel
theorem dL_order_16 : decode cL_order 16 = .ok (.ireturn, 1) := by decide +kernel
theorem dL_order_17 : decode cL_order 17 = .ok (.iconst 0, 1) := by decide +kernel
theorem dL_order_18 : decode cL_order 18 = .ok (.ireturn, 1) := by decide +kernel
theorem dL_isLinked_0 : decode cL_isLinked 0 = .ok (.aload_n 3, 1) := by decide +kernel
theorem dL_isLinked_1 : decode cL_isLinked 1 = .ok (.iconst 0, 1) := by decide +kernel
theorem dL_isLinked_2 : decode cL_isLinked 2 = .ok (.aload_n 0, 1) := by decide +kernel
theorem dL_isLinked_3 : decode cL_isLinked 3 = .ok (.iload_n 1, 1) := by decide +kernel
theorem dL_isLinked_4 : decode cL_isLinked 4 = .ok (.iload_n 2, 1) := by decide +kernel
theorem dL_isLinked_5 : decode cL_isLinked 5 = .ok (.invokevirtual 39, 3) := by decide +kernel
theorem dL_isLinked_8 : decode cL_isLinked 8 = .ok (.ifCond .eq 7, 3) := by decide +kernel
theorem dL_isLinked_11 : decode cL_isLinked 11 = .ok (.lconst 1, 1) := by decide +kernel
theorem dL_isLinked_12 : decode cL_isLinked 12 = .ok (.goto 4, 3) := by decide +kernel
theorem dL_isLinked_15 : decode cL_isLinked 15 = .ok (.lconst 0, 1) := by decide +kernel
theorem dL_isLinked_16 : decode cL_isLinked 16 = .ok (.lastore, 1) := by decide +kernel
theorem dL_isLinked_17 : decode cL_isLinked 17 = .ok (.goto 7, 3) := by decide +kernel
theorem dL_isLinked_20 : decode cL_isLinked 20 = .ok (.astore 4, 2) := by decide +kernel
theorem dL_isLinked_22 : decode cL_isLinked 22 = .ok (.iconst 1, 1) := by decide +kernel
theorem dL_isLinked_23 : decode cL_isLinked 23 = .ok (.ireturn, 1) := by decide +kernel
theorem dL_isLinked_24 : decode cL_isLinked 24 = .ok (.iconst 0, 1) := by decide +kernel
theorem dL_isLinked_25 : decode cL_isLinked 25 = .ok (.ireturn, 1) := by decide +kernel
theorem dL_row_0 : decode cL_row 0 = .ok (.aload 4, 2) := by decide +kernel
theorem dL_row_2 : decode cL_row 2 = .ok (.iconst 0, 1) := by decide +kernel
theorem dL_row_3 : decode cL_row 3 = .ok (.aload_n 0, 1) := by decide +kernel
theorem dL_row_4 : decode cL_row 4 = .ok (.iload_n 1, 1) := by decide +kernel
theorem dL_row_5 : decode cL_row 5 = .ok (.iload_n 2, 1) := by decide +kernel
theorem dL_row_6 : decode cL_row 6 = .ok (.iload_n 3, 1) := by decide +kernel
theorem dL_row_7 : decode cL_row 7 = .ok (.invokevirtual 43, 3) := by decide +kernel
theorem dL_row_10 : decode cL_row 10 = .ok (.i2l, 1) := by decide +kernel
theorem dL_row_11 : decode cL_row 11 = .ok (.lastore, 1) := by decide +kernel
theorem dL_row_12 : decode cL_row 12 = .ok (.goto 7, 3) := by decide +kernel
theorem dL_row_15 : decode cL_row 15 = .ok (.astore 5, 2) := by decide +kernel
theorem dL_row_17 : decode cL_row 17 = .ok (.iconst 1, 1) := by decide +kernel
theorem dL_row_18 : decode cL_row 18 = .ok (.ireturn, 1) := by decide +kernel
theorem dL_row_19 : decode cL_row 19 = .ok (.iconst 0, 1) := by decide +kernel
theorem dL_row_20 : decode cL_row 20 = .ok (.ireturn, 1) := by decide +kernel
theorem dL_way_0 : decode cL_way 0 = .ok (.aload 4, 2) := by decide +kernel
theorem dL_way_2 : decode cL_way 2 = .ok (.iconst 0, 1) := by decide +kernel
theorem dL_way_3 : decode cL_way 3 = .ok (.aload_n 0, 1) := by decide +kernel
theorem dL_way_4 : decode cL_way 4 = .ok (.iload_n 1, 1) := by decide +kernel
theorem dL_way_5 : decode cL_way 5 = .ok (.iload_n 2, 1) := by decide +kernel
theorem dL_way_6 : decode cL_way 6 = .ok (.iload_n 3, 1) := by decide +kernel
theorem dL_way_7 : decode cL_way 7 = .ok (.invokevirtual 47, 3) := by decide +kernel
theorem dL_way_10 : decode cL_way 10 = .ok (.i2l, 1) := by decide +kernel
theorem dL_way_11 : decode cL_way 11 = .ok (.lastore, 1) := by decide +kernel
theorem dL_way_12 : decode cL_way 12 = .ok (.goto 11, 3) := by decide +kernel
theorem dL_way_15 : decode cL_way 15 = .ok (.astore 5, 2) := by decide +kernel
theorem dL_way_17 : decode cL_way 17 = .ok (.iconst 1, 1) := by decide +kernel
theorem dL_way_18 : decode cL_way 18 = .ok (.ireturn, 1) := by decide +kernel
theorem dL_way_19 : decode cL_way 19 = .ok (.astore 5, 2) := by decide +kernel
theorem dL_way_21 : decode cL_way 21 = .ok (.iconst 2, 1) := by decide +kernel
theorem dL_way_22 : decode cL_way 22 = .ok (.ireturn, 1) := by decide +kernel
theorem dL_way_23 : decode cL_way 23 = .ok (.iconst 0, 1) := by decide +kernel
theorem dL_way_24 : decode cL_way 24 = .ok (.ireturn, 1) := by decide +kernel
theorem dL_between_0 : decode cL_between 0 = .ok (.aload_n 3, 1) := by decide +kernel
theorem dL_between_1 : decode cL_between 1 = .ok (.iconst 0, 1) := by decide +kernel
theorem dL_between_2 : decode cL_between 2 = .ok (.aload_n 0, 1) := by decide +kernel
theorem dL_between_3 : decode cL_between 3 = .ok (.iload_n 1, 1) := by decide +kernel
theorem dL_between_4 : decode cL_between 4 = .ok (.iload_n 2, 1) := by decide +kernel
theorem dL_between_5 : decode cL_between 5 = .ok (.invokevirtual 50, 3) := by decide +kernel
theorem dL_between_8 : decode cL_between 8 = .ok (.i2l, 1) := by decide +kernel
theorem dL_between_9 : decode cL_between 9 = .ok (.lastore, 1) := by decide +kernel
theorem dL_between_10 : decode cL_between 10 = .ok (.goto 7, 3) := by decide +kernel
theorem dL_between_13 : decode cL_between 13 = .ok (.astore 4, 2) := by decide +kernel
theorem dL_between_15 : decode cL_between 15 = .ok (.iconst 1, 1) := by decide +kernel
theorem dL_between_16 : decode cL_between 16 = .ok (.ireturn, 1) := by decide +kernel
theorem dL_between_17 : decode cL_between 17 = .ok (.iconst 0, 1) := by decide +kernel
theorem dL_between_18 : decode cL_between 18 = .ok (.ireturn, 1) := by decide +kernel
theorem dL_addFind_0 : decode cL_addFind 0 = .ok (.aload 5, 2) := by decide +kernel
theorem dL_addFind_2 : decode cL_addFind 2 = .ok (.iconst 0, 1) := by decide +kernel
theorem dL_addFind_3 : decode cL_addFind 3 = .ok (.aload_n 0, 1) := by decide +kernel
theorem dL_addFind_4 : decode cL_addFind 4 = .ok (.iload_n 1, 1) := by decide +kernel
theorem dL_addFind_5 : decode cL_addFind 5 = .ok (.iload_n 2, 1) := by decide +kernel
theorem dL_addFind_6 : decode cL_addFind 6 = .ok (.iload_n 3, 1) := by decide +kernel
theorem dL_addFind_7 : decode cL_addFind 7 = .ok (.iload 4, 2) := by decide +kernel
theorem dL_addFind_9 : decode cL_addFind 9 = .ok (.invokevirtual 53, 3) := by decide +kernel
theorem dL_addFind_12 : decode cL_addFind 12 = .ok (.i2l, 1) := by decide +kernel
theorem dL_addFind_13 : decode cL_addFind 13 = .ok (.lastore, 1) := by decide +kernel
theorem dL_addFind_14 : decode cL_addFind 14 = .ok (.goto 15, 3) := by decide +kernel
theorem dL_addFind_17 : decode cL_addFind 17 = .ok (.astore 6, 2) := by decide +kernel
theorem dL_addFind_19 : decode cL_addFind 19 = .ok (.iconst 1, 1) := by decide +kernel
theorem dL_addFind_20 : decode cL_addFind 20 = .ok (.ireturn, 1) := by decide +kernel
theorem dL_addFind_21 : decode cL_addFind 21 = .ok (.astore 6, 2) := by decide +kernel
theorem dL_addFind_23 : decode cL_addFind 23 = .ok (.iconst 2, 1) := by decide +kernel
theorem dL_addFind_24 : decode cL_addFind 24 = .ok (.ireturn, 1) := by decide +kernel
theorem dL_addFind_25 : decode cL_addFind 25 = .ok (.astore 6, 2) := by decide +kernel
theorem dL_addFind_27 : decode cL_addFind 27 = .ok (.iconst 3, 1) := by decide +kernel
theorem dL_addFind_28 : decode cL_addFind 28 = .ok (.ireturn, 1) := by decide +kernel
theorem dL_addFind_29 : decode cL_addFind 29 = .ok (.iconst 0, 1) := by decide +kernel
theorem dL_addFind_30 : decode cL_addFind 30 = .ok (.ireturn, 1) := by decide +kernel
theorem dL_place_0 : decode cL_place 0 = .ok (.aload 5, 2) := by decide +kernel
theorem dL_place_2 : decode cL_place 2 = .ok (.iconst 0, 1) := by decide +kernel
theorem dL_place_3 : decode cL_place 3 = .ok (.aload_n 0, 1) := by decide +kernel
theorem dL_place_4 : decode cL_place 4 = .ok (.iload_n 1, 1) := by decide +kernel
theorem dL_place_5 : decode cL_place 5 = .ok (.iload_n 2, 1) := by decide +kernel
theorem dL_place_6 : decode cL_place 6 = .ok (.iload_n 3, 1) := by decide +kernel
theorem dL_place_7 : decode cL_place 7 = .ok (.iload 4, 2) := by decide +kernel
theorem dL_place_9 : decode cL_place 9 = .ok (.invokevirtual 57, 3) := by decide +kernel
theorem dL_place_12 : decode cL_place 12 = .ok (.i2l, 1) := by decide +kernel
theorem dL_place_13 : decode cL_place 13 = .ok (.lastore, 1) := by decide +kernel
theorem dL_place_14 : decode cL_place 14 = .ok (.goto 11, 3) := by decide +kernel
theorem dL_place_17 : decode cL_place 17 = .ok (.astore 6, 2) := by decide +kernel
theorem dL_place_19 : decode cL_place 19 = .ok (.iconst 1, 1) := by decide +kernel
theorem dL_place_20 : decode cL_place 20 = .ok (.ireturn, 1) := by decide +kernel
theorem dL_place_21 : decode cL_place 21 = .ok (.astore 6, 2) := by decide +kernel
theorem dL_place_23 : decode cL_place 23 = .ok (.iconst 2, 1) := by decide +kernel
theorem dL_place_24 : decode cL_place 24 = .ok (.ireturn, 1) := by decide +kernel
theorem dL_place_25 : decode cL_place 25 = .ok (.iconst 0, 1) := by decide +kernel
theorem dL_place_26 : decode cL_place 26 = .ok (.ireturn, 1) := by decide +kernel
theorem dL_move_0 : decode cL_move 0 = .ok (.aload_n 3, 1) := by decide +kernel
theorem dL_move_1 : decode cL_move 1 = .ok (.iconst 0, 1) := by decide +kernel
theorem dL_move_2 : decode cL_move 2 = .ok (.aload_n 0, 1) := by decide +kernel
theorem dL_move_3 : decode cL_move 3 = .ok (.iload_n 1, 1) := by decide +kernel
theorem dL_move_4 : decode cL_move 4 = .ok (.iload_n 2, 1) := by decide +kernel
theorem dL_move_5 : decode cL_move 5 = .ok (.invokevirtual 60, 3) := by decide +kernel
theorem dL_move_8 : decode cL_move 8 = .ok (.i2l, 1) := by decide +kernel
theorem dL_move_9 : decode cL_move 9 = .ok (.lastore, 1) := by decide +kernel
theorem dL_move_10 : decode cL_move 10 = .ok (.goto 7, 3) := by decide +kernel
theorem dL_move_13 : decode cL_move 13 = .ok (.astore 4, 2) := by decide +kernel
theorem dL_move_15 : decode cL_move 15 = .ok (.iconst 1, 1) := by decide +kernel
theorem dL_move_16 : decode cL_move 16 = .ok (.ireturn, 1) := by decide +kernel
theorem dL_move_17 : decode cL_move 17 = .ok (.iconst 0, 1) := by decide +kernel
theorem dL_move_18 : decode cL_move 18 = .ok (.ireturn, 1) := by decide +kernel
theorem dL_find_0 : decode cL_find 0 = .ok (.aload_n 3, 1) := by decide +kernel
theorem dL_find_1 : decode cL_find 1 = .ok (.iconst 0, 1) := by decide +kernel
theorem dL_find_2 : decode cL_find 2 = .ok (.aload_n 0, 1) := by decide +kernel
theorem dL_find_3 : decode cL_find 3 = .ok (.iload_n 1, 1) := by decide +kernel
theorem dL_find_4 : decode cL_find 4 = .ok (.iload_n 2, 1) := by decide +kernel
theorem dL_find_5 : decode cL_find 5 = .ok (.invokevirtual 63, 3) := by decide +kernel
theorem dL_find_8 : decode cL_find 8 = .ok (.i2l, 1) := by decide +kernel
theorem dL_find_9 : decode cL_find 9 = .ok (.lastore, 1) := by decide +kernel
theorem dL_find_10 : decode cL_find 10 = .ok (.goto 7, 3) := by decide +kernel
theorem dL_find_13 : decode cL_find 13 = .ok (.astore 4, 2) := by decide +kernel
theorem dL_find_15 : decode cL_find 15 = .ok (.iconst 1, 1) := by decide +kernel
theorem dL_find_16 : decode cL_find 16 = .ok (.ireturn, 1) := by decide +kernel
theorem dL_find_17 : decode cL_find 17 = .ok (.iconst 0, 1) := by decide +kernel
theorem dL_find_18 : decode cL_find 18 = .ok (.ireturn, 1) := by decide +kernel
theorem dL_date_0 : decode cL_date 0 = .ok (.aload 4, 2) := by decide +kernel
theorem dL_date_2 : decode cL_date 2 = .ok (.iconst 0, 1) := by decide +kernel
theorem dL_date_3 : decode cL_date 3 = .ok (.aload_n 0, 1) := by decide +kernel
theorem dL_date_4 : decode cL_date 4 = .ok (.iload_n 1, 1) := by decide +kernel
theorem dL_date_5 : decode cL_date 5 = .ok (.iload_n 2, 1) := by decide +kernel
theorem dL_date_6 : decode cL_date 6 = .ok (.iload_n 3, 1) := by decide +kernel
theorem dL_date_7 : decode cL_date 7 = .ok (.invokevirtual 66, 3) := by decide +kernel
theorem dL_date_10 : decode cL_date 10 = .ok (.i2l, 1) := by decide +kernel
theorem dL_date_11 : decode cL_date 11 = .ok (.lastore, 1) := by decide +kernel
theorem dL_date_12 : decode cL_date 12 = .ok (.goto 11, 3) := by decide +kernel
theorem dL_date_15 : decode cL_date 15 = .ok (.astore 5, 2) := by decide +kernel
theorem dL_date_17 : decode cL_date 17 = .ok (.iconst 1, 1) := by decide +kernel
theorem dL_date_18 : decode cL_date 18 = .ok (.ireturn, 1) := by decide +kernel
theorem dL_date_19 : decode cL_date 19 = .ok (.astore 5, 2) := by decide +kernel
theorem dL_date_21 : decode cL_date 21 = .ok (.iconst 2, 1) := by decide +kernel
theorem dL_date_22 : decode cL_date 22 = .ok (.ireturn, 1) := by decide +kernel
theorem dL_date_23 : decode cL_date 23 = .ok (.iconst 0, 1) := by decide +kernel
theorem dL_date_24 : decode cL_date 24 = .ok (.ireturn, 1) := by decide +kernel
theorem dL_bound_0 : decode cL_bound 0 = .ok (.aload_n 3, 1) := by decide +kernel
theorem dL_bound_1 : decode cL_bound 1 = .ok (.iconst 0, 1) := by decide +kernel
theorem dL_bound_2 : decode cL_bound 2 = .ok (.aload_n 0, 1) := by decide +kernel
theorem dL_bound_3 : decode cL_bound 3 = .ok (.iload_n 1, 1) := by decide +kernel
theorem dL_bound_4 : decode cL_bound 4 = .ok (.iload_n 2, 1) := by decide +kernel
theorem dL_bound_5 : decode cL_bound 5 = .ok (.invokevirtual 69, 3) := by decide +kernel
theorem dL_bound_8 : decode cL_bound 8 = .ok (.i2l, 1) := by decide +kernel
theorem dL_bound_9 : decode cL_bound 9 = .ok (.lastore, 1) := by decide +kernel
theorem dL_bound_10 : decode cL_bound 10 = .ok (.goto 7, 3) := by decide +kernel
theorem dL_bound_13 : decode cL_bound 13 = .ok (.astore 4, 2) := by decide +kernel
theorem dL_bound_15 : decode cL_bound 15 = .ok (.iconst 1, 1) := by decide +kernel
theorem dL_bound_16 : decode cL_bound 16 = .ok (.ireturn, 1) := by decide +kernel
theorem dL_bound_17 : decode cL_bound 17 = .ok (.iconst 0, 1) := by decide +kernel
theorem dL_bound_18 : decode cL_bound 18 = .ok (.ireturn, 1) := by decide +kernel
theorem dL_doubt_0 : decode cL_doubt 0 = .ok (.aload_n 2, 1) := by decide +kernel
theorem dL_doubt_1 : decode cL_doubt 1 = .ok (.iconst 0, 1) := by decide +kernel
theorem dL_doubt_2 : decode cL_doubt 2 = .ok (.aload_n 0, 1) := by decide +kernel
theorem dL_doubt_3 : decode cL_doubt 3 = .ok (.iload_n 1, 1) := by decide +kernel
theorem dL_doubt_4 : decode cL_doubt 4 = .ok (.invokevirtual 73, 3) := by decide +kernel
theorem dL_doubt_7 : decode cL_doubt 7 = .ok (.i2l, 1) := by decide +kernel
theorem dL_doubt_8 : decode cL_doubt 8 = .ok (.lastore, 1) := by decide +kernel
theorem dL_doubt_9 : decode cL_doubt 9 = .ok (.goto 6, 3) := by decide +kernel
theorem dL_doubt_12 : decode cL_doubt 12 = .ok (.astore_n 3, 1) := by decide +kernel
theorem dL_doubt_13 : decode cL_doubt 13 = .ok (.iconst 1, 1) := by decide +kernel
theorem dL_doubt_14 : decode cL_doubt 14 = .ok (.ireturn, 1) := by decide +kernel
theorem dL_doubt_15 : decode cL_doubt 15 = .ok (.iconst 0, 1) := by decide +kernel
theorem dL_doubt_16 : decode cL_doubt 16 = .ok (.ireturn, 1) := by decide +kernel
theorem dL_nearest_0 : decode cL_nearest 0 = .ok (.aload 5, 2) := by decide +kernel
theorem dL_nearest_2 : decode cL_nearest 2 = .ok (.iconst 0, 1) := by decide +kernel
theorem dL_nearest_3 : decode cL_nearest 3 = .ok (.aload_n 0, 1) := by decide +kernel
theorem dL_nearest_4 : decode cL_nearest 4 = .ok (.iload_n 1, 1) := by decide +kernel
theorem dL_nearest_5 : decode cL_nearest 5 = .ok (.iload_n 2, 1) := by decide +kernel
theorem dL_nearest_6 : decode cL_nearest 6 = .ok (.iload_n 3, 1) := by decide +kernel
theorem dL_nearest_7 : decode cL_nearest 7 = .ok (.iload 4, 2) := by decide +kernel
theorem dL_nearest_9 : decode cL_nearest 9 = .ok (.invokevirtual 76, 3) := by decide +kernel
theorem dL_nearest_12 : decode cL_nearest 12 = .ok (.i2l, 1) := by decide +kernel
theorem dL_nearest_13 : decode cL_nearest 13 = .ok (.lastore, 1) := by decide +kernel
theorem dL_nearest_14 : decode cL_nearest 14 = .ok (.goto 7, 3) := by decide +kernel
theorem dL_nearest_17 : decode cL_nearest 17 = .ok (.astore 6, 2) := by decide +kernel
theorem dL_nearest_19 : decode cL_nearest 19 = .ok (.iconst 1, 1) := by decide +kernel
theorem dL_nearest_20 : decode cL_nearest 20 = .ok (.ireturn, 1) := by decide +kernel
theorem dL_nearest_21 : decode cL_nearest 21 = .ok (.iconst 0, 1) := by decide +kernel
theorem dL_nearest_22 : decode cL_nearest 22 = .ok (.ireturn, 1) := by decide +kernel
theorem dL_dig_0 : decode cL_dig 0 = .ok (.aload_n 2, 1) := by decide +kernel
theorem dL_dig_1 : decode cL_dig 1 = .ok (.iconst 0, 1) := by decide +kernel
theorem dL_dig_2 : decode cL_dig 2 = .ok (.aload_n 0, 1) := by decide +kernel
theorem dL_dig_3 : decode cL_dig 3 = .ok (.iload_n 1, 1) := by decide +kernel
theorem dL_dig_4 : decode cL_dig 4 = .ok (.invokevirtual 79, 3) := by decide +kernel
theorem dL_dig_7 : decode cL_dig 7 = .ok (.i2l, 1) := by decide +kernel
theorem dL_dig_8 : decode cL_dig 8 = .ok (.lastore, 1) := by decide +kernel
theorem dL_dig_9 : decode cL_dig 9 = .ok (.goto 9, 3) := by decide +kernel
theorem dL_dig_12 : decode cL_dig 12 = .ok (.astore_n 3, 1) := by decide +kernel
theorem dL_dig_13 : decode cL_dig 13 = .ok (.iconst 1, 1) := by decide +kernel
theorem dL_dig_14 : decode cL_dig 14 = .ok (.ireturn, 1) := by decide +kernel
theorem dL_dig_15 : decode cL_dig 15 = .ok (.astore_n 3, 1) := by decide +kernel
theorem dL_dig_16 : decode cL_dig 16 = .ok (.iconst 2, 1) := by decide +kernel
theorem dL_dig_17 : decode cL_dig 17 = .ok (.ireturn, 1) := by decide +kernel
theorem dL_dig_18 : decode cL_dig 18 = .ok (.iconst 0, 1) := by decide +kernel
theorem dL_dig_19 : decode cL_dig 19 = .ok (.ireturn, 1) := by decide +kernel
theorem dL_next_0 : decode cL_next 0 = .ok (.aload_n 2, 1) := by decide +kernel
theorem dL_next_1 : decode cL_next 1 = .ok (.iconst 0, 1) := by decide +kernel
theorem dL_next_2 : decode cL_next 2 = .ok (.aload_n 0, 1) := by decide +kernel
theorem dL_next_3 : decode cL_next 3 = .ok (.iload_n 1, 1) := by decide +kernel
theorem dL_next_4 : decode cL_next 4 = .ok (.invokevirtual 82, 3) := by decide +kernel
theorem dL_next_7 : decode cL_next 7 = .ok (.i2l, 1) := by decide +kernel
theorem dL_next_8 : decode cL_next 8 = .ok (.lastore, 1) := by decide +kernel
theorem dL_next_9 : decode cL_next 9 = .ok (.goto 6, 3) := by decide +kernel
theorem dL_next_12 : decode cL_next 12 = .ok (.astore_n 3, 1) := by decide +kernel
theorem dL_next_13 : decode cL_next 13 = .ok (.iconst 1, 1) := by decide +kernel
theorem dL_next_14 : decode cL_next 14 = .ok (.ireturn, 1) := by decide +kernel
theorem dL_next_15 : decode cL_next 15 = .ok (.iconst 0, 1) := by decide +kernel
theorem dL_next_16 : decode cL_next 16 = .ok (.ireturn, 1) := by decide +kernel
theorem dL_setPhase_0 : decode cL_setPhase 0 = .ok (.aload_n 3, 1) := by decide +kernel
theorem dL_setPhase_1 : decode cL_setPhase 1 = .ok (.iconst 0, 1) := by decide +kernel
theorem dL_setPhase_2 : decode cL_setPhase 2 = .ok (.aload_n 0, 1) := by decide +kernel
theorem dL_setPhase_3 : decode cL_setPhase 3 = .ok (.iload_n 1, 1) := by decide +kernel
theorem dL_setPhase_4 : decode cL_setPhase 4 = .ok (.iload_n 2, 1) := by decide +kernel
theorem dL_setPhase_5 : decode cL_setPhase 5 = .ok (.invokevirtual 85, 3) := by decide +kernel
theorem dL_setPhase_8 : decode cL_setPhase 8 = .ok (.i2l, 1) := by decide +kernel
theorem dL_setPhase_9 : decode cL_setPhase 9 = .ok (.lastore, 1) := by decide +kernel
theorem dL_setPhase_10 : decode cL_setPhase 10 = .ok (.goto 11, 3) := by decide +kernel
theorem dL_setPhase_13 : decode cL_setPhase 13 = .ok (.astore 4, 2) := by decide +kernel
theorem dL_setPhase_15 : decode cL_setPhase 15 = .ok (.iconst 1, 1) := by decide +kernel
theorem dL_setPhase_16 : decode cL_setPhase 16 = .ok (.ireturn, 1) := by decide +kernel
theorem dL_setPhase_17 : decode cL_setPhase 17 = .ok (.astore 4, 2) := by decide +kernel
theorem dL_setPhase_19 : decode cL_setPhase 19 = .ok (.iconst 2, 1) := by decide +kernel
theorem dL_setPhase_20 : decode cL_setPhase 20 = .ok (.ireturn, 1) := by decide +kernel
theorem dL_setPhase_21 : decode cL_setPhase 21 = .ok (.iconst 0, 1) := by decide +kernel
theorem dL_setPhase_22 : decode cL_setPhase 22 = .ok (.ireturn, 1) := by decide +kernel
theorem dL_law_0 : decode cL_law 0 = .ok (.new 8, 3) := by decide +kernel
theorem dL_law_3 : decode cL_law 3 = .ok (.dup, 1) := by decide +kernel
theorem dL_law_4 : decode cL_law 4 = .ok (.invokespecial 88, 3) := by decide +kernel
theorem dL_law_7 : decode cL_law 7 = .ok (.astore_n 1, 1) := by decide +kernel
theorem dL_law_8 : decode cL_law 8 = .ok (.new 89, 3) := by decide +kernel
theorem dL_law_11 : decode cL_law 11 = .ok (.dup, 1) := by decide +kernel
theorem dL_law_12 : decode cL_law 12 = .ok (.invokespecial 91, 3) := by decide +kernel
theorem dL_law_15 : decode cL_law 15 = .ok (.astore_n 2, 1) := by decide +kernel
theorem dL_law_16 : decode cL_law 16 = .ok (.iconst 1, 1) := by decide +kernel
theorem dL_law_17 : decode cL_law 17 = .ok (.newarray .long, 2) := by decide +kernel
theorem dL_law_19 : decode cL_law 19 = .ok (.astore_n 3, 1) := by decide +kernel
theorem dL_law_20 : decode cL_law 20 = .ok (.iconst 0, 1) := by decide +kernel
theorem dL_law_21 : decode cL_law 21 = .ok (.istore 4, 2) := by decide +kernel
theorem dL_law_23 : decode cL_law 23 = .ok (.iload 4, 2) := by decide +kernel
theorem dL_law_25 : decode cL_law 25 = .ok (.aload_n 0, 1) := by decide +kernel
theorem dL_law_26 : decode cL_law 26 = .ok (.arraylength, 1) := by decide +kernel
theorem dL_law_27 : decode cL_law 27 = .ok (.iconst 5, 1) := by decide +kernel
theorem dL_law_28 : decode cL_law 28 = .ok (.isub, 1) := by decide +kernel
theorem dL_law_29 : decode cL_law 29 = .ok (.if_icmp .gt 1825, 3) := by decide +kernel
theorem dL_law_32 : decode cL_law 32 = .ok (.aload_n 0, 1) := by decide +kernel
theorem dL_law_33 : decode cL_law 33 = .ok (.iload 4, 2) := by decide +kernel
theorem dL_law_35 : decode cL_law 35 = .ok (.iaload, 1) := by decide +kernel
theorem dL_law_36 : decode cL_law 36 = .ok (.bipush 31, 2) := by decide +kernel
theorem dL_law_38 : decode cL_law 38 = .ok (.iand, 1) := by decide +kernel
theorem dL_law_39 : decode cL_law 39 = .ok (.tableswitch 1809 0 25 #[117, 173, 253, 309, 377, 433, 501, 569, 644, 740, 820, 888, 980, 1072, 1140, 1208, 1288, 1372, 1428, 1520, 1576, 1632, 1700, 1713, 1754, 1795], 117) := by decide +kernel
theorem dL_law_156 : decode cL_law 156 = .ok (.aload_n 1, 1) := by decide +kernel
theorem dL_law_157 : decode cL_law 157 = .ok (.aload_n 0, 1) := by decide +kernel
theorem dL_law_158 : decode cL_law 158 = .ok (.iload 4, 2) := by decide +kernel
theorem dL_law_160 : decode cL_law 160 = .ok (.iconst 1, 1) := by decide +kernel
theorem dL_law_161 : decode cL_law 161 = .ok (.iadd, 1) := by decide +kernel
theorem dL_law_162 : decode cL_law 162 = .ok (.iaload, 1) := by decide +kernel
theorem dL_law_163 : decode cL_law 163 = .ok (.aload_n 3, 1) := by decide +kernel
theorem dL_law_164 : decode cL_law 164 = .ok (.invokestatic 92, 3) := by decide +kernel
theorem dL_law_167 : decode cL_law 167 = .ok (.istore 5, 2) := by decide +kernel
theorem dL_law_169 : decode cL_law 169 = .ok (.aload_n 2, 1) := by decide +kernel
theorem dL_law_170 : decode cL_law 170 = .ok (.aload_n 0, 1) := by decide +kernel
theorem dL_law_171 : decode cL_law 171 = .ok (.iload 4, 2) := by decide +kernel
theorem dL_law_173 : decode cL_law 173 = .ok (.iconst 1, 1) := by decide +kernel
theorem dL_law_174 : decode cL_law 174 = .ok (.iadd, 1) := by decide +kernel
theorem dL_law_175 : decode cL_law 175 = .ok (.iaload, 1) := by decide +kernel
theorem dL_law_176 : decode cL_law 176 = .ok (.invokevirtual 97, 3) := by decide +kernel
theorem dL_law_179 : decode cL_law 179 = .ok (.istore 6, 2) := by decide +kernel
theorem dL_law_181 : decode cL_law 181 = .ok (.aload_n 2, 1) := by decide +kernel
theorem dL_law_182 : decode cL_law 182 = .ok (.invokevirtual 98, 3) := by decide +kernel
theorem dL_law_185 : decode cL_law 185 = .ok (.iload 5, 2) := by decide +kernel
theorem dL_law_187 : decode cL_law 187 = .ok (.if_icmp .eq 5, 3) := by decide +kernel
theorem dL_law_190 : decode cL_law 190 = .ok (.iconst 0, 1) := by decide +kernel
theorem dL_law_191 : decode cL_law 191 = .ok (.ireturn, 1) := by decide +kernel
theorem dL_law_192 : decode cL_law 192 = .ok (.iload 5, 2) := by decide +kernel
theorem dL_law_194 : decode cL_law 194 = .ok (.ifCond .ne 15, 3) := by decide +kernel
theorem dL_law_197 : decode cL_law 197 = .ok (.aload_n 3, 1) := by decide +kernel
theorem dL_law_198 : decode cL_law 198 = .ok (.iconst 0, 1) := by decide +kernel
theorem dL_law_199 : decode cL_law 199 = .ok (.laload, 1) := by decide +kernel
theorem dL_law_200 : decode cL_law 200 = .ok (.iload 6, 2) := by decide +kernel
theorem dL_law_202 : decode cL_law 202 = .ok (.i2l, 1) := by decide +kernel
theorem dL_law_203 : decode cL_law 203 = .ok (.lcmp, 1) := by decide +kernel
theorem dL_law_204 : decode cL_law 204 = .ok (.ifCond .eq 5, 3) := by decide +kernel
theorem dL_law_207 : decode cL_law 207 = .ok (.iconst 0, 1) := by decide +kernel
theorem dL_law_208 : decode cL_law 208 = .ok (.ireturn, 1) := by decide +kernel
theorem dL_law_209 : decode cL_law 209 = .ok (.goto 1639, 3) := by decide +kernel
theorem dL_law_212 : decode cL_law 212 = .ok (.aload_n 1, 1) := by decide +kernel
theorem dL_law_213 : decode cL_law 213 = .ok (.aload_n 0, 1) := by decide +kernel
theorem dL_law_214 : decode cL_law 214 = .ok (.iload 4, 2) := by decide +kernel
theorem dL_law_216 : decode cL_law 216 = .ok (.iconst 1, 1) := by decide +kernel
theorem dL_law_217 : decode cL_law 217 = .ok (.iadd, 1) := by decide +kernel
theorem dL_law_218 : decode cL_law 218 = .ok (.iaload, 1) := by decide +kernel
theorem dL_law_219 : decode cL_law 219 = .ok (.aload_n 0, 1) := by decide +kernel
theorem dL_law_220 : decode cL_law 220 = .ok (.iload 4, 2) := by decide +kernel
theorem dL_law_222 : decode cL_law 222 = .ok (.iconst 2, 1) := by decide +kernel
theorem dL_law_223 : decode cL_law 223 = .ok (.iadd, 1) := by decide +kernel
theorem dL_law_224 : decode cL_law 224 = .ok (.iaload, 1) := by decide +kernel
theorem dL_law_225 : decode cL_law 225 = .ok (.aload_n 0, 1) := by decide +kernel
theorem dL_law_226 : decode cL_law 226 = .ok (.iload 4, 2) := by decide +kernel
theorem dL_law_228 : decode cL_law 228 = .ok (.iconst 3, 1) := by decide +kernel
theorem dL_law_229 : decode cL_law 229 = .ok (.iadd, 1) := by decide +kernel
theorem dL_law_230 : decode cL_law 230 = .ok (.iaload, 1) := by decide +kernel
theorem dL_law_231 : decode cL_law 231 = .ok (.aload_n 3, 1) := by decide +kernel
theorem dL_law_232 : decode cL_law 232 = .ok (.invokestatic 102, 3) := by decide +kernel
theorem dL_law_235 : decode cL_law 235 = .ok (.istore 5, 2) := by decide +kernel
theorem dL_law_237 : decode cL_law 237 = .ok (.aload_n 2, 1) := by decide +kernel
theorem dL_law_238 : decode cL_law 238 = .ok (.aload_n 0, 1) := by decide +kernel
theorem dL_law_239 : decode cL_law 239 = .ok (.iload 4, 2) := by decide +kernel
theorem dL_law_241 : decode cL_law 241 = .ok (.iconst 1, 1) := by decide +kernel
theorem dL_law_242 : decode cL_law 242 = .ok (.iadd, 1) := by decide +kernel
theorem dL_law_243 : decode cL_law 243 = .ok (.iaload, 1) := by decide +kernel
theorem dL_law_244 : decode cL_law 244 = .ok (.aload_n 0, 1) := by decide +kernel
theorem dL_law_245 : decode cL_law 245 = .ok (.iload 4, 2) := by decide +kernel
theorem dL_law_247 : decode cL_law 247 = .ok (.iconst 2, 1) := by decide +kernel
theorem dL_law_248 : decode cL_law 248 = .ok (.iadd, 1) := by decide +kernel
theorem dL_law_249 : decode cL_law 249 = .ok (.iaload, 1) := by decide +kernel
theorem dL_law_250 : decode cL_law 250 = .ok (.aload_n 0, 1) := by decide +kernel
theorem dL_law_251 : decode cL_law 251 = .ok (.iload 4, 2) := by decide +kernel
theorem dL_law_253 : decode cL_law 253 = .ok (.iconst 3, 1) := by decide +kernel
theorem dL_law_254 : decode cL_law 254 = .ok (.iadd, 1) := by decide +kernel
theorem dL_law_255 : decode cL_law 255 = .ok (.iaload, 1) := by decide +kernel
theorem dL_law_256 : decode cL_law 256 = .ok (.invokevirtual 105, 3) := by decide +kernel
theorem dL_law_259 : decode cL_law 259 = .ok (.istore 6, 2) := by decide +kernel
theorem dL_law_261 : decode cL_law 261 = .ok (.aload_n 2, 1) := by decide +kernel
theorem dL_law_262 : decode cL_law 262 = .ok (.invokevirtual 98, 3) := by decide +kernel
theorem dL_law_265 : decode cL_law 265 = .ok (.iload 5, 2) := by decide +kernel
theorem dL_law_267 : decode cL_law 267 = .ok (.if_icmp .eq 5, 3) := by decide +kernel
theorem dL_law_270 : decode cL_law 270 = .ok (.iconst 0, 1) := by decide +kernel
theorem dL_law_271 : decode cL_law 271 = .ok (.ireturn, 1) := by decide +kernel
theorem dL_law_272 : decode cL_law 272 = .ok (.iload 5, 2) := by decide +kernel
theorem dL_law_274 : decode cL_law 274 = .ok (.ifCond .ne 15, 3) := by decide +kernel
theorem dL_law_277 : decode cL_law 277 = .ok (.aload_n 3, 1) := by decide +kernel
theorem dL_law_278 : decode cL_law 278 = .ok (.iconst 0, 1) := by decide +kernel
theorem dL_law_279 : decode cL_law 279 = .ok (.laload, 1) := by decide +kernel
theorem dL_law_280 : decode cL_law 280 = .ok (.iload 6, 2) := by decide +kernel
theorem dL_law_282 : decode cL_law 282 = .ok (.i2l, 1) := by decide +kernel
theorem dL_law_283 : decode cL_law 283 = .ok (.lcmp, 1) := by decide +kernel
theorem dL_law_284 : decode cL_law 284 = .ok (.ifCond .eq 5, 3) := by decide +kernel
theorem dL_law_287 : decode cL_law 287 = .ok (.iconst 0, 1) := by decide +kernel
theorem dL_law_288 : decode cL_law 288 = .ok (.ireturn, 1) := by decide +kernel
theorem dL_law_289 : decode cL_law 289 = .ok (.goto 1559, 3) := by decide +kernel
theorem dL_law_292 : decode cL_law 292 = .ok (.aload_n 1, 1) := by decide +kernel
theorem dL_law_293 : decode cL_law 293 = .ok (.aload_n 0, 1) := by decide +kernel
theorem dL_law_294 : decode cL_law 294 = .ok (.iload 4, 2) := by decide +kernel
theorem dL_law_296 : decode cL_law 296 = .ok (.iconst 1, 1) := by decide +kernel
theorem dL_law_297 : decode cL_law 297 = .ok (.iadd, 1) := by decide +kernel
theorem dL_law_298 : decode cL_law 298 = .ok (.iaload, 1) := by decide +kernel
theorem dL_law_299 : decode cL_law 299 = .ok (.aload_n 3, 1) := by decide +kernel
theorem dL_law_300 : decode cL_law 300 = .ok (.invokestatic 106, 3) := by decide +kernel
theorem dL_law_303 : decode cL_law 303 = .ok (.istore 5, 2) := by decide +kernel
theorem dL_law_305 : decode cL_law 305 = .ok (.aload_n 2, 1) := by decide +kernel
theorem dL_law_306 : decode cL_law 306 = .ok (.aload_n 0, 1) := by decide +kernel
theorem dL_law_307 : decode cL_law 307 = .ok (.iload 4, 2) := by decide +kernel
theorem dL_law_309 : decode cL_law 309 = .ok (.iconst 1, 1) := by decide +kernel
theorem dL_law_310 : decode cL_law 310 = .ok (.iadd, 1) := by decide +kernel
theorem dL_law_311 : decode cL_law 311 = .ok (.iaload, 1) := by decide +kernel
theorem dL_law_312 : decode cL_law 312 = .ok (.invokevirtual 108, 3) := by decide +kernel
theorem dL_law_315 : decode cL_law 315 = .ok (.istore 6, 2) := by decide +kernel
theorem dL_law_317 : decode cL_law 317 = .ok (.aload_n 2, 1) := by decide +kernel
theorem dL_law_318 : decode cL_law 318 = .ok (.invokevirtual 98, 3) := by decide +kernel
theorem dL_law_321 : decode cL_law 321 = .ok (.iload 5, 2) := by decide +kernel
theorem dL_law_323 : decode cL_law 323 = .ok (.if_icmp .eq 5, 3) := by decide +kernel
theorem dL_law_326 : decode cL_law 326 = .ok (.iconst 0, 1) := by decide +kernel
theorem dL_law_327 : decode cL_law 327 = .ok (.ireturn, 1) := by decide +kernel
theorem dL_law_328 : decode cL_law 328 = .ok (.iload 5, 2) := by decide +kernel
theorem dL_law_330 : decode cL_law 330 = .ok (.ifCond .ne 15, 3) := by decide +kernel
theorem dL_law_333 : decode cL_law 333 = .ok (.aload_n 3, 1) := by decide +kernel
theorem dL_law_334 : decode cL_law 334 = .ok (.iconst 0, 1) := by decide +kernel
theorem dL_law_335 : decode cL_law 335 = .ok (.laload, 1) := by decide +kernel
theorem dL_law_336 : decode cL_law 336 = .ok (.iload 6, 2) := by decide +kernel
theorem dL_law_338 : decode cL_law 338 = .ok (.i2l, 1) := by decide +kernel
theorem dL_law_339 : decode cL_law 339 = .ok (.lcmp, 1) := by decide +kernel
theorem dL_law_340 : decode cL_law 340 = .ok (.ifCond .eq 5, 3) := by decide +kernel
theorem dL_law_343 : decode cL_law 343 = .ok (.iconst 0, 1) := by decide +kernel
theorem dL_law_344 : decode cL_law 344 = .ok (.ireturn, 1) := by decide +kernel
theorem dL_law_345 : decode cL_law 345 = .ok (.goto 1503, 3) := by decide +kernel
theorem dL_law_348 : decode cL_law 348 = .ok (.aload_n 1, 1) := by decide +kernel
theorem dL_law_349 : decode cL_law 349 = .ok (.aload_n 0, 1) := by decide +kernel
theorem dL_law_350 : decode cL_law 350 = .ok (.iload 4, 2) := by decide +kernel
theorem dL_law_352 : decode cL_law 352 = .ok (.iconst 1, 1) := by decide +kernel
theorem dL_law_353 : decode cL_law 353 = .ok (.iadd, 1) := by decide +kernel
theorem dL_law_354 : decode cL_law 354 = .ok (.iaload, 1) := by decide +kernel
theorem dL_law_355 : decode cL_law 355 = .ok (.aload_n 0, 1) := by decide +kernel
theorem dL_law_356 : decode cL_law 356 = .ok (.iload 4, 2) := by decide +kernel
theorem dL_law_358 : decode cL_law 358 = .ok (.iconst 2, 1) := by decide +kernel
theorem dL_law_359 : decode cL_law 359 = .ok (.iadd, 1) := by decide +kernel
theorem dL_law_360 : decode cL_law 360 = .ok (.iaload, 1) := by decide +kernel
theorem dL_law_361 : decode cL_law 361 = .ok (.aload_n 3, 1) := by decide +kernel
theorem dL_law_362 : decode cL_law 362 = .ok (.invokestatic 109, 3) := by decide +kernel
theorem dL_law_365 : decode cL_law 365 = .ok (.istore 5, 2) := by decide +kernel
theorem dL_law_367 : decode cL_law 367 = .ok (.aload_n 2, 1) := by decide +kernel
theorem dL_law_368 : decode cL_law 368 = .ok (.aload_n 0, 1) := by decide +kernel
theorem dL_law_369 : decode cL_law 369 = .ok (.iload 4, 2) := by decide +kernel
theorem dL_law_371 : decode cL_law 371 = .ok (.iconst 1, 1) := by decide +kernel
theorem dL_law_372 : decode cL_law 372 = .ok (.iadd, 1) := by decide +kernel
theorem dL_law_373 : decode cL_law 373 = .ok (.iaload, 1) := by decide +kernel
theorem dL_law_374 : decode cL_law 374 = .ok (.aload_n 0, 1) := by decide +kernel
theorem dL_law_375 : decode cL_law 375 = .ok (.iload 4, 2) := by decide +kernel
theorem dL_law_377 : decode cL_law 377 = .ok (.iconst 2, 1) := by decide +kernel
theorem dL_law_378 : decode cL_law 378 = .ok (.iadd, 1) := by decide +kernel
theorem dL_law_379 : decode cL_law 379 = .ok (.iaload, 1) := by decide +kernel
theorem dL_law_380 : decode cL_law 380 = .ok (.invokevirtual 112, 3) := by decide +kernel
theorem dL_law_383 : decode cL_law 383 = .ok (.istore 6, 2) := by decide +kernel
theorem dL_law_385 : decode cL_law 385 = .ok (.aload_n 2, 1) := by decide +kernel
theorem dL_law_386 : decode cL_law 386 = .ok (.invokevirtual 98, 3) := by decide +kernel
theorem dL_law_389 : decode cL_law 389 = .ok (.iload 5, 2) := by decide +kernel
theorem dL_law_391 : decode cL_law 391 = .ok (.if_icmp .eq 5, 3) := by decide +kernel
theorem dL_law_394 : decode cL_law 394 = .ok (.iconst 0, 1) := by decide +kernel
theorem dL_law_395 : decode cL_law 395 = .ok (.ireturn, 1) := by decide +kernel
theorem dL_law_396 : decode cL_law 396 = .ok (.iload 5, 2) := by decide +kernel
theorem dL_law_398 : decode cL_law 398 = .ok (.ifCond .ne 15, 3) := by decide +kernel
theorem dL_law_401 : decode cL_law 401 = .ok (.aload_n 3, 1) := by decide +kernel
theorem dL_law_402 : decode cL_law 402 = .ok (.iconst 0, 1) := by decide +kernel
theorem dL_law_403 : decode cL_law 403 = .ok (.laload, 1) := by decide +kernel
theorem dL_law_404 : decode cL_law 404 = .ok (.iload 6, 2) := by decide +kernel
theorem dL_law_406 : decode cL_law 406 = .ok (.i2l, 1) := by decide +kernel
theorem dL_law_407 : decode cL_law 407 = .ok (.lcmp, 1) := by decide +kernel
theorem dL_law_408 : decode cL_law 408 = .ok (.ifCond .eq 5, 3) := by decide +kernel
theorem dL_law_411 : decode cL_law 411 = .ok (.iconst 0, 1) := by decide +kernel
theorem dL_law_412 : decode cL_law 412 = .ok (.ireturn, 1) := by decide +kernel
theorem dL_law_413 : decode cL_law 413 = .ok (.goto 1435, 3) := by decide +kernel
theorem dL_law_416 : decode cL_law 416 = .ok (.aload_n 1, 1) := by decide +kernel
theorem dL_law_417 : decode cL_law 417 = .ok (.aload_n 0, 1) := by decide +kernel
theorem dL_law_418 : decode cL_law 418 = .ok (.iload 4, 2) := by decide +kernel
theorem dL_law_420 : decode cL_law 420 = .ok (.iconst 1, 1) := by decide +kernel
theorem dL_law_421 : decode cL_law 421 = .ok (.iadd, 1) := by decide +kernel
theorem dL_law_422 : decode cL_law 422 = .ok (.iaload, 1) := by decide +kernel
theorem dL_law_423 : decode cL_law 423 = .ok (.aload_n 3, 1) := by decide +kernel
theorem dL_law_424 : decode cL_law 424 = .ok (.invokestatic 113, 3) := by decide +kernel
theorem dL_law_427 : decode cL_law 427 = .ok (.istore 5, 2) := by decide +kernel
theorem dL_law_429 : decode cL_law 429 = .ok (.aload_n 2, 1) := by decide +kernel
theorem dL_law_430 : decode cL_law 430 = .ok (.aload_n 0, 1) := by decide +kernel
theorem dL_law_431 : decode cL_law 431 = .ok (.iload 4, 2) := by decide +kernel
theorem dL_law_433 : decode cL_law 433 = .ok (.iconst 1, 1) := by decide +kernel
theorem dL_law_434 : decode cL_law 434 = .ok (.iadd, 1) := by decide +kernel
theorem dL_law_435 : decode cL_law 435 = .ok (.iaload, 1) := by decide +kernel
theorem dL_law_436 : decode cL_law 436 = .ok (.invokevirtual 115, 3) := by decide +kernel
theorem dL_law_439 : decode cL_law 439 = .ok (.istore 6, 2) := by decide +kernel
theorem dL_law_441 : decode cL_law 441 = .ok (.aload_n 2, 1) := by decide +kernel
theorem dL_law_442 : decode cL_law 442 = .ok (.invokevirtual 98, 3) := by decide +kernel
theorem dL_law_445 : decode cL_law 445 = .ok (.iload 5, 2) := by decide +kernel
theorem dL_law_447 : decode cL_law 447 = .ok (.if_icmp .eq 5, 3) := by decide +kernel
theorem dL_law_450 : decode cL_law 450 = .ok (.iconst 0, 1) := by decide +kernel
theorem dL_law_451 : decode cL_law 451 = .ok (.ireturn, 1) := by decide +kernel
theorem dL_law_452 : decode cL_law 452 = .ok (.iload 5, 2) := by decide +kernel
theorem dL_law_454 : decode cL_law 454 = .ok (.ifCond .ne 15, 3) := by decide +kernel
theorem dL_law_457 : decode cL_law 457 = .ok (.aload_n 3, 1) := by decide +kernel
theorem dL_law_458 : decode cL_law 458 = .ok (.iconst 0, 1) := by decide +kernel
theorem dL_law_459 : decode cL_law 459 = .ok (.laload, 1) := by decide +kernel
theorem dL_law_460 : decode cL_law 460 = .ok (.iload 6, 2) := by decide +kernel
theorem dL_law_462 : decode cL_law 462 = .ok (.i2l, 1) := by decide +kernel
theorem dL_law_463 : decode cL_law 463 = .ok (.lcmp, 1) := by decide +kernel
theorem dL_law_464 : decode cL_law 464 = .ok (.ifCond .eq 5, 3) := by decide +kernel
theorem dL_law_467 : decode cL_law 467 = .ok (.iconst 0, 1) := by decide +kernel
theorem dL_law_468 : decode cL_law 468 = .ok (.ireturn, 1) := by decide +kernel
theorem dL_law_469 : decode cL_law 469 = .ok (.goto 1379, 3) := by decide +kernel
theorem dL_law_472 : decode cL_law 472 = .ok (.aload_n 1, 1) := by decide +kernel
theorem dL_law_473 : decode cL_law 473 = .ok (.aload_n 0, 1) := by decide +kernel
theorem dL_law_474 : decode cL_law 474 = .ok (.iload 4, 2) := by decide +kernel
theorem dL_law_476 : decode cL_law 476 = .ok (.iconst 1, 1) := by decide +kernel
theorem dL_law_477 : decode cL_law 477 = .ok (.iadd, 1) := by decide +kernel
theorem dL_law_478 : decode cL_law 478 = .ok (.iaload, 1) := by decide +kernel
theorem dL_law_479 : decode cL_law 479 = .ok (.aload_n 0, 1) := by decide +kernel
theorem dL_law_480 : decode cL_law 480 = .ok (.iload 4, 2) := by decide +kernel
theorem dL_law_482 : decode cL_law 482 = .ok (.iconst 2, 1) := by decide +kernel
theorem dL_law_483 : decode cL_law 483 = .ok (.iadd, 1) := by decide +kernel
theorem dL_law_484 : decode cL_law 484 = .ok (.iaload, 1) := by decide +kernel
theorem dL_law_485 : decode cL_law 485 = .ok (.aload_n 3, 1) := by decide +kernel
theorem dL_law_486 : decode cL_law 486 = .ok (.invokestatic 116, 3) := by decide +kernel
theorem dL_law_489 : decode cL_law 489 = .ok (.istore 5, 2) := by decide +kernel
theorem dL_law_491 : decode cL_law 491 = .ok (.aload_n 2, 1) := by decide +kernel
theorem dL_law_492 : decode cL_law 492 = .ok (.aload_n 0, 1) := by decide +kernel
theorem dL_law_493 : decode cL_law 493 = .ok (.iload 4, 2) := by decide +kernel
theorem dL_law_495 : decode cL_law 495 = .ok (.iconst 1, 1) := by decide +kernel
theorem dL_law_496 : decode cL_law 496 = .ok (.iadd, 1) := by decide +kernel
theorem dL_law_497 : decode cL_law 497 = .ok (.iaload, 1) := by decide +kernel
theorem dL_law_498 : decode cL_law 498 = .ok (.aload_n 0, 1) := by decide +kernel
theorem dL_law_499 : decode cL_law 499 = .ok (.iload 4, 2) := by decide +kernel
theorem dL_law_501 : decode cL_law 501 = .ok (.iconst 2, 1) := by decide +kernel
theorem dL_law_502 : decode cL_law 502 = .ok (.iadd, 1) := by decide +kernel
theorem dL_law_503 : decode cL_law 503 = .ok (.iaload, 1) := by decide +kernel
theorem dL_law_504 : decode cL_law 504 = .ok (.invokevirtual 118, 3) := by decide +kernel
theorem dL_law_507 : decode cL_law 507 = .ok (.istore 6, 2) := by decide +kernel
theorem dL_law_509 : decode cL_law 509 = .ok (.aload_n 2, 1) := by decide +kernel
theorem dL_law_510 : decode cL_law 510 = .ok (.invokevirtual 98, 3) := by decide +kernel
theorem dL_law_513 : decode cL_law 513 = .ok (.iload 5, 2) := by decide +kernel
theorem dL_law_515 : decode cL_law 515 = .ok (.if_icmp .eq 5, 3) := by decide +kernel
theorem dL_law_518 : decode cL_law 518 = .ok (.iconst 0, 1) := by decide +kernel
theorem dL_law_519 : decode cL_law 519 = .ok (.ireturn, 1) := by decide +kernel
theorem dL_law_520 : decode cL_law 520 = .ok (.iload 5, 2) := by decide +kernel
theorem dL_law_522 : decode cL_law 522 = .ok (.ifCond .ne 15, 3) := by decide +kernel
theorem dL_law_525 : decode cL_law 525 = .ok (.aload_n 3, 1) := by decide +kernel
theorem dL_law_526 : decode cL_law 526 = .ok (.iconst 0, 1) := by decide +kernel
theorem dL_law_527 : decode cL_law 527 = .ok (.laload, 1) := by decide +kernel
theorem dL_law_528 : decode cL_law 528 = .ok (.iload 6, 2) := by decide +kernel
theorem dL_law_530 : decode cL_law 530 = .ok (.i2l, 1) := by decide +kernel
theorem dL_law_531 : decode cL_law 531 = .ok (.lcmp, 1) := by decide +kernel
theorem dL_law_532 : decode cL_law 532 = .ok (.ifCond .eq 5, 3) := by decide +kernel
theorem dL_law_535 : decode cL_law 535 = .ok (.iconst 0, 1) := by decide +kernel
theorem dL_law_536 : decode cL_law 536 = .ok (.ireturn, 1) := by decide +kernel
theorem dL_law_537 : decode cL_law 537 = .ok (.goto 1311, 3) := by decide +kernel
theorem dL_law_540 : decode cL_law 540 = .ok (.aload_n 1, 1) := by decide +kernel
theorem dL_law_541 : decode cL_law 541 = .ok (.aload_n 0, 1) := by decide +kernel
theorem dL_law_542 : decode cL_law 542 = .ok (.iload 4, 2) := by decide +kernel
theorem dL_law_544 : decode cL_law 544 = .ok (.iconst 1, 1) := by decide +kernel
theorem dL_law_545 : decode cL_law 545 = .ok (.iadd, 1) := by decide +kernel
theorem dL_law_546 : decode cL_law 546 = .ok (.iaload, 1) := by decide +kernel
theorem dL_law_547 : decode cL_law 547 = .ok (.aload_n 0, 1) := by decide +kernel
theorem dL_law_548 : decode cL_law 548 = .ok (.iload 4, 2) := by decide +kernel
theorem dL_law_550 : decode cL_law 550 = .ok (.iconst 2, 1) := by decide +kernel
theorem dL_law_551 : decode cL_law 551 = .ok (.iadd, 1) := by decide +kernel
theorem dL_law_552 : decode cL_law 552 = .ok (.iaload, 1) := by decide +kernel
theorem dL_law_553 : decode cL_law 553 = .ok (.aload_n 3, 1) := by decide +kernel
theorem dL_law_554 : decode cL_law 554 = .ok (.invokestatic 119, 3) := by decide +kernel
theorem dL_law_557 : decode cL_law 557 = .ok (.istore 5, 2) := by decide +kernel
theorem dL_law_559 : decode cL_law 559 = .ok (.aload_n 2, 1) := by decide +kernel
theorem dL_law_560 : decode cL_law 560 = .ok (.aload_n 0, 1) := by decide +kernel
theorem dL_law_561 : decode cL_law 561 = .ok (.iload 4, 2) := by decide +kernel
theorem dL_law_563 : decode cL_law 563 = .ok (.iconst 1, 1) := by decide +kernel
theorem dL_law_564 : decode cL_law 564 = .ok (.iadd, 1) := by decide +kernel
theorem dL_law_565 : decode cL_law 565 = .ok (.iaload, 1) := by decide +kernel
theorem dL_law_566 : decode cL_law 566 = .ok (.aload_n 0, 1) := by decide +kernel
theorem dL_law_567 : decode cL_law 567 = .ok (.iload 4, 2) := by decide +kernel
theorem dL_law_569 : decode cL_law 569 = .ok (.iconst 2, 1) := by decide +kernel
theorem dL_law_570 : decode cL_law 570 = .ok (.iadd, 1) := by decide +kernel
theorem dL_law_571 : decode cL_law 571 = .ok (.iaload, 1) := by decide +kernel
theorem dL_law_572 : decode cL_law 572 = .ok (.invokevirtual 121, 3) := by decide +kernel
theorem dL_law_575 : decode cL_law 575 = .ok (.istore 6, 2) := by decide +kernel
theorem dL_law_577 : decode cL_law 577 = .ok (.aload_n 2, 1) := by decide +kernel
theorem dL_law_578 : decode cL_law 578 = .ok (.invokevirtual 98, 3) := by decide +kernel
theorem dL_law_581 : decode cL_law 581 = .ok (.iload 5, 2) := by decide +kernel
theorem dL_law_583 : decode cL_law 583 = .ok (.if_icmp .eq 5, 3) := by decide +kernel
theorem dL_law_586 : decode cL_law 586 = .ok (.iconst 0, 1) := by decide +kernel
theorem dL_law_587 : decode cL_law 587 = .ok (.ireturn, 1) := by decide +kernel
theorem dL_law_588 : decode cL_law 588 = .ok (.iload 5, 2) := by decide +kernel
theorem dL_law_590 : decode cL_law 590 = .ok (.ifCond .ne 15, 3) := by decide +kernel
theorem dL_law_593 : decode cL_law 593 = .ok (.aload_n 3, 1) := by decide +kernel
theorem dL_law_594 : decode cL_law 594 = .ok (.iconst 0, 1) := by decide +kernel
theorem dL_law_595 : decode cL_law 595 = .ok (.laload, 1) := by decide +kernel
theorem dL_law_596 : decode cL_law 596 = .ok (.iload 6, 2) := by decide +kernel
theorem dL_law_598 : decode cL_law 598 = .ok (.i2l, 1) := by decide +kernel
theorem dL_law_599 : decode cL_law 599 = .ok (.lcmp, 1) := by decide +kernel
theorem dL_law_600 : decode cL_law 600 = .ok (.ifCond .eq 5, 3) := by decide +kernel
theorem dL_law_603 : decode cL_law 603 = .ok (.iconst 0, 1) := by decide +kernel
theorem dL_law_604 : decode cL_law 604 = .ok (.ireturn, 1) := by decide +kernel
theorem dL_law_605 : decode cL_law 605 = .ok (.goto 1243, 3) := by decide +kernel
theorem dL_law_608 : decode cL_law 608 = .ok (.aload_n 1, 1) := by decide +kernel
theorem dL_law_609 : decode cL_law 609 = .ok (.aload_n 0, 1) := by decide +kernel
theorem dL_law_610 : decode cL_law 610 = .ok (.iload 4, 2) := by decide +kernel
theorem dL_law_612 : decode cL_law 612 = .ok (.iconst 1, 1) := by decide +kernel
theorem dL_law_613 : decode cL_law 613 = .ok (.iadd, 1) := by decide +kernel
theorem dL_law_614 : decode cL_law 614 = .ok (.iaload, 1) := by decide +kernel
theorem dL_law_615 : decode cL_law 615 = .ok (.aload_n 0, 1) := by decide +kernel
theorem dL_law_616 : decode cL_law 616 = .ok (.iload 4, 2) := by decide +kernel
theorem dL_law_618 : decode cL_law 618 = .ok (.iconst 2, 1) := by decide +kernel
theorem dL_law_619 : decode cL_law 619 = .ok (.iadd, 1) := by decide +kernel
theorem dL_law_620 : decode cL_law 620 = .ok (.iaload, 1) := by decide +kernel
theorem dL_law_621 : decode cL_law 621 = .ok (.aload_n 3, 1) := by decide +kernel
theorem dL_law_622 : decode cL_law 622 = .ok (.invokestatic 122, 3) := by decide +kernel
theorem dL_law_625 : decode cL_law 625 = .ok (.istore 5, 2) := by decide +kernel
theorem dL_law_627 : decode cL_law 627 = .ok (.aload_n 2, 1) := by decide +kernel
theorem dL_law_628 : decode cL_law 628 = .ok (.aload_n 0, 1) := by decide +kernel
theorem dL_law_629 : decode cL_law 629 = .ok (.iload 4, 2) := by decide +kernel
theorem dL_law_631 : decode cL_law 631 = .ok (.iconst 1, 1) := by decide +kernel
theorem dL_law_632 : decode cL_law 632 = .ok (.iadd, 1) := by decide +kernel
theorem dL_law_633 : decode cL_law 633 = .ok (.iaload, 1) := by decide +kernel
theorem dL_law_634 : decode cL_law 634 = .ok (.aload_n 0, 1) := by decide +kernel
theorem dL_law_635 : decode cL_law 635 = .ok (.iload 4, 2) := by decide +kernel
theorem dL_law_637 : decode cL_law 637 = .ok (.iconst 2, 1) := by decide +kernel
theorem dL_law_638 : decode cL_law 638 = .ok (.iadd, 1) := by decide +kernel
theorem dL_law_639 : decode cL_law 639 = .ok (.iaload, 1) := by decide +kernel
theorem dL_law_640 : decode cL_law 640 = .ok (.invokevirtual 124, 3) := by decide +kernel
theorem dL_law_643 : decode cL_law 643 = .ok (.istore 6, 2) := by decide +kernel
theorem dL_law_645 : decode cL_law 645 = .ok (.aload_n 2, 1) := by decide +kernel
theorem dL_law_646 : decode cL_law 646 = .ok (.invokevirtual 98, 3) := by decide +kernel
theorem dL_law_649 : decode cL_law 649 = .ok (.iload 5, 2) := by decide +kernel
theorem dL_law_651 : decode cL_law 651 = .ok (.if_icmp .eq 5, 3) := by decide +kernel
theorem dL_law_654 : decode cL_law 654 = .ok (.iconst 0, 1) := by decide +kernel
theorem dL_law_655 : decode cL_law 655 = .ok (.ireturn, 1) := by decide +kernel
theorem dL_law_656 : decode cL_law 656 = .ok (.iload 5, 2) := by decide +kernel
theorem dL_law_658 : decode cL_law 658 = .ok (.ifCond .ne 22, 3) := by decide +kernel
theorem dL_law_661 : decode cL_law 661 = .ok (.aload_n 3, 1) := by decide +kernel
theorem dL_law_662 : decode cL_law 662 = .ok (.iconst 0, 1) := by decide +kernel
theorem dL_law_663 : decode cL_law 663 = .ok (.laload, 1) := by decide +kernel
theorem dL_law_664 : decode cL_law 664 = .ok (.iload 6, 2) := by decide +kernel
theorem dL_law_666 : decode cL_law 666 = .ok (.ifCond .eq 7, 3) := by decide +kernel
theorem dL_law_669 : decode cL_law 669 = .ok (.lconst 1, 1) := by decide +kernel
theorem dL_law_670 : decode cL_law 670 = .ok (.goto 4, 3) := by decide +kernel
theorem dL_law_673 : decode cL_law 673 = .ok (.lconst 0, 1) := by decide +kernel
theorem dL_law_674 : decode cL_law 674 = .ok (.lcmp, 1) := by decide +kernel
theorem dL_law_675 : decode cL_law 675 = .ok (.ifCond .eq 5, 3) := by decide +kernel
theorem dL_law_678 : decode cL_law 678 = .ok (.iconst 0, 1) := by decide +kernel
theorem dL_law_679 : decode cL_law 679 = .ok (.ireturn, 1) := by decide +kernel
theorem dL_law_680 : decode cL_law 680 = .ok (.goto 1168, 3) := by decide +kernel
theorem dL_law_683 : decode cL_law 683 = .ok (.aload_n 1, 1) := by decide +kernel
theorem dL_law_684 : decode cL_law 684 = .ok (.aload_n 0, 1) := by decide +kernel
theorem dL_law_685 : decode cL_law 685 = .ok (.iload 4, 2) := by decide +kernel
theorem dL_law_687 : decode cL_law 687 = .ok (.iconst 1, 1) := by decide +kernel
theorem dL_law_688 : decode cL_law 688 = .ok (.iadd, 1) := by decide +kernel
theorem dL_law_689 : decode cL_law 689 = .ok (.iaload, 1) := by decide +kernel
theorem dL_law_690 : decode cL_law 690 = .ok (.aload_n 0, 1) := by decide +kernel
theorem dL_law_691 : decode cL_law 691 = .ok (.iload 4, 2) := by decide +kernel
theorem dL_law_693 : decode cL_law 693 = .ok (.iconst 2, 1) := by decide +kernel
theorem dL_law_694 : decode cL_law 694 = .ok (.iadd, 1) := by decide +kernel
theorem dL_law_695 : decode cL_law 695 = .ok (.iaload, 1) := by decide +kernel
theorem dL_law_696 : decode cL_law 696 = .ok (.ifCond .eq 7, 3) := by decide +kernel
theorem dL_law_699 : decode cL_law 699 = .ok (.iconst 1, 1) := by decide +kernel
theorem dL_law_700 : decode cL_law 700 = .ok (.goto 4, 3) := by decide +kernel
theorem dL_law_703 : decode cL_law 703 = .ok (.iconst 0, 1) := by decide +kernel
theorem dL_law_704 : decode cL_law 704 = .ok (.aload_n 0, 1) := by decide +kernel
theorem dL_law_705 : decode cL_law 705 = .ok (.iload 4, 2) := by decide +kernel
theorem dL_law_707 : decode cL_law 707 = .ok (.iconst 3, 1) := by decide +kernel
theorem dL_law_708 : decode cL_law 708 = .ok (.iadd, 1) := by decide +kernel
theorem dL_law_709 : decode cL_law 709 = .ok (.iaload, 1) := by decide +kernel
theorem dL_law_710 : decode cL_law 710 = .ok (.aload_n 3, 1) := by decide +kernel
theorem dL_law_711 : decode cL_law 711 = .ok (.invokestatic 125, 3) := by decide +kernel
theorem dL_law_714 : decode cL_law 714 = .ok (.istore 5, 2) := by decide +kernel
theorem dL_law_716 : decode cL_law 716 = .ok (.aload_n 2, 1) := by decide +kernel
theorem dL_law_717 : decode cL_law 717 = .ok (.aload_n 0, 1) := by decide +kernel
theorem dL_law_718 : decode cL_law 718 = .ok (.iload 4, 2) := by decide +kernel
theorem dL_law_720 : decode cL_law 720 = .ok (.iconst 1, 1) := by decide +kernel
theorem dL_law_721 : decode cL_law 721 = .ok (.iadd, 1) := by decide +kernel
theorem dL_law_722 : decode cL_law 722 = .ok (.iaload, 1) := by decide +kernel
theorem dL_law_723 : decode cL_law 723 = .ok (.aload_n 0, 1) := by decide +kernel
theorem dL_law_724 : decode cL_law 724 = .ok (.iload 4, 2) := by decide +kernel
theorem dL_law_726 : decode cL_law 726 = .ok (.iconst 2, 1) := by decide +kernel
theorem dL_law_727 : decode cL_law 727 = .ok (.iadd, 1) := by decide +kernel
theorem dL_law_728 : decode cL_law 728 = .ok (.iaload, 1) := by decide +kernel
theorem dL_law_729 : decode cL_law 729 = .ok (.ifCond .eq 7, 3) := by decide +kernel
theorem dL_law_732 : decode cL_law 732 = .ok (.iconst 1, 1) := by decide +kernel
theorem dL_law_733 : decode cL_law 733 = .ok (.goto 4, 3) := by decide +kernel
theorem dL_law_736 : decode cL_law 736 = .ok (.iconst 0, 1) := by decide +kernel
theorem dL_law_737 : decode cL_law 737 = .ok (.aload_n 0, 1) := by decide +kernel
theorem dL_law_738 : decode cL_law 738 = .ok (.iload 4, 2) := by decide +kernel
theorem dL_law_740 : decode cL_law 740 = .ok (.iconst 3, 1) := by decide +kernel
theorem dL_law_741 : decode cL_law 741 = .ok (.iadd, 1) := by decide +kernel
theorem dL_law_742 : decode cL_law 742 = .ok (.iaload, 1) := by decide +kernel
theorem dL_law_743 : decode cL_law 743 = .ok (.invokevirtual 128, 3) := by decide +kernel
theorem dL_law_746 : decode cL_law 746 = .ok (.istore 6, 2) := by decide +kernel
theorem dL_law_748 : decode cL_law 748 = .ok (.aload_n 2, 1) := by decide +kernel
theorem dL_law_749 : decode cL_law 749 = .ok (.invokevirtual 98, 3) := by decide +kernel
theorem dL_law_752 : decode cL_law 752 = .ok (.iload 5, 2) := by decide +kernel
theorem dL_law_754 : decode cL_law 754 = .ok (.if_icmp .eq 5, 3) := by decide +kernel
theorem dL_law_757 : decode cL_law 757 = .ok (.iconst 0, 1) := by decide +kernel
theorem dL_law_758 : decode cL_law 758 = .ok (.ireturn, 1) := by decide +kernel
theorem dL_law_759 : decode cL_law 759 = .ok (.iload 5, 2) := by decide +kernel
theorem dL_law_761 : decode cL_law 761 = .ok (.ifCond .ne 15, 3) := by decide +kernel
theorem dL_law_764 : decode cL_law 764 = .ok (.aload_n 3, 1) := by decide +kernel
theorem dL_law_765 : decode cL_law 765 = .ok (.iconst 0, 1) := by decide +kernel
theorem dL_law_766 : decode cL_law 766 = .ok (.laload, 1) := by decide +kernel
theorem dL_law_767 : decode cL_law 767 = .ok (.iload 6, 2) := by decide +kernel
theorem dL_law_769 : decode cL_law 769 = .ok (.i2l, 1) := by decide +kernel
theorem dL_law_770 : decode cL_law 770 = .ok (.lcmp, 1) := by decide +kernel
theorem dL_law_771 : decode cL_law 771 = .ok (.ifCond .eq 5, 3) := by decide +kernel
theorem dL_law_774 : decode cL_law 774 = .ok (.iconst 0, 1) := by decide +kernel
theorem dL_law_775 : decode cL_law 775 = .ok (.ireturn, 1) := by decide +kernel
theorem dL_law_776 : decode cL_law 776 = .ok (.goto 1072, 3) := by decide +kernel
theorem dL_law_779 : decode cL_law 779 = .ok (.aload_n 1, 1) := by decide +kernel
theorem dL_law_780 : decode cL_law 780 = .ok (.aload_n 0, 1) := by decide +kernel
theorem dL_law_781 : decode cL_law 781 = .ok (.iload 4, 2) := by decide +kernel
theorem dL_law_783 : decode cL_law 783 = .ok (.iconst 1, 1) := by decide +kernel
theorem dL_law_784 : decode cL_law 784 = .ok (.iadd, 1) := by decide +kernel
theorem dL_law_785 : decode cL_law 785 = .ok (.iaload, 1) := by decide +kernel
theorem dL_law_786 : decode cL_law 786 = .ok (.aload_n 0, 1) := by decide +kernel
theorem dL_law_787 : decode cL_law 787 = .ok (.iload 4, 2) := by decide +kernel
theorem dL_law_789 : decode cL_law 789 = .ok (.iconst 2, 1) := by decide +kernel
theorem dL_law_790 : decode cL_law 790 = .ok (.iadd, 1) := by decide +kernel
theorem dL_law_791 : decode cL_law 791 = .ok (.iaload, 1) := by decide +kernel
theorem dL_law_792 : decode cL_law 792 = .ok (.aload_n 0, 1) := by decide +kernel
theorem dL_law_793 : decode cL_law 793 = .ok (.iload 4, 2) := by decide +kernel
theorem dL_law_795 : decode cL_law 795 = .ok (.iconst 3, 1) := by decide +kernel
theorem dL_law_796 : decode cL_law 796 = .ok (.iadd, 1) := by decide +kernel
theorem dL_law_797 : decode cL_law 797 = .ok (.iaload, 1) := by decide +kernel
theorem dL_law_798 : decode cL_law 798 = .ok (.aload_n 3, 1) := by decide +kernel
theorem dL_law_799 : decode cL_law 799 = .ok (.invokestatic 129, 3) := by decide +kernel
theorem dL_law_802 : decode cL_law 802 = .ok (.istore 5, 2) := by decide +kernel
theorem dL_law_804 : decode cL_law 804 = .ok (.aload_n 2, 1) := by decide +kernel
theorem dL_law_805 : decode cL_law 805 = .ok (.aload_n 0, 1) := by decide +kernel
theorem dL_law_806 : decode cL_law 806 = .ok (.iload 4, 2) := by decide +kernel
theorem dL_law_808 : decode cL_law 808 = .ok (.iconst 1, 1) := by decide +kernel
theorem dL_law_809 : decode cL_law 809 = .ok (.iadd, 1) := by decide +kernel
theorem dL_law_810 : decode cL_law 810 = .ok (.iaload, 1) := by decide +kernel
theorem dL_law_811 : decode cL_law 811 = .ok (.aload_n 0, 1) := by decide +kernel
theorem dL_law_812 : decode cL_law 812 = .ok (.iload 4, 2) := by decide +kernel
theorem dL_law_814 : decode cL_law 814 = .ok (.iconst 2, 1) := by decide +kernel
theorem dL_law_815 : decode cL_law 815 = .ok (.iadd, 1) := by decide +kernel
theorem dL_law_816 : decode cL_law 816 = .ok (.iaload, 1) := by decide +kernel
theorem dL_law_817 : decode cL_law 817 = .ok (.aload_n 0, 1) := by decide +kernel
theorem dL_law_818 : decode cL_law 818 = .ok (.iload 4, 2) := by decide +kernel
theorem dL_law_820 : decode cL_law 820 = .ok (.iconst 3, 1) := by decide +kernel
theorem dL_law_821 : decode cL_law 821 = .ok (.iadd, 1) := by decide +kernel
theorem dL_law_822 : decode cL_law 822 = .ok (.iaload, 1) := by decide +kernel
theorem dL_law_823 : decode cL_law 823 = .ok (.invokevirtual 131, 3) := by decide +kernel
theorem dL_law_826 : decode cL_law 826 = .ok (.istore 6, 2) := by decide +kernel
theorem dL_law_828 : decode cL_law 828 = .ok (.aload_n 2, 1) := by decide +kernel
theorem dL_law_829 : decode cL_law 829 = .ok (.invokevirtual 98, 3) := by decide +kernel
theorem dL_law_832 : decode cL_law 832 = .ok (.iload 5, 2) := by decide +kernel
theorem dL_law_834 : decode cL_law 834 = .ok (.if_icmp .eq 5, 3) := by decide +kernel
theorem dL_law_837 : decode cL_law 837 = .ok (.iconst 0, 1) := by decide +kernel
theorem dL_law_838 : decode cL_law 838 = .ok (.ireturn, 1) := by decide +kernel
theorem dL_law_839 : decode cL_law 839 = .ok (.iload 5, 2) := by decide +kernel
theorem dL_law_841 : decode cL_law 841 = .ok (.ifCond .ne 15, 3) := by decide +kernel
theorem dL_law_844 : decode cL_law 844 = .ok (.aload_n 3, 1) := by decide +kernel
theorem dL_law_845 : decode cL_law 845 = .ok (.iconst 0, 1) := by decide +kernel
theorem dL_law_846 : decode cL_law 846 = .ok (.laload, 1) := by decide +kernel
theorem dL_law_847 : decode cL_law 847 = .ok (.iload 6, 2) := by decide +kernel
theorem dL_law_849 : decode cL_law 849 = .ok (.i2l, 1) := by decide +kernel
theorem dL_law_850 : decode cL_law 850 = .ok (.lcmp, 1) := by decide +kernel
theorem dL_law_851 : decode cL_law 851 = .ok (.ifCond .eq 5, 3) := by decide +kernel
theorem dL_law_854 : decode cL_law 854 = .ok (.iconst 0, 1) := by decide +kernel
theorem dL_law_855 : decode cL_law 855 = .ok (.ireturn, 1) := by decide +kernel
theorem dL_law_856 : decode cL_law 856 = .ok (.goto 992, 3) := by decide +kernel
theorem dL_law_859 : decode cL_law 859 = .ok (.aload_n 1, 1) := by decide +kernel
theorem dL_law_860 : decode cL_law 860 = .ok (.aload_n 0, 1) := by decide +kernel
theorem dL_law_861 : decode cL_law 861 = .ok (.iload 4, 2) := by decide +kernel
theorem dL_law_863 : decode cL_law 863 = .ok (.iconst 1, 1) := by decide +kernel
theorem dL_law_864 : decode cL_law 864 = .ok (.iadd, 1) := by decide +kernel
theorem dL_law_865 : decode cL_law 865 = .ok (.iaload, 1) := by decide +kernel
theorem dL_law_866 : decode cL_law 866 = .ok (.aload_n 0, 1) := by decide +kernel
theorem dL_law_867 : decode cL_law 867 = .ok (.iload 4, 2) := by decide +kernel
theorem dL_law_869 : decode cL_law 869 = .ok (.iconst 2, 1) := by decide +kernel
theorem dL_law_870 : decode cL_law 870 = .ok (.iadd, 1) := by decide +kernel
theorem dL_law_871 : decode cL_law 871 = .ok (.iaload, 1) := by decide +kernel
theorem dL_law_872 : decode cL_law 872 = .ok (.aload_n 3, 1) := by decide +kernel
theorem dL_law_873 : decode cL_law 873 = .ok (.invokestatic 132, 3) := by decide +kernel
theorem dL_law_876 : decode cL_law 876 = .ok (.istore 5, 2) := by decide +kernel
theorem dL_law_878 : decode cL_law 878 = .ok (.aload_n 2, 1) := by decide +kernel
theorem dL_law_879 : decode cL_law 879 = .ok (.aload_n 0, 1) := by decide +kernel
theorem dL_law_880 : decode cL_law 880 = .ok (.iload 4, 2) := by decide +kernel
theorem dL_law_882 : decode cL_law 882 = .ok (.iconst 1, 1) := by decide +kernel
theorem dL_law_883 : decode cL_law 883 = .ok (.iadd, 1) := by decide +kernel
theorem dL_law_884 : decode cL_law 884 = .ok (.iaload, 1) := by decide +kernel
theorem dL_law_885 : decode cL_law 885 = .ok (.aload_n 0, 1) := by decide +kernel
theorem dL_law_886 : decode cL_law 886 = .ok (.iload 4, 2) := by decide +kernel
theorem dL_law_888 : decode cL_law 888 = .ok (.iconst 2, 1) := by decide +kernel
theorem dL_law_889 : decode cL_law 889 = .ok (.iadd, 1) := by decide +kernel
theorem dL_law_890 : decode cL_law 890 = .ok (.iaload, 1) := by decide +kernel
theorem dL_law_891 : decode cL_law 891 = .ok (.invokevirtual 134, 3) := by decide +kernel
theorem dL_law_894 : decode cL_law 894 = .ok (.istore 6, 2) := by decide +kernel
theorem dL_law_896 : decode cL_law 896 = .ok (.aload_n 2, 1) := by decide +kernel
theorem dL_law_897 : decode cL_law 897 = .ok (.invokevirtual 98, 3) := by decide +kernel
theorem dL_law_900 : decode cL_law 900 = .ok (.iload 5, 2) := by decide +kernel
theorem dL_law_902 : decode cL_law 902 = .ok (.if_icmp .eq 5, 3) := by decide +kernel
theorem dL_law_905 : decode cL_law 905 = .ok (.iconst 0, 1) := by decide +kernel
theorem dL_law_906 : decode cL_law 906 = .ok (.ireturn, 1) := by decide +kernel
theorem dL_law_907 : decode cL_law 907 = .ok (.iload 5, 2) := by decide +kernel
theorem dL_law_909 : decode cL_law 909 = .ok (.ifCond .ne 15, 3) := by decide +kernel
theorem dL_law_912 : decode cL_law 912 = .ok (.aload_n 3, 1) := by decide +kernel
theorem dL_law_913 : decode cL_law 913 = .ok (.iconst 0, 1) := by decide +kernel
theorem dL_law_914 : decode cL_law 914 = .ok (.laload, 1) := by decide +kernel
theorem dL_law_915 : decode cL_law 915 = .ok (.iload 6, 2) := by decide +kernel
theorem dL_law_917 : decode cL_law 917 = .ok (.i2l, 1) := by decide +kernel
theorem dL_law_918 : decode cL_law 918 = .ok (.lcmp, 1) := by decide +kernel
theorem dL_law_919 : decode cL_law 919 = .ok (.ifCond .eq 5, 3) := by decide +kernel
theorem dL_law_922 : decode cL_law 922 = .ok (.iconst 0, 1) := by decide +kernel
theorem dL_law_923 : decode cL_law 923 = .ok (.ireturn, 1) := by decide +kernel
theorem dL_law_924 : decode cL_law 924 = .ok (.goto 924, 3) := by decide +kernel
theorem dL_law_927 : decode cL_law 927 = .ok (.aload_n 1, 1) := by decide +kernel
theorem dL_law_928 : decode cL_law 928 = .ok (.aload_n 0, 1) := by decide +kernel
theorem dL_law_929 : decode cL_law 929 = .ok (.iload 4, 2) := by decide +kernel
theorem dL_law_931 : decode cL_law 931 = .ok (.iconst 1, 1) := by decide +kernel
theorem dL_law_932 : decode cL_law 932 = .ok (.iadd, 1) := by decide +kernel
theorem dL_law_933 : decode cL_law 933 = .ok (.iaload, 1) := by decide +kernel
theorem dL_law_934 : decode cL_law 934 = .ok (.aload_n 0, 1) := by decide +kernel
theorem dL_law_935 : decode cL_law 935 = .ok (.iload 4, 2) := by decide +kernel
theorem dL_law_937 : decode cL_law 937 = .ok (.iconst 2, 1) := by decide +kernel
theorem dL_law_938 : decode cL_law 938 = .ok (.iadd, 1) := by decide +kernel
theorem dL_law_939 : decode cL_law 939 = .ok (.iaload, 1) := by decide +kernel
theorem dL_law_940 : decode cL_law 940 = .ok (.aload_n 0, 1) := by decide +kernel
theorem dL_law_941 : decode cL_law 941 = .ok (.iload 4, 2) := by decide +kernel
theorem dL_law_943 : decode cL_law 943 = .ok (.iconst 3, 1) := by decide +kernel
theorem dL_law_944 : decode cL_law 944 = .ok (.iadd, 1) := by decide +kernel
theorem dL_law_945 : decode cL_law 945 = .ok (.iaload, 1) := by decide +kernel
theorem dL_law_946 : decode cL_law 946 = .ok (.aload_n 0, 1) := by decide +kernel
theorem dL_law_947 : decode cL_law 947 = .ok (.iload 4, 2) := by decide +kernel
theorem dL_law_949 : decode cL_law 949 = .ok (.iconst 4, 1) := by decide +kernel
theorem dL_law_950 : decode cL_law 950 = .ok (.iadd, 1) := by decide +kernel
theorem dL_law_951 : decode cL_law 951 = .ok (.iaload, 1) := by decide +kernel
theorem dL_law_952 : decode cL_law 952 = .ok (.aload_n 3, 1) := by decide +kernel
theorem dL_law_953 : decode cL_law 953 = .ok (.invokestatic 135, 3) := by decide +kernel
theorem dL_law_956 : decode cL_law 956 = .ok (.istore 5, 2) := by decide +kernel
theorem dL_law_958 : decode cL_law 958 = .ok (.aload_n 2, 1) := by decide +kernel
theorem dL_law_959 : decode cL_law 959 = .ok (.aload_n 0, 1) := by decide +kernel
theorem dL_law_960 : decode cL_law 960 = .ok (.iload 4, 2) := by decide +kernel
theorem dL_law_962 : decode cL_law 962 = .ok (.iconst 1, 1) := by decide +kernel
theorem dL_law_963 : decode cL_law 963 = .ok (.iadd, 1) := by decide +kernel
theorem dL_law_964 : decode cL_law 964 = .ok (.iaload, 1) := by decide +kernel
theorem dL_law_965 : decode cL_law 965 = .ok (.aload_n 0, 1) := by decide +kernel
theorem dL_law_966 : decode cL_law 966 = .ok (.iload 4, 2) := by decide +kernel
theorem dL_law_968 : decode cL_law 968 = .ok (.iconst 2, 1) := by decide +kernel
theorem dL_law_969 : decode cL_law 969 = .ok (.iadd, 1) := by decide +kernel
theorem dL_law_970 : decode cL_law 970 = .ok (.iaload, 1) := by decide +kernel
theorem dL_law_971 : decode cL_law 971 = .ok (.aload_n 0, 1) := by decide +kernel
theorem dL_law_972 : decode cL_law 972 = .ok (.iload 4, 2) := by decide +kernel
theorem dL_law_974 : decode cL_law 974 = .ok (.iconst 3, 1) := by decide +kernel
theorem dL_law_975 : decode cL_law 975 = .ok (.iadd, 1) := by decide +kernel
theorem dL_law_976 : decode cL_law 976 = .ok (.iaload, 1) := by decide +kernel
theorem dL_law_977 : decode cL_law 977 = .ok (.aload_n 0, 1) := by decide +kernel
theorem dL_law_978 : decode cL_law 978 = .ok (.iload 4, 2) := by decide +kernel
theorem dL_law_980 : decode cL_law 980 = .ok (.iconst 4, 1) := by decide +kernel
theorem dL_law_981 : decode cL_law 981 = .ok (.iadd, 1) := by decide +kernel
theorem dL_law_982 : decode cL_law 982 = .ok (.iaload, 1) := by decide +kernel
theorem dL_law_983 : decode cL_law 983 = .ok (.invokevirtual 138, 3) := by decide +kernel
theorem dL_law_986 : decode cL_law 986 = .ok (.istore 6, 2) := by decide +kernel
theorem dL_law_988 : decode cL_law 988 = .ok (.aload_n 2, 1) := by decide +kernel
theorem dL_law_989 : decode cL_law 989 = .ok (.invokevirtual 98, 3) := by decide +kernel
theorem dL_law_992 : decode cL_law 992 = .ok (.iload 5, 2) := by decide +kernel
theorem dL_law_994 : decode cL_law 994 = .ok (.if_icmp .eq 5, 3) := by decide +kernel
theorem dL_law_997 : decode cL_law 997 = .ok (.iconst 0, 1) := by decide +kernel
theorem dL_law_998 : decode cL_law 998 = .ok (.ireturn, 1) := by decide +kernel
theorem dL_law_999 : decode cL_law 999 = .ok (.iload 5, 2) := by decide +kernel
theorem dL_law_1001 : decode cL_law 1001 = .ok (.ifCond .ne 15, 3) := by decide +kernel
theorem dL_law_1004 : decode cL_law 1004 = .ok (.aload_n 3, 1) := by decide +kernel
theorem dL_law_1005 : decode cL_law 1005 = .ok (.iconst 0, 1) := by decide +kernel
theorem dL_law_1006 : decode cL_law 1006 = .ok (.laload, 1) := by decide +kernel
theorem dL_law_1007 : decode cL_law 1007 = .ok (.iload 6, 2) := by decide +kernel
theorem dL_law_1009 : decode cL_law 1009 = .ok (.i2l, 1) := by decide +kernel
theorem dL_law_1010 : decode cL_law 1010 = .ok (.lcmp, 1) := by decide +kernel
theorem dL_law_1011 : decode cL_law 1011 = .ok (.ifCond .eq 5, 3) := by decide +kernel
theorem dL_law_1014 : decode cL_law 1014 = .ok (.iconst 0, 1) := by decide +kernel
theorem dL_law_1015 : decode cL_law 1015 = .ok (.ireturn, 1) := by decide +kernel
theorem dL_law_1016 : decode cL_law 1016 = .ok (.goto 832, 3) := by decide +kernel
theorem dL_law_1019 : decode cL_law 1019 = .ok (.aload_n 1, 1) := by decide +kernel
theorem dL_law_1020 : decode cL_law 1020 = .ok (.aload_n 0, 1) := by decide +kernel
theorem dL_law_1021 : decode cL_law 1021 = .ok (.iload 4, 2) := by decide +kernel
theorem dL_law_1023 : decode cL_law 1023 = .ok (.iconst 1, 1) := by decide +kernel
theorem dL_law_1024 : decode cL_law 1024 = .ok (.iadd, 1) := by decide +kernel
theorem dL_law_1025 : decode cL_law 1025 = .ok (.iaload, 1) := by decide +kernel
theorem dL_law_1026 : decode cL_law 1026 = .ok (.aload_n 0, 1) := by decide +kernel
theorem dL_law_1027 : decode cL_law 1027 = .ok (.iload 4, 2) := by decide +kernel
theorem dL_law_1029 : decode cL_law 1029 = .ok (.iconst 2, 1) := by decide +kernel
theorem dL_law_1030 : decode cL_law 1030 = .ok (.iadd, 1) := by decide +kernel
theorem dL_law_1031 : decode cL_law 1031 = .ok (.iaload, 1) := by decide +kernel
theorem dL_law_1032 : decode cL_law 1032 = .ok (.aload_n 0, 1) := by decide +kernel
theorem dL_law_1033 : decode cL_law 1033 = .ok (.iload 4, 2) := by decide +kernel
theorem dL_law_1035 : decode cL_law 1035 = .ok (.iconst 3, 1) := by decide +kernel
theorem dL_law_1036 : decode cL_law 1036 = .ok (.iadd, 1) := by decide +kernel
theorem dL_law_1037 : decode cL_law 1037 = .ok (.iaload, 1) := by decide +kernel
theorem dL_law_1038 : decode cL_law 1038 = .ok (.aload_n 0, 1) := by decide +kernel
theorem dL_law_1039 : decode cL_law 1039 = .ok (.iload 4, 2) := by decide +kernel
theorem dL_law_1041 : decode cL_law 1041 = .ok (.iconst 4, 1) := by decide +kernel
theorem dL_law_1042 : decode cL_law 1042 = .ok (.iadd, 1) := by decide +kernel
theorem dL_law_1043 : decode cL_law 1043 = .ok (.iaload, 1) := by decide +kernel
theorem dL_law_1044 : decode cL_law 1044 = .ok (.aload_n 3, 1) := by decide +kernel
theorem dL_law_1045 : decode cL_law 1045 = .ok (.invokestatic 139, 3) := by decide +kernel
theorem dL_law_1048 : decode cL_law 1048 = .ok (.istore 5, 2) := by decide +kernel
theorem dL_law_1050 : decode cL_law 1050 = .ok (.aload_n 2, 1) := by decide +kernel
theorem dL_law_1051 : decode cL_law 1051 = .ok (.aload_n 0, 1) := by decide +kernel
theorem dL_law_1052 : decode cL_law 1052 = .ok (.iload 4, 2) := by decide +kernel
theorem dL_law_1054 : decode cL_law 1054 = .ok (.iconst 1, 1) := by decide +kernel
theorem dL_law_1055 : decode cL_law 1055 = .ok (.iadd, 1) := by decide +kernel
theorem dL_law_1056 : decode cL_law 1056 = .ok (.iaload, 1) := by decide +kernel
theorem dL_law_1057 : decode cL_law 1057 = .ok (.aload_n 0, 1) := by decide +kernel
theorem dL_law_1058 : decode cL_law 1058 = .ok (.iload 4, 2) := by decide +kernel
theorem dL_law_1060 : decode cL_law 1060 = .ok (.iconst 2, 1) := by decide +kernel
theorem dL_law_1061 : decode cL_law 1061 = .ok (.iadd, 1) := by decide +kernel
theorem dL_law_1062 : decode cL_law 1062 = .ok (.iaload, 1) := by decide +kernel
theorem dL_law_1063 : decode cL_law 1063 = .ok (.aload_n 0, 1) := by decide +kernel
theorem dL_law_1064 : decode cL_law 1064 = .ok (.iload 4, 2) := by decide +kernel
theorem dL_law_1066 : decode cL_law 1066 = .ok (.iconst 3, 1) := by decide +kernel
theorem dL_law_1067 : decode cL_law 1067 = .ok (.iadd, 1) := by decide +kernel
theorem dL_law_1068 : decode cL_law 1068 = .ok (.iaload, 1) := by decide +kernel
theorem dL_law_1069 : decode cL_law 1069 = .ok (.aload_n 0, 1) := by decide +kernel
theorem dL_law_1070 : decode cL_law 1070 = .ok (.iload 4, 2) := by decide +kernel
theorem dL_law_1072 : decode cL_law 1072 = .ok (.iconst 4, 1) := by decide +kernel
theorem dL_law_1073 : decode cL_law 1073 = .ok (.iadd, 1) := by decide +kernel
theorem dL_law_1074 : decode cL_law 1074 = .ok (.iaload, 1) := by decide +kernel
theorem dL_law_1075 : decode cL_law 1075 = .ok (.invokevirtual 141, 3) := by decide +kernel
theorem dL_law_1078 : decode cL_law 1078 = .ok (.istore 6, 2) := by decide +kernel
theorem dL_law_1080 : decode cL_law 1080 = .ok (.aload_n 2, 1) := by decide +kernel
theorem dL_law_1081 : decode cL_law 1081 = .ok (.invokevirtual 98, 3) := by decide +kernel
theorem dL_law_1084 : decode cL_law 1084 = .ok (.iload 5, 2) := by decide +kernel
theorem dL_law_1086 : decode cL_law 1086 = .ok (.if_icmp .eq 5, 3) := by decide +kernel
theorem dL_law_1089 : decode cL_law 1089 = .ok (.iconst 0, 1) := by decide +kernel
theorem dL_law_1090 : decode cL_law 1090 = .ok (.ireturn, 1) := by decide +kernel
theorem dL_law_1091 : decode cL_law 1091 = .ok (.iload 5, 2) := by decide +kernel
theorem dL_law_1093 : decode cL_law 1093 = .ok (.ifCond .ne 15, 3) := by decide +kernel
theorem dL_law_1096 : decode cL_law 1096 = .ok (.aload_n 3, 1) := by decide +kernel
theorem dL_law_1097 : decode cL_law 1097 = .ok (.iconst 0, 1) := by decide +kernel
theorem dL_law_1098 : decode cL_law 1098 = .ok (.laload, 1) := by decide +kernel
theorem dL_law_1099 : decode cL_law 1099 = .ok (.iload 6, 2) := by decide +kernel
theorem dL_law_1101 : decode cL_law 1101 = .ok (.i2l, 1) := by decide +kernel
theorem dL_law_1102 : decode cL_law 1102 = .ok (.lcmp, 1) := by decide +kernel
theorem dL_law_1103 : decode cL_law 1103 = .ok (.ifCond .eq 5, 3) := by decide +kernel
theorem dL_law_1106 : decode cL_law 1106 = .ok (.iconst 0, 1) := by decide +kernel
theorem dL_law_1107 : decode cL_law 1107 = .ok (.ireturn, 1) := by decide +kernel
theorem dL_law_1108 : decode cL_law 1108 = .ok (.goto 740, 3) := by decide +kernel
theorem dL_law_1111 : decode cL_law 1111 = .ok (.aload_n 1, 1) := by decide +kernel
theorem dL_law_1112 : decode cL_law 1112 = .ok (.aload_n 0, 1) := by decide +kernel
theorem dL_law_1113 : decode cL_law 1113 = .ok (.iload 4, 2) := by decide +kernel
theorem dL_law_1115 : decode cL_law 1115 = .ok (.iconst 1, 1) := by decide +kernel
theorem dL_law_1116 : decode cL_law 1116 = .ok (.iadd, 1) := by decide +kernel
theorem dL_law_1117 : decode cL_law 1117 = .ok (.iaload, 1) := by decide +kernel
theorem dL_law_1118 : decode cL_law 1118 = .ok (.aload_n 0, 1) := by decide +kernel
theorem dL_law_1119 : decode cL_law 1119 = .ok (.iload 4, 2) := by decide +kernel
theorem dL_law_1121 : decode cL_law 1121 = .ok (.iconst 2, 1) := by decide +kernel
theorem dL_law_1122 : decode cL_law 1122 = .ok (.iadd, 1) := by decide +kernel
theorem dL_law_1123 : decode cL_law 1123 = .ok (.iaload, 1) := by decide +kernel
theorem dL_law_1124 : decode cL_law 1124 = .ok (.aload_n 3, 1) := by decide +kernel
theorem dL_law_1125 : decode cL_law 1125 = .ok (.invokestatic 142, 3) := by decide +kernel
theorem dL_law_1128 : decode cL_law 1128 = .ok (.istore 5, 2) := by decide +kernel
theorem dL_law_1130 : decode cL_law 1130 = .ok (.aload_n 2, 1) := by decide +kernel
theorem dL_law_1131 : decode cL_law 1131 = .ok (.aload_n 0, 1) := by decide +kernel
theorem dL_law_1132 : decode cL_law 1132 = .ok (.iload 4, 2) := by decide +kernel
theorem dL_law_1134 : decode cL_law 1134 = .ok (.iconst 1, 1) := by decide +kernel
theorem dL_law_1135 : decode cL_law 1135 = .ok (.iadd, 1) := by decide +kernel
theorem dL_law_1136 : decode cL_law 1136 = .ok (.iaload, 1) := by decide +kernel
theorem dL_law_1137 : decode cL_law 1137 = .ok (.aload_n 0, 1) := by decide +kernel
theorem dL_law_1138 : decode cL_law 1138 = .ok (.iload 4, 2) := by decide +kernel
theorem dL_law_1140 : decode cL_law 1140 = .ok (.iconst 2, 1) := by decide +kernel
theorem dL_law_1141 : decode cL_law 1141 = .ok (.iadd, 1) := by decide +kernel
theorem dL_law_1142 : decode cL_law 1142 = .ok (.iaload, 1) := by decide +kernel
theorem dL_law_1143 : decode cL_law 1143 = .ok (.invokevirtual 144, 3) := by decide +kernel
theorem dL_law_1146 : decode cL_law 1146 = .ok (.istore 6, 2) := by decide +kernel
theorem dL_law_1148 : decode cL_law 1148 = .ok (.aload_n 2, 1) := by decide +kernel
theorem dL_law_1149 : decode cL_law 1149 = .ok (.invokevirtual 98, 3) := by decide +kernel
theorem dL_law_1152 : decode cL_law 1152 = .ok (.iload 5, 2) := by decide +kernel
theorem dL_law_1154 : decode cL_law 1154 = .ok (.if_icmp .eq 5, 3) := by decide +kernel
theorem dL_law_1157 : decode cL_law 1157 = .ok (.iconst 0, 1) := by decide +kernel
theorem dL_law_1158 : decode cL_law 1158 = .ok (.ireturn, 1) := by decide +kernel
theorem dL_law_1159 : decode cL_law 1159 = .ok (.iload 5, 2) := by decide +kernel
theorem dL_law_1161 : decode cL_law 1161 = .ok (.ifCond .ne 15, 3) := by decide +kernel
theorem dL_law_1164 : decode cL_law 1164 = .ok (.aload_n 3, 1) := by decide +kernel
theorem dL_law_1165 : decode cL_law 1165 = .ok (.iconst 0, 1) := by decide +kernel
theorem dL_law_1166 : decode cL_law 1166 = .ok (.laload, 1) := by decide +kernel
theorem dL_law_1167 : decode cL_law 1167 = .ok (.iload 6, 2) := by decide +kernel
theorem dL_law_1169 : decode cL_law 1169 = .ok (.i2l, 1) := by decide +kernel
theorem dL_law_1170 : decode cL_law 1170 = .ok (.lcmp, 1) := by decide +kernel
theorem dL_law_1171 : decode cL_law 1171 = .ok (.ifCond .eq 5, 3) := by decide +kernel
theorem dL_law_1174 : decode cL_law 1174 = .ok (.iconst 0, 1) := by decide +kernel
theorem dL_law_1175 : decode cL_law 1175 = .ok (.ireturn, 1) := by decide +kernel
theorem dL_law_1176 : decode cL_law 1176 = .ok (.goto 672, 3) := by decide +kernel
theorem dL_law_1179 : decode cL_law 1179 = .ok (.aload_n 1, 1) := by decide +kernel
theorem dL_law_1180 : decode cL_law 1180 = .ok (.aload_n 0, 1) := by decide +kernel
theorem dL_law_1181 : decode cL_law 1181 = .ok (.iload 4, 2) := by decide +kernel
theorem dL_law_1183 : decode cL_law 1183 = .ok (.iconst 1, 1) := by decide +kernel
theorem dL_law_1184 : decode cL_law 1184 = .ok (.iadd, 1) := by decide +kernel
theorem dL_law_1185 : decode cL_law 1185 = .ok (.iaload, 1) := by decide +kernel
theorem dL_law_1186 : decode cL_law 1186 = .ok (.aload_n 0, 1) := by decide +kernel
theorem dL_law_1187 : decode cL_law 1187 = .ok (.iload 4, 2) := by decide +kernel
theorem dL_law_1189 : decode cL_law 1189 = .ok (.iconst 2, 1) := by decide +kernel
theorem dL_law_1190 : decode cL_law 1190 = .ok (.iadd, 1) := by decide +kernel
theorem dL_law_1191 : decode cL_law 1191 = .ok (.iaload, 1) := by decide +kernel
theorem dL_law_1192 : decode cL_law 1192 = .ok (.aload_n 3, 1) := by decide +kernel
theorem dL_law_1193 : decode cL_law 1193 = .ok (.invokestatic 145, 3) := by decide +kernel
theorem dL_law_1196 : decode cL_law 1196 = .ok (.istore 5, 2) := by decide +kernel
theorem dL_law_1198 : decode cL_law 1198 = .ok (.aload_n 2, 1) := by decide +kernel
theorem dL_law_1199 : decode cL_law 1199 = .ok (.aload_n 0, 1) := by decide +kernel
theorem dL_law_1200 : decode cL_law 1200 = .ok (.iload 4, 2) := by decide +kernel
theorem dL_law_1202 : decode cL_law 1202 = .ok (.iconst 1, 1) := by decide +kernel
theorem dL_law_1203 : decode cL_law 1203 = .ok (.iadd, 1) := by decide +kernel
theorem dL_law_1204 : decode cL_law 1204 = .ok (.iaload, 1) := by decide +kernel
theorem dL_law_1205 : decode cL_law 1205 = .ok (.aload_n 0, 1) := by decide +kernel
theorem dL_law_1206 : decode cL_law 1206 = .ok (.iload 4, 2) := by decide +kernel
theorem dL_law_1208 : decode cL_law 1208 = .ok (.iconst 2, 1) := by decide +kernel
theorem dL_law_1209 : decode cL_law 1209 = .ok (.iadd, 1) := by decide +kernel
theorem dL_law_1210 : decode cL_law 1210 = .ok (.iaload, 1) := by decide +kernel
theorem dL_law_1211 : decode cL_law 1211 = .ok (.invokevirtual 147, 3) := by decide +kernel
theorem dL_law_1214 : decode cL_law 1214 = .ok (.istore 6, 2) := by decide +kernel
theorem dL_law_1216 : decode cL_law 1216 = .ok (.aload_n 2, 1) := by decide +kernel
theorem dL_law_1217 : decode cL_law 1217 = .ok (.invokevirtual 98, 3) := by decide +kernel
theorem dL_law_1220 : decode cL_law 1220 = .ok (.iload 5, 2) := by decide +kernel
theorem dL_law_1222 : decode cL_law 1222 = .ok (.if_icmp .eq 5, 3) := by decide +kernel
theorem dL_law_1225 : decode cL_law 1225 = .ok (.iconst 0, 1) := by decide +kernel
theorem dL_law_1226 : decode cL_law 1226 = .ok (.ireturn, 1) := by decide +kernel
theorem dL_law_1227 : decode cL_law 1227 = .ok (.iload 5, 2) := by decide +kernel
theorem dL_law_1229 : decode cL_law 1229 = .ok (.ifCond .ne 15, 3) := by decide +kernel
theorem dL_law_1232 : decode cL_law 1232 = .ok (.aload_n 3, 1) := by decide +kernel
theorem dL_law_1233 : decode cL_law 1233 = .ok (.iconst 0, 1) := by decide +kernel
theorem dL_law_1234 : decode cL_law 1234 = .ok (.laload, 1) := by decide +kernel
theorem dL_law_1235 : decode cL_law 1235 = .ok (.iload 6, 2) := by decide +kernel
theorem dL_law_1237 : decode cL_law 1237 = .ok (.i2l, 1) := by decide +kernel
theorem dL_law_1238 : decode cL_law 1238 = .ok (.lcmp, 1) := by decide +kernel
theorem dL_law_1239 : decode cL_law 1239 = .ok (.ifCond .eq 5, 3) := by decide +kernel
theorem dL_law_1242 : decode cL_law 1242 = .ok (.iconst 0, 1) := by decide +kernel
theorem dL_law_1243 : decode cL_law 1243 = .ok (.ireturn, 1) := by decide +kernel
theorem dL_law_1244 : decode cL_law 1244 = .ok (.goto 604, 3) := by decide +kernel
theorem dL_law_1247 : decode cL_law 1247 = .ok (.aload_n 1, 1) := by decide +kernel
theorem dL_law_1248 : decode cL_law 1248 = .ok (.aload_n 0, 1) := by decide +kernel
theorem dL_law_1249 : decode cL_law 1249 = .ok (.iload 4, 2) := by decide +kernel
theorem dL_law_1251 : decode cL_law 1251 = .ok (.iconst 1, 1) := by decide +kernel
theorem dL_law_1252 : decode cL_law 1252 = .ok (.iadd, 1) := by decide +kernel
theorem dL_law_1253 : decode cL_law 1253 = .ok (.iaload, 1) := by decide +kernel
theorem dL_law_1254 : decode cL_law 1254 = .ok (.aload_n 0, 1) := by decide +kernel
theorem dL_law_1255 : decode cL_law 1255 = .ok (.iload 4, 2) := by decide +kernel
theorem dL_law_1257 : decode cL_law 1257 = .ok (.iconst 2, 1) := by decide +kernel
theorem dL_law_1258 : decode cL_law 1258 = .ok (.iadd, 1) := by decide +kernel
theorem dL_law_1259 : decode cL_law 1259 = .ok (.iaload, 1) := by decide +kernel
theorem dL_law_1260 : decode cL_law 1260 = .ok (.aload_n 0, 1) := by decide +kernel
theorem dL_law_1261 : decode cL_law 1261 = .ok (.iload 4, 2) := by decide +kernel
theorem dL_law_1263 : decode cL_law 1263 = .ok (.iconst 3, 1) := by decide +kernel
theorem dL_law_1264 : decode cL_law 1264 = .ok (.iadd, 1) := by decide +kernel
theorem dL_law_1265 : decode cL_law 1265 = .ok (.iaload, 1) := by decide +kernel
theorem dL_law_1266 : decode cL_law 1266 = .ok (.aload_n 3, 1) := by decide +kernel
theorem dL_law_1267 : decode cL_law 1267 = .ok (.invokestatic 148, 3) := by decide +kernel
theorem dL_law_1270 : decode cL_law 1270 = .ok (.istore 5, 2) := by decide +kernel
theorem dL_law_1272 : decode cL_law 1272 = .ok (.aload_n 2, 1) := by decide +kernel
theorem dL_law_1273 : decode cL_law 1273 = .ok (.aload_n 0, 1) := by decide +kernel
theorem dL_law_1274 : decode cL_law 1274 = .ok (.iload 4, 2) := by decide +kernel
theorem dL_law_1276 : decode cL_law 1276 = .ok (.iconst 1, 1) := by decide +kernel
theorem dL_law_1277 : decode cL_law 1277 = .ok (.iadd, 1) := by decide +kernel
theorem dL_law_1278 : decode cL_law 1278 = .ok (.iaload, 1) := by decide +kernel
theorem dL_law_1279 : decode cL_law 1279 = .ok (.aload_n 0, 1) := by decide +kernel
theorem dL_law_1280 : decode cL_law 1280 = .ok (.iload 4, 2) := by decide +kernel
theorem dL_law_1282 : decode cL_law 1282 = .ok (.iconst 2, 1) := by decide +kernel
theorem dL_law_1283 : decode cL_law 1283 = .ok (.iadd, 1) := by decide +kernel
theorem dL_law_1284 : decode cL_law 1284 = .ok (.iaload, 1) := by decide +kernel
theorem dL_law_1285 : decode cL_law 1285 = .ok (.aload_n 0, 1) := by decide +kernel
theorem dL_law_1286 : decode cL_law 1286 = .ok (.iload 4, 2) := by decide +kernel
theorem dL_law_1288 : decode cL_law 1288 = .ok (.iconst 3, 1) := by decide +kernel
theorem dL_law_1289 : decode cL_law 1289 = .ok (.iadd, 1) := by decide +kernel
theorem dL_law_1290 : decode cL_law 1290 = .ok (.iaload, 1) := by decide +kernel
theorem dL_law_1291 : decode cL_law 1291 = .ok (.invokevirtual 150, 3) := by decide +kernel
theorem dL_law_1294 : decode cL_law 1294 = .ok (.istore 6, 2) := by decide +kernel
theorem dL_law_1296 : decode cL_law 1296 = .ok (.aload_n 2, 1) := by decide +kernel
theorem dL_law_1297 : decode cL_law 1297 = .ok (.invokevirtual 98, 3) := by decide +kernel
theorem dL_law_1300 : decode cL_law 1300 = .ok (.iload 5, 2) := by decide +kernel
theorem dL_law_1302 : decode cL_law 1302 = .ok (.if_icmp .eq 5, 3) := by decide +kernel
theorem dL_law_1305 : decode cL_law 1305 = .ok (.iconst 0, 1) := by decide +kernel
theorem dL_law_1306 : decode cL_law 1306 = .ok (.ireturn, 1) := by decide +kernel
theorem dL_law_1307 : decode cL_law 1307 = .ok (.iload 5, 2) := by decide +kernel
theorem dL_law_1309 : decode cL_law 1309 = .ok (.ifCond .ne 15, 3) := by decide +kernel
theorem dL_law_1312 : decode cL_law 1312 = .ok (.aload_n 3, 1) := by decide +kernel
theorem dL_law_1313 : decode cL_law 1313 = .ok (.iconst 0, 1) := by decide +kernel
theorem dL_law_1314 : decode cL_law 1314 = .ok (.laload, 1) := by decide +kernel
theorem dL_law_1315 : decode cL_law 1315 = .ok (.iload 6, 2) := by decide +kernel
theorem dL_law_1317 : decode cL_law 1317 = .ok (.i2l, 1) := by decide +kernel
theorem dL_law_1318 : decode cL_law 1318 = .ok (.lcmp, 1) := by decide +kernel
theorem dL_law_1319 : decode cL_law 1319 = .ok (.ifCond .eq 5, 3) := by decide +kernel
theorem dL_law_1322 : decode cL_law 1322 = .ok (.iconst 0, 1) := by decide +kernel
theorem dL_law_1323 : decode cL_law 1323 = .ok (.ireturn, 1) := by decide +kernel
theorem dL_law_1324 : decode cL_law 1324 = .ok (.goto 524, 3) := by decide +kernel
theorem dL_law_1327 : decode cL_law 1327 = .ok (.aload_n 1, 1) := by decide +kernel
theorem dL_law_1328 : decode cL_law 1328 = .ok (.aload_n 0, 1) := by decide +kernel
theorem dL_law_1329 : decode cL_law 1329 = .ok (.iload 4, 2) := by decide +kernel
theorem dL_law_1331 : decode cL_law 1331 = .ok (.iconst 1, 1) := by decide +kernel
theorem dL_law_1332 : decode cL_law 1332 = .ok (.iadd, 1) := by decide +kernel
theorem dL_law_1333 : decode cL_law 1333 = .ok (.iaload, 1) := by decide +kernel
theorem dL_law_1334 : decode cL_law 1334 = .ok (.aload_n 0, 1) := by decide +kernel
theorem dL_law_1335 : decode cL_law 1335 = .ok (.iload 4, 2) := by decide +kernel
theorem dL_law_1337 : decode cL_law 1337 = .ok (.iconst 2, 1) := by decide +kernel
theorem dL_law_1338 : decode cL_law 1338 = .ok (.iadd, 1) := by decide +kernel
theorem dL_law_1339 : decode cL_law 1339 = .ok (.iaload, 1) := by decide +kernel
theorem dL_law_1340 : decode cL_law 1340 = .ok (.ifCond .eq 7, 3) := by decide +kernel
theorem dL_law_1343 : decode cL_law 1343 = .ok (.iconst 1, 1) := by decide +kernel
theorem dL_law_1344 : decode cL_law 1344 = .ok (.goto 4, 3) := by decide +kernel
theorem dL_law_1347 : decode cL_law 1347 = .ok (.iconst 0, 1) := by decide +kernel
theorem dL_law_1348 : decode cL_law 1348 = .ok (.aload_n 3, 1) := by decide +kernel
theorem dL_law_1349 : decode cL_law 1349 = .ok (.invokestatic 151, 3) := by decide +kernel
theorem dL_law_1352 : decode cL_law 1352 = .ok (.istore 5, 2) := by decide +kernel
theorem dL_law_1354 : decode cL_law 1354 = .ok (.aload_n 2, 1) := by decide +kernel
theorem dL_law_1355 : decode cL_law 1355 = .ok (.aload_n 0, 1) := by decide +kernel
theorem dL_law_1356 : decode cL_law 1356 = .ok (.iload 4, 2) := by decide +kernel
theorem dL_law_1358 : decode cL_law 1358 = .ok (.iconst 1, 1) := by decide +kernel
theorem dL_law_1359 : decode cL_law 1359 = .ok (.iadd, 1) := by decide +kernel
theorem dL_law_1360 : decode cL_law 1360 = .ok (.iaload, 1) := by decide +kernel
theorem dL_law_1361 : decode cL_law 1361 = .ok (.aload_n 0, 1) := by decide +kernel
theorem dL_law_1362 : decode cL_law 1362 = .ok (.iload 4, 2) := by decide +kernel
theorem dL_law_1364 : decode cL_law 1364 = .ok (.iconst 2, 1) := by decide +kernel
theorem dL_law_1365 : decode cL_law 1365 = .ok (.iadd, 1) := by decide +kernel
theorem dL_law_1366 : decode cL_law 1366 = .ok (.iaload, 1) := by decide +kernel
theorem dL_law_1367 : decode cL_law 1367 = .ok (.ifCond .eq 7, 3) := by decide +kernel
theorem dL_law_1370 : decode cL_law 1370 = .ok (.iconst 1, 1) := by decide +kernel
theorem dL_law_1371 : decode cL_law 1371 = .ok (.goto 4, 3) := by decide +kernel
theorem dL_law_1374 : decode cL_law 1374 = .ok (.iconst 0, 1) := by decide +kernel
theorem dL_law_1375 : decode cL_law 1375 = .ok (.invokevirtual 154, 3) := by decide +kernel
theorem dL_law_1378 : decode cL_law 1378 = .ok (.istore 6, 2) := by decide +kernel
theorem dL_law_1380 : decode cL_law 1380 = .ok (.aload_n 2, 1) := by decide +kernel
theorem dL_law_1381 : decode cL_law 1381 = .ok (.invokevirtual 98, 3) := by decide +kernel
theorem dL_law_1384 : decode cL_law 1384 = .ok (.iload 5, 2) := by decide +kernel
theorem dL_law_1386 : decode cL_law 1386 = .ok (.if_icmp .eq 5, 3) := by decide +kernel
theorem dL_law_1389 : decode cL_law 1389 = .ok (.iconst 0, 1) := by decide +kernel
theorem dL_law_1390 : decode cL_law 1390 = .ok (.ireturn, 1) := by decide +kernel
theorem dL_law_1391 : decode cL_law 1391 = .ok (.iload 5, 2) := by decide +kernel
theorem dL_law_1393 : decode cL_law 1393 = .ok (.ifCond .ne 15, 3) := by decide +kernel
theorem dL_law_1396 : decode cL_law 1396 = .ok (.aload_n 3, 1) := by decide +kernel
theorem dL_law_1397 : decode cL_law 1397 = .ok (.iconst 0, 1) := by decide +kernel
theorem dL_law_1398 : decode cL_law 1398 = .ok (.laload, 1) := by decide +kernel
theorem dL_law_1399 : decode cL_law 1399 = .ok (.iload 6, 2) := by decide +kernel
theorem dL_law_1401 : decode cL_law 1401 = .ok (.i2l, 1) := by decide +kernel
theorem dL_law_1402 : decode cL_law 1402 = .ok (.lcmp, 1) := by decide +kernel
theorem dL_law_1403 : decode cL_law 1403 = .ok (.ifCond .eq 5, 3) := by decide +kernel
theorem dL_law_1406 : decode cL_law 1406 = .ok (.iconst 0, 1) := by decide +kernel
theorem dL_law_1407 : decode cL_law 1407 = .ok (.ireturn, 1) := by decide +kernel
theorem dL_law_1408 : decode cL_law 1408 = .ok (.goto 440, 3) := by decide +kernel
theorem dL_law_1411 : decode cL_law 1411 = .ok (.aload_n 1, 1) := by decide +kernel
theorem dL_law_1412 : decode cL_law 1412 = .ok (.aload_n 0, 1) := by decide +kernel
theorem dL_law_1413 : decode cL_law 1413 = .ok (.iload 4, 2) := by decide +kernel
theorem dL_law_1415 : decode cL_law 1415 = .ok (.iconst 1, 1) := by decide +kernel
theorem dL_law_1416 : decode cL_law 1416 = .ok (.iadd, 1) := by decide +kernel
theorem dL_law_1417 : decode cL_law 1417 = .ok (.iaload, 1) := by decide +kernel
theorem dL_law_1418 : decode cL_law 1418 = .ok (.aload_n 3, 1) := by decide +kernel
theorem dL_law_1419 : decode cL_law 1419 = .ok (.invokestatic 155, 3) := by decide +kernel
theorem dL_law_1422 : decode cL_law 1422 = .ok (.istore 5, 2) := by decide +kernel
theorem dL_law_1424 : decode cL_law 1424 = .ok (.aload_n 2, 1) := by decide +kernel
theorem dL_law_1425 : decode cL_law 1425 = .ok (.aload_n 0, 1) := by decide +kernel
theorem dL_law_1426 : decode cL_law 1426 = .ok (.iload 4, 2) := by decide +kernel
theorem dL_law_1428 : decode cL_law 1428 = .ok (.iconst 1, 1) := by decide +kernel
theorem dL_law_1429 : decode cL_law 1429 = .ok (.iadd, 1) := by decide +kernel
theorem dL_law_1430 : decode cL_law 1430 = .ok (.iaload, 1) := by decide +kernel
theorem dL_law_1431 : decode cL_law 1431 = .ok (.invokevirtual 157, 3) := by decide +kernel
theorem dL_law_1434 : decode cL_law 1434 = .ok (.istore 6, 2) := by decide +kernel
theorem dL_law_1436 : decode cL_law 1436 = .ok (.aload_n 2, 1) := by decide +kernel
theorem dL_law_1437 : decode cL_law 1437 = .ok (.invokevirtual 98, 3) := by decide +kernel
theorem dL_law_1440 : decode cL_law 1440 = .ok (.iload 5, 2) := by decide +kernel
theorem dL_law_1442 : decode cL_law 1442 = .ok (.if_icmp .eq 5, 3) := by decide +kernel
theorem dL_law_1445 : decode cL_law 1445 = .ok (.iconst 0, 1) := by decide +kernel
theorem dL_law_1446 : decode cL_law 1446 = .ok (.ireturn, 1) := by decide +kernel
theorem dL_law_1447 : decode cL_law 1447 = .ok (.iload 5, 2) := by decide +kernel
theorem dL_law_1449 : decode cL_law 1449 = .ok (.ifCond .ne 15, 3) := by decide +kernel
theorem dL_law_1452 : decode cL_law 1452 = .ok (.aload_n 3, 1) := by decide +kernel
theorem dL_law_1453 : decode cL_law 1453 = .ok (.iconst 0, 1) := by decide +kernel
theorem dL_law_1454 : decode cL_law 1454 = .ok (.laload, 1) := by decide +kernel
theorem dL_law_1455 : decode cL_law 1455 = .ok (.iload 6, 2) := by decide +kernel
theorem dL_law_1457 : decode cL_law 1457 = .ok (.i2l, 1) := by decide +kernel
theorem dL_law_1458 : decode cL_law 1458 = .ok (.lcmp, 1) := by decide +kernel
theorem dL_law_1459 : decode cL_law 1459 = .ok (.ifCond .eq 5, 3) := by decide +kernel
theorem dL_law_1462 : decode cL_law 1462 = .ok (.iconst 0, 1) := by decide +kernel
theorem dL_law_1463 : decode cL_law 1463 = .ok (.ireturn, 1) := by decide +kernel
theorem dL_law_1464 : decode cL_law 1464 = .ok (.goto 384, 3) := by decide +kernel
theorem dL_law_1467 : decode cL_law 1467 = .ok (.aload_n 1, 1) := by decide +kernel
theorem dL_law_1468 : decode cL_law 1468 = .ok (.aload_n 0, 1) := by decide +kernel
theorem dL_law_1469 : decode cL_law 1469 = .ok (.iload 4, 2) := by decide +kernel
theorem dL_law_1471 : decode cL_law 1471 = .ok (.iconst 1, 1) := by decide +kernel
theorem dL_law_1472 : decode cL_law 1472 = .ok (.iadd, 1) := by decide +kernel
theorem dL_law_1473 : decode cL_law 1473 = .ok (.iaload, 1) := by decide +kernel
theorem dL_law_1474 : decode cL_law 1474 = .ok (.aload_n 0, 1) := by decide +kernel
theorem dL_law_1475 : decode cL_law 1475 = .ok (.iload 4, 2) := by decide +kernel
theorem dL_law_1477 : decode cL_law 1477 = .ok (.iconst 2, 1) := by decide +kernel
theorem dL_law_1478 : decode cL_law 1478 = .ok (.iadd, 1) := by decide +kernel
theorem dL_law_1479 : decode cL_law 1479 = .ok (.iaload, 1) := by decide +kernel
theorem dL_law_1480 : decode cL_law 1480 = .ok (.aload_n 0, 1) := by decide +kernel
theorem dL_law_1481 : decode cL_law 1481 = .ok (.iload 4, 2) := by decide +kernel
theorem dL_law_1483 : decode cL_law 1483 = .ok (.iconst 3, 1) := by decide +kernel
theorem dL_law_1484 : decode cL_law 1484 = .ok (.iadd, 1) := by decide +kernel
theorem dL_law_1485 : decode cL_law 1485 = .ok (.iaload, 1) := by decide +kernel
theorem dL_law_1486 : decode cL_law 1486 = .ok (.aload_n 0, 1) := by decide +kernel
theorem dL_law_1487 : decode cL_law 1487 = .ok (.iload 4, 2) := by decide +kernel
theorem dL_law_1489 : decode cL_law 1489 = .ok (.iconst 4, 1) := by decide +kernel
theorem dL_law_1490 : decode cL_law 1490 = .ok (.iadd, 1) := by decide +kernel
theorem dL_law_1491 : decode cL_law 1491 = .ok (.iaload, 1) := by decide +kernel
theorem dL_law_1492 : decode cL_law 1492 = .ok (.aload_n 3, 1) := by decide +kernel
theorem dL_law_1493 : decode cL_law 1493 = .ok (.invokestatic 158, 3) := by decide +kernel
theorem dL_law_1496 : decode cL_law 1496 = .ok (.istore 5, 2) := by decide +kernel
theorem dL_law_1498 : decode cL_law 1498 = .ok (.aload_n 2, 1) := by decide +kernel
theorem dL_law_1499 : decode cL_law 1499 = .ok (.aload_n 0, 1) := by decide +kernel
theorem dL_law_1500 : decode cL_law 1500 = .ok (.iload 4, 2) := by decide +kernel
theorem dL_law_1502 : decode cL_law 1502 = .ok (.iconst 1, 1) := by decide +kernel
theorem dL_law_1503 : decode cL_law 1503 = .ok (.iadd, 1) := by decide +kernel
theorem dL_law_1504 : decode cL_law 1504 = .ok (.iaload, 1) := by decide +kernel
theorem dL_law_1505 : decode cL_law 1505 = .ok (.aload_n 0, 1) := by decide +kernel
theorem dL_law_1506 : decode cL_law 1506 = .ok (.iload 4, 2) := by decide +kernel
theorem dL_law_1508 : decode cL_law 1508 = .ok (.iconst 2, 1) := by decide +kernel
theorem dL_law_1509 : decode cL_law 1509 = .ok (.iadd, 1) := by decide +kernel
theorem dL_law_1510 : decode cL_law 1510 = .ok (.iaload, 1) := by decide +kernel
theorem dL_law_1511 : decode cL_law 1511 = .ok (.aload_n 0, 1) := by decide +kernel
theorem dL_law_1512 : decode cL_law 1512 = .ok (.iload 4, 2) := by decide +kernel
theorem dL_law_1514 : decode cL_law 1514 = .ok (.iconst 3, 1) := by decide +kernel
theorem dL_law_1515 : decode cL_law 1515 = .ok (.iadd, 1) := by decide +kernel
theorem dL_law_1516 : decode cL_law 1516 = .ok (.iaload, 1) := by decide +kernel
theorem dL_law_1517 : decode cL_law 1517 = .ok (.aload_n 0, 1) := by decide +kernel
theorem dL_law_1518 : decode cL_law 1518 = .ok (.iload 4, 2) := by decide +kernel
theorem dL_law_1520 : decode cL_law 1520 = .ok (.iconst 4, 1) := by decide +kernel
theorem dL_law_1521 : decode cL_law 1521 = .ok (.iadd, 1) := by decide +kernel
theorem dL_law_1522 : decode cL_law 1522 = .ok (.iaload, 1) := by decide +kernel
theorem dL_law_1523 : decode cL_law 1523 = .ok (.invokevirtual 160, 3) := by decide +kernel
theorem dL_law_1526 : decode cL_law 1526 = .ok (.istore 6, 2) := by decide +kernel
theorem dL_law_1528 : decode cL_law 1528 = .ok (.aload_n 2, 1) := by decide +kernel
theorem dL_law_1529 : decode cL_law 1529 = .ok (.invokevirtual 98, 3) := by decide +kernel
theorem dL_law_1532 : decode cL_law 1532 = .ok (.iload 5, 2) := by decide +kernel
theorem dL_law_1534 : decode cL_law 1534 = .ok (.if_icmp .eq 5, 3) := by decide +kernel
theorem dL_law_1537 : decode cL_law 1537 = .ok (.iconst 0, 1) := by decide +kernel
theorem dL_law_1538 : decode cL_law 1538 = .ok (.ireturn, 1) := by decide +kernel
theorem dL_law_1539 : decode cL_law 1539 = .ok (.iload 5, 2) := by decide +kernel
theorem dL_law_1541 : decode cL_law 1541 = .ok (.ifCond .ne 15, 3) := by decide +kernel
theorem dL_law_1544 : decode cL_law 1544 = .ok (.aload_n 3, 1) := by decide +kernel
theorem dL_law_1545 : decode cL_law 1545 = .ok (.iconst 0, 1) := by decide +kernel
theorem dL_law_1546 : decode cL_law 1546 = .ok (.laload, 1) := by decide +kernel
theorem dL_law_1547 : decode cL_law 1547 = .ok (.iload 6, 2) := by decide +kernel
theorem dL_law_1549 : decode cL_law 1549 = .ok (.i2l, 1) := by decide +kernel
theorem dL_law_1550 : decode cL_law 1550 = .ok (.lcmp, 1) := by decide +kernel
theorem dL_law_1551 : decode cL_law 1551 = .ok (.ifCond .eq 5, 3) := by decide +kernel
theorem dL_law_1554 : decode cL_law 1554 = .ok (.iconst 0, 1) := by decide +kernel
theorem dL_law_1555 : decode cL_law 1555 = .ok (.ireturn, 1) := by decide +kernel
theorem dL_law_1556 : decode cL_law 1556 = .ok (.goto 292, 3) := by decide +kernel
theorem dL_law_1559 : decode cL_law 1559 = .ok (.aload_n 1, 1) := by decide +kernel
theorem dL_law_1560 : decode cL_law 1560 = .ok (.aload_n 0, 1) := by decide +kernel
theorem dL_law_1561 : decode cL_law 1561 = .ok (.iload 4, 2) := by decide +kernel
theorem dL_law_1563 : decode cL_law 1563 = .ok (.iconst 1, 1) := by decide +kernel
theorem dL_law_1564 : decode cL_law 1564 = .ok (.iadd, 1) := by decide +kernel
theorem dL_law_1565 : decode cL_law 1565 = .ok (.iaload, 1) := by decide +kernel
theorem dL_law_1566 : decode cL_law 1566 = .ok (.aload_n 3, 1) := by decide +kernel
theorem dL_law_1567 : decode cL_law 1567 = .ok (.invokestatic 161, 3) := by decide +kernel
theorem dL_law_1570 : decode cL_law 1570 = .ok (.istore 5, 2) := by decide +kernel
theorem dL_law_1572 : decode cL_law 1572 = .ok (.aload_n 2, 1) := by decide +kernel
theorem dL_law_1573 : decode cL_law 1573 = .ok (.aload_n 0, 1) := by decide +kernel
theorem dL_law_1574 : decode cL_law 1574 = .ok (.iload 4, 2) := by decide +kernel
theorem dL_law_1576 : decode cL_law 1576 = .ok (.iconst 1, 1) := by decide +kernel
theorem dL_law_1577 : decode cL_law 1577 = .ok (.iadd, 1) := by decide +kernel
theorem dL_law_1578 : decode cL_law 1578 = .ok (.iaload, 1) := by decide +kernel
theorem dL_law_1579 : decode cL_law 1579 = .ok (.invokevirtual 163, 3) := by decide +kernel
theorem dL_law_1582 : decode cL_law 1582 = .ok (.istore 6, 2) := by decide +kernel
theorem dL_law_1584 : decode cL_law 1584 = .ok (.aload_n 2, 1) := by decide +kernel
theorem dL_law_1585 : decode cL_law 1585 = .ok (.invokevirtual 98, 3) := by decide +kernel
theorem dL_law_1588 : decode cL_law 1588 = .ok (.iload 5, 2) := by decide +kernel
theorem dL_law_1590 : decode cL_law 1590 = .ok (.if_icmp .eq 5, 3) := by decide +kernel
theorem dL_law_1593 : decode cL_law 1593 = .ok (.iconst 0, 1) := by decide +kernel
theorem dL_law_1594 : decode cL_law 1594 = .ok (.ireturn, 1) := by decide +kernel
theorem dL_law_1595 : decode cL_law 1595 = .ok (.iload 5, 2) := by decide +kernel
theorem dL_law_1597 : decode cL_law 1597 = .ok (.ifCond .ne 15, 3) := by decide +kernel
theorem dL_law_1600 : decode cL_law 1600 = .ok (.aload_n 3, 1) := by decide +kernel
theorem dL_law_1601 : decode cL_law 1601 = .ok (.iconst 0, 1) := by decide +kernel
theorem dL_law_1602 : decode cL_law 1602 = .ok (.laload, 1) := by decide +kernel
theorem dL_law_1603 : decode cL_law 1603 = .ok (.iload 6, 2) := by decide +kernel
theorem dL_law_1605 : decode cL_law 1605 = .ok (.i2l, 1) := by decide +kernel
theorem dL_law_1606 : decode cL_law 1606 = .ok (.lcmp, 1) := by decide +kernel
theorem dL_law_1607 : decode cL_law 1607 = .ok (.ifCond .eq 5, 3) := by decide +kernel
theorem dL_law_1610 : decode cL_law 1610 = .ok (.iconst 0, 1) := by decide +kernel
theorem dL_law_1611 : decode cL_law 1611 = .ok (.ireturn, 1) := by decide +kernel
theorem dL_law_1612 : decode cL_law 1612 = .ok (.goto 236, 3) := by decide +kernel
theorem dL_law_1615 : decode cL_law 1615 = .ok (.aload_n 1, 1) := by decide +kernel
theorem dL_law_1616 : decode cL_law 1616 = .ok (.aload_n 0, 1) := by decide +kernel
theorem dL_law_1617 : decode cL_law 1617 = .ok (.iload 4, 2) := by decide +kernel
theorem dL_law_1619 : decode cL_law 1619 = .ok (.iconst 1, 1) := by decide +kernel
theorem dL_law_1620 : decode cL_law 1620 = .ok (.iadd, 1) := by decide +kernel
theorem dL_law_1621 : decode cL_law 1621 = .ok (.iaload, 1) := by decide +kernel
theorem dL_law_1622 : decode cL_law 1622 = .ok (.aload_n 3, 1) := by decide +kernel
theorem dL_law_1623 : decode cL_law 1623 = .ok (.invokestatic 164, 3) := by decide +kernel
theorem dL_law_1626 : decode cL_law 1626 = .ok (.istore 5, 2) := by decide +kernel
theorem dL_law_1628 : decode cL_law 1628 = .ok (.aload_n 2, 1) := by decide +kernel
theorem dL_law_1629 : decode cL_law 1629 = .ok (.aload_n 0, 1) := by decide +kernel
theorem dL_law_1630 : decode cL_law 1630 = .ok (.iload 4, 2) := by decide +kernel
theorem dL_law_1632 : decode cL_law 1632 = .ok (.iconst 1, 1) := by decide +kernel
theorem dL_law_1633 : decode cL_law 1633 = .ok (.iadd, 1) := by decide +kernel
theorem dL_law_1634 : decode cL_law 1634 = .ok (.iaload, 1) := by decide +kernel
theorem dL_law_1635 : decode cL_law 1635 = .ok (.invokevirtual 166, 3) := by decide +kernel
theorem dL_law_1638 : decode cL_law 1638 = .ok (.istore 6, 2) := by decide +kernel
theorem dL_law_1640 : decode cL_law 1640 = .ok (.aload_n 2, 1) := by decide +kernel
theorem dL_law_1641 : decode cL_law 1641 = .ok (.invokevirtual 98, 3) := by decide +kernel
theorem dL_law_1644 : decode cL_law 1644 = .ok (.iload 5, 2) := by decide +kernel
theorem dL_law_1646 : decode cL_law 1646 = .ok (.if_icmp .eq 5, 3) := by decide +kernel
theorem dL_law_1649 : decode cL_law 1649 = .ok (.iconst 0, 1) := by decide +kernel
theorem dL_law_1650 : decode cL_law 1650 = .ok (.ireturn, 1) := by decide +kernel
theorem dL_law_1651 : decode cL_law 1651 = .ok (.iload 5, 2) := by decide +kernel
theorem dL_law_1653 : decode cL_law 1653 = .ok (.ifCond .ne 15, 3) := by decide +kernel
theorem dL_law_1656 : decode cL_law 1656 = .ok (.aload_n 3, 1) := by decide +kernel
theorem dL_law_1657 : decode cL_law 1657 = .ok (.iconst 0, 1) := by decide +kernel
theorem dL_law_1658 : decode cL_law 1658 = .ok (.laload, 1) := by decide +kernel
theorem dL_law_1659 : decode cL_law 1659 = .ok (.iload 6, 2) := by decide +kernel
theorem dL_law_1661 : decode cL_law 1661 = .ok (.i2l, 1) := by decide +kernel
theorem dL_law_1662 : decode cL_law 1662 = .ok (.lcmp, 1) := by decide +kernel
theorem dL_law_1663 : decode cL_law 1663 = .ok (.ifCond .eq 5, 3) := by decide +kernel
theorem dL_law_1666 : decode cL_law 1666 = .ok (.iconst 0, 1) := by decide +kernel
theorem dL_law_1667 : decode cL_law 1667 = .ok (.ireturn, 1) := by decide +kernel
theorem dL_law_1668 : decode cL_law 1668 = .ok (.goto 180, 3) := by decide +kernel
theorem dL_law_1671 : decode cL_law 1671 = .ok (.aload_n 1, 1) := by decide +kernel
theorem dL_law_1672 : decode cL_law 1672 = .ok (.aload_n 0, 1) := by decide +kernel
theorem dL_law_1673 : decode cL_law 1673 = .ok (.iload 4, 2) := by decide +kernel
theorem dL_law_1675 : decode cL_law 1675 = .ok (.iconst 1, 1) := by decide +kernel
theorem dL_law_1676 : decode cL_law 1676 = .ok (.iadd, 1) := by decide +kernel
theorem dL_law_1677 : decode cL_law 1677 = .ok (.iaload, 1) := by decide +kernel
theorem dL_law_1678 : decode cL_law 1678 = .ok (.aload_n 0, 1) := by decide +kernel
theorem dL_law_1679 : decode cL_law 1679 = .ok (.iload 4, 2) := by decide +kernel
theorem dL_law_1681 : decode cL_law 1681 = .ok (.iconst 2, 1) := by decide +kernel
theorem dL_law_1682 : decode cL_law 1682 = .ok (.iadd, 1) := by decide +kernel
theorem dL_law_1683 : decode cL_law 1683 = .ok (.iaload, 1) := by decide +kernel
theorem dL_law_1684 : decode cL_law 1684 = .ok (.aload_n 3, 1) := by decide +kernel
theorem dL_law_1685 : decode cL_law 1685 = .ok (.invokestatic 167, 3) := by decide +kernel
theorem dL_law_1688 : decode cL_law 1688 = .ok (.istore 5, 2) := by decide +kernel
theorem dL_law_1690 : decode cL_law 1690 = .ok (.aload_n 2, 1) := by decide +kernel
theorem dL_law_1691 : decode cL_law 1691 = .ok (.aload_n 0, 1) := by decide +kernel
theorem dL_law_1692 : decode cL_law 1692 = .ok (.iload 4, 2) := by decide +kernel
theorem dL_law_1694 : decode cL_law 1694 = .ok (.iconst 1, 1) := by decide +kernel
theorem dL_law_1695 : decode cL_law 1695 = .ok (.iadd, 1) := by decide +kernel
theorem dL_law_1696 : decode cL_law 1696 = .ok (.iaload, 1) := by decide +kernel
theorem dL_law_1697 : decode cL_law 1697 = .ok (.aload_n 0, 1) := by decide +kernel
theorem dL_law_1698 : decode cL_law 1698 = .ok (.iload 4, 2) := by decide +kernel
theorem dL_law_1700 : decode cL_law 1700 = .ok (.iconst 2, 1) := by decide +kernel
theorem dL_law_1701 : decode cL_law 1701 = .ok (.iadd, 1) := by decide +kernel
theorem dL_law_1702 : decode cL_law 1702 = .ok (.iaload, 1) := by decide +kernel
theorem dL_law_1703 : decode cL_law 1703 = .ok (.invokevirtual 169, 3) := by decide +kernel
theorem dL_law_1706 : decode cL_law 1706 = .ok (.istore 6, 2) := by decide +kernel
theorem dL_law_1708 : decode cL_law 1708 = .ok (.aload_n 2, 1) := by decide +kernel
theorem dL_law_1709 : decode cL_law 1709 = .ok (.invokevirtual 98, 3) := by decide +kernel
theorem dL_law_1712 : decode cL_law 1712 = .ok (.iload 5, 2) := by decide +kernel
theorem dL_law_1714 : decode cL_law 1714 = .ok (.if_icmp .eq 5, 3) := by decide +kernel
theorem dL_law_1717 : decode cL_law 1717 = .ok (.iconst 0, 1) := by decide +kernel
theorem dL_law_1718 : decode cL_law 1718 = .ok (.ireturn, 1) := by decide +kernel
theorem dL_law_1719 : decode cL_law 1719 = .ok (.iload 5, 2) := by decide +kernel
theorem dL_law_1721 : decode cL_law 1721 = .ok (.ifCond .ne 15, 3) := by decide +kernel
theorem dL_law_1724 : decode cL_law 1724 = .ok (.aload_n 3, 1) := by decide +kernel
theorem dL_law_1725 : decode cL_law 1725 = .ok (.iconst 0, 1) := by decide +kernel
theorem dL_law_1726 : decode cL_law 1726 = .ok (.laload, 1) := by decide +kernel
theorem dL_law_1727 : decode cL_law 1727 = .ok (.iload 6, 2) := by decide +kernel
theorem dL_law_1729 : decode cL_law 1729 = .ok (.i2l, 1) := by decide +kernel
theorem dL_law_1730 : decode cL_law 1730 = .ok (.lcmp, 1) := by decide +kernel
theorem dL_law_1731 : decode cL_law 1731 = .ok (.ifCond .eq 5, 3) := by decide +kernel
theorem dL_law_1734 : decode cL_law 1734 = .ok (.iconst 0, 1) := by decide +kernel
theorem dL_law_1735 : decode cL_law 1735 = .ok (.ireturn, 1) := by decide +kernel
theorem dL_law_1736 : decode cL_law 1736 = .ok (.goto 112, 3) := by decide +kernel
theorem dL_law_1739 : decode cL_law 1739 = .ok (.aload_n 1, 1) := by decide +kernel
theorem dL_law_1740 : decode cL_law 1740 = .ok (.invokevirtual 170, 3) := by decide +kernel
theorem dL_law_1743 : decode cL_law 1743 = .ok (.aload_n 2, 1) := by decide +kernel
theorem dL_law_1744 : decode cL_law 1744 = .ok (.invokevirtual 173, 3) := by decide +kernel
theorem dL_law_1747 : decode cL_law 1747 = .ok (.if_icmp .eq 101, 3) := by decide +kernel
theorem dL_law_1750 : decode cL_law 1750 = .ok (.iconst 0, 1) := by decide +kernel
theorem dL_law_1751 : decode cL_law 1751 = .ok (.ireturn, 1) := by decide +kernel
theorem dL_law_1752 : decode cL_law 1752 = .ok (.aload_n 1, 1) := by decide +kernel
theorem dL_law_1753 : decode cL_law 1753 = .ok (.aload_n 0, 1) := by decide +kernel
theorem dL_law_1754 : decode cL_law 1754 = .ok (.iload 4, 2) := by decide +kernel
theorem dL_law_1756 : decode cL_law 1756 = .ok (.iconst 1, 1) := by decide +kernel
theorem dL_law_1757 : decode cL_law 1757 = .ok (.iadd, 1) := by decide +kernel
theorem dL_law_1758 : decode cL_law 1758 = .ok (.iaload, 1) := by decide +kernel
theorem dL_law_1759 : decode cL_law 1759 = .ok (.ifCond .eq 7, 3) := by decide +kernel
theorem dL_law_1762 : decode cL_law 1762 = .ok (.iconst 1, 1) := by decide +kernel
theorem dL_law_1763 : decode cL_law 1763 = .ok (.goto 4, 3) := by decide +kernel
theorem dL_law_1766 : decode cL_law 1766 = .ok (.iconst 0, 1) := by decide +kernel
theorem dL_law_1767 : decode cL_law 1767 = .ok (.invokevirtual 174, 3) := by decide +kernel
theorem dL_law_1770 : decode cL_law 1770 = .ok (.aload_n 2, 1) := by decide +kernel
theorem dL_law_1771 : decode cL_law 1771 = .ok (.aload_n 0, 1) := by decide +kernel
theorem dL_law_1772 : decode cL_law 1772 = .ok (.iload 4, 2) := by decide +kernel
theorem dL_law_1774 : decode cL_law 1774 = .ok (.iconst 1, 1) := by decide +kernel
theorem dL_law_1775 : decode cL_law 1775 = .ok (.iadd, 1) := by decide +kernel
theorem dL_law_1776 : decode cL_law 1776 = .ok (.iaload, 1) := by decide +kernel
theorem dL_law_1777 : decode cL_law 1777 = .ok (.ifCond .eq 7, 3) := by decide +kernel
theorem dL_law_1780 : decode cL_law 1780 = .ok (.iconst 1, 1) := by decide +kernel
theorem dL_law_1781 : decode cL_law 1781 = .ok (.goto 4, 3) := by decide +kernel
theorem dL_law_1784 : decode cL_law 1784 = .ok (.iconst 0, 1) := by decide +kernel
theorem dL_law_1785 : decode cL_law 1785 = .ok (.invokevirtual 178, 3) := by decide +kernel
theorem dL_law_1788 : decode cL_law 1788 = .ok (.if_icmp .eq 60, 3) := by decide +kernel
theorem dL_law_1791 : decode cL_law 1791 = .ok (.iconst 0, 1) := by decide +kernel
theorem dL_law_1792 : decode cL_law 1792 = .ok (.ireturn, 1) := by decide +kernel
theorem dL_law_1793 : decode cL_law 1793 = .ok (.aload_n 1, 1) := by decide +kernel
theorem dL_law_1794 : decode cL_law 1794 = .ok (.invokevirtual 179, 3) := by decide +kernel
theorem dL_law_1797 : decode cL_law 1797 = .ok (.dstore 5, 2) := by decide +kernel
theorem dL_law_1799 : decode cL_law 1799 = .ok (.aload_n 2, 1) := by decide +kernel
theorem dL_law_1800 : decode cL_law 1800 = .ok (.invokevirtual 183, 3) := by decide +kernel
theorem dL_law_1803 : decode cL_law 1803 = .ok (.dstore 7, 2) := by decide +kernel
theorem dL_law_1805 : decode cL_law 1805 = .ok (.dload 5, 2) := by decide +kernel
theorem dL_law_1807 : decode cL_law 1807 = .ok (.dload 7, 2) := by decide +kernel
theorem dL_law_1809 : decode cL_law 1809 = .ok (.dcmp .l, 1) := by decide +kernel
theorem dL_law_1810 : decode cL_law 1810 = .ok (.ifCond .eq 21, 3) := by decide +kernel
theorem dL_law_1813 : decode cL_law 1813 = .ok (.dload 5, 2) := by decide +kernel
theorem dL_law_1815 : decode cL_law 1815 = .ok (.dload 5, 2) := by decide +kernel
theorem dL_law_1817 : decode cL_law 1817 = .ok (.dcmp .l, 1) := by decide +kernel
theorem dL_law_1818 : decode cL_law 1818 = .ok (.ifCond .eq 11, 3) := by decide +kernel
theorem dL_law_1821 : decode cL_law 1821 = .ok (.dload 7, 2) := by decide +kernel
theorem dL_law_1823 : decode cL_law 1823 = .ok (.dload 7, 2) := by decide +kernel
theorem dL_law_1825 : decode cL_law 1825 = .ok (.dcmp .l, 1) := by decide +kernel
theorem dL_law_1826 : decode cL_law 1826 = .ok (.ifCond .ne 5, 3) := by decide +kernel
theorem dL_law_1829 : decode cL_law 1829 = .ok (.iconst 0, 1) := by decide +kernel
theorem dL_law_1830 : decode cL_law 1830 = .ok (.ireturn, 1) := by decide +kernel
theorem dL_law_1831 : decode cL_law 1831 = .ok (.goto 17, 3) := by decide +kernel
theorem dL_law_1834 : decode cL_law 1834 = .ok (.aload_n 1, 1) := by decide +kernel
theorem dL_law_1835 : decode cL_law 1835 = .ok (.invokevirtual 184, 3) := by decide +kernel
theorem dL_law_1838 : decode cL_law 1838 = .ok (.aload_n 2, 1) := by decide +kernel
theorem dL_law_1839 : decode cL_law 1839 = .ok (.invokevirtual 188, 3) := by decide +kernel
theorem dL_law_1842 : decode cL_law 1842 = .ok (.lcmp, 1) := by decide +kernel
theorem dL_law_1843 : decode cL_law 1843 = .ok (.ifCond .eq 5, 3) := by decide +kernel
theorem dL_law_1846 : decode cL_law 1846 = .ok (.iconst 0, 1) := by decide +kernel
theorem dL_law_1847 : decode cL_law 1847 = .ok (.ireturn, 1) := by decide +kernel
theorem dL_law_1848 : decode cL_law 1848 = .ok (.iinc 4 5, 3) := by decide +kernel
theorem dL_law_1851 : decode cL_law 1851 = .ok (.goto (-1828), 3) := by decide +kernel
theorem dL_law_1854 : decode cL_law 1854 = .ok (.iconst 1, 1) := by decide +kernel
theorem dL_law_1855 : decode cL_law 1855 = .ok (.ireturn, 1) := by decide +kernel
end
section
/-! THE WALKER'S BASE: one bundle of what stays the same in a method's walk, and a row an instruction over it. -/
def WW : List Cond := lw_tbl.filter goodWord
theorem ww_in (i : Nat) {w : Cond} (h : lw_tbl[i]? = some w) (hg : goodWord w = true) : w ∈ WW := List.mem_filter.mpr ⟨List.mem_of_getElem? h, hg⟩
theorem ww_good {w : Cond} (h : w ∈ WW) : w ∈ lw_tbl ∧ ((w.onTables && w.keeps) = true ∨ ∃ ty, w = .arrayClass ty) := ⟨(List.mem_filter.mp h).1, good_of_word (List.mem_filter.mp h).2⟩
abbrev aK : Type := va_G × Nat × ClassId × ClassId × ClassId
abbrev kD (κ : aK) : va_G := κ.1
abbrev kB (κ : aK) : Nat := κ.2.1
abbrev kI (κ : aK) : ClassId := κ.2.2.1
abbrev kJ (κ : aK) : ClassId := κ.2.2.2.1
abbrev kZ (κ : aK) : ClassId := κ.2.2.2.2
abbrev kA (κ : aK) : Nat → Prop := fun q => kB κ ≤ q
abbrev kT (κ : aK) : List (ClassId × FieldType) := [(kI κ, .int), (kJ κ, .long), (kZ κ, .boolean)]
def nestF : List (String × Nat × String × String × String) := []
def nestM : List (String × Nat × MethodName × String) := [(RX5, 9, yX4_init, RX5), (RX5, 18, yX3_init, RX5), (RX5, 25, yX2_init, RX5), (RX5, 32, yX1_init, RX5), (RX5, 39, yX0_init, RX5), (RX2, 40, yX5_has, RX5), (RX2, 97, yX5_bit, RX5), (RX0, 46, yX5_has, RX5), (RX4, 32, yX5_bit, RX5)]
def nxS : List (String × Nat × String) := [(RX5, 305, "nothing is told under this number"), (RX5, 298, "there is no such unit"), (RX5, 301, "there is no such relation"), (RX5, 303, "there is no such find"), (RX5, 50, "a unit's sort is 0 to 3"), (RX5, 61, "there are 40 units"), (RX5, 71, "a relation's kind is 0 to 4"), (RX5, 78, "there are 80 relations"), (RX5, 307, "a level or an index is 0 to 39"), (RX5, 188, "a place on the way is 0 to 39"), (RX5, 193, "a find's sort is 0 to 9"), (RX5, 309, "a year is -5000 to 2000"), (RX5, 198, "a find's first year is not greater than its last one"), (RX5, 200, "there are 60 finds"), (RX5, 311, "x and y are 0 to 5000"), (RX5, 313, "z is -1000 to 1000"), (RX5, 247, "the sort looked for is -1 to 9"), (RX5, 256, "this unit cannot be dug now"), (RX5, 265, "a phase is 0 to 20")]
def nxN : List (String × String) := [("java/lang/IllegalArgumentException", "java/lang/IllegalStateException"), ("java/lang/IllegalArgumentException", "java/lang/IndexOutOfBoundsException"), ("java/lang/IllegalStateException", "java/lang/IllegalArgumentException"), ("java/lang/IllegalStateException", "java/lang/IndexOutOfBoundsException"), ("java/lang/IndexOutOfBoundsException", "java/lang/IllegalArgumentException"), ("java/lang/IndexOutOfBoundsException", "java/lang/IllegalStateException")]
def NX (κ : aK) (U : State) : Prop := (∀ t ∈ nestM, va_Nw (.methodLinkNest t.1 t.2.1 t.2.2.1 t.2.2.2) U) ∧ vx_Zq Bundle.tN "UNASSIGNED_STACK" Bundle.steD (kA κ) U U.heap ∧ vx_Zq Bundle.tN "SUPPRESSED_SENTINEL" Bundle.listD (kA κ) U U.heap ∧ (∀ t ∈ nxS, ∃ sa, vk_R t.1 t.2.1 t.2.2 sa U) ∧ (∀ t ∈ nxN, va_Nc t.1 t.2 U)
theorem NX.calling {κ : aK} {U : State} (g : JFrame) (mk : MethodId) (a : Array Value) (h : NX κ U) : NX κ (U.calling g mk a) := by
  obtain ⟨h1, h2, h3, h4, h5⟩ := h
  refine ⟨fun t ht => va_Nw.same (u := U) rfl rfl (h1 t ht), vx_Zq.moved (u := U) (Vm.Alike.refl U.vm) h2, vx_Zq.moved (u := U) (Vm.Alike.refl U.vm) h3, fun t ht => ?_, fun t ht => ?_⟩
  · obtain ⟨sa, q⟩ := h4 t ht
    exact ⟨sa, vk_R.same (u := U) rfl q⟩
  · exact h5 t ht
theorem va_Nc.warm {C T : String} {s U : State} (hW : s.WarmedH U.vm) (h : va_Nc C T s) : va_Nc C T U := by
  obtain ⟨c, t, h1, h2, h3⟩ := h
  exact ⟨c, t, by rw [hW.alike.findClass]; exact h1, by rw [hW.alike.findClass]; exact h2, by rw [hW.alike.assignable]; exact h3⟩
theorem NX.warm {κ : aK} {s U : State} {H : Heap} {locs : List Loc} (hW : s.WarmedH U.vm) (hU : U.heap = H) (hS : va_S (kA κ) s.heap H locs) (h : NX κ s) : NX κ U := by
  obtain ⟨h1, h2, h3, h4, h5⟩ := h
  refine ⟨fun t ht => va_Nw.warmM hW (h1 t ht), ?_, ?_, fun t ht => ?_, fun t ht => va_Nc.warm hW (h5 t ht)⟩
  · rw [hU]; exact vx_Zq.moved hW.alike (h2.kept hS.2.1)
  · rw [hU]; exact vx_Zq.moved hW.alike (h3.kept hS.2.1)
  · obtain ⟨sa, q⟩ := h4 t ht
    exact ⟨sa, vk_R.warm hW q⟩
/-- what a method finds: the world w, at addresses from kB on, and what the tables say -/
def aPre (κ : aK) (w : va_W) (U : State) : Prop := kB κ ≤ U.heap.size ∧ va_P (kD κ) vwCl w U.heap ∧ va_D (kA κ) w ∧ va_K (kD κ) vwCl (kT κ) U ∧ NX κ U
/-- what a method leaves: an answer and a world -/
def aQ (κ : aK) (P : Option Value → va_W → Prop) : Array Value → State → Outcome → State → Prop := fun _ st oc t => (∃ (ro : Option Value) (w : va_W), oc = .returned ro ∧ P ro w ∧ va_P (kD κ) vwCl w t.heap ∧ va_D (kA κ) w) ∧ va_F (kA κ) st t
def aX (κ : aK) (P : String → va_W → Prop) : String → State → State → Prop := fun E st t => (∃ w : va_W, P E w ∧ va_P (kD κ) vwCl w t.heap ∧ va_D (kA κ) w) ∧ va_F (kA κ) st t
abbrev aD (ro : Option Value) (w : va_W) : Option Value → va_W → Prop := fun r v => r = ro ∧ v = w
/-- a contract: y, from the world w0, returns what P says -/
def CM (y : MethodName) (cc : ByteArray) (maxL : Nat) (ret : Option FieldType) (rm : Room) (κ : aK) (av : List Value) (w0 : va_W) (P : Option Value → va_W → Prop) : Prop := ∀ l : Launch, l.stackTraces = false → Met l y (.code y cc maxL ret :: WW) rm (va_Pc av (aPre κ w0)) (aQ κ P) rm.cells rm.slots (kA κ)
/-- .. or throws what PX says -/
def CX (y : MethodName) (cc : ByteArray) (maxL : Nat) (ret : Option FieldType) (rm : Room) (κ : aK) (av : List Value) (w0 : va_W) (P : Option Value → va_W → Prop) (PX : String → va_W → Prop) : Prop := ∀ l : Launch, l.stackTraces = false → vx_Met l y (.code y cc maxL ret :: WW) rm (va_Pc av (aPre κ w0)) (aQ κ P) (aX κ PX) rm.cells rm.slots (kA κ)
abbrev aG : Type := Program × Launch × Env × Room × State × MethodId × Array Value × List Frame × Method × Code × (State → Prop)
abbrev g_p (g : aG) : Program := g.1
abbrev g_l (g : aG) : Launch := g.2.1
abbrev g_e (g : aG) : Env := g.2.2.1
abbrev g_R (g : aG) : Room := g.2.2.2.1
abbrev g_s (g : aG) : State := g.2.2.2.2.1
abbrev g_m (g : aG) : MethodId := g.2.2.2.2.2.1
abbrev g_a (g : aG) : Array Value := g.2.2.2.2.2.2.1
abbrev g_b (g : aG) : List Frame := g.2.2.2.2.2.2.2.1
abbrev g_h (g : aG) : Method := g.2.2.2.2.2.2.2.2.1
abbrev g_c (g : aG) : Code := g.2.2.2.2.2.2.2.2.2.1
abbrev g_Q (g : aG) : State → Prop := g.2.2.2.2.2.2.2.2.2.2
abbrev gW (g : aG) (H : Heap) (locs : List Loc) (k n : Nat) (f : JFrame) : Prop := W (g_p g) (g_l g) (g_e g) (g_R g) (g_s g) (g_m g) (g_a g) (g_b g) (g_h g) (g_c g) H locs k n (g_Q g) f
/-- what stays the same in a walk -/
def Cx (g : aG) (κ : aK) (own : String) (cc : ByteArray) (nL : Nat) (rm : Room) : Prop := (g_p g).tables.exec = Jvm.exec ∧ (g_c g).code = cc ∧ (g_c g).maxLocals = nL ∧ (g_s g).vm.findClass own = some (g_m g).cls ∧ (∀ w ∈ WW, w.before (g_a g) (g_s g) = true) ∧ va_K (kD κ) vwCl (kT κ) (g_s g) ∧ (g_h g).locks = false ∧ g_R g = rm ∧ kB κ ≤ (g_s g).heap.size ∧ NX κ (g_s g) ∧ (g_l g).stackTraces = false
/-- the judgement: from here, with these locals, this stack, this world, the machine comes to the end that is asked -/
def aw (g : aG) (κ : aK) (nL pc : Nat) (L : List (Nat × Value)) (st : List Value) (ws : va_W) (k n : Nat) : Prop := ∀ (H : Heap) (locs : List Loc) (ls : Array Slot), va_P (kD κ) vwCl ws H → va_D (kA κ) ws → va_S (kA κ) (g_s g).heap H locs → lv_has ls nL L → gW g H locs k n (F0 (g_m g) pc ls st)
/-- the method's own end -/
def Rx (g : aG) (κ : aK) (rt : Option FieldType) (P : Option Value → va_W → Prop) (mc ms : Nat) : Prop := (g_h g).sig.returnType = rt ∧ ((g_Q g = MQ (g_b g) (aQ κ P) (g_a g) (g_s g) mc ms (kA κ)) ∨ ∃ PX, g_Q g = vx_MQ (g_b g) (aQ κ P) (aX κ PX) (g_a g) (g_s g) mc ms (kA κ))
def RX (g : aG) (κ : aK) (PX : String → va_W → Prop) (mc ms : Nat) : Prop := (∀ x ∈ (g_c g).exceptionTable.toList, False) ∧ ∃ P, g_Q g = vx_MQ (g_b g) (aQ κ P) (aX κ PX) (g_a g) (g_s g) mc ms (kA κ)
/-- the entry of a method that returns -/
theorem cm_entry {y : MethodName} {cc : ByteArray} {maxL : Nat} {ret : Option FieldType} {rm : Room} {κ : aK} {av : List Value} {w0 : va_W} {P : Option Value → va_W → Prop} {own : String} {L : List (Nat × Value)} (hy : plainName y.cls = true) (ho : y.cls = own)
    (hL : lv_has (lg_sl av ++ List.replicate (maxL - (lg_sl av).length) Slot.unset).toArray maxL L)
    (h : ∀ g : aG, Cx g κ own cc maxL rm → Rx g κ ret P rm.cells rm.slots → aw g κ maxL 0 L [] w0 0 0) : CM y cc maxL ret rm κ av w0 P := by
  intro l hl
  refine Met.ofW (cc := cc) (maxL := maxL) (ret := ret) hy rfl ?_
  intro p e s m args below meth c s₁ B hml hv
  obtain ⟨rfl, hsz, hP, hD, hK, hN⟩ := hv
  have hts := atoms_spec (ws := .code y cc maxL ret :: WW) B.pre
  have hown : s.vm.findClass own = some m.cls := by rw [← ho]; exact findClass_of_methodNamed B.named
  have h1 := h (p, l, e, (headSpec (.code y cc maxL ret :: WW) rm).room, s, m, av.toArray, below, meth, c, MQ below (aQ κ P) av.toArray s rm.cells rm.slots (kA κ)) ⟨B.exec, B.bytes, hml, hown, fun w hw => hts w (List.mem_cons_of_mem _ hw), hK, B.notSynchronized, rfl, hsz, hN, hl⟩ ⟨B.returns, Or.inl rfl⟩
  rw [lg_entry_eq]
  exact h1 s.heap [] _ hP hD va_S.rf hL
/-- the entry of a method that returns or throws -/
theorem cx_entry {y : MethodName} {cc : ByteArray} {maxL : Nat} {ret : Option FieldType} {rm : Room} {κ : aK} {av : List Value} {w0 : va_W} {P : Option Value → va_W → Prop} {PX : String → va_W → Prop} {own : String} {L : List (Nat × Value)} (hy : plainName y.cls = true) (ho : y.cls = own)
    (hL : lv_has (lg_sl av ++ List.replicate (maxL - (lg_sl av).length) Slot.unset).toArray maxL L)
    (h : ∀ g : aG, Cx g κ own cc maxL rm → Rx g κ ret P rm.cells rm.slots → RX g κ PX rm.cells rm.slots → aw g κ maxL 0 L [] w0 0 0) : CX y cc maxL ret rm κ av w0 P PX := by
  intro l hl
  refine vx_ofW (cc := cc) (maxL := maxL) (ret := ret) hy rfl ?_
  intro p e s m args below meth c s₁ B hml het hv
  obtain ⟨rfl, hsz, hP, hD, hK, hN⟩ := hv
  have hts := atoms_spec (ws := .code y cc maxL ret :: WW) B.pre
  have hown : s.vm.findClass own = some m.cls := by rw [← ho]; exact findClass_of_methodNamed B.named
  have h1 := h (p, l, e, (headSpec (.code y cc maxL ret :: WW) rm).room, s, m, av.toArray, below, meth, c, vx_MQ below (aQ κ P) (aX κ PX) av.toArray s rm.cells rm.slots (kA κ)) ⟨B.exec, B.bytes, hml, hown, fun w hw => hts w (List.mem_cons_of_mem _ hw), hK, B.notSynchronized, rfl, hsz, hN, hl⟩ ⟨B.returns, Or.inr ⟨PX, rfl⟩⟩ ⟨het, P, rfl⟩
  rw [lg_entry_eq]
  exact h1 s.heap [] _ hP hD va_S.rf hL
section ROWS
variable {g : aG} {κ : aK} {own : String} {cc : ByteArray} {nL pc k n i : Nat} {rm : Room} {L L' : List (Nat × Value)} {st : List Value} {ws ws' : va_W}
/-- no need of a state's world: nothing of it is used -/
theorem aw_world (h : ∀ H, va_P (kD κ) vwCl ws H → va_P (kD κ) vwCl ws' H) (hd : va_D (kA κ) ws → va_D (kA κ) ws') (kk : aw g κ nL pc L st ws' k n) : aw g κ nL pc L st ws k n := fun H locs ls hP hD hS hl => kk H locs ls (h H hP) (hd hD) hS hl
theorem aw_locals (ks : List Nat) (hL : lv_pick L ks = L') (kk : aw g κ nL pc L' st ws k n) : aw g κ nL pc L st ws k n := fun H locs ls hP hD hS hl => kk H locs ls hP hD hS (lv_sub hl ks hL)
theorem aw_room {k' n' : Nat} (h1 : k ≤ k') (h2 : n ≤ n') (kk : aw g κ nL pc L st ws k' n') : aw g κ nL pc L st ws k n := fun H locs ls hP hD hS hl => W.widen h1 h2 (kk H locs ls hP hD hS hl)
theorem aw_eq (e : ws = ws') (kk : aw g κ nL pc L st ws' k n) : aw g κ nL pc L st ws k n := e ▸ kk
theorem a_iload (C : Cx g κ own cc nL rm) {j : Nat} {x : Int32} (j0 : Nat) (hj : L[j0]? = some (j, .int x)) (hd : decode cc pc = .ok (.iload j, 2)) (kk : aw g κ nL (pc + 2) L (.int x :: st) ws k n) : aw g κ nL pc L st ws k n := fun H locs ls hP hD hS hl => lv_iload C.1 C.2.1 hd (lv_at hl j0 hj) (kk H locs ls hP hD hS hl)
theorem a_iloadn (C : Cx g κ own cc nL rm) {q : Fin 4} {j : Nat} {x : Int32} (j0 : Nat) (hj : L[j0]? = some (j, .int x)) (hq : (q : Nat) = j) (hd : decode cc pc = .ok (.iload_n q, 1)) (kk : aw g κ nL (pc + 1) L (.int x :: st) ws k n) : aw g κ nL pc L st ws k n := fun H locs ls hP hD hS hl => lv_iload_n C.1 C.2.1 hd hq (lv_at hl j0 hj) (kk H locs ls hP hD hS hl)
theorem a_lload (C : Cx g κ own cc nL rm) {j : Nat} {x : Int64} (j0 : Nat) (hj : L[j0]? = some (j, .long x)) (hd : decode cc pc = .ok (.lload j, 2)) (kk : aw g κ nL (pc + 2) L (.long x :: st) ws k n) : aw g κ nL pc L st ws k n := fun H locs ls hP hD hS hl => lv_lload C.1 C.2.1 hd (lv_at hl j0 hj) (kk H locs ls hP hD hS hl)
theorem a_lloadn (C : Cx g κ own cc nL rm) {q : Fin 4} {j : Nat} {x : Int64} (j0 : Nat) (hj : L[j0]? = some (j, .long x)) (hq : (q : Nat) = j) (hd : decode cc pc = .ok (.lload_n q, 1)) (kk : aw g κ nL (pc + 1) L (.long x :: st) ws k n) : aw g κ nL pc L st ws k n := fun H locs ls hP hD hS hl => lv_lload_n C.1 C.2.1 hd hq (lv_at hl j0 hj) (kk H locs ls hP hD hS hl)
theorem a_aload (C : Cx g κ own cc nL rm) {j : Nat} {x : Nat} (j0 : Nat) (hj : L[j0]? = some (j, .ref x)) (hd : decode cc pc = .ok (.aload j, 2)) (kk : aw g κ nL (pc + 2) L (.ref x :: st) ws k n) : aw g κ nL pc L st ws k n := fun H locs ls hP hD hS hl => lv_aload C.1 C.2.1 hd (lv_at hl j0 hj) (kk H locs ls hP hD hS hl)
theorem a_aloadn (C : Cx g κ own cc nL rm) {q : Fin 4} {j : Nat} {x : Nat} (j0 : Nat) (hj : L[j0]? = some (j, .ref x)) (hq : (q : Nat) = j) (hd : decode cc pc = .ok (.aload_n q, 1)) (kk : aw g κ nL (pc + 1) L (.ref x :: st) ws k n) : aw g κ nL pc L st ws k n := fun H locs ls hP hD hS hl => lv_aload_n C.1 C.2.1 hd hq (lv_at hl j0 hj) (kk H locs ls hP hD hS hl)
theorem a_dload (C : Cx g κ own cc nL rm) {j : Nat} {x : UInt64} (j0 : Nat) (hj : L[j0]? = some (j, .double x)) (hd : decode cc pc = .ok (.dload j, 2)) (kk : aw g κ nL (pc + 2) L (.double x :: st) ws k n) : aw g κ nL pc L st ws k n := fun H locs ls hP hD hS hl => lv_dload C.1 C.2.1 hd (lv_at hl j0 hj) (kk H locs ls hP hD hS hl)
theorem a_iconst (C : Cx g κ own cc nL rm) {z : Int} {v : Int32} (hv : Int32.ofInt z = v) (hd : decode cc pc = .ok (.iconst z, 1)) (kk : aw g κ nL (pc + 1) L (.int v :: st) ws k n) : aw g κ nL pc L st ws k n := fun H locs ls hP hD hS hl => lv_iconst C.1 C.2.1 hd hv (kk H locs ls hP hD hS hl)
theorem a_bipush (C : Cx g κ own cc nL rm) {z : Int} {v : Int32} (hv : (Int8.ofInt z).toInt32 = v) (hd : decode cc pc = .ok (.bipush z, 2)) (kk : aw g κ nL (pc + 2) L (.int v :: st) ws k n) : aw g κ nL pc L st ws k n := fun H locs ls hP hD hS hl => lv_bipush C.1 C.2.1 hd hv (kk H locs ls hP hD hS hl)
theorem a_sipush (C : Cx g κ own cc nL rm) {z : Int} {v : Int32} (hv : (Int16.ofInt z).toInt32 = v) (hd : decode cc pc = .ok (.sipush z, 3)) (kk : aw g κ nL (pc + 3) L (.int v :: st) ws k n) : aw g κ nL pc L st ws k n := fun H locs ls hP hD hS hl => lv_sipush C.1 C.2.1 hd hv (kk H locs ls hP hD hS hl)
theorem a_lconst (C : Cx g κ own cc nL rm) {z : Fin 2} {v : Int64} (hv : Int64.ofNat (z : Nat) = v) (hd : decode cc pc = .ok (.lconst z, 1)) (kk : aw g κ nL (pc + 1) L (.long v :: st) ws k n) : aw g κ nL pc L st ws k n := fun H locs ls hP hD hS hl => lv_lconst C.1 C.2.1 hd hv (kk H locs ls hP hD hS hl)
theorem a_ldc2 (C : Cx g κ own cc nL rm) {index : Nat} {v : Int64} (hw : Cond.constantLong own index v ∈ WW) (hd : decode cc pc = .ok (.ldc2_w index, 3)) (kk : aw g κ nL (pc + 3) L (.long v :: st) ws k n) : aw g κ nL pc L st ws k n := fun H locs ls hP hD hS hl => lv_ldc2 C.1 C.2.1 C.2.2.2.1 (C.2.2.2.2.1 _ hw) hd (kk H locs ls hP hD hS hl)
/-- a store: the others stay but what it covers; the list stays in the order of the slots -/
def lfil (i : Nat) (L : List (Nat × Value)) : List (Nat × Value) := L.filter (fun q => !(q.1 == i) && !(q.1 + 1 == i && q.2.category == 2))
def lfil2 (i : Nat) (L : List (Nat × Value)) : List (Nat × Value) := L.filter (fun q => !(q.1 == i) && (!(q.1 == i + 1) && !(q.1 + 1 == i && q.2.category == 2)))
def lput (i : Nat) (v : Value) : List (Nat × Value) → List (Nat × Value)
  | [] => [(i, v)]
  | q :: r => if i < q.1 then (i, v) :: q :: r else q :: lput i v r
theorem lput_mem {i : Nat} {v : Value} : ∀ {l : List (Nat × Value)} {q : Nat × Value}, q ∈ lput i v l → q ∈ (i, v) :: l
  | [], q, h => h
  | p :: r, q, h => by
    unfold lput at h
    by_cases c : i < p.1
    · rw [if_pos c] at h; exact h
    · rw [if_neg c] at h
      rcases List.mem_cons.mp h with rfl | h
      · exact List.mem_cons_of_mem _ List.mem_cons_self
      · rcases List.mem_cons.mp (lput_mem h) with rfl | h
        · exact List.mem_cons_self
        · exact List.mem_cons_of_mem _ (List.mem_cons_of_mem _ h)
theorem lput_has {ls : Array Slot} {nL i : Nat} {v : Value} {l L' : List (Nat × Value)} (h : lv_has ls nL ((i, v) :: l)) (e : lput i v l = L') : lv_has ls nL L' := ⟨h.1, h.2.1, fun q hq => h.2.2 q (lput_mem (by rw [e]; exact hq))⟩
theorem a_istore (C : Cx g κ own cc nL rm) {j : Nat} {x : Int32} (hj : j < nL) (hL : lput j (.int x) (lfil j L) = L') (hd : decode cc pc = .ok (.istore j, 2)) (kk : aw g κ nL (pc + 2) L' st ws k n) : aw g κ nL pc L (.int x :: st) ws k n := fun H locs ls hP hD hS hl => lv_istore C.1 C.2.1 hd hl hj rfl (fun ls' hl' => kk H locs ls' hP hD hS (lput_has hl' hL))
theorem a_istoren (C : Cx g κ own cc nL rm) {q : Fin 4} {j : Nat} {x : Int32} (hj : j < nL) (hL : lput j (.int x) (lfil j L) = L') (hq : (q : Nat) = j) (hd : decode cc pc = .ok (.istore_n q, 1)) (kk : aw g κ nL (pc + 1) L' st ws k n) : aw g κ nL pc L (.int x :: st) ws k n := fun H locs ls hP hD hS hl => lv_istore_n C.1 C.2.1 hd hq hl hj rfl (fun ls' hl' => kk H locs ls' hP hD hS (lput_has hl' hL))
theorem a_astore (C : Cx g κ own cc nL rm) {j : Nat} {x : Nat} (hj : j < nL) (hL : lput j (.ref x) (lfil j L) = L') (hd : decode cc pc = .ok (.astore j, 2)) (kk : aw g κ nL (pc + 2) L' st ws k n) : aw g κ nL pc L (.ref x :: st) ws k n := fun H locs ls hP hD hS hl => lv_astore C.1 C.2.1 hd hl hj rfl (fun ls' hl' => kk H locs ls' hP hD hS (lput_has hl' hL))
theorem a_astoren (C : Cx g κ own cc nL rm) {q : Fin 4} {j : Nat} {x : Nat} (hj : j < nL) (hL : lput j (.ref x) (lfil j L) = L') (hq : (q : Nat) = j) (hd : decode cc pc = .ok (.astore_n q, 1)) (kk : aw g κ nL (pc + 1) L' st ws k n) : aw g κ nL pc L (.ref x :: st) ws k n := fun H locs ls hP hD hS hl => lv_astore_n C.1 C.2.1 hd hq hl hj rfl (fun ls' hl' => kk H locs ls' hP hD hS (lput_has hl' hL))
theorem a_lstore (C : Cx g κ own cc nL rm) {j : Nat} {x : Int64} (hj : j + 1 < nL) (hL : lput j (.long x) (lfil2 j L) = L') (hd : decode cc pc = .ok (.lstore j, 2)) (kk : aw g κ nL (pc + 2) L' st ws k n) : aw g κ nL pc L (.long x :: st) ws k n := fun H locs ls hP hD hS hl => lv_lstore C.1 C.2.1 hd hl hj rfl (fun ls' hl' => kk H locs ls' hP hD hS (lput_has hl' hL))
theorem a_lstoren (C : Cx g κ own cc nL rm) {q : Fin 4} {j : Nat} {x : Int64} (hj : j + 1 < nL) (hL : lput j (.long x) (lfil2 j L) = L') (hq : (q : Nat) = j) (hd : decode cc pc = .ok (.lstore_n q, 1)) (kk : aw g κ nL (pc + 1) L' st ws k n) : aw g κ nL pc L (.long x :: st) ws k n := fun H locs ls hP hD hS hl => lv_lstore_n C.1 C.2.1 hd hq hl hj rfl (fun ls' hl' => kk H locs ls' hP hD hS (lput_has hl' hL))
theorem a_dstore (C : Cx g κ own cc nL rm) {j : Nat} {x : UInt64} (hj : j + 1 < nL) (hL : lput j (.double x) (lfil2 j L) = L') (hd : decode cc pc = .ok (.dstore j, 2)) (kk : aw g κ nL (pc + 2) L' st ws k n) : aw g κ nL pc L (.double x :: st) ws k n := fun H locs ls hP hD hS hl => lv_dstore C.1 C.2.1 hd hl hj rfl (fun ls' hl' => kk H locs ls' hP hD hS (lput_has hl' hL))
theorem a_iinc (C : Cx g κ own cc nL rm) {j : Nat} {z : Int} {x v : Int32} (j0 : Nat) (hj : L[j0]? = some (j, .int x)) (hv : x + Int32.ofInt z = v) (hn : j < nL) (hL : lput j (.int v) (lfil j L) = L') (hd : decode cc pc = .ok (.iinc j z, 3)) (kk : aw g κ nL (pc + 3) L' st ws k n) : aw g κ nL pc L st ws k n := fun H locs ls hP hD hS hl => lv_iinc C.1 C.2.1 hd hl hj hv hn rfl (fun ls' hl' => kk H locs ls' hP hD hS (lput_has hl' hL))
theorem nI_inc (a : Nat) : nI a + Int32.ofInt 1 = nI (a + 1) := nI_1 a
theorem a_dup (C : Cx g κ own cc nL rm) {v : Value} (hv : v.category = 1) (hd : decode cc pc = .ok (.dup, 1)) (kk : aw g κ nL (pc + 1) L (v :: v :: st) ws k n) : aw g κ nL pc L (v :: st) ws k n := fun H locs ls hP hD hS hl => lv_dup C.1 C.2.1 hd hv (kk H locs ls hP hD hS hl)
theorem a_pop (C : Cx g κ own cc nL rm) {v : Value} (hv : v.category = 1) (hd : decode cc pc = .ok (.pop, 1)) (kk : aw g κ nL (pc + 1) L st ws k n) : aw g κ nL pc L (v :: st) ws k n := fun H locs ls hP hD hS hl => lv_pop C.1 C.2.1 hd hv (kk H locs ls hP hD hS hl)
theorem a_iadd (C : Cx g κ own cc nL rm) {x y v : Int32} (hv : x + y = v) (hd : decode cc pc = .ok (.iadd, 1)) (kk : aw g κ nL (pc + 1) L (.int v :: st) ws k n) : aw g κ nL pc L (.int y :: .int x :: st) ws k n := fun H locs ls hP hD hS hl => lv_iadd C.1 C.2.1 hd (by rw [hv]; exact kk H locs ls hP hD hS hl)
theorem a_isub (C : Cx g κ own cc nL rm) {x y v : Int32} (hv : x - y = v) (hd : decode cc pc = .ok (.isub, 1)) (kk : aw g κ nL (pc + 1) L (.int v :: st) ws k n) : aw g κ nL pc L (.int y :: .int x :: st) ws k n := fun H locs ls hP hD hS hl => lv_isub C.1 C.2.1 hd (by rw [hv]; exact kk H locs ls hP hD hS hl)
theorem a_imul (C : Cx g κ own cc nL rm) {x y v : Int32} (hv : x * y = v) (hd : decode cc pc = .ok (.imul, 1)) (kk : aw g κ nL (pc + 1) L (.int v :: st) ws k n) : aw g κ nL pc L (.int y :: .int x :: st) ws k n := fun H locs ls hP hD hS hl => lv_imul C.1 C.2.1 hd (by rw [hv]; exact kk H locs ls hP hD hS hl)
theorem a_iand (C : Cx g κ own cc nL rm) {x y v : Int32} (hv : x &&& y = v) (hd : decode cc pc = .ok (.iand, 1)) (kk : aw g κ nL (pc + 1) L (.int v :: st) ws k n) : aw g κ nL pc L (.int y :: .int x :: st) ws k n := fun H locs ls hP hD hS hl => lv_iand C.1 C.2.1 hd (by rw [hv]; exact kk H locs ls hP hD hS hl)
theorem a_ladd (C : Cx g κ own cc nL rm) {x y v : Int64} (hv : x + y = v) (hd : decode cc pc = .ok (.ladd, 1)) (kk : aw g κ nL (pc + 1) L (.long v :: st) ws k n) : aw g κ nL pc L (.long y :: .long x :: st) ws k n := fun H locs ls hP hD hS hl => lv_ladd C.1 C.2.1 hd (by rw [hv]; exact kk H locs ls hP hD hS hl)
theorem a_lsub (C : Cx g κ own cc nL rm) {x y v : Int64} (hv : x - y = v) (hd : decode cc pc = .ok (.lsub, 1)) (kk : aw g κ nL (pc + 1) L (.long v :: st) ws k n) : aw g κ nL pc L (.long y :: .long x :: st) ws k n := fun H locs ls hP hD hS hl => lv_lsub C.1 C.2.1 hd (by rw [hv]; exact kk H locs ls hP hD hS hl)
theorem a_lmul (C : Cx g κ own cc nL rm) {x y v : Int64} (hv : x * y = v) (hd : decode cc pc = .ok (.lmul, 1)) (kk : aw g κ nL (pc + 1) L (.long v :: st) ws k n) : aw g κ nL pc L (.long y :: .long x :: st) ws k n := fun H locs ls hP hD hS hl => lv_lmul C.1 C.2.1 hd (by rw [hv]; exact kk H locs ls hP hD hS hl)
theorem a_lor (C : Cx g κ own cc nL rm) {x y v : Int64} (hv : x ||| y = v) (hd : decode cc pc = .ok (.lor, 1)) (kk : aw g κ nL (pc + 1) L (.long v :: st) ws k n) : aw g κ nL pc L (.long y :: .long x :: st) ws k n := fun H locs ls hP hD hS hl => lv_lor C.1 C.2.1 hd (by rw [hv]; exact kk H locs ls hP hD hS hl)
theorem a_land (C : Cx g κ own cc nL rm) {x y v : Int64} (hv : x &&& y = v) (hd : decode cc pc = .ok (.land, 1)) (kk : aw g κ nL (pc + 1) L (.long v :: st) ws k n) : aw g κ nL pc L (.long y :: .long x :: st) ws k n := fun H locs ls hP hD hS hl => lv_land C.1 C.2.1 hd (by rw [hv]; exact kk H locs ls hP hD hS hl)
theorem a_lxor (C : Cx g κ own cc nL rm) {x y v : Int64} (hv : x ^^^ y = v) (hd : decode cc pc = .ok (.lxor, 1)) (kk : aw g κ nL (pc + 1) L (.long v :: st) ws k n) : aw g κ nL pc L (.long y :: .long x :: st) ws k n := fun H locs ls hP hD hS hl => lv_lxor C.1 C.2.1 hd (by rw [hv]; exact kk H locs ls hP hD hS hl)
theorem a_lshl (C : Cx g κ own cc nL rm) {x v : Int64} {y : Int32} (hv : x <<< (y.toInt64 &&& 63) = v) (hd : decode cc pc = .ok (.lshl, 1)) (kk : aw g κ nL (pc + 1) L (.long v :: st) ws k n) : aw g κ nL pc L (.int y :: .long x :: st) ws k n := fun H locs ls hP hD hS hl => lv_lshl C.1 C.2.1 hd hv (kk H locs ls hP hD hS hl)
theorem a_lshr (C : Cx g κ own cc nL rm) {x v : Int64} {y : Int32} (hv : x >>> (y.toInt64 &&& 63) = v) (hd : decode cc pc = .ok (.lshr, 1)) (kk : aw g κ nL (pc + 1) L (.long v :: st) ws k n) : aw g κ nL pc L (.int y :: .long x :: st) ws k n := fun H locs ls hP hD hS hl => lv_lshr C.1 C.2.1 hd hv (kk H locs ls hP hD hS hl)
theorem a_lushr (C : Cx g κ own cc nL rm) {x v : Int64} {y : Int32} (hv : (x.toUInt64 >>> (y.toInt64.toUInt64 &&& Int64.toUInt64 63)).toInt64 = v) (hd : decode cc pc = .ok (.lushr, 1)) (kk : aw g κ nL (pc + 1) L (.long v :: st) ws k n) : aw g κ nL pc L (.int y :: .long x :: st) ws k n := fun H locs ls hP hD hS hl => lv_lushr C.1 C.2.1 hd hv (kk H locs ls hP hD hS hl)
theorem a_l2i (C : Cx g κ own cc nL rm) {x : Int64} {v : Int32} (hv : x.toInt32 = v) (hd : decode cc pc = .ok (.l2i, 1)) (kk : aw g κ nL (pc + 1) L (.int v :: st) ws k n) : aw g κ nL pc L (.long x :: st) ws k n := fun H locs ls hP hD hS hl => lv_l2i C.1 C.2.1 hd hv (kk H locs ls hP hD hS hl)
theorem a_i2l (C : Cx g κ own cc nL rm) {x : Int32} {v : Int64} (hv : x.toInt64 = v) (hd : decode cc pc = .ok (.i2l, 1)) (kk : aw g κ nL (pc + 1) L (.long v :: st) ws k n) : aw g κ nL pc L (.int x :: st) ws k n := fun H locs ls hP hD hS hl => lv_i2l C.1 C.2.1 hd hv (kk H locs ls hP hD hS hl)
theorem a_i2d (C : Cx g κ own cc nL rm) {x : Int32} (hd : decode cc pc = .ok (.i2d, 1)) (kk : aw g κ nL (pc + 1) L (.double (FP.i2d x) :: st) ws k n) : aw g κ nL pc L (.int x :: st) ws k n := fun H locs ls hP hD hS hl => lv_i2d C.1 C.2.1 hd (kk H locs ls hP hD hS hl)
theorem a_lcmp (C : Cx g κ own cc nL rm) {x y : Int64} {v : Int32} (hv : lg_cmp x y = v) (hd : decode cc pc = .ok (.lcmp, 1)) (kk : aw g κ nL (pc + 1) L (.int v :: st) ws k n) : aw g κ nL pc L (.long y :: .long x :: st) ws k n := fun H locs ls hP hD hS hl => W.lcmp C.1 C.2.1 hd (by rw [hv]; exact kk H locs ls hP hD hS hl)
theorem a_goto (C : Cx g κ own cc nL rm) {off : Int} {tgt : Nat} (ht : (pc : Int) + off = (tgt : Int)) (hd : decode cc pc = .ok (.goto off, 3)) (kk : aw g κ nL tgt L st ws k n) : aw g κ nL pc L st ws k n := fun H locs ls hP hD hS hl => lv_goto C.1 C.2.1 hd ht (kk H locs ls hP hD hS hl)
end ROWS
/-! a field's link (the class's number, the field's place); a field's type, whether final; a callee's words and descriptor -/
def FL (own : String) (idx ci fi : Nat) : Prop := ∃ (Cn : String) (T : u_T) (N : Nat) (ty : Nat → FieldType), vwCl[ci]? = some (Cn, T, N) ∧ fi < N ∧ (∀ w ∈ u_ws Cn T N, w ∈ WW) ∧ (T fi).1 = Cn ∧ Cond.fieldLink own idx Cn (T fi).2.1 (T fi).2.2.1 ∈ WW ∧ (∀ k, k < N → parseFieldDescriptor (T k).2.2.1 = some (ty k)) ∧ (∀ a, a < N → ∀ b, b < N → a ≠ b → (T a).2.1 ≠ (T b).2.1)
def FP (ci fi : Nat) (ty : FieldType) (fin : Bool) : Prop := ∃ (Cn : String) (T : u_T) (N : Nat), vwCl[ci]? = some (Cn, T, N) ∧ (T fi).2.2.2 = fin ∧ parseFieldDescriptor (T fi).2.2.1 = some ty
def YV (y : MethodName) (bytes : ByteArray) (maxL : Nat) (ret : Option FieldType) (np : Nat) : Prop := Cond.code y bytes maxL ret ∈ WW ∧ Cond.initialized y.cls ∈ WW ∧ y.cls ≠ "java/lang/invoke/MethodHandle" ∧ y.cls ≠ "java/lang/invoke/VarHandle" ∧ (parseMethodDescriptor y.desc).map (fun d => d.parameters.length) = some np
end
section
/-! words of the tables, by their places -/
theorem u_in_X0 : ∀ w ∈ u_ws RX0 TX0 4, w ∈ WW := by decide +kernel
theorem u_in_X1 : ∀ w ∈ u_ws RX1 TX1 8, w ∈ WW := by decide +kernel
theorem u_in_X2 : ∀ w ∈ u_ws RX2 TX2 11, w ∈ WW := by decide +kernel
theorem u_in_X3 : ∀ w ∈ u_ws RX3 TX3 4, w ∈ WW := by decide +kernel
theorem u_in_X4 : ∀ w ∈ u_ws RX4 TX4 7, w ∈ WW := by decide +kernel
theorem u_in_X5 : ∀ w ∈ u_ws RX5 TX5 5, w ∈ WW := by decide +kernel
theorem u_in_X6 : ∀ w ∈ u_ws RX6 TX6 20, w ∈ WW := by decide +kernel
theorem fl_X5_10 : FL RX5 10 5 0 := ⟨RX5, TX5, 5, tyX5, rfl, by decide, u_in_X5, rfl, ww_in 258 (by decide +kernel) (by decide +kernel), tyX5_ok, nmX5⟩
theorem fl_X5_19 : FL RX5 19 5 1 := ⟨RX5, TX5, 5, tyX5, rfl, by decide, u_in_X5, rfl, ww_in 259 (by decide +kernel) (by decide +kernel), tyX5_ok, nmX5⟩
theorem fl_X5_26 : FL RX5 26 5 2 := ⟨RX5, TX5, 5, tyX5, rfl, by decide, u_in_X5, rfl, ww_in 260 (by decide +kernel) (by decide +kernel), tyX5_ok, nmX5⟩
theorem fl_X5_33 : FL RX5 33 5 3 := ⟨RX5, TX5, 5, tyX5, rfl, by decide, u_in_X5, rfl, ww_in 261 (by decide +kernel) (by decide +kernel), tyX5_ok, nmX5⟩
theorem fl_X5_40 : FL RX5 40 5 4 := ⟨RX5, TX5, 5, tyX5, rfl, by decide, u_in_X5, rfl, ww_in 262 (by decide +kernel) (by decide +kernel), tyX5_ok, nmX5⟩
theorem fl_X5_55 : FL RX5 55 4 0 := ⟨RX4, TX4, 7, tyX4, rfl, by decide, u_in_X4, rfl, ww_in 87 (by decide +kernel) (by decide +kernel), tyX4_ok, nmX4⟩
theorem fl_X5_77 : FL RX5 77 3 0 := ⟨RX3, TX3, 4, tyX3, rfl, by decide, u_in_X3, rfl, ww_in 123 (by decide +kernel) (by decide +kernel), tyX3_ok, nmX3⟩
theorem fl_X5_97 : FL RX5 97 3 1 := ⟨RX3, TX3, 4, tyX3, rfl, by decide, u_in_X3, rfl, ww_in 127 (by decide +kernel) (by decide +kernel), tyX3_ok, nmX3⟩
theorem fl_X5_101 : FL RX5 101 3 2 := ⟨RX3, TX3, 4, tyX3, rfl, by decide, u_in_X3, rfl, ww_in 130 (by decide +kernel) (by decide +kernel), tyX3_ok, nmX3⟩
theorem fl_X5_104 : FL RX5 104 3 3 := ⟨RX3, TX3, 4, tyX3, rfl, by decide, u_in_X3, rfl, ww_in 133 (by decide +kernel) (by decide +kernel), tyX3_ok, nmX3⟩
theorem fl_X5_107 : FL RX5 107 2 1 := ⟨RX2, TX2, 11, tyX2, rfl, by decide, u_in_X2, rfl, ww_in 151 (by decide +kernel) (by decide +kernel), tyX2_ok, nmX2⟩
theorem fl_X5_121 : FL RX5 121 1 0 := ⟨RX1, TX1, 8, tyX1, rfl, by decide, u_in_X1, rfl, ww_in 203 (by decide +kernel) (by decide +kernel), tyX1_ok, nmX1⟩
theorem fl_X5_122 : FL RX5 122 4 1 := ⟨RX4, TX4, 7, tyX4, rfl, by decide, u_in_X4, rfl, ww_in 88 (by decide +kernel) (by decide +kernel), tyX4_ok, nmX4⟩
theorem fl_X5_135 : FL RX5 135 2 2 := ⟨RX2, TX2, 11, tyX2, rfl, by decide, u_in_X2, rfl, ww_in 154 (by decide +kernel) (by decide +kernel), tyX2_ok, nmX2⟩
theorem fl_X5_138 : FL RX5 138 4 3 := ⟨RX4, TX4, 7, tyX4, rfl, by decide, u_in_X4, rfl, ww_in 93 (by decide +kernel) (by decide +kernel), tyX4_ok, nmX4⟩
theorem fl_X5_141 : FL RX5 141 2 3 := ⟨RX2, TX2, 11, tyX2, rfl, by decide, u_in_X2, rfl, ww_in 156 (by decide +kernel) (by decide +kernel), tyX2_ok, nmX2⟩
theorem fl_X5_145 : FL RX5 145 2 8 := ⟨RX2, TX2, 11, tyX2, rfl, by decide, u_in_X2, rfl, ww_in 167 (by decide +kernel) (by decide +kernel), tyX2_ok, nmX2⟩
theorem fl_X5_148 : FL RX5 148 2 9 := ⟨RX2, TX2, 11, tyX2, rfl, by decide, u_in_X2, rfl, ww_in 169 (by decide +kernel) (by decide +kernel), tyX2_ok, nmX2⟩
theorem fl_X5_151 : FL RX5 151 2 5 := ⟨RX2, TX2, 11, tyX2, rfl, by decide, u_in_X2, rfl, ww_in 160 (by decide +kernel) (by decide +kernel), tyX2_ok, nmX2⟩
theorem fl_X5_154 : FL RX5 154 2 6 := ⟨RX2, TX2, 11, tyX2, rfl, by decide, u_in_X2, rfl, ww_in 163 (by decide +kernel) (by decide +kernel), tyX2_ok, nmX2⟩
theorem fl_X5_161 : FL RX5 161 4 4 := ⟨RX4, TX4, 7, tyX4, rfl, by decide, u_in_X4, rfl, ww_in 95 (by decide +kernel) (by decide +kernel), tyX4_ok, nmX4⟩
theorem fl_X5_174 : FL RX5 174 2 7 := ⟨RX2, TX2, 11, tyX2, rfl, by decide, u_in_X2, rfl, ww_in 165 (by decide +kernel) (by decide +kernel), tyX2_ok, nmX2⟩
theorem fl_X5_214 : FL RX5 214 1 7 := ⟨RX1, TX1, 8, tyX1, rfl, by decide, u_in_X1, rfl, ww_in 219 (by decide +kernel) (by decide +kernel), tyX1_ok, nmX1⟩
theorem fl_X5_217 : FL RX5 217 1 5 := ⟨RX1, TX1, 8, tyX1, rfl, by decide, u_in_X1, rfl, ww_in 215 (by decide +kernel) (by decide +kernel), tyX1_ok, nmX1⟩
theorem fl_X5_220 : FL RX5 220 1 6 := ⟨RX1, TX1, 8, tyX1, rfl, by decide, u_in_X1, rfl, ww_in 217 (by decide +kernel) (by decide +kernel), tyX1_ok, nmX1⟩
theorem fl_X5_223 : FL RX5 223 1 1 := ⟨RX1, TX1, 8, tyX1, rfl, by decide, u_in_X1, rfl, ww_in 206 (by decide +kernel) (by decide +kernel), tyX1_ok, nmX1⟩
theorem fl_X5_225 : FL RX5 225 1 2 := ⟨RX1, TX1, 8, tyX1, rfl, by decide, u_in_X1, rfl, ww_in 208 (by decide +kernel) (by decide +kernel), tyX1_ok, nmX1⟩
theorem fl_X5_226 : FL RX5 226 1 3 := ⟨RX1, TX1, 8, tyX1, rfl, by decide, u_in_X1, rfl, ww_in 211 (by decide +kernel) (by decide +kernel), tyX1_ok, nmX1⟩
theorem fl_X5_229 : FL RX5 229 1 4 := ⟨RX1, TX1, 8, tyX1, rfl, by decide, u_in_X1, rfl, ww_in 213 (by decide +kernel) (by decide +kernel), tyX1_ok, nmX1⟩
theorem fl_X5_235 : FL RX5 235 4 2 := ⟨RX4, TX4, 7, tyX4, rfl, by decide, u_in_X4, rfl, ww_in 91 (by decide +kernel) (by decide +kernel), tyX4_ok, nmX4⟩
theorem fl_X5_241 : FL RX5 241 0 3 := ⟨RX0, TX0, 4, tyX0, rfl, by decide, u_in_X0, rfl, ww_in 248 (by decide +kernel) (by decide +kernel), tyX0_ok, nmX0⟩
theorem fl_X5_244 : FL RX5 244 0 2 := ⟨RX0, TX0, 4, tyX0, rfl, by decide, u_in_X0, rfl, ww_in 246 (by decide +kernel) (by decide +kernel), tyX0_ok, nmX0⟩
theorem fl_X0_9 : FL RX0 9 0 0 := ⟨RX0, TX0, 4, tyX0, rfl, by decide, u_in_X0, rfl, ww_in 243 (by decide +kernel) (by decide +kernel), tyX0_ok, nmX0⟩
theorem fl_X0_15 : FL RX0 15 0 1 := ⟨RX0, TX0, 4, tyX0, rfl, by decide, u_in_X0, rfl, ww_in 244 (by decide +kernel) (by decide +kernel), tyX0_ok, nmX0⟩
theorem fl_X0_18 : FL RX0 18 0 2 := ⟨RX0, TX0, 4, tyX0, rfl, by decide, u_in_X0, rfl, ww_in 245 (by decide +kernel) (by decide +kernel), tyX0_ok, nmX0⟩
theorem fl_X0_21 : FL RX0 21 0 3 := ⟨RX0, TX0, 4, tyX0, rfl, by decide, u_in_X0, rfl, ww_in 247 (by decide +kernel) (by decide +kernel), tyX0_ok, nmX0⟩
theorem fl_X0_24 : FL RX0 24 4 0 := ⟨RX4, TX4, 7, tyX4, rfl, by decide, u_in_X4, rfl, ww_in 86 (by decide +kernel) (by decide +kernel), tyX4_ok, nmX4⟩
theorem fl_X0_42 : FL RX0 42 4 2 := ⟨RX4, TX4, 7, tyX4, rfl, by decide, u_in_X4, rfl, ww_in 89 (by decide +kernel) (by decide +kernel), tyX4_ok, nmX4⟩
theorem fl_X0_50 : FL RX0 50 2 2 := ⟨RX2, TX2, 11, tyX2, rfl, by decide, u_in_X2, rfl, ww_in 153 (by decide +kernel) (by decide +kernel), tyX2_ok, nmX2⟩
theorem fl_X0_55 : FL RX0 55 4 5 := ⟨RX4, TX4, 7, tyX4, rfl, by decide, u_in_X4, rfl, ww_in 97 (by decide +kernel) (by decide +kernel), tyX4_ok, nmX4⟩
theorem fl_X0_64 : FL RX0 64 4 6 := ⟨RX4, TX4, 7, tyX4, rfl, by decide, u_in_X4, rfl, ww_in 99 (by decide +kernel) (by decide +kernel), tyX4_ok, nmX4⟩
theorem fl_X0_70 : FL RX0 70 1 0 := ⟨RX1, TX1, 8, tyX1, rfl, by decide, u_in_X1, rfl, ww_in 202 (by decide +kernel) (by decide +kernel), tyX1_ok, nmX1⟩
theorem fl_X0_73 : FL RX0 73 1 1 := ⟨RX1, TX1, 8, tyX1, rfl, by decide, u_in_X1, rfl, ww_in 205 (by decide +kernel) (by decide +kernel), tyX1_ok, nmX1⟩
theorem fl_X0_76 : FL RX0 76 1 3 := ⟨RX1, TX1, 8, tyX1, rfl, by decide, u_in_X1, rfl, ww_in 210 (by decide +kernel) (by decide +kernel), tyX1_ok, nmX1⟩
theorem fl_X0_77 : FL RX0 77 2 5 := ⟨RX2, TX2, 11, tyX2, rfl, by decide, u_in_X2, rfl, ww_in 159 (by decide +kernel) (by decide +kernel), tyX2_ok, nmX2⟩
theorem fl_X0_81 : FL RX0 81 2 6 := ⟨RX2, TX2, 11, tyX2, rfl, by decide, u_in_X2, rfl, ww_in 162 (by decide +kernel) (by decide +kernel), tyX2_ok, nmX2⟩
theorem fl_X1_9 : FL RX1 9 1 1 := ⟨RX1, TX1, 8, tyX1, rfl, by decide, u_in_X1, rfl, ww_in 204 (by decide +kernel) (by decide +kernel), tyX1_ok, nmX1⟩
theorem fl_X1_15 : FL RX1 15 1 2 := ⟨RX1, TX1, 8, tyX1, rfl, by decide, u_in_X1, rfl, ww_in 207 (by decide +kernel) (by decide +kernel), tyX1_ok, nmX1⟩
theorem fl_X1_18 : FL RX1 18 1 3 := ⟨RX1, TX1, 8, tyX1, rfl, by decide, u_in_X1, rfl, ww_in 209 (by decide +kernel) (by decide +kernel), tyX1_ok, nmX1⟩
theorem fl_X1_21 : FL RX1 21 1 4 := ⟨RX1, TX1, 8, tyX1, rfl, by decide, u_in_X1, rfl, ww_in 212 (by decide +kernel) (by decide +kernel), tyX1_ok, nmX1⟩
theorem fl_X1_24 : FL RX1 24 1 5 := ⟨RX1, TX1, 8, tyX1, rfl, by decide, u_in_X1, rfl, ww_in 214 (by decide +kernel) (by decide +kernel), tyX1_ok, nmX1⟩
theorem fl_X1_27 : FL RX1 27 1 6 := ⟨RX1, TX1, 8, tyX1, rfl, by decide, u_in_X1, rfl, ww_in 216 (by decide +kernel) (by decide +kernel), tyX1_ok, nmX1⟩
theorem fl_X1_30 : FL RX1 30 1 7 := ⟨RX1, TX1, 8, tyX1, rfl, by decide, u_in_X1, rfl, ww_in 218 (by decide +kernel) (by decide +kernel), tyX1_ok, nmX1⟩
theorem fl_X1_33 : FL RX1 33 1 0 := ⟨RX1, TX1, 8, tyX1, rfl, by decide, u_in_X1, rfl, ww_in 201 (by decide +kernel) (by decide +kernel), tyX1_ok, nmX1⟩
theorem fl_X2_9 : FL RX2 9 2 2 := ⟨RX2, TX2, 11, tyX2, rfl, by decide, u_in_X2, rfl, ww_in 152 (by decide +kernel) (by decide +kernel), tyX2_ok, nmX2⟩
theorem fl_X2_15 : FL RX2 15 2 3 := ⟨RX2, TX2, 11, tyX2, rfl, by decide, u_in_X2, rfl, ww_in 155 (by decide +kernel) (by decide +kernel), tyX2_ok, nmX2⟩
theorem fl_X2_19 : FL RX2 19 2 4 := ⟨RX2, TX2, 11, tyX2, rfl, by decide, u_in_X2, rfl, ww_in 157 (by decide +kernel) (by decide +kernel), tyX2_ok, nmX2⟩
theorem fl_X2_22 : FL RX2 22 2 5 := ⟨RX2, TX2, 11, tyX2, rfl, by decide, u_in_X2, rfl, ww_in 158 (by decide +kernel) (by decide +kernel), tyX2_ok, nmX2⟩
theorem fl_X2_25 : FL RX2 25 2 6 := ⟨RX2, TX2, 11, tyX2, rfl, by decide, u_in_X2, rfl, ww_in 161 (by decide +kernel) (by decide +kernel), tyX2_ok, nmX2⟩
theorem fl_X2_28 : FL RX2 28 2 7 := ⟨RX2, TX2, 11, tyX2, rfl, by decide, u_in_X2, rfl, ww_in 164 (by decide +kernel) (by decide +kernel), tyX2_ok, nmX2⟩
theorem fl_X2_31 : FL RX2 31 2 8 := ⟨RX2, TX2, 11, tyX2, rfl, by decide, u_in_X2, rfl, ww_in 166 (by decide +kernel) (by decide +kernel), tyX2_ok, nmX2⟩
theorem fl_X2_34 : FL RX2 34 2 9 := ⟨RX2, TX2, 11, tyX2, rfl, by decide, u_in_X2, rfl, ww_in 168 (by decide +kernel) (by decide +kernel), tyX2_ok, nmX2⟩
theorem fl_X2_37 : FL RX2 37 2 10 := ⟨RX2, TX2, 11, tyX2, rfl, by decide, u_in_X2, rfl, ww_in 170 (by decide +kernel) (by decide +kernel), tyX2_ok, nmX2⟩
theorem fl_X2_44 : FL RX2 44 2 0 := ⟨RX2, TX2, 11, tyX2, rfl, by decide, u_in_X2, rfl, ww_in 149 (by decide +kernel) (by decide +kernel), tyX2_ok, nmX2⟩
theorem fl_X2_67 : FL RX2 67 2 1 := ⟨RX2, TX2, 11, tyX2, rfl, by decide, u_in_X2, rfl, ww_in 150 (by decide +kernel) (by decide +kernel), tyX2_ok, nmX2⟩
theorem fl_X2_75 : FL RX2 75 3 0 := ⟨RX3, TX3, 4, tyX3, rfl, by decide, u_in_X3, rfl, ww_in 124 (by decide +kernel) (by decide +kernel), tyX3_ok, nmX3⟩
theorem fl_X2_78 : FL RX2 78 3 1 := ⟨RX3, TX3, 4, tyX3, rfl, by decide, u_in_X3, rfl, ww_in 126 (by decide +kernel) (by decide +kernel), tyX3_ok, nmX3⟩
theorem fl_X2_81 : FL RX2 81 3 2 := ⟨RX3, TX3, 4, tyX3, rfl, by decide, u_in_X3, rfl, ww_in 129 (by decide +kernel) (by decide +kernel), tyX3_ok, nmX3⟩
theorem fl_X2_84 : FL RX2 84 3 3 := ⟨RX3, TX3, 4, tyX3, rfl, by decide, u_in_X3, rfl, ww_in 132 (by decide +kernel) (by decide +kernel), tyX3_ok, nmX3⟩
theorem fl_X3_9 : FL RX3 9 3 1 := ⟨RX3, TX3, 4, tyX3, rfl, by decide, u_in_X3, rfl, ww_in 125 (by decide +kernel) (by decide +kernel), tyX3_ok, nmX3⟩
theorem fl_X3_15 : FL RX3 15 3 2 := ⟨RX3, TX3, 4, tyX3, rfl, by decide, u_in_X3, rfl, ww_in 128 (by decide +kernel) (by decide +kernel), tyX3_ok, nmX3⟩
theorem fl_X3_18 : FL RX3 18 3 3 := ⟨RX3, TX3, 4, tyX3, rfl, by decide, u_in_X3, rfl, ww_in 131 (by decide +kernel) (by decide +kernel), tyX3_ok, nmX3⟩
theorem fl_X3_21 : FL RX3 21 3 0 := ⟨RX3, TX3, 4, tyX3, rfl, by decide, u_in_X3, rfl, ww_in 122 (by decide +kernel) (by decide +kernel), tyX3_ok, nmX3⟩
theorem fl_X4_9 : FL RX4 9 4 3 := ⟨RX4, TX4, 7, tyX4, rfl, by decide, u_in_X4, rfl, ww_in 92 (by decide +kernel) (by decide +kernel), tyX4_ok, nmX4⟩
theorem fl_X4_15 : FL RX4 15 4 4 := ⟨RX4, TX4, 7, tyX4, rfl, by decide, u_in_X4, rfl, ww_in 94 (by decide +kernel) (by decide +kernel), tyX4_ok, nmX4⟩
theorem fl_X4_18 : FL RX4 18 4 5 := ⟨RX4, TX4, 7, tyX4, rfl, by decide, u_in_X4, rfl, ww_in 96 (by decide +kernel) (by decide +kernel), tyX4_ok, nmX4⟩
theorem fl_X4_21 : FL RX4 21 4 6 := ⟨RX4, TX4, 7, tyX4, rfl, by decide, u_in_X4, rfl, ww_in 98 (by decide +kernel) (by decide +kernel), tyX4_ok, nmX4⟩
theorem fl_X4_24 : FL RX4 24 4 0 := ⟨RX4, TX4, 7, tyX4, rfl, by decide, u_in_X4, rfl, ww_in 85 (by decide +kernel) (by decide +kernel), tyX4_ok, nmX4⟩
theorem fl_X4_28 : FL RX4 28 4 2 := ⟨RX4, TX4, 7, tyX4, rfl, by decide, u_in_X4, rfl, ww_in 90 (by decide +kernel) (by decide +kernel), tyX4_ok, nmX4⟩
theorem fl_X6_9 : FL RX6 9 6 2 := ⟨RX6, TX6, 20, tyX6, rfl, by decide, u_in_X6, rfl, ww_in 795 (by decide +kernel) (by decide +kernel), tyX6_ok, nmX6⟩
theorem fl_X6_13 : FL RX6 13 6 3 := ⟨RX6, TX6, 20, tyX6, rfl, by decide, u_in_X6, rfl, ww_in 796 (by decide +kernel) (by decide +kernel), tyX6_ok, nmX6⟩
theorem fl_X6_16 : FL RX6 16 6 4 := ⟨RX6, TX6, 20, tyX6, rfl, by decide, u_in_X6, rfl, ww_in 797 (by decide +kernel) (by decide +kernel), tyX6_ok, nmX6⟩
theorem fl_X6_19 : FL RX6 19 6 5 := ⟨RX6, TX6, 20, tyX6, rfl, by decide, u_in_X6, rfl, ww_in 798 (by decide +kernel) (by decide +kernel), tyX6_ok, nmX6⟩
theorem fl_X6_23 : FL RX6 23 6 6 := ⟨RX6, TX6, 20, tyX6, rfl, by decide, u_in_X6, rfl, ww_in 799 (by decide +kernel) (by decide +kernel), tyX6_ok, nmX6⟩
theorem fl_X6_26 : FL RX6 26 6 7 := ⟨RX6, TX6, 20, tyX6, rfl, by decide, u_in_X6, rfl, ww_in 800 (by decide +kernel) (by decide +kernel), tyX6_ok, nmX6⟩
theorem fl_X6_29 : FL RX6 29 6 9 := ⟨RX6, TX6, 20, tyX6, rfl, by decide, u_in_X6, rfl, ww_in 802 (by decide +kernel) (by decide +kernel), tyX6_ok, nmX6⟩
theorem fl_X6_32 : FL RX6 32 6 10 := ⟨RX6, TX6, 20, tyX6, rfl, by decide, u_in_X6, rfl, ww_in 803 (by decide +kernel) (by decide +kernel), tyX6_ok, nmX6⟩
theorem fl_X6_35 : FL RX6 35 6 11 := ⟨RX6, TX6, 20, tyX6, rfl, by decide, u_in_X6, rfl, ww_in 804 (by decide +kernel) (by decide +kernel), tyX6_ok, nmX6⟩
theorem fl_X6_38 : FL RX6 38 6 13 := ⟨RX6, TX6, 20, tyX6, rfl, by decide, u_in_X6, rfl, ww_in 806 (by decide +kernel) (by decide +kernel), tyX6_ok, nmX6⟩
theorem fl_X6_41 : FL RX6 41 6 14 := ⟨RX6, TX6, 20, tyX6, rfl, by decide, u_in_X6, rfl, ww_in 807 (by decide +kernel) (by decide +kernel), tyX6_ok, nmX6⟩
theorem fl_X6_44 : FL RX6 44 6 15 := ⟨RX6, TX6, 20, tyX6, rfl, by decide, u_in_X6, rfl, ww_in 808 (by decide +kernel) (by decide +kernel), tyX6_ok, nmX6⟩
theorem fl_X6_48 : FL RX6 48 6 16 := ⟨RX6, TX6, 20, tyX6, rfl, by decide, u_in_X6, rfl, ww_in 809 (by decide +kernel) (by decide +kernel), tyX6_ok, nmX6⟩
theorem fl_X6_51 : FL RX6 51 6 17 := ⟨RX6, TX6, 20, tyX6, rfl, by decide, u_in_X6, rfl, ww_in 810 (by decide +kernel) (by decide +kernel), tyX6_ok, nmX6⟩
theorem fl_X6_54 : FL RX6 54 6 18 := ⟨RX6, TX6, 20, tyX6, rfl, by decide, u_in_X6, rfl, ww_in 811 (by decide +kernel) (by decide +kernel), tyX6_ok, nmX6⟩
theorem fl_X6_57 : FL RX6 57 6 19 := ⟨RX6, TX6, 20, tyX6, rfl, by decide, u_in_X6, rfl, ww_in 812 (by decide +kernel) (by decide +kernel), tyX6_ok, nmX6⟩
theorem fl_X6_60 : FL RX6 60 6 0 := ⟨RX6, TX6, 20, tyX6, rfl, by decide, u_in_X6, rfl, ww_in 793 (by decide +kernel) (by decide +kernel), tyX6_ok, nmX6⟩
theorem fl_X6_64 : FL RX6 64 6 1 := ⟨RX6, TX6, 20, tyX6, rfl, by decide, u_in_X6, rfl, ww_in 794 (by decide +kernel) (by decide +kernel), tyX6_ok, nmX6⟩
theorem fl_X6_71 : FL RX6 71 6 8 := ⟨RX6, TX6, 20, tyX6, rfl, by decide, u_in_X6, rfl, ww_in 801 (by decide +kernel) (by decide +kernel), tyX6_ok, nmX6⟩
theorem fl_X6_120 : FL RX6 120 6 12 := ⟨RX6, TX6, 20, tyX6, rfl, by decide, u_in_X6, rfl, ww_in 805 (by decide +kernel) (by decide +kernel), tyX6_ok, nmX6⟩
theorem fp_X0_0 : FP 0 0 (.array .int) true := ⟨RX0, TX0, 4, rfl, rfl, by decide +kernel⟩
theorem fp_X0_1 : FP 0 1 (.array .int) true := ⟨RX0, TX0, 4, rfl, rfl, by decide +kernel⟩
theorem fp_X0_2 : FP 0 2 (.array .int) true := ⟨RX0, TX0, 4, rfl, rfl, by decide +kernel⟩
theorem fp_X0_3 : FP 0 3 (.array .int) true := ⟨RX0, TX0, 4, rfl, rfl, by decide +kernel⟩
theorem fp_X1_0 : FP 1 0 (.int) false := ⟨RX1, TX1, 8, rfl, rfl, by decide +kernel⟩
theorem fp_X1_1 : FP 1 1 (.array .int) true := ⟨RX1, TX1, 8, rfl, rfl, by decide +kernel⟩
theorem fp_X1_2 : FP 1 2 (.array .int) true := ⟨RX1, TX1, 8, rfl, rfl, by decide +kernel⟩
theorem fp_X1_3 : FP 1 3 (.array .int) true := ⟨RX1, TX1, 8, rfl, rfl, by decide +kernel⟩
theorem fp_X1_4 : FP 1 4 (.array .int) true := ⟨RX1, TX1, 8, rfl, rfl, by decide +kernel⟩
theorem fp_X1_5 : FP 1 5 (.array .int) true := ⟨RX1, TX1, 8, rfl, rfl, by decide +kernel⟩
theorem fp_X1_6 : FP 1 6 (.array .int) true := ⟨RX1, TX1, 8, rfl, rfl, by decide +kernel⟩
theorem fp_X1_7 : FP 1 7 (.array .int) true := ⟨RX1, TX1, 8, rfl, rfl, by decide +kernel⟩
theorem fp_X2_0 : FP 2 0 (.int) false := ⟨RX2, TX2, 11, rfl, rfl, by decide +kernel⟩
theorem fp_X2_1 : FP 2 1 (.long) false := ⟨RX2, TX2, 11, rfl, rfl, by decide +kernel⟩
theorem fp_X2_2 : FP 2 2 (.array .int) true := ⟨RX2, TX2, 11, rfl, rfl, by decide +kernel⟩
theorem fp_X2_3 : FP 2 3 (.array .long) true := ⟨RX2, TX2, 11, rfl, rfl, by decide +kernel⟩
theorem fp_X2_4 : FP 2 4 (.array .long) true := ⟨RX2, TX2, 11, rfl, rfl, by decide +kernel⟩
theorem fp_X2_5 : FP 2 5 (.array .long) true := ⟨RX2, TX2, 11, rfl, rfl, by decide +kernel⟩
theorem fp_X2_6 : FP 2 6 (.array .long) true := ⟨RX2, TX2, 11, rfl, rfl, by decide +kernel⟩
theorem fp_X2_7 : FP 2 7 (.array .long) true := ⟨RX2, TX2, 11, rfl, rfl, by decide +kernel⟩
theorem fp_X2_8 : FP 2 8 (.array .int) true := ⟨RX2, TX2, 11, rfl, rfl, by decide +kernel⟩
theorem fp_X2_9 : FP 2 9 (.array .int) true := ⟨RX2, TX2, 11, rfl, rfl, by decide +kernel⟩
theorem fp_X2_10 : FP 2 10 (.array .int) true := ⟨RX2, TX2, 11, rfl, rfl, by decide +kernel⟩
theorem fp_X3_0 : FP 3 0 (.int) false := ⟨RX3, TX3, 4, rfl, rfl, by decide +kernel⟩
theorem fp_X3_1 : FP 3 1 (.array .int) true := ⟨RX3, TX3, 4, rfl, rfl, by decide +kernel⟩
theorem fp_X3_2 : FP 3 2 (.array .int) true := ⟨RX3, TX3, 4, rfl, rfl, by decide +kernel⟩
theorem fp_X3_3 : FP 3 3 (.array .int) true := ⟨RX3, TX3, 4, rfl, rfl, by decide +kernel⟩
theorem fp_X4_0 : FP 4 0 (.int) false := ⟨RX4, TX4, 7, rfl, rfl, by decide +kernel⟩
theorem fp_X4_1 : FP 4 1 (.long) false := ⟨RX4, TX4, 7, rfl, rfl, by decide +kernel⟩
theorem fp_X4_2 : FP 4 2 (.long) false := ⟨RX4, TX4, 7, rfl, rfl, by decide +kernel⟩
theorem fp_X4_3 : FP 4 3 (.array .int) true := ⟨RX4, TX4, 7, rfl, rfl, by decide +kernel⟩
theorem fp_X4_4 : FP 4 4 (.array .int) true := ⟨RX4, TX4, 7, rfl, rfl, by decide +kernel⟩
theorem fp_X4_5 : FP 4 5 (.array .int) true := ⟨RX4, TX4, 7, rfl, rfl, by decide +kernel⟩
theorem fp_X4_6 : FP 4 6 (.array .int) true := ⟨RX4, TX4, 7, rfl, rfl, by decide +kernel⟩
theorem fp_X5_0 : FP 5 0 (.object "TrenchBook$Units") true := ⟨RX5, TX5, 5, rfl, rfl, by decide +kernel⟩
theorem fp_X5_1 : FP 5 1 (.object "TrenchBook$Relations") true := ⟨RX5, TX5, 5, rfl, rfl, by decide +kernel⟩
theorem fp_X5_2 : FP 5 2 (.object "TrenchBook$Matrix") true := ⟨RX5, TX5, 5, rfl, rfl, by decide +kernel⟩
theorem fp_X5_3 : FP 5 3 (.object "TrenchBook$Finds") true := ⟨RX5, TX5, 5, rfl, rfl, by decide +kernel⟩
theorem fp_X5_4 : FP 5 4 (.object "TrenchBook$Bounds") true := ⟨RX5, TX5, 5, rfl, rfl, by decide +kernel⟩
theorem fp_X6_0 : FP 6 0 (.int) false := ⟨RX6, TX6, 20, rfl, rfl, by decide +kernel⟩
theorem fp_X6_1 : FP 6 1 (.int) false := ⟨RX6, TX6, 20, rfl, rfl, by decide +kernel⟩
theorem fp_X6_2 : FP 6 2 (.array .int) true := ⟨RX6, TX6, 20, rfl, rfl, by decide +kernel⟩
theorem fp_X6_3 : FP 6 3 (.array .int) true := ⟨RX6, TX6, 20, rfl, rfl, by decide +kernel⟩
theorem fp_X6_4 : FP 6 4 (.array .int) true := ⟨RX6, TX6, 20, rfl, rfl, by decide +kernel⟩
theorem fp_X6_5 : FP 6 5 (.array .boolean) true := ⟨RX6, TX6, 20, rfl, rfl, by decide +kernel⟩
theorem fp_X6_6 : FP 6 6 (.array .boolean) true := ⟨RX6, TX6, 20, rfl, rfl, by decide +kernel⟩
theorem fp_X6_7 : FP 6 7 (.array .int) true := ⟨RX6, TX6, 20, rfl, rfl, by decide +kernel⟩
theorem fp_X6_8 : FP 6 8 (.int) false := ⟨RX6, TX6, 20, rfl, rfl, by decide +kernel⟩
theorem fp_X6_9 : FP 6 9 (.array .int) true := ⟨RX6, TX6, 20, rfl, rfl, by decide +kernel⟩
theorem fp_X6_10 : FP 6 10 (.array .int) true := ⟨RX6, TX6, 20, rfl, rfl, by decide +kernel⟩
theorem fp_X6_11 : FP 6 11 (.array .int) true := ⟨RX6, TX6, 20, rfl, rfl, by decide +kernel⟩
theorem fp_X6_12 : FP 6 12 (.int) false := ⟨RX6, TX6, 20, rfl, rfl, by decide +kernel⟩
theorem fp_X6_13 : FP 6 13 (.array .int) true := ⟨RX6, TX6, 20, rfl, rfl, by decide +kernel⟩
theorem fp_X6_14 : FP 6 14 (.array .int) true := ⟨RX6, TX6, 20, rfl, rfl, by decide +kernel⟩
theorem fp_X6_15 : FP 6 15 (.array .long) true := ⟨RX6, TX6, 20, rfl, rfl, by decide +kernel⟩
theorem fp_X6_16 : FP 6 16 (.array .long) true := ⟨RX6, TX6, 20, rfl, rfl, by decide +kernel⟩
theorem fp_X6_17 : FP 6 17 (.array .long) true := ⟨RX6, TX6, 20, rfl, rfl, by decide +kernel⟩
theorem fp_X6_18 : FP 6 18 (.array .int) true := ⟨RX6, TX6, 20, rfl, rfl, by decide +kernel⟩
theorem fp_X6_19 : FP 6 19 (.array .int) true := ⟨RX6, TX6, 20, rfl, rfl, by decide +kernel⟩
theorem ml_X5_1 : Cond.methodLink RX5 1 objectInit ∈ WW := ww_in 76 (by decide +kernel) (by decide +kernel)
theorem ml_X5_44 : Cond.methodLink RX5 44 yX5_isWithin ∈ WW := ww_in 320 (by decide +kernel) (by decide +kernel)
theorem ml_X5_64 : Cond.methodLink RX5 64 yX4_append ∈ WW := ww_in 498 (by decide +kernel) (by decide +kernel)
theorem ml_X5_68 : Cond.methodLink RX5 68 yX5_renewMatrix ∈ WW := ww_in 502 (by decide +kernel) (by decide +kernel)
theorem ml_X5_73 : Cond.methodLink RX5 73 yX5_requireUnit ∈ WW := ww_in 422 (by decide +kernel) (by decide +kernel)
theorem ml_X5_80 : Cond.methodLink RX5 80 yX5_whyRefused ∈ WW := ww_in 578 (by decide +kernel) (by decide +kernel)
theorem ml_X5_84 : Cond.methodLink RX5 84 yX3_append ∈ WW := ww_in 593 (by decide +kernel) (by decide +kernel)
theorem ml_X5_87 : Cond.methodLink RX5 87 yX5_requireRelation ∈ WW := ww_in 439 (by decide +kernel) (by decide +kernel)
theorem ml_X5_90 : Cond.methodLink RX5 90 yX3_remove ∈ WW := ww_in 604 (by decide +kernel) (by decide +kernel)
theorem ml_X5_93 : Cond.methodLink RX5 93 yX5_requireFact ∈ WW := ww_in 317 (by decide +kernel) (by decide +kernel)
theorem ml_X5_111 : Cond.methodLink RX5 111 yJ13_bitCount_95d88 ∈ WW := ww_in 391 (by decide +kernel) (by decide +kernel)
theorem ml_X5_117 : Cond.methodLink RX5 117 yX2_linkCount ∈ WW := ww_in 397 (by decide +kernel) (by decide +kernel)
theorem ml_X5_125 : Cond.methodLink RX5 125 yX5_bodiesInDoubt ∈ WW := ww_in 402 (by decide +kernel) (by decide +kernel)
theorem ml_X5_129 : Cond.methodLink RX5 129 yX2_levelCount ∈ WW := ww_in 407 (by decide +kernel) (by decide +kernel)
theorem ml_X5_132 : Cond.methodLink RX5 132 yX5_pairsOutOfPhase ∈ WW := ww_in 414 (by decide +kernel) (by decide +kernel)
theorem ml_X5_157 : Cond.methodLink RX5 157 yX5_has ∈ WW := ww_in 406 (by decide +kernel) (by decide +kernel)
theorem ml_X5_164 : Cond.methodLink RX5 164 yX1_countIn ∈ WW := ww_in 427 (by decide +kernel) (by decide +kernel)
theorem ml_X5_167 : Cond.methodLink RX5 167 yX2_isSameBody ∈ WW := ww_in 289 (by decide +kernel) (by decide +kernel)
theorem ml_X5_171 : Cond.methodLink RX5 171 yX2_isLater ∈ WW := ww_in 293 (by decide +kernel) (by decide +kernel)
theorem ml_X5_177 : Cond.methodLink RX5 177 yX5_requirePlace ∈ WW := ww_in 641 (by decide +kernel) (by decide +kernel)
theorem ml_X5_180 : Cond.methodLink RX5 180 yX2_bodiesOnLevel ∈ WW := ww_in 645 (by decide +kernel) (by decide +kernel)
theorem ml_X5_184 : Cond.methodLink RX5 184 yX5_elementAt ∈ WW := ww_in 649 (by decide +kernel) (by decide +kernel)
theorem ml_X5_190 : Cond.methodLink RX5 190 yX2_bodyOnWay ∈ WW := ww_in 660 (by decide +kernel) (by decide +kernel)
theorem ml_X5_195 : Cond.methodLink RX5 195 yX5_requireYears ∈ WW := ww_in 683 (by decide +kernel) (by decide +kernel)
theorem ml_X5_202 : Cond.methodLink RX5 202 yX1_append ∈ WW := ww_in 689 (by decide +kernel) (by decide +kernel)
theorem ml_X5_205 : Cond.methodLink RX5 205 yX5_renewBounds ∈ WW := ww_in 545 (by decide +kernel) (by decide +kernel)
theorem ml_X5_208 : Cond.methodLink RX5 208 yX5_requireFind ∈ WW := ww_in 448 (by decide +kernel) (by decide +kernel)
theorem ml_X5_211 : Cond.methodLink RX5 211 yX5_requirePoint ∈ WW := ww_in 700 (by decide +kernel) (by decide +kernel)
theorem ml_X5_232 : Cond.methodLink RX5 232 yX5_misfit ∈ WW := ww_in 453 (by decide +kernel) (by decide +kernel)
theorem ml_X5_238 : Cond.methodLink RX5 238 yX4_setDate ∈ WW := ww_in 723 (by decide +kernel) (by decide +kernel)
theorem ml_X5_249 : Cond.methodLink RX5 249 yX1_closest ∈ WW := ww_in 748 (by decide +kernel) (by decide +kernel)
theorem ml_X5_252 : Cond.methodLink RX5 252 yX5_canBeDug ∈ WW := ww_in 763 (by decide +kernel) (by decide +kernel)
theorem ml_X5_258 : Cond.methodLink RX5 258 yX5_bit ∈ WW := ww_in 300 (by decide +kernel) (by decide +kernel)
theorem ml_X5_262 : Cond.methodLink RX5 262 yX5_unitsToDig ∈ WW := ww_in 768 (by decide +kernel) (by decide +kernel)
theorem ml_X5_267 : Cond.methodLink RX5 267 Lib.Math.min.name ∈ WW := ww_in 278 (by decide +kernel) (by decide +kernel)
theorem ml_X5_273 : Cond.methodLink RX5 273 yX5_isPairOutOfPhase ∈ WW := ww_in 285 (by decide +kernel) (by decide +kernel)
theorem ml_X5_280 : Cond.methodLink RX5 280 yX5_count ∈ WW := ww_in 313 (by decide +kernel) (by decide +kernel)
theorem ml_X5_283 : Cond.methodLink RX5 283 yX5_unit ∈ WW := ww_in 418 (by decide +kernel) (by decide +kernel)
theorem ml_X5_286 : Cond.methodLink RX5 286 yX5_bound ∈ WW := ww_in 431 (by decide +kernel) (by decide +kernel)
theorem ml_X5_290 : Cond.methodLink RX5 290 yX5_relation ∈ WW := ww_in 435 (by decide +kernel) (by decide +kernel)
theorem ml_X5_293 : Cond.methodLink RX5 293 yX5_find ∈ WW := ww_in 444 (by decide +kernel) (by decide +kernel)
theorem ml_X5_315 : Cond.methodLink RX5 315 yX2_renew ∈ WW := ww_in 506 (by decide +kernel) (by decide +kernel)
theorem ml_X5_319 : Cond.methodLink RX5 319 yX0_renew ∈ WW := ww_in 549 (by decide +kernel) (by decide +kernel)
theorem ml_X5_322 : Cond.methodLink RX5 322 yX5_doSortsFit ∈ WW := ww_in 582 (by decide +kernel) (by decide +kernel)
theorem ml_X5_325 : Cond.methodLink RX5 325 yX3_isTold ∈ WW := ww_in 585 (by decide +kernel) (by decide +kernel)
theorem ml_X5_328 : Cond.methodLink RX5 328 yX5_wouldMakeLoop ∈ WW := ww_in 589 (by decide +kernel) (by decide +kernel)
theorem ml_X0_3 : Cond.methodLink RX0 3 objectInit ∈ WW := ww_in 242 (by decide +kernel) (by decide +kernel)
theorem ml_X0_30 : Cond.methodLink RX0 30 yX0_gatherDates ∈ WW := ww_in 553 (by decide +kernel) (by decide +kernel)
theorem ml_X0_34 : Cond.methodLink RX0 34 yX0_gatherFinds ∈ WW := ww_in 560 (by decide +kernel) (by decide +kernel)
theorem ml_X0_38 : Cond.methodLink RX0 38 yX0_spread ∈ WW := ww_in 564 (by decide +kernel) (by decide +kernel)
theorem ml_X0_58 : Cond.methodLink RX0 58 Lib.Math.max.name ∈ WW := ww_in 558 (by decide +kernel) (by decide +kernel)
theorem ml_X0_67 : Cond.methodLink RX0 67 Lib.Math.min.name ∈ WW := ww_in 559 (by decide +kernel) (by decide +kernel)
theorem ml_X1_3 : Cond.methodLink RX1 3 objectInit ∈ WW := ww_in 200 (by decide +kernel) (by decide +kernel)
theorem ml_X1_37 : Cond.methodLink RX1 37 yX1_squareOfDistance ∈ WW := ww_in 752 (by decide +kernel) (by decide +kernel)
theorem ml_X2_3 : Cond.methodLink RX2 3 objectInit ∈ WW := ww_in 148 (by decide +kernel) (by decide +kernel)
theorem ml_X2_48 : Cond.methodLink RX2 48 yX2_joinUnits ∈ WW := ww_in 510 (by decide +kernel) (by decide +kernel)
theorem ml_X2_52 : Cond.methodLink RX2 52 yX2_gatherMembers ∈ WW := ww_in 519 (by decide +kernel) (by decide +kernel)
theorem ml_X2_55 : Cond.methodLink RX2 55 yX2_gatherDirectlyEarlier ∈ WW := ww_in 524 (by decide +kernel) (by decide +kernel)
theorem ml_X2_58 : Cond.methodLink RX2 58 yX2_gatherEarlier ∈ WW := ww_in 528 (by decide +kernel) (by decide +kernel)
theorem ml_X2_61 : Cond.methodLink RX2 61 yX2_gatherLater ∈ WW := ww_in 532 (by decide +kernel) (by decide +kernel)
theorem ml_X2_64 : Cond.methodLink RX2 64 yX2_gatherLinks ∈ WW := ww_in 536 (by decide +kernel) (by decide +kernel)
theorem ml_X2_71 : Cond.methodLink RX2 71 yX2_rank ∈ WW := ww_in 541 (by decide +kernel) (by decide +kernel)
theorem ml_X2_87 : Cond.methodLink RX2 87 yX2_joinBodies ∈ WW := ww_in 514 (by decide +kernel) (by decide +kernel)
theorem ml_X2_91 : Cond.methodLink RX2 91 Lib.Math.min.name ∈ WW := ww_in 518 (by decide +kernel) (by decide +kernel)
theorem ml_X2_103 : Cond.methodLink RX2 103 yJ13_bitCount_95d88 ∈ WW := ww_in 401 (by decide +kernel) (by decide +kernel)
theorem ml_X2_109 : Cond.methodLink RX2 109 Lib.Math.max.name ∈ WW := ww_in 411 (by decide +kernel) (by decide +kernel)
theorem ml_X2_112 : Cond.methodLink RX2 112 yX2_nextOnWay ∈ WW := ww_in 664 (by decide +kernel) (by decide +kernel)
theorem ml_X3_3 : Cond.methodLink RX3 3 objectInit ∈ WW := ww_in 121 (by decide +kernel) (by decide +kernel)
theorem ml_X4_3 : Cond.methodLink RX4 3 objectInit ∈ WW := ww_in 84 (by decide +kernel) (by decide +kernel)
theorem ml_L_7 : Cond.methodLink RL 7 yX5_addUnit ∈ WW := ww_in 462 (by decide +kernel) (by decide +kernel)
theorem ml_L_17 : Cond.methodLink RL 17 yX5_relate ∈ WW := ww_in 572 (by decide +kernel) (by decide +kernel)
theorem ml_L_23 : Cond.methodLink RL 23 yX5_takeBack ∈ WW := ww_in 600 (by decide +kernel) (by decide +kernel)
theorem ml_L_26 : Cond.methodLink RL 26 yX5_relation ∈ WW := ww_in 611 (by decide +kernel) (by decide +kernel)
theorem ml_L_30 : Cond.methodLink RL 30 yX5_count ∈ WW := ww_in 615 (by decide +kernel) (by decide +kernel)
theorem ml_L_33 : Cond.methodLink RL 33 yX5_unit ∈ WW := ww_in 619 (by decide +kernel) (by decide +kernel)
theorem ml_L_36 : Cond.methodLink RL 36 yX5_order ∈ WW := ww_in 623 (by decide +kernel) (by decide +kernel)
theorem ml_L_39 : Cond.methodLink RL 39 yX5_isLinked ∈ WW := ww_in 630 (by decide +kernel) (by decide +kernel)
theorem ml_L_43 : Cond.methodLink RL 43 yX5_row ∈ WW := ww_in 637 (by decide +kernel) (by decide +kernel)
theorem ml_L_47 : Cond.methodLink RL 47 yX5_way ∈ WW := ww_in 655 (by decide +kernel) (by decide +kernel)
theorem ml_L_50 : Cond.methodLink RL 50 yX5_between ∈ WW := ww_in 671 (by decide +kernel) (by decide +kernel)
theorem ml_L_53 : Cond.methodLink RL 53 yX5_addFind ∈ WW := ww_in 678 (by decide +kernel) (by decide +kernel)
theorem ml_L_57 : Cond.methodLink RL 57 yX5_place ∈ WW := ww_in 696 (by decide +kernel) (by decide +kernel)
theorem ml_L_60 : Cond.methodLink RL 60 yX5_move ∈ WW := ww_in 708 (by decide +kernel) (by decide +kernel)
theorem ml_L_63 : Cond.methodLink RL 63 yX5_find ∈ WW := ww_in 715 (by decide +kernel) (by decide +kernel)
theorem ml_L_66 : Cond.methodLink RL 66 yX5_date ∈ WW := ww_in 719 (by decide +kernel) (by decide +kernel)
theorem ml_L_69 : Cond.methodLink RL 69 yX5_bound ∈ WW := ww_in 732 (by decide +kernel) (by decide +kernel)
theorem ml_L_73 : Cond.methodLink RL 73 yX5_doubt ∈ WW := ww_in 736 (by decide +kernel) (by decide +kernel)
theorem ml_L_76 : Cond.methodLink RL 76 yX5_nearest ∈ WW := ww_in 743 (by decide +kernel) (by decide +kernel)
theorem ml_L_79 : Cond.methodLink RL 79 yX5_dig ∈ WW := ww_in 759 (by decide +kernel) (by decide +kernel)
theorem ml_L_82 : Cond.methodLink RL 82 yX5_next ∈ WW := ww_in 775 (by decide +kernel) (by decide +kernel)
theorem ml_L_85 : Cond.methodLink RL 85 yX5_setPhase ∈ WW := ww_in 782 (by decide +kernel) (by decide +kernel)
theorem ml_L_88 : Cond.methodLink RL 88 yX5_init ∈ WW := ww_in 73 (by decide +kernel) (by decide +kernel)
theorem ml_L_91 : Cond.methodLink RL 91 yX6_init ∈ WW := ww_in 789 (by decide +kernel) (by decide +kernel)
theorem ml_L_92 : Cond.methodLink RL 92 yL_addUnit ∈ WW := ww_in 457 (by decide +kernel) (by decide +kernel)
theorem ml_L_97 : Cond.methodLink RL 97 yX6_addUnit ∈ WW := ww_in 859 (by decide +kernel) (by decide +kernel)
theorem ml_L_98 : Cond.methodLink RL 98 yX6_thrown ∈ WW := ww_in 855 (by decide +kernel) (by decide +kernel)
theorem ml_L_102 : Cond.methodLink RL 102 yL_relate ∈ WW := ww_in 568 (by decide +kernel) (by decide +kernel)
theorem ml_L_105 : Cond.methodLink RL 105 yX6_relate ∈ WW := ww_in 892 (by decide +kernel) (by decide +kernel)
theorem ml_L_106 : Cond.methodLink RL 106 yL_takeBack ∈ WW := ww_in 597 (by decide +kernel) (by decide +kernel)
theorem ml_L_108 : Cond.methodLink RL 108 yX6_takeBack ∈ WW := ww_in 908 (by decide +kernel) (by decide +kernel)
theorem ml_L_109 : Cond.methodLink RL 109 yL_relation ∈ WW := ww_in 608 (by decide +kernel) (by decide +kernel)
theorem ml_L_112 : Cond.methodLink RL 112 yX6_relation ∈ WW := ww_in 912 (by decide +kernel) (by decide +kernel)
theorem ml_L_113 : Cond.methodLink RL 113 yL_count ∈ WW := ww_in 612 (by decide +kernel) (by decide +kernel)
theorem ml_L_115 : Cond.methodLink RL 115 yX6_count ∈ WW := ww_in 920 (by decide +kernel) (by decide +kernel)
theorem ml_L_116 : Cond.methodLink RL 116 yL_unit ∈ WW := ww_in 616 (by decide +kernel) (by decide +kernel)
theorem ml_L_118 : Cond.methodLink RL 118 yX6_unit ∈ WW := ww_in 969 (by decide +kernel) (by decide +kernel)
theorem ml_L_119 : Cond.methodLink RL 119 yL_order ∈ WW := ww_in 620 (by decide +kernel) (by decide +kernel)
theorem ml_L_121 : Cond.methodLink RL 121 yX6_order ∈ WW := ww_in 985 (by decide +kernel) (by decide +kernel)
theorem ml_L_122 : Cond.methodLink RL 122 yL_isLinked ∈ WW := ww_in 627 (by decide +kernel) (by decide +kernel)
theorem ml_L_124 : Cond.methodLink RL 124 yX6_isLinked ∈ WW := ww_in 989 (by decide +kernel) (by decide +kernel)
theorem ml_L_125 : Cond.methodLink RL 125 yL_row ∈ WW := ww_in 634 (by decide +kernel) (by decide +kernel)
theorem ml_L_128 : Cond.methodLink RL 128 yX6_row ∈ WW := ww_in 993 (by decide +kernel) (by decide +kernel)
theorem ml_L_129 : Cond.methodLink RL 129 yL_way ∈ WW := ww_in 652 (by decide +kernel) (by decide +kernel)
theorem ml_L_131 : Cond.methodLink RL 131 yX6_way ∈ WW := ww_in 997 (by decide +kernel) (by decide +kernel)
theorem ml_L_132 : Cond.methodLink RL 132 yL_between ∈ WW := ww_in 668 (by decide +kernel) (by decide +kernel)
theorem ml_L_134 : Cond.methodLink RL 134 yX6_between ∈ WW := ww_in 1005 (by decide +kernel) (by decide +kernel)
theorem ml_L_135 : Cond.methodLink RL 135 yL_addFind ∈ WW := ww_in 675 (by decide +kernel) (by decide +kernel)
theorem ml_L_138 : Cond.methodLink RL 138 yX6_addFind ∈ WW := ww_in 1009 (by decide +kernel) (by decide +kernel)
theorem ml_L_139 : Cond.methodLink RL 139 yL_place ∈ WW := ww_in 693 (by decide +kernel) (by decide +kernel)
theorem ml_L_141 : Cond.methodLink RL 141 yX6_place ∈ WW := ww_in 1016 (by decide +kernel) (by decide +kernel)
theorem ml_L_142 : Cond.methodLink RL 142 yL_move ∈ WW := ww_in 705 (by decide +kernel) (by decide +kernel)
theorem ml_L_144 : Cond.methodLink RL 144 yX6_move ∈ WW := ww_in 1027 (by decide +kernel) (by decide +kernel)
theorem ml_L_145 : Cond.methodLink RL 145 yL_find ∈ WW := ww_in 712 (by decide +kernel) (by decide +kernel)
theorem ml_L_147 : Cond.methodLink RL 147 yX6_find ∈ WW := ww_in 1031 (by decide +kernel) (by decide +kernel)
theorem ml_L_148 : Cond.methodLink RL 148 yL_date ∈ WW := ww_in 716 (by decide +kernel) (by decide +kernel)
theorem ml_L_150 : Cond.methodLink RL 150 yX6_date ∈ WW := ww_in 1039 (by decide +kernel) (by decide +kernel)
theorem ml_L_151 : Cond.methodLink RL 151 yL_bound ∈ WW := ww_in 729 (by decide +kernel) (by decide +kernel)
theorem ml_L_154 : Cond.methodLink RL 154 yX6_bound ∈ WW := ww_in 1043 (by decide +kernel) (by decide +kernel)
theorem ml_L_155 : Cond.methodLink RL 155 yL_doubt ∈ WW := ww_in 733 (by decide +kernel) (by decide +kernel)
theorem ml_L_157 : Cond.methodLink RL 157 yX6_doubt ∈ WW := ww_in 1047 (by decide +kernel) (by decide +kernel)
theorem ml_L_158 : Cond.methodLink RL 158 yL_nearest ∈ WW := ww_in 740 (by decide +kernel) (by decide +kernel)
theorem ml_L_160 : Cond.methodLink RL 160 yX6_nearest ∈ WW := ww_in 1051 (by decide +kernel) (by decide +kernel)
theorem ml_L_161 : Cond.methodLink RL 161 yL_dig ∈ WW := ww_in 756 (by decide +kernel) (by decide +kernel)
theorem ml_L_163 : Cond.methodLink RL 163 yX6_dig ∈ WW := ww_in 1055 (by decide +kernel) (by decide +kernel)
theorem ml_L_164 : Cond.methodLink RL 164 yL_next ∈ WW := ww_in 772 (by decide +kernel) (by decide +kernel)
theorem ml_L_166 : Cond.methodLink RL 166 yX6_next ∈ WW := ww_in 1063 (by decide +kernel) (by decide +kernel)
theorem ml_L_167 : Cond.methodLink RL 167 yL_setPhase ∈ WW := ww_in 779 (by decide +kernel) (by decide +kernel)
theorem ml_L_169 : Cond.methodLink RL 169 yX6_setPhase ∈ WW := ww_in 1067 (by decide +kernel) (by decide +kernel)
theorem ml_L_170 : Cond.methodLink RL 170 yX5_phaseAll ∈ WW := ww_in 274 (by decide +kernel) (by decide +kernel)
theorem ml_L_173 : Cond.methodLink RL 173 yX6_phaseAll ∈ WW := ww_in 1071 (by decide +kernel) (by decide +kernel)
theorem ml_L_174 : Cond.methodLink RL 174 yX5_outOfPhase ∈ WW := ww_in 281 (by decide +kernel) (by decide +kernel)
theorem ml_L_178 : Cond.methodLink RL 178 yX6_outOfPhase ∈ WW := ww_in 1075 (by decide +kernel) (by decide +kernel)
theorem ml_L_179 : Cond.methodLink RL 179 yX5_meanHeight ∈ WW := ww_in 303 (by decide +kernel) (by decide +kernel)
theorem ml_L_183 : Cond.methodLink RL 183 yX6_meanHeight ∈ WW := ww_in 1079 (by decide +kernel) (by decide +kernel)
theorem ml_L_184 : Cond.methodLink RL 184 yX5_digest ∈ WW := ww_in 307 (by decide +kernel) (by decide +kernel)
theorem ml_L_188 : Cond.methodLink RL 188 yX6_digest ∈ WW := ww_in 1083 (by decide +kernel) (by decide +kernel)
theorem ml_X6_1 : Cond.methodLink RX6 1 objectInit ∈ WW := ww_in 792 (by decide +kernel) (by decide +kernel)
theorem ml_X6_67 : Cond.methodLink RX6 67 yX6_isIn ∈ WW := ww_in 863 (by decide +kernel) (by decide +kernel)
theorem ml_X6_74 : Cond.methodLink RX6 74 Lib.Math.min.name ∈ WW := ww_in 882 (by decide +kernel) (by decide +kernel)
theorem ml_X6_80 : Cond.methodLink RX6 80 yX6_joinBodies ∈ WW := ww_in 878 (by decide +kernel) (by decide +kernel)
theorem ml_X6_83 : Cond.methodLink RX6 83 yX6_has ∈ WW := ww_in 883 (by decide +kernel) (by decide +kernel)
theorem ml_X6_87 : Cond.methodLink RX6 87 yX6_follow ∈ WW := ww_in 874 (by decide +kernel) (by decide +kernel)
theorem ml_X6_93 : Cond.methodLink RX6 93 yX6_rank ∈ WW := ww_in 887 (by decide +kernel) (by decide +kernel)
theorem ml_X6_97 : Cond.methodLink RX6 97 Lib.Math.max.name ∈ WW := ww_in 891 (by decide +kernel) (by decide +kernel)
theorem ml_X6_100 : Cond.methodLink RX6 100 yX6_no ∈ WW := ww_in 866 (by decide +kernel) (by decide +kernel)
theorem ml_X6_104 : Cond.methodLink RX6 104 yX6_settle ∈ WW := ww_in 870 (by decide +kernel) (by decide +kernel)
theorem ml_X6_107 : Cond.methodLink RX6 107 yX6_isUnit ∈ WW := ww_in 896 (by decide +kernel) (by decide +kernel)
theorem ml_X6_111 : Cond.methodLink RX6 111 yX6_areSorts ∈ WW := ww_in 900 (by decide +kernel) (by decide +kernel)
theorem ml_X6_114 : Cond.methodLink RX6 114 yX6_isTold ∈ WW := ww_in 904 (by decide +kernel) (by decide +kernel)
theorem ml_X6_117 : Cond.methodLink RX6 117 yX6_relationTold ∈ WW := ww_in 916 (by decide +kernel) (by decide +kernel)
theorem ml_X6_123 : Cond.methodLink RX6 123 yX6_year ∈ WW := ww_in 953 (by decide +kernel) (by decide +kernel)
theorem ml_X6_127 : Cond.methodLink RX6 127 yX6_isBody ∈ WW := ww_in 932 (by decide +kernel) (by decide +kernel)
theorem ml_X6_130 : Cond.methodLink RX6 130 yJ13_bitCount_95d88 ∈ WW := ww_in 940 (by decide +kernel) (by decide +kernel)
theorem ml_X6_136 : Cond.methodLink RX6 136 yX6_isInDoubt ∈ WW := ww_in 949 (by decide +kernel) (by decide +kernel)
theorem ml_X6_139 : Cond.methodLink RX6 139 yX6_areOut ∈ WW := ww_in 965 (by decide +kernel) (by decide +kernel)
theorem ml_X6_143 : Cond.methodLink RX6 143 yX6_bodies ∈ WW := ww_in 928 (by decide +kernel) (by decide +kernel)
theorem ml_X6_147 : Cond.methodLink RX6 147 yX6_links ∈ WW := ww_in 936 (by decide +kernel) (by decide +kernel)
theorem ml_X6_150 : Cond.methodLink RX6 150 yX6_dug ∈ WW := ww_in 941 (by decide +kernel) (by decide +kernel)
theorem ml_X6_153 : Cond.methodLink RX6 153 yX6_doubts ∈ WW := ww_in 945 (by decide +kernel) (by decide +kernel)
theorem ml_X6_156 : Cond.methodLink RX6 156 yX6_levels ∈ WW := ww_in 957 (by decide +kernel) (by decide +kernel)
theorem ml_X6_159 : Cond.methodLink RX6 159 yX6_pairsOut ∈ WW := ww_in 961 (by decide +kernel) (by decide +kernel)
theorem ml_X6_162 : Cond.methodLink RX6 162 yX6_counted ∈ WW := ww_in 924 (by decide +kernel) (by decide +kernel)
theorem ml_X6_165 : Cond.methodLink RX6 165 yX6_sizeOf ∈ WW := ww_in 977 (by decide +kernel) (by decide +kernel)
theorem ml_X6_168 : Cond.methodLink RX6 168 yX6_findsIn ∈ WW := ww_in 981 (by decide +kernel) (by decide +kernel)
theorem ml_X6_171 : Cond.methodLink RX6 171 yX6_unitTold ∈ WW := ww_in 973 (by decide +kernel) (by decide +kernel)
theorem ml_X6_174 : Cond.methodLink RX6 174 yX6_farTo ∈ WW := ww_in 1001 (by decide +kernel) (by decide +kernel)
theorem ml_X6_178 : Cond.methodLink RX6 178 arraycopyName ∈ WW := ww_in 1013 (by decide +kernel) (by decide +kernel)
theorem ml_X6_184 : Cond.methodLink RX6 184 yX6_isFind ∈ WW := ww_in 1020 (by decide +kernel) (by decide +kernel)
theorem ml_X6_187 : Cond.methodLink RX6 187 yX6_isPlace ∈ WW := ww_in 1024 (by decide +kernel) (by decide +kernel)
theorem ml_X6_190 : Cond.methodLink RX6 190 yX6_findTold ∈ WW := ww_in 1035 (by decide +kernel) (by decide +kernel)
theorem ml_X6_193 : Cond.methodLink RX6 193 yX6_canDig ∈ WW := ww_in 1059 (by decide +kernel) (by decide +kernel)
theorem yv_X5_init : YV yX5_init cX5_init 1 none 0 := ⟨ww_in 75 (by decide +kernel) (by decide +kernel), ww_in 55 (by decide +kernel) (by decide +kernel), by decide +kernel, by decide +kernel, by decide +kernel⟩
theorem wi_X5_init : Cond.instanceMethod yX5_init ∈ WW := ww_in 74 (by decide +kernel) (by decide +kernel)
theorem yv_X5_addFind : YV yX5_addFind cX5_addFind 6 (some .int) 4 := ⟨ww_in 681 (by decide +kernel) (by decide +kernel), ww_in 55 (by decide +kernel) (by decide +kernel), by decide +kernel, by decide +kernel, by decide +kernel⟩
theorem wi_X5_addFind : Cond.instanceMethod yX5_addFind ∈ WW := ww_in 679 (by decide +kernel) (by decide +kernel)
theorem wl_X5_addFind : Cond.selects yX5_addFind.cls yX5_addFind yX5_addFind ∈ WW := ww_in 680 (by decide +kernel) (by decide +kernel)
theorem yv_X5_addUnit : YV yX5_addUnit cX5_addUnit 3 (some .int) 1 := ⟨ww_in 465 (by decide +kernel) (by decide +kernel), ww_in 55 (by decide +kernel) (by decide +kernel), by decide +kernel, by decide +kernel, by decide +kernel⟩
theorem wi_X5_addUnit : Cond.instanceMethod yX5_addUnit ∈ WW := ww_in 463 (by decide +kernel) (by decide +kernel)
theorem wl_X5_addUnit : Cond.selects yX5_addUnit.cls yX5_addUnit yX5_addUnit ∈ WW := ww_in 464 (by decide +kernel) (by decide +kernel)
theorem yv_X5_between : YV yX5_between cX5_between 3 (some .int) 2 := ⟨ww_in 674 (by decide +kernel) (by decide +kernel), ww_in 55 (by decide +kernel) (by decide +kernel), by decide +kernel, by decide +kernel, by decide +kernel⟩
theorem wi_X5_between : Cond.instanceMethod yX5_between ∈ WW := ww_in 672 (by decide +kernel) (by decide +kernel)
theorem wl_X5_between : Cond.selects yX5_between.cls yX5_between yX5_between ∈ WW := ww_in 673 (by decide +kernel) (by decide +kernel)
theorem yv_X5_bit : YV yX5_bit cX5_bit 1 (some .long) 1 := ⟨ww_in 302 (by decide +kernel) (by decide +kernel), ww_in 55 (by decide +kernel) (by decide +kernel), by decide +kernel, by decide +kernel, by decide +kernel⟩
theorem ws_X5_bit : Cond.static yX5_bit ∈ WW := ww_in 301 (by decide +kernel) (by decide +kernel)
theorem yv_X5_bodiesInDoubt : YV yX5_bodiesInDoubt cX5_bodiesInDoubt 4 (some .long) 0 := ⟨ww_in 405 (by decide +kernel) (by decide +kernel), ww_in 55 (by decide +kernel) (by decide +kernel), by decide +kernel, by decide +kernel, by decide +kernel⟩
theorem wi_X5_bodiesInDoubt : Cond.instanceMethod yX5_bodiesInDoubt ∈ WW := ww_in 404 (by decide +kernel) (by decide +kernel)
theorem wl_X5_bodiesInDoubt : Cond.selects yX5_bodiesInDoubt.cls yX5_bodiesInDoubt yX5_bodiesInDoubt ∈ WW := ww_in 2 (by decide +kernel) (by decide +kernel)
theorem yv_X5_bound : YV yX5_bound cX5_bound 4 (some .int) 2 := ⟨ww_in 434 (by decide +kernel) (by decide +kernel), ww_in 55 (by decide +kernel) (by decide +kernel), by decide +kernel, by decide +kernel, by decide +kernel⟩
theorem wi_X5_bound : Cond.instanceMethod yX5_bound ∈ WW := ww_in 432 (by decide +kernel) (by decide +kernel)
theorem wl_X5_bound : Cond.selects yX5_bound.cls yX5_bound yX5_bound ∈ WW := ww_in 433 (by decide +kernel) (by decide +kernel)
theorem yv_X5_canBeDug : YV yX5_canBeDug cX5_canBeDug 3 (some .boolean) 1 := ⟨ww_in 766 (by decide +kernel) (by decide +kernel), ww_in 55 (by decide +kernel) (by decide +kernel), by decide +kernel, by decide +kernel, by decide +kernel⟩
theorem wi_X5_canBeDug : Cond.instanceMethod yX5_canBeDug ∈ WW := ww_in 765 (by decide +kernel) (by decide +kernel)
theorem wl_X5_canBeDug : Cond.selects yX5_canBeDug.cls yX5_canBeDug yX5_canBeDug ∈ WW := ww_in 25 (by decide +kernel) (by decide +kernel)
theorem yv_X5_count : YV yX5_count cX5_count 2 (some .int) 1 := ⟨ww_in 316 (by decide +kernel) (by decide +kernel), ww_in 55 (by decide +kernel) (by decide +kernel), by decide +kernel, by decide +kernel, by decide +kernel⟩
theorem wi_X5_count : Cond.instanceMethod yX5_count ∈ WW := ww_in 314 (by decide +kernel) (by decide +kernel)
theorem wl_X5_count : Cond.selects yX5_count.cls yX5_count yX5_count ∈ WW := ww_in 315 (by decide +kernel) (by decide +kernel)
theorem yv_X5_date : YV yX5_date cX5_date 5 (some .int) 3 := ⟨ww_in 722 (by decide +kernel) (by decide +kernel), ww_in 55 (by decide +kernel) (by decide +kernel), by decide +kernel, by decide +kernel, by decide +kernel⟩
theorem wi_X5_date : Cond.instanceMethod yX5_date ∈ WW := ww_in 720 (by decide +kernel) (by decide +kernel)
theorem wl_X5_date : Cond.selects yX5_date.cls yX5_date yX5_date ∈ WW := ww_in 721 (by decide +kernel) (by decide +kernel)
theorem yv_X5_dig : YV yX5_dig cX5_dig 2 (some .int) 1 := ⟨ww_in 762 (by decide +kernel) (by decide +kernel), ww_in 55 (by decide +kernel) (by decide +kernel), by decide +kernel, by decide +kernel, by decide +kernel⟩
theorem wi_X5_dig : Cond.instanceMethod yX5_dig ∈ WW := ww_in 760 (by decide +kernel) (by decide +kernel)
theorem wl_X5_dig : Cond.selects yX5_dig.cls yX5_dig yX5_dig ∈ WW := ww_in 761 (by decide +kernel) (by decide +kernel)
theorem yv_X5_digest : YV yX5_digest cX5_digest 5 (some .long) 0 := ⟨ww_in 310 (by decide +kernel) (by decide +kernel), ww_in 55 (by decide +kernel) (by decide +kernel), by decide +kernel, by decide +kernel, by decide +kernel⟩
theorem wi_X5_digest : Cond.instanceMethod yX5_digest ∈ WW := ww_in 308 (by decide +kernel) (by decide +kernel)
theorem wl_X5_digest : Cond.selects yX5_digest.cls yX5_digest yX5_digest ∈ WW := ww_in 309 (by decide +kernel) (by decide +kernel)
theorem yv_X5_doSortsFit : YV yX5_doSortsFit cX5_doSortsFit 3 (some .boolean) 3 := ⟨ww_in 584 (by decide +kernel) (by decide +kernel), ww_in 55 (by decide +kernel) (by decide +kernel), by decide +kernel, by decide +kernel, by decide +kernel⟩
theorem ws_X5_doSortsFit : Cond.static yX5_doSortsFit ∈ WW := ww_in 583 (by decide +kernel) (by decide +kernel)
theorem yv_X5_doubt : YV yX5_doubt cX5_doubt 2 (some .int) 1 := ⟨ww_in 739 (by decide +kernel) (by decide +kernel), ww_in 55 (by decide +kernel) (by decide +kernel), by decide +kernel, by decide +kernel, by decide +kernel⟩
theorem wi_X5_doubt : Cond.instanceMethod yX5_doubt ∈ WW := ww_in 737 (by decide +kernel) (by decide +kernel)
theorem wl_X5_doubt : Cond.selects yX5_doubt.cls yX5_doubt yX5_doubt ∈ WW := ww_in 738 (by decide +kernel) (by decide +kernel)
theorem yv_X5_elementAt : YV yX5_elementAt cX5_elementAt 5 (some .int) 2 := ⟨ww_in 651 (by decide +kernel) (by decide +kernel), ww_in 55 (by decide +kernel) (by decide +kernel), by decide +kernel, by decide +kernel, by decide +kernel⟩
theorem ws_X5_elementAt : Cond.static yX5_elementAt ∈ WW := ww_in 650 (by decide +kernel) (by decide +kernel)
theorem yv_X5_find : YV yX5_find cX5_find 3 (some .int) 2 := ⟨ww_in 447 (by decide +kernel) (by decide +kernel), ww_in 55 (by decide +kernel) (by decide +kernel), by decide +kernel, by decide +kernel, by decide +kernel⟩
theorem wi_X5_find : Cond.instanceMethod yX5_find ∈ WW := ww_in 445 (by decide +kernel) (by decide +kernel)
theorem wl_X5_find : Cond.selects yX5_find.cls yX5_find yX5_find ∈ WW := ww_in 446 (by decide +kernel) (by decide +kernel)
theorem yv_X5_has : YV yX5_has cX5_has 3 (some .boolean) 2 := ⟨ww_in 299 (by decide +kernel) (by decide +kernel), ww_in 55 (by decide +kernel) (by decide +kernel), by decide +kernel, by decide +kernel, by decide +kernel⟩
theorem ws_X5_has : Cond.static yX5_has ∈ WW := ww_in 298 (by decide +kernel) (by decide +kernel)
theorem yv_X5_isLinked : YV yX5_isLinked cX5_isLinked 3 (some .boolean) 2 := ⟨ww_in 633 (by decide +kernel) (by decide +kernel), ww_in 55 (by decide +kernel) (by decide +kernel), by decide +kernel, by decide +kernel, by decide +kernel⟩
theorem wi_X5_isLinked : Cond.instanceMethod yX5_isLinked ∈ WW := ww_in 631 (by decide +kernel) (by decide +kernel)
theorem wl_X5_isLinked : Cond.selects yX5_isLinked.cls yX5_isLinked yX5_isLinked ∈ WW := ww_in 632 (by decide +kernel) (by decide +kernel)
theorem yv_X5_isPairOutOfPhase : YV yX5_isPairOutOfPhase cX5_isPairOutOfPhase 3 (some .boolean) 2 := ⟨ww_in 288 (by decide +kernel) (by decide +kernel), ww_in 55 (by decide +kernel) (by decide +kernel), by decide +kernel, by decide +kernel, by decide +kernel⟩
theorem wi_X5_isPairOutOfPhase : Cond.instanceMethod yX5_isPairOutOfPhase ∈ WW := ww_in 287 (by decide +kernel) (by decide +kernel)
theorem wl_X5_isPairOutOfPhase : Cond.selects yX5_isPairOutOfPhase.cls yX5_isPairOutOfPhase yX5_isPairOutOfPhase ∈ WW := ww_in 0 (by decide +kernel) (by decide +kernel)
theorem yv_X5_isWithin : YV yX5_isWithin cX5_isWithin 3 (some .boolean) 3 := ⟨ww_in 322 (by decide +kernel) (by decide +kernel), ww_in 55 (by decide +kernel) (by decide +kernel), by decide +kernel, by decide +kernel, by decide +kernel⟩
theorem ws_X5_isWithin : Cond.static yX5_isWithin ∈ WW := ww_in 321 (by decide +kernel) (by decide +kernel)
theorem yv_X5_meanHeight : YV yX5_meanHeight cX5_meanHeight 3 (some .double) 0 := ⟨ww_in 306 (by decide +kernel) (by decide +kernel), ww_in 55 (by decide +kernel) (by decide +kernel), by decide +kernel, by decide +kernel, by decide +kernel⟩
theorem wi_X5_meanHeight : Cond.instanceMethod yX5_meanHeight ∈ WW := ww_in 304 (by decide +kernel) (by decide +kernel)
theorem wl_X5_meanHeight : Cond.selects yX5_meanHeight.cls yX5_meanHeight yX5_meanHeight ∈ WW := ww_in 305 (by decide +kernel) (by decide +kernel)
theorem yv_X5_misfit : YV yX5_misfit cX5_misfit 3 (some .int) 1 := ⟨ww_in 456 (by decide +kernel) (by decide +kernel), ww_in 55 (by decide +kernel) (by decide +kernel), by decide +kernel, by decide +kernel, by decide +kernel⟩
theorem wi_X5_misfit : Cond.instanceMethod yX5_misfit ∈ WW := ww_in 455 (by decide +kernel) (by decide +kernel)
theorem wl_X5_misfit : Cond.selects yX5_misfit.cls yX5_misfit yX5_misfit ∈ WW := ww_in 7 (by decide +kernel) (by decide +kernel)
theorem yv_X5_move : YV yX5_move cX5_move 4 (some .int) 2 := ⟨ww_in 711 (by decide +kernel) (by decide +kernel), ww_in 55 (by decide +kernel) (by decide +kernel), by decide +kernel, by decide +kernel, by decide +kernel⟩
theorem wi_X5_move : Cond.instanceMethod yX5_move ∈ WW := ww_in 709 (by decide +kernel) (by decide +kernel)
theorem wl_X5_move : Cond.selects yX5_move.cls yX5_move yX5_move ∈ WW := ww_in 710 (by decide +kernel) (by decide +kernel)
theorem yv_X5_nearest : YV yX5_nearest cX5_nearest 5 (some .int) 4 := ⟨ww_in 746 (by decide +kernel) (by decide +kernel), ww_in 55 (by decide +kernel) (by decide +kernel), by decide +kernel, by decide +kernel, by decide +kernel⟩
theorem wi_X5_nearest : Cond.instanceMethod yX5_nearest ∈ WW := ww_in 744 (by decide +kernel) (by decide +kernel)
theorem wl_X5_nearest : Cond.selects yX5_nearest.cls yX5_nearest yX5_nearest ∈ WW := ww_in 745 (by decide +kernel) (by decide +kernel)
theorem yv_X5_next : YV yX5_next cX5_next 2 (some .int) 1 := ⟨ww_in 778 (by decide +kernel) (by decide +kernel), ww_in 55 (by decide +kernel) (by decide +kernel), by decide +kernel, by decide +kernel, by decide +kernel⟩
theorem wi_X5_next : Cond.instanceMethod yX5_next ∈ WW := ww_in 776 (by decide +kernel) (by decide +kernel)
theorem wl_X5_next : Cond.selects yX5_next.cls yX5_next yX5_next ∈ WW := ww_in 777 (by decide +kernel) (by decide +kernel)
theorem yv_X5_order : YV yX5_order cX5_order 3 (some .int) 2 := ⟨ww_in 626 (by decide +kernel) (by decide +kernel), ww_in 55 (by decide +kernel) (by decide +kernel), by decide +kernel, by decide +kernel, by decide +kernel⟩
theorem wi_X5_order : Cond.instanceMethod yX5_order ∈ WW := ww_in 624 (by decide +kernel) (by decide +kernel)
theorem wl_X5_order : Cond.selects yX5_order.cls yX5_order yX5_order ∈ WW := ww_in 625 (by decide +kernel) (by decide +kernel)
theorem yv_X5_outOfPhase : YV yX5_outOfPhase cX5_outOfPhase 4 (some .int) 1 := ⟨ww_in 284 (by decide +kernel) (by decide +kernel), ww_in 55 (by decide +kernel) (by decide +kernel), by decide +kernel, by decide +kernel, by decide +kernel⟩
theorem wi_X5_outOfPhase : Cond.instanceMethod yX5_outOfPhase ∈ WW := ww_in 282 (by decide +kernel) (by decide +kernel)
theorem wl_X5_outOfPhase : Cond.selects yX5_outOfPhase.cls yX5_outOfPhase yX5_outOfPhase ∈ WW := ww_in 283 (by decide +kernel) (by decide +kernel)
theorem yv_X5_pairsOutOfPhase : YV yX5_pairsOutOfPhase cX5_pairsOutOfPhase 4 (some .int) 0 := ⟨ww_in 417 (by decide +kernel) (by decide +kernel), ww_in 55 (by decide +kernel) (by decide +kernel), by decide +kernel, by decide +kernel, by decide +kernel⟩
theorem wi_X5_pairsOutOfPhase : Cond.instanceMethod yX5_pairsOutOfPhase ∈ WW := ww_in 416 (by decide +kernel) (by decide +kernel)
theorem wl_X5_pairsOutOfPhase : Cond.selects yX5_pairsOutOfPhase.cls yX5_pairsOutOfPhase yX5_pairsOutOfPhase ∈ WW := ww_in 3 (by decide +kernel) (by decide +kernel)
theorem yv_X5_phaseAll : YV yX5_phaseAll cX5_phaseAll 4 (some .int) 0 := ⟨ww_in 277 (by decide +kernel) (by decide +kernel), ww_in 55 (by decide +kernel) (by decide +kernel), by decide +kernel, by decide +kernel, by decide +kernel⟩
theorem wi_X5_phaseAll : Cond.instanceMethod yX5_phaseAll ∈ WW := ww_in 275 (by decide +kernel) (by decide +kernel)
theorem wl_X5_phaseAll : Cond.selects yX5_phaseAll.cls yX5_phaseAll yX5_phaseAll ∈ WW := ww_in 276 (by decide +kernel) (by decide +kernel)
theorem yv_X5_place : YV yX5_place cX5_place 6 (some .int) 4 := ⟨ww_in 699 (by decide +kernel) (by decide +kernel), ww_in 55 (by decide +kernel) (by decide +kernel), by decide +kernel, by decide +kernel, by decide +kernel⟩
theorem wi_X5_place : Cond.instanceMethod yX5_place ∈ WW := ww_in 697 (by decide +kernel) (by decide +kernel)
theorem wl_X5_place : Cond.selects yX5_place.cls yX5_place yX5_place ∈ WW := ww_in 698 (by decide +kernel) (by decide +kernel)
theorem yv_X5_relate : YV yX5_relate cX5_relate 5 (some .int) 3 := ⟨ww_in 575 (by decide +kernel) (by decide +kernel), ww_in 55 (by decide +kernel) (by decide +kernel), by decide +kernel, by decide +kernel, by decide +kernel⟩
theorem wi_X5_relate : Cond.instanceMethod yX5_relate ∈ WW := ww_in 573 (by decide +kernel) (by decide +kernel)
theorem wl_X5_relate : Cond.selects yX5_relate.cls yX5_relate yX5_relate ∈ WW := ww_in 574 (by decide +kernel) (by decide +kernel)
theorem yv_X5_relation : YV yX5_relation cX5_relation 3 (some .int) 2 := ⟨ww_in 438 (by decide +kernel) (by decide +kernel), ww_in 55 (by decide +kernel) (by decide +kernel), by decide +kernel, by decide +kernel, by decide +kernel⟩
theorem wi_X5_relation : Cond.instanceMethod yX5_relation ∈ WW := ww_in 436 (by decide +kernel) (by decide +kernel)
theorem wl_X5_relation : Cond.selects yX5_relation.cls yX5_relation yX5_relation ∈ WW := ww_in 437 (by decide +kernel) (by decide +kernel)
theorem yv_X5_renewBounds : YV yX5_renewBounds cX5_renewBounds 1 none 0 := ⟨ww_in 548 (by decide +kernel) (by decide +kernel), ww_in 55 (by decide +kernel) (by decide +kernel), by decide +kernel, by decide +kernel, by decide +kernel⟩
theorem wi_X5_renewBounds : Cond.instanceMethod yX5_renewBounds ∈ WW := ww_in 547 (by decide +kernel) (by decide +kernel)
theorem wl_X5_renewBounds : Cond.selects yX5_renewBounds.cls yX5_renewBounds yX5_renewBounds ∈ WW := ww_in 17 (by decide +kernel) (by decide +kernel)
theorem yv_X5_renewMatrix : YV yX5_renewMatrix cX5_renewMatrix 1 none 0 := ⟨ww_in 505 (by decide +kernel) (by decide +kernel), ww_in 55 (by decide +kernel) (by decide +kernel), by decide +kernel, by decide +kernel, by decide +kernel⟩
theorem wi_X5_renewMatrix : Cond.instanceMethod yX5_renewMatrix ∈ WW := ww_in 504 (by decide +kernel) (by decide +kernel)
theorem wl_X5_renewMatrix : Cond.selects yX5_renewMatrix.cls yX5_renewMatrix yX5_renewMatrix ∈ WW := ww_in 8 (by decide +kernel) (by decide +kernel)
theorem yv_X5_requireFact : YV yX5_requireFact cX5_requireFact 2 none 2 := ⟨ww_in 319 (by decide +kernel) (by decide +kernel), ww_in 55 (by decide +kernel) (by decide +kernel), by decide +kernel, by decide +kernel, by decide +kernel⟩
theorem ws_X5_requireFact : Cond.static yX5_requireFact ∈ WW := ww_in 318 (by decide +kernel) (by decide +kernel)
theorem yv_X5_requireFind : YV yX5_requireFind cX5_requireFind 2 none 1 := ⟨ww_in 451 (by decide +kernel) (by decide +kernel), ww_in 55 (by decide +kernel) (by decide +kernel), by decide +kernel, by decide +kernel, by decide +kernel⟩
theorem wi_X5_requireFind : Cond.instanceMethod yX5_requireFind ∈ WW := ww_in 450 (by decide +kernel) (by decide +kernel)
theorem wl_X5_requireFind : Cond.selects yX5_requireFind.cls yX5_requireFind yX5_requireFind ∈ WW := ww_in 6 (by decide +kernel) (by decide +kernel)
theorem yv_X5_requirePlace : YV yX5_requirePlace cX5_requirePlace 1 none 1 := ⟨ww_in 643 (by decide +kernel) (by decide +kernel), ww_in 55 (by decide +kernel) (by decide +kernel), by decide +kernel, by decide +kernel, by decide +kernel⟩
theorem ws_X5_requirePlace : Cond.static yX5_requirePlace ∈ WW := ww_in 642 (by decide +kernel) (by decide +kernel)
theorem yv_X5_requirePoint : YV yX5_requirePoint cX5_requirePoint 3 none 3 := ⟨ww_in 702 (by decide +kernel) (by decide +kernel), ww_in 55 (by decide +kernel) (by decide +kernel), by decide +kernel, by decide +kernel, by decide +kernel⟩
theorem ws_X5_requirePoint : Cond.static yX5_requirePoint ∈ WW := ww_in 701 (by decide +kernel) (by decide +kernel)
theorem yv_X5_requireRelation : YV yX5_requireRelation cX5_requireRelation 2 none 1 := ⟨ww_in 442 (by decide +kernel) (by decide +kernel), ww_in 55 (by decide +kernel) (by decide +kernel), by decide +kernel, by decide +kernel, by decide +kernel⟩
theorem wi_X5_requireRelation : Cond.instanceMethod yX5_requireRelation ∈ WW := ww_in 441 (by decide +kernel) (by decide +kernel)
theorem wl_X5_requireRelation : Cond.selects yX5_requireRelation.cls yX5_requireRelation yX5_requireRelation ∈ WW := ww_in 5 (by decide +kernel) (by decide +kernel)
theorem yv_X5_requireUnit : YV yX5_requireUnit cX5_requireUnit 2 none 1 := ⟨ww_in 425 (by decide +kernel) (by decide +kernel), ww_in 55 (by decide +kernel) (by decide +kernel), by decide +kernel, by decide +kernel, by decide +kernel⟩
theorem wi_X5_requireUnit : Cond.instanceMethod yX5_requireUnit ∈ WW := ww_in 424 (by decide +kernel) (by decide +kernel)
theorem wl_X5_requireUnit : Cond.selects yX5_requireUnit.cls yX5_requireUnit yX5_requireUnit ∈ WW := ww_in 4 (by decide +kernel) (by decide +kernel)
theorem yv_X5_requireYears : YV yX5_requireYears cX5_requireYears 2 none 2 := ⟨ww_in 685 (by decide +kernel) (by decide +kernel), ww_in 55 (by decide +kernel) (by decide +kernel), by decide +kernel, by decide +kernel, by decide +kernel⟩
theorem ws_X5_requireYears : Cond.static yX5_requireYears ∈ WW := ww_in 684 (by decide +kernel) (by decide +kernel)
theorem yv_X5_row : YV yX5_row cX5_row 4 (some .int) 3 := ⟨ww_in 640 (by decide +kernel) (by decide +kernel), ww_in 55 (by decide +kernel) (by decide +kernel), by decide +kernel, by decide +kernel, by decide +kernel⟩
theorem wi_X5_row : Cond.instanceMethod yX5_row ∈ WW := ww_in 638 (by decide +kernel) (by decide +kernel)
theorem wl_X5_row : Cond.selects yX5_row.cls yX5_row yX5_row ∈ WW := ww_in 639 (by decide +kernel) (by decide +kernel)
theorem yv_X5_setPhase : YV yX5_setPhase cX5_setPhase 4 (some .int) 2 := ⟨ww_in 785 (by decide +kernel) (by decide +kernel), ww_in 55 (by decide +kernel) (by decide +kernel), by decide +kernel, by decide +kernel, by decide +kernel⟩
theorem wi_X5_setPhase : Cond.instanceMethod yX5_setPhase ∈ WW := ww_in 783 (by decide +kernel) (by decide +kernel)
theorem wl_X5_setPhase : Cond.selects yX5_setPhase.cls yX5_setPhase yX5_setPhase ∈ WW := ww_in 784 (by decide +kernel) (by decide +kernel)
theorem yv_X5_takeBack : YV yX5_takeBack cX5_takeBack 2 (some .int) 1 := ⟨ww_in 603 (by decide +kernel) (by decide +kernel), ww_in 55 (by decide +kernel) (by decide +kernel), by decide +kernel, by decide +kernel, by decide +kernel⟩
theorem wi_X5_takeBack : Cond.instanceMethod yX5_takeBack ∈ WW := ww_in 601 (by decide +kernel) (by decide +kernel)
theorem wl_X5_takeBack : Cond.selects yX5_takeBack.cls yX5_takeBack yX5_takeBack ∈ WW := ww_in 602 (by decide +kernel) (by decide +kernel)
theorem yv_X5_unit : YV yX5_unit cX5_unit 4 (some .int) 2 := ⟨ww_in 421 (by decide +kernel) (by decide +kernel), ww_in 55 (by decide +kernel) (by decide +kernel), by decide +kernel, by decide +kernel, by decide +kernel⟩
theorem wi_X5_unit : Cond.instanceMethod yX5_unit ∈ WW := ww_in 419 (by decide +kernel) (by decide +kernel)
theorem wl_X5_unit : Cond.selects yX5_unit.cls yX5_unit yX5_unit ∈ WW := ww_in 420 (by decide +kernel) (by decide +kernel)
theorem yv_X5_unitsToDig : YV yX5_unitsToDig cX5_unitsToDig 4 (some .long) 0 := ⟨ww_in 771 (by decide +kernel) (by decide +kernel), ww_in 55 (by decide +kernel) (by decide +kernel), by decide +kernel, by decide +kernel, by decide +kernel⟩
theorem wi_X5_unitsToDig : Cond.instanceMethod yX5_unitsToDig ∈ WW := ww_in 770 (by decide +kernel) (by decide +kernel)
theorem wl_X5_unitsToDig : Cond.selects yX5_unitsToDig.cls yX5_unitsToDig yX5_unitsToDig ∈ WW := ww_in 26 (by decide +kernel) (by decide +kernel)
theorem yv_X5_way : YV yX5_way cX5_way 4 (some .int) 3 := ⟨ww_in 658 (by decide +kernel) (by decide +kernel), ww_in 55 (by decide +kernel) (by decide +kernel), by decide +kernel, by decide +kernel, by decide +kernel⟩
theorem wi_X5_way : Cond.instanceMethod yX5_way ∈ WW := ww_in 656 (by decide +kernel) (by decide +kernel)
theorem wl_X5_way : Cond.selects yX5_way.cls yX5_way yX5_way ∈ WW := ww_in 657 (by decide +kernel) (by decide +kernel)
theorem yv_X5_whyRefused : YV yX5_whyRefused cX5_whyRefused 4 (some .int) 3 := ⟨ww_in 581 (by decide +kernel) (by decide +kernel), ww_in 55 (by decide +kernel) (by decide +kernel), by decide +kernel, by decide +kernel, by decide +kernel⟩
theorem wi_X5_whyRefused : Cond.instanceMethod yX5_whyRefused ∈ WW := ww_in 580 (by decide +kernel) (by decide +kernel)
theorem wl_X5_whyRefused : Cond.selects yX5_whyRefused.cls yX5_whyRefused yX5_whyRefused ∈ WW := ww_in 21 (by decide +kernel) (by decide +kernel)
theorem yv_X5_wouldMakeLoop : YV yX5_wouldMakeLoop cX5_wouldMakeLoop 4 (some .boolean) 3 := ⟨ww_in 592 (by decide +kernel) (by decide +kernel), ww_in 55 (by decide +kernel) (by decide +kernel), by decide +kernel, by decide +kernel, by decide +kernel⟩
theorem wi_X5_wouldMakeLoop : Cond.instanceMethod yX5_wouldMakeLoop ∈ WW := ww_in 591 (by decide +kernel) (by decide +kernel)
theorem wl_X5_wouldMakeLoop : Cond.selects yX5_wouldMakeLoop.cls yX5_wouldMakeLoop yX5_wouldMakeLoop ∈ WW := ww_in 22 (by decide +kernel) (by decide +kernel)
theorem yv_X0_init : YV yX0_init cX0_init 1 none 0 := ⟨ww_in 241 (by decide +kernel) (by decide +kernel), ww_in 60 (by decide +kernel) (by decide +kernel), by decide +kernel, by decide +kernel, by decide +kernel⟩
theorem wi_X0_init : Cond.instanceMethod yX0_init ∈ WW := ww_in 240 (by decide +kernel) (by decide +kernel)
theorem yv_X0_gatherDates : YV yX0_gatherDates cX0_gatherDates 5 none 2 := ⟨ww_in 556 (by decide +kernel) (by decide +kernel), ww_in 60 (by decide +kernel) (by decide +kernel), by decide +kernel, by decide +kernel, by decide +kernel⟩
theorem wi_X0_gatherDates : Cond.instanceMethod yX0_gatherDates ∈ WW := ww_in 555 (by decide +kernel) (by decide +kernel)
theorem wl_X0_gatherDates : Cond.selects yX0_gatherDates.cls yX0_gatherDates yX0_gatherDates ∈ WW := ww_in 18 (by decide +kernel) (by decide +kernel)
theorem yv_X0_gatherFinds : YV yX0_gatherFinds cX0_gatherFinds 5 none 2 := ⟨ww_in 563 (by decide +kernel) (by decide +kernel), ww_in 60 (by decide +kernel) (by decide +kernel), by decide +kernel, by decide +kernel, by decide +kernel⟩
theorem wi_X0_gatherFinds : Cond.instanceMethod yX0_gatherFinds ∈ WW := ww_in 562 (by decide +kernel) (by decide +kernel)
theorem wl_X0_gatherFinds : Cond.selects yX0_gatherFinds.cls yX0_gatherFinds yX0_gatherFinds ∈ WW := ww_in 19 (by decide +kernel) (by decide +kernel)
theorem yv_X0_renew : YV yX0_renew cX0_renew 5 none 3 := ⟨ww_in 552 (by decide +kernel) (by decide +kernel), ww_in 60 (by decide +kernel) (by decide +kernel), by decide +kernel, by decide +kernel, by decide +kernel⟩
theorem wi_X0_renew : Cond.instanceMethod yX0_renew ∈ WW := ww_in 550 (by decide +kernel) (by decide +kernel)
theorem wl_X0_renew : Cond.selects yX0_renew.cls yX0_renew yX0_renew ∈ WW := ww_in 551 (by decide +kernel) (by decide +kernel)
theorem yv_X0_spread : YV yX0_spread cX0_spread 5 none 2 := ⟨ww_in 567 (by decide +kernel) (by decide +kernel), ww_in 60 (by decide +kernel) (by decide +kernel), by decide +kernel, by decide +kernel, by decide +kernel⟩
theorem wi_X0_spread : Cond.instanceMethod yX0_spread ∈ WW := ww_in 566 (by decide +kernel) (by decide +kernel)
theorem wl_X0_spread : Cond.selects yX0_spread.cls yX0_spread yX0_spread ∈ WW := ww_in 20 (by decide +kernel) (by decide +kernel)
theorem yv_X1_init : YV yX1_init cX1_init 1 none 0 := ⟨ww_in 199 (by decide +kernel) (by decide +kernel), ww_in 59 (by decide +kernel) (by decide +kernel), by decide +kernel, by decide +kernel, by decide +kernel⟩
theorem wi_X1_init : Cond.instanceMethod yX1_init ∈ WW := ww_in 198 (by decide +kernel) (by decide +kernel)
theorem yv_X1_append : YV yX1_append cX1_append 5 (some .int) 4 := ⟨ww_in 692 (by decide +kernel) (by decide +kernel), ww_in 59 (by decide +kernel) (by decide +kernel), by decide +kernel, by decide +kernel, by decide +kernel⟩
theorem wi_X1_append : Cond.instanceMethod yX1_append ∈ WW := ww_in 690 (by decide +kernel) (by decide +kernel)
theorem wl_X1_append : Cond.selects yX1_append.cls yX1_append yX1_append ∈ WW := ww_in 691 (by decide +kernel) (by decide +kernel)
theorem yv_X1_closest : YV yX1_closest cX1_closest 9 (some .int) 4 := ⟨ww_in 751 (by decide +kernel) (by decide +kernel), ww_in 59 (by decide +kernel) (by decide +kernel), by decide +kernel, by decide +kernel, by decide +kernel⟩
theorem wi_X1_closest : Cond.instanceMethod yX1_closest ∈ WW := ww_in 749 (by decide +kernel) (by decide +kernel)
theorem wl_X1_closest : Cond.selects yX1_closest.cls yX1_closest yX1_closest ∈ WW := ww_in 750 (by decide +kernel) (by decide +kernel)
theorem yv_X1_countIn : YV yX1_countIn cX1_countIn 4 (some .int) 1 := ⟨ww_in 430 (by decide +kernel) (by decide +kernel), ww_in 59 (by decide +kernel) (by decide +kernel), by decide +kernel, by decide +kernel, by decide +kernel⟩
theorem wi_X1_countIn : Cond.instanceMethod yX1_countIn ∈ WW := ww_in 428 (by decide +kernel) (by decide +kernel)
theorem wl_X1_countIn : Cond.selects yX1_countIn.cls yX1_countIn yX1_countIn ∈ WW := ww_in 429 (by decide +kernel) (by decide +kernel)
theorem yv_X1_squareOfDistance : YV yX1_squareOfDistance cX1_squareOfDistance 8 (some .int) 4 := ⟨ww_in 755 (by decide +kernel) (by decide +kernel), ww_in 59 (by decide +kernel) (by decide +kernel), by decide +kernel, by decide +kernel, by decide +kernel⟩
theorem wi_X1_squareOfDistance : Cond.instanceMethod yX1_squareOfDistance ∈ WW := ww_in 754 (by decide +kernel) (by decide +kernel)
theorem wl_X1_squareOfDistance : Cond.selects yX1_squareOfDistance.cls yX1_squareOfDistance yX1_squareOfDistance ∈ WW := ww_in 24 (by decide +kernel) (by decide +kernel)
theorem yv_X2_init : YV yX2_init cX2_init 1 none 0 := ⟨ww_in 147 (by decide +kernel) (by decide +kernel), ww_in 58 (by decide +kernel) (by decide +kernel), by decide +kernel, by decide +kernel, by decide +kernel⟩
theorem wi_X2_init : Cond.instanceMethod yX2_init ∈ WW := ww_in 146 (by decide +kernel) (by decide +kernel)
theorem yv_X2_bodiesOnLevel : YV yX2_bodiesOnLevel cX2_bodiesOnLevel 7 (some .long) 2 := ⟨ww_in 648 (by decide +kernel) (by decide +kernel), ww_in 58 (by decide +kernel) (by decide +kernel), by decide +kernel, by decide +kernel, by decide +kernel⟩
theorem wi_X2_bodiesOnLevel : Cond.instanceMethod yX2_bodiesOnLevel ∈ WW := ww_in 646 (by decide +kernel) (by decide +kernel)
theorem wl_X2_bodiesOnLevel : Cond.selects yX2_bodiesOnLevel.cls yX2_bodiesOnLevel yX2_bodiesOnLevel ∈ WW := ww_in 647 (by decide +kernel) (by decide +kernel)
theorem yv_X2_bodyOnWay : YV yX2_bodyOnWay cX2_bodyOnWay 8 (some .int) 3 := ⟨ww_in 663 (by decide +kernel) (by decide +kernel), ww_in 58 (by decide +kernel) (by decide +kernel), by decide +kernel, by decide +kernel, by decide +kernel⟩
theorem wi_X2_bodyOnWay : Cond.instanceMethod yX2_bodyOnWay ∈ WW := ww_in 661 (by decide +kernel) (by decide +kernel)
theorem wl_X2_bodyOnWay : Cond.selects yX2_bodyOnWay.cls yX2_bodyOnWay yX2_bodyOnWay ∈ WW := ww_in 662 (by decide +kernel) (by decide +kernel)
theorem yv_X2_gatherDirectlyEarlier : YV yX2_gatherDirectlyEarlier cX2_gatherDirectlyEarlier 4 none 1 := ⟨ww_in 527 (by decide +kernel) (by decide +kernel), ww_in 58 (by decide +kernel) (by decide +kernel), by decide +kernel, by decide +kernel, by decide +kernel⟩
theorem wi_X2_gatherDirectlyEarlier : Cond.instanceMethod yX2_gatherDirectlyEarlier ∈ WW := ww_in 526 (by decide +kernel) (by decide +kernel)
theorem wl_X2_gatherDirectlyEarlier : Cond.selects yX2_gatherDirectlyEarlier.cls yX2_gatherDirectlyEarlier yX2_gatherDirectlyEarlier ∈ WW := ww_in 12 (by decide +kernel) (by decide +kernel)
theorem yv_X2_gatherEarlier : YV yX2_gatherEarlier cX2_gatherEarlier 3 none 0 := ⟨ww_in 531 (by decide +kernel) (by decide +kernel), ww_in 58 (by decide +kernel) (by decide +kernel), by decide +kernel, by decide +kernel, by decide +kernel⟩
theorem wi_X2_gatherEarlier : Cond.instanceMethod yX2_gatherEarlier ∈ WW := ww_in 530 (by decide +kernel) (by decide +kernel)
theorem wl_X2_gatherEarlier : Cond.selects yX2_gatherEarlier.cls yX2_gatherEarlier yX2_gatherEarlier ∈ WW := ww_in 13 (by decide +kernel) (by decide +kernel)
theorem yv_X2_gatherLater : YV yX2_gatherLater cX2_gatherLater 3 none 0 := ⟨ww_in 535 (by decide +kernel) (by decide +kernel), ww_in 58 (by decide +kernel) (by decide +kernel), by decide +kernel, by decide +kernel, by decide +kernel⟩
theorem wi_X2_gatherLater : Cond.instanceMethod yX2_gatherLater ∈ WW := ww_in 534 (by decide +kernel) (by decide +kernel)
theorem wl_X2_gatherLater : Cond.selects yX2_gatherLater.cls yX2_gatherLater yX2_gatherLater ∈ WW := ww_in 14 (by decide +kernel) (by decide +kernel)
theorem yv_X2_gatherLinks : YV yX2_gatherLinks cX2_gatherLinks 5 none 0 := ⟨ww_in 539 (by decide +kernel) (by decide +kernel), ww_in 58 (by decide +kernel) (by decide +kernel), by decide +kernel, by decide +kernel, by decide +kernel⟩
theorem wi_X2_gatherLinks : Cond.instanceMethod yX2_gatherLinks ∈ WW := ww_in 538 (by decide +kernel) (by decide +kernel)
theorem wl_X2_gatherLinks : Cond.selects yX2_gatherLinks.cls yX2_gatherLinks yX2_gatherLinks ∈ WW := ww_in 15 (by decide +kernel) (by decide +kernel)
theorem yv_X2_gatherMembers : YV yX2_gatherMembers cX2_gatherMembers 2 none 0 := ⟨ww_in 522 (by decide +kernel) (by decide +kernel), ww_in 58 (by decide +kernel) (by decide +kernel), by decide +kernel, by decide +kernel, by decide +kernel⟩
theorem wi_X2_gatherMembers : Cond.instanceMethod yX2_gatherMembers ∈ WW := ww_in 521 (by decide +kernel) (by decide +kernel)
theorem wl_X2_gatherMembers : Cond.selects yX2_gatherMembers.cls yX2_gatherMembers yX2_gatherMembers ∈ WW := ww_in 11 (by decide +kernel) (by decide +kernel)
theorem yv_X2_isLater : YV yX2_isLater cX2_isLater 3 (some .boolean) 2 := ⟨ww_in 296 (by decide +kernel) (by decide +kernel), ww_in 58 (by decide +kernel) (by decide +kernel), by decide +kernel, by decide +kernel, by decide +kernel⟩
theorem wi_X2_isLater : Cond.instanceMethod yX2_isLater ∈ WW := ww_in 294 (by decide +kernel) (by decide +kernel)
theorem wl_X2_isLater : Cond.selects yX2_isLater.cls yX2_isLater yX2_isLater ∈ WW := ww_in 295 (by decide +kernel) (by decide +kernel)
theorem yv_X2_isSameBody : YV yX2_isSameBody cX2_isSameBody 3 (some .boolean) 2 := ⟨ww_in 292 (by decide +kernel) (by decide +kernel), ww_in 58 (by decide +kernel) (by decide +kernel), by decide +kernel, by decide +kernel, by decide +kernel⟩
theorem wi_X2_isSameBody : Cond.instanceMethod yX2_isSameBody ∈ WW := ww_in 290 (by decide +kernel) (by decide +kernel)
theorem wl_X2_isSameBody : Cond.selects yX2_isSameBody.cls yX2_isSameBody yX2_isSameBody ∈ WW := ww_in 291 (by decide +kernel) (by decide +kernel)
theorem yv_X2_joinBodies : YV yX2_joinBodies cX2_joinBodies 5 none 2 := ⟨ww_in 517 (by decide +kernel) (by decide +kernel), ww_in 58 (by decide +kernel) (by decide +kernel), by decide +kernel, by decide +kernel, by decide +kernel⟩
theorem wi_X2_joinBodies : Cond.instanceMethod yX2_joinBodies ∈ WW := ww_in 516 (by decide +kernel) (by decide +kernel)
theorem wl_X2_joinBodies : Cond.selects yX2_joinBodies.cls yX2_joinBodies yX2_joinBodies ∈ WW := ww_in 10 (by decide +kernel) (by decide +kernel)
theorem yv_X2_joinUnits : YV yX2_joinUnits cX2_joinUnits 3 none 1 := ⟨ww_in 513 (by decide +kernel) (by decide +kernel), ww_in 58 (by decide +kernel) (by decide +kernel), by decide +kernel, by decide +kernel, by decide +kernel⟩
theorem wi_X2_joinUnits : Cond.instanceMethod yX2_joinUnits ∈ WW := ww_in 512 (by decide +kernel) (by decide +kernel)
theorem wl_X2_joinUnits : Cond.selects yX2_joinUnits.cls yX2_joinUnits yX2_joinUnits ∈ WW := ww_in 9 (by decide +kernel) (by decide +kernel)
theorem yv_X2_levelCount : YV yX2_levelCount cX2_levelCount 3 (some .int) 0 := ⟨ww_in 410 (by decide +kernel) (by decide +kernel), ww_in 58 (by decide +kernel) (by decide +kernel), by decide +kernel, by decide +kernel, by decide +kernel⟩
theorem wi_X2_levelCount : Cond.instanceMethod yX2_levelCount ∈ WW := ww_in 408 (by decide +kernel) (by decide +kernel)
theorem wl_X2_levelCount : Cond.selects yX2_levelCount.cls yX2_levelCount yX2_levelCount ∈ WW := ww_in 409 (by decide +kernel) (by decide +kernel)
theorem yv_X2_linkCount : YV yX2_linkCount cX2_linkCount 3 (some .int) 0 := ⟨ww_in 400 (by decide +kernel) (by decide +kernel), ww_in 58 (by decide +kernel) (by decide +kernel), by decide +kernel, by decide +kernel, by decide +kernel⟩
theorem wi_X2_linkCount : Cond.instanceMethod yX2_linkCount ∈ WW := ww_in 398 (by decide +kernel) (by decide +kernel)
theorem wl_X2_linkCount : Cond.selects yX2_linkCount.cls yX2_linkCount yX2_linkCount ∈ WW := ww_in 399 (by decide +kernel) (by decide +kernel)
theorem yv_X2_nextOnWay : YV yX2_nextOnWay cX2_nextOnWay 5 (some .int) 2 := ⟨ww_in 667 (by decide +kernel) (by decide +kernel), ww_in 58 (by decide +kernel) (by decide +kernel), by decide +kernel, by decide +kernel, by decide +kernel⟩
theorem wi_X2_nextOnWay : Cond.instanceMethod yX2_nextOnWay ∈ WW := ww_in 666 (by decide +kernel) (by decide +kernel)
theorem wl_X2_nextOnWay : Cond.selects yX2_nextOnWay.cls yX2_nextOnWay yX2_nextOnWay ∈ WW := ww_in 23 (by decide +kernel) (by decide +kernel)
theorem yv_X2_rank : YV yX2_rank cX2_rank 11 none 3 := ⟨ww_in 544 (by decide +kernel) (by decide +kernel), ww_in 58 (by decide +kernel) (by decide +kernel), by decide +kernel, by decide +kernel, by decide +kernel⟩
theorem wi_X2_rank : Cond.instanceMethod yX2_rank ∈ WW := ww_in 543 (by decide +kernel) (by decide +kernel)
theorem wl_X2_rank : Cond.selects yX2_rank.cls yX2_rank yX2_rank ∈ WW := ww_in 16 (by decide +kernel) (by decide +kernel)
theorem yv_X2_renew : YV yX2_renew cX2_renew 3 none 2 := ⟨ww_in 509 (by decide +kernel) (by decide +kernel), ww_in 58 (by decide +kernel) (by decide +kernel), by decide +kernel, by decide +kernel, by decide +kernel⟩
theorem wi_X2_renew : Cond.instanceMethod yX2_renew ∈ WW := ww_in 507 (by decide +kernel) (by decide +kernel)
theorem wl_X2_renew : Cond.selects yX2_renew.cls yX2_renew yX2_renew ∈ WW := ww_in 508 (by decide +kernel) (by decide +kernel)
theorem yv_X3_init : YV yX3_init cX3_init 1 none 0 := ⟨ww_in 120 (by decide +kernel) (by decide +kernel), ww_in 57 (by decide +kernel) (by decide +kernel), by decide +kernel, by decide +kernel, by decide +kernel⟩
theorem wi_X3_init : Cond.instanceMethod yX3_init ∈ WW := ww_in 119 (by decide +kernel) (by decide +kernel)
theorem yv_X3_append : YV yX3_append cX3_append 4 none 3 := ⟨ww_in 596 (by decide +kernel) (by decide +kernel), ww_in 57 (by decide +kernel) (by decide +kernel), by decide +kernel, by decide +kernel, by decide +kernel⟩
theorem wi_X3_append : Cond.instanceMethod yX3_append ∈ WW := ww_in 594 (by decide +kernel) (by decide +kernel)
theorem wl_X3_append : Cond.selects yX3_append.cls yX3_append yX3_append ∈ WW := ww_in 595 (by decide +kernel) (by decide +kernel)
theorem yv_X3_isTold : YV yX3_isTold cX3_isTold 7 (some .boolean) 3 := ⟨ww_in 588 (by decide +kernel) (by decide +kernel), ww_in 57 (by decide +kernel) (by decide +kernel), by decide +kernel, by decide +kernel, by decide +kernel⟩
theorem wi_X3_isTold : Cond.instanceMethod yX3_isTold ∈ WW := ww_in 586 (by decide +kernel) (by decide +kernel)
theorem wl_X3_isTold : Cond.selects yX3_isTold.cls yX3_isTold yX3_isTold ∈ WW := ww_in 587 (by decide +kernel) (by decide +kernel)
theorem yv_X3_remove : YV yX3_remove cX3_remove 3 none 1 := ⟨ww_in 607 (by decide +kernel) (by decide +kernel), ww_in 57 (by decide +kernel) (by decide +kernel), by decide +kernel, by decide +kernel, by decide +kernel⟩
theorem wi_X3_remove : Cond.instanceMethod yX3_remove ∈ WW := ww_in 605 (by decide +kernel) (by decide +kernel)
theorem wl_X3_remove : Cond.selects yX3_remove.cls yX3_remove yX3_remove ∈ WW := ww_in 606 (by decide +kernel) (by decide +kernel)
theorem yv_X4_init : YV yX4_init cX4_init 1 none 0 := ⟨ww_in 83 (by decide +kernel) (by decide +kernel), ww_in 56 (by decide +kernel) (by decide +kernel), by decide +kernel, by decide +kernel, by decide +kernel⟩
theorem wi_X4_init : Cond.instanceMethod yX4_init ∈ WW := ww_in 82 (by decide +kernel) (by decide +kernel)
theorem yv_X4_append : YV yX4_append cX4_append 2 (some .int) 1 := ⟨ww_in 501 (by decide +kernel) (by decide +kernel), ww_in 56 (by decide +kernel) (by decide +kernel), by decide +kernel, by decide +kernel, by decide +kernel⟩
theorem wi_X4_append : Cond.instanceMethod yX4_append ∈ WW := ww_in 499 (by decide +kernel) (by decide +kernel)
theorem wl_X4_append : Cond.selects yX4_append.cls yX4_append yX4_append ∈ WW := ww_in 500 (by decide +kernel) (by decide +kernel)
theorem yv_X4_setDate : YV yX4_setDate cX4_setDate 4 none 3 := ⟨ww_in 726 (by decide +kernel) (by decide +kernel), ww_in 56 (by decide +kernel) (by decide +kernel), by decide +kernel, by decide +kernel, by decide +kernel⟩
theorem wi_X4_setDate : Cond.instanceMethod yX4_setDate ∈ WW := ww_in 724 (by decide +kernel) (by decide +kernel)
theorem wl_X4_setDate : Cond.selects yX4_setDate.cls yX4_setDate yX4_setDate ∈ WW := ww_in 725 (by decide +kernel) (by decide +kernel)
theorem yv_X6_init : YV yX6_init cX6_init 1 none 0 := ⟨ww_in 791 (by decide +kernel) (by decide +kernel), ww_in 61 (by decide +kernel) (by decide +kernel), by decide +kernel, by decide +kernel, by decide +kernel⟩
theorem wi_X6_init : Cond.instanceMethod yX6_init ∈ WW := ww_in 790 (by decide +kernel) (by decide +kernel)
theorem yv_X6_addFind : YV yX6_addFind cX6_addFind 6 (some .int) 4 := ⟨ww_in 1012 (by decide +kernel) (by decide +kernel), ww_in 61 (by decide +kernel) (by decide +kernel), by decide +kernel, by decide +kernel, by decide +kernel⟩
theorem wi_X6_addFind : Cond.instanceMethod yX6_addFind ∈ WW := ww_in 1010 (by decide +kernel) (by decide +kernel)
theorem wl_X6_addFind : Cond.selects yX6_addFind.cls yX6_addFind yX6_addFind ∈ WW := ww_in 1011 (by decide +kernel) (by decide +kernel)
theorem yv_X6_addUnit : YV yX6_addUnit cX6_addUnit 2 (some .int) 1 := ⟨ww_in 862 (by decide +kernel) (by decide +kernel), ww_in 61 (by decide +kernel) (by decide +kernel), by decide +kernel, by decide +kernel, by decide +kernel⟩
theorem wi_X6_addUnit : Cond.instanceMethod yX6_addUnit ∈ WW := ww_in 860 (by decide +kernel) (by decide +kernel)
theorem wl_X6_addUnit : Cond.selects yX6_addUnit.cls yX6_addUnit yX6_addUnit ∈ WW := ww_in 861 (by decide +kernel) (by decide +kernel)
theorem yv_X6_areOut : YV yX6_areOut cX6_areOut 3 (some .boolean) 2 := ⟨ww_in 968 (by decide +kernel) (by decide +kernel), ww_in 61 (by decide +kernel) (by decide +kernel), by decide +kernel, by decide +kernel, by decide +kernel⟩
theorem wi_X6_areOut : Cond.instanceMethod yX6_areOut ∈ WW := ww_in 967 (by decide +kernel) (by decide +kernel)
theorem wl_X6_areOut : Cond.selects yX6_areOut.cls yX6_areOut yX6_areOut ∈ WW := ww_in 46 (by decide +kernel) (by decide +kernel)
theorem yv_X6_areSorts : YV yX6_areSorts cX6_areSorts 4 (some .boolean) 3 := ⟨ww_in 903 (by decide +kernel) (by decide +kernel), ww_in 61 (by decide +kernel) (by decide +kernel), by decide +kernel, by decide +kernel, by decide +kernel⟩
theorem wi_X6_areSorts : Cond.instanceMethod yX6_areSorts ∈ WW := ww_in 902 (by decide +kernel) (by decide +kernel)
theorem wl_X6_areSorts : Cond.selects yX6_areSorts.cls yX6_areSorts yX6_areSorts ∈ WW := ww_in 33 (by decide +kernel) (by decide +kernel)
theorem yv_X6_between : YV yX6_between cX6_between 3 (some .int) 2 := ⟨ww_in 1008 (by decide +kernel) (by decide +kernel), ww_in 61 (by decide +kernel) (by decide +kernel), by decide +kernel, by decide +kernel, by decide +kernel⟩
theorem wi_X6_between : Cond.instanceMethod yX6_between ∈ WW := ww_in 1006 (by decide +kernel) (by decide +kernel)
theorem wl_X6_between : Cond.selects yX6_between.cls yX6_between yX6_between ∈ WW := ww_in 1007 (by decide +kernel) (by decide +kernel)
theorem yv_X6_bodies : YV yX6_bodies cX6_bodies 3 (some .int) 0 := ⟨ww_in 931 (by decide +kernel) (by decide +kernel), ww_in 61 (by decide +kernel) (by decide +kernel), by decide +kernel, by decide +kernel, by decide +kernel⟩
theorem wi_X6_bodies : Cond.instanceMethod yX6_bodies ∈ WW := ww_in 930 (by decide +kernel) (by decide +kernel)
theorem wl_X6_bodies : Cond.selects yX6_bodies.cls yX6_bodies yX6_bodies ∈ WW := ww_in 37 (by decide +kernel) (by decide +kernel)
theorem yv_X6_bound : YV yX6_bound cX6_bound 3 (some .int) 2 := ⟨ww_in 1046 (by decide +kernel) (by decide +kernel), ww_in 61 (by decide +kernel) (by decide +kernel), by decide +kernel, by decide +kernel, by decide +kernel⟩
theorem wi_X6_bound : Cond.instanceMethod yX6_bound ∈ WW := ww_in 1044 (by decide +kernel) (by decide +kernel)
theorem wl_X6_bound : Cond.selects yX6_bound.cls yX6_bound yX6_bound ∈ WW := ww_in 1045 (by decide +kernel) (by decide +kernel)
theorem yv_X6_canDig : YV yX6_canDig cX6_canDig 3 (some .boolean) 1 := ⟨ww_in 1062 (by decide +kernel) (by decide +kernel), ww_in 61 (by decide +kernel) (by decide +kernel), by decide +kernel, by decide +kernel, by decide +kernel⟩
theorem wi_X6_canDig : Cond.instanceMethod yX6_canDig ∈ WW := ww_in 1061 (by decide +kernel) (by decide +kernel)
theorem wl_X6_canDig : Cond.selects yX6_canDig.cls yX6_canDig yX6_canDig ∈ WW := ww_in 53 (by decide +kernel) (by decide +kernel)
theorem yv_X6_count : YV yX6_count cX6_count 2 (some .int) 1 := ⟨ww_in 923 (by decide +kernel) (by decide +kernel), ww_in 61 (by decide +kernel) (by decide +kernel), by decide +kernel, by decide +kernel, by decide +kernel⟩
theorem wi_X6_count : Cond.instanceMethod yX6_count ∈ WW := ww_in 921 (by decide +kernel) (by decide +kernel)
theorem wl_X6_count : Cond.selects yX6_count.cls yX6_count yX6_count ∈ WW := ww_in 922 (by decide +kernel) (by decide +kernel)
theorem yv_X6_counted : YV yX6_counted cX6_counted 2 (some .int) 1 := ⟨ww_in 927 (by decide +kernel) (by decide +kernel), ww_in 61 (by decide +kernel) (by decide +kernel), by decide +kernel, by decide +kernel, by decide +kernel⟩
theorem wi_X6_counted : Cond.instanceMethod yX6_counted ∈ WW := ww_in 926 (by decide +kernel) (by decide +kernel)
theorem wl_X6_counted : Cond.selects yX6_counted.cls yX6_counted yX6_counted ∈ WW := ww_in 36 (by decide +kernel) (by decide +kernel)
theorem yv_X6_date : YV yX6_date cX6_date 5 (some .int) 3 := ⟨ww_in 1042 (by decide +kernel) (by decide +kernel), ww_in 61 (by decide +kernel) (by decide +kernel), by decide +kernel, by decide +kernel, by decide +kernel⟩
theorem wi_X6_date : Cond.instanceMethod yX6_date ∈ WW := ww_in 1040 (by decide +kernel) (by decide +kernel)
theorem wl_X6_date : Cond.selects yX6_date.cls yX6_date yX6_date ∈ WW := ww_in 1041 (by decide +kernel) (by decide +kernel)
theorem yv_X6_dig : YV yX6_dig cX6_dig 4 (some .int) 1 := ⟨ww_in 1058 (by decide +kernel) (by decide +kernel), ww_in 61 (by decide +kernel) (by decide +kernel), by decide +kernel, by decide +kernel, by decide +kernel⟩
theorem wi_X6_dig : Cond.instanceMethod yX6_dig ∈ WW := ww_in 1056 (by decide +kernel) (by decide +kernel)
theorem wl_X6_dig : Cond.selects yX6_dig.cls yX6_dig yX6_dig ∈ WW := ww_in 1057 (by decide +kernel) (by decide +kernel)
theorem yv_X6_digest : YV yX6_digest cX6_digest 5 (some .long) 0 := ⟨ww_in 1086 (by decide +kernel) (by decide +kernel), ww_in 61 (by decide +kernel) (by decide +kernel), by decide +kernel, by decide +kernel, by decide +kernel⟩
theorem wi_X6_digest : Cond.instanceMethod yX6_digest ∈ WW := ww_in 1084 (by decide +kernel) (by decide +kernel)
theorem wl_X6_digest : Cond.selects yX6_digest.cls yX6_digest yX6_digest ∈ WW := ww_in 1085 (by decide +kernel) (by decide +kernel)
theorem yv_X6_doubt : YV yX6_doubt cX6_doubt 4 (some .int) 1 := ⟨ww_in 1050 (by decide +kernel) (by decide +kernel), ww_in 61 (by decide +kernel) (by decide +kernel), by decide +kernel, by decide +kernel, by decide +kernel⟩
theorem wi_X6_doubt : Cond.instanceMethod yX6_doubt ∈ WW := ww_in 1048 (by decide +kernel) (by decide +kernel)
theorem wl_X6_doubt : Cond.selects yX6_doubt.cls yX6_doubt yX6_doubt ∈ WW := ww_in 1049 (by decide +kernel) (by decide +kernel)
theorem yv_X6_doubts : YV yX6_doubts cX6_doubts 3 (some .int) 0 := ⟨ww_in 948 (by decide +kernel) (by decide +kernel), ww_in 61 (by decide +kernel) (by decide +kernel), by decide +kernel, by decide +kernel, by decide +kernel⟩
theorem wi_X6_doubts : Cond.instanceMethod yX6_doubts ∈ WW := ww_in 947 (by decide +kernel) (by decide +kernel)
theorem wl_X6_doubts : Cond.selects yX6_doubts.cls yX6_doubts yX6_doubts ∈ WW := ww_in 41 (by decide +kernel) (by decide +kernel)
theorem yv_X6_dug : YV yX6_dug cX6_dug 3 (some .int) 0 := ⟨ww_in 944 (by decide +kernel) (by decide +kernel), ww_in 61 (by decide +kernel) (by decide +kernel), by decide +kernel, by decide +kernel, by decide +kernel⟩
theorem wi_X6_dug : Cond.instanceMethod yX6_dug ∈ WW := ww_in 943 (by decide +kernel) (by decide +kernel)
theorem wl_X6_dug : Cond.selects yX6_dug.cls yX6_dug yX6_dug ∈ WW := ww_in 40 (by decide +kernel) (by decide +kernel)
theorem yv_X6_farTo : YV yX6_farTo cX6_farTo 6 (some (.array .int)) 1 := ⟨ww_in 1004 (by decide +kernel) (by decide +kernel), ww_in 61 (by decide +kernel) (by decide +kernel), by decide +kernel, by decide +kernel, by decide +kernel⟩
theorem wi_X6_farTo : Cond.instanceMethod yX6_farTo ∈ WW := ww_in 1003 (by decide +kernel) (by decide +kernel)
theorem wl_X6_farTo : Cond.selects yX6_farTo.cls yX6_farTo yX6_farTo ∈ WW := ww_in 50 (by decide +kernel) (by decide +kernel)
theorem yv_X6_find : YV yX6_find cX6_find 3 (some .int) 2 := ⟨ww_in 1034 (by decide +kernel) (by decide +kernel), ww_in 61 (by decide +kernel) (by decide +kernel), by decide +kernel, by decide +kernel, by decide +kernel⟩
theorem wi_X6_find : Cond.instanceMethod yX6_find ∈ WW := ww_in 1032 (by decide +kernel) (by decide +kernel)
theorem wl_X6_find : Cond.selects yX6_find.cls yX6_find yX6_find ∈ WW := ww_in 1033 (by decide +kernel) (by decide +kernel)
theorem yv_X6_findTold : YV yX6_findTold cX6_findTold 4 (some .int) 2 := ⟨ww_in 1038 (by decide +kernel) (by decide +kernel), ww_in 61 (by decide +kernel) (by decide +kernel), by decide +kernel, by decide +kernel, by decide +kernel⟩
theorem wi_X6_findTold : Cond.instanceMethod yX6_findTold ∈ WW := ww_in 1037 (by decide +kernel) (by decide +kernel)
theorem wl_X6_findTold : Cond.selects yX6_findTold.cls yX6_findTold yX6_findTold ∈ WW := ww_in 52 (by decide +kernel) (by decide +kernel)
theorem yv_X6_findsIn : YV yX6_findsIn cX6_findsIn 4 (some .int) 1 := ⟨ww_in 984 (by decide +kernel) (by decide +kernel), ww_in 61 (by decide +kernel) (by decide +kernel), by decide +kernel, by decide +kernel, by decide +kernel⟩
theorem wi_X6_findsIn : Cond.instanceMethod yX6_findsIn ∈ WW := ww_in 983 (by decide +kernel) (by decide +kernel)
theorem wl_X6_findsIn : Cond.selects yX6_findsIn.cls yX6_findsIn yX6_findsIn ∈ WW := ww_in 49 (by decide +kernel) (by decide +kernel)
theorem yv_X6_follow : YV yX6_follow cX6_follow 3 (some .boolean) 0 := ⟨ww_in 877 (by decide +kernel) (by decide +kernel), ww_in 61 (by decide +kernel) (by decide +kernel), by decide +kernel, by decide +kernel, by decide +kernel⟩
theorem wi_X6_follow : Cond.instanceMethod yX6_follow ∈ WW := ww_in 876 (by decide +kernel) (by decide +kernel)
theorem wl_X6_follow : Cond.selects yX6_follow.cls yX6_follow yX6_follow ∈ WW := ww_in 29 (by decide +kernel) (by decide +kernel)
theorem yv_X6_has : YV yX6_has cX6_has 3 (some .boolean) 2 := ⟨ww_in 885 (by decide +kernel) (by decide +kernel), ww_in 61 (by decide +kernel) (by decide +kernel), by decide +kernel, by decide +kernel, by decide +kernel⟩
theorem ws_X6_has : Cond.static yX6_has ∈ WW := ww_in 884 (by decide +kernel) (by decide +kernel)
theorem yv_X6_isBody : YV yX6_isBody cX6_isBody 2 (some .boolean) 1 := ⟨ww_in 935 (by decide +kernel) (by decide +kernel), ww_in 61 (by decide +kernel) (by decide +kernel), by decide +kernel, by decide +kernel, by decide +kernel⟩
theorem wi_X6_isBody : Cond.instanceMethod yX6_isBody ∈ WW := ww_in 934 (by decide +kernel) (by decide +kernel)
theorem wl_X6_isBody : Cond.selects yX6_isBody.cls yX6_isBody yX6_isBody ∈ WW := ww_in 38 (by decide +kernel) (by decide +kernel)
theorem yv_X6_isFind : YV yX6_isFind cX6_isFind 2 (some .boolean) 1 := ⟨ww_in 1023 (by decide +kernel) (by decide +kernel), ww_in 61 (by decide +kernel) (by decide +kernel), by decide +kernel, by decide +kernel, by decide +kernel⟩
theorem wi_X6_isFind : Cond.instanceMethod yX6_isFind ∈ WW := ww_in 1022 (by decide +kernel) (by decide +kernel)
theorem wl_X6_isFind : Cond.selects yX6_isFind.cls yX6_isFind yX6_isFind ∈ WW := ww_in 51 (by decide +kernel) (by decide +kernel)
theorem yv_X6_isIn : YV yX6_isIn cX6_isIn 3 (some .boolean) 3 := ⟨ww_in 865 (by decide +kernel) (by decide +kernel), ww_in 61 (by decide +kernel) (by decide +kernel), by decide +kernel, by decide +kernel, by decide +kernel⟩
theorem ws_X6_isIn : Cond.static yX6_isIn ∈ WW := ww_in 864 (by decide +kernel) (by decide +kernel)
theorem yv_X6_isInDoubt : YV yX6_isInDoubt cX6_isInDoubt 2 (some .boolean) 1 := ⟨ww_in 952 (by decide +kernel) (by decide +kernel), ww_in 61 (by decide +kernel) (by decide +kernel), by decide +kernel, by decide +kernel, by decide +kernel⟩
theorem wi_X6_isInDoubt : Cond.instanceMethod yX6_isInDoubt ∈ WW := ww_in 951 (by decide +kernel) (by decide +kernel)
theorem wl_X6_isInDoubt : Cond.selects yX6_isInDoubt.cls yX6_isInDoubt yX6_isInDoubt ∈ WW := ww_in 42 (by decide +kernel) (by decide +kernel)
theorem yv_X6_isLinked : YV yX6_isLinked cX6_isLinked 3 (some .boolean) 2 := ⟨ww_in 992 (by decide +kernel) (by decide +kernel), ww_in 61 (by decide +kernel) (by decide +kernel), by decide +kernel, by decide +kernel, by decide +kernel⟩
theorem wi_X6_isLinked : Cond.instanceMethod yX6_isLinked ∈ WW := ww_in 990 (by decide +kernel) (by decide +kernel)
theorem wl_X6_isLinked : Cond.selects yX6_isLinked.cls yX6_isLinked yX6_isLinked ∈ WW := ww_in 991 (by decide +kernel) (by decide +kernel)
theorem yv_X6_isPlace : YV yX6_isPlace cX6_isPlace 3 (some .boolean) 3 := ⟨ww_in 1026 (by decide +kernel) (by decide +kernel), ww_in 61 (by decide +kernel) (by decide +kernel), by decide +kernel, by decide +kernel, by decide +kernel⟩
theorem ws_X6_isPlace : Cond.static yX6_isPlace ∈ WW := ww_in 1025 (by decide +kernel) (by decide +kernel)
theorem yv_X6_isTold : YV yX6_isTold cX6_isTold 5 (some .boolean) 3 := ⟨ww_in 907 (by decide +kernel) (by decide +kernel), ww_in 61 (by decide +kernel) (by decide +kernel), by decide +kernel, by decide +kernel, by decide +kernel⟩
theorem wi_X6_isTold : Cond.instanceMethod yX6_isTold ∈ WW := ww_in 906 (by decide +kernel) (by decide +kernel)
theorem wl_X6_isTold : Cond.selects yX6_isTold.cls yX6_isTold yX6_isTold ∈ WW := ww_in 34 (by decide +kernel) (by decide +kernel)
theorem yv_X6_isUnit : YV yX6_isUnit cX6_isUnit 2 (some .boolean) 1 := ⟨ww_in 899 (by decide +kernel) (by decide +kernel), ww_in 61 (by decide +kernel) (by decide +kernel), by decide +kernel, by decide +kernel, by decide +kernel⟩
theorem wi_X6_isUnit : Cond.instanceMethod yX6_isUnit ∈ WW := ww_in 898 (by decide +kernel) (by decide +kernel)
theorem wl_X6_isUnit : Cond.selects yX6_isUnit.cls yX6_isUnit yX6_isUnit ∈ WW := ww_in 32 (by decide +kernel) (by decide +kernel)
theorem yv_X6_joinBodies : YV yX6_joinBodies cX6_joinBodies 4 none 0 := ⟨ww_in 881 (by decide +kernel) (by decide +kernel), ww_in 61 (by decide +kernel) (by decide +kernel), by decide +kernel, by decide +kernel, by decide +kernel⟩
theorem wi_X6_joinBodies : Cond.instanceMethod yX6_joinBodies ∈ WW := ww_in 880 (by decide +kernel) (by decide +kernel)
theorem wl_X6_joinBodies : Cond.selects yX6_joinBodies.cls yX6_joinBodies yX6_joinBodies ∈ WW := ww_in 30 (by decide +kernel) (by decide +kernel)
theorem yv_X6_levels : YV yX6_levels cX6_levels 3 (some .int) 0 := ⟨ww_in 960 (by decide +kernel) (by decide +kernel), ww_in 61 (by decide +kernel) (by decide +kernel), by decide +kernel, by decide +kernel, by decide +kernel⟩
theorem wi_X6_levels : Cond.instanceMethod yX6_levels ∈ WW := ww_in 959 (by decide +kernel) (by decide +kernel)
theorem wl_X6_levels : Cond.selects yX6_levels.cls yX6_levels yX6_levels ∈ WW := ww_in 44 (by decide +kernel) (by decide +kernel)
theorem yv_X6_links : YV yX6_links cX6_links 3 (some .int) 0 := ⟨ww_in 939 (by decide +kernel) (by decide +kernel), ww_in 61 (by decide +kernel) (by decide +kernel), by decide +kernel, by decide +kernel, by decide +kernel⟩
theorem wi_X6_links : Cond.instanceMethod yX6_links ∈ WW := ww_in 938 (by decide +kernel) (by decide +kernel)
theorem wl_X6_links : Cond.selects yX6_links.cls yX6_links yX6_links ∈ WW := ww_in 39 (by decide +kernel) (by decide +kernel)
theorem yv_X6_meanHeight : YV yX6_meanHeight cX6_meanHeight 3 (some .double) 0 := ⟨ww_in 1082 (by decide +kernel) (by decide +kernel), ww_in 61 (by decide +kernel) (by decide +kernel), by decide +kernel, by decide +kernel, by decide +kernel⟩
theorem wi_X6_meanHeight : Cond.instanceMethod yX6_meanHeight ∈ WW := ww_in 1080 (by decide +kernel) (by decide +kernel)
theorem wl_X6_meanHeight : Cond.selects yX6_meanHeight.cls yX6_meanHeight yX6_meanHeight ∈ WW := ww_in 1081 (by decide +kernel) (by decide +kernel)
theorem yv_X6_move : YV yX6_move cX6_move 4 (some .int) 2 := ⟨ww_in 1030 (by decide +kernel) (by decide +kernel), ww_in 61 (by decide +kernel) (by decide +kernel), by decide +kernel, by decide +kernel, by decide +kernel⟩
theorem wi_X6_move : Cond.instanceMethod yX6_move ∈ WW := ww_in 1028 (by decide +kernel) (by decide +kernel)
theorem wl_X6_move : Cond.selects yX6_move.cls yX6_move yX6_move ∈ WW := ww_in 1029 (by decide +kernel) (by decide +kernel)
theorem yv_X6_nearest : YV yX6_nearest cX6_nearest 12 (some .int) 4 := ⟨ww_in 1054 (by decide +kernel) (by decide +kernel), ww_in 61 (by decide +kernel) (by decide +kernel), by decide +kernel, by decide +kernel, by decide +kernel⟩
theorem wi_X6_nearest : Cond.instanceMethod yX6_nearest ∈ WW := ww_in 1052 (by decide +kernel) (by decide +kernel)
theorem wl_X6_nearest : Cond.selects yX6_nearest.cls yX6_nearest yX6_nearest ∈ WW := ww_in 1053 (by decide +kernel) (by decide +kernel)
theorem yv_X6_next : YV yX6_next cX6_next 4 (some .int) 1 := ⟨ww_in 1066 (by decide +kernel) (by decide +kernel), ww_in 61 (by decide +kernel) (by decide +kernel), by decide +kernel, by decide +kernel, by decide +kernel⟩
theorem wi_X6_next : Cond.instanceMethod yX6_next ∈ WW := ww_in 1064 (by decide +kernel) (by decide +kernel)
theorem wl_X6_next : Cond.selects yX6_next.cls yX6_next yX6_next ∈ WW := ww_in 1065 (by decide +kernel) (by decide +kernel)
theorem yv_X6_no : YV yX6_no cX6_no 2 (some .int) 1 := ⟨ww_in 869 (by decide +kernel) (by decide +kernel), ww_in 61 (by decide +kernel) (by decide +kernel), by decide +kernel, by decide +kernel, by decide +kernel⟩
theorem wi_X6_no : Cond.instanceMethod yX6_no ∈ WW := ww_in 868 (by decide +kernel) (by decide +kernel)
theorem wl_X6_no : Cond.selects yX6_no.cls yX6_no yX6_no ∈ WW := ww_in 27 (by decide +kernel) (by decide +kernel)
theorem yv_X6_order : YV yX6_order cX6_order 3 (some .int) 2 := ⟨ww_in 988 (by decide +kernel) (by decide +kernel), ww_in 61 (by decide +kernel) (by decide +kernel), by decide +kernel, by decide +kernel, by decide +kernel⟩
theorem wi_X6_order : Cond.instanceMethod yX6_order ∈ WW := ww_in 986 (by decide +kernel) (by decide +kernel)
theorem wl_X6_order : Cond.selects yX6_order.cls yX6_order yX6_order ∈ WW := ww_in 987 (by decide +kernel) (by decide +kernel)
theorem yv_X6_outOfPhase : YV yX6_outOfPhase cX6_outOfPhase 4 (some .int) 1 := ⟨ww_in 1078 (by decide +kernel) (by decide +kernel), ww_in 61 (by decide +kernel) (by decide +kernel), by decide +kernel, by decide +kernel, by decide +kernel⟩
theorem wi_X6_outOfPhase : Cond.instanceMethod yX6_outOfPhase ∈ WW := ww_in 1076 (by decide +kernel) (by decide +kernel)
theorem wl_X6_outOfPhase : Cond.selects yX6_outOfPhase.cls yX6_outOfPhase yX6_outOfPhase ∈ WW := ww_in 1077 (by decide +kernel) (by decide +kernel)
theorem yv_X6_pairsOut : YV yX6_pairsOut cX6_pairsOut 4 (some .int) 0 := ⟨ww_in 964 (by decide +kernel) (by decide +kernel), ww_in 61 (by decide +kernel) (by decide +kernel), by decide +kernel, by decide +kernel, by decide +kernel⟩
theorem wi_X6_pairsOut : Cond.instanceMethod yX6_pairsOut ∈ WW := ww_in 963 (by decide +kernel) (by decide +kernel)
theorem wl_X6_pairsOut : Cond.selects yX6_pairsOut.cls yX6_pairsOut yX6_pairsOut ∈ WW := ww_in 45 (by decide +kernel) (by decide +kernel)
theorem yv_X6_phaseAll : YV yX6_phaseAll cX6_phaseAll 4 (some .int) 0 := ⟨ww_in 1074 (by decide +kernel) (by decide +kernel), ww_in 61 (by decide +kernel) (by decide +kernel), by decide +kernel, by decide +kernel, by decide +kernel⟩
theorem wi_X6_phaseAll : Cond.instanceMethod yX6_phaseAll ∈ WW := ww_in 1072 (by decide +kernel) (by decide +kernel)
theorem wl_X6_phaseAll : Cond.selects yX6_phaseAll.cls yX6_phaseAll yX6_phaseAll ∈ WW := ww_in 1073 (by decide +kernel) (by decide +kernel)
theorem yv_X6_place : YV yX6_place cX6_place 6 (some .int) 4 := ⟨ww_in 1019 (by decide +kernel) (by decide +kernel), ww_in 61 (by decide +kernel) (by decide +kernel), by decide +kernel, by decide +kernel, by decide +kernel⟩
theorem wi_X6_place : Cond.instanceMethod yX6_place ∈ WW := ww_in 1017 (by decide +kernel) (by decide +kernel)
theorem wl_X6_place : Cond.selects yX6_place.cls yX6_place yX6_place ∈ WW := ww_in 1018 (by decide +kernel) (by decide +kernel)
theorem yv_X6_rank : YV yX6_rank cX6_rank 6 none 2 := ⟨ww_in 890 (by decide +kernel) (by decide +kernel), ww_in 61 (by decide +kernel) (by decide +kernel), by decide +kernel, by decide +kernel, by decide +kernel⟩
theorem wi_X6_rank : Cond.instanceMethod yX6_rank ∈ WW := ww_in 889 (by decide +kernel) (by decide +kernel)
theorem wl_X6_rank : Cond.selects yX6_rank.cls yX6_rank yX6_rank ∈ WW := ww_in 31 (by decide +kernel) (by decide +kernel)
theorem yv_X6_relate : YV yX6_relate cX6_relate 5 (some .int) 3 := ⟨ww_in 895 (by decide +kernel) (by decide +kernel), ww_in 61 (by decide +kernel) (by decide +kernel), by decide +kernel, by decide +kernel, by decide +kernel⟩
theorem wi_X6_relate : Cond.instanceMethod yX6_relate ∈ WW := ww_in 893 (by decide +kernel) (by decide +kernel)
theorem wl_X6_relate : Cond.selects yX6_relate.cls yX6_relate yX6_relate ∈ WW := ww_in 894 (by decide +kernel) (by decide +kernel)
theorem yv_X6_relation : YV yX6_relation cX6_relation 3 (some .int) 2 := ⟨ww_in 915 (by decide +kernel) (by decide +kernel), ww_in 61 (by decide +kernel) (by decide +kernel), by decide +kernel, by decide +kernel, by decide +kernel⟩
theorem wi_X6_relation : Cond.instanceMethod yX6_relation ∈ WW := ww_in 913 (by decide +kernel) (by decide +kernel)
theorem wl_X6_relation : Cond.selects yX6_relation.cls yX6_relation yX6_relation ∈ WW := ww_in 914 (by decide +kernel) (by decide +kernel)
theorem yv_X6_relationTold : YV yX6_relationTold cX6_relationTold 3 (some .int) 2 := ⟨ww_in 919 (by decide +kernel) (by decide +kernel), ww_in 61 (by decide +kernel) (by decide +kernel), by decide +kernel, by decide +kernel, by decide +kernel⟩
theorem wi_X6_relationTold : Cond.instanceMethod yX6_relationTold ∈ WW := ww_in 918 (by decide +kernel) (by decide +kernel)
theorem wl_X6_relationTold : Cond.selects yX6_relationTold.cls yX6_relationTold yX6_relationTold ∈ WW := ww_in 35 (by decide +kernel) (by decide +kernel)
theorem yv_X6_row : YV yX6_row cX6_row 6 (some .int) 3 := ⟨ww_in 996 (by decide +kernel) (by decide +kernel), ww_in 61 (by decide +kernel) (by decide +kernel), by decide +kernel, by decide +kernel, by decide +kernel⟩
theorem wi_X6_row : Cond.instanceMethod yX6_row ∈ WW := ww_in 994 (by decide +kernel) (by decide +kernel)
theorem wl_X6_row : Cond.selects yX6_row.cls yX6_row yX6_row ∈ WW := ww_in 995 (by decide +kernel) (by decide +kernel)
theorem yv_X6_setPhase : YV yX6_setPhase cX6_setPhase 4 (some .int) 2 := ⟨ww_in 1070 (by decide +kernel) (by decide +kernel), ww_in 61 (by decide +kernel) (by decide +kernel), by decide +kernel, by decide +kernel, by decide +kernel⟩
theorem wi_X6_setPhase : Cond.instanceMethod yX6_setPhase ∈ WW := ww_in 1068 (by decide +kernel) (by decide +kernel)
theorem wl_X6_setPhase : Cond.selects yX6_setPhase.cls yX6_setPhase yX6_setPhase ∈ WW := ww_in 1069 (by decide +kernel) (by decide +kernel)
theorem yv_X6_settle : YV yX6_settle cX6_settle 3 none 0 := ⟨ww_in 873 (by decide +kernel) (by decide +kernel), ww_in 61 (by decide +kernel) (by decide +kernel), by decide +kernel, by decide +kernel, by decide +kernel⟩
theorem wi_X6_settle : Cond.instanceMethod yX6_settle ∈ WW := ww_in 872 (by decide +kernel) (by decide +kernel)
theorem wl_X6_settle : Cond.selects yX6_settle.cls yX6_settle yX6_settle ∈ WW := ww_in 28 (by decide +kernel) (by decide +kernel)
theorem yv_X6_sizeOf : YV yX6_sizeOf cX6_sizeOf 4 (some .int) 1 := ⟨ww_in 980 (by decide +kernel) (by decide +kernel), ww_in 61 (by decide +kernel) (by decide +kernel), by decide +kernel, by decide +kernel, by decide +kernel⟩
theorem wi_X6_sizeOf : Cond.instanceMethod yX6_sizeOf ∈ WW := ww_in 979 (by decide +kernel) (by decide +kernel)
theorem wl_X6_sizeOf : Cond.selects yX6_sizeOf.cls yX6_sizeOf yX6_sizeOf ∈ WW := ww_in 48 (by decide +kernel) (by decide +kernel)
theorem yv_X6_takeBack : YV yX6_takeBack cX6_takeBack 3 (some .int) 1 := ⟨ww_in 911 (by decide +kernel) (by decide +kernel), ww_in 61 (by decide +kernel) (by decide +kernel), by decide +kernel, by decide +kernel, by decide +kernel⟩
theorem wi_X6_takeBack : Cond.instanceMethod yX6_takeBack ∈ WW := ww_in 909 (by decide +kernel) (by decide +kernel)
theorem wl_X6_takeBack : Cond.selects yX6_takeBack.cls yX6_takeBack yX6_takeBack ∈ WW := ww_in 910 (by decide +kernel) (by decide +kernel)
theorem yv_X6_thrown : YV yX6_thrown cX6_thrown 1 (some .int) 0 := ⟨ww_in 858 (by decide +kernel) (by decide +kernel), ww_in 61 (by decide +kernel) (by decide +kernel), by decide +kernel, by decide +kernel, by decide +kernel⟩
theorem wi_X6_thrown : Cond.instanceMethod yX6_thrown ∈ WW := ww_in 856 (by decide +kernel) (by decide +kernel)
theorem wl_X6_thrown : Cond.selects yX6_thrown.cls yX6_thrown yX6_thrown ∈ WW := ww_in 857 (by decide +kernel) (by decide +kernel)
theorem yv_X6_unit : YV yX6_unit cX6_unit 3 (some .int) 2 := ⟨ww_in 972 (by decide +kernel) (by decide +kernel), ww_in 61 (by decide +kernel) (by decide +kernel), by decide +kernel, by decide +kernel, by decide +kernel⟩
theorem wi_X6_unit : Cond.instanceMethod yX6_unit ∈ WW := ww_in 970 (by decide +kernel) (by decide +kernel)
theorem wl_X6_unit : Cond.selects yX6_unit.cls yX6_unit yX6_unit ∈ WW := ww_in 971 (by decide +kernel) (by decide +kernel)
theorem yv_X6_unitTold : YV yX6_unitTold cX6_unitTold 5 (some .int) 2 := ⟨ww_in 976 (by decide +kernel) (by decide +kernel), ww_in 61 (by decide +kernel) (by decide +kernel), by decide +kernel, by decide +kernel, by decide +kernel⟩
theorem wi_X6_unitTold : Cond.instanceMethod yX6_unitTold ∈ WW := ww_in 975 (by decide +kernel) (by decide +kernel)
theorem wl_X6_unitTold : Cond.selects yX6_unitTold.cls yX6_unitTold yX6_unitTold ∈ WW := ww_in 47 (by decide +kernel) (by decide +kernel)
theorem yv_X6_way : YV yX6_way cX6_way 8 (some .int) 3 := ⟨ww_in 1000 (by decide +kernel) (by decide +kernel), ww_in 61 (by decide +kernel) (by decide +kernel), by decide +kernel, by decide +kernel, by decide +kernel⟩
theorem wi_X6_way : Cond.instanceMethod yX6_way ∈ WW := ww_in 998 (by decide +kernel) (by decide +kernel)
theorem wl_X6_way : Cond.selects yX6_way.cls yX6_way yX6_way ∈ WW := ww_in 999 (by decide +kernel) (by decide +kernel)
theorem yv_X6_year : YV yX6_year cX6_year 8 (some .int) 2 := ⟨ww_in 956 (by decide +kernel) (by decide +kernel), ww_in 61 (by decide +kernel) (by decide +kernel), by decide +kernel, by decide +kernel, by decide +kernel⟩
theorem wi_X6_year : Cond.instanceMethod yX6_year ∈ WW := ww_in 955 (by decide +kernel) (by decide +kernel)
theorem wl_X6_year : Cond.selects yX6_year.cls yX6_year yX6_year ∈ WW := ww_in 43 (by decide +kernel) (by decide +kernel)
theorem yv_J13_bitCount_95d88 : YV yJ13_bitCount_95d88 cJ13_bitCount_95d88 2 (some .int) 1 := ⟨ww_in 393 (by decide +kernel) (by decide +kernel), ww_in 69 (by decide +kernel) (by decide +kernel), by decide +kernel, by decide +kernel, by decide +kernel⟩
theorem ws_J13_bitCount_95d88 : Cond.static yJ13_bitCount_95d88 ∈ WW := ww_in 392 (by decide +kernel) (by decide +kernel)
theorem yv_J9_max_7cf53 : YV yJ9_max_7cf53 cJ9_max_7cf53 2 (some .int) 2 := ⟨ww_in 413 (by decide +kernel) (by decide +kernel), ww_in 67 (by decide +kernel) (by decide +kernel), by decide +kernel, by decide +kernel, by decide +kernel⟩
theorem ws_J9_max_7cf53 : Cond.static yJ9_max_7cf53 ∈ WW := ww_in 412 (by decide +kernel) (by decide +kernel)
theorem yv_J9_min_7cf53 : YV yJ9_min_7cf53 cJ9_min_7cf53 2 (some .int) 2 := ⟨ww_in 280 (by decide +kernel) (by decide +kernel), ww_in 67 (by decide +kernel) (by decide +kernel), by decide +kernel, by decide +kernel, by decide +kernel⟩
theorem ws_J9_min_7cf53 : Cond.static yJ9_min_7cf53 ∈ WW := ww_in 279 (by decide +kernel) (by decide +kernel)
theorem wc_L_addFind : Cond.codeWith yL_addFind cL_addFind 7 (some .int) [(0, 14, 17, 21), (0, 14, 21, 13), (0, 14, 25, 15)] ∈ WW := ww_in 677 (by decide +kernel) (by decide +kernel)
theorem ws_L_addFind : Cond.static yL_addFind ∈ WW := ww_in 676 (by decide +kernel) (by decide +kernel)
theorem wc_L_addUnit : Cond.codeWith yL_addUnit cL_addUnit 4 (some .int) [(0, 9, 12, 13), (0, 9, 15, 15)] ∈ WW := ww_in 459 (by decide +kernel) (by decide +kernel)
theorem ws_L_addUnit : Cond.static yL_addUnit ∈ WW := ww_in 458 (by decide +kernel) (by decide +kernel)
theorem wc_L_between : Cond.codeWith yL_between cL_between 5 (some .int) [(0, 10, 13, 21)] ∈ WW := ww_in 670 (by decide +kernel) (by decide +kernel)
theorem ws_L_between : Cond.static yL_between ∈ WW := ww_in 669 (by decide +kernel) (by decide +kernel)
theorem wc_L_bound : Cond.codeWith yL_bound cL_bound 5 (some .int) [(0, 10, 13, 21)] ∈ WW := ww_in 731 (by decide +kernel) (by decide +kernel)
theorem ws_L_bound : Cond.static yL_bound ∈ WW := ww_in 730 (by decide +kernel) (by decide +kernel)
theorem wc_L_count : Cond.codeWith yL_count cL_count 4 (some .int) [(0, 9, 12, 21)] ∈ WW := ww_in 614 (by decide +kernel) (by decide +kernel)
theorem ws_L_count : Cond.static yL_count ∈ WW := ww_in 613 (by decide +kernel) (by decide +kernel)
theorem wc_L_date : Cond.codeWith yL_date cL_date 6 (some .int) [(0, 12, 15, 21), (0, 12, 19, 13)] ∈ WW := ww_in 718 (by decide +kernel) (by decide +kernel)
theorem ws_L_date : Cond.static yL_date ∈ WW := ww_in 717 (by decide +kernel) (by decide +kernel)
theorem wc_L_dig : Cond.codeWith yL_dig cL_dig 4 (some .int) [(0, 9, 12, 21), (0, 9, 15, 15)] ∈ WW := ww_in 758 (by decide +kernel) (by decide +kernel)
theorem ws_L_dig : Cond.static yL_dig ∈ WW := ww_in 757 (by decide +kernel) (by decide +kernel)
theorem wc_L_doubt : Cond.codeWith yL_doubt cL_doubt 4 (some .int) [(0, 9, 12, 21)] ∈ WW := ww_in 735 (by decide +kernel) (by decide +kernel)
theorem ws_L_doubt : Cond.static yL_doubt ∈ WW := ww_in 734 (by decide +kernel) (by decide +kernel)
theorem wc_L_find : Cond.codeWith yL_find cL_find 5 (some .int) [(0, 10, 13, 21)] ∈ WW := ww_in 714 (by decide +kernel) (by decide +kernel)
theorem ws_L_find : Cond.static yL_find ∈ WW := ww_in 713 (by decide +kernel) (by decide +kernel)
theorem wc_L_isLinked : Cond.codeWith yL_isLinked cL_isLinked 5 (some .int) [(0, 17, 20, 21)] ∈ WW := ww_in 629 (by decide +kernel) (by decide +kernel)
theorem ws_L_isLinked : Cond.static yL_isLinked ∈ WW := ww_in 628 (by decide +kernel) (by decide +kernel)
theorem wc_L_move : Cond.codeWith yL_move cL_move 5 (some .int) [(0, 10, 13, 21)] ∈ WW := ww_in 707 (by decide +kernel) (by decide +kernel)
theorem ws_L_move : Cond.static yL_move ∈ WW := ww_in 706 (by decide +kernel) (by decide +kernel)
theorem wc_L_nearest : Cond.codeWith yL_nearest cL_nearest 7 (some .int) [(0, 14, 17, 13)] ∈ WW := ww_in 742 (by decide +kernel) (by decide +kernel)
theorem ws_L_nearest : Cond.static yL_nearest ∈ WW := ww_in 741 (by decide +kernel) (by decide +kernel)
theorem wc_L_next : Cond.codeWith yL_next cL_next 4 (some .int) [(0, 9, 12, 21)] ∈ WW := ww_in 774 (by decide +kernel) (by decide +kernel)
theorem ws_L_next : Cond.static yL_next ∈ WW := ww_in 773 (by decide +kernel) (by decide +kernel)
theorem wc_L_order : Cond.codeWith yL_order cL_order 5 (some .int) [(0, 10, 13, 21)] ∈ WW := ww_in 622 (by decide +kernel) (by decide +kernel)
theorem ws_L_order : Cond.static yL_order ∈ WW := ww_in 621 (by decide +kernel) (by decide +kernel)
theorem wc_L_place : Cond.codeWith yL_place cL_place 7 (some .int) [(0, 14, 17, 21), (0, 14, 21, 13)] ∈ WW := ww_in 695 (by decide +kernel) (by decide +kernel)
theorem ws_L_place : Cond.static yL_place ∈ WW := ww_in 694 (by decide +kernel) (by decide +kernel)
theorem wc_L_relate : Cond.codeWith yL_relate cL_relate 6 (some .int) [(0, 12, 15, 13), (0, 12, 19, 21), (0, 12, 23, 15)] ∈ WW := ww_in 570 (by decide +kernel) (by decide +kernel)
theorem ws_L_relate : Cond.static yL_relate ∈ WW := ww_in 569 (by decide +kernel) (by decide +kernel)
theorem wc_L_relation : Cond.codeWith yL_relation cL_relation 5 (some .int) [(0, 10, 13, 21)] ∈ WW := ww_in 610 (by decide +kernel) (by decide +kernel)
theorem ws_L_relation : Cond.static yL_relation ∈ WW := ww_in 609 (by decide +kernel) (by decide +kernel)
theorem wc_L_row : Cond.codeWith yL_row cL_row 6 (some .int) [(0, 12, 15, 21)] ∈ WW := ww_in 636 (by decide +kernel) (by decide +kernel)
theorem ws_L_row : Cond.static yL_row ∈ WW := ww_in 635 (by decide +kernel) (by decide +kernel)
theorem wc_L_setPhase : Cond.codeWith yL_setPhase cL_setPhase 5 (some .int) [(0, 10, 13, 21), (0, 10, 17, 13)] ∈ WW := ww_in 781 (by decide +kernel) (by decide +kernel)
theorem ws_L_setPhase : Cond.static yL_setPhase ∈ WW := ww_in 780 (by decide +kernel) (by decide +kernel)
theorem wc_L_takeBack : Cond.codeWith yL_takeBack cL_takeBack 4 (some .int) [(0, 9, 12, 21)] ∈ WW := ww_in 599 (by decide +kernel) (by decide +kernel)
theorem ws_L_takeBack : Cond.static yL_takeBack ∈ WW := ww_in 598 (by decide +kernel) (by decide +kernel)
theorem wc_L_unit : Cond.codeWith yL_unit cL_unit 5 (some .int) [(0, 10, 13, 21)] ∈ WW := ww_in 618 (by decide +kernel) (by decide +kernel)
theorem ws_L_unit : Cond.static yL_unit ∈ WW := ww_in 617 (by decide +kernel) (by decide +kernel)
theorem wc_L_way : Cond.codeWith yL_way cL_way 6 (some .int) [(0, 12, 15, 21), (0, 12, 19, 13)] ∈ WW := ww_in 654 (by decide +kernel) (by decide +kernel)
theorem ws_L_way : Cond.static yL_way ∈ WW := ww_in 653 (by decide +kernel) (by decide +kernel)
theorem w_maxS : Cond.static Lib.Math.max.name ∈ WW := ww_in 412 (by decide +kernel) (by decide +kernel)
theorem w_minS : Cond.static Lib.Math.min.name ∈ WW := ww_in 279 (by decide +kernel) (by decide +kernel)
theorem w_maxI : Cond.initialized "java/lang/Math" ∈ WW := ww_in 67 (by decide +kernel) (by decide +kernel)
theorem w_maxC : Cond.code Lib.Math.max.name Lib.Math.max.code 2 (some .int) ∈ WW := ww_in 413 (by decide +kernel) (by decide +kernel)
theorem w_minC : Cond.code Lib.Math.min.name Lib.Math.min.code 2 (some .int) ∈ WW := ww_in 280 (by decide +kernel) (by decide +kernel)
theorem cl_X5_7 : Cond.classLink RX5 7 RX4 ∈ WW := ww_in 79 (by decide +kernel) (by decide +kernel)
theorem cl_X5_16 : Cond.classLink RX5 16 RX3 ∈ WW := ww_in 116 (by decide +kernel) (by decide +kernel)
theorem cl_X5_23 : Cond.classLink RX5 23 RX2 ∈ WW := ww_in 143 (by decide +kernel) (by decide +kernel)
theorem cl_X5_30 : Cond.classLink RX5 30 RX1 ∈ WW := ww_in 195 (by decide +kernel) (by decide +kernel)
theorem cl_X5_37 : Cond.classLink RX5 37 RX0 ∈ WW := ww_in 237 (by decide +kernel) (by decide +kernel)
theorem cl_X5_48 : Cond.classLink RX5 48 "java/lang/IllegalArgumentException" ∈ WW := ww_in 466 (by decide +kernel) (by decide +kernel)
theorem cl_X5_59 : Cond.classLink RX5 59 "java/lang/IllegalStateException" ∈ WW := ww_in 482 (by decide +kernel) (by decide +kernel)
theorem cl_X5_296 : Cond.classLink RX5 296 "java/lang/IndexOutOfBoundsException" ∈ WW := ww_in 323 (by decide +kernel) (by decide +kernel)
theorem cl_L_8 : Cond.classLink RL 8 RX5 ∈ WW := ww_in 71 (by decide +kernel) (by decide +kernel)
theorem cl_L_13 : Cond.classLink RL 13 "java/lang/IllegalArgumentException" ∈ WW := ww_in 460 (by decide +kernel) (by decide +kernel)
theorem cl_L_15 : Cond.classLink RL 15 "java/lang/IllegalStateException" ∈ WW := ww_in 461 (by decide +kernel) (by decide +kernel)
theorem cl_L_21 : Cond.classLink RL 21 "java/lang/IndexOutOfBoundsException" ∈ WW := ww_in 571 (by decide +kernel) (by decide +kernel)
theorem cl_L_89 : Cond.classLink RL 89 RX6 ∈ WW := ww_in 787 (by decide +kernel) (by decide +kernel)
theorem wn_X0 : Cond.instantiable RX0 4 ∈ WW := ww_in 238 (by decide +kernel) (by decide +kernel)
theorem wz_X0 : Cond.initialized RX0 ∈ WW := ww_in 60 (by decide +kernel) (by decide +kernel)
theorem wn_X1 : Cond.instantiable RX1 8 ∈ WW := ww_in 196 (by decide +kernel) (by decide +kernel)
theorem wz_X1 : Cond.initialized RX1 ∈ WW := ww_in 59 (by decide +kernel) (by decide +kernel)
theorem wn_X2 : Cond.instantiable RX2 11 ∈ WW := ww_in 144 (by decide +kernel) (by decide +kernel)
theorem wz_X2 : Cond.initialized RX2 ∈ WW := ww_in 58 (by decide +kernel) (by decide +kernel)
theorem wn_X3 : Cond.instantiable RX3 4 ∈ WW := ww_in 117 (by decide +kernel) (by decide +kernel)
theorem wz_X3 : Cond.initialized RX3 ∈ WW := ww_in 57 (by decide +kernel) (by decide +kernel)
theorem wn_X4 : Cond.instantiable RX4 7 ∈ WW := ww_in 80 (by decide +kernel) (by decide +kernel)
theorem wz_X4 : Cond.initialized RX4 ∈ WW := ww_in 56 (by decide +kernel) (by decide +kernel)
theorem wn_X5 : Cond.instantiable RX5 5 ∈ WW := ww_in 72 (by decide +kernel) (by decide +kernel)
theorem wz_X5 : Cond.initialized RX5 ∈ WW := ww_in 55 (by decide +kernel) (by decide +kernel)
theorem wn_X6 : Cond.instantiable RX6 20 ∈ WW := ww_in 788 (by decide +kernel) (by decide +kernel)
theorem wz_X6 : Cond.initialized RX6 ∈ WW := ww_in 61 (by decide +kernel) (by decide +kernel)
theorem wz_L : Cond.initialized RL ∈ WW := ww_in 54 (by decide +kernel) (by decide +kernel)
theorem wz_sys : Cond.initialized "java/lang/System" ∈ WW := ww_in 70 (by decide +kernel) (by decide +kernel)
theorem wz_IllegalArgumentException : Cond.initialized "java/lang/IllegalArgumentException" ∈ WW := ww_in 65 (by decide +kernel) (by decide +kernel)
theorem wz_IllegalStateException : Cond.initialized "java/lang/IllegalStateException" ∈ WW := ww_in 66 (by decide +kernel) (by decide +kernel)
theorem wz_IndexOutOfBoundsException : Cond.initialized "java/lang/IndexOutOfBoundsException" ∈ WW := ww_in 68 (by decide +kernel) (by decide +kernel)
theorem kl_X5_276 : Cond.constantLong RX5 276 (431) ∈ WW := ww_in 311 (by decide +kernel) (by decide +kernel)
theorem kl_X5_278 : Cond.constantLong RX5 278 (31) ∈ WW := ww_in 312 (by decide +kernel) (by decide +kernel)
theorem kl_X2_101 : Cond.constantLong RX2 101 (-1) ∈ WW := ww_in 540 (by decide +kernel) (by decide +kernel)
theorem kl_X4_36 : Cond.constantLong RX4 36 (-1) ∈ WW := ww_in 728 (by decide +kernel) (by decide +kernel)
theorem kl_X6_91 : Cond.constantLong RX6 91 (-1) ∈ WW := ww_in 886 (by decide +kernel) (by decide +kernel)
theorem kl_X6_196 : Cond.constantLong RX6 196 (431) ∈ WW := ww_in 1087 (by decide +kernel) (by decide +kernel)
theorem kl_X6_198 : Cond.constantLong RX6 198 (31) ∈ WW := ww_in 1088 (by decide +kernel) (by decide +kernel)
theorem kl_J13_314 : Cond.constantLong RJ13 314 (6148914691236517205) ∈ WW := ww_in 394 (by decide +kernel) (by decide +kernel)
theorem kl_J13_316 : Cond.constantLong RJ13 316 (3689348814741910323) ∈ WW := ww_in 395 (by decide +kernel) (by decide +kernel)
theorem kl_J13_318 : Cond.constantLong RJ13 318 (1085102592571150095) ∈ WW := ww_in 396 (by decide +kernel) (by decide +kernel)
theorem wa_int : Cond.arrayClass .int ∈ WW := ww_in 115 (by decide +kernel) (by decide +kernel)
theorem wa_long : Cond.arrayClass .long ∈ WW := ww_in 194 (by decide +kernel) (by decide +kernel)
theorem wa_boolean : Cond.arrayClass .boolean ∈ WW := ww_in 854 (by decide +kernel) (by decide +kernel)
theorem wi_obj : Cond.instanceMethod objectInit ∈ WW := ww_in 77 (by decide +kernel) (by decide +kernel)
theorem wc_obj : Cond.code objectInit ⟨#[0xb1]⟩ 1 none ∈ WW := ww_in 78 (by decide +kernel) (by decide +kernel)
theorem ws_copy : Cond.static arraycopyName ∈ WW := ww_in 1014 (by decide +kernel) (by decide +kernel)
theorem wt_copy : Cond.native arraycopyName ∈ WW := ww_in 1015 (by decide +kernel) (by decide +kernel)
end
section
/-! ROWS, SECOND: branches, the heap, calls, ends. -/
section ROWS2
variable {g : aG} {κ : aK} {own : String} {cc : ByteArray} {nL pc k n i : Nat} {rm : Room} {L L' : List (Nat × Value)} {st : List Value} {ws ws' : va_W}
theorem a_if_eq (C : Cx g κ own cc nL rm) {x : Int32} {off : Int} {tgt : Nat} (ht : (pc : Int) + off = (tgt : Int)) (hd : decode cc pc = .ok (.ifCond .eq off, 3)) (kt : x = 0 → aw g κ nL tgt L st ws k n) (kf : ¬ x = 0 → aw g κ nL (pc + 3) L st ws k n) : aw g κ nL pc L (.int x :: st) ws k n := fun H locs ls hP hD hS hl => lv_if_eq C.1 C.2.1 hd ht (fun c => kt c H locs ls hP hD hS hl) (fun c => kf c H locs ls hP hD hS hl)
theorem a_if_eq_y (C : Cx g κ own cc nL rm) {x : Int32} {off : Int} {tgt : Nat} (hc : x = 0) (ht : (pc : Int) + off = (tgt : Int)) (hd : decode cc pc = .ok (.ifCond .eq off, 3)) (kt : aw g κ nL tgt L st ws k n) : aw g κ nL pc L (.int x :: st) ws k n := a_if_eq C ht hd (fun _ => kt) (fun c => absurd hc c)
theorem a_if_eq_n (C : Cx g κ own cc nL rm) {x : Int32} {off : Int} (hc : ¬ x = 0) (hd : decode cc pc = .ok (.ifCond .eq off, 3)) (ht : ∃ tgt : Nat, (pc : Int) + off = (tgt : Int)) (kf : aw g κ nL (pc + 3) L st ws k n) : aw g κ nL pc L (.int x :: st) ws k n := a_if_eq C ht.choose_spec hd (fun c => absurd c hc) (fun _ => kf)
theorem a_if_ne (C : Cx g κ own cc nL rm) {x : Int32} {off : Int} {tgt : Nat} (ht : (pc : Int) + off = (tgt : Int)) (hd : decode cc pc = .ok (.ifCond .ne off, 3)) (kt : ¬ x = 0 → aw g κ nL tgt L st ws k n) (kf : x = 0 → aw g κ nL (pc + 3) L st ws k n) : aw g κ nL pc L (.int x :: st) ws k n := fun H locs ls hP hD hS hl => lv_if_ne C.1 C.2.1 hd ht (fun c => kt c H locs ls hP hD hS hl) (fun c => kf c H locs ls hP hD hS hl)
theorem a_if_ne_y (C : Cx g κ own cc nL rm) {x : Int32} {off : Int} {tgt : Nat} (hc : ¬ x = 0) (ht : (pc : Int) + off = (tgt : Int)) (hd : decode cc pc = .ok (.ifCond .ne off, 3)) (kt : aw g κ nL tgt L st ws k n) : aw g κ nL pc L (.int x :: st) ws k n := a_if_ne C ht hd (fun _ => kt) (fun c => absurd c hc)
theorem a_if_ne_n (C : Cx g κ own cc nL rm) {x : Int32} {off : Int} (hc : x = 0) (hd : decode cc pc = .ok (.ifCond .ne off, 3)) (ht : ∃ tgt : Nat, (pc : Int) + off = (tgt : Int)) (kf : aw g κ nL (pc + 3) L st ws k n) : aw g κ nL pc L (.int x :: st) ws k n := a_if_ne C ht.choose_spec hd (fun c => absurd hc c) (fun _ => kf)
theorem a_if_lt (C : Cx g κ own cc nL rm) {x : Int32} {off : Int} {tgt : Nat} (ht : (pc : Int) + off = (tgt : Int)) (hd : decode cc pc = .ok (.ifCond .lt off, 3)) (kt : x < 0 → aw g κ nL tgt L st ws k n) (kf : ¬ x < 0 → aw g κ nL (pc + 3) L st ws k n) : aw g κ nL pc L (.int x :: st) ws k n := fun H locs ls hP hD hS hl => lv_if_lt C.1 C.2.1 hd ht (fun c => kt c H locs ls hP hD hS hl) (fun c => kf c H locs ls hP hD hS hl)
theorem a_if_lt_y (C : Cx g κ own cc nL rm) {x : Int32} {off : Int} {tgt : Nat} (hc : x < 0) (ht : (pc : Int) + off = (tgt : Int)) (hd : decode cc pc = .ok (.ifCond .lt off, 3)) (kt : aw g κ nL tgt L st ws k n) : aw g κ nL pc L (.int x :: st) ws k n := a_if_lt C ht hd (fun _ => kt) (fun c => absurd hc c)
theorem a_if_lt_n (C : Cx g κ own cc nL rm) {x : Int32} {off : Int} (hc : ¬ x < 0) (hd : decode cc pc = .ok (.ifCond .lt off, 3)) (ht : ∃ tgt : Nat, (pc : Int) + off = (tgt : Int)) (kf : aw g κ nL (pc + 3) L st ws k n) : aw g κ nL pc L (.int x :: st) ws k n := a_if_lt C ht.choose_spec hd (fun c => absurd c hc) (fun _ => kf)
theorem a_if_gt (C : Cx g κ own cc nL rm) {x : Int32} {off : Int} {tgt : Nat} (ht : (pc : Int) + off = (tgt : Int)) (hd : decode cc pc = .ok (.ifCond .gt off, 3)) (kt : 0 < x → aw g κ nL tgt L st ws k n) (kf : ¬ 0 < x → aw g κ nL (pc + 3) L st ws k n) : aw g κ nL pc L (.int x :: st) ws k n := fun H locs ls hP hD hS hl => lv_if_gt C.1 C.2.1 hd ht (fun c => kt c H locs ls hP hD hS hl) (fun c => kf c H locs ls hP hD hS hl)
theorem a_if_gt_y (C : Cx g κ own cc nL rm) {x : Int32} {off : Int} {tgt : Nat} (hc : 0 < x) (ht : (pc : Int) + off = (tgt : Int)) (hd : decode cc pc = .ok (.ifCond .gt off, 3)) (kt : aw g κ nL tgt L st ws k n) : aw g κ nL pc L (.int x :: st) ws k n := a_if_gt C ht hd (fun _ => kt) (fun c => absurd hc c)
theorem a_if_gt_n (C : Cx g κ own cc nL rm) {x : Int32} {off : Int} (hc : ¬ 0 < x) (hd : decode cc pc = .ok (.ifCond .gt off, 3)) (ht : ∃ tgt : Nat, (pc : Int) + off = (tgt : Int)) (kf : aw g κ nL (pc + 3) L st ws k n) : aw g κ nL pc L (.int x :: st) ws k n := a_if_gt C ht.choose_spec hd (fun c => absurd c hc) (fun _ => kf)
theorem a_ic_eq (C : Cx g κ own cc nL rm) {x y : Int32} {off : Int} {tgt : Nat} (ht : (pc : Int) + off = (tgt : Int)) (hd : decode cc pc = .ok (.if_icmp .eq off, 3)) (kt : x = y → aw g κ nL tgt L st ws k n) (kf : ¬ x = y → aw g κ nL (pc + 3) L st ws k n) : aw g κ nL pc L (.int y :: .int x :: st) ws k n := fun H locs ls hP hD hS hl => lv_icmp_eq C.1 C.2.1 hd ht (fun c => kt c H locs ls hP hD hS hl) (fun c => kf c H locs ls hP hD hS hl)
theorem a_icn_eq (C : Cx g κ own cc nL rm) {a b : Nat} {off : Int} {tgt : Nat} (ha : a < 2 ^ 31) (hb : b < 2 ^ 31) (ht : (pc : Int) + off = (tgt : Int)) (hd : decode cc pc = .ok (.if_icmp .eq off, 3)) (kt : a = b → aw g κ nL tgt L st ws k n) (kf : ¬ a = b → aw g κ nL (pc + 3) L st ws k n) : aw g κ nL pc L (.int (nI b) :: .int (nI a) :: st) ws k n := a_ic_eq C ht hd (fun c => kt ((nI_eq ha hb).mp c)) (fun c => kf (fun e => c ((nI_eq ha hb).mpr e)))
theorem a_icn_eq_y (C : Cx g κ own cc nL rm) {a b : Nat} {off : Int} {tgt : Nat} (ha : a < 2 ^ 31) (hb : b < 2 ^ 31) (hc : a = b) (ht : (pc : Int) + off = (tgt : Int)) (hd : decode cc pc = .ok (.if_icmp .eq off, 3)) (kt : aw g κ nL tgt L st ws k n) : aw g κ nL pc L (.int (nI b) :: .int (nI a) :: st) ws k n := a_icn_eq C ha hb ht hd (fun _ => kt) (fun c => False.elim (c hc))
theorem a_icn_eq_n (C : Cx g κ own cc nL rm) {a b : Nat} {off : Int} (ha : a < 2 ^ 31) (hb : b < 2 ^ 31) (hc : ¬ a = b) (hd : decode cc pc = .ok (.if_icmp .eq off, 3)) (ht : ∃ tgt : Nat, (pc : Int) + off = (tgt : Int)) (kf : aw g κ nL (pc + 3) L st ws k n) : aw g κ nL pc L (.int (nI b) :: .int (nI a) :: st) ws k n := a_icn_eq C ha hb ht.choose_spec hd (fun c => False.elim (hc c)) (fun _ => kf)
theorem a_ic_eq_y (C : Cx g κ own cc nL rm) {x y : Int32} {off : Int} {tgt : Nat} (hc : x = y) (ht : (pc : Int) + off = (tgt : Int)) (hd : decode cc pc = .ok (.if_icmp .eq off, 3)) (kt : aw g κ nL tgt L st ws k n) : aw g κ nL pc L (.int y :: .int x :: st) ws k n := a_ic_eq C ht hd (fun _ => kt) (fun c => absurd hc c)
theorem a_ic_eq_n (C : Cx g κ own cc nL rm) {x y : Int32} {off : Int} (hc : ¬ x = y) (hd : decode cc pc = .ok (.if_icmp .eq off, 3)) (ht : ∃ tgt : Nat, (pc : Int) + off = (tgt : Int)) (kf : aw g κ nL (pc + 3) L st ws k n) : aw g κ nL pc L (.int y :: .int x :: st) ws k n := a_ic_eq C ht.choose_spec hd (fun c => absurd c hc) (fun _ => kf)
theorem a_ic_ne (C : Cx g κ own cc nL rm) {x y : Int32} {off : Int} {tgt : Nat} (ht : (pc : Int) + off = (tgt : Int)) (hd : decode cc pc = .ok (.if_icmp .ne off, 3)) (kt : ¬ x = y → aw g κ nL tgt L st ws k n) (kf : x = y → aw g κ nL (pc + 3) L st ws k n) : aw g κ nL pc L (.int y :: .int x :: st) ws k n := fun H locs ls hP hD hS hl => lv_icmp_ne C.1 C.2.1 hd ht (fun c => kt c H locs ls hP hD hS hl) (fun c => kf c H locs ls hP hD hS hl)
theorem a_icn_ne (C : Cx g κ own cc nL rm) {a b : Nat} {off : Int} {tgt : Nat} (ha : a < 2 ^ 31) (hb : b < 2 ^ 31) (ht : (pc : Int) + off = (tgt : Int)) (hd : decode cc pc = .ok (.if_icmp .ne off, 3)) (kt : ¬ a = b → aw g κ nL tgt L st ws k n) (kf : a = b → aw g κ nL (pc + 3) L st ws k n) : aw g κ nL pc L (.int (nI b) :: .int (nI a) :: st) ws k n := a_ic_ne C ht hd (fun c => kt (fun e => c ((nI_eq ha hb).mpr e))) (fun c => kf ((nI_eq ha hb).mp c))
theorem a_icn_ne_y (C : Cx g κ own cc nL rm) {a b : Nat} {off : Int} {tgt : Nat} (ha : a < 2 ^ 31) (hb : b < 2 ^ 31) (hc : ¬ a = b) (ht : (pc : Int) + off = (tgt : Int)) (hd : decode cc pc = .ok (.if_icmp .ne off, 3)) (kt : aw g κ nL tgt L st ws k n) : aw g κ nL pc L (.int (nI b) :: .int (nI a) :: st) ws k n := a_icn_ne C ha hb ht hd (fun _ => kt) (fun c => False.elim (hc c))
theorem a_icn_ne_n (C : Cx g κ own cc nL rm) {a b : Nat} {off : Int} (ha : a < 2 ^ 31) (hb : b < 2 ^ 31) (hc : a = b) (hd : decode cc pc = .ok (.if_icmp .ne off, 3)) (ht : ∃ tgt : Nat, (pc : Int) + off = (tgt : Int)) (kf : aw g κ nL (pc + 3) L st ws k n) : aw g κ nL pc L (.int (nI b) :: .int (nI a) :: st) ws k n := a_icn_ne C ha hb ht.choose_spec hd (fun c => False.elim (c hc)) (fun _ => kf)
theorem a_ic_ne_y (C : Cx g κ own cc nL rm) {x y : Int32} {off : Int} {tgt : Nat} (hc : ¬ x = y) (ht : (pc : Int) + off = (tgt : Int)) (hd : decode cc pc = .ok (.if_icmp .ne off, 3)) (kt : aw g κ nL tgt L st ws k n) : aw g κ nL pc L (.int y :: .int x :: st) ws k n := a_ic_ne C ht hd (fun _ => kt) (fun c => absurd c hc)
theorem a_ic_ne_n (C : Cx g κ own cc nL rm) {x y : Int32} {off : Int} (hc : x = y) (hd : decode cc pc = .ok (.if_icmp .ne off, 3)) (ht : ∃ tgt : Nat, (pc : Int) + off = (tgt : Int)) (kf : aw g κ nL (pc + 3) L st ws k n) : aw g κ nL pc L (.int y :: .int x :: st) ws k n := a_ic_ne C ht.choose_spec hd (fun c => absurd hc c) (fun _ => kf)
theorem a_ic_lt (C : Cx g κ own cc nL rm) {x y : Int32} {off : Int} {tgt : Nat} (ht : (pc : Int) + off = (tgt : Int)) (hd : decode cc pc = .ok (.if_icmp .lt off, 3)) (kt : x < y → aw g κ nL tgt L st ws k n) (kf : ¬ x < y → aw g κ nL (pc + 3) L st ws k n) : aw g κ nL pc L (.int y :: .int x :: st) ws k n := fun H locs ls hP hD hS hl => lv_icmp_lt C.1 C.2.1 hd ht (fun c => kt c H locs ls hP hD hS hl) (fun c => kf c H locs ls hP hD hS hl)
theorem a_icn_lt (C : Cx g κ own cc nL rm) {a b : Nat} {off : Int} {tgt : Nat} (ha : a < 2 ^ 31) (hb : b < 2 ^ 31) (ht : (pc : Int) + off = (tgt : Int)) (hd : decode cc pc = .ok (.if_icmp .lt off, 3)) (kt : a < b → aw g κ nL tgt L st ws k n) (kf : b ≤ a → aw g κ nL (pc + 3) L st ws k n) : aw g κ nL pc L (.int (nI b) :: .int (nI a) :: st) ws k n := a_ic_lt C ht hd (fun c => kt ((nI_ltI ha hb).mp c)) (fun c => kf (Nat.le_of_not_lt (fun e => c ((nI_ltI ha hb).mpr e))))
theorem a_icn_lt_y (C : Cx g κ own cc nL rm) {a b : Nat} {off : Int} {tgt : Nat} (ha : a < 2 ^ 31) (hb : b < 2 ^ 31) (hc : a < b) (ht : (pc : Int) + off = (tgt : Int)) (hd : decode cc pc = .ok (.if_icmp .lt off, 3)) (kt : aw g κ nL tgt L st ws k n) : aw g κ nL pc L (.int (nI b) :: .int (nI a) :: st) ws k n := a_icn_lt C ha hb ht hd (fun _ => kt) (fun c => False.elim (by omega))
theorem a_icn_lt_n (C : Cx g κ own cc nL rm) {a b : Nat} {off : Int} (ha : a < 2 ^ 31) (hb : b < 2 ^ 31) (hc : b ≤ a) (hd : decode cc pc = .ok (.if_icmp .lt off, 3)) (ht : ∃ tgt : Nat, (pc : Int) + off = (tgt : Int)) (kf : aw g κ nL (pc + 3) L st ws k n) : aw g κ nL pc L (.int (nI b) :: .int (nI a) :: st) ws k n := a_icn_lt C ha hb ht.choose_spec hd (fun c => False.elim (by omega)) (fun _ => kf)
theorem a_ic_lt_y (C : Cx g κ own cc nL rm) {x y : Int32} {off : Int} {tgt : Nat} (hc : x < y) (ht : (pc : Int) + off = (tgt : Int)) (hd : decode cc pc = .ok (.if_icmp .lt off, 3)) (kt : aw g κ nL tgt L st ws k n) : aw g κ nL pc L (.int y :: .int x :: st) ws k n := a_ic_lt C ht hd (fun _ => kt) (fun c => absurd hc c)
theorem a_ic_lt_n (C : Cx g κ own cc nL rm) {x y : Int32} {off : Int} (hc : ¬ x < y) (hd : decode cc pc = .ok (.if_icmp .lt off, 3)) (ht : ∃ tgt : Nat, (pc : Int) + off = (tgt : Int)) (kf : aw g κ nL (pc + 3) L st ws k n) : aw g κ nL pc L (.int y :: .int x :: st) ws k n := a_ic_lt C ht.choose_spec hd (fun c => absurd c hc) (fun _ => kf)
theorem a_ic_ge (C : Cx g κ own cc nL rm) {x y : Int32} {off : Int} {tgt : Nat} (ht : (pc : Int) + off = (tgt : Int)) (hd : decode cc pc = .ok (.if_icmp .ge off, 3)) (kt : y ≤ x → aw g κ nL tgt L st ws k n) (kf : ¬ y ≤ x → aw g κ nL (pc + 3) L st ws k n) : aw g κ nL pc L (.int y :: .int x :: st) ws k n := fun H locs ls hP hD hS hl => lv_icmp_ge C.1 C.2.1 hd ht (fun c => kt c H locs ls hP hD hS hl) (fun c => kf c H locs ls hP hD hS hl)
theorem a_icn_ge (C : Cx g κ own cc nL rm) {a b : Nat} {off : Int} {tgt : Nat} (ha : a < 2 ^ 31) (hb : b < 2 ^ 31) (ht : (pc : Int) + off = (tgt : Int)) (hd : decode cc pc = .ok (.if_icmp .ge off, 3)) (kt : b ≤ a → aw g κ nL tgt L st ws k n) (kf : a < b → aw g κ nL (pc + 3) L st ws k n) : aw g κ nL pc L (.int (nI b) :: .int (nI a) :: st) ws k n := a_ic_ge C ht hd (fun c => kt ((nI_leI hb ha).mp c)) (fun c => kf (Nat.lt_of_not_le (fun e => c ((nI_leI hb ha).mpr e))))
theorem a_icn_ge_y (C : Cx g κ own cc nL rm) {a b : Nat} {off : Int} {tgt : Nat} (ha : a < 2 ^ 31) (hb : b < 2 ^ 31) (hc : b ≤ a) (ht : (pc : Int) + off = (tgt : Int)) (hd : decode cc pc = .ok (.if_icmp .ge off, 3)) (kt : aw g κ nL tgt L st ws k n) : aw g κ nL pc L (.int (nI b) :: .int (nI a) :: st) ws k n := a_icn_ge C ha hb ht hd (fun _ => kt) (fun c => False.elim (by omega))
theorem a_icn_ge_n (C : Cx g κ own cc nL rm) {a b : Nat} {off : Int} (ha : a < 2 ^ 31) (hb : b < 2 ^ 31) (hc : a < b) (hd : decode cc pc = .ok (.if_icmp .ge off, 3)) (ht : ∃ tgt : Nat, (pc : Int) + off = (tgt : Int)) (kf : aw g κ nL (pc + 3) L st ws k n) : aw g κ nL pc L (.int (nI b) :: .int (nI a) :: st) ws k n := a_icn_ge C ha hb ht.choose_spec hd (fun c => False.elim (by omega)) (fun _ => kf)
theorem a_ic_ge_y (C : Cx g κ own cc nL rm) {x y : Int32} {off : Int} {tgt : Nat} (hc : y ≤ x) (ht : (pc : Int) + off = (tgt : Int)) (hd : decode cc pc = .ok (.if_icmp .ge off, 3)) (kt : aw g κ nL tgt L st ws k n) : aw g κ nL pc L (.int y :: .int x :: st) ws k n := a_ic_ge C ht hd (fun _ => kt) (fun c => absurd hc c)
theorem a_ic_ge_n (C : Cx g κ own cc nL rm) {x y : Int32} {off : Int} (hc : ¬ y ≤ x) (hd : decode cc pc = .ok (.if_icmp .ge off, 3)) (ht : ∃ tgt : Nat, (pc : Int) + off = (tgt : Int)) (kf : aw g κ nL (pc + 3) L st ws k n) : aw g κ nL pc L (.int y :: .int x :: st) ws k n := a_ic_ge C ht.choose_spec hd (fun c => absurd c hc) (fun _ => kf)
theorem a_ic_gt (C : Cx g κ own cc nL rm) {x y : Int32} {off : Int} {tgt : Nat} (ht : (pc : Int) + off = (tgt : Int)) (hd : decode cc pc = .ok (.if_icmp .gt off, 3)) (kt : y < x → aw g κ nL tgt L st ws k n) (kf : ¬ y < x → aw g κ nL (pc + 3) L st ws k n) : aw g κ nL pc L (.int y :: .int x :: st) ws k n := fun H locs ls hP hD hS hl => lv_icmp_gt C.1 C.2.1 hd ht (fun c => kt c H locs ls hP hD hS hl) (fun c => kf c H locs ls hP hD hS hl)
theorem a_icn_gt (C : Cx g κ own cc nL rm) {a b : Nat} {off : Int} {tgt : Nat} (ha : a < 2 ^ 31) (hb : b < 2 ^ 31) (ht : (pc : Int) + off = (tgt : Int)) (hd : decode cc pc = .ok (.if_icmp .gt off, 3)) (kt : b < a → aw g κ nL tgt L st ws k n) (kf : a ≤ b → aw g κ nL (pc + 3) L st ws k n) : aw g κ nL pc L (.int (nI b) :: .int (nI a) :: st) ws k n := a_ic_gt C ht hd (fun c => kt ((nI_ltI hb ha).mp c)) (fun c => kf (Nat.le_of_not_lt (fun e => c ((nI_ltI hb ha).mpr e))))
theorem a_icn_gt_y (C : Cx g κ own cc nL rm) {a b : Nat} {off : Int} {tgt : Nat} (ha : a < 2 ^ 31) (hb : b < 2 ^ 31) (hc : b < a) (ht : (pc : Int) + off = (tgt : Int)) (hd : decode cc pc = .ok (.if_icmp .gt off, 3)) (kt : aw g κ nL tgt L st ws k n) : aw g κ nL pc L (.int (nI b) :: .int (nI a) :: st) ws k n := a_icn_gt C ha hb ht hd (fun _ => kt) (fun c => False.elim (by omega))
theorem a_icn_gt_n (C : Cx g κ own cc nL rm) {a b : Nat} {off : Int} (ha : a < 2 ^ 31) (hb : b < 2 ^ 31) (hc : a ≤ b) (hd : decode cc pc = .ok (.if_icmp .gt off, 3)) (ht : ∃ tgt : Nat, (pc : Int) + off = (tgt : Int)) (kf : aw g κ nL (pc + 3) L st ws k n) : aw g κ nL pc L (.int (nI b) :: .int (nI a) :: st) ws k n := a_icn_gt C ha hb ht.choose_spec hd (fun c => False.elim (by omega)) (fun _ => kf)
theorem a_ic_gt_y (C : Cx g κ own cc nL rm) {x y : Int32} {off : Int} {tgt : Nat} (hc : y < x) (ht : (pc : Int) + off = (tgt : Int)) (hd : decode cc pc = .ok (.if_icmp .gt off, 3)) (kt : aw g κ nL tgt L st ws k n) : aw g κ nL pc L (.int y :: .int x :: st) ws k n := a_ic_gt C ht hd (fun _ => kt) (fun c => absurd hc c)
theorem a_ic_gt_n (C : Cx g κ own cc nL rm) {x y : Int32} {off : Int} (hc : ¬ y < x) (hd : decode cc pc = .ok (.if_icmp .gt off, 3)) (ht : ∃ tgt : Nat, (pc : Int) + off = (tgt : Int)) (kf : aw g κ nL (pc + 3) L st ws k n) : aw g κ nL pc L (.int y :: .int x :: st) ws k n := a_ic_gt C ht.choose_spec hd (fun c => absurd c hc) (fun _ => kf)
theorem a_ic_le (C : Cx g κ own cc nL rm) {x y : Int32} {off : Int} {tgt : Nat} (ht : (pc : Int) + off = (tgt : Int)) (hd : decode cc pc = .ok (.if_icmp .le off, 3)) (kt : x ≤ y → aw g κ nL tgt L st ws k n) (kf : ¬ x ≤ y → aw g κ nL (pc + 3) L st ws k n) : aw g κ nL pc L (.int y :: .int x :: st) ws k n := fun H locs ls hP hD hS hl => lv_icmp_le C.1 C.2.1 hd ht (fun c => kt c H locs ls hP hD hS hl) (fun c => kf c H locs ls hP hD hS hl)
theorem a_icn_le (C : Cx g κ own cc nL rm) {a b : Nat} {off : Int} {tgt : Nat} (ha : a < 2 ^ 31) (hb : b < 2 ^ 31) (ht : (pc : Int) + off = (tgt : Int)) (hd : decode cc pc = .ok (.if_icmp .le off, 3)) (kt : a ≤ b → aw g κ nL tgt L st ws k n) (kf : b < a → aw g κ nL (pc + 3) L st ws k n) : aw g κ nL pc L (.int (nI b) :: .int (nI a) :: st) ws k n := a_ic_le C ht hd (fun c => kt ((nI_leI ha hb).mp c)) (fun c => kf (Nat.lt_of_not_le (fun e => c ((nI_leI ha hb).mpr e))))
theorem a_icn_le_y (C : Cx g κ own cc nL rm) {a b : Nat} {off : Int} {tgt : Nat} (ha : a < 2 ^ 31) (hb : b < 2 ^ 31) (hc : a ≤ b) (ht : (pc : Int) + off = (tgt : Int)) (hd : decode cc pc = .ok (.if_icmp .le off, 3)) (kt : aw g κ nL tgt L st ws k n) : aw g κ nL pc L (.int (nI b) :: .int (nI a) :: st) ws k n := a_icn_le C ha hb ht hd (fun _ => kt) (fun c => False.elim (by omega))
theorem a_icn_le_n (C : Cx g κ own cc nL rm) {a b : Nat} {off : Int} (ha : a < 2 ^ 31) (hb : b < 2 ^ 31) (hc : b < a) (hd : decode cc pc = .ok (.if_icmp .le off, 3)) (ht : ∃ tgt : Nat, (pc : Int) + off = (tgt : Int)) (kf : aw g κ nL (pc + 3) L st ws k n) : aw g κ nL pc L (.int (nI b) :: .int (nI a) :: st) ws k n := a_icn_le C ha hb ht.choose_spec hd (fun c => False.elim (by omega)) (fun _ => kf)
theorem a_ic_le_y (C : Cx g κ own cc nL rm) {x y : Int32} {off : Int} {tgt : Nat} (hc : x ≤ y) (ht : (pc : Int) + off = (tgt : Int)) (hd : decode cc pc = .ok (.if_icmp .le off, 3)) (kt : aw g κ nL tgt L st ws k n) : aw g κ nL pc L (.int y :: .int x :: st) ws k n := a_ic_le C ht hd (fun _ => kt) (fun c => absurd hc c)
theorem a_ic_le_n (C : Cx g κ own cc nL rm) {x y : Int32} {off : Int} (hc : ¬ x ≤ y) (hd : decode cc pc = .ok (.if_icmp .le off, 3)) (ht : ∃ tgt : Nat, (pc : Int) + off = (tgt : Int)) (kf : aw g κ nL (pc + 3) L st ws k n) : aw g κ nL pc L (.int y :: .int x :: st) ws k n := a_ic_le C ht.choose_spec hd (fun c => absurd c hc) (fun _ => kf)
theorem a_table (C : Cx g κ own cc nL rm) {dflt lo hi : Int} {offs : Array Int} {len : Nat} {x : Int32} {off : Int} {tgt : Nat} (h1 : ¬ x.toInt < lo) (h2 : ¬ hi < x.toInt) (ho : offs[(x.toInt - lo).toNat]? = some off) (ht : (pc : Int) + off = (tgt : Int)) (hd : decode cc pc = .ok (.tableswitch dflt lo hi offs, len)) (kk : aw g κ nL tgt L st ws k n) : aw g κ nL pc L (.int x :: st) ws k n := fun H locs ls hP hD hS hl => lv_tableIn C.1 C.2.1 hd h1 h2 ho ht (kk H locs ls hP hD hS hl)
theorem a_tableD (C : Cx g κ own cc nL rm) {dflt lo hi : Int} {offs : Array Int} {len : Nat} {x : Int32} {tgt : Nat} (h : x.toInt < lo ∨ hi < x.toInt) (ht : (pc : Int) + dflt = (tgt : Int)) (hd : decode cc pc = .ok (.tableswitch dflt lo hi offs, len)) (kk : aw g κ nL tgt L st ws k n) : aw g κ nL pc L (.int x :: st) ws k n := fun H locs ls hP hD hS hl => lv_tableOut C.1 C.2.1 hd h ht (kk H locs ls hP hD hS hl)
theorem a_lookup (C : Cx g κ own cc nL rm) {dflt : Int} {ps : Array (Int × Int)} {len : Nat} {x : Int32} {off : Int} {tgt : Nat} (hp : (ps.toList.zip (ps.toList.drop 1)).all (fun (a, next) => a.1 < next.1) = true) (ho : Op.lookupswitch.offset ps.toList dflt x.toInt = off) (ht : (pc : Int) + off = (tgt : Int)) (hd : decode cc pc = .ok (.lookupswitch dflt ps, len)) (kk : aw g κ nL tgt L st ws k n) : aw g κ nL pc L (.int x :: st) ws k n := fun H locs ls hP hD hS hl => lv_lookup C.1 C.2.1 hd hp ho ht (kk H locs ls hP hD hS hl)
theorem a_get (C : Cx g κ own cc nL rm) {idx ci fi a : Nat} (F : FL own idx ci fi) (q0 : Nat) {fs : List Value} {v : Value} (he : ws[q0]? = some (a, .inr (ci, fs))) (hv : fs[fi]? = some v) (hd : decode cc pc = .ok (.getfield idx, 3)) (kk : aw g κ nL (pc + 3) L (v :: st) ws k n) : aw g κ nL pc L (.ref a :: st) ws k n := by
  obtain ⟨Cn, T, N, ty, h1, h2, h3, h4, h5, h6, h7⟩ := F
  obtain ⟨hx, hb, hml, hown, hts, hK, hlk, hR, hz, hN, hfl⟩ := id C
  exact fun H locs ls hP hD hS hl => va_get (ci := ci) (C := Cn) (T := T) (N := N) hx hb hts h3 hown hK hP q0 he h1 fi h2 (hts _ h5) (fun _ q => by rw [h4] at q; exact q) hv hd (kk H locs ls hP hD hS hl)
theorem a_put (C : Cx g κ own cc nL rm) {idx ci fi a : Nat} {ty : FieldType} (F : FL own idx ci fi) (G : FP ci fi ty false) (q0 : Nat) {fs : List Value} {v : Value} (he : ws[q0]? = some (a, .inr (ci, fs))) (hn : narrow ty v = v) (hf : fits ty v = true) (hl0 : fi < fs.length) (hw : ws.set q0 (a, .inr (ci, fs.set fi v)) = ws') (hd : decode cc pc = .ok (.putfield idx, 3)) (kk : aw g κ nL (pc + 3) L st ws' k n) : aw g κ nL pc L (v :: .ref a :: st) ws k n := by
  obtain ⟨Cn, T, N, ty0, h1, h2, h3, h4, h5, h6, h7⟩ := F
  obtain ⟨Cn', T', N', g1, g2, g3⟩ := G
  obtain ⟨rfl, rfl, rfl⟩ := (by simpa using h1.symm.trans g1 : Cn = Cn' ∧ T = T' ∧ N = N')
  obtain ⟨hx, hb, hml, hown, hts, hK, hlk, hR, hz, hN, hfl⟩ := id C
  intro H locs ls hP hD hS hl
  refine va_put (ci := ci) (C := Cn) (T := T) (N := N) hx hb hts h3 ty0 h6 h7 hown hK hP hD hS q0 he h1 fi h2 (hts _ h5) (fun _ q => by rw [h4] at q; exact q) g2 g3 hn hf hl0 hd (fun H1 locs1 hP1 hD1 hS1 => ?_)
  rw [hw] at hP1 hD1
  exact kk H1 locs1 ls hP1 hD1 hS1 hl
theorem a_putF (C : Cx g κ own cc nL rm) (hi : (g_h g).name = "<init>") {idx ci fi a : Nat} {ty : FieldType} (F : FL own idx ci fi) (G : FP ci fi ty true) (hown0 : ∀ q : vw_C, vwCl[ci]? = some q → q.1 = own) (q0 : Nat) {fs : List Value} {v : Value} (he : ws[q0]? = some (a, .inr (ci, fs))) (hn : narrow ty v = v) (hf : fits ty v = true) (hl0 : fi < fs.length) (hw : ws.set q0 (a, .inr (ci, fs.set fi v)) = ws') (hd : decode cc pc = .ok (.putfield idx, 3)) (kk : aw g κ nL (pc + 3) L st ws' k n) : aw g κ nL pc L (v :: .ref a :: st) ws k n := by
  obtain ⟨Cn, T, N, ty0, h1, h2, h3, h4, h5, h6, h7⟩ := F
  obtain ⟨Cn', T', N', g1, g2, g3⟩ := G
  obtain ⟨rfl, rfl, rfl⟩ := (by simpa using h1.symm.trans g1 : Cn = Cn' ∧ T = T' ∧ N = N')
  obtain ⟨hx, hb, hml, hown, hts, hK, hlk, hR, hz, hN, hfl⟩ := id C
  intro H locs ls hP hD hS hl
  refine va_putF (ci := ci) (C := Cn) (T := T) (N := N) hx hb hts h3 ty0 h6 h7 hown hK hP hD hS q0 he h1 fi h2 (hts _ h5) (fun _ q => by rw [h4] at q; exact q) g2 hi (h4.trans (hown0 _ h1)) g3 hn hf hl0 hd (fun H1 locs1 hP1 hD1 hS1 => ?_)
  rw [hw] at hP1 hD1
  exact kk H1 locs1 ls hP1 hD1 hS1 hl
def fN (f : Nat → Nat) : Nat → Int32 := fun k => nI (f k)
def b2i (b : Bool) : Int32 := if b then 1 else 0
def fZ (f : Nat → Bool) : Nat → Int32 := fun k => b2i (f k)
theorem upd_up (f : Nat → Int32) (k : Nat) (x : Int32) : upd f k x = va_up f k x := rfl
theorem updL_up (f : Nat → Int64) (k : Nat) (x : Int64) : vp_updL f k x = va_up f k x := rfl
theorem fN_up (f : Nat → Nat) (k v : Nat) : va_up (fN f) k (nI v) = fN (va_up f k v) := by
  funext j
  by_cases h : j = k <;> simp [va_up, fN, h]
theorem fZ_up (f : Nat → Bool) (k : Nat) (v : Bool) : va_up (fZ f) k (b2i v) = fZ (va_up f k v) := by
  funext j
  by_cases h : j = k <;> simp [va_up, fZ, h]
theorem b2i_nar (b : Bool) : vp_nar .boolean (b2i b) = b2i b := by cases b <;> decide +kernel
theorem b2i_narrow (b : Bool) : narrow .boolean (.int (b2i b)) = .int (b2i b) := by cases b <;> decide +kernel
theorem a_iald (C : Cx g κ own cc nL rm) {a len j : Nat} {f : Nat → Int32} (q0 : Nat) (he : ws[q0]? = some (a, .inl (kI κ, len, .inl f))) (hj : j < len) (hs : len < 2 ^ 31) (hd : decode cc pc = .ok (.iaload, 1)) (kk : aw g κ nL (pc + 1) L (.int (f j) :: st) ws k n) : aw g κ nL pc L (.int (nI j) :: .ref a :: st) ws k n := by
  obtain ⟨hx, hb, hml, hown, hts, hK, hlk, hR, hz, hN, hfl⟩ := id C
  intro H locs ls hP hD hS hl
  refine va_iald hx hb hK hP q0 0 he rfl (vp_in_nI hj hs) hd ?_
  rw [nI_clamp (Nat.lt_trans hj hs)]
  exact kk H locs ls hP hD hS hl
theorem a_lald (C : Cx g κ own cc nL rm) {a len j : Nat} {f : Nat → Int64} (q0 : Nat) (he : ws[q0]? = some (a, .inl (kJ κ, len, .inr (.inl f)))) (hj : j < len) (hs : len < 2 ^ 31) (hd : decode cc pc = .ok (.laload, 1)) (kk : aw g κ nL (pc + 1) L (.long (f j) :: st) ws k n) : aw g κ nL pc L (.int (nI j) :: .ref a :: st) ws k n := by
  obtain ⟨hx, hb, hml, hown, hts, hK, hlk, hR, hz, hN, hfl⟩ := id C
  intro H locs ls hP hD hS hl
  refine va_lald hx hb hK hP q0 1 he rfl (vp_in_nI hj hs) hd ?_
  rw [nI_clamp (Nat.lt_trans hj hs)]
  exact kk H locs ls hP hD hS hl
theorem a_zald (C : Cx g κ own cc nL rm) {a len j : Nat} {f : Nat → Int32} (q0 : Nat) (he : ws[q0]? = some (a, .inl (kZ κ, len, .inl f))) (hj : j < len) (hs : len < 2 ^ 31) (hd : decode cc pc = .ok (.baload, 1)) (kk : aw g κ nL (pc + 1) L (.int (f j) :: st) ws k n) : aw g κ nL pc L (.int (nI j) :: .ref a :: st) ws k n := by
  obtain ⟨hx, hb, hml, hown, hts, hK, hlk, hR, hz, hN, hfl⟩ := id C
  intro H locs ls hP hD hS hl
  refine va_zald hx hb hK hP q0 2 he rfl (vp_in_nI hj hs) hd ?_
  rw [nI_clamp (Nat.lt_trans hj hs)]
  exact kk H locs ls hP hD hS hl
theorem a_iast (C : Cx g κ own cc nL rm) {a len j : Nat} {f f' : Nat → Int32} {x : Int32} (q0 : Nat) (he : ws[q0]? = some (a, .inl (kI κ, len, .inl f))) (hj : j < len) (hs : len < 2 ^ 31) (hf : va_up f j x = f') (hw : ws.set q0 (a, .inl (kI κ, len, .inl f')) = ws') (hd : decode cc pc = .ok (.iastore, 1)) (kk : aw g κ nL (pc + 1) L st ws' k n) : aw g κ nL pc L (.int x :: .int (nI j) :: .ref a :: st) ws k n := by
  obtain ⟨hx, hb, hml, hown, hts, hK, hlk, hR, hz, hN, hfl⟩ := id C
  intro H locs ls hP hD hS hl
  refine va_iast hx hb hK hP hD hS q0 0 he rfl (vp_in_nI hj hs) hd (fun H1 locs1 hP1 hD1 hS1 => ?_)
  rw [nI_clamp (Nat.lt_trans hj hs), upd_up, hf, hw] at hP1 hD1
  exact kk H1 locs1 ls hP1 hD1 hS1 hl
theorem a_last (C : Cx g κ own cc nL rm) {a len j : Nat} {f f' : Nat → Int64} {x : Int64} (q0 : Nat) (he : ws[q0]? = some (a, .inl (kJ κ, len, .inr (.inl f)))) (hj : j < len) (hs : len < 2 ^ 31) (hf : va_up f j x = f') (hw : ws.set q0 (a, .inl (kJ κ, len, .inr (.inl f'))) = ws') (hd : decode cc pc = .ok (.lastore, 1)) (kk : aw g κ nL (pc + 1) L st ws' k n) : aw g κ nL pc L (.long x :: .int (nI j) :: .ref a :: st) ws k n := by
  obtain ⟨hx, hb, hml, hown, hts, hK, hlk, hR, hz, hN, hfl⟩ := id C
  intro H locs ls hP hD hS hl
  refine va_last hx hb hK hP hD hS q0 1 he rfl (vp_in_nI hj hs) hd (fun H1 locs1 hP1 hD1 hS1 => ?_)
  rw [nI_clamp (Nat.lt_trans hj hs), updL_up, hf, hw] at hP1 hD1
  exact kk H1 locs1 ls hP1 hD1 hS1 hl
theorem a_zast (C : Cx g κ own cc nL rm) {a len j : Nat} {f : Nat → Bool} {x : Bool} (q0 : Nat) (he : ws[q0]? = some (a, .inl (kZ κ, len, .inl (fZ f)))) (hj : j < len) (hs : len < 2 ^ 31) (hw : ws.set q0 (a, .inl (kZ κ, len, .inl (fZ (va_up f j x)))) = ws') (hd : decode cc pc = .ok (.bastore, 1)) (kk : aw g κ nL (pc + 1) L st ws' k n) : aw g κ nL pc L (.int (b2i x) :: .int (nI j) :: .ref a :: st) ws k n := by
  obtain ⟨hx, hb, hml, hown, hts, hK, hlk, hR, hz, hN, hfl⟩ := id C
  intro H locs ls hP hD hS hl
  refine va_zast hx hb hK hP hD hS q0 2 he rfl (vp_in_nI hj hs) hd (fun H1 locs1 hP1 hD1 hS1 => ?_)
  rw [nI_clamp (Nat.lt_trans hj hs), upd_up, b2i_nar, fZ_up, hw] at hP1 hD1
  exact kk H1 locs1 ls hP1 hD1 hS1 hl
theorem a_mmax (C : Cx g κ own cc nL rm) {index : Nat} {x y v : Int32} (h1 : Cond.methodLink own index Lib.Math.max.name ∈ WW) (hv : (if x < y then y else x) = v) (hf : 1 ≤ rm.frames) (ho : (st.map fun v => v.category).sum + 13 ≤ rm.locals) (hc : k ≤ rm.cells) (hs : n ≤ rm.slots) (hd : decode cc pc = .ok (.invokestatic index, 3)) (kk : aw g κ nL (pc + 3) L (.int v :: st) ws k n) : aw g κ nL pc L (.int y :: .int x :: st) ws k n := by
  obtain ⟨hx, hb, hml, hown, hts, hK, hlk, hR, hz, hN, hfl⟩ := id C
  intro H locs ls hP hD hS hl
  refine va_mmax hx hb (hml.trans hl.1.symm) hown (hts _ h1) (hts _ w_maxS) (hts _ w_maxI) (hts _ w_maxC) (by rw [hR]; exact hf) (by rw [hR]; exact ho) (by rw [hR]; exact hc) (by rw [hR]; exact hs) hd ?_
  rw [hv]
  exact kk H locs ls hP hD hS hl
theorem a_mmin (C : Cx g κ own cc nL rm) {index : Nat} {x y v : Int32} (h1 : Cond.methodLink own index Lib.Math.min.name ∈ WW) (hv : (if y < x then y else x) = v) (hf : 1 ≤ rm.frames) (ho : (st.map fun v => v.category).sum + 13 ≤ rm.locals) (hc : k ≤ rm.cells) (hs : n ≤ rm.slots) (hd : decode cc pc = .ok (.invokestatic index, 3)) (kk : aw g κ nL (pc + 3) L (.int v :: st) ws k n) : aw g κ nL pc L (.int y :: .int x :: st) ws k n := by
  obtain ⟨hx, hb, hml, hown, hts, hK, hlk, hR, hz, hN, hfl⟩ := id C
  intro H locs ls hP hD hS hl
  refine va_mmin hx hb (hml.trans hl.1.symm) hown (hts _ h1) (hts _ w_minS) (hts _ w_maxI) (hts _ w_minC) (by rw [hR]; exact hf) (by rw [hR]; exact ho) (by rw [hR]; exact hc) (by rw [hR]; exact hs) hd ?_
  rw [hv]
  exact kk H locs ls hP hD hS hl
/-! calls -/
theorem aPre_blind {av : List Value} {w : va_W} : FrameBlind (va_Pc av (aPre κ w)) := fun a U g' mk q => by
  obtain ⟨q0, q1, q2, q3, q4, q5⟩ := q
  exact ⟨q0, q1, q2, q3, va_K.moved (u := U) (Vm.Alike.refl U.vm) q4, q5.calling g' mk a⟩
theorem aPre_at (C : Cx g κ own cc nL rm) {H : Heap} {locs : List Loc} (hP : va_P (kD κ) vwCl ws H) (hD : va_D (kA κ) ws) (hS : va_S (kA κ) (g_s g).heap H locs) (U : State) (hU : U.heap = H) (hW : (g_s g).WarmedH U.vm) : aPre κ ws U := by
  obtain ⟨hx, hb, hml, hown, hts, hK, hlk, hR, hz, hN, hfl⟩ := id C
  exact ⟨by rw [hU]; exact Nat.le_trans hz hS.1, by rw [hU]; exact hP, hD, va_K.moved hW.alike hK, hN.warm hW hU hS⟩
theorem g_good {y : MethodName} {bytes : ByteArray} {maxL : Nat} {ret : Option FieldType} (hw : Cond.code y bytes maxL ret ∈ WW) : GoodIn WW (.code y bytes maxL ret :: WW) := fun w h => by
  rcases List.mem_cons.mp h with rfl | h
  · exact ⟨hw, (ww_good hw).2⟩
  · exact ⟨h, (ww_good h).2⟩
theorem cb_of (C : Cx g κ own cc nL rm) {y : MethodName} {bytes : ByteArray} {maxL index np : Nat} {ret : Option FieldType} {rm' : Room} (Y : YV y bytes maxL ret np) (hl : Cond.methodLink own index y ∈ WW) (hf : rm'.frames + 1 ≤ rm.frames) (ho : 8 + (maxL + 11) + rm'.locals ≤ rm.locals) : CallB (g_R g) (g_s g) (g_a g) own index y bytes maxL ret (.code y bytes maxL ret :: WW) rm' rm'.cells rm'.slots np := by
  obtain ⟨hx, hb, hml, hown, hts, hK, hlk, hR, hz, hN, hfl⟩ := id C
  exact callB_of np hts (g_good Y.1) rfl rfl rfl (hts _ Y.2.1) (hts _ hl) Y.2.2 ⟨by rw [hR]; exact hf, by rw [hR]; exact ho⟩
theorem aw_ret {mc ms : Nat} {st0 rest : List Value} {P : Option Value → va_W → Prop} {a : Array Value} {free : Addr → Prop} (hfree : ∀ q, free q → kA κ q)
    (hr : ∀ (H : Heap) (locs : List Loc) (ls : Array Slot), va_P (kD κ) vwCl ws H → va_D (kA κ) ws → va_S (kA κ) (g_s g).heap H locs → lv_has ls nL L → va_Run (g_p g) (g_l g) (g_e g) (g_R g) (g_s g) (g_m g) (g_a g) (g_b g) (g_h g) (g_c g) H locs k n mc ms (F0 (g_m g) pc ls st0) rest (aQ κ P a) free)
    (kk : ∀ (ro : Option Value) (w : va_W), P ro w → aw g κ nL (pc + 3) L (ro.toList ++ rest) w (k + mc) (n + ms)) : aw g κ nL pc L st0 ws k n := by
  intro H locs ls hP hD hS hl T hT X
  obtain ⟨v, st₀, t, T', Lc, h0, X', hL, e1, e2, ⟨⟨ro, w, hv, hp, hP1, hD1⟩, hz, hk⟩, sts⟩ := hr H locs ls hP hD hS hl T hT X
  cases hv
  rw [h0] at hz hk
  obtain ⟨t2, a1, b1⟩ := kk v w hp T'.heap (locs ++ Lc) ls (by rw [e1]; exact hP1) hD1 ⟨Nat.le_trans hS.1 (by rw [e1]; exact hz), fun q h1 h2 => by rw [e1, hk q (Nat.lt_of_lt_of_le h1 hS.1) h2]; exact hS.2.1 q h1 h2, fun q hq => by
      rcases List.mem_append.mp hq with h | h
      · exact hS.2.2 q h
      · exact hfree _ (hL q h)⟩ hl T' rfl X'
  exact ⟨t2, sts t2 a1, b1⟩
theorem a_callV (C : Cx g κ own cc nL rm) {y : MethodName} {bytes : ByteArray} {maxL index np ci b : Nat} {ret : Option FieldType} {rm' : Room} {As : List Value} {P : Option Value → va_W → Prop} (hM : CM y bytes maxL ret rm' κ (.ref b :: As) ws P) (Y : YV y bytes maxL ret np) (hl : Cond.methodLink own index y ∈ WW) (hi : Cond.instanceMethod y ∈ WW) (hsel : Cond.selects y.cls y y ∈ WW)
    (q0 : Nat) {fs : List Value} {T : u_T} {N : Nat} (he : ws[q0]? = some (b, .inr (ci, fs))) (hc : vwCl[ci]? = some (y.cls, T, N)) (hn : As.length = np) (hst : L' = L) {st0 : List Value} (hs0 : st0 = As.reverse ++ .ref b :: st) (hroom : (st.map fun v => v.category).sum ≤ 8) (hf : rm'.frames + 1 ≤ rm.frames) (ho : 8 + (maxL + 11) + rm'.locals ≤ rm.locals) (hcs : k + rm'.cells ≤ rm.cells ∧ n + rm'.slots ≤ rm.slots) (hd : decode cc pc = .ok (.invokevirtual index, 3))
    (kk : ∀ (ro : Option Value) (w : va_W), P ro w → aw g κ nL (pc + 3) L (ro.toList ++ st) w (k + rm'.cells) (n + rm'.slots)) : aw g κ nL pc L st0 ws k n := by
  obtain ⟨hx, hb, hml, hown, hts, hK, hlk, hR, hz, hN, hfl⟩ := id C
  refine aw_ret (fun q h => h) (fun H locs ls hP hD hS hl' => va_runV ⟨hx, hb, hml, hown, hts⟩ (hM (g_l g) hfl) ⟨cb_of C Y hl hf ho, hts _ hi, hts _ hsel⟩ ⟨aPre_blind, va_recv hK hP hc he, fun U hU hW => ⟨rfl, aPre_at C hP hD hS U hU hW⟩⟩ rfl hn hl'.1 hs0 (lv_room hroom) hd (by rw [hR]; exact hcs)) kk
theorem a_callS (C : Cx g κ own cc nL rm) {y : MethodName} {bytes : ByteArray} {maxL index np : Nat} {ret : Option FieldType} {rm' : Room} {As : List Value} {P : Option Value → va_W → Prop} (hM : CM y bytes maxL ret rm' κ As ws P) (Y : YV y bytes maxL ret np) (hl : Cond.methodLink own index y ∈ WW) (hs : Cond.static y ∈ WW)
    (hn : As.length = np) {st0 : List Value} (hs0 : st0 = As.reverse ++ st) (hroom : (st.map fun v => v.category).sum ≤ 8) (hf : rm'.frames + 1 ≤ rm.frames) (ho : 8 + (maxL + 11) + rm'.locals ≤ rm.locals) (hcs : k + rm'.cells ≤ rm.cells ∧ n + rm'.slots ≤ rm.slots) (hd : decode cc pc = .ok (.invokestatic index, 3))
    (kk : ∀ (ro : Option Value) (w : va_W), P ro w → aw g κ nL (pc + 3) L (ro.toList ++ st) w (k + rm'.cells) (n + rm'.slots)) : aw g κ nL pc L st0 ws k n := by
  obtain ⟨hx, hb, hml, hown, hts, hK, hlk, hR, hz, hN, hfl⟩ := id C
  refine aw_ret (fun q h => h) (fun H locs ls hP hD hS hl' => va_runS ⟨hx, hb, hml, hown, hts⟩ (hM (g_l g) hfl) ⟨cb_of C Y hl hf ho, hts _ hs⟩ ⟨aPre_blind, fun U hU hW => ⟨rfl, aPre_at C hP hD hS U hU hW⟩⟩ rfl hn hl'.1 hs0 (lv_room hroom) hd (by rw [hR]; exact hcs)) kk
/-- a static method of a nest mate -/
theorem a_callSN (C : Cx g κ own cc nL rm) {y : MethodName} {host : String} {bytes : ByteArray} {maxL index np : Nat} {ret : Option FieldType} {rm' : Room} {As : List Value} {P : Option Value → va_W → Prop} (hM : CM y bytes maxL ret rm' κ As ws P) (Y : YV y bytes maxL ret np) (hl : (own, index, y, host) ∈ nestM) (hs : Cond.static y ∈ WW)
    (hn : As.length = np) {st0 : List Value} (hs0 : st0 = As.reverse ++ st) (hroom : (st.map fun v => v.category).sum ≤ 8) (hf : rm'.frames + 1 ≤ rm.frames) (ho : 8 + (maxL + 11) + rm'.locals ≤ rm.locals) (hcs : k + rm'.cells ≤ rm.cells ∧ n + rm'.slots ≤ rm.slots) (hd : decode cc pc = .ok (.invokestatic index, 3))
    (kk : ∀ (ro : Option Value) (w : va_W), P ro w → aw g κ nL (pc + 3) L (ro.toList ++ st) w (k + rm'.cells) (n + rm'.slots)) : aw g κ nL pc L st0 ws k n := by
  obtain ⟨hx, hb, hml, hown, hts, hK, hlk, hR, hz, hN, hfl⟩ := id C
  refine aw_ret (fun q h => h) (fun H locs ls hP hD hS hl' => va_runSN ⟨hx, hb, hml, hown, hts⟩ (hM (g_l g) hfl) ⟨va_cnB np hts (g_good Y.1) rfl rfl rfl (hN.1 _ hl) (hts _ Y.2.1) Y.2.2 ⟨by rw [hR]; exact hf, by rw [hR]; exact ho⟩, hts _ hs, trivial⟩ ⟨aPre_blind, fun U hU hW => ⟨rfl, aPre_at C hP hD hS U hU hW⟩⟩ rfl hn hl'.1 hs0 (lv_room hroom) hd (by rw [hR]; exact hcs)) kk
/-- a constructor of a nest mate -/
theorem a_callIN (C : Cx g κ own cc nL rm) {y : MethodName} {host : String} {bytes : ByteArray} {maxL index np b : Nat} {rm' : Room} {As : List Value} {P : Option Value → va_W → Prop} (hM : CM y bytes maxL none rm' κ (.ref b :: As) ws P) (Y : YV y bytes maxL none np) (hl : (own, index, y, host) ∈ nestM) (hi : Cond.instanceMethod y ∈ WW) (hin : y.name = "<init>")
    (hn : As.length = np) {st0 : List Value} (hs0 : st0 = As.reverse ++ .ref b :: st) (hroom : (st.map fun v => v.category).sum ≤ 8) (hf : rm'.frames + 1 ≤ rm.frames) (ho : 8 + (maxL + 11) + rm'.locals ≤ rm.locals) (hcs : k + rm'.cells ≤ rm.cells ∧ n + rm'.slots ≤ rm.slots) (hd : decode cc pc = .ok (.invokespecial index, 3))
    (kk : ∀ (ro : Option Value) (w : va_W), P ro w → aw g κ nL (pc + 3) L (ro.toList ++ st) w (k + rm'.cells) (n + rm'.slots)) : aw g κ nL pc L st0 ws k n := by
  obtain ⟨hx, hb, hml, hown, hts, hK, hlk, hR, hz, hN, hfl⟩ := id C
  refine aw_ret (fun q h => h) (fun H locs ls hP hD hS hl' => va_runIN ⟨hx, hb, hml, hown, hts⟩ (hM (g_l g) hfl) ⟨va_cnB np hts (g_good Y.1) rfl rfl rfl (hN.1 _ hl) (hts _ Y.2.1) Y.2.2 ⟨by rw [hR]; exact hf, by rw [hR]; exact ho⟩, hin, hts _ hi⟩ ⟨aPre_blind, fun U hU hW => ⟨rfl, aPre_at C hP hD hS U hU hW⟩⟩ rfl hn hl'.1 hs0 (lv_room hroom) hd (by rw [hR]; exact hcs)) kk
/-- a constructor -/
theorem a_callI (C : Cx g κ own cc nL rm) {y : MethodName} {bytes : ByteArray} {maxL index np b : Nat} {rm' : Room} {As : List Value} {P : Option Value → va_W → Prop} (hM : CM y bytes maxL none rm' κ (.ref b :: As) ws P) (Y : YV y bytes maxL none np) (hl : Cond.methodLink own index y ∈ WW) (hi : Cond.instanceMethod y ∈ WW) (hin : y.name = "<init>")
    (hn : As.length = np) {st0 : List Value} (hs0 : st0 = As.reverse ++ .ref b :: st) (hroom : (st.map fun v => v.category).sum ≤ 8) (hf : rm'.frames + 1 ≤ rm.frames) (ho : 8 + (maxL + 11) + rm'.locals ≤ rm.locals) (hcs : k + rm'.cells ≤ rm.cells ∧ n + rm'.slots ≤ rm.slots) (hd : decode cc pc = .ok (.invokespecial index, 3))
    (kk : ∀ (ro : Option Value) (w : va_W), P ro w → aw g κ nL (pc + 3) L (ro.toList ++ st) w (k + rm'.cells) (n + rm'.slots)) : aw g κ nL pc L st0 ws k n := by
  obtain ⟨hx, hb, hml, hown, hts, hK, hlk, hR, hz, hN, hfl⟩ := id C
  refine aw_ret (fun q h => h) (fun H locs ls hP hD hS hl' => va_runI ⟨hx, hb, hml, hown, hts⟩ (hM (g_l g) hfl) ⟨cb_of C Y hl hf ho, hin, hts _ hi⟩ ⟨aPre_blind, fun U hU hW => ⟨rfl, aPre_at C hP hD hS U hU hW⟩⟩ rfl hn hl'.1 hs0 (lv_room hroom) hd (by rw [hR]; exact hcs)) kk
/-! ends -/
theorem aQ_at {P : Option Value → va_W → Prop} {ro : Option Value} {H : Heap} {locs : List Loc} {a : Array Value} (hp : P ro ws) (hP : va_P (kD κ) vwCl ws H) (hD : va_D (kA κ) ws) (hS : va_S (kA κ) (g_s g).heap H locs) (t : State) (ht : t.heap = H) : aQ κ P a (g_s g) (.returned ro) t := ⟨⟨ro, ws, rfl, hp, by rw [ht]; exact hP, hD⟩, hS.F ht⟩
theorem a_end {P : Option Value → va_W → Prop} {rt : Option FieldType} {mc ms : Nat} (E : Rx g κ rt P mc ms) (hk : k ≤ mc) (hn : n ≤ ms)
    (h : ∀ (H : Heap) (locs : List Loc) (ls : Array Slot), va_P (kD κ) vwCl ws H → va_D (kA κ) ws → va_S (kA κ) (g_s g).heap H locs → lv_has ls nL L → W (g_p g) (g_l g) (g_e g) (g_R g) (g_s g) (g_m g) (g_a g) (g_b g) (g_h g) (g_c g) H locs mc ms (MQ (g_b g) (aQ κ P) (g_a g) (g_s g) mc ms (kA κ)) (F0 (g_m g) pc ls st)) : aw g κ nL pc L st ws k n := by
  intro H locs ls hP hD hS hl
  have h1 := h H locs ls hP hD hS hl
  rcases E.2 with e | ⟨PX, e⟩
  · show W (g_p g) (g_l g) (g_e g) (g_R g) (g_s g) (g_m g) (g_a g) (g_b g) (g_h g) (g_c g) H locs k n (g_Q g) _
    rw [e]
    exact W.widen hk hn h1
  · show W (g_p g) (g_l g) (g_e g) (g_R g) (g_s g) (g_m g) (g_a g) (g_b g) (g_h g) (g_c g) H locs k n (g_Q g) _
    rw [e]
    exact W.widen hk hn (vx_ret h1)
theorem a_iret (C : Cx g κ own cc nL rm) {P : Option Value → va_W → Prop} {mc ms : Nat} (E : Rx g κ (some .int) P mc ms) (hk : k ≤ mc) (hn : n ≤ ms) {v : Int32} (hp : P (some (.int v)) ws) (hd : decode cc pc = .ok (.ireturn, 1)) : aw g κ nL pc L [.int v] ws k n := a_end E hk hn (fun H locs ls hP hD hS hl => W.iret C.1 C.2.1 E.1 (fun t ht hW => aQ_at hp hP hD hS t ht) hS.2.2 hd C.2.2.2.2.2.2.1)
theorem a_zret (C : Cx g κ own cc nL rm) {P : Option Value → va_W → Prop} {mc ms : Nat} (E : Rx g κ (some .boolean) P mc ms) (hk : k ≤ mc) (hn : n ≤ ms) {b : Bool} {v : Int32} (hv : v = b2i b) (hp : P (some (.int (b2i b))) ws) (hd : decode cc pc = .ok (.ireturn, 1)) : aw g κ nL pc L [.int v] ws k n := by
  subst hv
  exact a_end E hk hn (fun H locs ls hP hD hS hl => W.zret C.1 C.2.1 E.1 (b2i_narrow b) (fun t ht hW => aQ_at hp hP hD hS t ht) hS.2.2 hd C.2.2.2.2.2.2.1)
theorem a_lret (C : Cx g κ own cc nL rm) {P : Option Value → va_W → Prop} {mc ms : Nat} (E : Rx g κ (some .long) P mc ms) (hk : k ≤ mc) (hn : n ≤ ms) {v : Int64} (hp : P (some (.long v)) ws) (hd : decode cc pc = .ok (.lreturn, 1)) : aw g κ nL pc L [.long v] ws k n := a_end E hk hn (fun H locs ls hP hD hS hl => W.lret C.1 C.2.1 E.1 (fun t ht hW => aQ_at hp hP hD hS t ht) hS.2.2 hd C.2.2.2.2.2.2.1)
theorem a_dret (C : Cx g κ own cc nL rm) {P : Option Value → va_W → Prop} {mc ms : Nat} (E : Rx g κ (some .double) P mc ms) (hk : k ≤ mc) (hn : n ≤ ms) {v : UInt64} (hp : P (some (.double v)) ws) (hd : decode cc pc = .ok (.dreturn, 1)) : aw g κ nL pc L [.double v] ws k n := a_end E hk hn (fun H locs ls hP hD hS hl => W.dret C.1 C.2.1 E.1 (fun t ht hW => aQ_at hp hP hD hS t ht) hS.2.2 hd C.2.2.2.2.2.2.1)
theorem a_aret (C : Cx g κ own cc nL rm) {P : Option Value → va_W → Prop} {mc ms : Nat} {t0 : FieldType} (E : Rx g κ (some (.array t0)) P mc ms) (hk : k ≤ mc) (hn : n ≤ ms) {a : Nat} (hp : P (some (.ref a)) ws) (hd : decode cc pc = .ok (.areturn, 1)) : aw g κ nL pc L [.ref a] ws k n := a_end E hk hn (fun H locs ls hP hD hS hl => W.aret C.1 C.2.1 E.1 (Or.inr ⟨t0, rfl⟩) (Or.inr ⟨a, rfl⟩) (fun t ht hW => aQ_at hp hP hD hS t ht) hS.2.2 hd C.2.2.2.2.2.2.1)
theorem a_vret (C : Cx g κ own cc nL rm) {P : Option Value → va_W → Prop} {mc ms : Nat} (E : Rx g κ none P mc ms) (hk : k ≤ mc) (hn : n ≤ ms) (hp : P none ws) (hd : decode cc pc = .ok (.return_, 1)) : aw g κ nL pc L [] ws k n := a_end E hk hn (fun H locs ls hP hD hS hl => W.vret C.1 C.2.1 E.1 (fun t ht hW => aQ_at hp hP hD hS t ht) hS.2.2 hd C.2.2.2.2.2.2.1)
end ROWS2
end
section
/-! sets of numbers below 64 as longs -/
theorem wb_tb (n : Nat) : (lN n).toBitVec = BitVec.ofNat 64 n := rfl
theorem wb_inj {a b : Int64} (h : a.toBitVec = b.toBitVec) : a = b := Int64.toBitVec_inj.mp h
theorem wb_tn {n : Nat} (h : n < 2 ^ 64) : (lN n).toBitVec.toNat = n := by rw [wb_tb, BitVec.toNat_ofNat, Nat.mod_eq_of_lt h]
theorem wb_c : ∀ k, k < 64 → ((nI k).toInt64 &&& 63) = lN k := by decide +kernel
theorem wb_cu : ∀ k, k < 64 → ((nI k).toInt64.toUInt64 &&& Int64.toUInt64 63) = UInt64.ofNat k := by decide +kernel
theorem wb_sm : ∀ k, k < 64 → (BitVec.ofNat 64 k).smod 64 = BitVec.ofNat 64 k := by decide +kernel
theorem wb_shl (n : Nat) {k : Nat} (hk : k < 64) : lN n <<< ((nI k).toInt64 &&& 63) = lN (n * 2 ^ k) := by
  rw [wb_c k hk]
  apply wb_inj
  rw [Int64.toBitVec_shiftLeft, wb_tb, wb_tb, wb_tb, wb_sm k hk]
  apply BitVec.eq_of_toNat_eq
  rw [BitVec.shiftLeft_eq', BitVec.toNat_shiftLeft, BitVec.toNat_ofNat, BitVec.toNat_ofNat, BitVec.toNat_ofNat, Nat.mod_eq_of_lt (show k < 2 ^ 64 by omega), Nat.shiftLeft_eq, Nat.mul_mod, Nat.mod_mod, ← Nat.mul_mod]
def bsN (p : Nat → Bool) : Nat → Nat
  | 0 => 0
  | n + 1 => bsN p n + (if p n then 2 ^ n else 0)
def bs (p : Nat → Bool) : Int64 := lN (bsN p 64)
theorem bsN_lt (p : Nat → Bool) : ∀ n, bsN p n < 2 ^ n
  | 0 => Nat.one_pos
  | n + 1 => by
    have h := bsN_lt p n
    rw [bsN, Nat.pow_succ]
    split <;> omega
theorem bsN_test (p : Nat → Bool) : ∀ n i, (bsN p n).testBit i = (decide (i < n) && p i)
  | 0, i => by simp [bsN]
  | n + 1, i => by
    have h := bsN_test p n i
    have hl := bsN_lt p n
    rw [bsN]
    rcases Nat.lt_trichotomy i n with c | c | c
    · by_cases hp : p n
      · rw [if_pos hp, Nat.add_comm, Nat.testBit_two_pow_add_gt c, h]
        simp [c, Nat.lt_succ_of_lt c]
      · rw [if_neg hp, Nat.add_zero, h]
        simp [c, Nat.lt_succ_of_lt c]
    · subst c
      by_cases hp : p i
      · rw [if_pos hp, Nat.add_comm, Nat.testBit_two_pow_add_eq, Nat.testBit_lt_two_pow hl]
        simp [hp]
      · rw [if_neg hp, Nat.add_zero, h]
        simp [hp]
    · have h2 : bsN p n + (if p n then 2 ^ n else 0) < 2 ^ i := by
        have h3 : 2 ^ (n + 1) ≤ 2 ^ i := Nat.pow_le_pow_right (by decide) c
        have h4 := bsN_lt p (n + 1)
        rw [bsN] at h4
        omega
      rw [Nat.testBit_lt_two_pow h2]
      have : ¬ i < n + 1 := by omega
      simp [this]
theorem bs_get (p : Nat → Bool) (i : Nat) : (bs p).toBitVec.getLsbD i = (decide (i < 64) && p i) := by
  rw [bs, wb_tb, BitVec.getLsbD_ofNat, bsN_test]
  cases decide (i < 64) <;> simp
theorem bs_ext {x : Int64} {p : Nat → Bool} (h : ∀ i, i < 64 → x.toBitVec.getLsbD i = p i) : x = bs p := by
  apply wb_inj
  apply BitVec.eq_of_getLsbD_eq
  intro i hi
  rw [h i hi, bs_get]
  simp [hi]
theorem bs_cong {p q : Nat → Bool} (h : ∀ i, i < 64 → p i = q i) : bs p = bs q := bs_ext (fun i hi => by rw [bs_get, h i hi]; simp [hi])
theorem bs_inj {p q : Nat → Bool} (h : bs p = bs q) (i : Nat) (hi : i < 64) : p i = q i := by
  have h1 := bs_get p i
  rw [h, bs_get] at h1
  simpa [hi] using h1.symm
theorem bs_of (x : Int64) : x = bs (fun i => x.toBitVec.getLsbD i) := bs_ext (fun _ _ => rfl)
theorem bs_or (p q : Nat → Bool) : bs p ||| bs q = bs (fun i => p i || q i) := bs_ext (fun i hi => by rw [Int64.toBitVec_or, BitVec.getLsbD_or, bs_get, bs_get]; simp [hi])
theorem bs_and (p q : Nat → Bool) : bs p &&& bs q = bs (fun i => p i && q i) := bs_ext (fun i hi => by rw [Int64.toBitVec_and, BitVec.getLsbD_and, bs_get, bs_get]; simp [hi])
theorem bs_m1 : (-1 : Int64) = bs (fun _ => true) := by decide +kernel
theorem bs_0 : (0 : Int64) = bs (fun _ => false) := by decide +kernel
theorem bs_not (p : Nat → Bool) : bs p ^^^ (-1) = bs (fun i => !p i) := by
  rw [bs_m1]
  exact bs_ext (fun i hi => by rw [Int64.toBitVec_xor, BitVec.getLsbD_xor, bs_get, bs_get]; simp [hi])
theorem bs_bit {k : Nat} (hk : k < 64) : (1 : Int64) <<< ((nI k).toInt64 &&& 63) = bs (fun i => decide (i = k)) := by
  have h := wb_shl 1 hk
  rw [Nat.one_mul] at h
  have e : (1 : Int64) = lN 1 := by decide +kernel
  rw [e, h]
  apply bs_ext
  intro i hi
  rw [wb_tb, BitVec.getLsbD_ofNat, Nat.testBit_two_pow]
  simp only [hi, decide_true, Bool.true_and]
  by_cases c : i = k
  · subst c; simp
  · have c2 : ¬ k = i := fun e => c e.symm
    simp [c, c2]
theorem bs_z {p : Nat → Bool} : bs p = 0 ↔ ∀ i, i < 64 → p i = false := ⟨fun h i hi => by rw [bs_0] at h; exact bs_inj h i hi, fun h => by rw [bs_0]; exact bs_cong h⟩
theorem lg_cmp_0 {x y : Int64} : lg_cmp x y = 0 ↔ x = y := by
  unfold lg_cmp
  by_cases h : x > y
  · rw [if_pos h]
    constructor
    · intro c; exact absurd c (by decide +kernel)
    · intro c; subst c; exact absurd h (Int64.lt_irrefl)
  · rw [if_neg h]
    by_cases e : x = y
    · rw [if_pos e]; exact ⟨fun _ => e, fun _ => rfl⟩
    · rw [if_neg e]
      exact ⟨fun c => absurd c (by decide +kernel), fun c => absurd c e⟩
theorem bs_has {p : Nat → Bool} {k : Nat} (hk : k < 64) : lg_cmp (bs (fun i => p i && decide (i = k))) 0 = 0 ↔ p k = false := by
  rw [lg_cmp_0, bs_z]
  constructor
  · intro h
    have := h k hk
    simpa using this
  · intro h i hi
    by_cases c : i = k
    · subst c; simp [h]
    · simp [c]
/-- the bit at k, shifted down -/
theorem bs_down (p : Nat → Bool) {k : Nat} (hk : k < 64) : (bs p >>> ((nI k).toInt64 &&& 63)) &&& 1 = bs (fun i => decide (i = 0) && p k) := by
  rw [wb_c k hk]
  apply bs_ext
  intro i hi
  have e1 : (1 : Int64).toBitVec = 1#64 := rfl
  rw [Int64.toBitVec_and, BitVec.getLsbD_and, e1]
  by_cases c : i = 0
  · subst c
    rw [Int64.toBitVec_shiftRight, wb_tb, wb_sm k hk, BitVec.sshiftRight_eq', BitVec.getLsbD_sshiftRight, BitVec.toNat_ofNat, Nat.mod_eq_of_lt (show k < 2 ^ 64 by omega), bs_get]
    simp [hk]
  · simp [c, BitVec.getLsbD_one]
def fS (f : Nat → Nat → Bool) : Nat → Int64 := fun k => bs (f k)
theorem fS_up (f : Nat → Nat → Bool) (k : Nat) (p : Nat → Bool) : va_up (fS f) k (bs p) = fS (va_up f k p) := by
  funext j
  by_cases h : j = k <;> simp [va_up, fS, h]
end
section
/-! THE TWO WORLDS: the class's cells, the reference's cells, each ahead of any others -/
def wC (κ : aK) (a : Nat → Nat) (n : Nat) (dug : Nat → Bool) (dtd : Nat → Bool) (so : Nat → Int32) (ph : Nat → Int32) (uf : Nat → Int32) (ul : Nat → Int32) (r : Nat) (ki : Nat → Int32) (lt : Nat → Nat) (er : Nat → Nat) (mz : Nat) (bd : Nat → Bool) (bo : Nat → Nat) (me : Nat → Nat → Bool) (dE : Nat → Nat → Bool) (eE : Nat → Nat → Bool) (lE : Nat → Nat → Bool) (li : Nat → Nat → Bool) (fB : Nat → Int32) (fA : Nat → Int32) (sL : Nat → Int32) (f : Nat) (fu : Nat → Nat) (fs : Nat → Int32) (ff : Nat → Int32) (fl : Nat → Int32) (xs : Nat → Int32) (ys : Nat → Int32) (zs : Nat → Int32) (oL : Nat → Int32) (oU : Nat → Int32) (lo : Nat → Int32) (up : Nat → Int32) (X : va_W) : va_W :=
  (a 0, .inr (5, [.ref (a 1), .ref (a 2), .ref (a 3), .ref (a 4), .ref (a 5)])) ::
  (a 1, .inr (4, [.int (nI n), .long (bs dug), .long (bs dtd), .ref (a 6), .ref (a 7), .ref (a 8), .ref (a 9)])) ::
  (a 2, .inr (3, [.int (nI r), .ref (a 10), .ref (a 11), .ref (a 12)])) ::
  (a 3, .inr (2, [.int (nI mz), .long (bs bd), .ref (a 13), .ref (a 14), .ref (a 15), .ref (a 16), .ref (a 17), .ref (a 18), .ref (a 19), .ref (a 20), .ref (a 21)])) ::
  (a 4, .inr (1, [.int (nI f), .ref (a 22), .ref (a 23), .ref (a 24), .ref (a 25), .ref (a 26), .ref (a 27), .ref (a 28)])) ::
  (a 5, .inr (0, [.ref (a 29), .ref (a 30), .ref (a 31), .ref (a 32)])) ::
  (a 6, .inl (kI κ, 40, .inl so)) ::
  (a 7, .inl (kI κ, 40, .inl ph)) ::
  (a 8, .inl (kI κ, 40, .inl uf)) ::
  (a 9, .inl (kI κ, 40, .inl ul)) ::
  (a 10, .inl (kI κ, 80, .inl ki)) ::
  (a 11, .inl (kI κ, 80, .inl (fN lt))) ::
  (a 12, .inl (kI κ, 80, .inl (fN er))) ::
  (a 13, .inl (kI κ, 40, .inl (fN bo))) ::
  (a 14, .inl (kJ κ, 40, .inr (.inl (fS me)))) ::
  (a 15, .inl (kJ κ, 40, .inr (.inl (fS dE)))) ::
  (a 16, .inl (kJ κ, 40, .inr (.inl (fS eE)))) ::
  (a 17, .inl (kJ κ, 40, .inr (.inl (fS lE)))) ::
  (a 18, .inl (kJ κ, 40, .inr (.inl (fS li)))) ::
  (a 19, .inl (kI κ, 40, .inl fB)) ::
  (a 20, .inl (kI κ, 40, .inl fA)) ::
  (a 21, .inl (kI κ, 40, .inl sL)) ::
  (a 22, .inl (kI κ, 60, .inl (fN fu))) ::
  (a 23, .inl (kI κ, 60, .inl fs)) ::
  (a 24, .inl (kI κ, 60, .inl ff)) ::
  (a 25, .inl (kI κ, 60, .inl fl)) ::
  (a 26, .inl (kI κ, 60, .inl xs)) ::
  (a 27, .inl (kI κ, 60, .inl ys)) ::
  (a 28, .inl (kI κ, 60, .inl zs)) ::
  (a 29, .inl (kI κ, 40, .inl oL)) ::
  (a 30, .inl (kI κ, 40, .inl oU)) ::
  (a 31, .inl (kI κ, 40, .inl lo)) ::
  (a 32, .inl (kI κ, 40, .inl up)) :: X
def wM (κ : aK) (b : Nat → Nat) (th : Int32) (un : Nat) (ss : Nat → Int32) (fi : Nat → Int32) (la : Nat → Int32) (da : Nat → Bool) (dg : Nat → Bool) (ps : Nat → Int32) (rn : Nat) (ks : Nat → Int32) (os : Nat → Nat) (ts : Nat → Nat) (fn : Nat) (fp : Nat → Int32) (bo : Nat → Nat) (eE : Nat → Nat → Bool) (lE : Nat → Nat → Bool) (li : Nat → Nat → Bool) (be : Nat → Int32) (ab : Nat → Int32) (X : va_W) : va_W :=
  (b 0, .inr (6, [.int th, .int (nI un), .ref (b 1), .ref (b 2), .ref (b 3), .ref (b 4), .ref (b 5), .ref (b 6), .int (nI rn), .ref (b 7), .ref (b 8), .ref (b 9), .int (nI fn), .ref (b 10), .ref (b 11), .ref (b 12), .ref (b 13), .ref (b 14), .ref (b 15), .ref (b 16)])) ::
  (b 1, .inl (kI κ, 40, .inl ss)) ::
  (b 2, .inl (kI κ, 40, .inl fi)) ::
  (b 3, .inl (kI κ, 40, .inl la)) ::
  (b 4, .inl (kZ κ, 40, .inl (fZ da))) ::
  (b 5, .inl (kZ κ, 40, .inl (fZ dg))) ::
  (b 6, .inl (kI κ, 40, .inl ps)) ::
  (b 7, .inl (kI κ, 80, .inl ks)) ::
  (b 8, .inl (kI κ, 80, .inl (fN os))) ::
  (b 9, .inl (kI κ, 80, .inl (fN ts))) ::
  (b 10, .inl (kI κ, 420, .inl fp)) ::
  (b 11, .inl (kI κ, 40, .inl (fN bo))) ::
  (b 12, .inl (kJ κ, 40, .inr (.inl (fS eE)))) ::
  (b 13, .inl (kJ κ, 40, .inr (.inl (fS lE)))) ::
  (b 14, .inl (kJ κ, 40, .inr (.inl (fS li)))) ::
  (b 15, .inl (kI κ, 40, .inl be)) ::
  (b 16, .inl (kI κ, 40, .inl ab)) :: X
end
section
/-! ROWS, THIRD: the same in the worlds' own words; calls with one known end. -/
section ROWS3
variable {g : aG} {κ : aK} {own : String} {cc : ByteArray} {nL pc k n i k' n' : Nat} {rm : Room} {L L' : List (Nat × Value)} {st : List Value} {ws ws' w1 : va_W}
def imax (x y : Int32) : Int32 := if x < y then y else x
def imin (x y : Int32) : Int32 := if y < x then y else x
theorem nI_max {a b : Nat} (ha : a < 2 ^ 31) (hb : b < 2 ^ 31) : (if nI a < nI b then nI b else nI a) = nI (max a b) := by
  by_cases h : a < b
  · rw [if_pos ((nI_ltI ha hb).mpr h), Nat.max_eq_right (Nat.le_of_lt h)]
  · rw [if_neg (fun c => h ((nI_ltI ha hb).mp c)), Nat.max_eq_left (Nat.le_of_not_lt h)]
theorem nI_min {a b : Nat} (ha : a < 2 ^ 31) (hb : b < 2 ^ 31) : (if nI b < nI a then nI b else nI a) = nI (min a b) := by
  by_cases h : b < a
  · rw [if_pos ((nI_ltI hb ha).mpr h), Nat.min_eq_right (Nat.le_of_lt h)]
  · rw [if_neg (fun c => h ((nI_ltI hb ha).mp c)), Nat.min_eq_left (Nat.le_of_not_lt h)]
theorem nI_inc5 (a : Nat) : nI a + Int32.ofInt 5 = nI (a + 5) := nI_add a 5
theorem nI_dec (a : Nat) : nI (a + 1) + Int32.ofInt (-1) = nI a := pk_m1 a
theorem nI_dec1 {a : Nat} (h : 0 < a) : nI a + Int32.ofInt (-1) = nI (a - 1) := by
  obtain ⟨b, rfl⟩ : ∃ b, a = b + 1 := ⟨a - 1, by omega⟩
  exact pk_m1 b
theorem nI_subc (a b : Nat) : nI (a + b) - nI b = nI a := by
  rw [pk_sub (Nat.le_add_left b a), Nat.add_sub_cancel]
theorem a_ialdN (C : Cx g κ own cc nL rm) {a len j : Nat} {f : Nat → Nat} (q0 : Nat) (he : ws[q0]? = some (a, .inl (kI κ, len, .inl (fN f)))) (hj : j < len) (hs : len < 2 ^ 31) (hd : decode cc pc = .ok (.iaload, 1)) (kk : aw g κ nL (pc + 1) L (.int (nI (f j)) :: st) ws k n) : aw g κ nL pc L (.int (nI j) :: .ref a :: st) ws k n := a_iald C q0 he hj hs hd kk
theorem a_laldS (C : Cx g κ own cc nL rm) {a len j : Nat} {f : Nat → Nat → Bool} (q0 : Nat) (he : ws[q0]? = some (a, .inl (kJ κ, len, .inr (.inl (fS f))))) (hj : j < len) (hs : len < 2 ^ 31) (hd : decode cc pc = .ok (.laload, 1)) (kk : aw g κ nL (pc + 1) L (.long (bs (f j)) :: st) ws k n) : aw g κ nL pc L (.int (nI j) :: .ref a :: st) ws k n := a_lald C q0 he hj hs hd kk
theorem a_zaldZ (C : Cx g κ own cc nL rm) {a len j : Nat} {f : Nat → Bool} (q0 : Nat) (he : ws[q0]? = some (a, .inl (kZ κ, len, .inl (fZ f)))) (hj : j < len) (hs : len < 2 ^ 31) (hd : decode cc pc = .ok (.baload, 1)) (kk : aw g κ nL (pc + 1) L (.int (b2i (f j)) :: st) ws k n) : aw g κ nL pc L (.int (nI j) :: .ref a :: st) ws k n := a_zald C q0 he hj hs hd kk
theorem a_dup2 (C : Cx g κ own cc nL rm) {v u : Value} (hv : v.category = 1) (hu : u.category = 1) (hd : decode cc pc = .ok (.dup2, 1)) (kk : aw g κ nL (pc + 1) L (v :: u :: v :: u :: st) ws k n) : aw g κ nL pc L (v :: u :: st) ws k n := fun H locs ls hP hD hS hl => lv_dup2_11 C.1 C.2.1 hd hv hu (kk H locs ls hP hD hS hl)
theorem b2i_0 {b : Bool} : b2i b = 0 ↔ b = false := by cases b <;> decide +kernel
theorem b2i_n {b : Bool} : ¬ b2i b = 0 ↔ b = true := by cases b <;> decide +kernel
theorem nI_z {a : Nat} (ha : a < 2 ^ 31) : nI a = 0 ↔ a = 0 := by
  rw [← nI_0]; exact nI_eq ha (by decide)
theorem aw_L (e : L = L') (kk : aw g κ nL pc L' st ws k n) : aw g κ nL pc L st ws k n := e ▸ kk
theorem aw_st {st' : List Value} (e : st = st') (kk : aw g κ nL pc L st' ws k n) : aw g κ nL pc L st ws k n := e ▸ kk
theorem a_ifb_eq (C : Cx g κ own cc nL rm) {b : Bool} {off : Int} {tgt : Nat} (ht : (pc : Int) + off = (tgt : Int)) (hd : decode cc pc = .ok (.ifCond .eq off, 3)) (kt : b = false → aw g κ nL tgt L st ws k n) (kf : b = true → aw g κ nL (pc + 3) L st ws k n) : aw g κ nL pc L (.int (b2i b) :: st) ws k n := a_if_eq C ht hd (fun c => kt (b2i_0.mp c)) (fun c => kf (b2i_n.mp c))
theorem a_ifb_eq_y (C : Cx g κ own cc nL rm) {b : Bool} {off : Int} {tgt : Nat} (hc : b = false) (ht : (pc : Int) + off = (tgt : Int)) (hd : decode cc pc = .ok (.ifCond .eq off, 3)) (kt : aw g κ nL tgt L st ws k n) : aw g κ nL pc L (.int (b2i b) :: st) ws k n := a_ifb_eq C ht hd (fun _ => kt) (fun c => by rw [hc] at c; cases c)
theorem a_ifb_eq_n (C : Cx g κ own cc nL rm) {b : Bool} {off : Int} (hc : b = true) (hd : decode cc pc = .ok (.ifCond .eq off, 3)) (ht : ∃ tgt : Nat, (pc : Int) + off = (tgt : Int)) (kf : aw g κ nL (pc + 3) L st ws k n) : aw g κ nL pc L (.int (b2i b) :: st) ws k n := a_ifb_eq C ht.choose_spec hd (fun c => by rw [hc] at c; cases c) (fun _ => kf)
theorem a_ifb_ne (C : Cx g κ own cc nL rm) {b : Bool} {off : Int} {tgt : Nat} (ht : (pc : Int) + off = (tgt : Int)) (hd : decode cc pc = .ok (.ifCond .ne off, 3)) (kt : b = true → aw g κ nL tgt L st ws k n) (kf : b = false → aw g κ nL (pc + 3) L st ws k n) : aw g κ nL pc L (.int (b2i b) :: st) ws k n := a_if_ne C ht hd (fun c => kt (b2i_n.mp c)) (fun c => kf (b2i_0.mp c))
theorem a_ifb_ne_y (C : Cx g κ own cc nL rm) {b : Bool} {off : Int} {tgt : Nat} (hc : b = true) (ht : (pc : Int) + off = (tgt : Int)) (hd : decode cc pc = .ok (.ifCond .ne off, 3)) (kt : aw g κ nL tgt L st ws k n) : aw g κ nL pc L (.int (b2i b) :: st) ws k n := a_ifb_ne C ht hd (fun _ => kt) (fun c => by rw [hc] at c; cases c)
theorem a_ifb_ne_n (C : Cx g κ own cc nL rm) {b : Bool} {off : Int} (hc : b = false) (hd : decode cc pc = .ok (.ifCond .ne off, 3)) (ht : ∃ tgt : Nat, (pc : Int) + off = (tgt : Int)) (kf : aw g κ nL (pc + 3) L st ws k n) : aw g κ nL pc L (.int (b2i b) :: st) ws k n := a_ifb_ne C ht.choose_spec hd (fun c => by rw [hc] at c; cases c) (fun _ => kf)
theorem a_ifn_eq (C : Cx g κ own cc nL rm) {a : Nat} {off : Int} {tgt : Nat} (ha : a < 2 ^ 31) (ht : (pc : Int) + off = (tgt : Int)) (hd : decode cc pc = .ok (.ifCond .eq off, 3)) (kt : a = 0 → aw g κ nL tgt L st ws k n) (kf : ¬ a = 0 → aw g κ nL (pc + 3) L st ws k n) : aw g κ nL pc L (.int (nI a) :: st) ws k n := a_if_eq C ht hd (fun c => kt ((nI_z ha).mp c)) (fun c => kf (fun e => c ((nI_z ha).mpr e)))
theorem a_ifn_eq_y (C : Cx g κ own cc nL rm) {a : Nat} {off : Int} {tgt : Nat} (ha : a < 2 ^ 31) (hc : a = 0) (ht : (pc : Int) + off = (tgt : Int)) (hd : decode cc pc = .ok (.ifCond .eq off, 3)) (kt : aw g κ nL tgt L st ws k n) : aw g κ nL pc L (.int (nI a) :: st) ws k n := a_ifn_eq C ha ht hd (fun _ => kt) (fun c => absurd hc c)
theorem a_ifn_eq_n (C : Cx g κ own cc nL rm) {a : Nat} {off : Int} (ha : a < 2 ^ 31) (hc : ¬ a = 0) (hd : decode cc pc = .ok (.ifCond .eq off, 3)) (ht : ∃ tgt : Nat, (pc : Int) + off = (tgt : Int)) (kf : aw g κ nL (pc + 3) L st ws k n) : aw g κ nL pc L (.int (nI a) :: st) ws k n := a_ifn_eq C ha ht.choose_spec hd (fun c => absurd c hc) (fun _ => kf)
theorem a_ifn_ne (C : Cx g κ own cc nL rm) {a : Nat} {off : Int} {tgt : Nat} (ha : a < 2 ^ 31) (ht : (pc : Int) + off = (tgt : Int)) (hd : decode cc pc = .ok (.ifCond .ne off, 3)) (kt : ¬ a = 0 → aw g κ nL tgt L st ws k n) (kf : a = 0 → aw g κ nL (pc + 3) L st ws k n) : aw g κ nL pc L (.int (nI a) :: st) ws k n := a_if_ne C ht hd (fun c => kt (fun e => c ((nI_z ha).mpr e))) (fun c => kf ((nI_z ha).mp c))
theorem a_ifn_ne_y (C : Cx g κ own cc nL rm) {a : Nat} {off : Int} {tgt : Nat} (ha : a < 2 ^ 31) (hc : ¬ a = 0) (ht : (pc : Int) + off = (tgt : Int)) (hd : decode cc pc = .ok (.ifCond .ne off, 3)) (kt : aw g κ nL tgt L st ws k n) : aw g κ nL pc L (.int (nI a) :: st) ws k n := a_ifn_ne C ha ht hd (fun _ => kt) (fun c => absurd c hc)
theorem a_ifn_ne_n (C : Cx g κ own cc nL rm) {a : Nat} {off : Int} (ha : a < 2 ^ 31) (hc : a = 0) (hd : decode cc pc = .ok (.ifCond .ne off, 3)) (ht : ∃ tgt : Nat, (pc : Int) + off = (tgt : Int)) (kf : aw g κ nL (pc + 3) L st ws k n) : aw g κ nL pc L (.int (nI a) :: st) ws k n := a_ifn_ne C ha ht.choose_spec hd (fun c => absurd hc c) (fun _ => kf)
theorem a_callV1 (C : Cx g κ own cc nL rm) {y : MethodName} {bytes : ByteArray} {maxL index np ci b : Nat} {ret : Option FieldType} {rm' : Room} {As : List Value} {v : Value} (hM : CM y bytes maxL ret rm' κ (.ref b :: As) ws (aD (some v) w1)) (Y : YV y bytes maxL ret np) (hl : Cond.methodLink own index y ∈ WW) (hi : Cond.instanceMethod y ∈ WW) (hsel : Cond.selects y.cls y y ∈ WW) (q0 : Nat) {fs : List Value} {T : u_T} {N : Nat} (he : ws[q0]? = some (b, .inr (ci, fs))) (hc : vwCl[ci]? = some (y.cls, T, N)) (hn : As.length = np) {st0 : List Value} (hs0 : st0 = As.reverse ++ .ref b :: st) (hroom : (st.map fun v => v.category).sum ≤ 8) (hf : rm'.frames + 1 ≤ rm.frames) (ho : 8 + (maxL + 11) + rm'.locals ≤ rm.locals) (hcs : k + rm'.cells ≤ rm.cells ∧ n + rm'.slots ≤ rm.slots) (hk' : k + rm'.cells = k') (hn' : n + rm'.slots = n') (hd : decode cc pc = .ok (.invokevirtual index, 3)) (kk : aw g κ nL (pc + 3) L (v :: st) w1 k' n') : aw g κ nL pc L st0 ws k n := a_callV C hM Y hl hi hsel q0 he hc hn (L' := L) rfl hs0 hroom hf ho hcs hd (fun ro w h => by obtain ⟨rfl, rfl⟩ := h; subst hk' hn'; exact kk)
theorem a_callV0 (C : Cx g κ own cc nL rm) {y : MethodName} {bytes : ByteArray} {maxL index np ci b : Nat} {ret : Option FieldType} {rm' : Room} {As : List Value}  (hM : CM y bytes maxL ret rm' κ (.ref b :: As) ws (aD none w1)) (Y : YV y bytes maxL ret np) (hl : Cond.methodLink own index y ∈ WW) (hi : Cond.instanceMethod y ∈ WW) (hsel : Cond.selects y.cls y y ∈ WW) (q0 : Nat) {fs : List Value} {T : u_T} {N : Nat} (he : ws[q0]? = some (b, .inr (ci, fs))) (hc : vwCl[ci]? = some (y.cls, T, N)) (hn : As.length = np) {st0 : List Value} (hs0 : st0 = As.reverse ++ .ref b :: st) (hroom : (st.map fun v => v.category).sum ≤ 8) (hf : rm'.frames + 1 ≤ rm.frames) (ho : 8 + (maxL + 11) + rm'.locals ≤ rm.locals) (hcs : k + rm'.cells ≤ rm.cells ∧ n + rm'.slots ≤ rm.slots) (hk' : k + rm'.cells = k') (hn' : n + rm'.slots = n') (hd : decode cc pc = .ok (.invokevirtual index, 3)) (kk : aw g κ nL (pc + 3) L (st) w1 k' n') : aw g κ nL pc L st0 ws k n := a_callV C hM Y hl hi hsel q0 he hc hn (L' := L) rfl hs0 hroom hf ho hcs hd (fun ro w h => by obtain ⟨rfl, rfl⟩ := h; subst hk' hn'; exact kk)
theorem a_callS1 (C : Cx g κ own cc nL rm) {y : MethodName} {bytes : ByteArray} {maxL index np : Nat} {ret : Option FieldType} {rm' : Room} {As : List Value} {v : Value} (hM : CM y bytes maxL ret rm' κ As ws (aD (some v) w1)) (Y : YV y bytes maxL ret np) (hl : Cond.methodLink own index y ∈ WW) (hs : Cond.static y ∈ WW) (hn : As.length = np) {st0 : List Value} (hs0 : st0 = As.reverse ++ st) (hroom : (st.map fun v => v.category).sum ≤ 8) (hf : rm'.frames + 1 ≤ rm.frames) (ho : 8 + (maxL + 11) + rm'.locals ≤ rm.locals) (hcs : k + rm'.cells ≤ rm.cells ∧ n + rm'.slots ≤ rm.slots) (hk' : k + rm'.cells = k') (hn' : n + rm'.slots = n') (hd : decode cc pc = .ok (.invokestatic index, 3)) (kk : aw g κ nL (pc + 3) L (v :: st) w1 k' n') : aw g κ nL pc L st0 ws k n := a_callS C hM Y hl hs hn hs0 hroom hf ho hcs hd (fun ro w h => by obtain ⟨rfl, rfl⟩ := h; subst hk' hn'; exact kk)
theorem a_callS0 (C : Cx g κ own cc nL rm) {y : MethodName} {bytes : ByteArray} {maxL index np : Nat} {ret : Option FieldType} {rm' : Room} {As : List Value}  (hM : CM y bytes maxL ret rm' κ As ws (aD none w1)) (Y : YV y bytes maxL ret np) (hl : Cond.methodLink own index y ∈ WW) (hs : Cond.static y ∈ WW) (hn : As.length = np) {st0 : List Value} (hs0 : st0 = As.reverse ++ st) (hroom : (st.map fun v => v.category).sum ≤ 8) (hf : rm'.frames + 1 ≤ rm.frames) (ho : 8 + (maxL + 11) + rm'.locals ≤ rm.locals) (hcs : k + rm'.cells ≤ rm.cells ∧ n + rm'.slots ≤ rm.slots) (hk' : k + rm'.cells = k') (hn' : n + rm'.slots = n') (hd : decode cc pc = .ok (.invokestatic index, 3)) (kk : aw g κ nL (pc + 3) L (st) w1 k' n') : aw g κ nL pc L st0 ws k n := a_callS C hM Y hl hs hn hs0 hroom hf ho hcs hd (fun ro w h => by obtain ⟨rfl, rfl⟩ := h; subst hk' hn'; exact kk)
theorem a_callSN1 (C : Cx g κ own cc nL rm) {y : MethodName} {host : String} {bytes : ByteArray} {maxL index np : Nat} {ret : Option FieldType} {rm' : Room} {As : List Value} {v : Value} (hM : CM y bytes maxL ret rm' κ As ws (aD (some v) w1)) (Y : YV y bytes maxL ret np) (hl : (own, index, y, host) ∈ nestM) (hs : Cond.static y ∈ WW) (hn : As.length = np) {st0 : List Value} (hs0 : st0 = As.reverse ++ st) (hroom : (st.map fun v => v.category).sum ≤ 8) (hf : rm'.frames + 1 ≤ rm.frames) (ho : 8 + (maxL + 11) + rm'.locals ≤ rm.locals) (hcs : k + rm'.cells ≤ rm.cells ∧ n + rm'.slots ≤ rm.slots) (hk' : k + rm'.cells = k') (hn' : n + rm'.slots = n') (hd : decode cc pc = .ok (.invokestatic index, 3)) (kk : aw g κ nL (pc + 3) L (v :: st) w1 k' n') : aw g κ nL pc L st0 ws k n := a_callSN C hM Y hl hs hn hs0 hroom hf ho hcs hd (fun ro w h => by obtain ⟨rfl, rfl⟩ := h; subst hk' hn'; exact kk)
theorem a_callSN0 (C : Cx g κ own cc nL rm) {y : MethodName} {host : String} {bytes : ByteArray} {maxL index np : Nat} {ret : Option FieldType} {rm' : Room} {As : List Value}  (hM : CM y bytes maxL ret rm' κ As ws (aD none w1)) (Y : YV y bytes maxL ret np) (hl : (own, index, y, host) ∈ nestM) (hs : Cond.static y ∈ WW) (hn : As.length = np) {st0 : List Value} (hs0 : st0 = As.reverse ++ st) (hroom : (st.map fun v => v.category).sum ≤ 8) (hf : rm'.frames + 1 ≤ rm.frames) (ho : 8 + (maxL + 11) + rm'.locals ≤ rm.locals) (hcs : k + rm'.cells ≤ rm.cells ∧ n + rm'.slots ≤ rm.slots) (hk' : k + rm'.cells = k') (hn' : n + rm'.slots = n') (hd : decode cc pc = .ok (.invokestatic index, 3)) (kk : aw g κ nL (pc + 3) L (st) w1 k' n') : aw g κ nL pc L st0 ws k n := a_callSN C hM Y hl hs hn hs0 hroom hf ho hcs hd (fun ro w h => by obtain ⟨rfl, rfl⟩ := h; subst hk' hn'; exact kk)
theorem a_callIN0 (C : Cx g κ own cc nL rm) {y : MethodName} {host : String} {bytes : ByteArray} {maxL index np b : Nat} {rm' : Room} {As : List Value}  (hM : CM y bytes maxL none rm' κ (.ref b :: As) ws (aD none w1)) (Y : YV y bytes maxL none np) (hl : (own, index, y, host) ∈ nestM) (hi : Cond.instanceMethod y ∈ WW) (hin : y.name = "<init>") (hn : As.length = np) {st0 : List Value} (hs0 : st0 = As.reverse ++ .ref b :: st) (hroom : (st.map fun v => v.category).sum ≤ 8) (hf : rm'.frames + 1 ≤ rm.frames) (ho : 8 + (maxL + 11) + rm'.locals ≤ rm.locals) (hcs : k + rm'.cells ≤ rm.cells ∧ n + rm'.slots ≤ rm.slots) (hk' : k + rm'.cells = k') (hn' : n + rm'.slots = n') (hd : decode cc pc = .ok (.invokespecial index, 3)) (kk : aw g κ nL (pc + 3) L (st) w1 k' n') : aw g κ nL pc L st0 ws k n := a_callIN C hM Y hl hi hin hn hs0 hroom hf ho hcs hd (fun ro w h => by obtain ⟨rfl, rfl⟩ := h; subst hk' hn'; exact kk)
theorem a_callI0 (C : Cx g κ own cc nL rm) {y : MethodName} {bytes : ByteArray} {maxL index np b : Nat} {rm' : Room} {As : List Value}  (hM : CM y bytes maxL none rm' κ (.ref b :: As) ws (aD none w1)) (Y : YV y bytes maxL none np) (hl : Cond.methodLink own index y ∈ WW) (hi : Cond.instanceMethod y ∈ WW) (hin : y.name = "<init>") (hn : As.length = np) {st0 : List Value} (hs0 : st0 = As.reverse ++ .ref b :: st) (hroom : (st.map fun v => v.category).sum ≤ 8) (hf : rm'.frames + 1 ≤ rm.frames) (ho : 8 + (maxL + 11) + rm'.locals ≤ rm.locals) (hcs : k + rm'.cells ≤ rm.cells ∧ n + rm'.slots ≤ rm.slots) (hk' : k + rm'.cells = k') (hn' : n + rm'.slots = n') (hd : decode cc pc = .ok (.invokespecial index, 3)) (kk : aw g κ nL (pc + 3) L (st) w1 k' n') : aw g κ nL pc L st0 ws k n := a_callI C hM Y hl hi hin hn hs0 hroom hf ho hcs hd (fun ro w h => by obtain ⟨rfl, rfl⟩ := h; subst hk' hn'; exact kk)
theorem ne_X2_40 : (RX2, 40, yX5_has, RX5) ∈ nestM := by simp [nestM]
theorem ne_X2_97 : (RX2, 97, yX5_bit, RX5) ∈ nestM := by simp [nestM]
theorem ne_X0_46 : (RX0, 46, yX5_has, RX5) ∈ nestM := by simp [nestM]
theorem ne_X4_32 : (RX4, 32, yX5_bit, RX5) ∈ nestM := by simp [nestM]
theorem ne_X5_9 : (RX5, 9, yX4_init, RX5) ∈ nestM := by simp [nestM]
theorem ne_X5_18 : (RX5, 18, yX3_init, RX5) ∈ nestM := by simp [nestM]
theorem ne_X5_25 : (RX5, 25, yX2_init, RX5) ∈ nestM := by simp [nestM]
theorem ne_X5_32 : (RX5, 32, yX1_init, RX5) ∈ nestM := by simp [nestM]
theorem ne_X5_39 : (RX5, 39, yX0_init, RX5) ∈ nestM := by simp [nestM]
end ROWS3
end
section
theorem ci_0 : Int32.ofInt 0 = nI 0 := by decide +kernel
theorem ci_1 : Int32.ofInt 1 = nI 1 := by decide +kernel
end
section
set_option maxHeartbeats 4000000 in
set_option maxRecDepth 100000 in
theorem c_X5_bit (κ : aK) {X : va_W} {e : Nat} (he : e < 64) : CM yX5_bit cX5_bit 1 (some .long) ({ frames := 0, cells := 0, slots := 0, locals := 0 } : Room) κ [.int (nI e)] (X) (aD (some (.long (bs (fun i => decide (i = e))))) (X)) := by
  refine cm_entry (own := RX5) (L := [(0, .int (nI e))]) (by decide +kernel) rfl (lv_entry [.int (nI e)] (n := 1) (Nat.le_of_ble_eq_true rfl)) (fun g C E => ?_)
  refine a_lconst (pc := 0) (v := 1) C rfl dX5_bit_0 ?_
  refine a_iloadn (pc := 1) C 0 rfl rfl dX5_bit_1 ?_
  refine a_lshl (pc := 2) (v := bs (fun i => decide (i = e))) C (bs_bit (by omega)) dX5_bit_2 ?_
  exact a_lret (pc := 3) C E (Nat.le_of_ble_eq_true rfl) (Nat.le_of_ble_eq_true rfl) ⟨rfl, rfl⟩ dX5_bit_3

set_option maxHeartbeats 4000000 in
set_option maxRecDepth 100000 in
theorem c_X5_has (κ : aK) {X : va_W} {p : Nat → Bool} {e : Nat} (he : e < 64) : CM yX5_has cX5_has 3 (some .boolean) ({ frames := 1, cells := 0, slots := 0, locals := 20 } : Room) κ [.long (bs p), .int (nI e)] (X) (aD (some (.int (b2i (p e)))) (X)) := by
  refine cm_entry (own := RX5) (L := [(0, .long (bs p)), (2, .int (nI e))]) (by decide +kernel) rfl (lv_entry [.long (bs p), .int (nI e)] (n := 3) (Nat.le_of_ble_eq_true rfl)) (fun g C E => ?_)
  refine a_lloadn (pc := 0) C 0 rfl rfl dX5_has_0 ?_
  refine a_iloadn (pc := 1) C 1 rfl rfl dX5_has_1 ?_
  refine a_callS1 (pc := 2) (k' := 0) (n' := 0) C (c_X5_bit κ (by omega)) yv_X5_bit ml_X5_258 ws_X5_bit rfl rfl (Nat.le_of_ble_eq_true rfl) (Nat.le_of_ble_eq_true rfl) (Nat.le_of_ble_eq_true rfl) ⟨(Nat.le_of_ble_eq_true rfl), (Nat.le_of_ble_eq_true rfl)⟩ rfl rfl dX5_has_2 ?_
  refine a_land (pc := 5) (v := bs (fun i => p i && (decide (i = e)))) C (bs_and _ _) dX5_has_5 ?_
  refine a_lconst (pc := 6) (v := 0) C rfl dX5_has_6 ?_
  refine a_lcmp (pc := 7) (v := lg_cmp (bs (fun i => p i && (decide (i = e)))) (0 : Int64)) C rfl dX5_has_7 ?_
  refine a_if_eq (pc := 8) (tgt := 15) C (by decide) dX5_has_8 (fun c1 => ?_) (fun c1 => ?_)
  · have c := (bs_has (by omega)).mp c1
    rw [c] at E
    refine a_iconst (pc := 15) (v := nI 0) C ci_0 dX5_has_15 ?_
    exact a_zret (pc := 16) (b := false) C E (Nat.le_of_ble_eq_true rfl) (Nat.le_of_ble_eq_true rfl) (by decide +kernel) ⟨rfl, rfl⟩ dX5_has_16
  · have c : p e = true := by cases h : p e with | true => rfl | false => exact absurd ((bs_has (by omega)).mpr h) c1
    rw [c] at E
    refine a_iconst (pc := 11) (v := nI 1) C ci_1 dX5_has_11 ?_
    refine a_goto (pc := 12) (tgt := 16) C (by decide) dX5_has_12 ?_
    exact a_zret (pc := 16) (b := true) C E (Nat.le_of_ble_eq_true rfl) (Nat.le_of_ble_eq_true rfl) (by decide +kernel) ⟨rfl, rfl⟩ dX5_has_16

set_option maxHeartbeats 4000000 in
set_option maxRecDepth 100000 in
theorem c_X5_isWithin (κ : aK) {X : va_W} {x : Int32} {l : Int32} {h : Int32} : CM yX5_isWithin cX5_isWithin 3 (some .boolean) ({ frames := 0, cells := 0, slots := 0, locals := 0 } : Room) κ [.int x, .int l, .int h] (X) (aD (some (.int (b2i (decide (l ≤ x) && decide (x ≤ h))))) (X)) := by
  refine cm_entry (own := RX5) (L := [(0, .int x), (1, .int l), (2, .int h)]) (by decide +kernel) rfl (lv_entry [.int x, .int l, .int h] (n := 3) (Nat.le_of_ble_eq_true rfl)) (fun g C E => ?_)
  refine a_iloadn (pc := 0) C 0 rfl rfl dX5_isWithin_0 ?_
  refine a_iloadn (pc := 1) C 1 rfl rfl dX5_isWithin_1 ?_
  refine a_ic_lt (pc := 2) (tgt := 14) C (by decide) dX5_isWithin_2 (fun c1 => ?_) (fun c1 => ?_)
  · rw [show decide (l ≤ x) = false from decide_eq_false (fun q => Int32.not_le.mpr c1 q)] at E
    refine a_iconst (pc := 14) (v := nI 0) C ci_0 dX5_isWithin_14 ?_
    exact a_zret (pc := 15) (b := false) C E (Nat.le_of_ble_eq_true rfl) (Nat.le_of_ble_eq_true rfl) (by decide +kernel) ⟨rfl, rfl⟩ dX5_isWithin_15
  · rw [show decide (l ≤ x) = true from decide_eq_true (Int32.not_lt.mp c1)] at E
    refine a_iloadn (pc := 5) C 0 rfl rfl dX5_isWithin_5 ?_
    refine a_iloadn (pc := 6) C 2 rfl rfl dX5_isWithin_6 ?_
    refine a_ic_gt (pc := 7) (tgt := 14) C (by decide) dX5_isWithin_7 (fun c2 => ?_) (fun c2 => ?_)
    · rw [show decide (x ≤ h) = false from decide_eq_false (fun q => Int32.not_le.mpr c2 q)] at E
      refine a_iconst (pc := 14) (v := nI 0) C ci_0 dX5_isWithin_14 ?_
      exact a_zret (pc := 15) (b := false) C E (Nat.le_of_ble_eq_true rfl) (Nat.le_of_ble_eq_true rfl) (by decide +kernel) ⟨rfl, rfl⟩ dX5_isWithin_15
    · rw [show decide (x ≤ h) = true from decide_eq_true (Int32.not_lt.mp c2)] at E
      refine a_iconst (pc := 10) (v := nI 1) C ci_1 dX5_isWithin_10 ?_
      refine a_goto (pc := 11) (tgt := 15) C (by decide) dX5_isWithin_11 ?_
      exact a_zret (pc := 15) (b := true) C E (Nat.le_of_ble_eq_true rfl) (Nat.le_of_ble_eq_true rfl) (by decide +kernel) ⟨rfl, rfl⟩ dX5_isWithin_15

set_option maxHeartbeats 4000000 in
set_option maxRecDepth 100000 in
theorem c_X2_isSameBody (κ : aK) (a : Nat → Nat) {n : Nat} {dug : Nat → Bool} {dtd : Nat → Bool} {so : Nat → Int32} {ph : Nat → Int32} {uf : Nat → Int32} {ul : Nat → Int32} {r : Nat} {ki : Nat → Int32} {lt : Nat → Nat} {er : Nat → Nat} {mz : Nat} {bd : Nat → Bool} {bo : Nat → Nat} {me : Nat → Nat → Bool} {dE : Nat → Nat → Bool} {eE : Nat → Nat → Bool} {lE : Nat → Nat → Bool} {li : Nat → Nat → Bool} {fB : Nat → Int32} {fA : Nat → Int32} {sL : Nat → Int32} {f : Nat} {fu : Nat → Nat} {fs : Nat → Int32} {ff : Nat → Int32} {fl : Nat → Int32} {xs : Nat → Int32} {ys : Nat → Int32} {zs : Nat → Int32} {oL : Nat → Int32} {oU : Nat → Int32} {lo : Nat → Int32} {up : Nat → Int32} {X : va_W} {x : Nat} {y : Nat} (hx : x < 40) (hy : y < 40) (hbo : ∀ u, bo u < 40) : CM yX2_isSameBody cX2_isSameBody 3 (some .boolean) ({ frames := 0, cells := 0, slots := 0, locals := 0 } : Room) κ [.ref (a 3), .int (nI x), .int (nI y)] (wC κ a n dug dtd so ph uf ul r ki lt er mz bd bo me dE eE lE li fB fA sL f fu fs ff fl xs ys zs oL oU lo up X) (aD (some (.int (b2i (decide (bo x = bo y))))) (wC κ a n dug dtd so ph uf ul r ki lt er mz bd bo me dE eE lE li fB fA sL f fu fs ff fl xs ys zs oL oU lo up X)) := by
  refine cm_entry (own := RX2) (L := [(0, .ref (a 3)), (1, .int (nI x)), (2, .int (nI y))]) (by decide +kernel) rfl (lv_entry [.ref (a 3), .int (nI x), .int (nI y)] (n := 3) (Nat.le_of_ble_eq_true rfl)) (fun g C E => ?_)
  have hb1 := hbo x
  have hb2 := hbo y
  refine a_aloadn (pc := 0) C 0 rfl rfl dX2_isSameBody_0 ?_
  refine a_get (pc := 1) C fl_X2_9 3 rfl rfl dX2_isSameBody_1 ?_
  refine a_iloadn (pc := 4) C 1 rfl rfl dX2_isSameBody_4 ?_
  refine a_ialdN (pc := 5) C 13 rfl (by omega) (by decide) dX2_isSameBody_5 ?_
  refine a_aloadn (pc := 6) C 0 rfl rfl dX2_isSameBody_6 ?_
  refine a_get (pc := 7) C fl_X2_9 3 rfl rfl dX2_isSameBody_7 ?_
  refine a_iloadn (pc := 10) C 2 rfl rfl dX2_isSameBody_10 ?_
  refine a_ialdN (pc := 11) C 13 rfl (by omega) (by decide) dX2_isSameBody_11 ?_
  refine a_icn_ne (pc := 12) (tgt := 19) C (by omega) (by omega) (by decide) dX2_isSameBody_12 (fun c1 => ?_) (fun c1 => ?_)
  · rw [show decide (bo x = bo y) = false from decide_eq_false c1] at E
    refine a_iconst (pc := 19) (v := nI 0) C ci_0 dX2_isSameBody_19 ?_
    exact a_zret (pc := 20) (b := false) C E (Nat.le_of_ble_eq_true rfl) (Nat.le_of_ble_eq_true rfl) (by decide +kernel) ⟨rfl, rfl⟩ dX2_isSameBody_20
  · rw [show decide (bo x = bo y) = true from decide_eq_true c1] at E
    refine a_iconst (pc := 15) (v := nI 1) C ci_1 dX2_isSameBody_15 ?_
    refine a_goto (pc := 16) (tgt := 20) C (by decide) dX2_isSameBody_16 ?_
    exact a_zret (pc := 20) (b := true) C E (Nat.le_of_ble_eq_true rfl) (Nat.le_of_ble_eq_true rfl) (by decide +kernel) ⟨rfl, rfl⟩ dX2_isSameBody_20

set_option maxHeartbeats 4000000 in
set_option maxRecDepth 100000 in
theorem c_X2_isLater (κ : aK) (a : Nat → Nat) {n : Nat} {dug : Nat → Bool} {dtd : Nat → Bool} {so : Nat → Int32} {ph : Nat → Int32} {uf : Nat → Int32} {ul : Nat → Int32} {r : Nat} {ki : Nat → Int32} {lt : Nat → Nat} {er : Nat → Nat} {mz : Nat} {bd : Nat → Bool} {bo : Nat → Nat} {me : Nat → Nat → Bool} {dE : Nat → Nat → Bool} {eE : Nat → Nat → Bool} {lE : Nat → Nat → Bool} {li : Nat → Nat → Bool} {fB : Nat → Int32} {fA : Nat → Int32} {sL : Nat → Int32} {f : Nat} {fu : Nat → Nat} {fs : Nat → Int32} {ff : Nat → Int32} {fl : Nat → Int32} {xs : Nat → Int32} {ys : Nat → Int32} {zs : Nat → Int32} {oL : Nat → Int32} {oU : Nat → Int32} {lo : Nat → Int32} {up : Nat → Int32} {X : va_W} {x : Nat} {y : Nat} (hx : x < 40) (hy : y < 40) (hbo : ∀ u, bo u < 40) : CM yX2_isLater cX2_isLater 3 (some .boolean) ({ frames := 2, cells := 0, slots := 0, locals := 42 } : Room) κ [.ref (a 3), .int (nI x), .int (nI y)] (wC κ a n dug dtd so ph uf ul r ki lt er mz bd bo me dE eE lE li fB fA sL f fu fs ff fl xs ys zs oL oU lo up X) (aD (some (.int (b2i (eE (bo x) (bo y))))) (wC κ a n dug dtd so ph uf ul r ki lt er mz bd bo me dE eE lE li fB fA sL f fu fs ff fl xs ys zs oL oU lo up X)) := by
  refine cm_entry (own := RX2) (L := [(0, .ref (a 3)), (1, .int (nI x)), (2, .int (nI y))]) (by decide +kernel) rfl (lv_entry [.ref (a 3), .int (nI x), .int (nI y)] (n := 3) (Nat.le_of_ble_eq_true rfl)) (fun g C E => ?_)
  have hb1 := hbo x
  have hb2 := hbo y
  refine a_aloadn (pc := 0) C 0 rfl rfl dX2_isLater_0 ?_
  refine a_get (pc := 1) C fl_X2_22 3 rfl rfl dX2_isLater_1 ?_
  refine a_aloadn (pc := 4) C 0 rfl rfl dX2_isLater_4 ?_
  refine a_get (pc := 5) C fl_X2_9 3 rfl rfl dX2_isLater_5 ?_
  refine a_iloadn (pc := 8) C 1 rfl rfl dX2_isLater_8 ?_
  refine a_ialdN (pc := 9) C 13 rfl (by omega) (by decide) dX2_isLater_9 ?_
  refine a_laldS (pc := 10) C 16 rfl (hbo _) (by decide) dX2_isLater_10 ?_
  refine a_aloadn (pc := 11) C 0 rfl rfl dX2_isLater_11 ?_
  refine a_get (pc := 12) C fl_X2_9 3 rfl rfl dX2_isLater_12 ?_
  refine a_iloadn (pc := 15) C 2 rfl rfl dX2_isLater_15 ?_
  refine a_ialdN (pc := 16) C 13 rfl (by omega) (by decide) dX2_isLater_16 ?_
  refine a_callSN1 (pc := 17) (k' := 0) (n' := 0) C (c_X5_has κ (by omega)) yv_X5_has ne_X2_40 ws_X5_has rfl rfl (Nat.le_of_ble_eq_true rfl) (Nat.le_of_ble_eq_true rfl) (Nat.le_of_ble_eq_true rfl) ⟨(Nat.le_of_ble_eq_true rfl), (Nat.le_of_ble_eq_true rfl)⟩ rfl rfl dX2_isLater_17 ?_
  exact a_zret (pc := 20) (b := (eE (bo x)) (bo y)) C E (Nat.le_of_ble_eq_true rfl) (Nat.le_of_ble_eq_true rfl) rfl ⟨rfl, rfl⟩ dX2_isLater_20
end
