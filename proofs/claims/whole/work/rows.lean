section
-- ===== PART A: goes FIRST, ahead of the names: the tables' words, and 'selects' of the private methods out of them =====
/-- a private method of a class that the tables say can be made, by its rows of tables_1 -/
def lw_okq (q : MethodName × Nat) : Prop := (q.1.cls ≠ "java/lang/invoke/MethodHandle" ∧ q.1.cls ≠ "java/lang/invoke/VarHandle") ∧ Cond.instantiable q.1.cls q.2 ∈ tables_1 ∧ Cond.privateMethod q.1 ∈ tables_1 ∧ Cond.instanceMethod q.1 ∈ tables_1
theorem lw_p0 : lw_okq (⟨"StrokeCuts", "refuseBad", "()I"⟩, 7) := ⟨⟨by decide +kernel, by decide +kernel⟩, List.mem_of_getElem? (i := 11) (by decide +kernel), List.mem_of_getElem? (i := 162) (by decide +kernel), List.mem_of_getElem? (i := 163) (by decide +kernel)⟩
theorem lw_p1 : lw_okq (⟨"StrokeCuts", "isLinkPlace", "(III)Z"⟩, 7) := ⟨⟨by decide +kernel, by decide +kernel⟩, List.mem_of_getElem? (i := 11) (by decide +kernel), List.mem_of_getElem? (i := 270) (by decide +kernel), List.mem_of_getElem? (i := 271) (by decide +kernel)⟩
theorem lw_p2 : lw_okq (⟨"StrokeCuts$Network", "measureDistances", "()V"⟩, 8) := ⟨⟨by decide +kernel, by decide +kernel⟩, List.mem_of_getElem? (i := 70) (by decide +kernel), List.mem_of_getElem? (i := 320) (by decide +kernel), List.mem_of_getElem? (i := 321) (by decide +kernel)⟩
theorem lw_p3 : lw_okq (⟨"StrokeCuts$Network", "enqueue", "(I)V"⟩, 8) := ⟨⟨by decide +kernel, by decide +kernel⟩, List.mem_of_getElem? (i := 70) (by decide +kernel), List.mem_of_getElem? (i := 324) (by decide +kernel), List.mem_of_getElem? (i := 325) (by decide +kernel)⟩
theorem lw_p4 : lw_okq (⟨"StrokeCuts$Network", "send", "(III)I"⟩, 8) := ⟨⟨by decide +kernel, by decide +kernel⟩, List.mem_of_getElem? (i := 70) (by decide +kernel), List.mem_of_getElem? (i := 328) (by decide +kernel), List.mem_of_getElem? (i := 329) (by decide +kernel)⟩
theorem lw_p5 : lw_okq (⟨"StrokeCuts$Network", "isNext", "(II)Z"⟩, 8) := ⟨⟨by decide +kernel, by decide +kernel⟩, List.mem_of_getElem? (i := 70) (by decide +kernel), List.mem_of_getElem? (i := 333) (by decide +kernel), List.mem_of_getElem? (i := 334) (by decide +kernel)⟩
theorem lw_p6 : lw_okq (⟨"StrokeCuts$Network", "spread", "(J)J"⟩, 8) := ⟨⟨by decide +kernel, by decide +kernel⟩, List.mem_of_getElem? (i := 70) (by decide +kernel), List.mem_of_getElem? (i := 345) (by decide +kernel), List.mem_of_getElem? (i := 346) (by decide +kernel)⟩
theorem lw_p7 : lw_okq (⟨"StrokeCuts$Scene", "linkCosts", "(JII)I"⟩, 5) := ⟨⟨by decide +kernel, by decide +kernel⟩, List.mem_of_getElem? (i := 19) (by decide +kernel), List.mem_of_getElem? (i := 403) (by decide +kernel), List.mem_of_getElem? (i := 404) (by decide +kernel)⟩
theorem lw_p8 : lw_okq (⟨"StrokeCuts$Scene", "countPieces", "(JJ)I"⟩, 5) := ⟨⟨by decide +kernel, by decide +kernel⟩, List.mem_of_getElem? (i := 19) (by decide +kernel), List.mem_of_getElem? (i := 423) (by decide +kernel), List.mem_of_getElem? (i := 424) (by decide +kernel)⟩
theorem lw_p9 : lw_okq (⟨"StrokeCuts$Scene", "pieceOf", "(JJ)J"⟩, 5) := ⟨⟨by decide +kernel, by decide +kernel⟩, List.mem_of_getElem? (i := 19) (by decide +kernel), List.mem_of_getElem? (i := 427) (by decide +kernel), List.mem_of_getElem? (i := 428) (by decide +kernel)⟩
theorem lw_p10 : lw_okq (⟨"StrokeCuts$Scene", "column", "(I)J"⟩, 5) := ⟨⟨by decide +kernel, by decide +kernel⟩, List.mem_of_getElem? (i := 19) (by decide +kernel), List.mem_of_getElem? (i := 431) (by decide +kernel), List.mem_of_getElem? (i := 432) (by decide +kernel)⟩
theorem lw_p11 : lw_okq (⟨"StrokeCuts$Scene", "border", "()J"⟩, 5) := ⟨⟨by decide +kernel, by decide +kernel⟩, List.mem_of_getElem? (i := 19) (by decide +kernel), List.mem_of_getElem? (i := 441) (by decide +kernel), List.mem_of_getElem? (i := 442) (by decide +kernel)⟩
theorem lw_p12 : lw_okq (⟨"StrokeCuts$Scene", "row", "(I)J"⟩, 5) := ⟨⟨by decide +kernel, by decide +kernel⟩, List.mem_of_getElem? (i := 19) (by decide +kernel), List.mem_of_getElem? (i := 445) (by decide +kernel), List.mem_of_getElem? (i := 446) (by decide +kernel)⟩
theorem lw_p13 : lw_okq (⟨"StrokeCuts", "learnRounds", "(I)I"⟩, 7) := ⟨⟨by decide +kernel, by decide +kernel⟩, List.mem_of_getElem? (i := 11) (by decide +kernel), List.mem_of_getElem? (i := 474) (by decide +kernel), List.mem_of_getElem? (i := 475) (by decide +kernel)⟩
theorem lw_p14 : lw_okq (⟨"StrokeCuts$Scene", "learnTone", "(IJ)Z"⟩, 5) := ⟨⟨by decide +kernel, by decide +kernel⟩, List.mem_of_getElem? (i := 19) (by decide +kernel), List.mem_of_getElem? (i := 482) (by decide +kernel), List.mem_of_getElem? (i := 483) (by decide +kernel)⟩
theorem lw_p15 : lw_okq (⟨"StrokeCuts$Script", "peekSign", "()I"⟩, 7) := ⟨⟨by decide +kernel, by decide +kernel⟩, List.mem_of_getElem? (i := 101) (by decide +kernel), List.mem_of_getElem? (i := 526) (by decide +kernel), List.mem_of_getElem? (i := 527) (by decide +kernel)⟩
def lw_privs_1 : List (MethodName × Nat) := [(⟨"StrokeCuts", "refuseBad", "()I"⟩, 7), (⟨"StrokeCuts", "isLinkPlace", "(III)Z"⟩, 7), (⟨"StrokeCuts$Network", "measureDistances", "()V"⟩, 8), (⟨"StrokeCuts$Network", "enqueue", "(I)V"⟩, 8), (⟨"StrokeCuts$Network", "send", "(III)I"⟩, 8), (⟨"StrokeCuts$Network", "isNext", "(II)Z"⟩, 8), (⟨"StrokeCuts$Network", "spread", "(J)J"⟩, 8), (⟨"StrokeCuts$Scene", "linkCosts", "(JII)I"⟩, 5), (⟨"StrokeCuts$Scene", "countPieces", "(JJ)I"⟩, 5), (⟨"StrokeCuts$Scene", "pieceOf", "(JJ)J"⟩, 5), (⟨"StrokeCuts$Scene", "column", "(I)J"⟩, 5), (⟨"StrokeCuts$Scene", "border", "()J"⟩, 5), (⟨"StrokeCuts$Scene", "row", "(I)J"⟩, 5), (⟨"StrokeCuts", "learnRounds", "(I)I"⟩, 7), (⟨"StrokeCuts$Scene", "learnTone", "(IJ)Z"⟩, 5), (⟨"StrokeCuts$Script", "peekSign", "()I"⟩, 7)]
theorem lw_r1 : ∀ q ∈ lw_privs_1, lw_okq q := List.forall_mem_cons.mpr ⟨lw_p0, List.forall_mem_cons.mpr ⟨lw_p1, List.forall_mem_cons.mpr ⟨lw_p2, List.forall_mem_cons.mpr ⟨lw_p3, List.forall_mem_cons.mpr ⟨lw_p4, List.forall_mem_cons.mpr ⟨lw_p5, List.forall_mem_cons.mpr ⟨lw_p6, List.forall_mem_cons.mpr ⟨lw_p7, List.forall_mem_cons.mpr ⟨lw_p8, List.forall_mem_cons.mpr ⟨lw_p9, List.forall_mem_cons.mpr ⟨lw_p10, List.forall_mem_cons.mpr ⟨lw_p11, List.forall_mem_cons.mpr ⟨lw_p12, List.forall_mem_cons.mpr ⟨lw_p13, List.forall_mem_cons.mpr ⟨lw_p14, List.forall_mem_cons.mpr ⟨lw_p15, fun _ h => absurd h List.not_mem_nil⟩⟩⟩⟩⟩⟩⟩⟩⟩⟩⟩⟩⟩⟩⟩⟩
theorem lw_p16 : lw_okq (⟨"StrokeCuts$Script", "readDot", "(II)Z"⟩, 7) := ⟨⟨by decide +kernel, by decide +kernel⟩, List.mem_of_getElem? (i := 101) (by decide +kernel), List.mem_of_getElem? (i := 534) (by decide +kernel), List.mem_of_getElem? (i := 535) (by decide +kernel)⟩
theorem lw_p17 : lw_okq (⟨"StrokeCuts$Script", "readFigure", "(II)Z"⟩, 7) := ⟨⟨by decide +kernel, by decide +kernel⟩, List.mem_of_getElem? (i := 101) (by decide +kernel), List.mem_of_getElem? (i := 538) (by decide +kernel), List.mem_of_getElem? (i := 539) (by decide +kernel)⟩
theorem lw_p18 : lw_okq (⟨"StrokeCuts$Script", "readEnd", "()Z"⟩, 7) := ⟨⟨by decide +kernel, by decide +kernel⟩, List.mem_of_getElem? (i := 101) (by decide +kernel), List.mem_of_getElem? (i := 543) (by decide +kernel), List.mem_of_getElem? (i := 544) (by decide +kernel)⟩
theorem lw_p19 : lw_okq (⟨"StrokeCuts", "obeyOrder", "()V"⟩, 7) := ⟨⟨by decide +kernel, by decide +kernel⟩, List.mem_of_getElem? (i := 11) (by decide +kernel), List.mem_of_getElem? (i := 549) (by decide +kernel), List.mem_of_getElem? (i := 550) (by decide +kernel)⟩
theorem lw_p20 : lw_okq (⟨"StrokeCuts", "markLine", "(III)V"⟩, 7) := ⟨⟨by decide +kernel, by decide +kernel⟩, List.mem_of_getElem? (i := 11) (by decide +kernel), List.mem_of_getElem? (i := 557) (by decide +kernel), List.mem_of_getElem? (i := 558) (by decide +kernel)⟩
theorem lw_p21 : lw_okq (⟨"StrokeCutsModel", "bad", "()I"⟩, 15) := ⟨⟨by decide +kernel, by decide +kernel⟩, List.mem_of_getElem? (i := 580) (by decide +kernel), List.mem_of_getElem? (i := 639) (by decide +kernel), List.mem_of_getElem? (i := 640) (by decide +kernel)⟩
theorem lw_p22 : lw_okq (⟨"StrokeCutsModel", "leaves", "()V"⟩, 15) := ⟨⟨by decide +kernel, by decide +kernel⟩, List.mem_of_getElem? (i := 580) (by decide +kernel), List.mem_of_getElem? (i := 643) (by decide +kernel), List.mem_of_getElem? (i := 644) (by decide +kernel)⟩
theorem lw_p23 : lw_okq (⟨"StrokeCutsModel", "dots", "()I"⟩, 15) := ⟨⟨by decide +kernel, by decide +kernel⟩, List.mem_of_getElem? (i := 580) (by decide +kernel), List.mem_of_getElem? (i := 650) (by decide +kernel), List.mem_of_getElem? (i := 651) (by decide +kernel)⟩
theorem lw_p24 : lw_okq (⟨"StrokeCutsModel", "isDot", "(II)Z"⟩, 15) := ⟨⟨by decide +kernel, by decide +kernel⟩, List.mem_of_getElem? (i := 580) (by decide +kernel), List.mem_of_getElem? (i := 658) (by decide +kernel), List.mem_of_getElem? (i := 659) (by decide +kernel)⟩
theorem lw_p25 : lw_okq (⟨"StrokeCutsModel", "numberOf", "(II)I"⟩, 15) := ⟨⟨by decide +kernel, by decide +kernel⟩, List.mem_of_getElem? (i := 580) (by decide +kernel), List.mem_of_getElem? (i := 662) (by decide +kernel), List.mem_of_getElem? (i := 663) (by decide +kernel)⟩
theorem lw_p26 : lw_okq (⟨"StrokeCutsModel", "strokes", "(IIIII)I"⟩, 15) := ⟨⟨by decide +kernel, by decide +kernel⟩, List.mem_of_getElem? (i := 580) (by decide +kernel), List.mem_of_getElem? (i := 690) (by decide +kernel), List.mem_of_getElem? (i := 691) (by decide +kernel)⟩
theorem lw_p27 : lw_okq (⟨"StrokeCutsModel", "pull", "(II)I"⟩, 15) := ⟨⟨by decide +kernel, by decide +kernel⟩, List.mem_of_getElem? (i := 580) (by decide +kernel), List.mem_of_getElem? (i := 708) (by decide +kernel), List.mem_of_getElem? (i := 709) (by decide +kernel)⟩
theorem lw_p28 : lw_okq (⟨"StrokeCutsModel", "isLinked", "(III)Z"⟩, 15) := ⟨⟨by decide +kernel, by decide +kernel⟩, List.mem_of_getElem? (i := 580) (by decide +kernel), List.mem_of_getElem? (i := 716) (by decide +kernel), List.mem_of_getElem? (i := 717) (by decide +kernel)⟩
theorem lw_p29 : lw_okq (⟨"StrokeCutsModel", "over", "(II)I"⟩, 15) := ⟨⟨by decide +kernel, by decide +kernel⟩, List.mem_of_getElem? (i := 580) (by decide +kernel), List.mem_of_getElem? (i := 720) (by decide +kernel), List.mem_of_getElem? (i := 721) (by decide +kernel)⟩
theorem lw_p30 : lw_okq (⟨"StrokeCutsModel", "weight", "(II)I"⟩, 15) := ⟨⟨by decide +kernel, by decide +kernel⟩, List.mem_of_getElem? (i := 580) (by decide +kernel), List.mem_of_getElem? (i := 724) (by decide +kernel), List.mem_of_getElem? (i := 725) (by decide +kernel)⟩
theorem lw_p31 : lw_okq (⟨"StrokeCutsModel", "bestCost", "()I"⟩, 15) := ⟨⟨by decide +kernel, by decide +kernel⟩, List.mem_of_getElem? (i := 580) (by decide +kernel), List.mem_of_getElem? (i := 732) (by decide +kernel), List.mem_of_getElem? (i := 733) (by decide +kernel)⟩
def lw_privs_2 : List (MethodName × Nat) := [(⟨"StrokeCuts$Script", "readDot", "(II)Z"⟩, 7), (⟨"StrokeCuts$Script", "readFigure", "(II)Z"⟩, 7), (⟨"StrokeCuts$Script", "readEnd", "()Z"⟩, 7), (⟨"StrokeCuts", "obeyOrder", "()V"⟩, 7), (⟨"StrokeCuts", "markLine", "(III)V"⟩, 7), (⟨"StrokeCutsModel", "bad", "()I"⟩, 15), (⟨"StrokeCutsModel", "leaves", "()V"⟩, 15), (⟨"StrokeCutsModel", "dots", "()I"⟩, 15), (⟨"StrokeCutsModel", "isDot", "(II)Z"⟩, 15), (⟨"StrokeCutsModel", "numberOf", "(II)I"⟩, 15), (⟨"StrokeCutsModel", "strokes", "(IIIII)I"⟩, 15), (⟨"StrokeCutsModel", "pull", "(II)I"⟩, 15), (⟨"StrokeCutsModel", "isLinked", "(III)Z"⟩, 15), (⟨"StrokeCutsModel", "over", "(II)I"⟩, 15), (⟨"StrokeCutsModel", "weight", "(II)I"⟩, 15), (⟨"StrokeCutsModel", "bestCost", "()I"⟩, 15)]
theorem lw_r2 : ∀ q ∈ lw_privs_2, lw_okq q := List.forall_mem_cons.mpr ⟨lw_p16, List.forall_mem_cons.mpr ⟨lw_p17, List.forall_mem_cons.mpr ⟨lw_p18, List.forall_mem_cons.mpr ⟨lw_p19, List.forall_mem_cons.mpr ⟨lw_p20, List.forall_mem_cons.mpr ⟨lw_p21, List.forall_mem_cons.mpr ⟨lw_p22, List.forall_mem_cons.mpr ⟨lw_p23, List.forall_mem_cons.mpr ⟨lw_p24, List.forall_mem_cons.mpr ⟨lw_p25, List.forall_mem_cons.mpr ⟨lw_p26, List.forall_mem_cons.mpr ⟨lw_p27, List.forall_mem_cons.mpr ⟨lw_p28, List.forall_mem_cons.mpr ⟨lw_p29, List.forall_mem_cons.mpr ⟨lw_p30, List.forall_mem_cons.mpr ⟨lw_p31, fun _ h => absurd h List.not_mem_nil⟩⟩⟩⟩⟩⟩⟩⟩⟩⟩⟩⟩⟩⟩⟩⟩
theorem lw_p32 : lw_okq (⟨"StrokeCutsModel", "holdsMarks", "()V"⟩, 15) := ⟨⟨by decide +kernel, by decide +kernel⟩, List.mem_of_getElem? (i := 580) (by decide +kernel), List.mem_of_getElem? (i := 736) (by decide +kernel), List.mem_of_getElem? (i := 737) (by decide +kernel)⟩
theorem lw_p33 : lw_okq (⟨"StrokeCutsModel", "leastCost", "()I"⟩, 15) := ⟨⟨by decide +kernel, by decide +kernel⟩, List.mem_of_getElem? (i := 580) (by decide +kernel), List.mem_of_getElem? (i := 740) (by decide +kernel), List.mem_of_getElem? (i := 741) (by decide +kernel)⟩
theorem lw_p34 : lw_okq (⟨"StrokeCutsModel", "goesOn", "(III)V"⟩, 15) := ⟨⟨by decide +kernel, by decide +kernel⟩, List.mem_of_getElem? (i := 580) (by decide +kernel), List.mem_of_getElem? (i := 745) (by decide +kernel), List.mem_of_getElem? (i := 746) (by decide +kernel)⟩
theorem lw_p35 : lw_okq (⟨"StrokeCutsModel", "adds", "(III)I"⟩, 15) := ⟨⟨by decide +kernel, by decide +kernel⟩, List.mem_of_getElem? (i := 580) (by decide +kernel), List.mem_of_getElem? (i := 749) (by decide +kernel), List.mem_of_getElem? (i := 750) (by decide +kernel)⟩
theorem lw_p36 : lw_okq (⟨"StrokeCutsModel", "cutTo", "(IIIII)I"⟩, 15) := ⟨⟨by decide +kernel, by decide +kernel⟩, List.mem_of_getElem? (i := 580) (by decide +kernel), List.mem_of_getElem? (i := 753) (by decide +kernel), List.mem_of_getElem? (i := 754) (by decide +kernel)⟩
theorem lw_p37 : lw_okq (⟨"StrokeCutsModel", "sideOf", "(I)J"⟩, 15) := ⟨⟨by decide +kernel, by decide +kernel⟩, List.mem_of_getElem? (i := 580) (by decide +kernel), List.mem_of_getElem? (i := 761) (by decide +kernel), List.mem_of_getElem? (i := 762) (by decide +kernel)⟩
theorem lw_p38 : lw_okq (⟨"StrokeCutsModel", "mayBe", "(III)Z"⟩, 15) := ⟨⟨by decide +kernel, by decide +kernel⟩, List.mem_of_getElem? (i := 580) (by decide +kernel), List.mem_of_getElem? (i := 765) (by decide +kernel), List.mem_of_getElem? (i := 766) (by decide +kernel)⟩
theorem lw_p39 : lw_okq (⟨"StrokeCutsModel", "costWith", "(II)I"⟩, 15) := ⟨⟨by decide +kernel, by decide +kernel⟩, List.mem_of_getElem? (i := 580) (by decide +kernel), List.mem_of_getElem? (i := 769) (by decide +kernel), List.mem_of_getElem? (i := 770) (by decide +kernel)⟩
theorem lw_p40 : lw_okq (⟨"StrokeCutsModel", "mayBoth", "(IIIII)Z"⟩, 15) := ⟨⟨by decide +kernel, by decide +kernel⟩, List.mem_of_getElem? (i := 580) (by decide +kernel), List.mem_of_getElem? (i := 789) (by decide +kernel), List.mem_of_getElem? (i := 790) (by decide +kernel)⟩
theorem lw_p41 : lw_okq (⟨"StrokeCutsModel", "no", "()I"⟩, 15) := ⟨⟨by decide +kernel, by decide +kernel⟩, List.mem_of_getElem? (i := 580) (by decide +kernel), List.mem_of_getElem? (i := 800) (by decide +kernel), List.mem_of_getElem? (i := 801) (by decide +kernel)⟩
theorem lw_p42 : lw_okq (⟨"StrokeCutsModel", "many", "(J)I"⟩, 15) := ⟨⟨by decide +kernel, by decide +kernel⟩, List.mem_of_getElem? (i := 580) (by decide +kernel), List.mem_of_getElem? (i := 808) (by decide +kernel), List.mem_of_getElem? (i := 809) (by decide +kernel)⟩
theorem lw_p43 : lw_okq (⟨"StrokeCutsModel", "laysPieces", "(JZ)V"⟩, 15) := ⟨⟨by decide +kernel, by decide +kernel⟩, List.mem_of_getElem? (i := 580) (by decide +kernel), List.mem_of_getElem? (i := 812) (by decide +kernel), List.mem_of_getElem? (i := 813) (by decide +kernel)⟩
theorem lw_p44 : lw_okq (⟨"StrokeCutsModel", "joins", "(II)Z"⟩, 15) := ⟨⟨by decide +kernel, by decide +kernel⟩, List.mem_of_getElem? (i := 580) (by decide +kernel), List.mem_of_getElem? (i := 816) (by decide +kernel), List.mem_of_getElem? (i := 817) (by decide +kernel)⟩
theorem lw_p45 : lw_okq (⟨"StrokeCutsModel", "pieces", "()I"⟩, 15) := ⟨⟨by decide +kernel, by decide +kernel⟩, List.mem_of_getElem? (i := 580) (by decide +kernel), List.mem_of_getElem? (i := 820) (by decide +kernel), List.mem_of_getElem? (i := 821) (by decide +kernel)⟩
theorem lw_p46 : lw_okq (⟨"StrokeCutsModel", "holes", "(J)I"⟩, 15) := ⟨⟨by decide +kernel, by decide +kernel⟩, List.mem_of_getElem? (i := 580) (by decide +kernel), List.mem_of_getElem? (i := 824) (by decide +kernel), List.mem_of_getElem? (i := 825) (by decide +kernel)⟩
theorem lw_p47 : lw_okq (⟨"StrokeCutsModel", "isBorder", "(I)Z"⟩, 15) := ⟨⟨by decide +kernel, by decide +kernel⟩, List.mem_of_getElem? (i := 580) (by decide +kernel), List.mem_of_getElem? (i := 828) (by decide +kernel), List.mem_of_getElem? (i := 829) (by decide +kernel)⟩
def lw_privs_3 : List (MethodName × Nat) := [(⟨"StrokeCutsModel", "holdsMarks", "()V"⟩, 15), (⟨"StrokeCutsModel", "leastCost", "()I"⟩, 15), (⟨"StrokeCutsModel", "goesOn", "(III)V"⟩, 15), (⟨"StrokeCutsModel", "adds", "(III)I"⟩, 15), (⟨"StrokeCutsModel", "cutTo", "(IIIII)I"⟩, 15), (⟨"StrokeCutsModel", "sideOf", "(I)J"⟩, 15), (⟨"StrokeCutsModel", "mayBe", "(III)Z"⟩, 15), (⟨"StrokeCutsModel", "costWith", "(II)I"⟩, 15), (⟨"StrokeCutsModel", "mayBoth", "(IIIII)Z"⟩, 15), (⟨"StrokeCutsModel", "no", "()I"⟩, 15), (⟨"StrokeCutsModel", "many", "(J)I"⟩, 15), (⟨"StrokeCutsModel", "laysPieces", "(JZ)V"⟩, 15), (⟨"StrokeCutsModel", "joins", "(II)Z"⟩, 15), (⟨"StrokeCutsModel", "pieces", "()I"⟩, 15), (⟨"StrokeCutsModel", "holes", "(J)I"⟩, 15), (⟨"StrokeCutsModel", "isBorder", "(I)Z"⟩, 15)]
theorem lw_r3 : ∀ q ∈ lw_privs_3, lw_okq q := List.forall_mem_cons.mpr ⟨lw_p32, List.forall_mem_cons.mpr ⟨lw_p33, List.forall_mem_cons.mpr ⟨lw_p34, List.forall_mem_cons.mpr ⟨lw_p35, List.forall_mem_cons.mpr ⟨lw_p36, List.forall_mem_cons.mpr ⟨lw_p37, List.forall_mem_cons.mpr ⟨lw_p38, List.forall_mem_cons.mpr ⟨lw_p39, List.forall_mem_cons.mpr ⟨lw_p40, List.forall_mem_cons.mpr ⟨lw_p41, List.forall_mem_cons.mpr ⟨lw_p42, List.forall_mem_cons.mpr ⟨lw_p43, List.forall_mem_cons.mpr ⟨lw_p44, List.forall_mem_cons.mpr ⟨lw_p45, List.forall_mem_cons.mpr ⟨lw_p46, List.forall_mem_cons.mpr ⟨lw_p47, fun _ h => absurd h List.not_mem_nil⟩⟩⟩⟩⟩⟩⟩⟩⟩⟩⟩⟩⟩⟩⟩⟩
theorem lw_p48 : lw_okq (⟨"StrokeCutsModel", "edges", "(J)I"⟩, 15) := ⟨⟨by decide +kernel, by decide +kernel⟩, List.mem_of_getElem? (i := 580) (by decide +kernel), List.mem_of_getElem? (i := 832) (by decide +kernel), List.mem_of_getElem? (i := 833) (by decide +kernel)⟩
theorem lw_p49 : lw_okq (⟨"StrokeCutsModel", "isOpenAt", "(JII)I"⟩, 15) := ⟨⟨by decide +kernel, by decide +kernel⟩, List.mem_of_getElem? (i := 580) (by decide +kernel), List.mem_of_getElem? (i := 836) (by decide +kernel), List.mem_of_getElem? (i := 837) (by decide +kernel)⟩
theorem lw_p50 : lw_okq (⟨"StrokeCutsModel", "bound", "(JI)I"⟩, 15) := ⟨⟨by decide +kernel, by decide +kernel⟩, List.mem_of_getElem? (i := 580) (by decide +kernel), List.mem_of_getElem? (i := 840) (by decide +kernel), List.mem_of_getElem? (i := 841) (by decide +kernel)⟩
theorem lw_p51 : lw_okq (⟨"StrokeCutsModel", "learnsAll", "(I)I"⟩, 15) := ⟨⟨by decide +kernel, by decide +kernel⟩, List.mem_of_getElem? (i := 580) (by decide +kernel), List.mem_of_getElem? (i := 848) (by decide +kernel), List.mem_of_getElem? (i := 849) (by decide +kernel)⟩
theorem lw_p52 : lw_okq (⟨"StrokeCutsModel", "learnsOnce", "()Z"⟩, 15) := ⟨⟨by decide +kernel, by decide +kernel⟩, List.mem_of_getElem? (i := 580) (by decide +kernel), List.mem_of_getElem? (i := 852) (by decide +kernel), List.mem_of_getElem? (i := 853) (by decide +kernel)⟩
theorem lw_p53 : lw_okq (⟨"StrokeCutsModel", "full", "()I"⟩, 15) := ⟨⟨by decide +kernel, by decide +kernel⟩, List.mem_of_getElem? (i := 580) (by decide +kernel), List.mem_of_getElem? (i := 868) (by decide +kernel), List.mem_of_getElem? (i := 869) (by decide +kernel)⟩
theorem lw_p54 : lw_okq (⟨"StrokeCutsModel", "goesThrough", "(Z)I"⟩, 15) := ⟨⟨by decide +kernel, by decide +kernel⟩, List.mem_of_getElem? (i := 580) (by decide +kernel), List.mem_of_getElem? (i := 880) (by decide +kernel), List.mem_of_getElem? (i := 881) (by decide +kernel)⟩
theorem lw_p55 : lw_okq (⟨"StrokeCutsModel", "sign", "()I"⟩, 15) := ⟨⟨by decide +kernel, by decide +kernel⟩, List.mem_of_getElem? (i := 580) (by decide +kernel), List.mem_of_getElem? (i := 884) (by decide +kernel), List.mem_of_getElem? (i := 885) (by decide +kernel)⟩
theorem lw_p56 : lw_okq (⟨"StrokeCutsModel", "readsRest", "(I)Z"⟩, 15) := ⟨⟨by decide +kernel, by decide +kernel⟩, List.mem_of_getElem? (i := 580) (by decide +kernel), List.mem_of_getElem? (i := 891) (by decide +kernel), List.mem_of_getElem? (i := 892) (by decide +kernel)⟩
theorem lw_p57 : lw_okq (⟨"StrokeCutsModel", "reads", "(II)Z"⟩, 15) := ⟨⟨by decide +kernel, by decide +kernel⟩, List.mem_of_getElem? (i := 580) (by decide +kernel), List.mem_of_getElem? (i := 895) (by decide +kernel), List.mem_of_getElem? (i := 896) (by decide +kernel)⟩
theorem lw_p58 : lw_okq (⟨"StrokeCutsModel", "readsDot", "()Z"⟩, 15) := ⟨⟨by decide +kernel, by decide +kernel⟩, List.mem_of_getElem? (i := 580) (by decide +kernel), List.mem_of_getElem? (i := 899) (by decide +kernel), List.mem_of_getElem? (i := 900) (by decide +kernel)⟩
theorem lw_p59 : lw_okq (⟨"StrokeCutsModel", "doesOrder", "(I)V"⟩, 15) := ⟨⟨by decide +kernel, by decide +kernel⟩, List.mem_of_getElem? (i := 580) (by decide +kernel), List.mem_of_getElem? (i := 903) (by decide +kernel), List.mem_of_getElem? (i := 904) (by decide +kernel)⟩
theorem lw_p60 : lw_okq (⟨"StrokeCutsModel", "tells", "(I)I"⟩, 15) := ⟨⟨by decide +kernel, by decide +kernel⟩, List.mem_of_getElem? (i := 580) (by decide +kernel), List.mem_of_getElem? (i := 915) (by decide +kernel), List.mem_of_getElem? (i := 916) (by decide +kernel)⟩
def lw_privs_4 : List (MethodName × Nat) := [(⟨"StrokeCutsModel", "edges", "(J)I"⟩, 15), (⟨"StrokeCutsModel", "isOpenAt", "(JII)I"⟩, 15), (⟨"StrokeCutsModel", "bound", "(JI)I"⟩, 15), (⟨"StrokeCutsModel", "learnsAll", "(I)I"⟩, 15), (⟨"StrokeCutsModel", "learnsOnce", "()Z"⟩, 15), (⟨"StrokeCutsModel", "full", "()I"⟩, 15), (⟨"StrokeCutsModel", "goesThrough", "(Z)I"⟩, 15), (⟨"StrokeCutsModel", "sign", "()I"⟩, 15), (⟨"StrokeCutsModel", "readsRest", "(I)Z"⟩, 15), (⟨"StrokeCutsModel", "reads", "(II)Z"⟩, 15), (⟨"StrokeCutsModel", "readsDot", "()Z"⟩, 15), (⟨"StrokeCutsModel", "doesOrder", "(I)V"⟩, 15), (⟨"StrokeCutsModel", "tells", "(I)I"⟩, 15)]
theorem lw_r4 : ∀ q ∈ lw_privs_4, lw_okq q := List.forall_mem_cons.mpr ⟨lw_p48, List.forall_mem_cons.mpr ⟨lw_p49, List.forall_mem_cons.mpr ⟨lw_p50, List.forall_mem_cons.mpr ⟨lw_p51, List.forall_mem_cons.mpr ⟨lw_p52, List.forall_mem_cons.mpr ⟨lw_p53, List.forall_mem_cons.mpr ⟨lw_p54, List.forall_mem_cons.mpr ⟨lw_p55, List.forall_mem_cons.mpr ⟨lw_p56, List.forall_mem_cons.mpr ⟨lw_p57, List.forall_mem_cons.mpr ⟨lw_p58, List.forall_mem_cons.mpr ⟨lw_p59, List.forall_mem_cons.mpr ⟨lw_p60, fun _ h => absurd h List.not_mem_nil⟩⟩⟩⟩⟩⟩⟩⟩⟩⟩⟩⟩⟩
def lw_privs : List (MethodName × Nat) := lw_privs_1 ++ (lw_privs_2 ++ (lw_privs_3 ++ (lw_privs_4)))
def lw_tbl : List Cond := k2_sels lw_privs ++ tables_1
theorem lw_privs_ok : ∀ q ∈ lw_privs, lw_okq q := by
  show ∀ q ∈ lw_privs_1 ++ (lw_privs_2 ++ (lw_privs_3 ++ (lw_privs_4))), lw_okq q
  exact List.forall_mem_append.mpr ⟨lw_r1, List.forall_mem_append.mpr ⟨lw_r2, List.forall_mem_append.mpr ⟨lw_r3, lw_r4⟩⟩⟩
end
section
/-! ===== BEGIN words of one list among another's, by their places ===== -/
theorem goodIn_r {big : List Cond} (ws : List Cond) (ps : List Nat) (hp : ws = ps.filterMap (fun i => big[i]?)) (h : ws.all goodWord = true) : GoodIn big ws := by
  intro w hw
  have h1 := List.all_eq_true.mp h w hw
  rw [hp] at hw
  obtain ⟨i, -, hi⟩ := List.mem_filterMap.mp hw
  have hm : w ∈ big := by first | exact List.mem_of_getElem? hi | exact List.getElem?_mem hi
  exact ⟨hm, good_of_word h1⟩
theorem goodIn_app {big a b : List Cond} (ha : GoodIn big a) (hb : GoodIn big b) : GoodIn big (a ++ b) := fun w h => (List.mem_append.mp h).elim (ha w) (hb w)
theorem goodIn_ca {big a b : List Cond} {c : Cond} (ha : GoodIn big (c :: a)) (hb : GoodIn big b) : GoodIn big (c :: (a ++ b)) := fun w h => (List.mem_cons.mp h).elim (fun e => ha w (List.mem_cons.mpr (Or.inl e))) (fun h => (List.mem_append.mp h).elim (fun h => ha w (List.mem_cons.mpr (Or.inr h))) (hb w))
theorem goodIn_sub {big ws : List Cond} (hm : ∀ w ∈ ws, w ∈ big) (h : ws.all goodWord = true) : GoodIn big ws := fun w hw => ⟨hm w hw, good_of_word (List.all_eq_true.mp h w hw)⟩
/-! ===== END ===== -/

/-! ===== BEGIN printed: names, fields, word lists, decode rows ===== -/
def RX0 : String := "StrokeCuts$History"
def TX0 : u_T := fun k => match k with
  | 0 => ("StrokeCuts$History", "kept", "[LStrokeCuts$Scene;", true)
  | 1 => ("StrokeCuts$History", "next", "I", false)
  | _ => ("StrokeCuts$History", "count", "I", false)
def tyX0 : Nat → FieldType := fun k => match k with
  | 0 => .array (.object "StrokeCuts$Scene")
  | 1 => .int
  | _ => .int
abbrev wsX00 : List Cond := u_ws RX0 TX0 3
theorem nmX0 : ∀ a, a < 3 → ∀ b, b < 3 → a ≠ b → (TX0 a).2.1 ≠ (TX0 b).2.1 := by decide +kernel
theorem tyX0_ok : ∀ k, k < 3 → parseFieldDescriptor (TX0 k).2.2.1 = some (tyX0 k) := by decide +kernel
abbrev cX0_init : ByteArray := prog_2_method_1_code
def yX0_init : MethodName := ⟨RX0, "<init>", "()V"⟩
abbrev cX0_remember : ByteArray := prog_2_method_2_code
def yX0_remember : MethodName := ⟨RX0, "remember", "(LStrokeCuts$Scene;)V"⟩
abbrev cX0_giveBack : ByteArray := prog_2_method_3_code
def yX0_giveBack : MethodName := ⟨RX0, "giveBack", "(LStrokeCuts$Scene;)V"⟩
def RX1 : String := "StrokeCuts$Network"
def TX1 : u_T := fun k => match k with
  | 0 => ("StrokeCuts$Network", "dots", "I", false)
  | 1 => ("StrokeCuts$Network", "fromFigure", "[I", true)
  | 2 => ("StrokeCuts$Network", "toGround", "[I", true)
  | 3 => ("StrokeCuts$Network", "neighbour", "[I", true)
  | 4 => ("StrokeCuts$Network", "room", "[I", true)
  | 5 => ("StrokeCuts$Network", "distance", "[I", true)
  | 6 => ("StrokeCuts$Network", "queue", "[I", true)
  | _ => ("StrokeCuts$Network", "queued", "I", false)
def tyX1 : Nat → FieldType := fun k => match k with
  | 0 => .int
  | 1 => .array .int
  | 2 => .array .int
  | 3 => .array .int
  | 4 => .array .int
  | 5 => .array .int
  | 6 => .array .int
  | _ => .int
abbrev wsX10 : List Cond := u_ws RX1 TX1 8
theorem nmX1 : ∀ a, a < 8 → ∀ b, b < 8 → a ≠ b → (TX1 a).2.1 ≠ (TX1 b).2.1 := by decide +kernel
theorem tyX1_ok : ∀ k, k < 8 → parseFieldDescriptor (TX1 k).2.2.1 = some (tyX1 k) := by decide +kernel
abbrev cX1_init : ByteArray := prog_3_method_1_code
def yX1_init : MethodName := ⟨RX1, "<init>", "()V"⟩
abbrev cX1_solve : ByteArray := prog_3_method_2_code
def yX1_solve : MethodName := ⟨RX1, "solve", "(LStrokeCuts$Scene;)I"⟩
abbrev cX1_load : ByteArray := prog_3_method_3_code
def yX1_load : MethodName := ⟨RX1, "load", "(LStrokeCuts$Scene;)V"⟩
abbrev cX1_loadPulls : ByteArray := prog_3_method_4_code
def yX1_loadPulls : MethodName := ⟨RX1, "loadPulls", "(LStrokeCuts$Scene;II)V"⟩
abbrev cX1_join : ByteArray := prog_3_method_5_code
def yX1_join : MethodName := ⟨RX1, "join", "(IIII)V"⟩
abbrev cX1_reverse : ByteArray := prog_3_method_6_code
def yX1_reverse : MethodName := ⟨RX1, "reverse", "(I)I"⟩
abbrev cX1_fill : ByteArray := prog_3_method_7_code
def yX1_fill : MethodName := ⟨RX1, "fill", "()I"⟩
abbrev cX1_measureDistances : ByteArray := prog_3_method_8_code
def yX1_measureDistances : MethodName := ⟨RX1, "measureDistances", "()V"⟩
abbrev cX1_enqueue : ByteArray := prog_3_method_9_code
def yX1_enqueue : MethodName := ⟨RX1, "enqueue", "(I)V"⟩
abbrev cX1_send : ByteArray := prog_3_method_10_code
def yX1_send : MethodName := ⟨RX1, "send", "(III)I"⟩
abbrev cX1_isNext : ByteArray := prog_3_method_11_code
def yX1_isNext : MethodName := ⟨RX1, "isNext", "(II)Z"⟩
abbrev cX1_leastSet : ByteArray := prog_3_method_12_code
def yX1_leastSet : MethodName := ⟨RX1, "leastSet", "()J"⟩
abbrev cX1_greatestSet : ByteArray := prog_3_method_13_code
def yX1_greatestSet : MethodName := ⟨RX1, "greatestSet", "()J"⟩
abbrev cX1_spread : ByteArray := prog_3_method_14_code
def yX1_spread : MethodName := ⟨RX1, "spread", "(J)J"⟩
abbrev cX1_alwaysParts : ByteArray := prog_3_method_15_code
def yX1_alwaysParts : MethodName := ⟨RX1, "alwaysParts", "(II)Z"⟩
abbrev cX1_mayPart : ByteArray := prog_3_method_16_code
def yX1_mayPart : MethodName := ⟨RX1, "mayPart", "(II)Z"⟩
def RX2 : String := "StrokeCuts$Scene"
def TX2 : u_T := fun k => match k with
  | 0 => ("StrokeCuts$Scene", "width", "I", false)
  | 1 => ("StrokeCuts$Scene", "height", "I", false)
  | 2 => ("StrokeCuts$Scene", "settings", "[I", true)
  | 3 => ("StrokeCuts$Scene", "shades", "[I", true)
  | _ => ("StrokeCuts$Scene", "marks", "[I", true)
def tyX2 : Nat → FieldType := fun k => match k with
  | 0 => .int
  | 1 => .int
  | 2 => .array .int
  | 3 => .array .int
  | _ => .array .int
abbrev wsX20 : List Cond := u_ws RX2 TX2 5
theorem nmX2 : ∀ a, a < 5 → ∀ b, b < 5 → a ≠ b → (TX2 a).2.1 ≠ (TX2 b).2.1 := by decide +kernel
theorem tyX2_ok : ∀ k, k < 5 → parseFieldDescriptor (TX2 k).2.2.1 = some (tyX2 k) := by decide +kernel
abbrev cX2_init : ByteArray := prog_4_method_1_code
def yX2_init : MethodName := ⟨RX2, "<init>", "()V"⟩
abbrev cX2_copyFrom : ByteArray := prog_4_method_2_code
def yX2_copyFrom : MethodName := ⟨RX2, "copyFrom", "(LStrokeCuts$Scene;)V"⟩
abbrev cX2_startBlank : ByteArray := prog_4_method_3_code
def yX2_startBlank : MethodName := ⟨RX2, "startBlank", "(II)V"⟩
abbrev cX2_dots : ByteArray := prog_4_method_4_code
def yX2_dots : MethodName := ⟨RX2, "dots", "()I"⟩
abbrev cX2_allDots : ByteArray := prog_4_method_5_code
def yX2_allDots : MethodName := ⟨RX2, "allDots", "()J"⟩
abbrev cX2_hasDot : ByteArray := prog_4_method_6_code
def yX2_hasDot : MethodName := ⟨RX2, "hasDot", "(II)Z"⟩
abbrev cX2_numberOf : ByteArray := prog_4_method_7_code
def yX2_numberOf : MethodName := ⟨RX2, "numberOf", "(II)I"⟩
abbrev cX2_linkedTo : ByteArray := prog_4_method_8_code
def yX2_linkedTo : MethodName := ⟨RX2, "linkedTo", "(III)I"⟩
abbrev cX2_weightOf : ByteArray := prog_4_method_9_code
def yX2_weightOf : MethodName := ⟨RX2, "weightOf", "(III)I"⟩
abbrev cX2_pullFrom : ByteArray := prog_4_method_10_code
def yX2_pullFrom : MethodName := ⟨RX2, "pullFrom", "(II)I"⟩
abbrev cX2_shadeAround : ByteArray := prog_4_method_11_code
def yX2_shadeAround : MethodName := ⟨RX2, "shadeAround", "(IIII)I"⟩
abbrev cX2_lineOf : ByteArray := prog_4_method_12_code
def yX2_lineOf : MethodName := ⟨RX2, "lineOf", "(IIII)J"⟩
abbrev cX2_markAll : ByteArray := prog_4_method_13_code
def yX2_markAll : MethodName := ⟨RX2, "markAll", "(JI)I"⟩
abbrev cX2_markRest : ByteArray := prog_4_method_14_code
def yX2_markRest : MethodName := ⟨RX2, "markRest", "(J)I"⟩
abbrev cX2_swapSides : ByteArray := prog_4_method_15_code
def yX2_swapSides : MethodName := ⟨RX2, "swapSides", "()I"⟩
abbrev cX2_learnTones : ByteArray := prog_4_method_16_code
def yX2_learnTones : MethodName := ⟨RX2, "learnTones", "(J)Z"⟩
abbrev cX2_learnTone : ByteArray := prog_4_method_17_code
def yX2_learnTone : MethodName := ⟨RX2, "learnTone", "(IJ)Z"⟩
abbrev cX2_isCutOut : ByteArray := prog_4_method_18_code
def yX2_isCutOut : MethodName := ⟨RX2, "isCutOut", "(J)Z"⟩
abbrev cX2_costOf : ByteArray := prog_4_method_19_code
def yX2_costOf : MethodName := ⟨RX2, "costOf", "(J)I"⟩
abbrev cX2_linkCosts : ByteArray := prog_4_method_20_code
def yX2_linkCosts : MethodName := ⟨RX2, "linkCosts", "(JII)I"⟩
abbrev cX2_column : ByteArray := prog_4_method_21_code
def yX2_column : MethodName := ⟨RX2, "column", "(I)J"⟩
abbrev cX2_row : ByteArray := prog_4_method_22_code
def yX2_row : MethodName := ⟨RX2, "row", "(I)J"⟩
abbrev cX2_border : ByteArray := prog_4_method_23_code
def yX2_border : MethodName := ⟨RX2, "border", "()J"⟩
abbrev cX2_pieces : ByteArray := prog_4_method_24_code
def yX2_pieces : MethodName := ⟨RX2, "pieces", "(J)I"⟩
abbrev cX2_holes : ByteArray := prog_4_method_25_code
def yX2_holes : MethodName := ⟨RX2, "holes", "(J)I"⟩
abbrev cX2_countPieces : ByteArray := prog_4_method_26_code
def yX2_countPieces : MethodName := ⟨RX2, "countPieces", "(JJ)I"⟩
abbrev cX2_pieceOf : ByteArray := prog_4_method_27_code
def yX2_pieceOf : MethodName := ⟨RX2, "pieceOf", "(JJ)J"⟩
abbrev cX2_edges : ByteArray := prog_4_method_28_code
def yX2_edges : MethodName := ⟨RX2, "edges", "(J)I"⟩
abbrev cX2_firstColumn : ByteArray := prog_4_method_29_code
def yX2_firstColumn : MethodName := ⟨RX2, "firstColumn", "(J)I"⟩
abbrev cX2_firstRow : ByteArray := prog_4_method_30_code
def yX2_firstRow : MethodName := ⟨RX2, "firstRow", "(J)I"⟩
abbrev cX2_lastColumn : ByteArray := prog_4_method_31_code
def yX2_lastColumn : MethodName := ⟨RX2, "lastColumn", "(J)I"⟩
abbrev cX2_lastRow : ByteArray := prog_4_method_32_code
def yX2_lastRow : MethodName := ⟨RX2, "lastRow", "(J)I"⟩
def RX3 : String := "StrokeCuts$Script"
def TX3 : u_T := fun k => match k with
  | 0 => ("StrokeCuts$Script", "bytes", "[I", true)
  | 1 => ("StrokeCuts$Script", "numbers", "[I", true)
  | 2 => ("StrokeCuts$Script", "length", "I", false)
  | 3 => ("StrokeCuts$Script", "place", "I", false)
  | 4 => ("StrokeCuts$Script", "orders", "I", false)
  | 5 => ("StrokeCuts$Script", "kind", "I", false)
  | _ => ("StrokeCuts$Script", "numberCount", "I", false)
def tyX3 : Nat → FieldType := fun k => match k with
  | 0 => .array .int
  | 1 => .array .int
  | 2 => .int
  | 3 => .int
  | 4 => .int
  | 5 => .int
  | _ => .int
abbrev wsX30 : List Cond := u_ws RX3 TX3 7
theorem nmX3 : ∀ a, a < 7 → ∀ b, b < 7 → a ≠ b → (TX3 a).2.1 ≠ (TX3 b).2.1 := by decide +kernel
theorem tyX3_ok : ∀ k, k < 7 → parseFieldDescriptor (TX3 k).2.2.1 = some (tyX3 k) := by decide +kernel
abbrev cX3_init : ByteArray := prog_5_method_1_code
def yX3_init : MethodName := ⟨RX3, "<init>", "()V"⟩
abbrev cX3_takeByte : ByteArray := prog_5_method_2_code
def yX3_takeByte : MethodName := ⟨RX3, "takeByte", "(I)Z"⟩
abbrev cX3_rewind : ByteArray := prog_5_method_3_code
def yX3_rewind : MethodName := ⟨RX3, "rewind", "()V"⟩
abbrev cX3_number : ByteArray := prog_5_method_4_code
def yX3_number : MethodName := ⟨RX3, "number", "(I)I"⟩
abbrev cX3_findFault : ByteArray := prog_5_method_5_code
def yX3_findFault : MethodName := ⟨RX3, "findFault", "(II)I"⟩
abbrev cX3_readOrder : ByteArray := prog_5_method_6_code
def yX3_readOrder : MethodName := ⟨RX3, "readOrder", "(II)Z"⟩
abbrev cX3_readDot : ByteArray := prog_5_method_7_code
def yX3_readDot : MethodName := ⟨RX3, "readDot", "(II)Z"⟩
abbrev cX3_readFigure : ByteArray := prog_5_method_8_code
def yX3_readFigure : MethodName := ⟨RX3, "readFigure", "(II)Z"⟩
abbrev cX3_readEnd : ByteArray := prog_5_method_9_code
def yX3_readEnd : MethodName := ⟨RX3, "readEnd", "()Z"⟩
abbrev cX3_peekSign : ByteArray := prog_5_method_10_code
def yX3_peekSign : MethodName := ⟨RX3, "peekSign", "()I"⟩
def RX4 : String := "StrokeCuts"
def TX4 : u_T := fun k => match k with
  | 0 => ("StrokeCuts", "scene", "LStrokeCuts$Scene;", true)
  | 1 => ("StrokeCuts", "past", "LStrokeCuts$History;", true)
  | 2 => ("StrokeCuts", "network", "LStrokeCuts$Network;", true)
  | 3 => ("StrokeCuts", "script", "LStrokeCuts$Script;", true)
  | 4 => ("StrokeCuts", "badCalls", "I", false)
  | 5 => ("StrokeCuts", "noCalls", "I", false)
  | _ => ("StrokeCuts", "fullCalls", "I", false)
def tyX4 : Nat → FieldType := fun k => match k with
  | 0 => .object "StrokeCuts$Scene"
  | 1 => .object "StrokeCuts$History"
  | 2 => .object "StrokeCuts$Network"
  | 3 => .object "StrokeCuts$Script"
  | 4 => .int
  | 5 => .int
  | _ => .int
abbrev wsX40 : List Cond := u_ws RX4 TX4 7
theorem nmX4 : ∀ a, a < 7 → ∀ b, b < 7 → a ≠ b → (TX4 a).2.1 ≠ (TX4 b).2.1 := by decide +kernel
theorem tyX4_ok : ∀ k, k < 7 → parseFieldDescriptor (TX4 k).2.2.1 = some (tyX4 k) := by decide +kernel
abbrev cX4_init : ByteArray := prog_1_method_1_code
def yX4_init : MethodName := ⟨RX4, "<init>", "()V"⟩
abbrev cX4_picture : ByteArray := prog_1_method_2_code
def yX4_picture : MethodName := ⟨RX4, "picture", "(II)I"⟩
abbrev cX4_shade : ByteArray := prog_1_method_3_code
def yX4_shade : MethodName := ⟨RX4, "shade", "(III)I"⟩
abbrev cX4_draws : ByteArray := prog_1_method_4_code
def yX4_draws : MethodName := ⟨RX4, "draws", "(II)I"⟩
abbrev cX4_blot : ByteArray := prog_1_method_5_code
def yX4_blot : MethodName := ⟨RX4, "blot", "(IIII)I"⟩
abbrev cX4_mark : ByteArray := prog_1_method_6_code
def yX4_mark : MethodName := ⟨RX4, "mark", "(III)I"⟩
abbrev cX4_stroke : ByteArray := prog_1_method_7_code
def yX4_stroke : MethodName := ⟨RX4, "stroke", "(IIIII)I"⟩
abbrev cX4_sets : ByteArray := prog_1_method_8_code
def yX4_sets : MethodName := ⟨RX4, "sets", "(II)I"⟩
abbrev cX4_dot : ByteArray := prog_1_method_9_code
def yX4_dot : MethodName := ⟨RX4, "dot", "(III)I"⟩
abbrev cX4_link : ByteArray := prog_1_method_10_code
def yX4_link : MethodName := ⟨RX4, "link", "(III)I"⟩
abbrev cX4_cost : ByteArray := prog_1_method_11_code
def yX4_cost : MethodName := ⟨RX4, "cost", "()I"⟩
abbrev cX4_side : ByteArray := prog_1_method_12_code
def yX4_side : MethodName := ⟨RX4, "side", "(I)J"⟩
abbrev cX4_sure : ByteArray := prog_1_method_13_code
def yX4_sure : MethodName := ⟨RX4, "sure", "(II)I"⟩
abbrev cX4_were : ByteArray := prog_1_method_14_code
def yX4_were : MethodName := ⟨RX4, "were", "(III)I"⟩
abbrev cX4_strain : ByteArray := prog_1_method_15_code
def yX4_strain : MethodName := ⟨RX4, "strain", "(IIII)I"⟩
abbrev cX4_tight : ByteArray := prog_1_method_16_code
def yX4_tight : MethodName := ⟨RX4, "tight", "(III)I"⟩
abbrev cX4_costs : ByteArray := prog_1_method_17_code
def yX4_costs : MethodName := ⟨RX4, "costs", "(J)I"⟩
abbrev cX4_shape : ByteArray := prog_1_method_18_code
def yX4_shape : MethodName := ⟨RX4, "shape", "(I)I"⟩
abbrev cX4_learns : ByteArray := prog_1_method_19_code
def yX4_learns : MethodName := ⟨RX4, "learns", "(I)I"⟩
abbrev cX4_keeps : ByteArray := prog_1_method_20_code
def yX4_keeps : MethodName := ⟨RX4, "keeps", "()I"⟩
abbrev cX4_turns : ByteArray := prog_1_method_21_code
def yX4_turns : MethodName := ⟨RX4, "turns", "()I"⟩
abbrev cX4_type : ByteArray := prog_1_method_22_code
def yX4_type : MethodName := ⟨RX4, "type", "(I)I"⟩
abbrev cX4_clear : ByteArray := prog_1_method_23_code
def yX4_clear : MethodName := ⟨RX4, "clear", "()I"⟩
abbrev cX4_does : ByteArray := prog_1_method_24_code
def yX4_does : MethodName := ⟨RX4, "does", "()I"⟩
abbrev cX4_back : ByteArray := prog_1_method_25_code
def yX4_back : MethodName := ⟨RX4, "back", "()I"⟩
abbrev cX4_told : ByteArray := prog_1_method_26_code
def yX4_told : MethodName := ⟨RX4, "told", "(I)I"⟩
abbrev cX4_digest : ByteArray := prog_1_method_27_code
def yX4_digest : MethodName := ⟨RX4, "digest", "()J"⟩
abbrev cX4_refuseBad : ByteArray := prog_1_method_28_code
def yX4_refuseBad : MethodName := ⟨RX4, "refuseBad", "()I"⟩
abbrev cX4_isLinkPlace : ByteArray := prog_1_method_29_code
def yX4_isLinkPlace : MethodName := ⟨RX4, "isLinkPlace", "(III)Z"⟩
abbrev cX4_learnRounds : ByteArray := prog_1_method_30_code
def yX4_learnRounds : MethodName := ⟨RX4, "learnRounds", "(I)I"⟩
abbrev cX4_obeyOrder : ByteArray := prog_1_method_31_code
def yX4_obeyOrder : MethodName := ⟨RX4, "obeyOrder", "()V"⟩
abbrev cX4_markLine : ByteArray := prog_1_method_32_code
def yX4_markLine : MethodName := ⟨RX4, "markLine", "(III)V"⟩
abbrev cX4_isWithin : ByteArray := prog_1_method_33_code
def yX4_isWithin : MethodName := ⟨RX4, "isWithin", "(III)Z"⟩
abbrev cX4_isSettingOf : ByteArray := prog_1_method_34_code
def yX4_isSettingOf : MethodName := ⟨RX4, "isSettingOf", "(II)Z"⟩
abbrev cX4_has : ByteArray := prog_1_method_35_code
def yX4_has : MethodName := ⟨RX4, "has", "(JI)Z"⟩
def RX5 : String := "StrokeCutsModel"
def TX5 : u_T := fun k => match k with
  | 0 => ("StrokeCutsModel", "st", "[I", true)
  | 1 => ("StrokeCutsModel", "past", "[I", true)
  | 2 => ("StrokeCutsModel", "states", "I", false)
  | 3 => ("StrokeCutsModel", "refused", "[I", true)
  | 4 => ("StrokeCutsModel", "text", "[I", true)
  | 5 => ("StrokeCutsModel", "letters", "I", false)
  | 6 => ("StrokeCutsModel", "strained", "I", false)
  | 7 => ("StrokeCutsModel", "strainedTo", "I", false)
  | 8 => ("StrokeCutsModel", "held", "[I", true)
  | 9 => ("StrokeCutsModel", "least", "[I", true)
  | 10 => ("StrokeCutsModel", "next", "[I", true)
  | 11 => ("StrokeCutsModel", "piece", "[I", true)
  | 12 => ("StrokeCutsModel", "at", "I", false)
  | 13 => ("StrokeCutsModel", "figures", "[I", true)
  | _ => ("StrokeCutsModel", "figuresMany", "I", false)
def tyX5 : Nat → FieldType := fun k => match k with
  | 0 => .array .int
  | 1 => .array .int
  | 2 => .int
  | 3 => .array .int
  | 4 => .array .int
  | 5 => .int
  | 6 => .int
  | 7 => .int
  | 8 => .array .int
  | 9 => .array .int
  | 10 => .array .int
  | 11 => .array .int
  | 12 => .int
  | 13 => .array .int
  | _ => .int
abbrev wsX50 : List Cond := u_ws RX5 TX5 15
theorem nmX5 : ∀ a, a < 15 → ∀ b, b < 15 → a ≠ b → (TX5 a).2.1 ≠ (TX5 b).2.1 := by decide +kernel
theorem tyX5_ok : ∀ k, k < 15 → parseFieldDescriptor (TX5 k).2.2.1 = some (tyX5 k) := by decide +kernel
abbrev cX5_init : ByteArray := prog_7_method_1_code
def yX5_init : MethodName := ⟨RX5, "<init>", "()V"⟩
abbrev cX5_in : ByteArray := prog_7_method_2_code
def yX5_in : MethodName := ⟨RX5, "in", "(III)Z"⟩
abbrev cX5_far : ByteArray := prog_7_method_3_code
def yX5_far : MethodName := ⟨RX5, "far", "(II)I"⟩
abbrev cX5_bad : ByteArray := prog_7_method_4_code
def yX5_bad : MethodName := ⟨RX5, "bad", "()I"⟩
abbrev cX5_no : ByteArray := prog_7_method_5_code
def yX5_no : MethodName := ⟨RX5, "no", "()I"⟩
abbrev cX5_full : ByteArray := prog_7_method_6_code
def yX5_full : MethodName := ⟨RX5, "full", "()I"⟩
abbrev cX5_dots : ByteArray := prog_7_method_7_code
def yX5_dots : MethodName := ⟨RX5, "dots", "()I"⟩
abbrev cX5_isDot : ByteArray := prog_7_method_8_code
def yX5_isDot : MethodName := ⟨RX5, "isDot", "(II)Z"⟩
abbrev cX5_numberOf : ByteArray := prog_7_method_9_code
def yX5_numberOf : MethodName := ⟨RX5, "numberOf", "(II)I"⟩
abbrev cX5_bring : ByteArray := prog_7_method_10_code
def yX5_bring : MethodName := ⟨RX5, "bring", "([II[III)V"⟩
abbrev cX5_leaves : ByteArray := prog_7_method_11_code
def yX5_leaves : MethodName := ⟨RX5, "leaves", "()V"⟩
abbrev cX5_over : ByteArray := prog_7_method_12_code
def yX5_over : MethodName := ⟨RX5, "over", "(II)I"⟩
abbrev cX5_weight : ByteArray := prog_7_method_13_code
def yX5_weight : MethodName := ⟨RX5, "weight", "(II)I"⟩
abbrev cX5_pull : ByteArray := prog_7_method_14_code
def yX5_pull : MethodName := ⟨RX5, "pull", "(II)I"⟩
abbrev cX5_holdsMarks : ByteArray := prog_7_method_15_code
def yX5_holdsMarks : MethodName := ⟨RX5, "holdsMarks", "()V"⟩
abbrev cX5_cutTo : ByteArray := prog_7_method_16_code
def yX5_cutTo : MethodName := ⟨RX5, "cutTo", "(IIIII)I"⟩
abbrev cX5_adds : ByteArray := prog_7_method_17_code
def yX5_adds : MethodName := ⟨RX5, "adds", "(III)I"⟩
abbrev cX5_leastCost : ByteArray := prog_7_method_18_code
def yX5_leastCost : MethodName := ⟨RX5, "leastCost", "()I"⟩
abbrev cX5_goesOn : ByteArray := prog_7_method_19_code
def yX5_goesOn : MethodName := ⟨RX5, "goesOn", "(III)V"⟩
abbrev cX5_costWith : ByteArray := prog_7_method_20_code
def yX5_costWith : MethodName := ⟨RX5, "costWith", "(II)I"⟩
abbrev cX5_bestCost : ByteArray := prog_7_method_21_code
def yX5_bestCost : MethodName := ⟨RX5, "bestCost", "()I"⟩
abbrev cX5_mayBe : ByteArray := prog_7_method_22_code
def yX5_mayBe : MethodName := ⟨RX5, "mayBe", "(III)Z"⟩
abbrev cX5_sideOf : ByteArray := prog_7_method_23_code
def yX5_sideOf : MethodName := ⟨RX5, "sideOf", "(I)J"⟩
abbrev cX5_isIn : ByteArray := prog_7_method_24_code
def yX5_isIn : MethodName := ⟨RX5, "isIn", "(JI)Z"⟩
abbrev cX5_picture : ByteArray := prog_7_method_25_code
def yX5_picture : MethodName := ⟨RX5, "picture", "(II)I"⟩
abbrev cX5_shade : ByteArray := prog_7_method_26_code
def yX5_shade : MethodName := ⟨RX5, "shade", "(III)I"⟩
abbrev cX5_draws : ByteArray := prog_7_method_27_code
def yX5_draws : MethodName := ⟨RX5, "draws", "(II)I"⟩
abbrev cX5_blot : ByteArray := prog_7_method_28_code
def yX5_blot : MethodName := ⟨RX5, "blot", "(IIII)I"⟩
abbrev cX5_mark : ByteArray := prog_7_method_29_code
def yX5_mark : MethodName := ⟨RX5, "mark", "(III)I"⟩
abbrev cX5_nearest : ByteArray := prog_7_method_30_code
def yX5_nearest : MethodName := ⟨RX5, "nearest", "(II)I"⟩
abbrev cX5_strokes : ByteArray := prog_7_method_31_code
def yX5_strokes : MethodName := ⟨RX5, "strokes", "(IIIII)I"⟩
abbrev cX5_stroke : ByteArray := prog_7_method_32_code
def yX5_stroke : MethodName := ⟨RX5, "stroke", "(IIIII)I"⟩
abbrev cX5_isTold : ByteArray := prog_7_method_33_code
def yX5_isTold : MethodName := ⟨RX5, "isTold", "(II)Z"⟩
abbrev cX5_sets : ByteArray := prog_7_method_34_code
def yX5_sets : MethodName := ⟨RX5, "sets", "(II)I"⟩
abbrev cX5_dot : ByteArray := prog_7_method_35_code
def yX5_dot : MethodName := ⟨RX5, "dot", "(III)I"⟩
abbrev cX5_isLinked : ByteArray := prog_7_method_36_code
def yX5_isLinked : MethodName := ⟨RX5, "isLinked", "(III)Z"⟩
abbrev cX5_link : ByteArray := prog_7_method_37_code
def yX5_link : MethodName := ⟨RX5, "link", "(III)I"⟩
abbrev cX5_cost : ByteArray := prog_7_method_38_code
def yX5_cost : MethodName := ⟨RX5, "cost", "()I"⟩
abbrev cX5_side : ByteArray := prog_7_method_39_code
def yX5_side : MethodName := ⟨RX5, "side", "(I)J"⟩
abbrev cX5_sure : ByteArray := prog_7_method_40_code
def yX5_sure : MethodName := ⟨RX5, "sure", "(II)I"⟩
abbrev cX5_were : ByteArray := prog_7_method_41_code
def yX5_were : MethodName := ⟨RX5, "were", "(III)I"⟩
abbrev cX5_strain : ByteArray := prog_7_method_42_code
def yX5_strain : MethodName := ⟨RX5, "strain", "(IIII)I"⟩
abbrev cX5_mayBoth : ByteArray := prog_7_method_43_code
def yX5_mayBoth : MethodName := ⟨RX5, "mayBoth", "(IIIII)Z"⟩
abbrev cX5_tight : ByteArray := prog_7_method_44_code
def yX5_tight : MethodName := ⟨RX5, "tight", "(III)I"⟩
abbrev cX5_costs : ByteArray := prog_7_method_45_code
def yX5_costs : MethodName := ⟨RX5, "costs", "(J)I"⟩
abbrev cX5_laysPieces : ByteArray := prog_7_method_46_code
def yX5_laysPieces : MethodName := ⟨RX5, "laysPieces", "(JZ)V"⟩
abbrev cX5_joins : ByteArray := prog_7_method_47_code
def yX5_joins : MethodName := ⟨RX5, "joins", "(II)Z"⟩
abbrev cX5_pieces : ByteArray := prog_7_method_48_code
def yX5_pieces : MethodName := ⟨RX5, "pieces", "()I"⟩
abbrev cX5_isBorder : ByteArray := prog_7_method_49_code
def yX5_isBorder : MethodName := ⟨RX5, "isBorder", "(I)Z"⟩
abbrev cX5_holes : ByteArray := prog_7_method_50_code
def yX5_holes : MethodName := ⟨RX5, "holes", "(J)I"⟩
abbrev cX5_edges : ByteArray := prog_7_method_51_code
def yX5_edges : MethodName := ⟨RX5, "edges", "(J)I"⟩
abbrev cX5_isOpenAt : ByteArray := prog_7_method_52_code
def yX5_isOpenAt : MethodName := ⟨RX5, "isOpenAt", "(JII)I"⟩
abbrev cX5_bound : ByteArray := prog_7_method_53_code
def yX5_bound : MethodName := ⟨RX5, "bound", "(JI)I"⟩
abbrev cX5_many : ByteArray := prog_7_method_54_code
def yX5_many : MethodName := ⟨RX5, "many", "(J)I"⟩
abbrev cX5_shape : ByteArray := prog_7_method_55_code
def yX5_shape : MethodName := ⟨RX5, "shape", "(I)I"⟩
abbrev cX5_learnsOnce : ByteArray := prog_7_method_56_code
def yX5_learnsOnce : MethodName := ⟨RX5, "learnsOnce", "()Z"⟩
abbrev cX5_learnsAll : ByteArray := prog_7_method_57_code
def yX5_learnsAll : MethodName := ⟨RX5, "learnsAll", "(I)I"⟩
abbrev cX5_learns : ByteArray := prog_7_method_58_code
def yX5_learns : MethodName := ⟨RX5, "learns", "(I)I"⟩
abbrev cX5_keeps : ByteArray := prog_7_method_59_code
def yX5_keeps : MethodName := ⟨RX5, "keeps", "()I"⟩
abbrev cX5_turns : ByteArray := prog_7_method_60_code
def yX5_turns : MethodName := ⟨RX5, "turns", "()I"⟩
abbrev cX5_type : ByteArray := prog_7_method_61_code
def yX5_type : MethodName := ⟨RX5, "type", "(I)I"⟩
abbrev cX5_clear : ByteArray := prog_7_method_62_code
def yX5_clear : MethodName := ⟨RX5, "clear", "()I"⟩
abbrev cX5_sign : ByteArray := prog_7_method_63_code
def yX5_sign : MethodName := ⟨RX5, "sign", "()I"⟩
abbrev cX5_reads : ByteArray := prog_7_method_64_code
def yX5_reads : MethodName := ⟨RX5, "reads", "(II)Z"⟩
abbrev cX5_readsDot : ByteArray := prog_7_method_65_code
def yX5_readsDot : MethodName := ⟨RX5, "readsDot", "()Z"⟩
abbrev cX5_readsRest : ByteArray := prog_7_method_66_code
def yX5_readsRest : MethodName := ⟨RX5, "readsRest", "(I)Z"⟩
abbrev cX5_isOrder : ByteArray := prog_7_method_67_code
def yX5_isOrder : MethodName := ⟨RX5, "isOrder", "(I)Z"⟩
abbrev cX5_doesOrder : ByteArray := prog_7_method_68_code
def yX5_doesOrder : MethodName := ⟨RX5, "doesOrder", "(I)V"⟩
abbrev cX5_goesThrough : ByteArray := prog_7_method_69_code
def yX5_goesThrough : MethodName := ⟨RX5, "goesThrough", "(Z)I"⟩
abbrev cX5_does : ByteArray := prog_7_method_70_code
def yX5_does : MethodName := ⟨RX5, "does", "()I"⟩
abbrev cX5_back : ByteArray := prog_7_method_71_code
def yX5_back : MethodName := ⟨RX5, "back", "()I"⟩
abbrev cX5_tells : ByteArray := prog_7_method_72_code
def yX5_tells : MethodName := ⟨RX5, "tells", "(I)I"⟩
abbrev cX5_told : ByteArray := prog_7_method_73_code
def yX5_told : MethodName := ⟨RX5, "told", "(I)I"⟩
abbrev cX5_digest : ByteArray := prog_7_method_74_code
def yX5_digest : MethodName := ⟨RX5, "digest", "()J"⟩
def RJ13 : String := "java/lang/Long"
def TJ13 : u_T := fun k => match k with
  | _ => ("", "", "", false)
def tyJ13 : Nat → FieldType := fun k => match k with
  | _ => .int
abbrev wsJ130 : List Cond := u_ws RJ13 TJ13 0
theorem nmJ13 : ∀ a, a < 0 → ∀ b, b < 0 → a ≠ b → (TJ13 a).2.1 ≠ (TJ13 b).2.1 := by decide +kernel
theorem tyJ13_ok : ∀ k, k < 0 → parseFieldDescriptor (TJ13 k).2.2.1 = some (tyJ13 k) := by decide +kernel
abbrev cJ13_bitCount_95d88 : ByteArray := prog_8_method_50_code
def yJ13_bitCount_95d88 : MethodName := ⟨RJ13, "bitCount", "(J)I"⟩
def RJ9 : String := "java/lang/Math"
def TJ9 : u_T := fun k => match k with
  | _ => ("", "", "", false)
def tyJ9 : Nat → FieldType := fun k => match k with
  | _ => .int
abbrev wsJ90 : List Cond := u_ws RJ9 TJ9 0
theorem nmJ9 : ∀ a, a < 0 → ∀ b, b < 0 → a ≠ b → (TJ9 a).2.1 ≠ (TJ9 b).2.1 := by decide +kernel
theorem tyJ9_ok : ∀ k, k < 0 → parseFieldDescriptor (TJ9 k).2.2.1 = some (tyJ9 k) := by decide +kernel
abbrev cJ9_floorDiv_7cf53 : ByteArray := prog_9_method_47_code
def yJ9_floorDiv_7cf53 : MethodName := ⟨RJ9, "floorDiv", "(II)I"⟩
abbrev cJ9_abs_0f7a4 : ByteArray := prog_9_method_59_code
def yJ9_abs_0f7a4 : MethodName := ⟨RJ9, "abs", "(I)I"⟩
abbrev cJ9_max_7cf53 : ByteArray := prog_9_method_65_code
def yJ9_max_7cf53 : MethodName := ⟨RJ9, "max", "(II)I"⟩
abbrev cJ9_min_7cf53 : ByteArray := prog_9_method_69_code
def yJ9_min_7cf53 : MethodName := ⟨RJ9, "min", "(II)I"⟩
def RJ10 : String := "java/lang/System"
def TJ10 : u_T := fun k => match k with
  | _ => ("", "", "", false)
def tyJ10 : Nat → FieldType := fun k => match k with
  | _ => .int
abbrev wsJ100 : List Cond := u_ws RJ10 TJ10 0
theorem nmJ10 : ∀ a, a < 0 → ∀ b, b < 0 → a ≠ b → (TJ10 a).2.1 ≠ (TJ10 b).2.1 := by decide +kernel
theorem tyJ10_ok : ∀ k, k < 0 → parseFieldDescriptor (TJ10 k).2.2.1 = some (tyJ10 k) := by decide +kernel
def RL : String := "StrokeCutsLaw"
abbrev cL_law : ByteArray := code
def yL_law : MethodName := ⟨RL, "law", "([I)Z"⟩
def wsX2_init : List Cond := .code yX2_init cX2_init 1 none :: ([.methodLink RX2 3 objectInit, .instanceMethod objectInit, .code objectInit ⟨#[0xb1]⟩ 1 none, .arrayClass .int, .fieldLink RX2 9 "StrokeCuts$Scene" "settings" "[I", .fieldLink RX2 15 "StrokeCuts$Scene" "shades" "[I", .fieldLink RX2 18 "StrokeCuts$Scene" "marks" "[I", .fieldLink RX2 21 "StrokeCuts$Scene" "width" "I", .fieldLink RX2 25 "StrokeCuts$Scene" "height" "I"] ++ wsX20)
def wsX0_init : List Cond := .code yX0_init cX0_init 2 none :: ([.methodLink RX0 1 objectInit, .instanceMethod objectInit, .code objectInit ⟨#[0xb1]⟩ 1 none, .classLink RX0 9 RX2, .fieldLink RX0 11 "StrokeCuts$History" "kept" "[LStrokeCuts$Scene;", .instantiable RX2 5, .initialized RX2, .methodLink RX0 15 yX2_init, .instanceMethod yX2_init, .code yX2_init cX2_init 1 none, .methodLink RX2 3 objectInit, .arrayClass .int, .fieldLink RX2 9 "StrokeCuts$Scene" "settings" "[I", .fieldLink RX2 15 "StrokeCuts$Scene" "shades" "[I", .fieldLink RX2 18 "StrokeCuts$Scene" "marks" "[I", .fieldLink RX2 21 "StrokeCuts$Scene" "width" "I", .fieldLink RX2 25 "StrokeCuts$Scene" "height" "I"] ++ wsX00 ++ wsX20)
def wsX2_copyFrom : List Cond := .code yX2_copyFrom cX2_copyFrom 2 none :: ([.fieldLink RX2 21 "StrokeCuts$Scene" "width" "I", .fieldLink RX2 25 "StrokeCuts$Scene" "height" "I", .fieldLink RX2 9 "StrokeCuts$Scene" "settings" "[I", .methodLink RX2 28 arraycopyName, .native arraycopyName, .static arraycopyName, .initialized "java/lang/System", .fieldLink RX2 15 "StrokeCuts$Scene" "shades" "[I", .fieldLink RX2 18 "StrokeCuts$Scene" "marks" "[I"] ++ wsX20)
def wsX0_remember : List Cond := .code yX0_remember cX0_remember 3 none :: ([.fieldLink RX0 11 "StrokeCuts$History" "kept" "[LStrokeCuts$Scene;", .fieldLink RX0 16 "StrokeCuts$History" "next" "I", .fieldLink RX0 24 "StrokeCuts$History" "count" "I", .methodLink RX0 27 Lib.Math.min.name, .static Lib.Math.min.name, .initialized "java/lang/Math", .code Lib.Math.min.name Lib.Math.min.code 2 (some .int), .methodLink RX0 20 yX2_copyFrom, .instanceMethod yX2_copyFrom, .selects RX2 yX2_copyFrom yX2_copyFrom, .initialized RX2, .code yX2_copyFrom cX2_copyFrom 2 none, .fieldLink RX2 21 "StrokeCuts$Scene" "width" "I", .fieldLink RX2 25 "StrokeCuts$Scene" "height" "I", .fieldLink RX2 9 "StrokeCuts$Scene" "settings" "[I", .methodLink RX2 28 arraycopyName, .native arraycopyName, .static arraycopyName, .initialized "java/lang/System", .fieldLink RX2 15 "StrokeCuts$Scene" "shades" "[I", .fieldLink RX2 18 "StrokeCuts$Scene" "marks" "[I"] ++ wsX00 ++ wsX20)
def wsX0_giveBack : List Cond := .code yX0_giveBack cX0_giveBack 3 none :: ([.fieldLink RX0 24 "StrokeCuts$History" "count" "I", .fieldLink RX0 16 "StrokeCuts$History" "next" "I", .fieldLink RX0 11 "StrokeCuts$History" "kept" "[LStrokeCuts$Scene;", .methodLink RX0 20 yX2_copyFrom, .instanceMethod yX2_copyFrom, .selects RX2 yX2_copyFrom yX2_copyFrom, .initialized RX2, .code yX2_copyFrom cX2_copyFrom 2 none, .fieldLink RX2 21 "StrokeCuts$Scene" "width" "I", .fieldLink RX2 25 "StrokeCuts$Scene" "height" "I", .fieldLink RX2 9 "StrokeCuts$Scene" "settings" "[I", .methodLink RX2 28 arraycopyName, .native arraycopyName, .static arraycopyName, .initialized "java/lang/System", .fieldLink RX2 15 "StrokeCuts$Scene" "shades" "[I", .fieldLink RX2 18 "StrokeCuts$Scene" "marks" "[I"] ++ wsX00 ++ wsX20)
def wsX1_init : List Cond := .code yX1_init cX1_init 1 none :: ([.methodLink RX1 3 objectInit, .instanceMethod objectInit, .code objectInit ⟨#[0xb1]⟩ 1 none, .arrayClass .int, .fieldLink RX1 9 "StrokeCuts$Network" "fromFigure" "[I", .fieldLink RX1 15 "StrokeCuts$Network" "toGround" "[I", .fieldLink RX1 18 "StrokeCuts$Network" "neighbour" "[I", .fieldLink RX1 21 "StrokeCuts$Network" "room" "[I", .fieldLink RX1 24 "StrokeCuts$Network" "distance" "[I", .fieldLink RX1 27 "StrokeCuts$Network" "queue" "[I"] ++ wsX10)
def wsX2_dots : List Cond := .code yX2_dots cX2_dots 1 (some .int) :: ([.fieldLink RX2 21 "StrokeCuts$Scene" "width" "I", .fieldLink RX2 25 "StrokeCuts$Scene" "height" "I"] ++ wsX20)
def wsX2_numberOf : List Cond := .code yX2_numberOf cX2_numberOf 3 (some .int) :: ([.fieldLink RX2 21 "StrokeCuts$Scene" "width" "I"] ++ wsX20)
def wsX2_pullFrom : List Cond := .code yX2_pullFrom cX2_pullFrom 3 (some .int) :: ([.fieldLink RX2 9 "StrokeCuts$Scene" "settings" "[I", .fieldLink RX2 15 "StrokeCuts$Scene" "shades" "[I", .methodLink RX2 52 Lib.Math.abs.name, .static Lib.Math.abs.name, .initialized "java/lang/Math", .code Lib.Math.abs.name Lib.Math.abs.code 1 (some .int)] ++ wsX20)
def wsX1_loadPulls : List Cond := .code yX1_loadPulls cX1_loadPulls 4 none :: ([.fieldLink RX1 9 "StrokeCuts$Network" "fromFigure" "[I", .constant RX1 77 (1000000), .fieldLink RX1 15 "StrokeCuts$Network" "toGround" "[I", .methodLink RX1 74 yX2_pullFrom, .instanceMethod yX2_pullFrom, .selects RX2 yX2_pullFrom yX2_pullFrom, .initialized RX2, .code yX2_pullFrom cX2_pullFrom 3 (some .int), .fieldLink RX2 9 "StrokeCuts$Scene" "settings" "[I", .fieldLink RX2 15 "StrokeCuts$Scene" "shades" "[I", .methodLink RX2 52 Lib.Math.abs.name, .static Lib.Math.abs.name, .initialized "java/lang/Math", .code Lib.Math.abs.name Lib.Math.abs.code 1 (some .int)] ++ wsX10 ++ wsX20)
def wsX2_hasDot : List Cond := .code yX2_hasDot cX2_hasDot 3 (some .boolean) :: ([.fieldLink RX2 21 "StrokeCuts$Scene" "width" "I", .fieldLink RX2 25 "StrokeCuts$Scene" "height" "I"] ++ wsX20)
def wsX2_linkedTo : List Cond := .code yX2_linkedTo cX2_linkedTo 6 (some .int) :: ([.fieldLink RX2 9 "StrokeCuts$Scene" "settings" "[I", .methodLink RX2 44 yX2_hasDot, .instanceMethod yX2_hasDot, .selects RX2 yX2_hasDot yX2_hasDot, .initialized RX2, .code yX2_hasDot cX2_hasDot 3 (some .boolean), .fieldLink RX2 21 "StrokeCuts$Scene" "width" "I", .fieldLink RX2 25 "StrokeCuts$Scene" "height" "I", .methodLink RX2 48 yX2_numberOf, .instanceMethod yX2_numberOf, .selects RX2 yX2_numberOf yX2_numberOf, .code yX2_numberOf cX2_numberOf 3 (some .int)] ++ wsX20)
def wsX2_weightOf : List Cond := .code yX2_weightOf cX2_weightOf 6 (some .int) :: ([.fieldLink RX2 15 "StrokeCuts$Scene" "shades" "[I", .methodLink RX2 52 Lib.Math.abs.name, .static Lib.Math.abs.name, .initialized "java/lang/Math", .code Lib.Math.abs.name Lib.Math.abs.code 1 (some .int), .fieldLink RX2 9 "StrokeCuts$Scene" "settings" "[I", .methodLink RX2 58 Lib.Math.max.name, .static Lib.Math.max.name, .code Lib.Math.max.name Lib.Math.max.code 2 (some .int)] ++ wsX20)
def wsX1_reverse : List Cond := .code yX1_reverse cX1_reverse 1 (some .int) :: ([])
def wsX1_join : List Cond := .code yX1_join cX1_join 7 none :: ([.fieldLink RX1 18 "StrokeCuts$Network" "neighbour" "[I", .fieldLink RX1 21 "StrokeCuts$Network" "room" "[I", .methodLink RX1 78 yX1_reverse, .static yX1_reverse, .initialized RX1, .code yX1_reverse cX1_reverse 1 (some .int)] ++ wsX10)
def wsX1_load_r1 : List Cond := [Cond.fieldLink RX1 43 "StrokeCuts$Network" "dots" "I", Cond.fieldLink RX1 18 "StrokeCuts$Network" "neighbour" "[I", Cond.fieldLink RX1 46 "StrokeCuts$Scene" "height" "I", Cond.fieldLink RX1 49 "StrokeCuts$Scene" "width" "I", Cond.fieldLink RX1 56 "StrokeCuts$Scene" "marks" "[I", Cond.methodLink RX1 38 yX2_dots, Cond.instanceMethod yX2_dots, Cond.selects RX2 yX2_dots yX2_dots, Cond.initialized RX2, Cond.code yX2_dots cX2_dots 1 (some .int), Cond.fieldLink RX2 21 "StrokeCuts$Scene" "width" "I", Cond.fieldLink RX2 25 "StrokeCuts$Scene" "height" "I", Cond.methodLink RX1 52 yX2_numberOf, Cond.instanceMethod yX2_numberOf, Cond.selects RX2 yX2_numberOf yX2_numberOf, Cond.code yX2_numberOf cX2_numberOf 3 (some .int), Cond.methodLink RX1 59 yX1_loadPulls, Cond.instanceMethod yX1_loadPulls, Cond.selects RX1 yX1_loadPulls yX1_loadPulls, Cond.initialized RX1, Cond.code yX1_loadPulls cX1_loadPulls 4 none, Cond.fieldLink RX1 9 "StrokeCuts$Network" "fromFigure" "[I", Cond.constant RX1 77 (1000000), Cond.fieldLink RX1 15 "StrokeCuts$Network" "toGround" "[I"]
def wsX1_load_r2 : List Cond := [Cond.methodLink RX1 74 yX2_pullFrom, Cond.instanceMethod yX2_pullFrom, Cond.selects RX2 yX2_pullFrom yX2_pullFrom, Cond.code yX2_pullFrom cX2_pullFrom 3 (some .int), Cond.fieldLink RX2 9 "StrokeCuts$Scene" "settings" "[I", Cond.fieldLink RX2 15 "StrokeCuts$Scene" "shades" "[I", Cond.methodLink RX2 52 Lib.Math.abs.name, Cond.static Lib.Math.abs.name, Cond.initialized "java/lang/Math", Cond.code Lib.Math.abs.name Lib.Math.abs.code 1 (some .int), Cond.methodLink RX1 63 yX2_linkedTo, Cond.instanceMethod yX2_linkedTo, Cond.selects RX2 yX2_linkedTo yX2_linkedTo, Cond.code yX2_linkedTo cX2_linkedTo 6 (some .int), Cond.methodLink RX2 44 yX2_hasDot, Cond.instanceMethod yX2_hasDot, Cond.selects RX2 yX2_hasDot yX2_hasDot, Cond.code yX2_hasDot cX2_hasDot 3 (some .boolean), Cond.methodLink RX2 48 yX2_numberOf, Cond.methodLink RX1 67 yX2_weightOf, Cond.instanceMethod yX2_weightOf, Cond.selects RX2 yX2_weightOf yX2_weightOf, Cond.code yX2_weightOf cX2_weightOf 6 (some .int), Cond.methodLink RX2 58 Lib.Math.max.name]
def wsX1_load_r3 : List Cond := [Cond.static Lib.Math.max.name, Cond.code Lib.Math.max.name Lib.Math.max.code 2 (some .int), Cond.methodLink RX1 70 yX1_join, Cond.instanceMethod yX1_join, Cond.selects RX1 yX1_join yX1_join, Cond.code yX1_join cX1_join 7 none, Cond.fieldLink RX1 21 "StrokeCuts$Network" "room" "[I", Cond.methodLink RX1 78 yX1_reverse, Cond.static yX1_reverse, Cond.code yX1_reverse cX1_reverse 1 (some .int)]
def wsX1_load : List Cond := .code yX1_load cX1_load 7 none :: ((wsX1_load_r1 ++ (wsX1_load_r2 ++ wsX1_load_r3)) ++ wsX10 ++ wsX20)
def wsX1_enqueue : List Cond := .code yX1_enqueue cX1_enqueue 2 none :: ([.fieldLink RX1 88 "StrokeCuts$Network" "queued" "I", .fieldLink RX1 27 "StrokeCuts$Network" "queue" "[I"] ++ wsX10)
def wsX1_measureDistances : List Cond := .code yX1_measureDistances cX1_measureDistances 5 none :: ([.fieldLink RX1 88 "StrokeCuts$Network" "queued" "I", .fieldLink RX1 43 "StrokeCuts$Network" "dots" "I", .fieldLink RX1 24 "StrokeCuts$Network" "distance" "[I", .fieldLink RX1 15 "StrokeCuts$Network" "toGround" "[I", .fieldLink RX1 27 "StrokeCuts$Network" "queue" "[I", .fieldLink RX1 18 "StrokeCuts$Network" "neighbour" "[I", .fieldLink RX1 21 "StrokeCuts$Network" "room" "[I", .methodLink RX1 91 yX1_enqueue, .instanceMethod yX1_enqueue, .selects RX1 yX1_enqueue yX1_enqueue, .initialized RX1, .code yX1_enqueue cX1_enqueue 2 none, .methodLink RX1 78 yX1_reverse, .static yX1_reverse, .code yX1_reverse cX1_reverse 1 (some .int)] ++ wsX10)
def wsX1_isNext : List Cond := .code yX1_isNext cX1_isNext 3 (some .boolean) :: ([.fieldLink RX1 24 "StrokeCuts$Network" "distance" "[I"] ++ wsX10)
def wsX1_send : List Cond := .code yX1_send cX1_send 9 (some .int) :: ([.fieldLink RX1 24 "StrokeCuts$Network" "distance" "[I", .fieldLink RX1 15 "StrokeCuts$Network" "toGround" "[I", .methodLink RX1 95 Lib.Math.min.name, .static Lib.Math.min.name, .initialized "java/lang/Math", .code Lib.Math.min.name Lib.Math.min.code 2 (some .int), .fieldLink RX1 18 "StrokeCuts$Network" "neighbour" "[I", .fieldLink RX1 21 "StrokeCuts$Network" "room" "[I", .methodLink RX1 100 yX1_isNext, .instanceMethod yX1_isNext, .selects RX1 yX1_isNext yX1_isNext, .initialized RX1, .code yX1_isNext cX1_isNext 3 (some .boolean), .methodLink RX1 85 yX1_send, .instanceMethod yX1_send, .selects RX1 yX1_send yX1_send, .methodLink RX1 78 yX1_reverse, .static yX1_reverse, .code yX1_reverse cX1_reverse 1 (some .int)] ++ wsX10)
def wsX1_fill_r1 : List Cond := [Cond.fieldLink RX1 43 "StrokeCuts$Network" "dots" "I", Cond.fieldLink RX1 9 "StrokeCuts$Network" "fromFigure" "[I", Cond.fieldLink RX1 24 "StrokeCuts$Network" "distance" "[I", Cond.methodLink RX1 82 yX1_measureDistances, Cond.instanceMethod yX1_measureDistances, Cond.selects RX1 yX1_measureDistances yX1_measureDistances, Cond.initialized RX1, Cond.code yX1_measureDistances cX1_measureDistances 5 none, Cond.fieldLink RX1 88 "StrokeCuts$Network" "queued" "I", Cond.fieldLink RX1 15 "StrokeCuts$Network" "toGround" "[I", Cond.fieldLink RX1 27 "StrokeCuts$Network" "queue" "[I", Cond.fieldLink RX1 18 "StrokeCuts$Network" "neighbour" "[I", Cond.fieldLink RX1 21 "StrokeCuts$Network" "room" "[I", Cond.methodLink RX1 91 yX1_enqueue, Cond.instanceMethod yX1_enqueue, Cond.selects RX1 yX1_enqueue yX1_enqueue, Cond.code yX1_enqueue cX1_enqueue 2 none, Cond.methodLink RX1 78 yX1_reverse, Cond.static yX1_reverse, Cond.code yX1_reverse cX1_reverse 1 (some .int), Cond.methodLink RX1 85 yX1_send, Cond.instanceMethod yX1_send, Cond.selects RX1 yX1_send yX1_send, Cond.code yX1_send cX1_send 9 (some .int)]
def wsX1_fill_r2 : List Cond := [Cond.methodLink RX1 95 Lib.Math.min.name, Cond.static Lib.Math.min.name, Cond.initialized "java/lang/Math", Cond.code Lib.Math.min.name Lib.Math.min.code 2 (some .int), Cond.methodLink RX1 100 yX1_isNext, Cond.instanceMethod yX1_isNext, Cond.selects RX1 yX1_isNext yX1_isNext, Cond.code yX1_isNext cX1_isNext 3 (some .boolean)]
def wsX1_fill : List Cond := .code yX1_fill cX1_fill 6 (some .int) :: ((wsX1_fill_r1 ++ wsX1_fill_r2) ++ wsX10)
def wsX1_solve_r1 : List Cond := [Cond.methodLink RX1 30 yX1_load, Cond.instanceMethod yX1_load, Cond.selects RX1 yX1_load yX1_load, Cond.initialized RX1, Cond.code yX1_load cX1_load 7 none, Cond.fieldLink RX1 43 "StrokeCuts$Network" "dots" "I", Cond.fieldLink RX1 18 "StrokeCuts$Network" "neighbour" "[I", Cond.fieldLink RX1 46 "StrokeCuts$Scene" "height" "I", Cond.fieldLink RX1 49 "StrokeCuts$Scene" "width" "I", Cond.fieldLink RX1 56 "StrokeCuts$Scene" "marks" "[I", Cond.methodLink RX1 38 yX2_dots, Cond.instanceMethod yX2_dots, Cond.selects RX2 yX2_dots yX2_dots, Cond.initialized RX2, Cond.code yX2_dots cX2_dots 1 (some .int), Cond.fieldLink RX2 21 "StrokeCuts$Scene" "width" "I", Cond.fieldLink RX2 25 "StrokeCuts$Scene" "height" "I", Cond.methodLink RX1 52 yX2_numberOf, Cond.instanceMethod yX2_numberOf, Cond.selects RX2 yX2_numberOf yX2_numberOf, Cond.code yX2_numberOf cX2_numberOf 3 (some .int), Cond.methodLink RX1 59 yX1_loadPulls, Cond.instanceMethod yX1_loadPulls, Cond.selects RX1 yX1_loadPulls yX1_loadPulls]
def wsX1_solve_r2 : List Cond := [Cond.code yX1_loadPulls cX1_loadPulls 4 none, Cond.fieldLink RX1 9 "StrokeCuts$Network" "fromFigure" "[I", Cond.constant RX1 77 (1000000), Cond.fieldLink RX1 15 "StrokeCuts$Network" "toGround" "[I", Cond.methodLink RX1 74 yX2_pullFrom, Cond.instanceMethod yX2_pullFrom, Cond.selects RX2 yX2_pullFrom yX2_pullFrom, Cond.code yX2_pullFrom cX2_pullFrom 3 (some .int), Cond.fieldLink RX2 9 "StrokeCuts$Scene" "settings" "[I", Cond.fieldLink RX2 15 "StrokeCuts$Scene" "shades" "[I", Cond.methodLink RX2 52 Lib.Math.abs.name, Cond.static Lib.Math.abs.name, Cond.initialized "java/lang/Math", Cond.code Lib.Math.abs.name Lib.Math.abs.code 1 (some .int), Cond.methodLink RX1 63 yX2_linkedTo, Cond.instanceMethod yX2_linkedTo, Cond.selects RX2 yX2_linkedTo yX2_linkedTo, Cond.code yX2_linkedTo cX2_linkedTo 6 (some .int), Cond.methodLink RX2 44 yX2_hasDot, Cond.instanceMethod yX2_hasDot, Cond.selects RX2 yX2_hasDot yX2_hasDot, Cond.code yX2_hasDot cX2_hasDot 3 (some .boolean), Cond.methodLink RX2 48 yX2_numberOf, Cond.methodLink RX1 67 yX2_weightOf]
def wsX1_solve_r3 : List Cond := [Cond.instanceMethod yX2_weightOf, Cond.selects RX2 yX2_weightOf yX2_weightOf, Cond.code yX2_weightOf cX2_weightOf 6 (some .int), Cond.methodLink RX2 58 Lib.Math.max.name, Cond.static Lib.Math.max.name, Cond.code Lib.Math.max.name Lib.Math.max.code 2 (some .int), Cond.methodLink RX1 70 yX1_join, Cond.instanceMethod yX1_join, Cond.selects RX1 yX1_join yX1_join, Cond.code yX1_join cX1_join 7 none, Cond.fieldLink RX1 21 "StrokeCuts$Network" "room" "[I", Cond.methodLink RX1 78 yX1_reverse, Cond.static yX1_reverse, Cond.code yX1_reverse cX1_reverse 1 (some .int), Cond.methodLink RX1 34 yX1_fill, Cond.instanceMethod yX1_fill, Cond.selects RX1 yX1_fill yX1_fill, Cond.code yX1_fill cX1_fill 6 (some .int), Cond.fieldLink RX1 24 "StrokeCuts$Network" "distance" "[I", Cond.methodLink RX1 82 yX1_measureDistances, Cond.instanceMethod yX1_measureDistances, Cond.selects RX1 yX1_measureDistances yX1_measureDistances, Cond.code yX1_measureDistances cX1_measureDistances 5 none, Cond.fieldLink RX1 88 "StrokeCuts$Network" "queued" "I"]
def wsX1_solve_r4 : List Cond := [Cond.fieldLink RX1 27 "StrokeCuts$Network" "queue" "[I", Cond.methodLink RX1 91 yX1_enqueue, Cond.instanceMethod yX1_enqueue, Cond.selects RX1 yX1_enqueue yX1_enqueue, Cond.code yX1_enqueue cX1_enqueue 2 none, Cond.methodLink RX1 85 yX1_send, Cond.instanceMethod yX1_send, Cond.selects RX1 yX1_send yX1_send, Cond.code yX1_send cX1_send 9 (some .int), Cond.methodLink RX1 95 Lib.Math.min.name, Cond.static Lib.Math.min.name, Cond.code Lib.Math.min.name Lib.Math.min.code 2 (some .int), Cond.methodLink RX1 100 yX1_isNext, Cond.instanceMethod yX1_isNext, Cond.selects RX1 yX1_isNext yX1_isNext, Cond.code yX1_isNext cX1_isNext 3 (some .boolean)]
def wsX1_solve : List Cond := .code yX1_solve cX1_solve 2 (some .int) :: ((wsX1_solve_r1 ++ (wsX1_solve_r2 ++ (wsX1_solve_r3 ++ wsX1_solve_r4))) ++ wsX10 ++ wsX20)
def wsX4_has : List Cond := .code yX4_has cX4_has 3 (some .boolean) :: ([])
def wsX1_spread : List Cond := .code yX1_spread cX1_spread 9 (some .long) :: ([.fieldLink RX1 88 "StrokeCuts$Network" "queued" "I", .fieldLink RX1 43 "StrokeCuts$Network" "dots" "I", .fieldLink RX1 27 "StrokeCuts$Network" "queue" "[I", .fieldLink RX1 18 "StrokeCuts$Network" "neighbour" "[I", .fieldLink RX1 21 "StrokeCuts$Network" "room" "[I", .static yX4_has, .initialized RX4, .code yX4_has cX4_has 3 (some .boolean), .methodLink RX1 91 yX1_enqueue, .instanceMethod yX1_enqueue, .selects RX1 yX1_enqueue yX1_enqueue, .initialized RX1, .code yX1_enqueue cX1_enqueue 2 none] ++ wsX10)
def wsX1_leastSet : List Cond := .code yX1_leastSet cX1_leastSet 4 (some .long) :: ([.fieldLink RX1 43 "StrokeCuts$Network" "dots" "I", .fieldLink RX1 9 "StrokeCuts$Network" "fromFigure" "[I", .methodLink RX1 104 yX1_spread, .instanceMethod yX1_spread, .selects RX1 yX1_spread yX1_spread, .initialized RX1, .code yX1_spread cX1_spread 9 (some .long), .fieldLink RX1 88 "StrokeCuts$Network" "queued" "I", .fieldLink RX1 27 "StrokeCuts$Network" "queue" "[I", .fieldLink RX1 18 "StrokeCuts$Network" "neighbour" "[I", .fieldLink RX1 21 "StrokeCuts$Network" "room" "[I", .static yX4_has, .initialized RX4, .code yX4_has cX4_has 3 (some .boolean), .methodLink RX1 91 yX1_enqueue, .instanceMethod yX1_enqueue, .selects RX1 yX1_enqueue yX1_enqueue, .code yX1_enqueue cX1_enqueue 2 none] ++ wsX10)
def wsX1_greatestSet : List Cond := .code yX1_greatestSet cX1_greatestSet 4 (some .long) :: ([.fieldLink RX1 43 "StrokeCuts$Network" "dots" "I", .fieldLink RX1 24 "StrokeCuts$Network" "distance" "[I", .methodLink RX1 82 yX1_measureDistances, .instanceMethod yX1_measureDistances, .selects RX1 yX1_measureDistances yX1_measureDistances, .initialized RX1, .code yX1_measureDistances cX1_measureDistances 5 none, .fieldLink RX1 88 "StrokeCuts$Network" "queued" "I", .fieldLink RX1 15 "StrokeCuts$Network" "toGround" "[I", .fieldLink RX1 27 "StrokeCuts$Network" "queue" "[I", .fieldLink RX1 18 "StrokeCuts$Network" "neighbour" "[I", .fieldLink RX1 21 "StrokeCuts$Network" "room" "[I", .methodLink RX1 91 yX1_enqueue, .instanceMethod yX1_enqueue, .selects RX1 yX1_enqueue yX1_enqueue, .code yX1_enqueue cX1_enqueue 2 none, .methodLink RX1 78 yX1_reverse, .static yX1_reverse, .code yX1_reverse cX1_reverse 1 (some .int)] ++ wsX10)
def wsX1_alwaysParts_r1 : List Cond := [Cond.methodLink RX1 112 yX1_leastSet, Cond.instanceMethod yX1_leastSet, Cond.selects RX1 yX1_leastSet yX1_leastSet, Cond.initialized RX1, Cond.code yX1_leastSet cX1_leastSet 4 (some .long), Cond.fieldLink RX1 43 "StrokeCuts$Network" "dots" "I", Cond.fieldLink RX1 9 "StrokeCuts$Network" "fromFigure" "[I", Cond.methodLink RX1 104 yX1_spread, Cond.instanceMethod yX1_spread, Cond.selects RX1 yX1_spread yX1_spread, Cond.code yX1_spread cX1_spread 9 (some .long), Cond.fieldLink RX1 88 "StrokeCuts$Network" "queued" "I", Cond.fieldLink RX1 27 "StrokeCuts$Network" "queue" "[I", Cond.fieldLink RX1 18 "StrokeCuts$Network" "neighbour" "[I", Cond.fieldLink RX1 21 "StrokeCuts$Network" "room" "[I", Cond.static yX4_has, Cond.initialized RX4, Cond.code yX4_has cX4_has 3 (some .boolean), Cond.methodLink RX1 91 yX1_enqueue, Cond.instanceMethod yX1_enqueue, Cond.selects RX1 yX1_enqueue yX1_enqueue, Cond.code yX1_enqueue cX1_enqueue 2 none, Cond.methodLink RX1 116 yX1_greatestSet, Cond.instanceMethod yX1_greatestSet]
def wsX1_alwaysParts_r2 : List Cond := [Cond.selects RX1 yX1_greatestSet yX1_greatestSet, Cond.code yX1_greatestSet cX1_greatestSet 4 (some .long), Cond.fieldLink RX1 24 "StrokeCuts$Network" "distance" "[I", Cond.methodLink RX1 82 yX1_measureDistances, Cond.instanceMethod yX1_measureDistances, Cond.selects RX1 yX1_measureDistances yX1_measureDistances, Cond.code yX1_measureDistances cX1_measureDistances 5 none, Cond.fieldLink RX1 15 "StrokeCuts$Network" "toGround" "[I", Cond.methodLink RX1 78 yX1_reverse, Cond.static yX1_reverse, Cond.code yX1_reverse cX1_reverse 1 (some .int)]
def wsX1_alwaysParts : List Cond := .code yX1_alwaysParts cX1_alwaysParts 3 (some .boolean) :: ((wsX1_alwaysParts_r1 ++ wsX1_alwaysParts_r2) ++ wsX10)
def wsX1_mayPart_r1 : List Cond := [Cond.methodLink RX1 116 yX1_greatestSet, Cond.instanceMethod yX1_greatestSet, Cond.selects RX1 yX1_greatestSet yX1_greatestSet, Cond.initialized RX1, Cond.code yX1_greatestSet cX1_greatestSet 4 (some .long), Cond.fieldLink RX1 43 "StrokeCuts$Network" "dots" "I", Cond.fieldLink RX1 24 "StrokeCuts$Network" "distance" "[I", Cond.methodLink RX1 82 yX1_measureDistances, Cond.instanceMethod yX1_measureDistances, Cond.selects RX1 yX1_measureDistances yX1_measureDistances, Cond.code yX1_measureDistances cX1_measureDistances 5 none, Cond.fieldLink RX1 88 "StrokeCuts$Network" "queued" "I", Cond.fieldLink RX1 15 "StrokeCuts$Network" "toGround" "[I", Cond.fieldLink RX1 27 "StrokeCuts$Network" "queue" "[I", Cond.fieldLink RX1 18 "StrokeCuts$Network" "neighbour" "[I", Cond.fieldLink RX1 21 "StrokeCuts$Network" "room" "[I", Cond.methodLink RX1 91 yX1_enqueue, Cond.instanceMethod yX1_enqueue, Cond.selects RX1 yX1_enqueue yX1_enqueue, Cond.code yX1_enqueue cX1_enqueue 2 none, Cond.methodLink RX1 78 yX1_reverse, Cond.static yX1_reverse, Cond.code yX1_reverse cX1_reverse 1 (some .int), Cond.static yX4_has]
def wsX1_mayPart_r2 : List Cond := [Cond.initialized RX4, Cond.code yX4_has cX4_has 3 (some .boolean), Cond.methodLink RX1 112 yX1_leastSet, Cond.instanceMethod yX1_leastSet, Cond.selects RX1 yX1_leastSet yX1_leastSet, Cond.code yX1_leastSet cX1_leastSet 4 (some .long), Cond.fieldLink RX1 9 "StrokeCuts$Network" "fromFigure" "[I", Cond.methodLink RX1 104 yX1_spread, Cond.instanceMethod yX1_spread, Cond.selects RX1 yX1_spread yX1_spread, Cond.code yX1_spread cX1_spread 9 (some .long)]
def wsX1_mayPart : List Cond := .code yX1_mayPart cX1_mayPart 3 (some .boolean) :: ((wsX1_mayPart_r1 ++ wsX1_mayPart_r2) ++ wsX10)
def wsX2_startBlank : List Cond := .code yX2_startBlank cX2_startBlank 4 none :: ([.fieldLink RX2 21 "StrokeCuts$Scene" "width" "I", .fieldLink RX2 25 "StrokeCuts$Scene" "height" "I", .fieldLink RX2 15 "StrokeCuts$Scene" "shades" "[I", .fieldLink RX2 18 "StrokeCuts$Scene" "marks" "[I"] ++ wsX20)
def wsX2_allDots : List Cond := .code yX2_allDots cX2_allDots 1 (some .long) :: ([.methodLink RX2 34 yX2_dots, .instanceMethod yX2_dots, .selects RX2 yX2_dots yX2_dots, .initialized RX2, .code yX2_dots cX2_dots 1 (some .int), .fieldLink RX2 21 "StrokeCuts$Scene" "width" "I", .fieldLink RX2 25 "StrokeCuts$Scene" "height" "I"] ++ wsX20)
def wsX2_shadeAround : List Cond := .code yX2_shadeAround cX2_shadeAround 8 (some .int) :: ([.fieldLink RX2 25 "StrokeCuts$Scene" "height" "I", .fieldLink RX2 21 "StrokeCuts$Scene" "width" "I", .methodLink RX2 52 Lib.Math.abs.name, .static Lib.Math.abs.name, .initialized "java/lang/Math", .code Lib.Math.abs.name Lib.Math.abs.code 1 (some .int), .fieldLink RX2 15 "StrokeCuts$Scene" "shades" "[I", .methodLink RX2 48 yX2_numberOf, .instanceMethod yX2_numberOf, .selects RX2 yX2_numberOf yX2_numberOf, .initialized RX2, .code yX2_numberOf cX2_numberOf 3 (some .int)] ++ wsX20)
def wsJ9_floorDiv_7cf53 : List Cond := .code yJ9_floorDiv_7cf53 cJ9_floorDiv_7cf53 3 (some .int) :: ([])
def wsX2_lineOf : List Cond := .code yX2_lineOf cX2_lineOf 11 (some .long) :: ([.methodLink RX2 52 Lib.Math.abs.name, .static Lib.Math.abs.name, .initialized "java/lang/Math", .code Lib.Math.abs.name Lib.Math.abs.code 1 (some .int), .methodLink RX2 58 Lib.Math.max.name, .static Lib.Math.max.name, .code Lib.Math.max.name Lib.Math.max.code 2 (some .int), .methodLink RX2 48 yX2_numberOf, .instanceMethod yX2_numberOf, .selects RX2 yX2_numberOf yX2_numberOf, .initialized RX2, .code yX2_numberOf cX2_numberOf 3 (some .int), .fieldLink RX2 21 "StrokeCuts$Scene" "width" "I", .methodLink RX2 61 yJ9_floorDiv_7cf53, .static yJ9_floorDiv_7cf53, .initialized RJ9, .code yJ9_floorDiv_7cf53 cJ9_floorDiv_7cf53 3 (some .int)] ++ wsX20)
def wsX2_markAll : List Cond := .code yX2_markAll cX2_markAll 6 (some .int) :: ([.fieldLink RX2 18 "StrokeCuts$Scene" "marks" "[I", .methodLink RX2 34 yX2_dots, .instanceMethod yX2_dots, .selects RX2 yX2_dots yX2_dots, .initialized RX2, .code yX2_dots cX2_dots 1 (some .int), .fieldLink RX2 21 "StrokeCuts$Scene" "width" "I", .fieldLink RX2 25 "StrokeCuts$Scene" "height" "I", .static yX4_has, .initialized RX4, .code yX4_has cX4_has 3 (some .boolean)] ++ wsX20)
def wsX2_markRest : List Cond := .code yX2_markRest cX2_markRest 5 (some .int) :: ([.fieldLink RX2 18 "StrokeCuts$Scene" "marks" "[I", .methodLink RX2 34 yX2_dots, .instanceMethod yX2_dots, .selects RX2 yX2_dots yX2_dots, .initialized RX2, .code yX2_dots cX2_dots 1 (some .int), .fieldLink RX2 21 "StrokeCuts$Scene" "width" "I", .fieldLink RX2 25 "StrokeCuts$Scene" "height" "I", .static yX4_has, .initialized RX4, .code yX4_has cX4_has 3 (some .boolean)] ++ wsX20)
def wsX2_swapSides : List Cond := .code yX2_swapSides cX2_swapSides 3 (some .int) :: ([.fieldLink RX2 18 "StrokeCuts$Scene" "marks" "[I", .fieldLink RX2 9 "StrokeCuts$Scene" "settings" "[I", .methodLink RX2 34 yX2_dots, .instanceMethod yX2_dots, .selects RX2 yX2_dots yX2_dots, .initialized RX2, .code yX2_dots cX2_dots 1 (some .int), .fieldLink RX2 21 "StrokeCuts$Scene" "width" "I", .fieldLink RX2 25 "StrokeCuts$Scene" "height" "I"] ++ wsX20)
def wsX2_learnTone : List Cond := .code yX2_learnTone cX2_learnTone 7 (some .boolean) :: ([.fieldLink RX2 15 "StrokeCuts$Scene" "shades" "[I", .fieldLink RX2 9 "StrokeCuts$Scene" "settings" "[I", .methodLink RX2 34 yX2_dots, .instanceMethod yX2_dots, .selects RX2 yX2_dots yX2_dots, .initialized RX2, .code yX2_dots cX2_dots 1 (some .int), .fieldLink RX2 21 "StrokeCuts$Scene" "width" "I", .fieldLink RX2 25 "StrokeCuts$Scene" "height" "I", .static yX4_has, .initialized RX4, .code yX4_has cX4_has 3 (some .boolean)] ++ wsX20)
def wsX2_learnTones : List Cond := .code yX2_learnTones cX2_learnTones 5 (some .boolean) :: ([.constantLong RX2 76 (-1), .methodLink RX2 68 yX2_learnTone, .instanceMethod yX2_learnTone, .selects RX2 yX2_learnTone yX2_learnTone, .initialized RX2, .code yX2_learnTone cX2_learnTone 7 (some .boolean), .fieldLink RX2 15 "StrokeCuts$Scene" "shades" "[I", .fieldLink RX2 9 "StrokeCuts$Scene" "settings" "[I", .methodLink RX2 34 yX2_dots, .instanceMethod yX2_dots, .selects RX2 yX2_dots yX2_dots, .code yX2_dots cX2_dots 1 (some .int), .fieldLink RX2 21 "StrokeCuts$Scene" "width" "I", .fieldLink RX2 25 "StrokeCuts$Scene" "height" "I", .static yX4_has, .initialized RX4, .code yX4_has cX4_has 3 (some .boolean), .methodLink RX2 72 yX2_allDots, .instanceMethod yX2_allDots, .selects RX2 yX2_allDots yX2_allDots, .code yX2_allDots cX2_allDots 1 (some .long)] ++ wsX20)
def wsX2_isCutOut : List Cond := .code yX2_isCutOut cX2_isCutOut 4 (some .boolean) :: ([.fieldLink RX2 18 "StrokeCuts$Scene" "marks" "[I", .methodLink RX2 34 yX2_dots, .instanceMethod yX2_dots, .selects RX2 yX2_dots yX2_dots, .initialized RX2, .code yX2_dots cX2_dots 1 (some .int), .fieldLink RX2 21 "StrokeCuts$Scene" "width" "I", .fieldLink RX2 25 "StrokeCuts$Scene" "height" "I", .static yX4_has, .initialized RX4, .code yX4_has cX4_has 3 (some .boolean)] ++ wsX20)
def wsX2_linkCosts_r1 : List Cond := [Cond.methodLink RX2 48 yX2_numberOf, Cond.instanceMethod yX2_numberOf, Cond.selects RX2 yX2_numberOf yX2_numberOf, Cond.initialized RX2, Cond.code yX2_numberOf cX2_numberOf 3 (some .int), Cond.fieldLink RX2 21 "StrokeCuts$Scene" "width" "I", Cond.methodLink RX2 85 yX2_linkedTo, Cond.instanceMethod yX2_linkedTo, Cond.selects RX2 yX2_linkedTo yX2_linkedTo, Cond.code yX2_linkedTo cX2_linkedTo 6 (some .int), Cond.fieldLink RX2 9 "StrokeCuts$Scene" "settings" "[I", Cond.methodLink RX2 44 yX2_hasDot, Cond.instanceMethod yX2_hasDot, Cond.selects RX2 yX2_hasDot yX2_hasDot, Cond.code yX2_hasDot cX2_hasDot 3 (some .boolean), Cond.fieldLink RX2 25 "StrokeCuts$Scene" "height" "I", Cond.static yX4_has, Cond.initialized RX4, Cond.code yX4_has cX4_has 3 (some .boolean), Cond.methodLink RX2 89 yX2_weightOf, Cond.instanceMethod yX2_weightOf, Cond.selects RX2 yX2_weightOf yX2_weightOf, Cond.code yX2_weightOf cX2_weightOf 6 (some .int), Cond.fieldLink RX2 15 "StrokeCuts$Scene" "shades" "[I"]
def wsX2_linkCosts_r2 : List Cond := [Cond.methodLink RX2 52 Lib.Math.abs.name, Cond.static Lib.Math.abs.name, Cond.initialized "java/lang/Math", Cond.code Lib.Math.abs.name Lib.Math.abs.code 1 (some .int), Cond.methodLink RX2 58 Lib.Math.max.name, Cond.static Lib.Math.max.name, Cond.code Lib.Math.max.name Lib.Math.max.code 2 (some .int)]
def wsX2_linkCosts : List Cond := .code yX2_linkCosts cX2_linkCosts 9 (some .int) :: ((wsX2_linkCosts_r1 ++ wsX2_linkCosts_r2) ++ wsX20)
def wsX2_costOf_r1 : List Cond := [Cond.fieldLink RX2 25 "StrokeCuts$Scene" "height" "I", Cond.fieldLink RX2 21 "StrokeCuts$Scene" "width" "I", Cond.methodLink RX2 48 yX2_numberOf, Cond.instanceMethod yX2_numberOf, Cond.selects RX2 yX2_numberOf yX2_numberOf, Cond.initialized RX2, Cond.code yX2_numberOf cX2_numberOf 3 (some .int), Cond.static yX4_has, Cond.initialized RX4, Cond.code yX4_has cX4_has 3 (some .boolean), Cond.methodLink RX2 78 yX2_pullFrom, Cond.instanceMethod yX2_pullFrom, Cond.selects RX2 yX2_pullFrom yX2_pullFrom, Cond.code yX2_pullFrom cX2_pullFrom 3 (some .int), Cond.fieldLink RX2 9 "StrokeCuts$Scene" "settings" "[I", Cond.fieldLink RX2 15 "StrokeCuts$Scene" "shades" "[I", Cond.methodLink RX2 52 Lib.Math.abs.name, Cond.static Lib.Math.abs.name, Cond.initialized "java/lang/Math", Cond.code Lib.Math.abs.name Lib.Math.abs.code 1 (some .int), Cond.methodLink RX2 81 yX2_linkCosts, Cond.instanceMethod yX2_linkCosts, Cond.selects RX2 yX2_linkCosts yX2_linkCosts, Cond.code yX2_linkCosts cX2_linkCosts 9 (some .int)]
def wsX2_costOf_r2 : List Cond := [Cond.methodLink RX2 85 yX2_linkedTo, Cond.instanceMethod yX2_linkedTo, Cond.selects RX2 yX2_linkedTo yX2_linkedTo, Cond.code yX2_linkedTo cX2_linkedTo 6 (some .int), Cond.methodLink RX2 44 yX2_hasDot, Cond.instanceMethod yX2_hasDot, Cond.selects RX2 yX2_hasDot yX2_hasDot, Cond.code yX2_hasDot cX2_hasDot 3 (some .boolean), Cond.methodLink RX2 89 yX2_weightOf, Cond.instanceMethod yX2_weightOf, Cond.selects RX2 yX2_weightOf yX2_weightOf, Cond.code yX2_weightOf cX2_weightOf 6 (some .int), Cond.methodLink RX2 58 Lib.Math.max.name, Cond.static Lib.Math.max.name, Cond.code Lib.Math.max.name Lib.Math.max.code 2 (some .int)]
def wsX2_costOf : List Cond := .code yX2_costOf cX2_costOf 7 (some .int) :: ((wsX2_costOf_r1 ++ wsX2_costOf_r2) ++ wsX20)
def wsX2_column : List Cond := .code yX2_column cX2_column 5 (some .long) :: ([.fieldLink RX2 25 "StrokeCuts$Scene" "height" "I", .methodLink RX2 48 yX2_numberOf, .instanceMethod yX2_numberOf, .selects RX2 yX2_numberOf yX2_numberOf, .initialized RX2, .code yX2_numberOf cX2_numberOf 3 (some .int), .fieldLink RX2 21 "StrokeCuts$Scene" "width" "I"] ++ wsX20)
def wsX2_row : List Cond := .code yX2_row cX2_row 5 (some .long) :: ([.fieldLink RX2 21 "StrokeCuts$Scene" "width" "I", .methodLink RX2 48 yX2_numberOf, .instanceMethod yX2_numberOf, .selects RX2 yX2_numberOf yX2_numberOf, .initialized RX2, .code yX2_numberOf cX2_numberOf 3 (some .int)] ++ wsX20)
def wsX2_border : List Cond := .code yX2_border cX2_border 1 (some .long) :: ([.fieldLink RX2 21 "StrokeCuts$Scene" "width" "I", .fieldLink RX2 25 "StrokeCuts$Scene" "height" "I", .methodLink RX2 92 yX2_column, .instanceMethod yX2_column, .selects RX2 yX2_column yX2_column, .initialized RX2, .code yX2_column cX2_column 5 (some .long), .methodLink RX2 48 yX2_numberOf, .instanceMethod yX2_numberOf, .selects RX2 yX2_numberOf yX2_numberOf, .code yX2_numberOf cX2_numberOf 3 (some .int), .methodLink RX2 96 yX2_row, .instanceMethod yX2_row, .selects RX2 yX2_row yX2_row, .code yX2_row cX2_row 5 (some .long)] ++ wsX20)
def wsX2_pieceOf : List Cond := .code yX2_pieceOf cX2_pieceOf 16 (some .long) :: ([.constantLong RX2 76 (-1), .fieldLink RX2 21 "StrokeCuts$Scene" "width" "I", .methodLink RX2 92 yX2_column, .instanceMethod yX2_column, .selects RX2 yX2_column yX2_column, .initialized RX2, .code yX2_column cX2_column 5 (some .long), .fieldLink RX2 25 "StrokeCuts$Scene" "height" "I", .methodLink RX2 48 yX2_numberOf, .instanceMethod yX2_numberOf, .selects RX2 yX2_numberOf yX2_numberOf, .code yX2_numberOf cX2_numberOf 3 (some .int), .methodLink RX2 34 yX2_dots, .instanceMethod yX2_dots, .selects RX2 yX2_dots yX2_dots, .code yX2_dots cX2_dots 1 (some .int)] ++ wsX20)
def wsX2_countPieces : List Cond := .code yX2_countPieces cX2_countPieces 11 (some .int) :: ([.constantLong RX2 76 (-1), .methodLink RX2 34 yX2_dots, .instanceMethod yX2_dots, .selects RX2 yX2_dots yX2_dots, .initialized RX2, .code yX2_dots cX2_dots 1 (some .int), .fieldLink RX2 21 "StrokeCuts$Scene" "width" "I", .fieldLink RX2 25 "StrokeCuts$Scene" "height" "I", .methodLink RX2 106 yX2_pieceOf, .instanceMethod yX2_pieceOf, .selects RX2 yX2_pieceOf yX2_pieceOf, .code yX2_pieceOf cX2_pieceOf 16 (some .long), .methodLink RX2 92 yX2_column, .instanceMethod yX2_column, .selects RX2 yX2_column yX2_column, .code yX2_column cX2_column 5 (some .long), .methodLink RX2 48 yX2_numberOf, .instanceMethod yX2_numberOf, .selects RX2 yX2_numberOf yX2_numberOf, .code yX2_numberOf cX2_numberOf 3 (some .int)] ++ wsX20)
def wsX2_pieces : List Cond := .code yX2_pieces cX2_pieces 3 (some .int) :: ([.methodLink RX2 99 yX2_countPieces, .instanceMethod yX2_countPieces, .selects RX2 yX2_countPieces yX2_countPieces, .initialized RX2, .code yX2_countPieces cX2_countPieces 11 (some .int), .constantLong RX2 76 (-1), .methodLink RX2 34 yX2_dots, .instanceMethod yX2_dots, .selects RX2 yX2_dots yX2_dots, .code yX2_dots cX2_dots 1 (some .int), .fieldLink RX2 21 "StrokeCuts$Scene" "width" "I", .fieldLink RX2 25 "StrokeCuts$Scene" "height" "I", .methodLink RX2 106 yX2_pieceOf, .instanceMethod yX2_pieceOf, .selects RX2 yX2_pieceOf yX2_pieceOf, .code yX2_pieceOf cX2_pieceOf 16 (some .long), .methodLink RX2 92 yX2_column, .instanceMethod yX2_column, .selects RX2 yX2_column yX2_column, .code yX2_column cX2_column 5 (some .long), .methodLink RX2 48 yX2_numberOf, .instanceMethod yX2_numberOf, .selects RX2 yX2_numberOf yX2_numberOf, .code yX2_numberOf cX2_numberOf 3 (some .int)] ++ wsX20)
def wsX2_holes_r1 : List Cond := [Cond.constantLong RX2 76 (-1), Cond.methodLink RX2 72 yX2_allDots, Cond.instanceMethod yX2_allDots, Cond.selects RX2 yX2_allDots yX2_allDots, Cond.initialized RX2, Cond.code yX2_allDots cX2_allDots 1 (some .long), Cond.methodLink RX2 34 yX2_dots, Cond.instanceMethod yX2_dots, Cond.selects RX2 yX2_dots yX2_dots, Cond.code yX2_dots cX2_dots 1 (some .int), Cond.fieldLink RX2 21 "StrokeCuts$Scene" "width" "I", Cond.fieldLink RX2 25 "StrokeCuts$Scene" "height" "I", Cond.methodLink RX2 103 yX2_border, Cond.instanceMethod yX2_border, Cond.selects RX2 yX2_border yX2_border, Cond.code yX2_border cX2_border 1 (some .long), Cond.methodLink RX2 92 yX2_column, Cond.instanceMethod yX2_column, Cond.selects RX2 yX2_column yX2_column, Cond.code yX2_column cX2_column 5 (some .long), Cond.methodLink RX2 48 yX2_numberOf, Cond.instanceMethod yX2_numberOf, Cond.selects RX2 yX2_numberOf yX2_numberOf, Cond.code yX2_numberOf cX2_numberOf 3 (some .int)]
def wsX2_holes_r2 : List Cond := [Cond.methodLink RX2 96 yX2_row, Cond.instanceMethod yX2_row, Cond.selects RX2 yX2_row yX2_row, Cond.code yX2_row cX2_row 5 (some .long), Cond.methodLink RX2 99 yX2_countPieces, Cond.instanceMethod yX2_countPieces, Cond.selects RX2 yX2_countPieces yX2_countPieces, Cond.code yX2_countPieces cX2_countPieces 11 (some .int), Cond.methodLink RX2 106 yX2_pieceOf, Cond.instanceMethod yX2_pieceOf, Cond.selects RX2 yX2_pieceOf yX2_pieceOf, Cond.code yX2_pieceOf cX2_pieceOf 16 (some .long)]
def wsX2_holes : List Cond := .code yX2_holes cX2_holes 3 (some .int) :: ((wsX2_holes_r1 ++ wsX2_holes_r2) ++ wsX20)
def wsJ13_bitCount_95d88 : List Cond := .code yJ13_bitCount_95d88 cJ13_bitCount_95d88 2 (some .int) :: ([.constantLong RJ13 314 (6148914691236517205), .constantLong RJ13 316 (3689348814741910323), .constantLong RJ13 318 (1085102592571150095)])
def wsX2_edges : List Cond := .code yX2_edges cX2_edges 7 (some .int) :: ([.fieldLink RX2 21 "StrokeCuts$Scene" "width" "I", .constantLong RX2 76 (-1), .methodLink RX2 92 yX2_column, .instanceMethod yX2_column, .selects RX2 yX2_column yX2_column, .initialized RX2, .code yX2_column cX2_column 5 (some .long), .fieldLink RX2 25 "StrokeCuts$Scene" "height" "I", .methodLink RX2 48 yX2_numberOf, .instanceMethod yX2_numberOf, .selects RX2 yX2_numberOf yX2_numberOf, .code yX2_numberOf cX2_numberOf 3 (some .int), .methodLink RX2 110 yJ13_bitCount_95d88, .static yJ13_bitCount_95d88, .initialized RJ13, .code yJ13_bitCount_95d88 cJ13_bitCount_95d88 2 (some .int), .constantLong RJ13 314 (6148914691236517205), .constantLong RJ13 316 (3689348814741910323), .constantLong RJ13 318 (1085102592571150095)] ++ wsX20)
def wsX2_firstColumn : List Cond := .code yX2_firstColumn cX2_firstColumn 4 (some .int) :: ([.fieldLink RX2 21 "StrokeCuts$Scene" "width" "I", .methodLink RX2 92 yX2_column, .instanceMethod yX2_column, .selects RX2 yX2_column yX2_column, .initialized RX2, .code yX2_column cX2_column 5 (some .long), .fieldLink RX2 25 "StrokeCuts$Scene" "height" "I", .methodLink RX2 48 yX2_numberOf, .instanceMethod yX2_numberOf, .selects RX2 yX2_numberOf yX2_numberOf, .code yX2_numberOf cX2_numberOf 3 (some .int)] ++ wsX20)
def wsX2_firstRow : List Cond := .code yX2_firstRow cX2_firstRow 4 (some .int) :: ([.fieldLink RX2 25 "StrokeCuts$Scene" "height" "I", .methodLink RX2 96 yX2_row, .instanceMethod yX2_row, .selects RX2 yX2_row yX2_row, .initialized RX2, .code yX2_row cX2_row 5 (some .long), .fieldLink RX2 21 "StrokeCuts$Scene" "width" "I", .methodLink RX2 48 yX2_numberOf, .instanceMethod yX2_numberOf, .selects RX2 yX2_numberOf yX2_numberOf, .code yX2_numberOf cX2_numberOf 3 (some .int)] ++ wsX20)
def wsX2_lastColumn : List Cond := .code yX2_lastColumn cX2_lastColumn 4 (some .int) :: ([.fieldLink RX2 21 "StrokeCuts$Scene" "width" "I", .methodLink RX2 92 yX2_column, .instanceMethod yX2_column, .selects RX2 yX2_column yX2_column, .initialized RX2, .code yX2_column cX2_column 5 (some .long), .fieldLink RX2 25 "StrokeCuts$Scene" "height" "I", .methodLink RX2 48 yX2_numberOf, .instanceMethod yX2_numberOf, .selects RX2 yX2_numberOf yX2_numberOf, .code yX2_numberOf cX2_numberOf 3 (some .int)] ++ wsX20)
def wsX2_lastRow : List Cond := .code yX2_lastRow cX2_lastRow 4 (some .int) :: ([.fieldLink RX2 25 "StrokeCuts$Scene" "height" "I", .methodLink RX2 96 yX2_row, .instanceMethod yX2_row, .selects RX2 yX2_row yX2_row, .initialized RX2, .code yX2_row cX2_row 5 (some .long), .fieldLink RX2 21 "StrokeCuts$Scene" "width" "I", .methodLink RX2 48 yX2_numberOf, .instanceMethod yX2_numberOf, .selects RX2 yX2_numberOf yX2_numberOf, .code yX2_numberOf cX2_numberOf 3 (some .int)] ++ wsX20)
def wsX3_init : List Cond := .code yX3_init cX3_init 1 none :: ([.methodLink RX3 3 objectInit, .instanceMethod objectInit, .code objectInit ⟨#[0xb1]⟩ 1 none, .arrayClass .int, .fieldLink RX3 11 "StrokeCuts$Script" "bytes" "[I", .fieldLink RX3 15 "StrokeCuts$Script" "numbers" "[I"] ++ wsX30)
def wsX3_takeByte : List Cond := .code yX3_takeByte cX3_takeByte 2 (some .boolean) :: ([.fieldLink RX3 18 "StrokeCuts$Script" "length" "I", .fieldLink RX3 11 "StrokeCuts$Script" "bytes" "[I"] ++ wsX30)
def wsX3_rewind : List Cond := .code yX3_rewind cX3_rewind 1 none :: ([.fieldLink RX3 22 "StrokeCuts$Script" "place" "I"] ++ wsX30)
def wsX3_number : List Cond := .code yX3_number cX3_number 2 (some .int) :: ([.fieldLink RX3 25 "StrokeCuts$Script" "numberCount" "I", .fieldLink RX3 15 "StrokeCuts$Script" "numbers" "[I"] ++ wsX30)
def wsX3_peekSign : List Cond := .code yX3_peekSign cX3_peekSign 1 (some .int) :: ([.fieldLink RX3 22 "StrokeCuts$Script" "place" "I", .fieldLink RX3 18 "StrokeCuts$Script" "length" "I", .fieldLink RX3 11 "StrokeCuts$Script" "bytes" "[I"] ++ wsX30)
def wsX4_isWithin : List Cond := .code yX4_isWithin cX4_isWithin 3 (some .boolean) :: ([])
def wsX3_readFigure : List Cond := .code yX3_readFigure cX3_readFigure 4 (some .boolean) :: ([.fieldLink RX3 25 "StrokeCuts$Script" "numberCount" "I", .fieldLink RX3 15 "StrokeCuts$Script" "numbers" "[I", .fieldLink RX3 22 "StrokeCuts$Script" "place" "I", .methodLink RX3 34 yX3_peekSign, .instanceMethod yX3_peekSign, .selects RX3 yX3_peekSign yX3_peekSign, .initialized RX3, .code yX3_peekSign cX3_peekSign 1 (some .int), .fieldLink RX3 18 "StrokeCuts$Script" "length" "I", .fieldLink RX3 11 "StrokeCuts$Script" "bytes" "[I", .static yX4_isWithin, .initialized RX4, .code yX4_isWithin cX4_isWithin 3 (some .boolean)] ++ wsX30)
def wsX3_readDot : List Cond := .code yX3_readDot cX3_readDot 3 (some .boolean) :: ([.methodLink RX3 52 yX3_readFigure, .instanceMethod yX3_readFigure, .selects RX3 yX3_readFigure yX3_readFigure, .initialized RX3, .code yX3_readFigure cX3_readFigure 4 (some .boolean), .fieldLink RX3 25 "StrokeCuts$Script" "numberCount" "I", .fieldLink RX3 15 "StrokeCuts$Script" "numbers" "[I", .fieldLink RX3 22 "StrokeCuts$Script" "place" "I", .methodLink RX3 34 yX3_peekSign, .instanceMethod yX3_peekSign, .selects RX3 yX3_peekSign yX3_peekSign, .code yX3_peekSign cX3_peekSign 1 (some .int), .fieldLink RX3 18 "StrokeCuts$Script" "length" "I", .fieldLink RX3 11 "StrokeCuts$Script" "bytes" "[I", .static yX4_isWithin, .initialized RX4, .code yX4_isWithin cX4_isWithin 3 (some .boolean)] ++ wsX30)
def wsX3_readEnd : List Cond := .code yX3_readEnd cX3_readEnd 1 (some .boolean) :: ([.fieldLink RX3 22 "StrokeCuts$Script" "place" "I", .methodLink RX3 34 yX3_peekSign, .instanceMethod yX3_peekSign, .selects RX3 yX3_peekSign yX3_peekSign, .initialized RX3, .code yX3_peekSign cX3_peekSign 1 (some .int), .fieldLink RX3 18 "StrokeCuts$Script" "length" "I", .fieldLink RX3 11 "StrokeCuts$Script" "bytes" "[I"] ++ wsX30)
def wsX3_readOrder_r1 : List Cond := [Cond.fieldLink RX3 25 "StrokeCuts$Script" "numberCount" "I", Cond.fieldLink RX3 42 "StrokeCuts$Script" "kind" "I", Cond.fieldLink RX3 22 "StrokeCuts$Script" "place" "I", Cond.methodLink RX3 34 yX3_peekSign, Cond.instanceMethod yX3_peekSign, Cond.selects RX3 yX3_peekSign yX3_peekSign, Cond.initialized RX3, Cond.code yX3_peekSign cX3_peekSign 1 (some .int), Cond.fieldLink RX3 18 "StrokeCuts$Script" "length" "I", Cond.fieldLink RX3 11 "StrokeCuts$Script" "bytes" "[I", Cond.methodLink RX3 45 yX3_readDot, Cond.instanceMethod yX3_readDot, Cond.selects RX3 yX3_readDot yX3_readDot, Cond.code yX3_readDot cX3_readDot 3 (some .boolean), Cond.methodLink RX3 52 yX3_readFigure, Cond.instanceMethod yX3_readFigure, Cond.selects RX3 yX3_readFigure yX3_readFigure, Cond.code yX3_readFigure cX3_readFigure 4 (some .boolean), Cond.fieldLink RX3 15 "StrokeCuts$Script" "numbers" "[I", Cond.static yX4_isWithin, Cond.initialized RX4, Cond.code yX4_isWithin cX4_isWithin 3 (some .boolean), Cond.methodLink RX3 48 yX3_readEnd, Cond.instanceMethod yX3_readEnd]
def wsX3_readOrder_r2 : List Cond := [Cond.selects RX3 yX3_readEnd yX3_readEnd, Cond.code yX3_readEnd cX3_readEnd 1 (some .boolean)]
def wsX3_readOrder : List Cond := .code yX3_readOrder cX3_readOrder 3 (some .boolean) :: ((wsX3_readOrder_r1 ++ wsX3_readOrder_r2) ++ wsX30)
def wsX3_findFault_r1 : List Cond := [Cond.fieldLink RX3 31 "StrokeCuts$Script" "orders" "I", Cond.fieldLink RX3 22 "StrokeCuts$Script" "place" "I", Cond.methodLink RX3 28 yX3_rewind, Cond.instanceMethod yX3_rewind, Cond.selects RX3 yX3_rewind yX3_rewind, Cond.initialized RX3, Cond.code yX3_rewind cX3_rewind 1 none, Cond.methodLink RX3 34 yX3_peekSign, Cond.instanceMethod yX3_peekSign, Cond.selects RX3 yX3_peekSign yX3_peekSign, Cond.code yX3_peekSign cX3_peekSign 1 (some .int), Cond.fieldLink RX3 18 "StrokeCuts$Script" "length" "I", Cond.fieldLink RX3 11 "StrokeCuts$Script" "bytes" "[I", Cond.methodLink RX3 38 yX3_readOrder, Cond.instanceMethod yX3_readOrder, Cond.selects RX3 yX3_readOrder yX3_readOrder, Cond.code yX3_readOrder cX3_readOrder 3 (some .boolean), Cond.fieldLink RX3 25 "StrokeCuts$Script" "numberCount" "I", Cond.fieldLink RX3 42 "StrokeCuts$Script" "kind" "I", Cond.methodLink RX3 45 yX3_readDot, Cond.instanceMethod yX3_readDot, Cond.selects RX3 yX3_readDot yX3_readDot, Cond.code yX3_readDot cX3_readDot 3 (some .boolean), Cond.methodLink RX3 52 yX3_readFigure]
def wsX3_findFault_r2 : List Cond := [Cond.instanceMethod yX3_readFigure, Cond.selects RX3 yX3_readFigure yX3_readFigure, Cond.code yX3_readFigure cX3_readFigure 4 (some .boolean), Cond.fieldLink RX3 15 "StrokeCuts$Script" "numbers" "[I", Cond.static yX4_isWithin, Cond.initialized RX4, Cond.code yX4_isWithin cX4_isWithin 3 (some .boolean), Cond.methodLink RX3 48 yX3_readEnd, Cond.instanceMethod yX3_readEnd, Cond.selects RX3 yX3_readEnd yX3_readEnd, Cond.code yX3_readEnd cX3_readEnd 1 (some .boolean)]
def wsX3_findFault : List Cond := .code yX3_findFault cX3_findFault 4 (some .int) :: ((wsX3_findFault_r1 ++ wsX3_findFault_r2) ++ wsX30)
def wsX4_init_r1 : List Cond := [Cond.methodLink RX4 3 objectInit, Cond.instanceMethod objectInit, Cond.code objectInit ⟨#[0xb1]⟩ 1 none, Cond.classLink RX4 9 RX2, Cond.instantiable RX2 5, Cond.initialized RX2, Cond.fieldLink RX4 12 "StrokeCuts" "scene" "LStrokeCuts$Scene;", Cond.classLink RX4 16 RX0, Cond.instantiable RX0 3, Cond.initialized RX0, Cond.fieldLink RX4 19 "StrokeCuts" "past" "LStrokeCuts$History;", Cond.classLink RX4 23 RX1, Cond.instantiable RX1 8, Cond.initialized RX1, Cond.fieldLink RX4 26 "StrokeCuts" "network" "LStrokeCuts$Network;", Cond.classLink RX4 30 RX3, Cond.instantiable RX3 7, Cond.initialized RX3, Cond.fieldLink RX4 33 "StrokeCuts" "script" "LStrokeCuts$Script;", Cond.methodLink RX4 11 yX2_init, Cond.instanceMethod yX2_init, Cond.code yX2_init cX2_init 1 none, Cond.methodLink RX2 3 objectInit, Cond.arrayClass .int]
def wsX4_init_r2 : List Cond := [Cond.fieldLink RX2 9 "StrokeCuts$Scene" "settings" "[I", Cond.fieldLink RX2 15 "StrokeCuts$Scene" "shades" "[I", Cond.fieldLink RX2 18 "StrokeCuts$Scene" "marks" "[I", Cond.fieldLink RX2 21 "StrokeCuts$Scene" "width" "I", Cond.fieldLink RX2 25 "StrokeCuts$Scene" "height" "I", Cond.methodLink RX4 18 yX0_init, Cond.instanceMethod yX0_init, Cond.code yX0_init cX0_init 2 none, Cond.methodLink RX0 1 objectInit, Cond.classLink RX0 9 RX2, Cond.fieldLink RX0 11 "StrokeCuts$History" "kept" "[LStrokeCuts$Scene;", Cond.methodLink RX0 15 yX2_init, Cond.instanceMethod yX1_init, Cond.code yX1_init cX1_init 1 none, Cond.methodLink RX1 3 objectInit, Cond.fieldLink RX1 9 "StrokeCuts$Network" "fromFigure" "[I", Cond.fieldLink RX1 15 "StrokeCuts$Network" "toGround" "[I", Cond.fieldLink RX1 18 "StrokeCuts$Network" "neighbour" "[I", Cond.fieldLink RX1 21 "StrokeCuts$Network" "room" "[I", Cond.fieldLink RX1 24 "StrokeCuts$Network" "distance" "[I", Cond.fieldLink RX1 27 "StrokeCuts$Network" "queue" "[I", Cond.instanceMethod yX3_init, Cond.code yX3_init cX3_init 1 none, Cond.methodLink RX3 3 objectInit]
def wsX4_init_r3 : List Cond := [Cond.fieldLink RX3 11 "StrokeCuts$Script" "bytes" "[I", Cond.fieldLink RX3 15 "StrokeCuts$Script" "numbers" "[I"]
def wsX4_init : List Cond := .code yX4_init cX4_init 1 none :: ((wsX4_init_r1 ++ (wsX4_init_r2 ++ wsX4_init_r3)) ++ wsX20 ++ wsX40 ++ wsX00 ++ wsX10 ++ wsX30)
def wsX4_refuseBad : List Cond := .code yX4_refuseBad cX4_refuseBad 1 (some .int) :: ([.fieldLink RX4 236 "StrokeCuts" "badCalls" "I"] ++ wsX40)
def wsX4_picture_r1 : List Cond := [Cond.fieldLink RX4 19 "StrokeCuts" "past" "LStrokeCuts$History;", Cond.fieldLink RX4 12 "StrokeCuts" "scene" "LStrokeCuts$Scene;", Cond.methodLink RX4 37 yX4_isWithin, Cond.static yX4_isWithin, Cond.initialized RX4, Cond.code yX4_isWithin cX4_isWithin 3 (some .boolean), Cond.methodLink RX4 41 yX4_refuseBad, Cond.instanceMethod yX4_refuseBad, Cond.selects RX4 yX4_refuseBad yX4_refuseBad, Cond.code yX4_refuseBad cX4_refuseBad 1 (some .int), Cond.fieldLink RX4 236 "StrokeCuts" "badCalls" "I", Cond.methodLink RX4 45 yX0_remember, Cond.instanceMethod yX0_remember, Cond.selects RX0 yX0_remember yX0_remember, Cond.initialized RX0, Cond.code yX0_remember cX0_remember 3 none, Cond.fieldLink RX0 11 "StrokeCuts$History" "kept" "[LStrokeCuts$Scene;", Cond.fieldLink RX0 16 "StrokeCuts$History" "next" "I", Cond.fieldLink RX0 24 "StrokeCuts$History" "count" "I", Cond.methodLink RX0 27 Lib.Math.min.name, Cond.static Lib.Math.min.name, Cond.initialized "java/lang/Math", Cond.code Lib.Math.min.name Lib.Math.min.code 2 (some .int), Cond.methodLink RX0 20 yX2_copyFrom]
def wsX4_picture_r2 : List Cond := [Cond.instanceMethod yX2_copyFrom, Cond.selects RX2 yX2_copyFrom yX2_copyFrom, Cond.initialized RX2, Cond.code yX2_copyFrom cX2_copyFrom 2 none, Cond.fieldLink RX2 21 "StrokeCuts$Scene" "width" "I", Cond.fieldLink RX2 25 "StrokeCuts$Scene" "height" "I", Cond.fieldLink RX2 9 "StrokeCuts$Scene" "settings" "[I", Cond.methodLink RX2 28 arraycopyName, Cond.native arraycopyName, Cond.static arraycopyName, Cond.initialized "java/lang/System", Cond.fieldLink RX2 15 "StrokeCuts$Scene" "shades" "[I", Cond.fieldLink RX2 18 "StrokeCuts$Scene" "marks" "[I", Cond.methodLink RX4 49 yX2_startBlank, Cond.instanceMethod yX2_startBlank, Cond.selects RX2 yX2_startBlank yX2_startBlank, Cond.code yX2_startBlank cX2_startBlank 4 none, Cond.methodLink RX4 53 yX2_dots, Cond.instanceMethod yX2_dots, Cond.selects RX2 yX2_dots yX2_dots, Cond.code yX2_dots cX2_dots 1 (some .int)]
def wsX4_picture : List Cond := .code yX4_picture cX4_picture 3 (some .int) :: ((wsX4_picture_r1 ++ wsX4_picture_r2) ++ wsX40 ++ wsX00 ++ wsX20)
def wsX4_shade_r1 : List Cond := [Cond.fieldLink RX4 12 "StrokeCuts" "scene" "LStrokeCuts$Scene;", Cond.fieldLink RX4 19 "StrokeCuts" "past" "LStrokeCuts$History;", Cond.fieldLink RX4 64 "StrokeCuts$Scene" "shades" "[I", Cond.methodLink RX4 56 yX2_hasDot, Cond.instanceMethod yX2_hasDot, Cond.selects RX2 yX2_hasDot yX2_hasDot, Cond.initialized RX2, Cond.code yX2_hasDot cX2_hasDot 3 (some .boolean), Cond.fieldLink RX2 21 "StrokeCuts$Scene" "width" "I", Cond.fieldLink RX2 25 "StrokeCuts$Scene" "height" "I", Cond.methodLink RX4 37 yX4_isWithin, Cond.static yX4_isWithin, Cond.initialized RX4, Cond.code yX4_isWithin cX4_isWithin 3 (some .boolean), Cond.methodLink RX4 41 yX4_refuseBad, Cond.instanceMethod yX4_refuseBad, Cond.selects RX4 yX4_refuseBad yX4_refuseBad, Cond.code yX4_refuseBad cX4_refuseBad 1 (some .int), Cond.fieldLink RX4 236 "StrokeCuts" "badCalls" "I", Cond.methodLink RX4 45 yX0_remember, Cond.instanceMethod yX0_remember, Cond.selects RX0 yX0_remember yX0_remember, Cond.initialized RX0, Cond.code yX0_remember cX0_remember 3 none]
def wsX4_shade_r2 : List Cond := [Cond.fieldLink RX0 11 "StrokeCuts$History" "kept" "[LStrokeCuts$Scene;", Cond.fieldLink RX0 16 "StrokeCuts$History" "next" "I", Cond.fieldLink RX0 24 "StrokeCuts$History" "count" "I", Cond.methodLink RX0 27 Lib.Math.min.name, Cond.static Lib.Math.min.name, Cond.initialized "java/lang/Math", Cond.code Lib.Math.min.name Lib.Math.min.code 2 (some .int), Cond.methodLink RX0 20 yX2_copyFrom, Cond.instanceMethod yX2_copyFrom, Cond.selects RX2 yX2_copyFrom yX2_copyFrom, Cond.code yX2_copyFrom cX2_copyFrom 2 none, Cond.fieldLink RX2 9 "StrokeCuts$Scene" "settings" "[I", Cond.methodLink RX2 28 arraycopyName, Cond.native arraycopyName, Cond.static arraycopyName, Cond.initialized "java/lang/System", Cond.fieldLink RX2 15 "StrokeCuts$Scene" "shades" "[I", Cond.fieldLink RX2 18 "StrokeCuts$Scene" "marks" "[I", Cond.methodLink RX4 60 yX2_numberOf, Cond.instanceMethod yX2_numberOf, Cond.selects RX2 yX2_numberOf yX2_numberOf, Cond.code yX2_numberOf cX2_numberOf 3 (some .int)]
def wsX4_shade : List Cond := .code yX4_shade cX4_shade 6 (some .int) :: ((wsX4_shade_r1 ++ wsX4_shade_r2) ++ wsX40 ++ wsX20 ++ wsX00)
def wsX4_draws_r1 : List Cond := [Cond.constant RX4 68 (999999), Cond.fieldLink RX4 19 "StrokeCuts" "past" "LStrokeCuts$History;", Cond.fieldLink RX4 12 "StrokeCuts" "scene" "LStrokeCuts$Scene;", Cond.constantLong RX4 69 (1103515245), Cond.constantLong RX4 71 (12345), Cond.constantLong RX4 73 (2147483648), Cond.fieldLink RX4 64 "StrokeCuts$Scene" "shades" "[I", Cond.constantLong RX4 75 (65536), Cond.methodLink RX4 37 yX4_isWithin, Cond.static yX4_isWithin, Cond.initialized RX4, Cond.code yX4_isWithin cX4_isWithin 3 (some .boolean), Cond.methodLink RX4 41 yX4_refuseBad, Cond.instanceMethod yX4_refuseBad, Cond.selects RX4 yX4_refuseBad yX4_refuseBad, Cond.code yX4_refuseBad cX4_refuseBad 1 (some .int), Cond.fieldLink RX4 236 "StrokeCuts" "badCalls" "I", Cond.methodLink RX4 45 yX0_remember, Cond.instanceMethod yX0_remember, Cond.selects RX0 yX0_remember yX0_remember, Cond.initialized RX0, Cond.code yX0_remember cX0_remember 3 none, Cond.fieldLink RX0 11 "StrokeCuts$History" "kept" "[LStrokeCuts$Scene;", Cond.fieldLink RX0 16 "StrokeCuts$History" "next" "I"]
def wsX4_draws_r2 : List Cond := [Cond.fieldLink RX0 24 "StrokeCuts$History" "count" "I", Cond.methodLink RX0 27 Lib.Math.min.name, Cond.static Lib.Math.min.name, Cond.initialized "java/lang/Math", Cond.code Lib.Math.min.name Lib.Math.min.code 2 (some .int), Cond.methodLink RX0 20 yX2_copyFrom, Cond.instanceMethod yX2_copyFrom, Cond.selects RX2 yX2_copyFrom yX2_copyFrom, Cond.initialized RX2, Cond.code yX2_copyFrom cX2_copyFrom 2 none, Cond.fieldLink RX2 21 "StrokeCuts$Scene" "width" "I", Cond.fieldLink RX2 25 "StrokeCuts$Scene" "height" "I", Cond.fieldLink RX2 9 "StrokeCuts$Scene" "settings" "[I", Cond.methodLink RX2 28 arraycopyName, Cond.native arraycopyName, Cond.static arraycopyName, Cond.initialized "java/lang/System", Cond.fieldLink RX2 15 "StrokeCuts$Scene" "shades" "[I", Cond.fieldLink RX2 18 "StrokeCuts$Scene" "marks" "[I", Cond.methodLink RX4 53 yX2_dots, Cond.instanceMethod yX2_dots, Cond.selects RX2 yX2_dots yX2_dots, Cond.code yX2_dots cX2_dots 1 (some .int)]
def wsX4_draws : List Cond := .code yX4_draws cX4_draws 7 (some .int) :: ((wsX4_draws_r1 ++ wsX4_draws_r2) ++ wsX40 ++ wsX20 ++ wsX00)
def wsX4_blot_r1 : List Cond := [Cond.fieldLink RX4 12 "StrokeCuts" "scene" "LStrokeCuts$Scene;", Cond.fieldLink RX4 19 "StrokeCuts" "past" "LStrokeCuts$History;", Cond.methodLink RX4 56 yX2_hasDot, Cond.instanceMethod yX2_hasDot, Cond.selects RX2 yX2_hasDot yX2_hasDot, Cond.initialized RX2, Cond.code yX2_hasDot cX2_hasDot 3 (some .boolean), Cond.fieldLink RX2 21 "StrokeCuts$Scene" "width" "I", Cond.fieldLink RX2 25 "StrokeCuts$Scene" "height" "I", Cond.methodLink RX4 37 yX4_isWithin, Cond.static yX4_isWithin, Cond.initialized RX4, Cond.code yX4_isWithin cX4_isWithin 3 (some .boolean), Cond.methodLink RX4 41 yX4_refuseBad, Cond.instanceMethod yX4_refuseBad, Cond.selects RX4 yX4_refuseBad yX4_refuseBad, Cond.code yX4_refuseBad cX4_refuseBad 1 (some .int), Cond.fieldLink RX4 236 "StrokeCuts" "badCalls" "I", Cond.methodLink RX4 45 yX0_remember, Cond.instanceMethod yX0_remember, Cond.selects RX0 yX0_remember yX0_remember, Cond.initialized RX0, Cond.code yX0_remember cX0_remember 3 none, Cond.fieldLink RX0 11 "StrokeCuts$History" "kept" "[LStrokeCuts$Scene;"]
def wsX4_blot_r2 : List Cond := [Cond.fieldLink RX0 16 "StrokeCuts$History" "next" "I", Cond.fieldLink RX0 24 "StrokeCuts$History" "count" "I", Cond.methodLink RX0 27 Lib.Math.min.name, Cond.static Lib.Math.min.name, Cond.initialized "java/lang/Math", Cond.code Lib.Math.min.name Lib.Math.min.code 2 (some .int), Cond.methodLink RX0 20 yX2_copyFrom, Cond.instanceMethod yX2_copyFrom, Cond.selects RX2 yX2_copyFrom yX2_copyFrom, Cond.code yX2_copyFrom cX2_copyFrom 2 none, Cond.fieldLink RX2 9 "StrokeCuts$Scene" "settings" "[I", Cond.methodLink RX2 28 arraycopyName, Cond.native arraycopyName, Cond.static arraycopyName, Cond.initialized "java/lang/System", Cond.fieldLink RX2 15 "StrokeCuts$Scene" "shades" "[I", Cond.fieldLink RX2 18 "StrokeCuts$Scene" "marks" "[I", Cond.methodLink RX4 77 yX2_shadeAround, Cond.instanceMethod yX2_shadeAround, Cond.selects RX2 yX2_shadeAround yX2_shadeAround, Cond.code yX2_shadeAround cX2_shadeAround 8 (some .int), Cond.methodLink RX2 52 Lib.Math.abs.name, Cond.static Lib.Math.abs.name, Cond.code Lib.Math.abs.name Lib.Math.abs.code 1 (some .int)]
def wsX4_blot_r3 : List Cond := [Cond.methodLink RX2 48 yX2_numberOf, Cond.instanceMethod yX2_numberOf, Cond.selects RX2 yX2_numberOf yX2_numberOf, Cond.code yX2_numberOf cX2_numberOf 3 (some .int)]
def wsX4_blot : List Cond := .code yX4_blot cX4_blot 5 (some .int) :: ((wsX4_blot_r1 ++ (wsX4_blot_r2 ++ wsX4_blot_r3)) ++ wsX40 ++ wsX20 ++ wsX00)
def wsX4_mark_r1 : List Cond := [Cond.fieldLink RX4 12 "StrokeCuts" "scene" "LStrokeCuts$Scene;", Cond.fieldLink RX4 19 "StrokeCuts" "past" "LStrokeCuts$History;", Cond.fieldLink RX4 81 "StrokeCuts$Scene" "marks" "[I", Cond.methodLink RX4 56 yX2_hasDot, Cond.instanceMethod yX2_hasDot, Cond.selects RX2 yX2_hasDot yX2_hasDot, Cond.initialized RX2, Cond.code yX2_hasDot cX2_hasDot 3 (some .boolean), Cond.fieldLink RX2 21 "StrokeCuts$Scene" "width" "I", Cond.fieldLink RX2 25 "StrokeCuts$Scene" "height" "I", Cond.methodLink RX4 37 yX4_isWithin, Cond.static yX4_isWithin, Cond.initialized RX4, Cond.code yX4_isWithin cX4_isWithin 3 (some .boolean), Cond.methodLink RX4 41 yX4_refuseBad, Cond.instanceMethod yX4_refuseBad, Cond.selects RX4 yX4_refuseBad yX4_refuseBad, Cond.code yX4_refuseBad cX4_refuseBad 1 (some .int), Cond.fieldLink RX4 236 "StrokeCuts" "badCalls" "I", Cond.methodLink RX4 45 yX0_remember, Cond.instanceMethod yX0_remember, Cond.selects RX0 yX0_remember yX0_remember, Cond.initialized RX0, Cond.code yX0_remember cX0_remember 3 none]
def wsX4_mark_r2 : List Cond := [Cond.fieldLink RX0 11 "StrokeCuts$History" "kept" "[LStrokeCuts$Scene;", Cond.fieldLink RX0 16 "StrokeCuts$History" "next" "I", Cond.fieldLink RX0 24 "StrokeCuts$History" "count" "I", Cond.methodLink RX0 27 Lib.Math.min.name, Cond.static Lib.Math.min.name, Cond.initialized "java/lang/Math", Cond.code Lib.Math.min.name Lib.Math.min.code 2 (some .int), Cond.methodLink RX0 20 yX2_copyFrom, Cond.instanceMethod yX2_copyFrom, Cond.selects RX2 yX2_copyFrom yX2_copyFrom, Cond.code yX2_copyFrom cX2_copyFrom 2 none, Cond.fieldLink RX2 9 "StrokeCuts$Scene" "settings" "[I", Cond.methodLink RX2 28 arraycopyName, Cond.native arraycopyName, Cond.static arraycopyName, Cond.initialized "java/lang/System", Cond.fieldLink RX2 15 "StrokeCuts$Scene" "shades" "[I", Cond.fieldLink RX2 18 "StrokeCuts$Scene" "marks" "[I", Cond.methodLink RX4 60 yX2_numberOf, Cond.instanceMethod yX2_numberOf, Cond.selects RX2 yX2_numberOf yX2_numberOf, Cond.code yX2_numberOf cX2_numberOf 3 (some .int)]
def wsX4_mark : List Cond := .code yX4_mark cX4_mark 6 (some .int) :: ((wsX4_mark_r1 ++ wsX4_mark_r2) ++ wsX40 ++ wsX20 ++ wsX00)
def wsX4_stroke_r1 : List Cond := [Cond.fieldLink RX4 12 "StrokeCuts" "scene" "LStrokeCuts$Scene;", Cond.fieldLink RX4 19 "StrokeCuts" "past" "LStrokeCuts$History;", Cond.methodLink RX4 37 yX4_isWithin, Cond.static yX4_isWithin, Cond.initialized RX4, Cond.code yX4_isWithin cX4_isWithin 3 (some .boolean), Cond.methodLink RX4 56 yX2_hasDot, Cond.instanceMethod yX2_hasDot, Cond.selects RX2 yX2_hasDot yX2_hasDot, Cond.initialized RX2, Cond.code yX2_hasDot cX2_hasDot 3 (some .boolean), Cond.fieldLink RX2 21 "StrokeCuts$Scene" "width" "I", Cond.fieldLink RX2 25 "StrokeCuts$Scene" "height" "I", Cond.methodLink RX4 41 yX4_refuseBad, Cond.instanceMethod yX4_refuseBad, Cond.selects RX4 yX4_refuseBad yX4_refuseBad, Cond.code yX4_refuseBad cX4_refuseBad 1 (some .int), Cond.fieldLink RX4 236 "StrokeCuts" "badCalls" "I", Cond.methodLink RX4 45 yX0_remember, Cond.instanceMethod yX0_remember, Cond.selects RX0 yX0_remember yX0_remember, Cond.initialized RX0, Cond.code yX0_remember cX0_remember 3 none, Cond.fieldLink RX0 11 "StrokeCuts$History" "kept" "[LStrokeCuts$Scene;"]
def wsX4_stroke_r2 : List Cond := [Cond.fieldLink RX0 16 "StrokeCuts$History" "next" "I", Cond.fieldLink RX0 24 "StrokeCuts$History" "count" "I", Cond.methodLink RX0 27 Lib.Math.min.name, Cond.static Lib.Math.min.name, Cond.initialized "java/lang/Math", Cond.code Lib.Math.min.name Lib.Math.min.code 2 (some .int), Cond.methodLink RX0 20 yX2_copyFrom, Cond.instanceMethod yX2_copyFrom, Cond.selects RX2 yX2_copyFrom yX2_copyFrom, Cond.code yX2_copyFrom cX2_copyFrom 2 none, Cond.fieldLink RX2 9 "StrokeCuts$Scene" "settings" "[I", Cond.methodLink RX2 28 arraycopyName, Cond.native arraycopyName, Cond.static arraycopyName, Cond.initialized "java/lang/System", Cond.fieldLink RX2 15 "StrokeCuts$Scene" "shades" "[I", Cond.fieldLink RX2 18 "StrokeCuts$Scene" "marks" "[I", Cond.methodLink RX4 84 yX2_lineOf, Cond.instanceMethod yX2_lineOf, Cond.selects RX2 yX2_lineOf yX2_lineOf, Cond.code yX2_lineOf cX2_lineOf 11 (some .long), Cond.methodLink RX2 52 Lib.Math.abs.name, Cond.static Lib.Math.abs.name, Cond.code Lib.Math.abs.name Lib.Math.abs.code 1 (some .int)]
def wsX4_stroke_r3 : List Cond := [Cond.methodLink RX2 58 Lib.Math.max.name, Cond.static Lib.Math.max.name, Cond.code Lib.Math.max.name Lib.Math.max.code 2 (some .int), Cond.methodLink RX2 48 yX2_numberOf, Cond.instanceMethod yX2_numberOf, Cond.selects RX2 yX2_numberOf yX2_numberOf, Cond.code yX2_numberOf cX2_numberOf 3 (some .int), Cond.methodLink RX2 61 yJ9_floorDiv_7cf53, Cond.static yJ9_floorDiv_7cf53, Cond.initialized RJ9, Cond.code yJ9_floorDiv_7cf53 cJ9_floorDiv_7cf53 3 (some .int), Cond.methodLink RX4 88 yX2_markAll, Cond.instanceMethod yX2_markAll, Cond.selects RX2 yX2_markAll yX2_markAll, Cond.code yX2_markAll cX2_markAll 6 (some .int), Cond.methodLink RX2 34 yX2_dots, Cond.instanceMethod yX2_dots, Cond.selects RX2 yX2_dots yX2_dots, Cond.code yX2_dots cX2_dots 1 (some .int), Cond.static yX4_has, Cond.code yX4_has cX4_has 3 (some .boolean)]
def wsX4_stroke : List Cond := .code yX4_stroke cX4_stroke 6 (some .int) :: ((wsX4_stroke_r1 ++ (wsX4_stroke_r2 ++ wsX4_stroke_r3)) ++ wsX40 ++ wsX20 ++ wsX00)
def wsX4_isSettingOf : List Cond := .code yX4_isSettingOf cX4_isSettingOf 2 (some .boolean) :: ([.fieldLink RX4 262 "StrokeCuts" "LEAST_SETTING" "[I", .fieldLink RX4 265 "StrokeCuts" "GREATEST_SETTING" "[I", .methodLink RX4 37 yX4_isWithin, .static yX4_isWithin, .initialized RX4, .code yX4_isWithin cX4_isWithin 3 (some .boolean)])
def wsX4_sets_r1 : List Cond := [Cond.fieldLink RX4 19 "StrokeCuts" "past" "LStrokeCuts$History;", Cond.fieldLink RX4 12 "StrokeCuts" "scene" "LStrokeCuts$Scene;", Cond.fieldLink RX4 95 "StrokeCuts$Scene" "settings" "[I", Cond.methodLink RX4 92 yX4_isSettingOf, Cond.static yX4_isSettingOf, Cond.initialized RX4, Cond.code yX4_isSettingOf cX4_isSettingOf 2 (some .boolean), Cond.fieldLink RX4 262 "StrokeCuts" "LEAST_SETTING" "[I", Cond.fieldLink RX4 265 "StrokeCuts" "GREATEST_SETTING" "[I", Cond.methodLink RX4 37 yX4_isWithin, Cond.static yX4_isWithin, Cond.code yX4_isWithin cX4_isWithin 3 (some .boolean), Cond.methodLink RX4 41 yX4_refuseBad, Cond.instanceMethod yX4_refuseBad, Cond.selects RX4 yX4_refuseBad yX4_refuseBad, Cond.code yX4_refuseBad cX4_refuseBad 1 (some .int), Cond.fieldLink RX4 236 "StrokeCuts" "badCalls" "I", Cond.methodLink RX4 45 yX0_remember, Cond.instanceMethod yX0_remember, Cond.selects RX0 yX0_remember yX0_remember, Cond.initialized RX0, Cond.code yX0_remember cX0_remember 3 none, Cond.fieldLink RX0 11 "StrokeCuts$History" "kept" "[LStrokeCuts$Scene;", Cond.fieldLink RX0 16 "StrokeCuts$History" "next" "I"]
def wsX4_sets_r2 : List Cond := [Cond.fieldLink RX0 24 "StrokeCuts$History" "count" "I", Cond.methodLink RX0 27 Lib.Math.min.name, Cond.static Lib.Math.min.name, Cond.initialized "java/lang/Math", Cond.code Lib.Math.min.name Lib.Math.min.code 2 (some .int), Cond.methodLink RX0 20 yX2_copyFrom, Cond.instanceMethod yX2_copyFrom, Cond.selects RX2 yX2_copyFrom yX2_copyFrom, Cond.initialized RX2, Cond.code yX2_copyFrom cX2_copyFrom 2 none, Cond.fieldLink RX2 21 "StrokeCuts$Scene" "width" "I", Cond.fieldLink RX2 25 "StrokeCuts$Scene" "height" "I", Cond.fieldLink RX2 9 "StrokeCuts$Scene" "settings" "[I", Cond.methodLink RX2 28 arraycopyName, Cond.native arraycopyName, Cond.static arraycopyName, Cond.initialized "java/lang/System", Cond.fieldLink RX2 15 "StrokeCuts$Scene" "shades" "[I", Cond.fieldLink RX2 18 "StrokeCuts$Scene" "marks" "[I"]
def wsX4_sets : List Cond := .code yX4_sets cX4_sets 4 (some .int) :: ((wsX4_sets_r1 ++ wsX4_sets_r2) ++ wsX40 ++ wsX20 ++ wsX00)
def wsX4_dot_r1 : List Cond := [Cond.fieldLink RX4 12 "StrokeCuts" "scene" "LStrokeCuts$Scene;", Cond.fieldLink RX4 64 "StrokeCuts$Scene" "shades" "[I", Cond.fieldLink RX4 81 "StrokeCuts$Scene" "marks" "[I", Cond.methodLink RX4 56 yX2_hasDot, Cond.instanceMethod yX2_hasDot, Cond.selects RX2 yX2_hasDot yX2_hasDot, Cond.initialized RX2, Cond.code yX2_hasDot cX2_hasDot 3 (some .boolean), Cond.fieldLink RX2 21 "StrokeCuts$Scene" "width" "I", Cond.fieldLink RX2 25 "StrokeCuts$Scene" "height" "I", Cond.methodLink RX4 41 yX4_refuseBad, Cond.instanceMethod yX4_refuseBad, Cond.selects RX4 yX4_refuseBad yX4_refuseBad, Cond.initialized RX4, Cond.code yX4_refuseBad cX4_refuseBad 1 (some .int), Cond.fieldLink RX4 236 "StrokeCuts" "badCalls" "I", Cond.methodLink RX4 60 yX2_numberOf, Cond.instanceMethod yX2_numberOf, Cond.selects RX2 yX2_numberOf yX2_numberOf, Cond.code yX2_numberOf cX2_numberOf 3 (some .int), Cond.methodLink RX4 98 yX2_pullFrom, Cond.instanceMethod yX2_pullFrom, Cond.selects RX2 yX2_pullFrom yX2_pullFrom, Cond.code yX2_pullFrom cX2_pullFrom 3 (some .int)]
def wsX4_dot_r2 : List Cond := [Cond.fieldLink RX2 9 "StrokeCuts$Scene" "settings" "[I", Cond.fieldLink RX2 15 "StrokeCuts$Scene" "shades" "[I", Cond.methodLink RX2 52 Lib.Math.abs.name, Cond.static Lib.Math.abs.name, Cond.initialized "java/lang/Math", Cond.code Lib.Math.abs.name Lib.Math.abs.code 1 (some .int)]
def wsX4_dot : List Cond := .code yX4_dot cX4_dot 5 (some .int) :: ((wsX4_dot_r1 ++ wsX4_dot_r2) ++ wsX40 ++ wsX20)
def wsX4_isLinkPlace : List Cond := .code yX4_isLinkPlace cX4_isLinkPlace 4 (some .boolean) :: ([.fieldLink RX4 12 "StrokeCuts" "scene" "LStrokeCuts$Scene;", .methodLink RX4 56 yX2_hasDot, .instanceMethod yX2_hasDot, .selects RX2 yX2_hasDot yX2_hasDot, .initialized RX2, .code yX2_hasDot cX2_hasDot 3 (some .boolean), .fieldLink RX2 21 "StrokeCuts$Scene" "width" "I", .fieldLink RX2 25 "StrokeCuts$Scene" "height" "I", .methodLink RX4 37 yX4_isWithin, .static yX4_isWithin, .initialized RX4, .code yX4_isWithin cX4_isWithin 3 (some .boolean)] ++ wsX40 ++ wsX20)
def wsX4_link_r1 : List Cond := [Cond.fieldLink RX4 12 "StrokeCuts" "scene" "LStrokeCuts$Scene;", Cond.methodLink RX4 101 yX4_isLinkPlace, Cond.instanceMethod yX4_isLinkPlace, Cond.selects RX4 yX4_isLinkPlace yX4_isLinkPlace, Cond.initialized RX4, Cond.code yX4_isLinkPlace cX4_isLinkPlace 4 (some .boolean), Cond.methodLink RX4 56 yX2_hasDot, Cond.instanceMethod yX2_hasDot, Cond.selects RX2 yX2_hasDot yX2_hasDot, Cond.initialized RX2, Cond.code yX2_hasDot cX2_hasDot 3 (some .boolean), Cond.fieldLink RX2 21 "StrokeCuts$Scene" "width" "I", Cond.fieldLink RX2 25 "StrokeCuts$Scene" "height" "I", Cond.methodLink RX4 37 yX4_isWithin, Cond.static yX4_isWithin, Cond.code yX4_isWithin cX4_isWithin 3 (some .boolean), Cond.methodLink RX4 41 yX4_refuseBad, Cond.instanceMethod yX4_refuseBad, Cond.selects RX4 yX4_refuseBad yX4_refuseBad, Cond.code yX4_refuseBad cX4_refuseBad 1 (some .int), Cond.fieldLink RX4 236 "StrokeCuts" "badCalls" "I", Cond.methodLink RX4 104 yX2_linkedTo, Cond.instanceMethod yX2_linkedTo, Cond.selects RX2 yX2_linkedTo yX2_linkedTo]
def wsX4_link_r2 : List Cond := [Cond.code yX2_linkedTo cX2_linkedTo 6 (some .int), Cond.fieldLink RX2 9 "StrokeCuts$Scene" "settings" "[I", Cond.methodLink RX2 44 yX2_hasDot, Cond.methodLink RX2 48 yX2_numberOf, Cond.instanceMethod yX2_numberOf, Cond.selects RX2 yX2_numberOf yX2_numberOf, Cond.code yX2_numberOf cX2_numberOf 3 (some .int), Cond.methodLink RX4 60 yX2_numberOf, Cond.methodLink RX4 108 yX2_weightOf, Cond.instanceMethod yX2_weightOf, Cond.selects RX2 yX2_weightOf yX2_weightOf, Cond.code yX2_weightOf cX2_weightOf 6 (some .int), Cond.fieldLink RX2 15 "StrokeCuts$Scene" "shades" "[I", Cond.methodLink RX2 52 Lib.Math.abs.name, Cond.static Lib.Math.abs.name, Cond.initialized "java/lang/Math", Cond.code Lib.Math.abs.name Lib.Math.abs.code 1 (some .int), Cond.methodLink RX2 58 Lib.Math.max.name, Cond.static Lib.Math.max.name, Cond.code Lib.Math.max.name Lib.Math.max.code 2 (some .int)]
def wsX4_link : List Cond := .code yX4_link cX4_link 5 (some .int) :: ((wsX4_link_r1 ++ wsX4_link_r2) ++ wsX40 ++ wsX20)
def wsX4_cost_r1 : List Cond := [Cond.fieldLink RX4 26 "StrokeCuts" "network" "LStrokeCuts$Network;", Cond.fieldLink RX4 12 "StrokeCuts" "scene" "LStrokeCuts$Scene;", Cond.methodLink RX4 111 yX1_solve, Cond.instanceMethod yX1_solve, Cond.selects RX1 yX1_solve yX1_solve, Cond.initialized RX1, Cond.code yX1_solve cX1_solve 2 (some .int), Cond.methodLink RX1 30 yX1_load, Cond.instanceMethod yX1_load, Cond.selects RX1 yX1_load yX1_load, Cond.code yX1_load cX1_load 7 none, Cond.fieldLink RX1 43 "StrokeCuts$Network" "dots" "I", Cond.fieldLink RX1 18 "StrokeCuts$Network" "neighbour" "[I", Cond.fieldLink RX1 46 "StrokeCuts$Scene" "height" "I", Cond.fieldLink RX1 49 "StrokeCuts$Scene" "width" "I", Cond.fieldLink RX1 56 "StrokeCuts$Scene" "marks" "[I", Cond.methodLink RX1 38 yX2_dots, Cond.instanceMethod yX2_dots, Cond.selects RX2 yX2_dots yX2_dots, Cond.initialized RX2, Cond.code yX2_dots cX2_dots 1 (some .int), Cond.fieldLink RX2 21 "StrokeCuts$Scene" "width" "I", Cond.fieldLink RX2 25 "StrokeCuts$Scene" "height" "I", Cond.methodLink RX1 52 yX2_numberOf]
def wsX4_cost_r2 : List Cond := [Cond.instanceMethod yX2_numberOf, Cond.selects RX2 yX2_numberOf yX2_numberOf, Cond.code yX2_numberOf cX2_numberOf 3 (some .int), Cond.methodLink RX1 59 yX1_loadPulls, Cond.instanceMethod yX1_loadPulls, Cond.selects RX1 yX1_loadPulls yX1_loadPulls, Cond.code yX1_loadPulls cX1_loadPulls 4 none, Cond.fieldLink RX1 9 "StrokeCuts$Network" "fromFigure" "[I", Cond.constant RX1 77 (1000000), Cond.fieldLink RX1 15 "StrokeCuts$Network" "toGround" "[I", Cond.methodLink RX1 74 yX2_pullFrom, Cond.instanceMethod yX2_pullFrom, Cond.selects RX2 yX2_pullFrom yX2_pullFrom, Cond.code yX2_pullFrom cX2_pullFrom 3 (some .int), Cond.fieldLink RX2 9 "StrokeCuts$Scene" "settings" "[I", Cond.fieldLink RX2 15 "StrokeCuts$Scene" "shades" "[I", Cond.methodLink RX2 52 Lib.Math.abs.name, Cond.static Lib.Math.abs.name, Cond.initialized "java/lang/Math", Cond.code Lib.Math.abs.name Lib.Math.abs.code 1 (some .int), Cond.methodLink RX1 63 yX2_linkedTo, Cond.instanceMethod yX2_linkedTo, Cond.selects RX2 yX2_linkedTo yX2_linkedTo, Cond.code yX2_linkedTo cX2_linkedTo 6 (some .int)]
def wsX4_cost_r3 : List Cond := [Cond.methodLink RX2 44 yX2_hasDot, Cond.instanceMethod yX2_hasDot, Cond.selects RX2 yX2_hasDot yX2_hasDot, Cond.code yX2_hasDot cX2_hasDot 3 (some .boolean), Cond.methodLink RX2 48 yX2_numberOf, Cond.methodLink RX1 67 yX2_weightOf, Cond.instanceMethod yX2_weightOf, Cond.selects RX2 yX2_weightOf yX2_weightOf, Cond.code yX2_weightOf cX2_weightOf 6 (some .int), Cond.methodLink RX2 58 Lib.Math.max.name, Cond.static Lib.Math.max.name, Cond.code Lib.Math.max.name Lib.Math.max.code 2 (some .int), Cond.methodLink RX1 70 yX1_join, Cond.instanceMethod yX1_join, Cond.selects RX1 yX1_join yX1_join, Cond.code yX1_join cX1_join 7 none, Cond.fieldLink RX1 21 "StrokeCuts$Network" "room" "[I", Cond.methodLink RX1 78 yX1_reverse, Cond.static yX1_reverse, Cond.code yX1_reverse cX1_reverse 1 (some .int), Cond.methodLink RX1 34 yX1_fill, Cond.instanceMethod yX1_fill, Cond.selects RX1 yX1_fill yX1_fill, Cond.code yX1_fill cX1_fill 6 (some .int)]
def wsX4_cost_r4 : List Cond := [Cond.fieldLink RX1 24 "StrokeCuts$Network" "distance" "[I", Cond.methodLink RX1 82 yX1_measureDistances, Cond.instanceMethod yX1_measureDistances, Cond.selects RX1 yX1_measureDistances yX1_measureDistances, Cond.code yX1_measureDistances cX1_measureDistances 5 none, Cond.fieldLink RX1 88 "StrokeCuts$Network" "queued" "I", Cond.fieldLink RX1 27 "StrokeCuts$Network" "queue" "[I", Cond.methodLink RX1 91 yX1_enqueue, Cond.instanceMethod yX1_enqueue, Cond.selects RX1 yX1_enqueue yX1_enqueue, Cond.code yX1_enqueue cX1_enqueue 2 none, Cond.methodLink RX1 85 yX1_send, Cond.instanceMethod yX1_send, Cond.selects RX1 yX1_send yX1_send, Cond.code yX1_send cX1_send 9 (some .int), Cond.methodLink RX1 95 Lib.Math.min.name, Cond.static Lib.Math.min.name, Cond.code Lib.Math.min.name Lib.Math.min.code 2 (some .int), Cond.methodLink RX1 100 yX1_isNext, Cond.instanceMethod yX1_isNext, Cond.selects RX1 yX1_isNext yX1_isNext, Cond.code yX1_isNext cX1_isNext 3 (some .boolean)]
def wsX4_cost : List Cond := .code yX4_cost cX4_cost 1 (some .int) :: ((wsX4_cost_r1 ++ (wsX4_cost_r2 ++ (wsX4_cost_r3 ++ wsX4_cost_r4))) ++ wsX40 ++ wsX10 ++ wsX20)
def wsX4_side_r1 : List Cond := [Cond.fieldLink RX4 26 "StrokeCuts" "network" "LStrokeCuts$Network;", Cond.fieldLink RX4 12 "StrokeCuts" "scene" "LStrokeCuts$Scene;", Cond.methodLink RX4 37 yX4_isWithin, Cond.static yX4_isWithin, Cond.initialized RX4, Cond.code yX4_isWithin cX4_isWithin 3 (some .boolean), Cond.methodLink RX4 41 yX4_refuseBad, Cond.instanceMethod yX4_refuseBad, Cond.selects RX4 yX4_refuseBad yX4_refuseBad, Cond.code yX4_refuseBad cX4_refuseBad 1 (some .int), Cond.fieldLink RX4 236 "StrokeCuts" "badCalls" "I", Cond.methodLink RX4 111 yX1_solve, Cond.instanceMethod yX1_solve, Cond.selects RX1 yX1_solve yX1_solve, Cond.initialized RX1, Cond.code yX1_solve cX1_solve 2 (some .int), Cond.methodLink RX1 30 yX1_load, Cond.instanceMethod yX1_load, Cond.selects RX1 yX1_load yX1_load, Cond.code yX1_load cX1_load 7 none, Cond.fieldLink RX1 43 "StrokeCuts$Network" "dots" "I", Cond.fieldLink RX1 18 "StrokeCuts$Network" "neighbour" "[I", Cond.fieldLink RX1 46 "StrokeCuts$Scene" "height" "I", Cond.fieldLink RX1 49 "StrokeCuts$Scene" "width" "I"]
def wsX4_side_r2 : List Cond := [Cond.fieldLink RX1 56 "StrokeCuts$Scene" "marks" "[I", Cond.methodLink RX1 38 yX2_dots, Cond.instanceMethod yX2_dots, Cond.selects RX2 yX2_dots yX2_dots, Cond.initialized RX2, Cond.code yX2_dots cX2_dots 1 (some .int), Cond.fieldLink RX2 21 "StrokeCuts$Scene" "width" "I", Cond.fieldLink RX2 25 "StrokeCuts$Scene" "height" "I", Cond.methodLink RX1 52 yX2_numberOf, Cond.instanceMethod yX2_numberOf, Cond.selects RX2 yX2_numberOf yX2_numberOf, Cond.code yX2_numberOf cX2_numberOf 3 (some .int), Cond.methodLink RX1 59 yX1_loadPulls, Cond.instanceMethod yX1_loadPulls, Cond.selects RX1 yX1_loadPulls yX1_loadPulls, Cond.code yX1_loadPulls cX1_loadPulls 4 none, Cond.fieldLink RX1 9 "StrokeCuts$Network" "fromFigure" "[I", Cond.constant RX1 77 (1000000), Cond.fieldLink RX1 15 "StrokeCuts$Network" "toGround" "[I", Cond.methodLink RX1 74 yX2_pullFrom, Cond.instanceMethod yX2_pullFrom, Cond.selects RX2 yX2_pullFrom yX2_pullFrom, Cond.code yX2_pullFrom cX2_pullFrom 3 (some .int), Cond.fieldLink RX2 9 "StrokeCuts$Scene" "settings" "[I"]
def wsX4_side_r3 : List Cond := [Cond.fieldLink RX2 15 "StrokeCuts$Scene" "shades" "[I", Cond.methodLink RX2 52 Lib.Math.abs.name, Cond.static Lib.Math.abs.name, Cond.initialized "java/lang/Math", Cond.code Lib.Math.abs.name Lib.Math.abs.code 1 (some .int), Cond.methodLink RX1 63 yX2_linkedTo, Cond.instanceMethod yX2_linkedTo, Cond.selects RX2 yX2_linkedTo yX2_linkedTo, Cond.code yX2_linkedTo cX2_linkedTo 6 (some .int), Cond.methodLink RX2 44 yX2_hasDot, Cond.instanceMethod yX2_hasDot, Cond.selects RX2 yX2_hasDot yX2_hasDot, Cond.code yX2_hasDot cX2_hasDot 3 (some .boolean), Cond.methodLink RX2 48 yX2_numberOf, Cond.methodLink RX1 67 yX2_weightOf, Cond.instanceMethod yX2_weightOf, Cond.selects RX2 yX2_weightOf yX2_weightOf, Cond.code yX2_weightOf cX2_weightOf 6 (some .int), Cond.methodLink RX2 58 Lib.Math.max.name, Cond.static Lib.Math.max.name, Cond.code Lib.Math.max.name Lib.Math.max.code 2 (some .int), Cond.methodLink RX1 70 yX1_join, Cond.instanceMethod yX1_join, Cond.selects RX1 yX1_join yX1_join]
def wsX4_side_r4 : List Cond := [Cond.code yX1_join cX1_join 7 none, Cond.fieldLink RX1 21 "StrokeCuts$Network" "room" "[I", Cond.methodLink RX1 78 yX1_reverse, Cond.static yX1_reverse, Cond.code yX1_reverse cX1_reverse 1 (some .int), Cond.methodLink RX1 34 yX1_fill, Cond.instanceMethod yX1_fill, Cond.selects RX1 yX1_fill yX1_fill, Cond.code yX1_fill cX1_fill 6 (some .int), Cond.fieldLink RX1 24 "StrokeCuts$Network" "distance" "[I", Cond.methodLink RX1 82 yX1_measureDistances, Cond.instanceMethod yX1_measureDistances, Cond.selects RX1 yX1_measureDistances yX1_measureDistances, Cond.code yX1_measureDistances cX1_measureDistances 5 none, Cond.fieldLink RX1 88 "StrokeCuts$Network" "queued" "I", Cond.fieldLink RX1 27 "StrokeCuts$Network" "queue" "[I", Cond.methodLink RX1 91 yX1_enqueue, Cond.instanceMethod yX1_enqueue, Cond.selects RX1 yX1_enqueue yX1_enqueue, Cond.code yX1_enqueue cX1_enqueue 2 none, Cond.methodLink RX1 85 yX1_send, Cond.instanceMethod yX1_send, Cond.selects RX1 yX1_send yX1_send, Cond.code yX1_send cX1_send 9 (some .int)]
def wsX4_side_r5 : List Cond := [Cond.methodLink RX1 95 Lib.Math.min.name, Cond.static Lib.Math.min.name, Cond.code Lib.Math.min.name Lib.Math.min.code 2 (some .int), Cond.methodLink RX1 100 yX1_isNext, Cond.instanceMethod yX1_isNext, Cond.selects RX1 yX1_isNext yX1_isNext, Cond.code yX1_isNext cX1_isNext 3 (some .boolean), Cond.methodLink RX4 115 yX1_leastSet, Cond.instanceMethod yX1_leastSet, Cond.selects RX1 yX1_leastSet yX1_leastSet, Cond.code yX1_leastSet cX1_leastSet 4 (some .long), Cond.methodLink RX1 104 yX1_spread, Cond.instanceMethod yX1_spread, Cond.selects RX1 yX1_spread yX1_spread, Cond.code yX1_spread cX1_spread 9 (some .long), Cond.static yX4_has, Cond.code yX4_has cX4_has 3 (some .boolean), Cond.methodLink RX4 119 yX1_greatestSet, Cond.instanceMethod yX1_greatestSet, Cond.selects RX1 yX1_greatestSet yX1_greatestSet, Cond.code yX1_greatestSet cX1_greatestSet 4 (some .long)]
def wsX4_side : List Cond := .code yX4_side cX4_side 2 (some .long) :: ((wsX4_side_r1 ++ (wsX4_side_r2 ++ (wsX4_side_r3 ++ (wsX4_side_r4 ++ wsX4_side_r5)))) ++ wsX40 ++ wsX10 ++ wsX20)
def wsX4_sure_r1 : List Cond := [Cond.fieldLink RX4 12 "StrokeCuts" "scene" "LStrokeCuts$Scene;", Cond.fieldLink RX4 26 "StrokeCuts" "network" "LStrokeCuts$Network;", Cond.methodLink RX4 56 yX2_hasDot, Cond.instanceMethod yX2_hasDot, Cond.selects RX2 yX2_hasDot yX2_hasDot, Cond.initialized RX2, Cond.code yX2_hasDot cX2_hasDot 3 (some .boolean), Cond.fieldLink RX2 21 "StrokeCuts$Scene" "width" "I", Cond.fieldLink RX2 25 "StrokeCuts$Scene" "height" "I", Cond.methodLink RX4 41 yX4_refuseBad, Cond.instanceMethod yX4_refuseBad, Cond.selects RX4 yX4_refuseBad yX4_refuseBad, Cond.initialized RX4, Cond.code yX4_refuseBad cX4_refuseBad 1 (some .int), Cond.fieldLink RX4 236 "StrokeCuts" "badCalls" "I", Cond.methodLink RX4 111 yX1_solve, Cond.instanceMethod yX1_solve, Cond.selects RX1 yX1_solve yX1_solve, Cond.initialized RX1, Cond.code yX1_solve cX1_solve 2 (some .int), Cond.methodLink RX1 30 yX1_load, Cond.instanceMethod yX1_load, Cond.selects RX1 yX1_load yX1_load, Cond.code yX1_load cX1_load 7 none]
def wsX4_sure_r2 : List Cond := [Cond.fieldLink RX1 43 "StrokeCuts$Network" "dots" "I", Cond.fieldLink RX1 18 "StrokeCuts$Network" "neighbour" "[I", Cond.fieldLink RX1 46 "StrokeCuts$Scene" "height" "I", Cond.fieldLink RX1 49 "StrokeCuts$Scene" "width" "I", Cond.fieldLink RX1 56 "StrokeCuts$Scene" "marks" "[I", Cond.methodLink RX1 38 yX2_dots, Cond.instanceMethod yX2_dots, Cond.selects RX2 yX2_dots yX2_dots, Cond.code yX2_dots cX2_dots 1 (some .int), Cond.methodLink RX1 52 yX2_numberOf, Cond.instanceMethod yX2_numberOf, Cond.selects RX2 yX2_numberOf yX2_numberOf, Cond.code yX2_numberOf cX2_numberOf 3 (some .int), Cond.methodLink RX1 59 yX1_loadPulls, Cond.instanceMethod yX1_loadPulls, Cond.selects RX1 yX1_loadPulls yX1_loadPulls, Cond.code yX1_loadPulls cX1_loadPulls 4 none, Cond.fieldLink RX1 9 "StrokeCuts$Network" "fromFigure" "[I", Cond.constant RX1 77 (1000000), Cond.fieldLink RX1 15 "StrokeCuts$Network" "toGround" "[I", Cond.methodLink RX1 74 yX2_pullFrom, Cond.instanceMethod yX2_pullFrom, Cond.selects RX2 yX2_pullFrom yX2_pullFrom, Cond.code yX2_pullFrom cX2_pullFrom 3 (some .int)]
def wsX4_sure_r3 : List Cond := [Cond.fieldLink RX2 9 "StrokeCuts$Scene" "settings" "[I", Cond.fieldLink RX2 15 "StrokeCuts$Scene" "shades" "[I", Cond.methodLink RX2 52 Lib.Math.abs.name, Cond.static Lib.Math.abs.name, Cond.initialized "java/lang/Math", Cond.code Lib.Math.abs.name Lib.Math.abs.code 1 (some .int), Cond.methodLink RX1 63 yX2_linkedTo, Cond.instanceMethod yX2_linkedTo, Cond.selects RX2 yX2_linkedTo yX2_linkedTo, Cond.code yX2_linkedTo cX2_linkedTo 6 (some .int), Cond.methodLink RX2 44 yX2_hasDot, Cond.methodLink RX2 48 yX2_numberOf, Cond.methodLink RX1 67 yX2_weightOf, Cond.instanceMethod yX2_weightOf, Cond.selects RX2 yX2_weightOf yX2_weightOf, Cond.code yX2_weightOf cX2_weightOf 6 (some .int), Cond.methodLink RX2 58 Lib.Math.max.name, Cond.static Lib.Math.max.name, Cond.code Lib.Math.max.name Lib.Math.max.code 2 (some .int), Cond.methodLink RX1 70 yX1_join, Cond.instanceMethod yX1_join, Cond.selects RX1 yX1_join yX1_join, Cond.code yX1_join cX1_join 7 none, Cond.fieldLink RX1 21 "StrokeCuts$Network" "room" "[I"]
def wsX4_sure_r4 : List Cond := [Cond.methodLink RX1 78 yX1_reverse, Cond.static yX1_reverse, Cond.code yX1_reverse cX1_reverse 1 (some .int), Cond.methodLink RX1 34 yX1_fill, Cond.instanceMethod yX1_fill, Cond.selects RX1 yX1_fill yX1_fill, Cond.code yX1_fill cX1_fill 6 (some .int), Cond.fieldLink RX1 24 "StrokeCuts$Network" "distance" "[I", Cond.methodLink RX1 82 yX1_measureDistances, Cond.instanceMethod yX1_measureDistances, Cond.selects RX1 yX1_measureDistances yX1_measureDistances, Cond.code yX1_measureDistances cX1_measureDistances 5 none, Cond.fieldLink RX1 88 "StrokeCuts$Network" "queued" "I", Cond.fieldLink RX1 27 "StrokeCuts$Network" "queue" "[I", Cond.methodLink RX1 91 yX1_enqueue, Cond.instanceMethod yX1_enqueue, Cond.selects RX1 yX1_enqueue yX1_enqueue, Cond.code yX1_enqueue cX1_enqueue 2 none, Cond.methodLink RX1 85 yX1_send, Cond.instanceMethod yX1_send, Cond.selects RX1 yX1_send yX1_send, Cond.code yX1_send cX1_send 9 (some .int), Cond.methodLink RX1 95 Lib.Math.min.name, Cond.static Lib.Math.min.name]
def wsX4_sure_r5 : List Cond := [Cond.code Lib.Math.min.name Lib.Math.min.code 2 (some .int), Cond.methodLink RX1 100 yX1_isNext, Cond.instanceMethod yX1_isNext, Cond.selects RX1 yX1_isNext yX1_isNext, Cond.code yX1_isNext cX1_isNext 3 (some .boolean), Cond.methodLink RX4 60 yX2_numberOf, Cond.methodLink RX4 115 yX1_leastSet, Cond.instanceMethod yX1_leastSet, Cond.selects RX1 yX1_leastSet yX1_leastSet, Cond.code yX1_leastSet cX1_leastSet 4 (some .long), Cond.methodLink RX1 104 yX1_spread, Cond.instanceMethod yX1_spread, Cond.selects RX1 yX1_spread yX1_spread, Cond.code yX1_spread cX1_spread 9 (some .long), Cond.static yX4_has, Cond.code yX4_has cX4_has 3 (some .boolean), Cond.methodLink RX4 122 yX4_has, Cond.methodLink RX4 119 yX1_greatestSet, Cond.instanceMethod yX1_greatestSet, Cond.selects RX1 yX1_greatestSet yX1_greatestSet, Cond.code yX1_greatestSet cX1_greatestSet 4 (some .long)]
def wsX4_sure : List Cond := .code yX4_sure cX4_sure 4 (some .int) :: ((wsX4_sure_r1 ++ (wsX4_sure_r2 ++ (wsX4_sure_r3 ++ (wsX4_sure_r4 ++ wsX4_sure_r5)))) ++ wsX40 ++ wsX20 ++ wsX10)
def wsX4_were_r1 : List Cond := [Cond.fieldLink RX4 12 "StrokeCuts" "scene" "LStrokeCuts$Scene;", Cond.fieldLink RX4 26 "StrokeCuts" "network" "LStrokeCuts$Network;", Cond.methodLink RX4 56 yX2_hasDot, Cond.instanceMethod yX2_hasDot, Cond.selects RX2 yX2_hasDot yX2_hasDot, Cond.initialized RX2, Cond.code yX2_hasDot cX2_hasDot 3 (some .boolean), Cond.fieldLink RX2 21 "StrokeCuts$Scene" "width" "I", Cond.fieldLink RX2 25 "StrokeCuts$Scene" "height" "I", Cond.methodLink RX4 37 yX4_isWithin, Cond.static yX4_isWithin, Cond.initialized RX4, Cond.code yX4_isWithin cX4_isWithin 3 (some .boolean), Cond.methodLink RX4 41 yX4_refuseBad, Cond.instanceMethod yX4_refuseBad, Cond.selects RX4 yX4_refuseBad yX4_refuseBad, Cond.code yX4_refuseBad cX4_refuseBad 1 (some .int), Cond.fieldLink RX4 236 "StrokeCuts" "badCalls" "I", Cond.methodLink RX4 126 yX1_load, Cond.instanceMethod yX1_load, Cond.selects RX1 yX1_load yX1_load, Cond.initialized RX1, Cond.code yX1_load cX1_load 7 none, Cond.fieldLink RX1 43 "StrokeCuts$Network" "dots" "I"]
def wsX4_were_r2 : List Cond := [Cond.fieldLink RX1 18 "StrokeCuts$Network" "neighbour" "[I", Cond.fieldLink RX1 46 "StrokeCuts$Scene" "height" "I", Cond.fieldLink RX1 49 "StrokeCuts$Scene" "width" "I", Cond.fieldLink RX1 56 "StrokeCuts$Scene" "marks" "[I", Cond.methodLink RX1 38 yX2_dots, Cond.instanceMethod yX2_dots, Cond.selects RX2 yX2_dots yX2_dots, Cond.code yX2_dots cX2_dots 1 (some .int), Cond.methodLink RX1 52 yX2_numberOf, Cond.instanceMethod yX2_numberOf, Cond.selects RX2 yX2_numberOf yX2_numberOf, Cond.code yX2_numberOf cX2_numberOf 3 (some .int), Cond.methodLink RX1 59 yX1_loadPulls, Cond.instanceMethod yX1_loadPulls, Cond.selects RX1 yX1_loadPulls yX1_loadPulls, Cond.code yX1_loadPulls cX1_loadPulls 4 none, Cond.fieldLink RX1 9 "StrokeCuts$Network" "fromFigure" "[I", Cond.constant RX1 77 (1000000), Cond.fieldLink RX1 15 "StrokeCuts$Network" "toGround" "[I", Cond.methodLink RX1 74 yX2_pullFrom, Cond.instanceMethod yX2_pullFrom, Cond.selects RX2 yX2_pullFrom yX2_pullFrom, Cond.code yX2_pullFrom cX2_pullFrom 3 (some .int), Cond.fieldLink RX2 9 "StrokeCuts$Scene" "settings" "[I"]
def wsX4_were_r3 : List Cond := [Cond.fieldLink RX2 15 "StrokeCuts$Scene" "shades" "[I", Cond.methodLink RX2 52 Lib.Math.abs.name, Cond.static Lib.Math.abs.name, Cond.initialized "java/lang/Math", Cond.code Lib.Math.abs.name Lib.Math.abs.code 1 (some .int), Cond.methodLink RX1 63 yX2_linkedTo, Cond.instanceMethod yX2_linkedTo, Cond.selects RX2 yX2_linkedTo yX2_linkedTo, Cond.code yX2_linkedTo cX2_linkedTo 6 (some .int), Cond.methodLink RX2 44 yX2_hasDot, Cond.methodLink RX2 48 yX2_numberOf, Cond.methodLink RX1 67 yX2_weightOf, Cond.instanceMethod yX2_weightOf, Cond.selects RX2 yX2_weightOf yX2_weightOf, Cond.code yX2_weightOf cX2_weightOf 6 (some .int), Cond.methodLink RX2 58 Lib.Math.max.name, Cond.static Lib.Math.max.name, Cond.code Lib.Math.max.name Lib.Math.max.code 2 (some .int), Cond.methodLink RX1 70 yX1_join, Cond.instanceMethod yX1_join, Cond.selects RX1 yX1_join yX1_join, Cond.code yX1_join cX1_join 7 none, Cond.fieldLink RX1 21 "StrokeCuts$Network" "room" "[I", Cond.methodLink RX1 78 yX1_reverse]
def wsX4_were_r4 : List Cond := [Cond.static yX1_reverse, Cond.code yX1_reverse cX1_reverse 1 (some .int), Cond.methodLink RX4 60 yX2_numberOf, Cond.methodLink RX4 129 yX1_loadPulls, Cond.methodLink RX4 133 yX1_fill, Cond.instanceMethod yX1_fill, Cond.selects RX1 yX1_fill yX1_fill, Cond.code yX1_fill cX1_fill 6 (some .int), Cond.fieldLink RX1 24 "StrokeCuts$Network" "distance" "[I", Cond.methodLink RX1 82 yX1_measureDistances, Cond.instanceMethod yX1_measureDistances, Cond.selects RX1 yX1_measureDistances yX1_measureDistances, Cond.code yX1_measureDistances cX1_measureDistances 5 none, Cond.fieldLink RX1 88 "StrokeCuts$Network" "queued" "I", Cond.fieldLink RX1 27 "StrokeCuts$Network" "queue" "[I", Cond.methodLink RX1 91 yX1_enqueue, Cond.instanceMethod yX1_enqueue, Cond.selects RX1 yX1_enqueue yX1_enqueue, Cond.code yX1_enqueue cX1_enqueue 2 none, Cond.methodLink RX1 85 yX1_send, Cond.instanceMethod yX1_send, Cond.selects RX1 yX1_send yX1_send, Cond.code yX1_send cX1_send 9 (some .int), Cond.methodLink RX1 95 Lib.Math.min.name]
def wsX4_were_r5 : List Cond := [Cond.static Lib.Math.min.name, Cond.code Lib.Math.min.name Lib.Math.min.code 2 (some .int), Cond.methodLink RX1 100 yX1_isNext, Cond.instanceMethod yX1_isNext, Cond.selects RX1 yX1_isNext yX1_isNext, Cond.code yX1_isNext cX1_isNext 3 (some .boolean)]
def wsX4_were : List Cond := .code yX4_were cX4_were 4 (some .int) :: ((wsX4_were_r1 ++ (wsX4_were_r2 ++ (wsX4_were_r3 ++ (wsX4_were_r4 ++ wsX4_were_r5)))) ++ wsX40 ++ wsX20 ++ wsX10)
def wsX4_strain_r1 : List Cond := [Cond.fieldLink RX4 12 "StrokeCuts" "scene" "LStrokeCuts$Scene;", Cond.fieldLink RX4 26 "StrokeCuts" "network" "LStrokeCuts$Network;", Cond.methodLink RX4 101 yX4_isLinkPlace, Cond.instanceMethod yX4_isLinkPlace, Cond.selects RX4 yX4_isLinkPlace yX4_isLinkPlace, Cond.initialized RX4, Cond.code yX4_isLinkPlace cX4_isLinkPlace 4 (some .boolean), Cond.methodLink RX4 56 yX2_hasDot, Cond.instanceMethod yX2_hasDot, Cond.selects RX2 yX2_hasDot yX2_hasDot, Cond.initialized RX2, Cond.code yX2_hasDot cX2_hasDot 3 (some .boolean), Cond.fieldLink RX2 21 "StrokeCuts$Scene" "width" "I", Cond.fieldLink RX2 25 "StrokeCuts$Scene" "height" "I", Cond.methodLink RX4 37 yX4_isWithin, Cond.static yX4_isWithin, Cond.code yX4_isWithin cX4_isWithin 3 (some .boolean), Cond.methodLink RX4 41 yX4_refuseBad, Cond.instanceMethod yX4_refuseBad, Cond.selects RX4 yX4_refuseBad yX4_refuseBad, Cond.code yX4_refuseBad cX4_refuseBad 1 (some .int), Cond.fieldLink RX4 236 "StrokeCuts" "badCalls" "I", Cond.methodLink RX4 104 yX2_linkedTo, Cond.instanceMethod yX2_linkedTo]
def wsX4_strain_r2 : List Cond := [Cond.selects RX2 yX2_linkedTo yX2_linkedTo, Cond.code yX2_linkedTo cX2_linkedTo 6 (some .int), Cond.fieldLink RX2 9 "StrokeCuts$Scene" "settings" "[I", Cond.methodLink RX2 44 yX2_hasDot, Cond.methodLink RX2 48 yX2_numberOf, Cond.instanceMethod yX2_numberOf, Cond.selects RX2 yX2_numberOf yX2_numberOf, Cond.code yX2_numberOf cX2_numberOf 3 (some .int), Cond.methodLink RX4 126 yX1_load, Cond.instanceMethod yX1_load, Cond.selects RX1 yX1_load yX1_load, Cond.initialized RX1, Cond.code yX1_load cX1_load 7 none, Cond.fieldLink RX1 43 "StrokeCuts$Network" "dots" "I", Cond.fieldLink RX1 18 "StrokeCuts$Network" "neighbour" "[I", Cond.fieldLink RX1 46 "StrokeCuts$Scene" "height" "I", Cond.fieldLink RX1 49 "StrokeCuts$Scene" "width" "I", Cond.fieldLink RX1 56 "StrokeCuts$Scene" "marks" "[I", Cond.methodLink RX1 38 yX2_dots, Cond.instanceMethod yX2_dots, Cond.selects RX2 yX2_dots yX2_dots, Cond.code yX2_dots cX2_dots 1 (some .int), Cond.methodLink RX1 52 yX2_numberOf, Cond.methodLink RX1 59 yX1_loadPulls]
def wsX4_strain_r3 : List Cond := [Cond.instanceMethod yX1_loadPulls, Cond.selects RX1 yX1_loadPulls yX1_loadPulls, Cond.code yX1_loadPulls cX1_loadPulls 4 none, Cond.fieldLink RX1 9 "StrokeCuts$Network" "fromFigure" "[I", Cond.constant RX1 77 (1000000), Cond.fieldLink RX1 15 "StrokeCuts$Network" "toGround" "[I", Cond.methodLink RX1 74 yX2_pullFrom, Cond.instanceMethod yX2_pullFrom, Cond.selects RX2 yX2_pullFrom yX2_pullFrom, Cond.code yX2_pullFrom cX2_pullFrom 3 (some .int), Cond.fieldLink RX2 15 "StrokeCuts$Scene" "shades" "[I", Cond.methodLink RX2 52 Lib.Math.abs.name, Cond.static Lib.Math.abs.name, Cond.initialized "java/lang/Math", Cond.code Lib.Math.abs.name Lib.Math.abs.code 1 (some .int), Cond.methodLink RX1 63 yX2_linkedTo, Cond.methodLink RX1 67 yX2_weightOf, Cond.instanceMethod yX2_weightOf, Cond.selects RX2 yX2_weightOf yX2_weightOf, Cond.code yX2_weightOf cX2_weightOf 6 (some .int), Cond.methodLink RX2 58 Lib.Math.max.name, Cond.static Lib.Math.max.name, Cond.code Lib.Math.max.name Lib.Math.max.code 2 (some .int), Cond.methodLink RX1 70 yX1_join]
def wsX4_strain_r4 : List Cond := [Cond.instanceMethod yX1_join, Cond.selects RX1 yX1_join yX1_join, Cond.code yX1_join cX1_join 7 none, Cond.fieldLink RX1 21 "StrokeCuts$Network" "room" "[I", Cond.methodLink RX1 78 yX1_reverse, Cond.static yX1_reverse, Cond.code yX1_reverse cX1_reverse 1 (some .int), Cond.methodLink RX4 60 yX2_numberOf, Cond.methodLink RX4 136 yX1_join, Cond.methodLink RX4 133 yX1_fill, Cond.instanceMethod yX1_fill, Cond.selects RX1 yX1_fill yX1_fill, Cond.code yX1_fill cX1_fill 6 (some .int), Cond.fieldLink RX1 24 "StrokeCuts$Network" "distance" "[I", Cond.methodLink RX1 82 yX1_measureDistances, Cond.instanceMethod yX1_measureDistances, Cond.selects RX1 yX1_measureDistances yX1_measureDistances, Cond.code yX1_measureDistances cX1_measureDistances 5 none, Cond.fieldLink RX1 88 "StrokeCuts$Network" "queued" "I", Cond.fieldLink RX1 27 "StrokeCuts$Network" "queue" "[I", Cond.methodLink RX1 91 yX1_enqueue, Cond.instanceMethod yX1_enqueue, Cond.selects RX1 yX1_enqueue yX1_enqueue, Cond.code yX1_enqueue cX1_enqueue 2 none]
def wsX4_strain_r5 : List Cond := [Cond.methodLink RX1 85 yX1_send, Cond.instanceMethod yX1_send, Cond.selects RX1 yX1_send yX1_send, Cond.code yX1_send cX1_send 9 (some .int), Cond.methodLink RX1 95 Lib.Math.min.name, Cond.static Lib.Math.min.name, Cond.code Lib.Math.min.name Lib.Math.min.code 2 (some .int), Cond.methodLink RX1 100 yX1_isNext, Cond.instanceMethod yX1_isNext, Cond.selects RX1 yX1_isNext yX1_isNext, Cond.code yX1_isNext cX1_isNext 3 (some .boolean)]
def wsX4_strain : List Cond := .code yX4_strain cX4_strain 6 (some .int) :: ((wsX4_strain_r1 ++ (wsX4_strain_r2 ++ (wsX4_strain_r3 ++ (wsX4_strain_r4 ++ wsX4_strain_r5)))) ++ wsX40 ++ wsX20 ++ wsX10)
def wsX4_tight_r1 : List Cond := [Cond.fieldLink RX4 12 "StrokeCuts" "scene" "LStrokeCuts$Scene;", Cond.fieldLink RX4 26 "StrokeCuts" "network" "LStrokeCuts$Network;", Cond.methodLink RX4 101 yX4_isLinkPlace, Cond.instanceMethod yX4_isLinkPlace, Cond.selects RX4 yX4_isLinkPlace yX4_isLinkPlace, Cond.initialized RX4, Cond.code yX4_isLinkPlace cX4_isLinkPlace 4 (some .boolean), Cond.methodLink RX4 56 yX2_hasDot, Cond.instanceMethod yX2_hasDot, Cond.selects RX2 yX2_hasDot yX2_hasDot, Cond.initialized RX2, Cond.code yX2_hasDot cX2_hasDot 3 (some .boolean), Cond.fieldLink RX2 21 "StrokeCuts$Scene" "width" "I", Cond.fieldLink RX2 25 "StrokeCuts$Scene" "height" "I", Cond.methodLink RX4 37 yX4_isWithin, Cond.static yX4_isWithin, Cond.code yX4_isWithin cX4_isWithin 3 (some .boolean), Cond.methodLink RX4 41 yX4_refuseBad, Cond.instanceMethod yX4_refuseBad, Cond.selects RX4 yX4_refuseBad yX4_refuseBad, Cond.code yX4_refuseBad cX4_refuseBad 1 (some .int), Cond.fieldLink RX4 236 "StrokeCuts" "badCalls" "I", Cond.methodLink RX4 104 yX2_linkedTo, Cond.instanceMethod yX2_linkedTo]
def wsX4_tight_r2 : List Cond := [Cond.selects RX2 yX2_linkedTo yX2_linkedTo, Cond.code yX2_linkedTo cX2_linkedTo 6 (some .int), Cond.fieldLink RX2 9 "StrokeCuts$Scene" "settings" "[I", Cond.methodLink RX2 44 yX2_hasDot, Cond.methodLink RX2 48 yX2_numberOf, Cond.instanceMethod yX2_numberOf, Cond.selects RX2 yX2_numberOf yX2_numberOf, Cond.code yX2_numberOf cX2_numberOf 3 (some .int), Cond.methodLink RX4 60 yX2_numberOf, Cond.methodLink RX4 111 yX1_solve, Cond.instanceMethod yX1_solve, Cond.selects RX1 yX1_solve yX1_solve, Cond.initialized RX1, Cond.code yX1_solve cX1_solve 2 (some .int), Cond.methodLink RX1 30 yX1_load, Cond.instanceMethod yX1_load, Cond.selects RX1 yX1_load yX1_load, Cond.code yX1_load cX1_load 7 none, Cond.fieldLink RX1 43 "StrokeCuts$Network" "dots" "I", Cond.fieldLink RX1 18 "StrokeCuts$Network" "neighbour" "[I", Cond.fieldLink RX1 46 "StrokeCuts$Scene" "height" "I", Cond.fieldLink RX1 49 "StrokeCuts$Scene" "width" "I", Cond.fieldLink RX1 56 "StrokeCuts$Scene" "marks" "[I", Cond.methodLink RX1 38 yX2_dots]
def wsX4_tight_r3 : List Cond := [Cond.instanceMethod yX2_dots, Cond.selects RX2 yX2_dots yX2_dots, Cond.code yX2_dots cX2_dots 1 (some .int), Cond.methodLink RX1 52 yX2_numberOf, Cond.methodLink RX1 59 yX1_loadPulls, Cond.instanceMethod yX1_loadPulls, Cond.selects RX1 yX1_loadPulls yX1_loadPulls, Cond.code yX1_loadPulls cX1_loadPulls 4 none, Cond.fieldLink RX1 9 "StrokeCuts$Network" "fromFigure" "[I", Cond.constant RX1 77 (1000000), Cond.fieldLink RX1 15 "StrokeCuts$Network" "toGround" "[I", Cond.methodLink RX1 74 yX2_pullFrom, Cond.instanceMethod yX2_pullFrom, Cond.selects RX2 yX2_pullFrom yX2_pullFrom, Cond.code yX2_pullFrom cX2_pullFrom 3 (some .int), Cond.fieldLink RX2 15 "StrokeCuts$Scene" "shades" "[I", Cond.methodLink RX2 52 Lib.Math.abs.name, Cond.static Lib.Math.abs.name, Cond.initialized "java/lang/Math", Cond.code Lib.Math.abs.name Lib.Math.abs.code 1 (some .int), Cond.methodLink RX1 63 yX2_linkedTo, Cond.methodLink RX1 67 yX2_weightOf, Cond.instanceMethod yX2_weightOf, Cond.selects RX2 yX2_weightOf yX2_weightOf]
def wsX4_tight_r4 : List Cond := [Cond.code yX2_weightOf cX2_weightOf 6 (some .int), Cond.methodLink RX2 58 Lib.Math.max.name, Cond.static Lib.Math.max.name, Cond.code Lib.Math.max.name Lib.Math.max.code 2 (some .int), Cond.methodLink RX1 70 yX1_join, Cond.instanceMethod yX1_join, Cond.selects RX1 yX1_join yX1_join, Cond.code yX1_join cX1_join 7 none, Cond.fieldLink RX1 21 "StrokeCuts$Network" "room" "[I", Cond.methodLink RX1 78 yX1_reverse, Cond.static yX1_reverse, Cond.code yX1_reverse cX1_reverse 1 (some .int), Cond.methodLink RX1 34 yX1_fill, Cond.instanceMethod yX1_fill, Cond.selects RX1 yX1_fill yX1_fill, Cond.code yX1_fill cX1_fill 6 (some .int), Cond.fieldLink RX1 24 "StrokeCuts$Network" "distance" "[I", Cond.methodLink RX1 82 yX1_measureDistances, Cond.instanceMethod yX1_measureDistances, Cond.selects RX1 yX1_measureDistances yX1_measureDistances, Cond.code yX1_measureDistances cX1_measureDistances 5 none, Cond.fieldLink RX1 88 "StrokeCuts$Network" "queued" "I", Cond.fieldLink RX1 27 "StrokeCuts$Network" "queue" "[I", Cond.methodLink RX1 91 yX1_enqueue]
def wsX4_tight_r5 : List Cond := [Cond.instanceMethod yX1_enqueue, Cond.selects RX1 yX1_enqueue yX1_enqueue, Cond.code yX1_enqueue cX1_enqueue 2 none, Cond.methodLink RX1 85 yX1_send, Cond.instanceMethod yX1_send, Cond.selects RX1 yX1_send yX1_send, Cond.code yX1_send cX1_send 9 (some .int), Cond.methodLink RX1 95 Lib.Math.min.name, Cond.static Lib.Math.min.name, Cond.code Lib.Math.min.name Lib.Math.min.code 2 (some .int), Cond.methodLink RX1 100 yX1_isNext, Cond.instanceMethod yX1_isNext, Cond.selects RX1 yX1_isNext yX1_isNext, Cond.code yX1_isNext cX1_isNext 3 (some .boolean), Cond.methodLink RX4 140 yX1_alwaysParts, Cond.instanceMethod yX1_alwaysParts, Cond.selects RX1 yX1_alwaysParts yX1_alwaysParts, Cond.code yX1_alwaysParts cX1_alwaysParts 3 (some .boolean), Cond.methodLink RX1 112 yX1_leastSet, Cond.instanceMethod yX1_leastSet, Cond.selects RX1 yX1_leastSet yX1_leastSet, Cond.code yX1_leastSet cX1_leastSet 4 (some .long), Cond.methodLink RX1 104 yX1_spread, Cond.instanceMethod yX1_spread]
def wsX4_tight_r6 : List Cond := [Cond.selects RX1 yX1_spread yX1_spread, Cond.code yX1_spread cX1_spread 9 (some .long), Cond.static yX4_has, Cond.code yX4_has cX4_has 3 (some .boolean), Cond.methodLink RX1 116 yX1_greatestSet, Cond.instanceMethod yX1_greatestSet, Cond.selects RX1 yX1_greatestSet yX1_greatestSet, Cond.code yX1_greatestSet cX1_greatestSet 4 (some .long), Cond.methodLink RX4 143 yX1_mayPart, Cond.instanceMethod yX1_mayPart, Cond.selects RX1 yX1_mayPart yX1_mayPart, Cond.code yX1_mayPart cX1_mayPart 3 (some .boolean)]
def wsX4_tight : List Cond := .code yX4_tight cX4_tight 6 (some .int) :: ((wsX4_tight_r1 ++ (wsX4_tight_r2 ++ (wsX4_tight_r3 ++ (wsX4_tight_r4 ++ (wsX4_tight_r5 ++ wsX4_tight_r6))))) ++ wsX40 ++ wsX20 ++ wsX10)
def wsX4_costs_r1 : List Cond := [Cond.fieldLink RX4 12 "StrokeCuts" "scene" "LStrokeCuts$Scene;", Cond.constantLong RX4 149 (-1), Cond.fieldLink RX4 155 "StrokeCuts" "noCalls" "I", Cond.methodLink RX4 146 yX2_allDots, Cond.instanceMethod yX2_allDots, Cond.selects RX2 yX2_allDots yX2_allDots, Cond.initialized RX2, Cond.code yX2_allDots cX2_allDots 1 (some .long), Cond.methodLink RX2 34 yX2_dots, Cond.instanceMethod yX2_dots, Cond.selects RX2 yX2_dots yX2_dots, Cond.code yX2_dots cX2_dots 1 (some .int), Cond.fieldLink RX2 21 "StrokeCuts$Scene" "width" "I", Cond.fieldLink RX2 25 "StrokeCuts$Scene" "height" "I", Cond.methodLink RX4 41 yX4_refuseBad, Cond.instanceMethod yX4_refuseBad, Cond.selects RX4 yX4_refuseBad yX4_refuseBad, Cond.initialized RX4, Cond.code yX4_refuseBad cX4_refuseBad 1 (some .int), Cond.fieldLink RX4 236 "StrokeCuts" "badCalls" "I", Cond.methodLink RX4 151 yX2_isCutOut, Cond.instanceMethod yX2_isCutOut, Cond.selects RX2 yX2_isCutOut yX2_isCutOut, Cond.code yX2_isCutOut cX2_isCutOut 4 (some .boolean)]
def wsX4_costs_r2 : List Cond := [Cond.fieldLink RX2 18 "StrokeCuts$Scene" "marks" "[I", Cond.static yX4_has, Cond.code yX4_has cX4_has 3 (some .boolean), Cond.methodLink RX4 159 yX2_costOf, Cond.instanceMethod yX2_costOf, Cond.selects RX2 yX2_costOf yX2_costOf, Cond.code yX2_costOf cX2_costOf 7 (some .int), Cond.methodLink RX2 48 yX2_numberOf, Cond.instanceMethod yX2_numberOf, Cond.selects RX2 yX2_numberOf yX2_numberOf, Cond.code yX2_numberOf cX2_numberOf 3 (some .int), Cond.methodLink RX2 78 yX2_pullFrom, Cond.instanceMethod yX2_pullFrom, Cond.selects RX2 yX2_pullFrom yX2_pullFrom, Cond.code yX2_pullFrom cX2_pullFrom 3 (some .int), Cond.fieldLink RX2 9 "StrokeCuts$Scene" "settings" "[I", Cond.fieldLink RX2 15 "StrokeCuts$Scene" "shades" "[I", Cond.methodLink RX2 52 Lib.Math.abs.name, Cond.static Lib.Math.abs.name, Cond.initialized "java/lang/Math", Cond.code Lib.Math.abs.name Lib.Math.abs.code 1 (some .int), Cond.methodLink RX2 81 yX2_linkCosts, Cond.instanceMethod yX2_linkCosts, Cond.selects RX2 yX2_linkCosts yX2_linkCosts]
def wsX4_costs_r3 : List Cond := [Cond.code yX2_linkCosts cX2_linkCosts 9 (some .int), Cond.methodLink RX2 85 yX2_linkedTo, Cond.instanceMethod yX2_linkedTo, Cond.selects RX2 yX2_linkedTo yX2_linkedTo, Cond.code yX2_linkedTo cX2_linkedTo 6 (some .int), Cond.methodLink RX2 44 yX2_hasDot, Cond.instanceMethod yX2_hasDot, Cond.selects RX2 yX2_hasDot yX2_hasDot, Cond.code yX2_hasDot cX2_hasDot 3 (some .boolean), Cond.methodLink RX2 89 yX2_weightOf, Cond.instanceMethod yX2_weightOf, Cond.selects RX2 yX2_weightOf yX2_weightOf, Cond.code yX2_weightOf cX2_weightOf 6 (some .int), Cond.methodLink RX2 58 Lib.Math.max.name, Cond.static Lib.Math.max.name, Cond.code Lib.Math.max.name Lib.Math.max.code 2 (some .int)]
def wsX4_costs : List Cond := .code yX4_costs cX4_costs 3 (some .int) :: ((wsX4_costs_r1 ++ (wsX4_costs_r2 ++ wsX4_costs_r3)) ++ wsX40 ++ wsX20)
def wsX4_shape_r1 : List Cond := [Cond.fieldLink RX4 26 "StrokeCuts" "network" "LStrokeCuts$Network;", Cond.fieldLink RX4 12 "StrokeCuts" "scene" "LStrokeCuts$Scene;", Cond.methodLink RX4 37 yX4_isWithin, Cond.static yX4_isWithin, Cond.initialized RX4, Cond.code yX4_isWithin cX4_isWithin 3 (some .boolean), Cond.methodLink RX4 41 yX4_refuseBad, Cond.instanceMethod yX4_refuseBad, Cond.selects RX4 yX4_refuseBad yX4_refuseBad, Cond.code yX4_refuseBad cX4_refuseBad 1 (some .int), Cond.fieldLink RX4 236 "StrokeCuts" "badCalls" "I", Cond.methodLink RX4 111 yX1_solve, Cond.instanceMethod yX1_solve, Cond.selects RX1 yX1_solve yX1_solve, Cond.initialized RX1, Cond.code yX1_solve cX1_solve 2 (some .int), Cond.methodLink RX1 30 yX1_load, Cond.instanceMethod yX1_load, Cond.selects RX1 yX1_load yX1_load, Cond.code yX1_load cX1_load 7 none, Cond.fieldLink RX1 43 "StrokeCuts$Network" "dots" "I", Cond.fieldLink RX1 18 "StrokeCuts$Network" "neighbour" "[I", Cond.fieldLink RX1 46 "StrokeCuts$Scene" "height" "I", Cond.fieldLink RX1 49 "StrokeCuts$Scene" "width" "I"]
def wsX4_shape_r2 : List Cond := [Cond.fieldLink RX1 56 "StrokeCuts$Scene" "marks" "[I", Cond.methodLink RX1 38 yX2_dots, Cond.instanceMethod yX2_dots, Cond.selects RX2 yX2_dots yX2_dots, Cond.initialized RX2, Cond.code yX2_dots cX2_dots 1 (some .int), Cond.fieldLink RX2 21 "StrokeCuts$Scene" "width" "I", Cond.fieldLink RX2 25 "StrokeCuts$Scene" "height" "I", Cond.methodLink RX1 52 yX2_numberOf, Cond.instanceMethod yX2_numberOf, Cond.selects RX2 yX2_numberOf yX2_numberOf, Cond.code yX2_numberOf cX2_numberOf 3 (some .int), Cond.methodLink RX1 59 yX1_loadPulls, Cond.instanceMethod yX1_loadPulls, Cond.selects RX1 yX1_loadPulls yX1_loadPulls, Cond.code yX1_loadPulls cX1_loadPulls 4 none, Cond.fieldLink RX1 9 "StrokeCuts$Network" "fromFigure" "[I", Cond.constant RX1 77 (1000000), Cond.fieldLink RX1 15 "StrokeCuts$Network" "toGround" "[I", Cond.methodLink RX1 74 yX2_pullFrom, Cond.instanceMethod yX2_pullFrom, Cond.selects RX2 yX2_pullFrom yX2_pullFrom, Cond.code yX2_pullFrom cX2_pullFrom 3 (some .int), Cond.fieldLink RX2 9 "StrokeCuts$Scene" "settings" "[I"]
def wsX4_shape_r3 : List Cond := [Cond.fieldLink RX2 15 "StrokeCuts$Scene" "shades" "[I", Cond.methodLink RX2 52 Lib.Math.abs.name, Cond.static Lib.Math.abs.name, Cond.initialized "java/lang/Math", Cond.code Lib.Math.abs.name Lib.Math.abs.code 1 (some .int), Cond.methodLink RX1 63 yX2_linkedTo, Cond.instanceMethod yX2_linkedTo, Cond.selects RX2 yX2_linkedTo yX2_linkedTo, Cond.code yX2_linkedTo cX2_linkedTo 6 (some .int), Cond.methodLink RX2 44 yX2_hasDot, Cond.instanceMethod yX2_hasDot, Cond.selects RX2 yX2_hasDot yX2_hasDot, Cond.code yX2_hasDot cX2_hasDot 3 (some .boolean), Cond.methodLink RX2 48 yX2_numberOf, Cond.methodLink RX1 67 yX2_weightOf, Cond.instanceMethod yX2_weightOf, Cond.selects RX2 yX2_weightOf yX2_weightOf, Cond.code yX2_weightOf cX2_weightOf 6 (some .int), Cond.methodLink RX2 58 Lib.Math.max.name, Cond.static Lib.Math.max.name, Cond.code Lib.Math.max.name Lib.Math.max.code 2 (some .int), Cond.methodLink RX1 70 yX1_join, Cond.instanceMethod yX1_join, Cond.selects RX1 yX1_join yX1_join]
def wsX4_shape_r4 : List Cond := [Cond.code yX1_join cX1_join 7 none, Cond.fieldLink RX1 21 "StrokeCuts$Network" "room" "[I", Cond.methodLink RX1 78 yX1_reverse, Cond.static yX1_reverse, Cond.code yX1_reverse cX1_reverse 1 (some .int), Cond.methodLink RX1 34 yX1_fill, Cond.instanceMethod yX1_fill, Cond.selects RX1 yX1_fill yX1_fill, Cond.code yX1_fill cX1_fill 6 (some .int), Cond.fieldLink RX1 24 "StrokeCuts$Network" "distance" "[I", Cond.methodLink RX1 82 yX1_measureDistances, Cond.instanceMethod yX1_measureDistances, Cond.selects RX1 yX1_measureDistances yX1_measureDistances, Cond.code yX1_measureDistances cX1_measureDistances 5 none, Cond.fieldLink RX1 88 "StrokeCuts$Network" "queued" "I", Cond.fieldLink RX1 27 "StrokeCuts$Network" "queue" "[I", Cond.methodLink RX1 91 yX1_enqueue, Cond.instanceMethod yX1_enqueue, Cond.selects RX1 yX1_enqueue yX1_enqueue, Cond.code yX1_enqueue cX1_enqueue 2 none, Cond.methodLink RX1 85 yX1_send, Cond.instanceMethod yX1_send, Cond.selects RX1 yX1_send yX1_send, Cond.code yX1_send cX1_send 9 (some .int)]
def wsX4_shape_r5 : List Cond := [Cond.methodLink RX1 95 Lib.Math.min.name, Cond.static Lib.Math.min.name, Cond.code Lib.Math.min.name Lib.Math.min.code 2 (some .int), Cond.methodLink RX1 100 yX1_isNext, Cond.instanceMethod yX1_isNext, Cond.selects RX1 yX1_isNext yX1_isNext, Cond.code yX1_isNext cX1_isNext 3 (some .boolean), Cond.methodLink RX4 115 yX1_leastSet, Cond.instanceMethod yX1_leastSet, Cond.selects RX1 yX1_leastSet yX1_leastSet, Cond.code yX1_leastSet cX1_leastSet 4 (some .long), Cond.methodLink RX1 104 yX1_spread, Cond.instanceMethod yX1_spread, Cond.selects RX1 yX1_spread yX1_spread, Cond.code yX1_spread cX1_spread 9 (some .long), Cond.static yX4_has, Cond.code yX4_has cX4_has 3 (some .boolean), Cond.methodLink RX4 163 yJ13_bitCount_95d88, Cond.static yJ13_bitCount_95d88, Cond.initialized RJ13, Cond.code yJ13_bitCount_95d88 cJ13_bitCount_95d88 2 (some .int), Cond.constantLong RJ13 314 (6148914691236517205), Cond.constantLong RJ13 316 (3689348814741910323), Cond.constantLong RJ13 318 (1085102592571150095)]
def wsX4_shape_r6 : List Cond := [Cond.methodLink RX4 168 yX2_pieces, Cond.instanceMethod yX2_pieces, Cond.selects RX2 yX2_pieces yX2_pieces, Cond.code yX2_pieces cX2_pieces 3 (some .int), Cond.methodLink RX2 99 yX2_countPieces, Cond.instanceMethod yX2_countPieces, Cond.selects RX2 yX2_countPieces yX2_countPieces, Cond.code yX2_countPieces cX2_countPieces 11 (some .int), Cond.constantLong RX2 76 (-1), Cond.methodLink RX2 34 yX2_dots, Cond.methodLink RX2 106 yX2_pieceOf, Cond.instanceMethod yX2_pieceOf, Cond.selects RX2 yX2_pieceOf yX2_pieceOf, Cond.code yX2_pieceOf cX2_pieceOf 16 (some .long), Cond.methodLink RX2 92 yX2_column, Cond.instanceMethod yX2_column, Cond.selects RX2 yX2_column yX2_column, Cond.code yX2_column cX2_column 5 (some .long), Cond.methodLink RX4 171 yX2_holes, Cond.instanceMethod yX2_holes, Cond.selects RX2 yX2_holes yX2_holes, Cond.code yX2_holes cX2_holes 3 (some .int), Cond.methodLink RX2 72 yX2_allDots, Cond.instanceMethod yX2_allDots]
def wsX4_shape_r7 : List Cond := [Cond.selects RX2 yX2_allDots yX2_allDots, Cond.code yX2_allDots cX2_allDots 1 (some .long), Cond.methodLink RX2 103 yX2_border, Cond.instanceMethod yX2_border, Cond.selects RX2 yX2_border yX2_border, Cond.code yX2_border cX2_border 1 (some .long), Cond.methodLink RX2 96 yX2_row, Cond.instanceMethod yX2_row, Cond.selects RX2 yX2_row yX2_row, Cond.code yX2_row cX2_row 5 (some .long), Cond.methodLink RX4 174 yX2_edges, Cond.instanceMethod yX2_edges, Cond.selects RX2 yX2_edges yX2_edges, Cond.code yX2_edges cX2_edges 7 (some .int), Cond.methodLink RX2 110 yJ13_bitCount_95d88, Cond.methodLink RX4 177 yX2_firstColumn, Cond.instanceMethod yX2_firstColumn, Cond.selects RX2 yX2_firstColumn yX2_firstColumn, Cond.code yX2_firstColumn cX2_firstColumn 4 (some .int), Cond.methodLink RX4 180 yX2_firstRow, Cond.instanceMethod yX2_firstRow, Cond.selects RX2 yX2_firstRow yX2_firstRow, Cond.code yX2_firstRow cX2_firstRow 4 (some .int), Cond.methodLink RX4 183 yX2_lastColumn]
def wsX4_shape_r8 : List Cond := [Cond.instanceMethod yX2_lastColumn, Cond.selects RX2 yX2_lastColumn yX2_lastColumn, Cond.code yX2_lastColumn cX2_lastColumn 4 (some .int), Cond.methodLink RX4 186 yX2_lastRow, Cond.instanceMethod yX2_lastRow, Cond.selects RX2 yX2_lastRow yX2_lastRow, Cond.code yX2_lastRow cX2_lastRow 4 (some .int)]
def wsX4_shape : List Cond := .code yX4_shape cX4_shape 4 (some .int) :: ((wsX4_shape_r1 ++ (wsX4_shape_r2 ++ (wsX4_shape_r3 ++ (wsX4_shape_r4 ++ (wsX4_shape_r5 ++ (wsX4_shape_r6 ++ (wsX4_shape_r7 ++ wsX4_shape_r8))))))) ++ wsX40 ++ wsX10 ++ wsX20)
def wsX4_learnRounds_r1 : List Cond := [Cond.fieldLink RX4 26 "StrokeCuts" "network" "LStrokeCuts$Network;", Cond.fieldLink RX4 12 "StrokeCuts" "scene" "LStrokeCuts$Scene;", Cond.methodLink RX4 111 yX1_solve, Cond.instanceMethod yX1_solve, Cond.selects RX1 yX1_solve yX1_solve, Cond.initialized RX1, Cond.code yX1_solve cX1_solve 2 (some .int), Cond.methodLink RX1 30 yX1_load, Cond.instanceMethod yX1_load, Cond.selects RX1 yX1_load yX1_load, Cond.code yX1_load cX1_load 7 none, Cond.fieldLink RX1 43 "StrokeCuts$Network" "dots" "I", Cond.fieldLink RX1 18 "StrokeCuts$Network" "neighbour" "[I", Cond.fieldLink RX1 46 "StrokeCuts$Scene" "height" "I", Cond.fieldLink RX1 49 "StrokeCuts$Scene" "width" "I", Cond.fieldLink RX1 56 "StrokeCuts$Scene" "marks" "[I", Cond.methodLink RX1 38 yX2_dots, Cond.instanceMethod yX2_dots, Cond.selects RX2 yX2_dots yX2_dots, Cond.initialized RX2, Cond.code yX2_dots cX2_dots 1 (some .int), Cond.fieldLink RX2 21 "StrokeCuts$Scene" "width" "I", Cond.fieldLink RX2 25 "StrokeCuts$Scene" "height" "I", Cond.methodLink RX1 52 yX2_numberOf]
def wsX4_learnRounds_r2 : List Cond := [Cond.instanceMethod yX2_numberOf, Cond.selects RX2 yX2_numberOf yX2_numberOf, Cond.code yX2_numberOf cX2_numberOf 3 (some .int), Cond.methodLink RX1 59 yX1_loadPulls, Cond.instanceMethod yX1_loadPulls, Cond.selects RX1 yX1_loadPulls yX1_loadPulls, Cond.code yX1_loadPulls cX1_loadPulls 4 none, Cond.fieldLink RX1 9 "StrokeCuts$Network" "fromFigure" "[I", Cond.constant RX1 77 (1000000), Cond.fieldLink RX1 15 "StrokeCuts$Network" "toGround" "[I", Cond.methodLink RX1 74 yX2_pullFrom, Cond.instanceMethod yX2_pullFrom, Cond.selects RX2 yX2_pullFrom yX2_pullFrom, Cond.code yX2_pullFrom cX2_pullFrom 3 (some .int), Cond.fieldLink RX2 9 "StrokeCuts$Scene" "settings" "[I", Cond.fieldLink RX2 15 "StrokeCuts$Scene" "shades" "[I", Cond.methodLink RX2 52 Lib.Math.abs.name, Cond.static Lib.Math.abs.name, Cond.initialized "java/lang/Math", Cond.code Lib.Math.abs.name Lib.Math.abs.code 1 (some .int), Cond.methodLink RX1 63 yX2_linkedTo, Cond.instanceMethod yX2_linkedTo, Cond.selects RX2 yX2_linkedTo yX2_linkedTo, Cond.code yX2_linkedTo cX2_linkedTo 6 (some .int)]
def wsX4_learnRounds_r3 : List Cond := [Cond.methodLink RX2 44 yX2_hasDot, Cond.instanceMethod yX2_hasDot, Cond.selects RX2 yX2_hasDot yX2_hasDot, Cond.code yX2_hasDot cX2_hasDot 3 (some .boolean), Cond.methodLink RX2 48 yX2_numberOf, Cond.methodLink RX1 67 yX2_weightOf, Cond.instanceMethod yX2_weightOf, Cond.selects RX2 yX2_weightOf yX2_weightOf, Cond.code yX2_weightOf cX2_weightOf 6 (some .int), Cond.methodLink RX2 58 Lib.Math.max.name, Cond.static Lib.Math.max.name, Cond.code Lib.Math.max.name Lib.Math.max.code 2 (some .int), Cond.methodLink RX1 70 yX1_join, Cond.instanceMethod yX1_join, Cond.selects RX1 yX1_join yX1_join, Cond.code yX1_join cX1_join 7 none, Cond.fieldLink RX1 21 "StrokeCuts$Network" "room" "[I", Cond.methodLink RX1 78 yX1_reverse, Cond.static yX1_reverse, Cond.code yX1_reverse cX1_reverse 1 (some .int), Cond.methodLink RX1 34 yX1_fill, Cond.instanceMethod yX1_fill, Cond.selects RX1 yX1_fill yX1_fill, Cond.code yX1_fill cX1_fill 6 (some .int)]
def wsX4_learnRounds_r4 : List Cond := [Cond.fieldLink RX1 24 "StrokeCuts$Network" "distance" "[I", Cond.methodLink RX1 82 yX1_measureDistances, Cond.instanceMethod yX1_measureDistances, Cond.selects RX1 yX1_measureDistances yX1_measureDistances, Cond.code yX1_measureDistances cX1_measureDistances 5 none, Cond.fieldLink RX1 88 "StrokeCuts$Network" "queued" "I", Cond.fieldLink RX1 27 "StrokeCuts$Network" "queue" "[I", Cond.methodLink RX1 91 yX1_enqueue, Cond.instanceMethod yX1_enqueue, Cond.selects RX1 yX1_enqueue yX1_enqueue, Cond.code yX1_enqueue cX1_enqueue 2 none, Cond.methodLink RX1 85 yX1_send, Cond.instanceMethod yX1_send, Cond.selects RX1 yX1_send yX1_send, Cond.code yX1_send cX1_send 9 (some .int), Cond.methodLink RX1 95 Lib.Math.min.name, Cond.static Lib.Math.min.name, Cond.code Lib.Math.min.name Lib.Math.min.code 2 (some .int), Cond.methodLink RX1 100 yX1_isNext, Cond.instanceMethod yX1_isNext, Cond.selects RX1 yX1_isNext yX1_isNext, Cond.code yX1_isNext cX1_isNext 3 (some .boolean), Cond.methodLink RX4 115 yX1_leastSet, Cond.instanceMethod yX1_leastSet]
def wsX4_learnRounds_r5 : List Cond := [Cond.selects RX1 yX1_leastSet yX1_leastSet, Cond.code yX1_leastSet cX1_leastSet 4 (some .long), Cond.methodLink RX1 104 yX1_spread, Cond.instanceMethod yX1_spread, Cond.selects RX1 yX1_spread yX1_spread, Cond.code yX1_spread cX1_spread 9 (some .long), Cond.static yX4_has, Cond.initialized RX4, Cond.code yX4_has cX4_has 3 (some .boolean), Cond.methodLink RX4 246 yX2_learnTones, Cond.instanceMethod yX2_learnTones, Cond.selects RX2 yX2_learnTones yX2_learnTones, Cond.code yX2_learnTones cX2_learnTones 5 (some .boolean), Cond.constantLong RX2 76 (-1), Cond.methodLink RX2 68 yX2_learnTone, Cond.instanceMethod yX2_learnTone, Cond.selects RX2 yX2_learnTone yX2_learnTone, Cond.code yX2_learnTone cX2_learnTone 7 (some .boolean), Cond.methodLink RX2 34 yX2_dots, Cond.methodLink RX2 72 yX2_allDots, Cond.instanceMethod yX2_allDots, Cond.selects RX2 yX2_allDots yX2_allDots, Cond.code yX2_allDots cX2_allDots 1 (some .long)]
def wsX4_learnRounds : List Cond := .code yX4_learnRounds cX4_learnRounds 4 (some .int) :: ((wsX4_learnRounds_r1 ++ (wsX4_learnRounds_r2 ++ (wsX4_learnRounds_r3 ++ (wsX4_learnRounds_r4 ++ wsX4_learnRounds_r5)))) ++ wsX40 ++ wsX10 ++ wsX20)
def wsX4_learns_r1 : List Cond := [Cond.fieldLink RX4 19 "StrokeCuts" "past" "LStrokeCuts$History;", Cond.fieldLink RX4 12 "StrokeCuts" "scene" "LStrokeCuts$Scene;", Cond.methodLink RX4 37 yX4_isWithin, Cond.static yX4_isWithin, Cond.initialized RX4, Cond.code yX4_isWithin cX4_isWithin 3 (some .boolean), Cond.methodLink RX4 41 yX4_refuseBad, Cond.instanceMethod yX4_refuseBad, Cond.selects RX4 yX4_refuseBad yX4_refuseBad, Cond.code yX4_refuseBad cX4_refuseBad 1 (some .int), Cond.fieldLink RX4 236 "StrokeCuts" "badCalls" "I", Cond.methodLink RX4 45 yX0_remember, Cond.instanceMethod yX0_remember, Cond.selects RX0 yX0_remember yX0_remember, Cond.initialized RX0, Cond.code yX0_remember cX0_remember 3 none, Cond.fieldLink RX0 11 "StrokeCuts$History" "kept" "[LStrokeCuts$Scene;", Cond.fieldLink RX0 16 "StrokeCuts$History" "next" "I", Cond.fieldLink RX0 24 "StrokeCuts$History" "count" "I", Cond.methodLink RX0 27 Lib.Math.min.name, Cond.static Lib.Math.min.name, Cond.initialized "java/lang/Math", Cond.code Lib.Math.min.name Lib.Math.min.code 2 (some .int), Cond.methodLink RX0 20 yX2_copyFrom]
def wsX4_learns_r2 : List Cond := [Cond.instanceMethod yX2_copyFrom, Cond.selects RX2 yX2_copyFrom yX2_copyFrom, Cond.initialized RX2, Cond.code yX2_copyFrom cX2_copyFrom 2 none, Cond.fieldLink RX2 21 "StrokeCuts$Scene" "width" "I", Cond.fieldLink RX2 25 "StrokeCuts$Scene" "height" "I", Cond.fieldLink RX2 9 "StrokeCuts$Scene" "settings" "[I", Cond.methodLink RX2 28 arraycopyName, Cond.native arraycopyName, Cond.static arraycopyName, Cond.initialized "java/lang/System", Cond.fieldLink RX2 15 "StrokeCuts$Scene" "shades" "[I", Cond.fieldLink RX2 18 "StrokeCuts$Scene" "marks" "[I", Cond.methodLink RX4 189 yX4_learnRounds, Cond.instanceMethod yX4_learnRounds, Cond.selects RX4 yX4_learnRounds yX4_learnRounds, Cond.code yX4_learnRounds cX4_learnRounds 4 (some .int), Cond.fieldLink RX4 26 "StrokeCuts" "network" "LStrokeCuts$Network;", Cond.methodLink RX4 111 yX1_solve, Cond.instanceMethod yX1_solve, Cond.selects RX1 yX1_solve yX1_solve, Cond.initialized RX1, Cond.code yX1_solve cX1_solve 2 (some .int), Cond.methodLink RX1 30 yX1_load]
def wsX4_learns_r3 : List Cond := [Cond.instanceMethod yX1_load, Cond.selects RX1 yX1_load yX1_load, Cond.code yX1_load cX1_load 7 none, Cond.fieldLink RX1 43 "StrokeCuts$Network" "dots" "I", Cond.fieldLink RX1 18 "StrokeCuts$Network" "neighbour" "[I", Cond.fieldLink RX1 46 "StrokeCuts$Scene" "height" "I", Cond.fieldLink RX1 49 "StrokeCuts$Scene" "width" "I", Cond.fieldLink RX1 56 "StrokeCuts$Scene" "marks" "[I", Cond.methodLink RX1 38 yX2_dots, Cond.instanceMethod yX2_dots, Cond.selects RX2 yX2_dots yX2_dots, Cond.code yX2_dots cX2_dots 1 (some .int), Cond.methodLink RX1 52 yX2_numberOf, Cond.instanceMethod yX2_numberOf, Cond.selects RX2 yX2_numberOf yX2_numberOf, Cond.code yX2_numberOf cX2_numberOf 3 (some .int), Cond.methodLink RX1 59 yX1_loadPulls, Cond.instanceMethod yX1_loadPulls, Cond.selects RX1 yX1_loadPulls yX1_loadPulls, Cond.code yX1_loadPulls cX1_loadPulls 4 none, Cond.fieldLink RX1 9 "StrokeCuts$Network" "fromFigure" "[I", Cond.constant RX1 77 (1000000), Cond.fieldLink RX1 15 "StrokeCuts$Network" "toGround" "[I", Cond.methodLink RX1 74 yX2_pullFrom]
def wsX4_learns_r4 : List Cond := [Cond.instanceMethod yX2_pullFrom, Cond.selects RX2 yX2_pullFrom yX2_pullFrom, Cond.code yX2_pullFrom cX2_pullFrom 3 (some .int), Cond.methodLink RX2 52 Lib.Math.abs.name, Cond.static Lib.Math.abs.name, Cond.code Lib.Math.abs.name Lib.Math.abs.code 1 (some .int), Cond.methodLink RX1 63 yX2_linkedTo, Cond.instanceMethod yX2_linkedTo, Cond.selects RX2 yX2_linkedTo yX2_linkedTo, Cond.code yX2_linkedTo cX2_linkedTo 6 (some .int), Cond.methodLink RX2 44 yX2_hasDot, Cond.instanceMethod yX2_hasDot, Cond.selects RX2 yX2_hasDot yX2_hasDot, Cond.code yX2_hasDot cX2_hasDot 3 (some .boolean), Cond.methodLink RX2 48 yX2_numberOf, Cond.methodLink RX1 67 yX2_weightOf, Cond.instanceMethod yX2_weightOf, Cond.selects RX2 yX2_weightOf yX2_weightOf, Cond.code yX2_weightOf cX2_weightOf 6 (some .int), Cond.methodLink RX2 58 Lib.Math.max.name, Cond.static Lib.Math.max.name, Cond.code Lib.Math.max.name Lib.Math.max.code 2 (some .int), Cond.methodLink RX1 70 yX1_join, Cond.instanceMethod yX1_join]
def wsX4_learns_r5 : List Cond := [Cond.selects RX1 yX1_join yX1_join, Cond.code yX1_join cX1_join 7 none, Cond.fieldLink RX1 21 "StrokeCuts$Network" "room" "[I", Cond.methodLink RX1 78 yX1_reverse, Cond.static yX1_reverse, Cond.code yX1_reverse cX1_reverse 1 (some .int), Cond.methodLink RX1 34 yX1_fill, Cond.instanceMethod yX1_fill, Cond.selects RX1 yX1_fill yX1_fill, Cond.code yX1_fill cX1_fill 6 (some .int), Cond.fieldLink RX1 24 "StrokeCuts$Network" "distance" "[I", Cond.methodLink RX1 82 yX1_measureDistances, Cond.instanceMethod yX1_measureDistances, Cond.selects RX1 yX1_measureDistances yX1_measureDistances, Cond.code yX1_measureDistances cX1_measureDistances 5 none, Cond.fieldLink RX1 88 "StrokeCuts$Network" "queued" "I", Cond.fieldLink RX1 27 "StrokeCuts$Network" "queue" "[I", Cond.methodLink RX1 91 yX1_enqueue, Cond.instanceMethod yX1_enqueue, Cond.selects RX1 yX1_enqueue yX1_enqueue, Cond.code yX1_enqueue cX1_enqueue 2 none, Cond.methodLink RX1 85 yX1_send, Cond.instanceMethod yX1_send, Cond.selects RX1 yX1_send yX1_send]
def wsX4_learns_r6 : List Cond := [Cond.code yX1_send cX1_send 9 (some .int), Cond.methodLink RX1 95 Lib.Math.min.name, Cond.methodLink RX1 100 yX1_isNext, Cond.instanceMethod yX1_isNext, Cond.selects RX1 yX1_isNext yX1_isNext, Cond.code yX1_isNext cX1_isNext 3 (some .boolean), Cond.methodLink RX4 115 yX1_leastSet, Cond.instanceMethod yX1_leastSet, Cond.selects RX1 yX1_leastSet yX1_leastSet, Cond.code yX1_leastSet cX1_leastSet 4 (some .long), Cond.methodLink RX1 104 yX1_spread, Cond.instanceMethod yX1_spread, Cond.selects RX1 yX1_spread yX1_spread, Cond.code yX1_spread cX1_spread 9 (some .long), Cond.static yX4_has, Cond.code yX4_has cX4_has 3 (some .boolean), Cond.methodLink RX4 246 yX2_learnTones, Cond.instanceMethod yX2_learnTones, Cond.selects RX2 yX2_learnTones yX2_learnTones, Cond.code yX2_learnTones cX2_learnTones 5 (some .boolean), Cond.constantLong RX2 76 (-1), Cond.methodLink RX2 68 yX2_learnTone, Cond.instanceMethod yX2_learnTone, Cond.selects RX2 yX2_learnTone yX2_learnTone]
def wsX4_learns_r7 : List Cond := [Cond.code yX2_learnTone cX2_learnTone 7 (some .boolean), Cond.methodLink RX2 34 yX2_dots, Cond.methodLink RX2 72 yX2_allDots, Cond.instanceMethod yX2_allDots, Cond.selects RX2 yX2_allDots yX2_allDots, Cond.code yX2_allDots cX2_allDots 1 (some .long)]
def wsX4_learns : List Cond := .code yX4_learns cX4_learns 2 (some .int) :: ((wsX4_learns_r1 ++ (wsX4_learns_r2 ++ (wsX4_learns_r3 ++ (wsX4_learns_r4 ++ (wsX4_learns_r5 ++ (wsX4_learns_r6 ++ wsX4_learns_r7)))))) ++ wsX40 ++ wsX00 ++ wsX20 ++ wsX10)
def wsX4_keeps_r1 : List Cond := [Cond.fieldLink RX4 19 "StrokeCuts" "past" "LStrokeCuts$History;", Cond.fieldLink RX4 12 "StrokeCuts" "scene" "LStrokeCuts$Scene;", Cond.fieldLink RX4 26 "StrokeCuts" "network" "LStrokeCuts$Network;", Cond.methodLink RX4 45 yX0_remember, Cond.instanceMethod yX0_remember, Cond.selects RX0 yX0_remember yX0_remember, Cond.initialized RX0, Cond.code yX0_remember cX0_remember 3 none, Cond.fieldLink RX0 11 "StrokeCuts$History" "kept" "[LStrokeCuts$Scene;", Cond.fieldLink RX0 16 "StrokeCuts$History" "next" "I", Cond.fieldLink RX0 24 "StrokeCuts$History" "count" "I", Cond.methodLink RX0 27 Lib.Math.min.name, Cond.static Lib.Math.min.name, Cond.initialized "java/lang/Math", Cond.code Lib.Math.min.name Lib.Math.min.code 2 (some .int), Cond.methodLink RX0 20 yX2_copyFrom, Cond.instanceMethod yX2_copyFrom, Cond.selects RX2 yX2_copyFrom yX2_copyFrom, Cond.initialized RX2, Cond.code yX2_copyFrom cX2_copyFrom 2 none, Cond.fieldLink RX2 21 "StrokeCuts$Scene" "width" "I", Cond.fieldLink RX2 25 "StrokeCuts$Scene" "height" "I", Cond.fieldLink RX2 9 "StrokeCuts$Scene" "settings" "[I", Cond.methodLink RX2 28 arraycopyName]
def wsX4_keeps_r2 : List Cond := [Cond.native arraycopyName, Cond.static arraycopyName, Cond.initialized "java/lang/System", Cond.fieldLink RX2 15 "StrokeCuts$Scene" "shades" "[I", Cond.fieldLink RX2 18 "StrokeCuts$Scene" "marks" "[I", Cond.methodLink RX4 111 yX1_solve, Cond.instanceMethod yX1_solve, Cond.selects RX1 yX1_solve yX1_solve, Cond.initialized RX1, Cond.code yX1_solve cX1_solve 2 (some .int), Cond.methodLink RX1 30 yX1_load, Cond.instanceMethod yX1_load, Cond.selects RX1 yX1_load yX1_load, Cond.code yX1_load cX1_load 7 none, Cond.fieldLink RX1 43 "StrokeCuts$Network" "dots" "I", Cond.fieldLink RX1 18 "StrokeCuts$Network" "neighbour" "[I", Cond.fieldLink RX1 46 "StrokeCuts$Scene" "height" "I", Cond.fieldLink RX1 49 "StrokeCuts$Scene" "width" "I", Cond.fieldLink RX1 56 "StrokeCuts$Scene" "marks" "[I", Cond.methodLink RX1 38 yX2_dots, Cond.instanceMethod yX2_dots, Cond.selects RX2 yX2_dots yX2_dots, Cond.code yX2_dots cX2_dots 1 (some .int), Cond.methodLink RX1 52 yX2_numberOf]
def wsX4_keeps_r3 : List Cond := [Cond.instanceMethod yX2_numberOf, Cond.selects RX2 yX2_numberOf yX2_numberOf, Cond.code yX2_numberOf cX2_numberOf 3 (some .int), Cond.methodLink RX1 59 yX1_loadPulls, Cond.instanceMethod yX1_loadPulls, Cond.selects RX1 yX1_loadPulls yX1_loadPulls, Cond.code yX1_loadPulls cX1_loadPulls 4 none, Cond.fieldLink RX1 9 "StrokeCuts$Network" "fromFigure" "[I", Cond.constant RX1 77 (1000000), Cond.fieldLink RX1 15 "StrokeCuts$Network" "toGround" "[I", Cond.methodLink RX1 74 yX2_pullFrom, Cond.instanceMethod yX2_pullFrom, Cond.selects RX2 yX2_pullFrom yX2_pullFrom, Cond.code yX2_pullFrom cX2_pullFrom 3 (some .int), Cond.methodLink RX2 52 Lib.Math.abs.name, Cond.static Lib.Math.abs.name, Cond.code Lib.Math.abs.name Lib.Math.abs.code 1 (some .int), Cond.methodLink RX1 63 yX2_linkedTo, Cond.instanceMethod yX2_linkedTo, Cond.selects RX2 yX2_linkedTo yX2_linkedTo, Cond.code yX2_linkedTo cX2_linkedTo 6 (some .int), Cond.methodLink RX2 44 yX2_hasDot, Cond.instanceMethod yX2_hasDot, Cond.selects RX2 yX2_hasDot yX2_hasDot]
def wsX4_keeps_r4 : List Cond := [Cond.code yX2_hasDot cX2_hasDot 3 (some .boolean), Cond.methodLink RX2 48 yX2_numberOf, Cond.methodLink RX1 67 yX2_weightOf, Cond.instanceMethod yX2_weightOf, Cond.selects RX2 yX2_weightOf yX2_weightOf, Cond.code yX2_weightOf cX2_weightOf 6 (some .int), Cond.methodLink RX2 58 Lib.Math.max.name, Cond.static Lib.Math.max.name, Cond.code Lib.Math.max.name Lib.Math.max.code 2 (some .int), Cond.methodLink RX1 70 yX1_join, Cond.instanceMethod yX1_join, Cond.selects RX1 yX1_join yX1_join, Cond.code yX1_join cX1_join 7 none, Cond.fieldLink RX1 21 "StrokeCuts$Network" "room" "[I", Cond.methodLink RX1 78 yX1_reverse, Cond.static yX1_reverse, Cond.code yX1_reverse cX1_reverse 1 (some .int), Cond.methodLink RX1 34 yX1_fill, Cond.instanceMethod yX1_fill, Cond.selects RX1 yX1_fill yX1_fill, Cond.code yX1_fill cX1_fill 6 (some .int), Cond.fieldLink RX1 24 "StrokeCuts$Network" "distance" "[I", Cond.methodLink RX1 82 yX1_measureDistances, Cond.instanceMethod yX1_measureDistances]
def wsX4_keeps_r5 : List Cond := [Cond.selects RX1 yX1_measureDistances yX1_measureDistances, Cond.code yX1_measureDistances cX1_measureDistances 5 none, Cond.fieldLink RX1 88 "StrokeCuts$Network" "queued" "I", Cond.fieldLink RX1 27 "StrokeCuts$Network" "queue" "[I", Cond.methodLink RX1 91 yX1_enqueue, Cond.instanceMethod yX1_enqueue, Cond.selects RX1 yX1_enqueue yX1_enqueue, Cond.code yX1_enqueue cX1_enqueue 2 none, Cond.methodLink RX1 85 yX1_send, Cond.instanceMethod yX1_send, Cond.selects RX1 yX1_send yX1_send, Cond.code yX1_send cX1_send 9 (some .int), Cond.methodLink RX1 95 Lib.Math.min.name, Cond.methodLink RX1 100 yX1_isNext, Cond.instanceMethod yX1_isNext, Cond.selects RX1 yX1_isNext yX1_isNext, Cond.code yX1_isNext cX1_isNext 3 (some .boolean), Cond.methodLink RX4 115 yX1_leastSet, Cond.instanceMethod yX1_leastSet, Cond.selects RX1 yX1_leastSet yX1_leastSet, Cond.code yX1_leastSet cX1_leastSet 4 (some .long), Cond.methodLink RX1 104 yX1_spread, Cond.instanceMethod yX1_spread, Cond.selects RX1 yX1_spread yX1_spread]
def wsX4_keeps_r6 : List Cond := [Cond.code yX1_spread cX1_spread 9 (some .long), Cond.static yX4_has, Cond.initialized RX4, Cond.code yX4_has cX4_has 3 (some .boolean), Cond.methodLink RX4 193 yX2_markRest, Cond.instanceMethod yX2_markRest, Cond.selects RX2 yX2_markRest yX2_markRest, Cond.code yX2_markRest cX2_markRest 5 (some .int), Cond.methodLink RX2 34 yX2_dots]
def wsX4_keeps : List Cond := .code yX4_keeps cX4_keeps 1 (some .int) :: ((wsX4_keeps_r1 ++ (wsX4_keeps_r2 ++ (wsX4_keeps_r3 ++ (wsX4_keeps_r4 ++ (wsX4_keeps_r5 ++ wsX4_keeps_r6))))) ++ wsX40 ++ wsX00 ++ wsX20 ++ wsX10)
def wsX4_turns_r1 : List Cond := [Cond.fieldLink RX4 19 "StrokeCuts" "past" "LStrokeCuts$History;", Cond.fieldLink RX4 12 "StrokeCuts" "scene" "LStrokeCuts$Scene;", Cond.methodLink RX4 45 yX0_remember, Cond.instanceMethod yX0_remember, Cond.selects RX0 yX0_remember yX0_remember, Cond.initialized RX0, Cond.code yX0_remember cX0_remember 3 none, Cond.fieldLink RX0 11 "StrokeCuts$History" "kept" "[LStrokeCuts$Scene;", Cond.fieldLink RX0 16 "StrokeCuts$History" "next" "I", Cond.fieldLink RX0 24 "StrokeCuts$History" "count" "I", Cond.methodLink RX0 27 Lib.Math.min.name, Cond.static Lib.Math.min.name, Cond.initialized "java/lang/Math", Cond.code Lib.Math.min.name Lib.Math.min.code 2 (some .int), Cond.methodLink RX0 20 yX2_copyFrom, Cond.instanceMethod yX2_copyFrom, Cond.selects RX2 yX2_copyFrom yX2_copyFrom, Cond.initialized RX2, Cond.code yX2_copyFrom cX2_copyFrom 2 none, Cond.fieldLink RX2 21 "StrokeCuts$Scene" "width" "I", Cond.fieldLink RX2 25 "StrokeCuts$Scene" "height" "I", Cond.fieldLink RX2 9 "StrokeCuts$Scene" "settings" "[I", Cond.methodLink RX2 28 arraycopyName, Cond.native arraycopyName]
def wsX4_turns_r2 : List Cond := [Cond.static arraycopyName, Cond.initialized "java/lang/System", Cond.fieldLink RX2 15 "StrokeCuts$Scene" "shades" "[I", Cond.fieldLink RX2 18 "StrokeCuts$Scene" "marks" "[I", Cond.methodLink RX4 196 yX2_swapSides, Cond.instanceMethod yX2_swapSides, Cond.selects RX2 yX2_swapSides yX2_swapSides, Cond.code yX2_swapSides cX2_swapSides 3 (some .int), Cond.methodLink RX2 34 yX2_dots, Cond.instanceMethod yX2_dots, Cond.selects RX2 yX2_dots yX2_dots, Cond.code yX2_dots cX2_dots 1 (some .int)]
def wsX4_turns : List Cond := .code yX4_turns cX4_turns 1 (some .int) :: ((wsX4_turns_r1 ++ wsX4_turns_r2) ++ wsX40 ++ wsX00 ++ wsX20)
def wsX4_type : List Cond := .code yX4_type cX4_type 2 (some .int) :: ([.fieldLink RX4 33 "StrokeCuts" "script" "LStrokeCuts$Script;", .fieldLink RX4 203 "StrokeCuts" "fullCalls" "I", .fieldLink RX4 206 "StrokeCuts$Script" "length" "I", .methodLink RX4 37 yX4_isWithin, .static yX4_isWithin, .initialized RX4, .code yX4_isWithin cX4_isWithin 3 (some .boolean), .methodLink RX4 41 yX4_refuseBad, .instanceMethod yX4_refuseBad, .selects RX4 yX4_refuseBad yX4_refuseBad, .code yX4_refuseBad cX4_refuseBad 1 (some .int), .fieldLink RX4 236 "StrokeCuts" "badCalls" "I", .methodLink RX4 199 yX3_takeByte, .instanceMethod yX3_takeByte, .selects RX3 yX3_takeByte yX3_takeByte, .initialized RX3, .code yX3_takeByte cX3_takeByte 2 (some .boolean), .fieldLink RX3 18 "StrokeCuts$Script" "length" "I", .fieldLink RX3 11 "StrokeCuts$Script" "bytes" "[I"] ++ wsX40 ++ wsX30)
def wsX4_clear : List Cond := .code yX4_clear cX4_clear 2 (some .int) :: ([.fieldLink RX4 33 "StrokeCuts" "script" "LStrokeCuts$Script;", .fieldLink RX4 206 "StrokeCuts$Script" "length" "I"] ++ wsX40 ++ wsX30)
def wsX4_markLine_r1 : List Cond := [Cond.fieldLink RX4 33 "StrokeCuts" "script" "LStrokeCuts$Script;", Cond.fieldLink RX4 259 "StrokeCuts$Script" "numberCount" "I", Cond.fieldLink RX4 12 "StrokeCuts" "scene" "LStrokeCuts$Scene;", Cond.methodLink RX4 249 yX3_number, Cond.instanceMethod yX3_number, Cond.selects RX3 yX3_number yX3_number, Cond.initialized RX3, Cond.code yX3_number cX3_number 2 (some .int), Cond.fieldLink RX3 25 "StrokeCuts$Script" "numberCount" "I", Cond.fieldLink RX3 15 "StrokeCuts$Script" "numbers" "[I", Cond.methodLink RX4 84 yX2_lineOf, Cond.instanceMethod yX2_lineOf, Cond.selects RX2 yX2_lineOf yX2_lineOf, Cond.initialized RX2, Cond.code yX2_lineOf cX2_lineOf 11 (some .long), Cond.methodLink RX2 52 Lib.Math.abs.name, Cond.static Lib.Math.abs.name, Cond.initialized "java/lang/Math", Cond.code Lib.Math.abs.name Lib.Math.abs.code 1 (some .int), Cond.methodLink RX2 58 Lib.Math.max.name, Cond.static Lib.Math.max.name, Cond.code Lib.Math.max.name Lib.Math.max.code 2 (some .int), Cond.methodLink RX2 48 yX2_numberOf, Cond.instanceMethod yX2_numberOf]
def wsX4_markLine_r2 : List Cond := [Cond.selects RX2 yX2_numberOf yX2_numberOf, Cond.code yX2_numberOf cX2_numberOf 3 (some .int), Cond.fieldLink RX2 21 "StrokeCuts$Scene" "width" "I", Cond.methodLink RX2 61 yJ9_floorDiv_7cf53, Cond.static yJ9_floorDiv_7cf53, Cond.initialized RJ9, Cond.code yJ9_floorDiv_7cf53 cJ9_floorDiv_7cf53 3 (some .int), Cond.methodLink RX4 88 yX2_markAll, Cond.instanceMethod yX2_markAll, Cond.selects RX2 yX2_markAll yX2_markAll, Cond.code yX2_markAll cX2_markAll 6 (some .int), Cond.fieldLink RX2 18 "StrokeCuts$Scene" "marks" "[I", Cond.methodLink RX2 34 yX2_dots, Cond.instanceMethod yX2_dots, Cond.selects RX2 yX2_dots yX2_dots, Cond.code yX2_dots cX2_dots 1 (some .int), Cond.fieldLink RX2 25 "StrokeCuts$Scene" "height" "I", Cond.static yX4_has, Cond.initialized RX4, Cond.code yX4_has cX4_has 3 (some .boolean)]
def wsX4_markLine : List Cond := .code yX4_markLine cX4_markLine 7 none :: ((wsX4_markLine_r1 ++ wsX4_markLine_r2) ++ wsX40 ++ wsX30 ++ wsX20)
def wsX4_obeyOrder_r1 : List Cond := [Cond.fieldLink RX4 33 "StrokeCuts" "script" "LStrokeCuts$Script;", Cond.fieldLink RX4 252 "StrokeCuts$Script" "kind" "I", Cond.fieldLink RX4 12 "StrokeCuts" "scene" "LStrokeCuts$Scene;", Cond.fieldLink RX4 64 "StrokeCuts$Scene" "shades" "[I", Cond.methodLink RX4 249 yX3_number, Cond.instanceMethod yX3_number, Cond.selects RX3 yX3_number yX3_number, Cond.initialized RX3, Cond.code yX3_number cX3_number 2 (some .int), Cond.fieldLink RX3 25 "StrokeCuts$Script" "numberCount" "I", Cond.fieldLink RX3 15 "StrokeCuts$Script" "numbers" "[I", Cond.methodLink RX4 255 yX4_markLine, Cond.instanceMethod yX4_markLine, Cond.selects RX4 yX4_markLine yX4_markLine, Cond.initialized RX4, Cond.code yX4_markLine cX4_markLine 7 none, Cond.fieldLink RX4 259 "StrokeCuts$Script" "numberCount" "I", Cond.methodLink RX4 84 yX2_lineOf, Cond.instanceMethod yX2_lineOf, Cond.selects RX2 yX2_lineOf yX2_lineOf, Cond.initialized RX2, Cond.code yX2_lineOf cX2_lineOf 11 (some .long), Cond.methodLink RX2 52 Lib.Math.abs.name, Cond.static Lib.Math.abs.name]
def wsX4_obeyOrder_r2 : List Cond := [Cond.initialized "java/lang/Math", Cond.code Lib.Math.abs.name Lib.Math.abs.code 1 (some .int), Cond.methodLink RX2 58 Lib.Math.max.name, Cond.static Lib.Math.max.name, Cond.code Lib.Math.max.name Lib.Math.max.code 2 (some .int), Cond.methodLink RX2 48 yX2_numberOf, Cond.instanceMethod yX2_numberOf, Cond.selects RX2 yX2_numberOf yX2_numberOf, Cond.code yX2_numberOf cX2_numberOf 3 (some .int), Cond.fieldLink RX2 21 "StrokeCuts$Scene" "width" "I", Cond.methodLink RX2 61 yJ9_floorDiv_7cf53, Cond.static yJ9_floorDiv_7cf53, Cond.initialized RJ9, Cond.code yJ9_floorDiv_7cf53 cJ9_floorDiv_7cf53 3 (some .int), Cond.methodLink RX4 88 yX2_markAll, Cond.instanceMethod yX2_markAll, Cond.selects RX2 yX2_markAll yX2_markAll, Cond.code yX2_markAll cX2_markAll 6 (some .int), Cond.fieldLink RX2 18 "StrokeCuts$Scene" "marks" "[I", Cond.methodLink RX2 34 yX2_dots, Cond.instanceMethod yX2_dots, Cond.selects RX2 yX2_dots yX2_dots, Cond.code yX2_dots cX2_dots 1 (some .int), Cond.fieldLink RX2 25 "StrokeCuts$Scene" "height" "I"]
def wsX4_obeyOrder_r3 : List Cond := [Cond.static yX4_has, Cond.code yX4_has cX4_has 3 (some .boolean), Cond.methodLink RX4 60 yX2_numberOf, Cond.methodLink RX4 189 yX4_learnRounds, Cond.instanceMethod yX4_learnRounds, Cond.selects RX4 yX4_learnRounds yX4_learnRounds, Cond.code yX4_learnRounds cX4_learnRounds 4 (some .int), Cond.fieldLink RX4 26 "StrokeCuts" "network" "LStrokeCuts$Network;", Cond.methodLink RX4 111 yX1_solve, Cond.instanceMethod yX1_solve, Cond.selects RX1 yX1_solve yX1_solve, Cond.initialized RX1, Cond.code yX1_solve cX1_solve 2 (some .int), Cond.methodLink RX1 30 yX1_load, Cond.instanceMethod yX1_load, Cond.selects RX1 yX1_load yX1_load, Cond.code yX1_load cX1_load 7 none, Cond.fieldLink RX1 43 "StrokeCuts$Network" "dots" "I", Cond.fieldLink RX1 18 "StrokeCuts$Network" "neighbour" "[I", Cond.fieldLink RX1 46 "StrokeCuts$Scene" "height" "I", Cond.fieldLink RX1 49 "StrokeCuts$Scene" "width" "I", Cond.fieldLink RX1 56 "StrokeCuts$Scene" "marks" "[I", Cond.methodLink RX1 38 yX2_dots, Cond.methodLink RX1 52 yX2_numberOf]
def wsX4_obeyOrder_r4 : List Cond := [Cond.methodLink RX1 59 yX1_loadPulls, Cond.instanceMethod yX1_loadPulls, Cond.selects RX1 yX1_loadPulls yX1_loadPulls, Cond.code yX1_loadPulls cX1_loadPulls 4 none, Cond.fieldLink RX1 9 "StrokeCuts$Network" "fromFigure" "[I", Cond.constant RX1 77 (1000000), Cond.fieldLink RX1 15 "StrokeCuts$Network" "toGround" "[I", Cond.methodLink RX1 74 yX2_pullFrom, Cond.instanceMethod yX2_pullFrom, Cond.selects RX2 yX2_pullFrom yX2_pullFrom, Cond.code yX2_pullFrom cX2_pullFrom 3 (some .int), Cond.fieldLink RX2 9 "StrokeCuts$Scene" "settings" "[I", Cond.fieldLink RX2 15 "StrokeCuts$Scene" "shades" "[I", Cond.methodLink RX1 63 yX2_linkedTo, Cond.instanceMethod yX2_linkedTo, Cond.selects RX2 yX2_linkedTo yX2_linkedTo, Cond.code yX2_linkedTo cX2_linkedTo 6 (some .int), Cond.methodLink RX2 44 yX2_hasDot, Cond.instanceMethod yX2_hasDot, Cond.selects RX2 yX2_hasDot yX2_hasDot, Cond.code yX2_hasDot cX2_hasDot 3 (some .boolean), Cond.methodLink RX1 67 yX2_weightOf, Cond.instanceMethod yX2_weightOf, Cond.selects RX2 yX2_weightOf yX2_weightOf]
def wsX4_obeyOrder_r5 : List Cond := [Cond.code yX2_weightOf cX2_weightOf 6 (some .int), Cond.methodLink RX1 70 yX1_join, Cond.instanceMethod yX1_join, Cond.selects RX1 yX1_join yX1_join, Cond.code yX1_join cX1_join 7 none, Cond.fieldLink RX1 21 "StrokeCuts$Network" "room" "[I", Cond.methodLink RX1 78 yX1_reverse, Cond.static yX1_reverse, Cond.code yX1_reverse cX1_reverse 1 (some .int), Cond.methodLink RX1 34 yX1_fill, Cond.instanceMethod yX1_fill, Cond.selects RX1 yX1_fill yX1_fill, Cond.code yX1_fill cX1_fill 6 (some .int), Cond.fieldLink RX1 24 "StrokeCuts$Network" "distance" "[I", Cond.methodLink RX1 82 yX1_measureDistances, Cond.instanceMethod yX1_measureDistances, Cond.selects RX1 yX1_measureDistances yX1_measureDistances, Cond.code yX1_measureDistances cX1_measureDistances 5 none, Cond.fieldLink RX1 88 "StrokeCuts$Network" "queued" "I", Cond.fieldLink RX1 27 "StrokeCuts$Network" "queue" "[I", Cond.methodLink RX1 91 yX1_enqueue, Cond.instanceMethod yX1_enqueue, Cond.selects RX1 yX1_enqueue yX1_enqueue, Cond.code yX1_enqueue cX1_enqueue 2 none]
def wsX4_obeyOrder_r6 : List Cond := [Cond.methodLink RX1 85 yX1_send, Cond.instanceMethod yX1_send, Cond.selects RX1 yX1_send yX1_send, Cond.code yX1_send cX1_send 9 (some .int), Cond.methodLink RX1 95 Lib.Math.min.name, Cond.static Lib.Math.min.name, Cond.code Lib.Math.min.name Lib.Math.min.code 2 (some .int), Cond.methodLink RX1 100 yX1_isNext, Cond.instanceMethod yX1_isNext, Cond.selects RX1 yX1_isNext yX1_isNext, Cond.code yX1_isNext cX1_isNext 3 (some .boolean), Cond.methodLink RX4 115 yX1_leastSet, Cond.instanceMethod yX1_leastSet, Cond.selects RX1 yX1_leastSet yX1_leastSet, Cond.code yX1_leastSet cX1_leastSet 4 (some .long), Cond.methodLink RX1 104 yX1_spread, Cond.instanceMethod yX1_spread, Cond.selects RX1 yX1_spread yX1_spread, Cond.code yX1_spread cX1_spread 9 (some .long), Cond.methodLink RX4 246 yX2_learnTones, Cond.instanceMethod yX2_learnTones, Cond.selects RX2 yX2_learnTones yX2_learnTones, Cond.code yX2_learnTones cX2_learnTones 5 (some .boolean), Cond.constantLong RX2 76 (-1)]
def wsX4_obeyOrder_r7 : List Cond := [Cond.methodLink RX2 68 yX2_learnTone, Cond.instanceMethod yX2_learnTone, Cond.selects RX2 yX2_learnTone yX2_learnTone, Cond.code yX2_learnTone cX2_learnTone 7 (some .boolean), Cond.methodLink RX2 72 yX2_allDots, Cond.instanceMethod yX2_allDots, Cond.selects RX2 yX2_allDots yX2_allDots, Cond.code yX2_allDots cX2_allDots 1 (some .long)]
def wsX4_obeyOrder : List Cond := .code yX4_obeyOrder cX4_obeyOrder 3 none :: ((wsX4_obeyOrder_r1 ++ (wsX4_obeyOrder_r2 ++ (wsX4_obeyOrder_r3 ++ (wsX4_obeyOrder_r4 ++ (wsX4_obeyOrder_r5 ++ (wsX4_obeyOrder_r6 ++ wsX4_obeyOrder_r7)))))) ++ wsX40 ++ wsX30 ++ wsX20 ++ wsX10)
def wsX4_does_r1 : List Cond := [Cond.fieldLink RX4 33 "StrokeCuts" "script" "LStrokeCuts$Script;", Cond.fieldLink RX4 12 "StrokeCuts" "scene" "LStrokeCuts$Scene;", Cond.fieldLink RX4 209 "StrokeCuts$Scene" "width" "I", Cond.fieldLink RX4 212 "StrokeCuts$Scene" "height" "I", Cond.fieldLink RX4 19 "StrokeCuts" "past" "LStrokeCuts$History;", Cond.fieldLink RX4 218 "StrokeCuts$Script" "orders" "I", Cond.methodLink RX4 215 yX3_findFault, Cond.instanceMethod yX3_findFault, Cond.selects RX3 yX3_findFault yX3_findFault, Cond.initialized RX3, Cond.code yX3_findFault cX3_findFault 4 (some .int), Cond.fieldLink RX3 31 "StrokeCuts$Script" "orders" "I", Cond.fieldLink RX3 22 "StrokeCuts$Script" "place" "I", Cond.methodLink RX3 28 yX3_rewind, Cond.instanceMethod yX3_rewind, Cond.selects RX3 yX3_rewind yX3_rewind, Cond.code yX3_rewind cX3_rewind 1 none, Cond.methodLink RX3 34 yX3_peekSign, Cond.instanceMethod yX3_peekSign, Cond.selects RX3 yX3_peekSign yX3_peekSign, Cond.code yX3_peekSign cX3_peekSign 1 (some .int), Cond.fieldLink RX3 18 "StrokeCuts$Script" "length" "I", Cond.fieldLink RX3 11 "StrokeCuts$Script" "bytes" "[I", Cond.methodLink RX3 38 yX3_readOrder]
def wsX4_does_r2 : List Cond := [Cond.instanceMethod yX3_readOrder, Cond.selects RX3 yX3_readOrder yX3_readOrder, Cond.code yX3_readOrder cX3_readOrder 3 (some .boolean), Cond.fieldLink RX3 25 "StrokeCuts$Script" "numberCount" "I", Cond.fieldLink RX3 42 "StrokeCuts$Script" "kind" "I", Cond.methodLink RX3 45 yX3_readDot, Cond.instanceMethod yX3_readDot, Cond.selects RX3 yX3_readDot yX3_readDot, Cond.code yX3_readDot cX3_readDot 3 (some .boolean), Cond.methodLink RX3 52 yX3_readFigure, Cond.instanceMethod yX3_readFigure, Cond.selects RX3 yX3_readFigure yX3_readFigure, Cond.code yX3_readFigure cX3_readFigure 4 (some .boolean), Cond.fieldLink RX3 15 "StrokeCuts$Script" "numbers" "[I", Cond.static yX4_isWithin, Cond.initialized RX4, Cond.code yX4_isWithin cX4_isWithin 3 (some .boolean), Cond.methodLink RX3 48 yX3_readEnd, Cond.instanceMethod yX3_readEnd, Cond.selects RX3 yX3_readEnd yX3_readEnd, Cond.code yX3_readEnd cX3_readEnd 1 (some .boolean), Cond.methodLink RX4 45 yX0_remember, Cond.instanceMethod yX0_remember, Cond.selects RX0 yX0_remember yX0_remember]
def wsX4_does_r3 : List Cond := [Cond.initialized RX0, Cond.code yX0_remember cX0_remember 3 none, Cond.fieldLink RX0 11 "StrokeCuts$History" "kept" "[LStrokeCuts$Scene;", Cond.fieldLink RX0 16 "StrokeCuts$History" "next" "I", Cond.fieldLink RX0 24 "StrokeCuts$History" "count" "I", Cond.methodLink RX0 27 Lib.Math.min.name, Cond.static Lib.Math.min.name, Cond.initialized "java/lang/Math", Cond.code Lib.Math.min.name Lib.Math.min.code 2 (some .int), Cond.methodLink RX0 20 yX2_copyFrom, Cond.instanceMethod yX2_copyFrom, Cond.selects RX2 yX2_copyFrom yX2_copyFrom, Cond.initialized RX2, Cond.code yX2_copyFrom cX2_copyFrom 2 none, Cond.fieldLink RX2 21 "StrokeCuts$Scene" "width" "I", Cond.fieldLink RX2 25 "StrokeCuts$Scene" "height" "I", Cond.fieldLink RX2 9 "StrokeCuts$Scene" "settings" "[I", Cond.methodLink RX2 28 arraycopyName, Cond.native arraycopyName, Cond.static arraycopyName, Cond.initialized "java/lang/System", Cond.fieldLink RX2 15 "StrokeCuts$Scene" "shades" "[I", Cond.fieldLink RX2 18 "StrokeCuts$Scene" "marks" "[I", Cond.methodLink RX4 221 yX3_rewind]
def wsX4_does_r4 : List Cond := [Cond.methodLink RX4 224 yX3_readOrder, Cond.methodLink RX4 227 yX4_obeyOrder, Cond.instanceMethod yX4_obeyOrder, Cond.selects RX4 yX4_obeyOrder yX4_obeyOrder, Cond.code yX4_obeyOrder cX4_obeyOrder 3 none, Cond.fieldLink RX4 252 "StrokeCuts$Script" "kind" "I", Cond.fieldLink RX4 64 "StrokeCuts$Scene" "shades" "[I", Cond.methodLink RX4 249 yX3_number, Cond.instanceMethod yX3_number, Cond.selects RX3 yX3_number yX3_number, Cond.code yX3_number cX3_number 2 (some .int), Cond.methodLink RX4 255 yX4_markLine, Cond.instanceMethod yX4_markLine, Cond.selects RX4 yX4_markLine yX4_markLine, Cond.code yX4_markLine cX4_markLine 7 none, Cond.fieldLink RX4 259 "StrokeCuts$Script" "numberCount" "I", Cond.methodLink RX4 84 yX2_lineOf, Cond.instanceMethod yX2_lineOf, Cond.selects RX2 yX2_lineOf yX2_lineOf, Cond.code yX2_lineOf cX2_lineOf 11 (some .long), Cond.methodLink RX2 52 Lib.Math.abs.name, Cond.static Lib.Math.abs.name, Cond.code Lib.Math.abs.name Lib.Math.abs.code 1 (some .int), Cond.methodLink RX2 58 Lib.Math.max.name]
def wsX4_does_r5 : List Cond := [Cond.static Lib.Math.max.name, Cond.code Lib.Math.max.name Lib.Math.max.code 2 (some .int), Cond.methodLink RX2 48 yX2_numberOf, Cond.instanceMethod yX2_numberOf, Cond.selects RX2 yX2_numberOf yX2_numberOf, Cond.code yX2_numberOf cX2_numberOf 3 (some .int), Cond.methodLink RX2 61 yJ9_floorDiv_7cf53, Cond.static yJ9_floorDiv_7cf53, Cond.initialized RJ9, Cond.code yJ9_floorDiv_7cf53 cJ9_floorDiv_7cf53 3 (some .int), Cond.methodLink RX4 88 yX2_markAll, Cond.instanceMethod yX2_markAll, Cond.selects RX2 yX2_markAll yX2_markAll, Cond.code yX2_markAll cX2_markAll 6 (some .int), Cond.methodLink RX2 34 yX2_dots, Cond.instanceMethod yX2_dots, Cond.selects RX2 yX2_dots yX2_dots, Cond.code yX2_dots cX2_dots 1 (some .int), Cond.static yX4_has, Cond.code yX4_has cX4_has 3 (some .boolean), Cond.methodLink RX4 60 yX2_numberOf, Cond.methodLink RX4 189 yX4_learnRounds, Cond.instanceMethod yX4_learnRounds, Cond.selects RX4 yX4_learnRounds yX4_learnRounds]
def wsX4_does_r6 : List Cond := [Cond.code yX4_learnRounds cX4_learnRounds 4 (some .int), Cond.fieldLink RX4 26 "StrokeCuts" "network" "LStrokeCuts$Network;", Cond.methodLink RX4 111 yX1_solve, Cond.instanceMethod yX1_solve, Cond.selects RX1 yX1_solve yX1_solve, Cond.initialized RX1, Cond.code yX1_solve cX1_solve 2 (some .int), Cond.methodLink RX1 30 yX1_load, Cond.instanceMethod yX1_load, Cond.selects RX1 yX1_load yX1_load, Cond.code yX1_load cX1_load 7 none, Cond.fieldLink RX1 43 "StrokeCuts$Network" "dots" "I", Cond.fieldLink RX1 18 "StrokeCuts$Network" "neighbour" "[I", Cond.fieldLink RX1 46 "StrokeCuts$Scene" "height" "I", Cond.fieldLink RX1 49 "StrokeCuts$Scene" "width" "I", Cond.fieldLink RX1 56 "StrokeCuts$Scene" "marks" "[I", Cond.methodLink RX1 38 yX2_dots, Cond.methodLink RX1 52 yX2_numberOf, Cond.methodLink RX1 59 yX1_loadPulls, Cond.instanceMethod yX1_loadPulls, Cond.selects RX1 yX1_loadPulls yX1_loadPulls, Cond.code yX1_loadPulls cX1_loadPulls 4 none, Cond.fieldLink RX1 9 "StrokeCuts$Network" "fromFigure" "[I", Cond.constant RX1 77 (1000000)]
def wsX4_does_r7 : List Cond := [Cond.fieldLink RX1 15 "StrokeCuts$Network" "toGround" "[I", Cond.methodLink RX1 74 yX2_pullFrom, Cond.instanceMethod yX2_pullFrom, Cond.selects RX2 yX2_pullFrom yX2_pullFrom, Cond.code yX2_pullFrom cX2_pullFrom 3 (some .int), Cond.methodLink RX1 63 yX2_linkedTo, Cond.instanceMethod yX2_linkedTo, Cond.selects RX2 yX2_linkedTo yX2_linkedTo, Cond.code yX2_linkedTo cX2_linkedTo 6 (some .int), Cond.methodLink RX2 44 yX2_hasDot, Cond.instanceMethod yX2_hasDot, Cond.selects RX2 yX2_hasDot yX2_hasDot, Cond.code yX2_hasDot cX2_hasDot 3 (some .boolean), Cond.methodLink RX1 67 yX2_weightOf, Cond.instanceMethod yX2_weightOf, Cond.selects RX2 yX2_weightOf yX2_weightOf, Cond.code yX2_weightOf cX2_weightOf 6 (some .int), Cond.methodLink RX1 70 yX1_join, Cond.instanceMethod yX1_join, Cond.selects RX1 yX1_join yX1_join, Cond.code yX1_join cX1_join 7 none, Cond.fieldLink RX1 21 "StrokeCuts$Network" "room" "[I", Cond.methodLink RX1 78 yX1_reverse, Cond.static yX1_reverse]
def wsX4_does_r8 : List Cond := [Cond.code yX1_reverse cX1_reverse 1 (some .int), Cond.methodLink RX1 34 yX1_fill, Cond.instanceMethod yX1_fill, Cond.selects RX1 yX1_fill yX1_fill, Cond.code yX1_fill cX1_fill 6 (some .int), Cond.fieldLink RX1 24 "StrokeCuts$Network" "distance" "[I", Cond.methodLink RX1 82 yX1_measureDistances, Cond.instanceMethod yX1_measureDistances, Cond.selects RX1 yX1_measureDistances yX1_measureDistances, Cond.code yX1_measureDistances cX1_measureDistances 5 none, Cond.fieldLink RX1 88 "StrokeCuts$Network" "queued" "I", Cond.fieldLink RX1 27 "StrokeCuts$Network" "queue" "[I", Cond.methodLink RX1 91 yX1_enqueue, Cond.instanceMethod yX1_enqueue, Cond.selects RX1 yX1_enqueue yX1_enqueue, Cond.code yX1_enqueue cX1_enqueue 2 none, Cond.methodLink RX1 85 yX1_send, Cond.instanceMethod yX1_send, Cond.selects RX1 yX1_send yX1_send, Cond.code yX1_send cX1_send 9 (some .int), Cond.methodLink RX1 95 Lib.Math.min.name, Cond.methodLink RX1 100 yX1_isNext, Cond.instanceMethod yX1_isNext, Cond.selects RX1 yX1_isNext yX1_isNext]
def wsX4_does_r9 : List Cond := [Cond.code yX1_isNext cX1_isNext 3 (some .boolean), Cond.methodLink RX4 115 yX1_leastSet, Cond.instanceMethod yX1_leastSet, Cond.selects RX1 yX1_leastSet yX1_leastSet, Cond.code yX1_leastSet cX1_leastSet 4 (some .long), Cond.methodLink RX1 104 yX1_spread, Cond.instanceMethod yX1_spread, Cond.selects RX1 yX1_spread yX1_spread, Cond.code yX1_spread cX1_spread 9 (some .long), Cond.methodLink RX4 246 yX2_learnTones, Cond.instanceMethod yX2_learnTones, Cond.selects RX2 yX2_learnTones yX2_learnTones, Cond.code yX2_learnTones cX2_learnTones 5 (some .boolean), Cond.constantLong RX2 76 (-1), Cond.methodLink RX2 68 yX2_learnTone, Cond.instanceMethod yX2_learnTone, Cond.selects RX2 yX2_learnTone yX2_learnTone, Cond.code yX2_learnTone cX2_learnTone 7 (some .boolean), Cond.methodLink RX2 72 yX2_allDots, Cond.instanceMethod yX2_allDots, Cond.selects RX2 yX2_allDots yX2_allDots, Cond.code yX2_allDots cX2_allDots 1 (some .long)]
def wsX4_does : List Cond := .code yX4_does cX4_does 4 (some .int) :: ((wsX4_does_r1 ++ (wsX4_does_r2 ++ (wsX4_does_r3 ++ (wsX4_does_r4 ++ (wsX4_does_r5 ++ (wsX4_does_r6 ++ (wsX4_does_r7 ++ (wsX4_does_r8 ++ wsX4_does_r9)))))))) ++ wsX40 ++ wsX20 ++ wsX30 ++ wsX00 ++ wsX10)
def wsX4_back_r1 : List Cond := [Cond.fieldLink RX4 19 "StrokeCuts" "past" "LStrokeCuts$History;", Cond.fieldLink RX4 230 "StrokeCuts$History" "count" "I", Cond.fieldLink RX4 155 "StrokeCuts" "noCalls" "I", Cond.fieldLink RX4 12 "StrokeCuts" "scene" "LStrokeCuts$Scene;", Cond.methodLink RX4 233 yX0_giveBack, Cond.instanceMethod yX0_giveBack, Cond.selects RX0 yX0_giveBack yX0_giveBack, Cond.initialized RX0, Cond.code yX0_giveBack cX0_giveBack 3 none, Cond.fieldLink RX0 24 "StrokeCuts$History" "count" "I", Cond.fieldLink RX0 16 "StrokeCuts$History" "next" "I", Cond.fieldLink RX0 11 "StrokeCuts$History" "kept" "[LStrokeCuts$Scene;", Cond.methodLink RX0 20 yX2_copyFrom, Cond.instanceMethod yX2_copyFrom, Cond.selects RX2 yX2_copyFrom yX2_copyFrom, Cond.initialized RX2, Cond.code yX2_copyFrom cX2_copyFrom 2 none, Cond.fieldLink RX2 21 "StrokeCuts$Scene" "width" "I", Cond.fieldLink RX2 25 "StrokeCuts$Scene" "height" "I", Cond.fieldLink RX2 9 "StrokeCuts$Scene" "settings" "[I", Cond.methodLink RX2 28 arraycopyName, Cond.native arraycopyName, Cond.static arraycopyName, Cond.initialized "java/lang/System"]
def wsX4_back_r2 : List Cond := [Cond.fieldLink RX2 15 "StrokeCuts$Scene" "shades" "[I", Cond.fieldLink RX2 18 "StrokeCuts$Scene" "marks" "[I"]
def wsX4_back : List Cond := .code yX4_back cX4_back 1 (some .int) :: ((wsX4_back_r1 ++ wsX4_back_r2) ++ wsX40 ++ wsX00 ++ wsX20)
def wsX4_told : List Cond := .code yX4_told cX4_told 2 (some .int) :: ([.fieldLink RX4 236 "StrokeCuts" "badCalls" "I", .fieldLink RX4 155 "StrokeCuts" "noCalls" "I", .fieldLink RX4 203 "StrokeCuts" "fullCalls" "I", .fieldLink RX4 12 "StrokeCuts" "scene" "LStrokeCuts$Scene;", .fieldLink RX4 209 "StrokeCuts$Scene" "width" "I", .fieldLink RX4 212 "StrokeCuts$Scene" "height" "I", .fieldLink RX4 33 "StrokeCuts" "script" "LStrokeCuts$Script;", .fieldLink RX4 206 "StrokeCuts$Script" "length" "I", .fieldLink RX4 19 "StrokeCuts" "past" "LStrokeCuts$History;", .fieldLink RX4 230 "StrokeCuts$History" "count" "I", .fieldLink RX4 95 "StrokeCuts$Scene" "settings" "[I", .methodLink RX4 37 yX4_isWithin, .static yX4_isWithin, .initialized RX4, .code yX4_isWithin cX4_isWithin 3 (some .boolean), .methodLink RX4 41 yX4_refuseBad, .instanceMethod yX4_refuseBad, .selects RX4 yX4_refuseBad yX4_refuseBad, .code yX4_refuseBad cX4_refuseBad 1 (some .int)] ++ wsX40 ++ wsX20 ++ wsX30 ++ wsX00)
def wsX4_digest_r1 : List Cond := [Cond.constantLong RX4 239 (1744), Cond.constantLong RX4 241 (31), Cond.fieldLink RX4 12 "StrokeCuts" "scene" "LStrokeCuts$Scene;", Cond.fieldLink RX4 64 "StrokeCuts$Scene" "shades" "[I", Cond.fieldLink RX4 81 "StrokeCuts$Scene" "marks" "[I", Cond.fieldLink RX4 26 "StrokeCuts" "network" "LStrokeCuts$Network;", Cond.methodLink RX4 243 yX4_told, Cond.instanceMethod yX4_told, Cond.selects RX4 yX4_told yX4_told, Cond.initialized RX4, Cond.code yX4_told cX4_told 2 (some .int), Cond.fieldLink RX4 236 "StrokeCuts" "badCalls" "I", Cond.fieldLink RX4 155 "StrokeCuts" "noCalls" "I", Cond.fieldLink RX4 203 "StrokeCuts" "fullCalls" "I", Cond.fieldLink RX4 209 "StrokeCuts$Scene" "width" "I", Cond.fieldLink RX4 212 "StrokeCuts$Scene" "height" "I", Cond.fieldLink RX4 33 "StrokeCuts" "script" "LStrokeCuts$Script;", Cond.fieldLink RX4 206 "StrokeCuts$Script" "length" "I", Cond.fieldLink RX4 19 "StrokeCuts" "past" "LStrokeCuts$History;", Cond.fieldLink RX4 230 "StrokeCuts$History" "count" "I", Cond.fieldLink RX4 95 "StrokeCuts$Scene" "settings" "[I", Cond.methodLink RX4 37 yX4_isWithin, Cond.static yX4_isWithin, Cond.code yX4_isWithin cX4_isWithin 3 (some .boolean)]
def wsX4_digest_r2 : List Cond := [Cond.methodLink RX4 41 yX4_refuseBad, Cond.instanceMethod yX4_refuseBad, Cond.selects RX4 yX4_refuseBad yX4_refuseBad, Cond.code yX4_refuseBad cX4_refuseBad 1 (some .int), Cond.methodLink RX4 53 yX2_dots, Cond.instanceMethod yX2_dots, Cond.selects RX2 yX2_dots yX2_dots, Cond.initialized RX2, Cond.code yX2_dots cX2_dots 1 (some .int), Cond.fieldLink RX2 21 "StrokeCuts$Scene" "width" "I", Cond.fieldLink RX2 25 "StrokeCuts$Scene" "height" "I", Cond.methodLink RX4 111 yX1_solve, Cond.instanceMethod yX1_solve, Cond.selects RX1 yX1_solve yX1_solve, Cond.initialized RX1, Cond.code yX1_solve cX1_solve 2 (some .int), Cond.methodLink RX1 30 yX1_load, Cond.instanceMethod yX1_load, Cond.selects RX1 yX1_load yX1_load, Cond.code yX1_load cX1_load 7 none, Cond.fieldLink RX1 43 "StrokeCuts$Network" "dots" "I", Cond.fieldLink RX1 18 "StrokeCuts$Network" "neighbour" "[I", Cond.fieldLink RX1 46 "StrokeCuts$Scene" "height" "I", Cond.fieldLink RX1 49 "StrokeCuts$Scene" "width" "I"]
def wsX4_digest_r3 : List Cond := [Cond.fieldLink RX1 56 "StrokeCuts$Scene" "marks" "[I", Cond.methodLink RX1 38 yX2_dots, Cond.methodLink RX1 52 yX2_numberOf, Cond.instanceMethod yX2_numberOf, Cond.selects RX2 yX2_numberOf yX2_numberOf, Cond.code yX2_numberOf cX2_numberOf 3 (some .int), Cond.methodLink RX1 59 yX1_loadPulls, Cond.instanceMethod yX1_loadPulls, Cond.selects RX1 yX1_loadPulls yX1_loadPulls, Cond.code yX1_loadPulls cX1_loadPulls 4 none, Cond.fieldLink RX1 9 "StrokeCuts$Network" "fromFigure" "[I", Cond.constant RX1 77 (1000000), Cond.fieldLink RX1 15 "StrokeCuts$Network" "toGround" "[I", Cond.methodLink RX1 74 yX2_pullFrom, Cond.instanceMethod yX2_pullFrom, Cond.selects RX2 yX2_pullFrom yX2_pullFrom, Cond.code yX2_pullFrom cX2_pullFrom 3 (some .int), Cond.fieldLink RX2 9 "StrokeCuts$Scene" "settings" "[I", Cond.fieldLink RX2 15 "StrokeCuts$Scene" "shades" "[I", Cond.methodLink RX2 52 Lib.Math.abs.name, Cond.static Lib.Math.abs.name, Cond.initialized "java/lang/Math", Cond.code Lib.Math.abs.name Lib.Math.abs.code 1 (some .int), Cond.methodLink RX1 63 yX2_linkedTo]
def wsX4_digest_r4 : List Cond := [Cond.instanceMethod yX2_linkedTo, Cond.selects RX2 yX2_linkedTo yX2_linkedTo, Cond.code yX2_linkedTo cX2_linkedTo 6 (some .int), Cond.methodLink RX2 44 yX2_hasDot, Cond.instanceMethod yX2_hasDot, Cond.selects RX2 yX2_hasDot yX2_hasDot, Cond.code yX2_hasDot cX2_hasDot 3 (some .boolean), Cond.methodLink RX2 48 yX2_numberOf, Cond.methodLink RX1 67 yX2_weightOf, Cond.instanceMethod yX2_weightOf, Cond.selects RX2 yX2_weightOf yX2_weightOf, Cond.code yX2_weightOf cX2_weightOf 6 (some .int), Cond.methodLink RX2 58 Lib.Math.max.name, Cond.static Lib.Math.max.name, Cond.code Lib.Math.max.name Lib.Math.max.code 2 (some .int), Cond.methodLink RX1 70 yX1_join, Cond.instanceMethod yX1_join, Cond.selects RX1 yX1_join yX1_join, Cond.code yX1_join cX1_join 7 none, Cond.fieldLink RX1 21 "StrokeCuts$Network" "room" "[I", Cond.methodLink RX1 78 yX1_reverse, Cond.static yX1_reverse, Cond.code yX1_reverse cX1_reverse 1 (some .int), Cond.methodLink RX1 34 yX1_fill]
def wsX4_digest_r5 : List Cond := [Cond.instanceMethod yX1_fill, Cond.selects RX1 yX1_fill yX1_fill, Cond.code yX1_fill cX1_fill 6 (some .int), Cond.fieldLink RX1 24 "StrokeCuts$Network" "distance" "[I", Cond.methodLink RX1 82 yX1_measureDistances, Cond.instanceMethod yX1_measureDistances, Cond.selects RX1 yX1_measureDistances yX1_measureDistances, Cond.code yX1_measureDistances cX1_measureDistances 5 none, Cond.fieldLink RX1 88 "StrokeCuts$Network" "queued" "I", Cond.fieldLink RX1 27 "StrokeCuts$Network" "queue" "[I", Cond.methodLink RX1 91 yX1_enqueue, Cond.instanceMethod yX1_enqueue, Cond.selects RX1 yX1_enqueue yX1_enqueue, Cond.code yX1_enqueue cX1_enqueue 2 none, Cond.methodLink RX1 85 yX1_send, Cond.instanceMethod yX1_send, Cond.selects RX1 yX1_send yX1_send, Cond.code yX1_send cX1_send 9 (some .int), Cond.methodLink RX1 95 Lib.Math.min.name, Cond.static Lib.Math.min.name, Cond.code Lib.Math.min.name Lib.Math.min.code 2 (some .int), Cond.methodLink RX1 100 yX1_isNext, Cond.instanceMethod yX1_isNext, Cond.selects RX1 yX1_isNext yX1_isNext]
def wsX4_digest_r6 : List Cond := [Cond.code yX1_isNext cX1_isNext 3 (some .boolean), Cond.methodLink RX4 115 yX1_leastSet, Cond.instanceMethod yX1_leastSet, Cond.selects RX1 yX1_leastSet yX1_leastSet, Cond.code yX1_leastSet cX1_leastSet 4 (some .long), Cond.methodLink RX1 104 yX1_spread, Cond.instanceMethod yX1_spread, Cond.selects RX1 yX1_spread yX1_spread, Cond.code yX1_spread cX1_spread 9 (some .long), Cond.static yX4_has, Cond.code yX4_has cX4_has 3 (some .boolean), Cond.methodLink RX4 119 yX1_greatestSet, Cond.instanceMethod yX1_greatestSet, Cond.selects RX1 yX1_greatestSet yX1_greatestSet, Cond.code yX1_greatestSet cX1_greatestSet 4 (some .long)]
def wsX4_digest : List Cond := .code yX4_digest cX4_digest 4 (some .long) :: ((wsX4_digest_r1 ++ (wsX4_digest_r2 ++ (wsX4_digest_r3 ++ (wsX4_digest_r4 ++ (wsX4_digest_r5 ++ wsX4_digest_r6))))) ++ wsX40 ++ wsX20 ++ wsX30 ++ wsX00 ++ wsX10)
def wsX5_init : List Cond := .code yX5_init cX5_init 1 none :: ([.methodLink RX5 1 objectInit, .instanceMethod objectInit, .code objectInit ⟨#[0xb1]⟩ 1 none, .arrayClass .int, .fieldLink RX5 7 "StrokeCutsModel" "st" "[I", .fieldLink RX5 13 "StrokeCutsModel" "past" "[I", .fieldLink RX5 16 "StrokeCutsModel" "refused" "[I", .fieldLink RX5 19 "StrokeCutsModel" "text" "[I", .fieldLink RX5 22 "StrokeCutsModel" "strained" "I", .fieldLink RX5 26 "StrokeCutsModel" "held" "[I", .fieldLink RX5 29 "StrokeCutsModel" "least" "[I", .fieldLink RX5 32 "StrokeCutsModel" "next" "[I", .fieldLink RX5 35 "StrokeCutsModel" "piece" "[I", .fieldLink RX5 38 "StrokeCutsModel" "figures" "[I"] ++ wsX50)
def wsX5_in : List Cond := .code yX5_in cX5_in 3 (some .boolean) :: ([])
def wsX5_far : List Cond := .code yX5_far cX5_far 2 (some .int) :: ([])
def wsX5_bad : List Cond := .code yX5_bad cX5_bad 1 (some .int) :: ([.fieldLink RX5 16 "StrokeCutsModel" "refused" "[I"] ++ wsX50)
def wsX5_no : List Cond := .code yX5_no cX5_no 1 (some .int) :: ([.fieldLink RX5 16 "StrokeCutsModel" "refused" "[I"] ++ wsX50)
def wsX5_full : List Cond := .code yX5_full cX5_full 1 (some .int) :: ([.fieldLink RX5 16 "StrokeCutsModel" "refused" "[I"] ++ wsX50)
def wsX5_dots : List Cond := .code yX5_dots cX5_dots 1 (some .int) :: ([.fieldLink RX5 7 "StrokeCutsModel" "st" "[I"] ++ wsX50)
def wsX5_isDot : List Cond := .code yX5_isDot cX5_isDot 3 (some .boolean) :: ([.fieldLink RX5 7 "StrokeCutsModel" "st" "[I", .methodLink RX5 41 yX5_in, .static yX5_in, .initialized RX5, .code yX5_in cX5_in 3 (some .boolean)] ++ wsX50)
def wsX5_numberOf : List Cond := .code yX5_numberOf cX5_numberOf 3 (some .int) :: ([.fieldLink RX5 7 "StrokeCutsModel" "st" "[I"] ++ wsX50)
def wsX5_bring : List Cond := .code yX5_bring cX5_bring 6 none :: ([])
def wsX5_leaves : List Cond := .code yX5_leaves cX5_leaves 1 none :: ([.fieldLink RX5 45 "StrokeCutsModel" "states" "I", .fieldLink RX5 13 "StrokeCutsModel" "past" "[I", .fieldLink RX5 7 "StrokeCutsModel" "st" "[I", .methodLink RX5 48 yX5_bring, .static yX5_bring, .initialized RX5, .code yX5_bring cX5_bring 6 none] ++ wsX50)
def wsX5_over : List Cond := .code yX5_over cX5_over 5 (some .int) :: ([.fieldLink RX5 7 "StrokeCutsModel" "st" "[I", .methodLink RX5 52 yX5_isDot, .instanceMethod yX5_isDot, .selects RX5 yX5_isDot yX5_isDot, .initialized RX5, .code yX5_isDot cX5_isDot 3 (some .boolean), .methodLink RX5 41 yX5_in, .static yX5_in, .code yX5_in cX5_in 3 (some .boolean), .methodLink RX5 56 yX5_numberOf, .instanceMethod yX5_numberOf, .selects RX5 yX5_numberOf yX5_numberOf, .code yX5_numberOf cX5_numberOf 3 (some .int)] ++ wsX50)
def wsX5_weight : List Cond := .code yX5_weight cX5_weight 5 (some .int) :: ([.fieldLink RX5 22 "StrokeCutsModel" "strained" "I", .fieldLink RX5 60 "StrokeCutsModel" "strainedTo" "I", .fieldLink RX5 7 "StrokeCutsModel" "st" "[I", .methodLink RX5 63 yX5_over, .instanceMethod yX5_over, .selects RX5 yX5_over yX5_over, .initialized RX5, .code yX5_over cX5_over 5 (some .int), .methodLink RX5 52 yX5_isDot, .instanceMethod yX5_isDot, .selects RX5 yX5_isDot yX5_isDot, .code yX5_isDot cX5_isDot 3 (some .boolean), .methodLink RX5 41 yX5_in, .static yX5_in, .code yX5_in cX5_in 3 (some .boolean), .methodLink RX5 56 yX5_numberOf, .instanceMethod yX5_numberOf, .selects RX5 yX5_numberOf yX5_numberOf, .code yX5_numberOf cX5_numberOf 3 (some .int), .methodLink RX5 66 yX5_far, .static yX5_far, .code yX5_far cX5_far 2 (some .int)] ++ wsX50)
def wsX5_pull : List Cond := .code yX5_pull cX5_pull 3 (some .int) :: ([.fieldLink RX5 7 "StrokeCutsModel" "st" "[I", .methodLink RX5 66 yX5_far, .static yX5_far, .initialized RX5, .code yX5_far cX5_far 2 (some .int)] ++ wsX50)
def wsX5_holdsMarks : List Cond := .code yX5_holdsMarks cX5_holdsMarks 1 none :: ([.fieldLink RX5 7 "StrokeCutsModel" "st" "[I", .fieldLink RX5 26 "StrokeCutsModel" "held" "[I", .methodLink RX5 48 yX5_bring, .static yX5_bring, .initialized RX5, .code yX5_bring cX5_bring 6 none] ++ wsX50)
def wsX5_cutTo_r1 : List Cond := [Cond.methodLink RX5 69 yX5_weight, Cond.instanceMethod yX5_weight, Cond.selects RX5 yX5_weight yX5_weight, Cond.initialized RX5, Cond.code yX5_weight cX5_weight 5 (some .int), Cond.fieldLink RX5 22 "StrokeCutsModel" "strained" "I", Cond.fieldLink RX5 60 "StrokeCutsModel" "strainedTo" "I", Cond.fieldLink RX5 7 "StrokeCutsModel" "st" "[I", Cond.methodLink RX5 63 yX5_over, Cond.instanceMethod yX5_over, Cond.selects RX5 yX5_over yX5_over, Cond.code yX5_over cX5_over 5 (some .int), Cond.methodLink RX5 52 yX5_isDot, Cond.instanceMethod yX5_isDot, Cond.selects RX5 yX5_isDot yX5_isDot, Cond.code yX5_isDot cX5_isDot 3 (some .boolean), Cond.methodLink RX5 41 yX5_in, Cond.static yX5_in, Cond.code yX5_in cX5_in 3 (some .boolean), Cond.methodLink RX5 56 yX5_numberOf, Cond.instanceMethod yX5_numberOf, Cond.selects RX5 yX5_numberOf yX5_numberOf, Cond.code yX5_numberOf cX5_numberOf 3 (some .int), Cond.methodLink RX5 66 yX5_far]
def wsX5_cutTo_r2 : List Cond := [Cond.static yX5_far, Cond.code yX5_far cX5_far 2 (some .int)]
def wsX5_cutTo : List Cond := .code yX5_cutTo cX5_cutTo 6 (some .int) :: ((wsX5_cutTo_r1 ++ wsX5_cutTo_r2) ++ wsX50)
def wsX5_adds_r1 : List Cond := [Cond.fieldLink RX5 7 "StrokeCutsModel" "st" "[I", Cond.methodLink RX5 72 yX5_pull, Cond.instanceMethod yX5_pull, Cond.selects RX5 yX5_pull yX5_pull, Cond.initialized RX5, Cond.code yX5_pull cX5_pull 3 (some .int), Cond.methodLink RX5 66 yX5_far, Cond.static yX5_far, Cond.code yX5_far cX5_far 2 (some .int), Cond.methodLink RX5 75 yX5_cutTo, Cond.instanceMethod yX5_cutTo, Cond.selects RX5 yX5_cutTo yX5_cutTo, Cond.code yX5_cutTo cX5_cutTo 6 (some .int), Cond.methodLink RX5 69 yX5_weight, Cond.instanceMethod yX5_weight, Cond.selects RX5 yX5_weight yX5_weight, Cond.code yX5_weight cX5_weight 5 (some .int), Cond.fieldLink RX5 22 "StrokeCutsModel" "strained" "I", Cond.fieldLink RX5 60 "StrokeCutsModel" "strainedTo" "I", Cond.methodLink RX5 63 yX5_over, Cond.instanceMethod yX5_over, Cond.selects RX5 yX5_over yX5_over, Cond.code yX5_over cX5_over 5 (some .int), Cond.methodLink RX5 52 yX5_isDot]
def wsX5_adds_r2 : List Cond := [Cond.instanceMethod yX5_isDot, Cond.selects RX5 yX5_isDot yX5_isDot, Cond.code yX5_isDot cX5_isDot 3 (some .boolean), Cond.methodLink RX5 41 yX5_in, Cond.static yX5_in, Cond.code yX5_in cX5_in 3 (some .boolean), Cond.methodLink RX5 56 yX5_numberOf, Cond.instanceMethod yX5_numberOf, Cond.selects RX5 yX5_numberOf yX5_numberOf, Cond.code yX5_numberOf cX5_numberOf 3 (some .int)]
def wsX5_adds : List Cond := .code yX5_adds cX5_adds 8 (some .int) :: ((wsX5_adds_r1 ++ wsX5_adds_r2) ++ wsX50)
def wsX5_goesOn_r1 : List Cond := [Cond.fieldLink RX5 26 "StrokeCutsModel" "held" "[I", Cond.fieldLink RX5 29 "StrokeCutsModel" "least" "[I", Cond.fieldLink RX5 32 "StrokeCutsModel" "next" "[I", Cond.methodLink RX5 88 yX5_adds, Cond.instanceMethod yX5_adds, Cond.selects RX5 yX5_adds yX5_adds, Cond.initialized RX5, Cond.code yX5_adds cX5_adds 8 (some .int), Cond.fieldLink RX5 7 "StrokeCutsModel" "st" "[I", Cond.methodLink RX5 72 yX5_pull, Cond.instanceMethod yX5_pull, Cond.selects RX5 yX5_pull yX5_pull, Cond.code yX5_pull cX5_pull 3 (some .int), Cond.methodLink RX5 66 yX5_far, Cond.static yX5_far, Cond.code yX5_far cX5_far 2 (some .int), Cond.methodLink RX5 75 yX5_cutTo, Cond.instanceMethod yX5_cutTo, Cond.selects RX5 yX5_cutTo yX5_cutTo, Cond.code yX5_cutTo cX5_cutTo 6 (some .int), Cond.methodLink RX5 69 yX5_weight, Cond.instanceMethod yX5_weight, Cond.selects RX5 yX5_weight yX5_weight, Cond.code yX5_weight cX5_weight 5 (some .int)]
def wsX5_goesOn_r2 : List Cond := [Cond.fieldLink RX5 22 "StrokeCutsModel" "strained" "I", Cond.fieldLink RX5 60 "StrokeCutsModel" "strainedTo" "I", Cond.methodLink RX5 63 yX5_over, Cond.instanceMethod yX5_over, Cond.selects RX5 yX5_over yX5_over, Cond.code yX5_over cX5_over 5 (some .int), Cond.methodLink RX5 52 yX5_isDot, Cond.instanceMethod yX5_isDot, Cond.selects RX5 yX5_isDot yX5_isDot, Cond.code yX5_isDot cX5_isDot 3 (some .boolean), Cond.methodLink RX5 41 yX5_in, Cond.static yX5_in, Cond.code yX5_in cX5_in 3 (some .boolean), Cond.methodLink RX5 56 yX5_numberOf, Cond.instanceMethod yX5_numberOf, Cond.selects RX5 yX5_numberOf yX5_numberOf, Cond.code yX5_numberOf cX5_numberOf 3 (some .int)]
def wsX5_goesOn : List Cond := .code yX5_goesOn cX5_goesOn 7 none :: ((wsX5_goesOn_r1 ++ wsX5_goesOn_r2) ++ wsX50)
def wsX5_leastCost_r1 : List Cond := [Cond.fieldLink RX5 7 "StrokeCutsModel" "st" "[I", Cond.fieldLink RX5 29 "StrokeCutsModel" "least" "[I", Cond.constant RX5 79 (1000000), Cond.fieldLink RX5 32 "StrokeCutsModel" "next" "[I", Cond.methodLink RX5 80 yX5_dots, Cond.instanceMethod yX5_dots, Cond.selects RX5 yX5_dots yX5_dots, Cond.initialized RX5, Cond.code yX5_dots cX5_dots 1 (some .int), Cond.methodLink RX5 84 yX5_goesOn, Cond.instanceMethod yX5_goesOn, Cond.selects RX5 yX5_goesOn yX5_goesOn, Cond.code yX5_goesOn cX5_goesOn 7 none, Cond.fieldLink RX5 26 "StrokeCutsModel" "held" "[I", Cond.methodLink RX5 88 yX5_adds, Cond.instanceMethod yX5_adds, Cond.selects RX5 yX5_adds yX5_adds, Cond.code yX5_adds cX5_adds 8 (some .int), Cond.methodLink RX5 72 yX5_pull, Cond.instanceMethod yX5_pull, Cond.selects RX5 yX5_pull yX5_pull, Cond.code yX5_pull cX5_pull 3 (some .int), Cond.methodLink RX5 66 yX5_far, Cond.static yX5_far]
def wsX5_leastCost_r2 : List Cond := [Cond.code yX5_far cX5_far 2 (some .int), Cond.methodLink RX5 75 yX5_cutTo, Cond.instanceMethod yX5_cutTo, Cond.selects RX5 yX5_cutTo yX5_cutTo, Cond.code yX5_cutTo cX5_cutTo 6 (some .int), Cond.methodLink RX5 69 yX5_weight, Cond.instanceMethod yX5_weight, Cond.selects RX5 yX5_weight yX5_weight, Cond.code yX5_weight cX5_weight 5 (some .int), Cond.fieldLink RX5 22 "StrokeCutsModel" "strained" "I", Cond.fieldLink RX5 60 "StrokeCutsModel" "strainedTo" "I", Cond.methodLink RX5 63 yX5_over, Cond.instanceMethod yX5_over, Cond.selects RX5 yX5_over yX5_over, Cond.code yX5_over cX5_over 5 (some .int), Cond.methodLink RX5 52 yX5_isDot, Cond.instanceMethod yX5_isDot, Cond.selects RX5 yX5_isDot yX5_isDot, Cond.code yX5_isDot cX5_isDot 3 (some .boolean), Cond.methodLink RX5 41 yX5_in, Cond.static yX5_in, Cond.code yX5_in cX5_in 3 (some .boolean), Cond.methodLink RX5 56 yX5_numberOf, Cond.instanceMethod yX5_numberOf]
def wsX5_leastCost_r3 : List Cond := [Cond.selects RX5 yX5_numberOf yX5_numberOf, Cond.code yX5_numberOf cX5_numberOf 3 (some .int), Cond.methodLink RX5 48 yX5_bring, Cond.static yX5_bring, Cond.code yX5_bring cX5_bring 6 none]
def wsX5_leastCost : List Cond := .code yX5_leastCost cX5_leastCost 4 (some .int) :: ((wsX5_leastCost_r1 ++ (wsX5_leastCost_r2 ++ wsX5_leastCost_r3)) ++ wsX50)
def wsX5_costWith_r1 : List Cond := [Cond.fieldLink RX5 26 "StrokeCutsModel" "held" "[I", Cond.methodLink RX5 92 yX5_leastCost, Cond.instanceMethod yX5_leastCost, Cond.selects RX5 yX5_leastCost yX5_leastCost, Cond.initialized RX5, Cond.code yX5_leastCost cX5_leastCost 4 (some .int), Cond.fieldLink RX5 7 "StrokeCutsModel" "st" "[I", Cond.fieldLink RX5 29 "StrokeCutsModel" "least" "[I", Cond.constant RX5 79 (1000000), Cond.fieldLink RX5 32 "StrokeCutsModel" "next" "[I", Cond.methodLink RX5 80 yX5_dots, Cond.instanceMethod yX5_dots, Cond.selects RX5 yX5_dots yX5_dots, Cond.code yX5_dots cX5_dots 1 (some .int), Cond.methodLink RX5 84 yX5_goesOn, Cond.instanceMethod yX5_goesOn, Cond.selects RX5 yX5_goesOn yX5_goesOn, Cond.code yX5_goesOn cX5_goesOn 7 none, Cond.methodLink RX5 88 yX5_adds, Cond.instanceMethod yX5_adds, Cond.selects RX5 yX5_adds yX5_adds, Cond.code yX5_adds cX5_adds 8 (some .int), Cond.methodLink RX5 72 yX5_pull, Cond.instanceMethod yX5_pull]
def wsX5_costWith_r2 : List Cond := [Cond.selects RX5 yX5_pull yX5_pull, Cond.code yX5_pull cX5_pull 3 (some .int), Cond.methodLink RX5 66 yX5_far, Cond.static yX5_far, Cond.code yX5_far cX5_far 2 (some .int), Cond.methodLink RX5 75 yX5_cutTo, Cond.instanceMethod yX5_cutTo, Cond.selects RX5 yX5_cutTo yX5_cutTo, Cond.code yX5_cutTo cX5_cutTo 6 (some .int), Cond.methodLink RX5 69 yX5_weight, Cond.instanceMethod yX5_weight, Cond.selects RX5 yX5_weight yX5_weight, Cond.code yX5_weight cX5_weight 5 (some .int), Cond.fieldLink RX5 22 "StrokeCutsModel" "strained" "I", Cond.fieldLink RX5 60 "StrokeCutsModel" "strainedTo" "I", Cond.methodLink RX5 63 yX5_over, Cond.instanceMethod yX5_over, Cond.selects RX5 yX5_over yX5_over, Cond.code yX5_over cX5_over 5 (some .int), Cond.methodLink RX5 52 yX5_isDot, Cond.instanceMethod yX5_isDot, Cond.selects RX5 yX5_isDot yX5_isDot, Cond.code yX5_isDot cX5_isDot 3 (some .boolean), Cond.methodLink RX5 41 yX5_in]
def wsX5_costWith_r3 : List Cond := [Cond.static yX5_in, Cond.code yX5_in cX5_in 3 (some .boolean), Cond.methodLink RX5 56 yX5_numberOf, Cond.instanceMethod yX5_numberOf, Cond.selects RX5 yX5_numberOf yX5_numberOf, Cond.code yX5_numberOf cX5_numberOf 3 (some .int), Cond.methodLink RX5 48 yX5_bring, Cond.static yX5_bring, Cond.code yX5_bring cX5_bring 6 none]
def wsX5_costWith : List Cond := .code yX5_costWith cX5_costWith 5 (some .int) :: ((wsX5_costWith_r1 ++ (wsX5_costWith_r2 ++ wsX5_costWith_r3)) ++ wsX50)
def wsX5_bestCost_r1 : List Cond := [Cond.methodLink RX5 95 yX5_holdsMarks, Cond.instanceMethod yX5_holdsMarks, Cond.selects RX5 yX5_holdsMarks yX5_holdsMarks, Cond.initialized RX5, Cond.code yX5_holdsMarks cX5_holdsMarks 1 none, Cond.fieldLink RX5 7 "StrokeCutsModel" "st" "[I", Cond.fieldLink RX5 26 "StrokeCutsModel" "held" "[I", Cond.methodLink RX5 48 yX5_bring, Cond.static yX5_bring, Cond.code yX5_bring cX5_bring 6 none, Cond.methodLink RX5 92 yX5_leastCost, Cond.instanceMethod yX5_leastCost, Cond.selects RX5 yX5_leastCost yX5_leastCost, Cond.code yX5_leastCost cX5_leastCost 4 (some .int), Cond.fieldLink RX5 29 "StrokeCutsModel" "least" "[I", Cond.constant RX5 79 (1000000), Cond.fieldLink RX5 32 "StrokeCutsModel" "next" "[I", Cond.methodLink RX5 80 yX5_dots, Cond.instanceMethod yX5_dots, Cond.selects RX5 yX5_dots yX5_dots, Cond.code yX5_dots cX5_dots 1 (some .int), Cond.methodLink RX5 84 yX5_goesOn, Cond.instanceMethod yX5_goesOn, Cond.selects RX5 yX5_goesOn yX5_goesOn]
def wsX5_bestCost_r2 : List Cond := [Cond.code yX5_goesOn cX5_goesOn 7 none, Cond.methodLink RX5 88 yX5_adds, Cond.instanceMethod yX5_adds, Cond.selects RX5 yX5_adds yX5_adds, Cond.code yX5_adds cX5_adds 8 (some .int), Cond.methodLink RX5 72 yX5_pull, Cond.instanceMethod yX5_pull, Cond.selects RX5 yX5_pull yX5_pull, Cond.code yX5_pull cX5_pull 3 (some .int), Cond.methodLink RX5 66 yX5_far, Cond.static yX5_far, Cond.code yX5_far cX5_far 2 (some .int), Cond.methodLink RX5 75 yX5_cutTo, Cond.instanceMethod yX5_cutTo, Cond.selects RX5 yX5_cutTo yX5_cutTo, Cond.code yX5_cutTo cX5_cutTo 6 (some .int), Cond.methodLink RX5 69 yX5_weight, Cond.instanceMethod yX5_weight, Cond.selects RX5 yX5_weight yX5_weight, Cond.code yX5_weight cX5_weight 5 (some .int), Cond.fieldLink RX5 22 "StrokeCutsModel" "strained" "I", Cond.fieldLink RX5 60 "StrokeCutsModel" "strainedTo" "I", Cond.methodLink RX5 63 yX5_over, Cond.instanceMethod yX5_over]
def wsX5_bestCost_r3 : List Cond := [Cond.selects RX5 yX5_over yX5_over, Cond.code yX5_over cX5_over 5 (some .int), Cond.methodLink RX5 52 yX5_isDot, Cond.instanceMethod yX5_isDot, Cond.selects RX5 yX5_isDot yX5_isDot, Cond.code yX5_isDot cX5_isDot 3 (some .boolean), Cond.methodLink RX5 41 yX5_in, Cond.static yX5_in, Cond.code yX5_in cX5_in 3 (some .boolean), Cond.methodLink RX5 56 yX5_numberOf, Cond.instanceMethod yX5_numberOf, Cond.selects RX5 yX5_numberOf yX5_numberOf, Cond.code yX5_numberOf cX5_numberOf 3 (some .int)]
def wsX5_bestCost : List Cond := .code yX5_bestCost cX5_bestCost 1 (some .int) :: ((wsX5_bestCost_r1 ++ (wsX5_bestCost_r2 ++ wsX5_bestCost_r3)) ++ wsX50)
def wsX5_mayBe_r1 : List Cond := [Cond.fieldLink RX5 26 "StrokeCutsModel" "held" "[I", Cond.methodLink RX5 98 yX5_costWith, Cond.instanceMethod yX5_costWith, Cond.selects RX5 yX5_costWith yX5_costWith, Cond.initialized RX5, Cond.code yX5_costWith cX5_costWith 5 (some .int), Cond.methodLink RX5 92 yX5_leastCost, Cond.instanceMethod yX5_leastCost, Cond.selects RX5 yX5_leastCost yX5_leastCost, Cond.code yX5_leastCost cX5_leastCost 4 (some .int), Cond.fieldLink RX5 7 "StrokeCutsModel" "st" "[I", Cond.fieldLink RX5 29 "StrokeCutsModel" "least" "[I", Cond.constant RX5 79 (1000000), Cond.fieldLink RX5 32 "StrokeCutsModel" "next" "[I", Cond.methodLink RX5 80 yX5_dots, Cond.instanceMethod yX5_dots, Cond.selects RX5 yX5_dots yX5_dots, Cond.code yX5_dots cX5_dots 1 (some .int), Cond.methodLink RX5 84 yX5_goesOn, Cond.instanceMethod yX5_goesOn, Cond.selects RX5 yX5_goesOn yX5_goesOn, Cond.code yX5_goesOn cX5_goesOn 7 none, Cond.methodLink RX5 88 yX5_adds, Cond.instanceMethod yX5_adds]
def wsX5_mayBe_r2 : List Cond := [Cond.selects RX5 yX5_adds yX5_adds, Cond.code yX5_adds cX5_adds 8 (some .int), Cond.methodLink RX5 72 yX5_pull, Cond.instanceMethod yX5_pull, Cond.selects RX5 yX5_pull yX5_pull, Cond.code yX5_pull cX5_pull 3 (some .int), Cond.methodLink RX5 66 yX5_far, Cond.static yX5_far, Cond.code yX5_far cX5_far 2 (some .int), Cond.methodLink RX5 75 yX5_cutTo, Cond.instanceMethod yX5_cutTo, Cond.selects RX5 yX5_cutTo yX5_cutTo, Cond.code yX5_cutTo cX5_cutTo 6 (some .int), Cond.methodLink RX5 69 yX5_weight, Cond.instanceMethod yX5_weight, Cond.selects RX5 yX5_weight yX5_weight, Cond.code yX5_weight cX5_weight 5 (some .int), Cond.fieldLink RX5 22 "StrokeCutsModel" "strained" "I", Cond.fieldLink RX5 60 "StrokeCutsModel" "strainedTo" "I", Cond.methodLink RX5 63 yX5_over, Cond.instanceMethod yX5_over, Cond.selects RX5 yX5_over yX5_over, Cond.code yX5_over cX5_over 5 (some .int), Cond.methodLink RX5 52 yX5_isDot]
def wsX5_mayBe_r3 : List Cond := [Cond.instanceMethod yX5_isDot, Cond.selects RX5 yX5_isDot yX5_isDot, Cond.code yX5_isDot cX5_isDot 3 (some .boolean), Cond.methodLink RX5 41 yX5_in, Cond.static yX5_in, Cond.code yX5_in cX5_in 3 (some .boolean), Cond.methodLink RX5 56 yX5_numberOf, Cond.instanceMethod yX5_numberOf, Cond.selects RX5 yX5_numberOf yX5_numberOf, Cond.code yX5_numberOf cX5_numberOf 3 (some .int), Cond.methodLink RX5 48 yX5_bring, Cond.static yX5_bring, Cond.code yX5_bring cX5_bring 6 none]
def wsX5_mayBe : List Cond := .code yX5_mayBe cX5_mayBe 4 (some .boolean) :: ((wsX5_mayBe_r1 ++ (wsX5_mayBe_r2 ++ wsX5_mayBe_r3)) ++ wsX50)
def wsX5_sideOf_r1 : List Cond := [Cond.methodLink RX5 101 yX5_bestCost, Cond.instanceMethod yX5_bestCost, Cond.selects RX5 yX5_bestCost yX5_bestCost, Cond.initialized RX5, Cond.code yX5_bestCost cX5_bestCost 1 (some .int), Cond.methodLink RX5 95 yX5_holdsMarks, Cond.instanceMethod yX5_holdsMarks, Cond.selects RX5 yX5_holdsMarks yX5_holdsMarks, Cond.code yX5_holdsMarks cX5_holdsMarks 1 none, Cond.fieldLink RX5 7 "StrokeCutsModel" "st" "[I", Cond.fieldLink RX5 26 "StrokeCutsModel" "held" "[I", Cond.methodLink RX5 48 yX5_bring, Cond.static yX5_bring, Cond.code yX5_bring cX5_bring 6 none, Cond.methodLink RX5 92 yX5_leastCost, Cond.instanceMethod yX5_leastCost, Cond.selects RX5 yX5_leastCost yX5_leastCost, Cond.code yX5_leastCost cX5_leastCost 4 (some .int), Cond.fieldLink RX5 29 "StrokeCutsModel" "least" "[I", Cond.constant RX5 79 (1000000), Cond.fieldLink RX5 32 "StrokeCutsModel" "next" "[I", Cond.methodLink RX5 80 yX5_dots, Cond.instanceMethod yX5_dots, Cond.selects RX5 yX5_dots yX5_dots]
def wsX5_sideOf_r2 : List Cond := [Cond.code yX5_dots cX5_dots 1 (some .int), Cond.methodLink RX5 84 yX5_goesOn, Cond.instanceMethod yX5_goesOn, Cond.selects RX5 yX5_goesOn yX5_goesOn, Cond.code yX5_goesOn cX5_goesOn 7 none, Cond.methodLink RX5 88 yX5_adds, Cond.instanceMethod yX5_adds, Cond.selects RX5 yX5_adds yX5_adds, Cond.code yX5_adds cX5_adds 8 (some .int), Cond.methodLink RX5 72 yX5_pull, Cond.instanceMethod yX5_pull, Cond.selects RX5 yX5_pull yX5_pull, Cond.code yX5_pull cX5_pull 3 (some .int), Cond.methodLink RX5 66 yX5_far, Cond.static yX5_far, Cond.code yX5_far cX5_far 2 (some .int), Cond.methodLink RX5 75 yX5_cutTo, Cond.instanceMethod yX5_cutTo, Cond.selects RX5 yX5_cutTo yX5_cutTo, Cond.code yX5_cutTo cX5_cutTo 6 (some .int), Cond.methodLink RX5 69 yX5_weight, Cond.instanceMethod yX5_weight, Cond.selects RX5 yX5_weight yX5_weight, Cond.code yX5_weight cX5_weight 5 (some .int)]
def wsX5_sideOf_r3 : List Cond := [Cond.fieldLink RX5 22 "StrokeCutsModel" "strained" "I", Cond.fieldLink RX5 60 "StrokeCutsModel" "strainedTo" "I", Cond.methodLink RX5 63 yX5_over, Cond.instanceMethod yX5_over, Cond.selects RX5 yX5_over yX5_over, Cond.code yX5_over cX5_over 5 (some .int), Cond.methodLink RX5 52 yX5_isDot, Cond.instanceMethod yX5_isDot, Cond.selects RX5 yX5_isDot yX5_isDot, Cond.code yX5_isDot cX5_isDot 3 (some .boolean), Cond.methodLink RX5 41 yX5_in, Cond.static yX5_in, Cond.code yX5_in cX5_in 3 (some .boolean), Cond.methodLink RX5 56 yX5_numberOf, Cond.instanceMethod yX5_numberOf, Cond.selects RX5 yX5_numberOf yX5_numberOf, Cond.code yX5_numberOf cX5_numberOf 3 (some .int), Cond.methodLink RX5 104 yX5_mayBe, Cond.instanceMethod yX5_mayBe, Cond.selects RX5 yX5_mayBe yX5_mayBe, Cond.code yX5_mayBe cX5_mayBe 4 (some .boolean), Cond.methodLink RX5 98 yX5_costWith, Cond.instanceMethod yX5_costWith, Cond.selects RX5 yX5_costWith yX5_costWith]
def wsX5_sideOf_r4 : List Cond := [Cond.code yX5_costWith cX5_costWith 5 (some .int)]
def wsX5_sideOf : List Cond := .code yX5_sideOf cX5_sideOf 7 (some .long) :: ((wsX5_sideOf_r1 ++ (wsX5_sideOf_r2 ++ (wsX5_sideOf_r3 ++ wsX5_sideOf_r4))) ++ wsX50)
def wsX5_isIn : List Cond := .code yX5_isIn cX5_isIn 3 (some .boolean) :: ([])
def wsX5_picture : List Cond := .code yX5_picture cX5_picture 4 (some .int) :: ([.fieldLink RX5 7 "StrokeCutsModel" "st" "[I", .methodLink RX5 41 yX5_in, .static yX5_in, .initialized RX5, .code yX5_in cX5_in 3 (some .boolean), .methodLink RX5 107 yX5_bad, .instanceMethod yX5_bad, .selects RX5 yX5_bad yX5_bad, .code yX5_bad cX5_bad 1 (some .int), .fieldLink RX5 16 "StrokeCutsModel" "refused" "[I", .methodLink RX5 110 yX5_leaves, .instanceMethod yX5_leaves, .selects RX5 yX5_leaves yX5_leaves, .code yX5_leaves cX5_leaves 1 none, .fieldLink RX5 45 "StrokeCutsModel" "states" "I", .fieldLink RX5 13 "StrokeCutsModel" "past" "[I", .methodLink RX5 48 yX5_bring, .static yX5_bring, .code yX5_bring cX5_bring 6 none, .methodLink RX5 80 yX5_dots, .instanceMethod yX5_dots, .selects RX5 yX5_dots yX5_dots, .code yX5_dots cX5_dots 1 (some .int)] ++ wsX50)
def wsX5_shade_r1 : List Cond := [Cond.fieldLink RX5 7 "StrokeCutsModel" "st" "[I", Cond.methodLink RX5 52 yX5_isDot, Cond.instanceMethod yX5_isDot, Cond.selects RX5 yX5_isDot yX5_isDot, Cond.initialized RX5, Cond.code yX5_isDot cX5_isDot 3 (some .boolean), Cond.methodLink RX5 41 yX5_in, Cond.static yX5_in, Cond.code yX5_in cX5_in 3 (some .boolean), Cond.methodLink RX5 107 yX5_bad, Cond.instanceMethod yX5_bad, Cond.selects RX5 yX5_bad yX5_bad, Cond.code yX5_bad cX5_bad 1 (some .int), Cond.fieldLink RX5 16 "StrokeCutsModel" "refused" "[I", Cond.methodLink RX5 110 yX5_leaves, Cond.instanceMethod yX5_leaves, Cond.selects RX5 yX5_leaves yX5_leaves, Cond.code yX5_leaves cX5_leaves 1 none, Cond.fieldLink RX5 45 "StrokeCutsModel" "states" "I", Cond.fieldLink RX5 13 "StrokeCutsModel" "past" "[I", Cond.methodLink RX5 48 yX5_bring, Cond.static yX5_bring, Cond.code yX5_bring cX5_bring 6 none, Cond.methodLink RX5 56 yX5_numberOf]
def wsX5_shade_r2 : List Cond := [Cond.instanceMethod yX5_numberOf, Cond.selects RX5 yX5_numberOf yX5_numberOf, Cond.code yX5_numberOf cX5_numberOf 3 (some .int)]
def wsX5_shade : List Cond := .code yX5_shade cX5_shade 5 (some .int) :: ((wsX5_shade_r1 ++ wsX5_shade_r2) ++ wsX50)
def wsX5_draws_r1 : List Cond := [Cond.constant RX5 113 (999999), Cond.constantLong RX5 114 (1103515245), Cond.constantLong RX5 116 (12345), Cond.constantLong RX5 118 (2147483648), Cond.constantLong RX5 120 (65536), Cond.fieldLink RX5 7 "StrokeCutsModel" "st" "[I", Cond.methodLink RX5 41 yX5_in, Cond.static yX5_in, Cond.initialized RX5, Cond.code yX5_in cX5_in 3 (some .boolean), Cond.methodLink RX5 107 yX5_bad, Cond.instanceMethod yX5_bad, Cond.selects RX5 yX5_bad yX5_bad, Cond.code yX5_bad cX5_bad 1 (some .int), Cond.fieldLink RX5 16 "StrokeCutsModel" "refused" "[I", Cond.methodLink RX5 110 yX5_leaves, Cond.instanceMethod yX5_leaves, Cond.selects RX5 yX5_leaves yX5_leaves, Cond.code yX5_leaves cX5_leaves 1 none, Cond.fieldLink RX5 45 "StrokeCutsModel" "states" "I", Cond.fieldLink RX5 13 "StrokeCutsModel" "past" "[I", Cond.methodLink RX5 48 yX5_bring, Cond.static yX5_bring, Cond.code yX5_bring cX5_bring 6 none]
def wsX5_draws_r2 : List Cond := [Cond.methodLink RX5 80 yX5_dots, Cond.instanceMethod yX5_dots, Cond.selects RX5 yX5_dots yX5_dots, Cond.code yX5_dots cX5_dots 1 (some .int)]
def wsX5_draws : List Cond := .code yX5_draws cX5_draws 8 (some .int) :: ((wsX5_draws_r1 ++ wsX5_draws_r2) ++ wsX50)
def wsX5_blot_r1 : List Cond := [Cond.fieldLink RX5 7 "StrokeCutsModel" "st" "[I", Cond.methodLink RX5 52 yX5_isDot, Cond.instanceMethod yX5_isDot, Cond.selects RX5 yX5_isDot yX5_isDot, Cond.initialized RX5, Cond.code yX5_isDot cX5_isDot 3 (some .boolean), Cond.methodLink RX5 41 yX5_in, Cond.static yX5_in, Cond.code yX5_in cX5_in 3 (some .boolean), Cond.methodLink RX5 107 yX5_bad, Cond.instanceMethod yX5_bad, Cond.selects RX5 yX5_bad yX5_bad, Cond.code yX5_bad cX5_bad 1 (some .int), Cond.fieldLink RX5 16 "StrokeCutsModel" "refused" "[I", Cond.methodLink RX5 110 yX5_leaves, Cond.instanceMethod yX5_leaves, Cond.selects RX5 yX5_leaves yX5_leaves, Cond.code yX5_leaves cX5_leaves 1 none, Cond.fieldLink RX5 45 "StrokeCutsModel" "states" "I", Cond.fieldLink RX5 13 "StrokeCutsModel" "past" "[I", Cond.methodLink RX5 48 yX5_bring, Cond.static yX5_bring, Cond.code yX5_bring cX5_bring 6 none, Cond.methodLink RX5 80 yX5_dots]
def wsX5_blot_r2 : List Cond := [Cond.instanceMethod yX5_dots, Cond.selects RX5 yX5_dots yX5_dots, Cond.code yX5_dots cX5_dots 1 (some .int), Cond.methodLink RX5 66 yX5_far, Cond.static yX5_far, Cond.code yX5_far cX5_far 2 (some .int)]
def wsX5_blot : List Cond := .code yX5_blot cX5_blot 7 (some .int) :: ((wsX5_blot_r1 ++ wsX5_blot_r2) ++ wsX50)
def wsX5_mark_r1 : List Cond := [Cond.fieldLink RX5 7 "StrokeCutsModel" "st" "[I", Cond.methodLink RX5 52 yX5_isDot, Cond.instanceMethod yX5_isDot, Cond.selects RX5 yX5_isDot yX5_isDot, Cond.initialized RX5, Cond.code yX5_isDot cX5_isDot 3 (some .boolean), Cond.methodLink RX5 41 yX5_in, Cond.static yX5_in, Cond.code yX5_in cX5_in 3 (some .boolean), Cond.methodLink RX5 107 yX5_bad, Cond.instanceMethod yX5_bad, Cond.selects RX5 yX5_bad yX5_bad, Cond.code yX5_bad cX5_bad 1 (some .int), Cond.fieldLink RX5 16 "StrokeCutsModel" "refused" "[I", Cond.methodLink RX5 110 yX5_leaves, Cond.instanceMethod yX5_leaves, Cond.selects RX5 yX5_leaves yX5_leaves, Cond.code yX5_leaves cX5_leaves 1 none, Cond.fieldLink RX5 45 "StrokeCutsModel" "states" "I", Cond.fieldLink RX5 13 "StrokeCutsModel" "past" "[I", Cond.methodLink RX5 48 yX5_bring, Cond.static yX5_bring, Cond.code yX5_bring cX5_bring 6 none, Cond.methodLink RX5 56 yX5_numberOf]
def wsX5_mark_r2 : List Cond := [Cond.instanceMethod yX5_numberOf, Cond.selects RX5 yX5_numberOf yX5_numberOf, Cond.code yX5_numberOf cX5_numberOf 3 (some .int)]
def wsX5_mark : List Cond := .code yX5_mark cX5_mark 5 (some .int) :: ((wsX5_mark_r1 ++ wsX5_mark_r2) ++ wsX50)
def wsX5_nearest : List Cond := .code yX5_nearest cX5_nearest 4 (some .int) :: ([])
def wsX5_strokes : List Cond := .code yX5_strokes cX5_strokes 12 (some .int) :: ([.fieldLink RX5 7 "StrokeCutsModel" "st" "[I", .methodLink RX5 66 yX5_far, .static yX5_far, .initialized RX5, .code yX5_far cX5_far 2 (some .int), .methodLink RX5 122 yX5_nearest, .static yX5_nearest, .code yX5_nearest cX5_nearest 4 (some .int), .methodLink RX5 56 yX5_numberOf, .instanceMethod yX5_numberOf, .selects RX5 yX5_numberOf yX5_numberOf, .code yX5_numberOf cX5_numberOf 3 (some .int)] ++ wsX50)
def wsX5_stroke_r1 : List Cond := [Cond.methodLink RX5 41 yX5_in, Cond.static yX5_in, Cond.initialized RX5, Cond.code yX5_in cX5_in 3 (some .boolean), Cond.methodLink RX5 52 yX5_isDot, Cond.instanceMethod yX5_isDot, Cond.selects RX5 yX5_isDot yX5_isDot, Cond.code yX5_isDot cX5_isDot 3 (some .boolean), Cond.fieldLink RX5 7 "StrokeCutsModel" "st" "[I", Cond.methodLink RX5 107 yX5_bad, Cond.instanceMethod yX5_bad, Cond.selects RX5 yX5_bad yX5_bad, Cond.code yX5_bad cX5_bad 1 (some .int), Cond.fieldLink RX5 16 "StrokeCutsModel" "refused" "[I", Cond.methodLink RX5 110 yX5_leaves, Cond.instanceMethod yX5_leaves, Cond.selects RX5 yX5_leaves yX5_leaves, Cond.code yX5_leaves cX5_leaves 1 none, Cond.fieldLink RX5 45 "StrokeCutsModel" "states" "I", Cond.fieldLink RX5 13 "StrokeCutsModel" "past" "[I", Cond.methodLink RX5 48 yX5_bring, Cond.static yX5_bring, Cond.code yX5_bring cX5_bring 6 none, Cond.methodLink RX5 125 yX5_strokes]
def wsX5_stroke_r2 : List Cond := [Cond.instanceMethod yX5_strokes, Cond.selects RX5 yX5_strokes yX5_strokes, Cond.code yX5_strokes cX5_strokes 12 (some .int), Cond.methodLink RX5 66 yX5_far, Cond.static yX5_far, Cond.code yX5_far cX5_far 2 (some .int), Cond.methodLink RX5 122 yX5_nearest, Cond.static yX5_nearest, Cond.code yX5_nearest cX5_nearest 4 (some .int), Cond.methodLink RX5 56 yX5_numberOf, Cond.instanceMethod yX5_numberOf, Cond.selects RX5 yX5_numberOf yX5_numberOf, Cond.code yX5_numberOf cX5_numberOf 3 (some .int)]
def wsX5_stroke : List Cond := .code yX5_stroke cX5_stroke 6 (some .int) :: ((wsX5_stroke_r1 ++ wsX5_stroke_r2) ++ wsX50)
def wsX5_isTold : List Cond := .code yX5_isTold cX5_isTold 2 (some .boolean) :: ([.methodLink RX5 41 yX5_in, .static yX5_in, .initialized RX5, .code yX5_in cX5_in 3 (some .boolean)])
def wsX5_sets : List Cond := .code yX5_sets cX5_sets 4 (some .int) :: ([.fieldLink RX5 7 "StrokeCutsModel" "st" "[I", .methodLink RX5 128 yX5_isTold, .static yX5_isTold, .initialized RX5, .code yX5_isTold cX5_isTold 2 (some .boolean), .methodLink RX5 41 yX5_in, .static yX5_in, .code yX5_in cX5_in 3 (some .boolean), .methodLink RX5 107 yX5_bad, .instanceMethod yX5_bad, .selects RX5 yX5_bad yX5_bad, .code yX5_bad cX5_bad 1 (some .int), .fieldLink RX5 16 "StrokeCutsModel" "refused" "[I", .methodLink RX5 110 yX5_leaves, .instanceMethod yX5_leaves, .selects RX5 yX5_leaves yX5_leaves, .code yX5_leaves cX5_leaves 1 none, .fieldLink RX5 45 "StrokeCutsModel" "states" "I", .fieldLink RX5 13 "StrokeCutsModel" "past" "[I", .methodLink RX5 48 yX5_bring, .static yX5_bring, .code yX5_bring cX5_bring 6 none] ++ wsX50)
def wsX5_dot_r1 : List Cond := [Cond.fieldLink RX5 7 "StrokeCutsModel" "st" "[I", Cond.methodLink RX5 52 yX5_isDot, Cond.instanceMethod yX5_isDot, Cond.selects RX5 yX5_isDot yX5_isDot, Cond.initialized RX5, Cond.code yX5_isDot cX5_isDot 3 (some .boolean), Cond.methodLink RX5 41 yX5_in, Cond.static yX5_in, Cond.code yX5_in cX5_in 3 (some .boolean), Cond.methodLink RX5 107 yX5_bad, Cond.instanceMethod yX5_bad, Cond.selects RX5 yX5_bad yX5_bad, Cond.code yX5_bad cX5_bad 1 (some .int), Cond.fieldLink RX5 16 "StrokeCutsModel" "refused" "[I", Cond.methodLink RX5 56 yX5_numberOf, Cond.instanceMethod yX5_numberOf, Cond.selects RX5 yX5_numberOf yX5_numberOf, Cond.code yX5_numberOf cX5_numberOf 3 (some .int), Cond.methodLink RX5 72 yX5_pull, Cond.instanceMethod yX5_pull, Cond.selects RX5 yX5_pull yX5_pull, Cond.code yX5_pull cX5_pull 3 (some .int), Cond.methodLink RX5 66 yX5_far, Cond.static yX5_far]
def wsX5_dot_r2 : List Cond := [Cond.code yX5_far cX5_far 2 (some .int)]
def wsX5_dot : List Cond := .code yX5_dot cX5_dot 5 (some .int) :: ((wsX5_dot_r1 ++ wsX5_dot_r2) ++ wsX50)
def wsX5_isLinked : List Cond := .code yX5_isLinked cX5_isLinked 4 (some .boolean) :: ([.methodLink RX5 52 yX5_isDot, .instanceMethod yX5_isDot, .selects RX5 yX5_isDot yX5_isDot, .initialized RX5, .code yX5_isDot cX5_isDot 3 (some .boolean), .fieldLink RX5 7 "StrokeCutsModel" "st" "[I", .methodLink RX5 41 yX5_in, .static yX5_in, .code yX5_in cX5_in 3 (some .boolean)] ++ wsX50)
def wsX5_link_r1 : List Cond := [Cond.methodLink RX5 131 yX5_isLinked, Cond.instanceMethod yX5_isLinked, Cond.selects RX5 yX5_isLinked yX5_isLinked, Cond.initialized RX5, Cond.code yX5_isLinked cX5_isLinked 4 (some .boolean), Cond.methodLink RX5 52 yX5_isDot, Cond.instanceMethod yX5_isDot, Cond.selects RX5 yX5_isDot yX5_isDot, Cond.code yX5_isDot cX5_isDot 3 (some .boolean), Cond.fieldLink RX5 7 "StrokeCutsModel" "st" "[I", Cond.methodLink RX5 41 yX5_in, Cond.static yX5_in, Cond.code yX5_in cX5_in 3 (some .boolean), Cond.methodLink RX5 107 yX5_bad, Cond.instanceMethod yX5_bad, Cond.selects RX5 yX5_bad yX5_bad, Cond.code yX5_bad cX5_bad 1 (some .int), Cond.fieldLink RX5 16 "StrokeCutsModel" "refused" "[I", Cond.methodLink RX5 56 yX5_numberOf, Cond.instanceMethod yX5_numberOf, Cond.selects RX5 yX5_numberOf yX5_numberOf, Cond.code yX5_numberOf cX5_numberOf 3 (some .int), Cond.methodLink RX5 63 yX5_over, Cond.instanceMethod yX5_over]
def wsX5_link_r2 : List Cond := [Cond.selects RX5 yX5_over yX5_over, Cond.code yX5_over cX5_over 5 (some .int), Cond.methodLink RX5 69 yX5_weight, Cond.instanceMethod yX5_weight, Cond.selects RX5 yX5_weight yX5_weight, Cond.code yX5_weight cX5_weight 5 (some .int), Cond.fieldLink RX5 22 "StrokeCutsModel" "strained" "I", Cond.fieldLink RX5 60 "StrokeCutsModel" "strainedTo" "I", Cond.methodLink RX5 66 yX5_far, Cond.static yX5_far, Cond.code yX5_far cX5_far 2 (some .int)]
def wsX5_link : List Cond := .code yX5_link cX5_link 5 (some .int) :: ((wsX5_link_r1 ++ wsX5_link_r2) ++ wsX50)
def wsX5_cost_r1 : List Cond := [Cond.methodLink RX5 101 yX5_bestCost, Cond.instanceMethod yX5_bestCost, Cond.selects RX5 yX5_bestCost yX5_bestCost, Cond.initialized RX5, Cond.code yX5_bestCost cX5_bestCost 1 (some .int), Cond.methodLink RX5 95 yX5_holdsMarks, Cond.instanceMethod yX5_holdsMarks, Cond.selects RX5 yX5_holdsMarks yX5_holdsMarks, Cond.code yX5_holdsMarks cX5_holdsMarks 1 none, Cond.fieldLink RX5 7 "StrokeCutsModel" "st" "[I", Cond.fieldLink RX5 26 "StrokeCutsModel" "held" "[I", Cond.methodLink RX5 48 yX5_bring, Cond.static yX5_bring, Cond.code yX5_bring cX5_bring 6 none, Cond.methodLink RX5 92 yX5_leastCost, Cond.instanceMethod yX5_leastCost, Cond.selects RX5 yX5_leastCost yX5_leastCost, Cond.code yX5_leastCost cX5_leastCost 4 (some .int), Cond.fieldLink RX5 29 "StrokeCutsModel" "least" "[I", Cond.constant RX5 79 (1000000), Cond.fieldLink RX5 32 "StrokeCutsModel" "next" "[I", Cond.methodLink RX5 80 yX5_dots, Cond.instanceMethod yX5_dots, Cond.selects RX5 yX5_dots yX5_dots]
def wsX5_cost_r2 : List Cond := [Cond.code yX5_dots cX5_dots 1 (some .int), Cond.methodLink RX5 84 yX5_goesOn, Cond.instanceMethod yX5_goesOn, Cond.selects RX5 yX5_goesOn yX5_goesOn, Cond.code yX5_goesOn cX5_goesOn 7 none, Cond.methodLink RX5 88 yX5_adds, Cond.instanceMethod yX5_adds, Cond.selects RX5 yX5_adds yX5_adds, Cond.code yX5_adds cX5_adds 8 (some .int), Cond.methodLink RX5 72 yX5_pull, Cond.instanceMethod yX5_pull, Cond.selects RX5 yX5_pull yX5_pull, Cond.code yX5_pull cX5_pull 3 (some .int), Cond.methodLink RX5 66 yX5_far, Cond.static yX5_far, Cond.code yX5_far cX5_far 2 (some .int), Cond.methodLink RX5 75 yX5_cutTo, Cond.instanceMethod yX5_cutTo, Cond.selects RX5 yX5_cutTo yX5_cutTo, Cond.code yX5_cutTo cX5_cutTo 6 (some .int), Cond.methodLink RX5 69 yX5_weight, Cond.instanceMethod yX5_weight, Cond.selects RX5 yX5_weight yX5_weight, Cond.code yX5_weight cX5_weight 5 (some .int)]
def wsX5_cost_r3 : List Cond := [Cond.fieldLink RX5 22 "StrokeCutsModel" "strained" "I", Cond.fieldLink RX5 60 "StrokeCutsModel" "strainedTo" "I", Cond.methodLink RX5 63 yX5_over, Cond.instanceMethod yX5_over, Cond.selects RX5 yX5_over yX5_over, Cond.code yX5_over cX5_over 5 (some .int), Cond.methodLink RX5 52 yX5_isDot, Cond.instanceMethod yX5_isDot, Cond.selects RX5 yX5_isDot yX5_isDot, Cond.code yX5_isDot cX5_isDot 3 (some .boolean), Cond.methodLink RX5 41 yX5_in, Cond.static yX5_in, Cond.code yX5_in cX5_in 3 (some .boolean), Cond.methodLink RX5 56 yX5_numberOf, Cond.instanceMethod yX5_numberOf, Cond.selects RX5 yX5_numberOf yX5_numberOf, Cond.code yX5_numberOf cX5_numberOf 3 (some .int)]
def wsX5_cost : List Cond := .code yX5_cost cX5_cost 1 (some .int) :: ((wsX5_cost_r1 ++ (wsX5_cost_r2 ++ wsX5_cost_r3)) ++ wsX50)
def wsX5_side_r1 : List Cond := [Cond.methodLink RX5 41 yX5_in, Cond.static yX5_in, Cond.initialized RX5, Cond.code yX5_in cX5_in 3 (some .boolean), Cond.methodLink RX5 134 yX5_sideOf, Cond.instanceMethod yX5_sideOf, Cond.selects RX5 yX5_sideOf yX5_sideOf, Cond.code yX5_sideOf cX5_sideOf 7 (some .long), Cond.methodLink RX5 101 yX5_bestCost, Cond.instanceMethod yX5_bestCost, Cond.selects RX5 yX5_bestCost yX5_bestCost, Cond.code yX5_bestCost cX5_bestCost 1 (some .int), Cond.methodLink RX5 95 yX5_holdsMarks, Cond.instanceMethod yX5_holdsMarks, Cond.selects RX5 yX5_holdsMarks yX5_holdsMarks, Cond.code yX5_holdsMarks cX5_holdsMarks 1 none, Cond.fieldLink RX5 7 "StrokeCutsModel" "st" "[I", Cond.fieldLink RX5 26 "StrokeCutsModel" "held" "[I", Cond.methodLink RX5 48 yX5_bring, Cond.static yX5_bring, Cond.code yX5_bring cX5_bring 6 none, Cond.methodLink RX5 92 yX5_leastCost, Cond.instanceMethod yX5_leastCost, Cond.selects RX5 yX5_leastCost yX5_leastCost]
def wsX5_side_r2 : List Cond := [Cond.code yX5_leastCost cX5_leastCost 4 (some .int), Cond.fieldLink RX5 29 "StrokeCutsModel" "least" "[I", Cond.constant RX5 79 (1000000), Cond.fieldLink RX5 32 "StrokeCutsModel" "next" "[I", Cond.methodLink RX5 80 yX5_dots, Cond.instanceMethod yX5_dots, Cond.selects RX5 yX5_dots yX5_dots, Cond.code yX5_dots cX5_dots 1 (some .int), Cond.methodLink RX5 84 yX5_goesOn, Cond.instanceMethod yX5_goesOn, Cond.selects RX5 yX5_goesOn yX5_goesOn, Cond.code yX5_goesOn cX5_goesOn 7 none, Cond.methodLink RX5 88 yX5_adds, Cond.instanceMethod yX5_adds, Cond.selects RX5 yX5_adds yX5_adds, Cond.code yX5_adds cX5_adds 8 (some .int), Cond.methodLink RX5 72 yX5_pull, Cond.instanceMethod yX5_pull, Cond.selects RX5 yX5_pull yX5_pull, Cond.code yX5_pull cX5_pull 3 (some .int), Cond.methodLink RX5 66 yX5_far, Cond.static yX5_far, Cond.code yX5_far cX5_far 2 (some .int), Cond.methodLink RX5 75 yX5_cutTo]
def wsX5_side_r3 : List Cond := [Cond.instanceMethod yX5_cutTo, Cond.selects RX5 yX5_cutTo yX5_cutTo, Cond.code yX5_cutTo cX5_cutTo 6 (some .int), Cond.methodLink RX5 69 yX5_weight, Cond.instanceMethod yX5_weight, Cond.selects RX5 yX5_weight yX5_weight, Cond.code yX5_weight cX5_weight 5 (some .int), Cond.fieldLink RX5 22 "StrokeCutsModel" "strained" "I", Cond.fieldLink RX5 60 "StrokeCutsModel" "strainedTo" "I", Cond.methodLink RX5 63 yX5_over, Cond.instanceMethod yX5_over, Cond.selects RX5 yX5_over yX5_over, Cond.code yX5_over cX5_over 5 (some .int), Cond.methodLink RX5 52 yX5_isDot, Cond.instanceMethod yX5_isDot, Cond.selects RX5 yX5_isDot yX5_isDot, Cond.code yX5_isDot cX5_isDot 3 (some .boolean), Cond.methodLink RX5 56 yX5_numberOf, Cond.instanceMethod yX5_numberOf, Cond.selects RX5 yX5_numberOf yX5_numberOf, Cond.code yX5_numberOf cX5_numberOf 3 (some .int), Cond.methodLink RX5 104 yX5_mayBe, Cond.instanceMethod yX5_mayBe, Cond.selects RX5 yX5_mayBe yX5_mayBe]
def wsX5_side_r4 : List Cond := [Cond.code yX5_mayBe cX5_mayBe 4 (some .boolean), Cond.methodLink RX5 98 yX5_costWith, Cond.instanceMethod yX5_costWith, Cond.selects RX5 yX5_costWith yX5_costWith, Cond.code yX5_costWith cX5_costWith 5 (some .int), Cond.methodLink RX5 107 yX5_bad, Cond.instanceMethod yX5_bad, Cond.selects RX5 yX5_bad yX5_bad, Cond.code yX5_bad cX5_bad 1 (some .int), Cond.fieldLink RX5 16 "StrokeCutsModel" "refused" "[I"]
def wsX5_side : List Cond := .code yX5_side cX5_side 2 (some .long) :: ((wsX5_side_r1 ++ (wsX5_side_r2 ++ (wsX5_side_r3 ++ wsX5_side_r4))) ++ wsX50)
def wsX5_sure_r1 : List Cond := [Cond.methodLink RX5 52 yX5_isDot, Cond.instanceMethod yX5_isDot, Cond.selects RX5 yX5_isDot yX5_isDot, Cond.initialized RX5, Cond.code yX5_isDot cX5_isDot 3 (some .boolean), Cond.fieldLink RX5 7 "StrokeCutsModel" "st" "[I", Cond.methodLink RX5 41 yX5_in, Cond.static yX5_in, Cond.code yX5_in cX5_in 3 (some .boolean), Cond.methodLink RX5 107 yX5_bad, Cond.instanceMethod yX5_bad, Cond.selects RX5 yX5_bad yX5_bad, Cond.code yX5_bad cX5_bad 1 (some .int), Cond.fieldLink RX5 16 "StrokeCutsModel" "refused" "[I", Cond.methodLink RX5 101 yX5_bestCost, Cond.instanceMethod yX5_bestCost, Cond.selects RX5 yX5_bestCost yX5_bestCost, Cond.code yX5_bestCost cX5_bestCost 1 (some .int), Cond.methodLink RX5 95 yX5_holdsMarks, Cond.instanceMethod yX5_holdsMarks, Cond.selects RX5 yX5_holdsMarks yX5_holdsMarks, Cond.code yX5_holdsMarks cX5_holdsMarks 1 none, Cond.fieldLink RX5 26 "StrokeCutsModel" "held" "[I", Cond.methodLink RX5 48 yX5_bring]
def wsX5_sure_r2 : List Cond := [Cond.static yX5_bring, Cond.code yX5_bring cX5_bring 6 none, Cond.methodLink RX5 92 yX5_leastCost, Cond.instanceMethod yX5_leastCost, Cond.selects RX5 yX5_leastCost yX5_leastCost, Cond.code yX5_leastCost cX5_leastCost 4 (some .int), Cond.fieldLink RX5 29 "StrokeCutsModel" "least" "[I", Cond.constant RX5 79 (1000000), Cond.fieldLink RX5 32 "StrokeCutsModel" "next" "[I", Cond.methodLink RX5 80 yX5_dots, Cond.instanceMethod yX5_dots, Cond.selects RX5 yX5_dots yX5_dots, Cond.code yX5_dots cX5_dots 1 (some .int), Cond.methodLink RX5 84 yX5_goesOn, Cond.instanceMethod yX5_goesOn, Cond.selects RX5 yX5_goesOn yX5_goesOn, Cond.code yX5_goesOn cX5_goesOn 7 none, Cond.methodLink RX5 88 yX5_adds, Cond.instanceMethod yX5_adds, Cond.selects RX5 yX5_adds yX5_adds, Cond.code yX5_adds cX5_adds 8 (some .int), Cond.methodLink RX5 72 yX5_pull, Cond.instanceMethod yX5_pull, Cond.selects RX5 yX5_pull yX5_pull]
def wsX5_sure_r3 : List Cond := [Cond.code yX5_pull cX5_pull 3 (some .int), Cond.methodLink RX5 66 yX5_far, Cond.static yX5_far, Cond.code yX5_far cX5_far 2 (some .int), Cond.methodLink RX5 75 yX5_cutTo, Cond.instanceMethod yX5_cutTo, Cond.selects RX5 yX5_cutTo yX5_cutTo, Cond.code yX5_cutTo cX5_cutTo 6 (some .int), Cond.methodLink RX5 69 yX5_weight, Cond.instanceMethod yX5_weight, Cond.selects RX5 yX5_weight yX5_weight, Cond.code yX5_weight cX5_weight 5 (some .int), Cond.fieldLink RX5 22 "StrokeCutsModel" "strained" "I", Cond.fieldLink RX5 60 "StrokeCutsModel" "strainedTo" "I", Cond.methodLink RX5 63 yX5_over, Cond.instanceMethod yX5_over, Cond.selects RX5 yX5_over yX5_over, Cond.code yX5_over cX5_over 5 (some .int), Cond.methodLink RX5 56 yX5_numberOf, Cond.instanceMethod yX5_numberOf, Cond.selects RX5 yX5_numberOf yX5_numberOf, Cond.code yX5_numberOf cX5_numberOf 3 (some .int), Cond.methodLink RX5 104 yX5_mayBe, Cond.instanceMethod yX5_mayBe]
def wsX5_sure_r4 : List Cond := [Cond.selects RX5 yX5_mayBe yX5_mayBe, Cond.code yX5_mayBe cX5_mayBe 4 (some .boolean), Cond.methodLink RX5 98 yX5_costWith, Cond.instanceMethod yX5_costWith, Cond.selects RX5 yX5_costWith yX5_costWith, Cond.code yX5_costWith cX5_costWith 5 (some .int)]
def wsX5_sure : List Cond := .code yX5_sure cX5_sure 6 (some .int) :: ((wsX5_sure_r1 ++ (wsX5_sure_r2 ++ (wsX5_sure_r3 ++ wsX5_sure_r4))) ++ wsX50)
def wsX5_were_r1 : List Cond := [Cond.methodLink RX5 52 yX5_isDot, Cond.instanceMethod yX5_isDot, Cond.selects RX5 yX5_isDot yX5_isDot, Cond.initialized RX5, Cond.code yX5_isDot cX5_isDot 3 (some .boolean), Cond.fieldLink RX5 7 "StrokeCutsModel" "st" "[I", Cond.methodLink RX5 41 yX5_in, Cond.static yX5_in, Cond.code yX5_in cX5_in 3 (some .boolean), Cond.methodLink RX5 107 yX5_bad, Cond.instanceMethod yX5_bad, Cond.selects RX5 yX5_bad yX5_bad, Cond.code yX5_bad cX5_bad 1 (some .int), Cond.fieldLink RX5 16 "StrokeCutsModel" "refused" "[I", Cond.methodLink RX5 95 yX5_holdsMarks, Cond.instanceMethod yX5_holdsMarks, Cond.selects RX5 yX5_holdsMarks yX5_holdsMarks, Cond.code yX5_holdsMarks cX5_holdsMarks 1 none, Cond.fieldLink RX5 26 "StrokeCutsModel" "held" "[I", Cond.methodLink RX5 48 yX5_bring, Cond.static yX5_bring, Cond.code yX5_bring cX5_bring 6 none, Cond.methodLink RX5 56 yX5_numberOf, Cond.instanceMethod yX5_numberOf]
def wsX5_were_r2 : List Cond := [Cond.selects RX5 yX5_numberOf yX5_numberOf, Cond.code yX5_numberOf cX5_numberOf 3 (some .int), Cond.methodLink RX5 98 yX5_costWith, Cond.instanceMethod yX5_costWith, Cond.selects RX5 yX5_costWith yX5_costWith, Cond.code yX5_costWith cX5_costWith 5 (some .int), Cond.methodLink RX5 92 yX5_leastCost, Cond.instanceMethod yX5_leastCost, Cond.selects RX5 yX5_leastCost yX5_leastCost, Cond.code yX5_leastCost cX5_leastCost 4 (some .int), Cond.fieldLink RX5 29 "StrokeCutsModel" "least" "[I", Cond.constant RX5 79 (1000000), Cond.fieldLink RX5 32 "StrokeCutsModel" "next" "[I", Cond.methodLink RX5 80 yX5_dots, Cond.instanceMethod yX5_dots, Cond.selects RX5 yX5_dots yX5_dots, Cond.code yX5_dots cX5_dots 1 (some .int), Cond.methodLink RX5 84 yX5_goesOn, Cond.instanceMethod yX5_goesOn, Cond.selects RX5 yX5_goesOn yX5_goesOn, Cond.code yX5_goesOn cX5_goesOn 7 none, Cond.methodLink RX5 88 yX5_adds, Cond.instanceMethod yX5_adds, Cond.selects RX5 yX5_adds yX5_adds]
def wsX5_were_r3 : List Cond := [Cond.code yX5_adds cX5_adds 8 (some .int), Cond.methodLink RX5 72 yX5_pull, Cond.instanceMethod yX5_pull, Cond.selects RX5 yX5_pull yX5_pull, Cond.code yX5_pull cX5_pull 3 (some .int), Cond.methodLink RX5 66 yX5_far, Cond.static yX5_far, Cond.code yX5_far cX5_far 2 (some .int), Cond.methodLink RX5 75 yX5_cutTo, Cond.instanceMethod yX5_cutTo, Cond.selects RX5 yX5_cutTo yX5_cutTo, Cond.code yX5_cutTo cX5_cutTo 6 (some .int), Cond.methodLink RX5 69 yX5_weight, Cond.instanceMethod yX5_weight, Cond.selects RX5 yX5_weight yX5_weight, Cond.code yX5_weight cX5_weight 5 (some .int), Cond.fieldLink RX5 22 "StrokeCutsModel" "strained" "I", Cond.fieldLink RX5 60 "StrokeCutsModel" "strainedTo" "I", Cond.methodLink RX5 63 yX5_over, Cond.instanceMethod yX5_over, Cond.selects RX5 yX5_over yX5_over, Cond.code yX5_over cX5_over 5 (some .int)]
def wsX5_were : List Cond := .code yX5_were cX5_were 4 (some .int) :: ((wsX5_were_r1 ++ (wsX5_were_r2 ++ wsX5_were_r3)) ++ wsX50)
def wsX5_strain_r1 : List Cond := [Cond.fieldLink RX5 22 "StrokeCutsModel" "strained" "I", Cond.fieldLink RX5 60 "StrokeCutsModel" "strainedTo" "I", Cond.methodLink RX5 131 yX5_isLinked, Cond.instanceMethod yX5_isLinked, Cond.selects RX5 yX5_isLinked yX5_isLinked, Cond.initialized RX5, Cond.code yX5_isLinked cX5_isLinked 4 (some .boolean), Cond.methodLink RX5 52 yX5_isDot, Cond.instanceMethod yX5_isDot, Cond.selects RX5 yX5_isDot yX5_isDot, Cond.code yX5_isDot cX5_isDot 3 (some .boolean), Cond.fieldLink RX5 7 "StrokeCutsModel" "st" "[I", Cond.methodLink RX5 41 yX5_in, Cond.static yX5_in, Cond.code yX5_in cX5_in 3 (some .boolean), Cond.methodLink RX5 107 yX5_bad, Cond.instanceMethod yX5_bad, Cond.selects RX5 yX5_bad yX5_bad, Cond.code yX5_bad cX5_bad 1 (some .int), Cond.fieldLink RX5 16 "StrokeCutsModel" "refused" "[I", Cond.methodLink RX5 56 yX5_numberOf, Cond.instanceMethod yX5_numberOf, Cond.selects RX5 yX5_numberOf yX5_numberOf, Cond.code yX5_numberOf cX5_numberOf 3 (some .int)]
def wsX5_strain_r2 : List Cond := [Cond.methodLink RX5 63 yX5_over, Cond.instanceMethod yX5_over, Cond.selects RX5 yX5_over yX5_over, Cond.code yX5_over cX5_over 5 (some .int), Cond.methodLink RX5 101 yX5_bestCost, Cond.instanceMethod yX5_bestCost, Cond.selects RX5 yX5_bestCost yX5_bestCost, Cond.code yX5_bestCost cX5_bestCost 1 (some .int), Cond.methodLink RX5 95 yX5_holdsMarks, Cond.instanceMethod yX5_holdsMarks, Cond.selects RX5 yX5_holdsMarks yX5_holdsMarks, Cond.code yX5_holdsMarks cX5_holdsMarks 1 none, Cond.fieldLink RX5 26 "StrokeCutsModel" "held" "[I", Cond.methodLink RX5 48 yX5_bring, Cond.static yX5_bring, Cond.code yX5_bring cX5_bring 6 none, Cond.methodLink RX5 92 yX5_leastCost, Cond.instanceMethod yX5_leastCost, Cond.selects RX5 yX5_leastCost yX5_leastCost, Cond.code yX5_leastCost cX5_leastCost 4 (some .int), Cond.fieldLink RX5 29 "StrokeCutsModel" "least" "[I", Cond.constant RX5 79 (1000000), Cond.fieldLink RX5 32 "StrokeCutsModel" "next" "[I", Cond.methodLink RX5 80 yX5_dots]
def wsX5_strain_r3 : List Cond := [Cond.instanceMethod yX5_dots, Cond.selects RX5 yX5_dots yX5_dots, Cond.code yX5_dots cX5_dots 1 (some .int), Cond.methodLink RX5 84 yX5_goesOn, Cond.instanceMethod yX5_goesOn, Cond.selects RX5 yX5_goesOn yX5_goesOn, Cond.code yX5_goesOn cX5_goesOn 7 none, Cond.methodLink RX5 88 yX5_adds, Cond.instanceMethod yX5_adds, Cond.selects RX5 yX5_adds yX5_adds, Cond.code yX5_adds cX5_adds 8 (some .int), Cond.methodLink RX5 72 yX5_pull, Cond.instanceMethod yX5_pull, Cond.selects RX5 yX5_pull yX5_pull, Cond.code yX5_pull cX5_pull 3 (some .int), Cond.methodLink RX5 66 yX5_far, Cond.static yX5_far, Cond.code yX5_far cX5_far 2 (some .int), Cond.methodLink RX5 75 yX5_cutTo, Cond.instanceMethod yX5_cutTo, Cond.selects RX5 yX5_cutTo yX5_cutTo, Cond.code yX5_cutTo cX5_cutTo 6 (some .int), Cond.methodLink RX5 69 yX5_weight, Cond.instanceMethod yX5_weight]
def wsX5_strain_r4 : List Cond := [Cond.selects RX5 yX5_weight yX5_weight, Cond.code yX5_weight cX5_weight 5 (some .int)]
def wsX5_strain : List Cond := .code yX5_strain cX5_strain 7 (some .int) :: ((wsX5_strain_r1 ++ (wsX5_strain_r2 ++ (wsX5_strain_r3 ++ wsX5_strain_r4))) ++ wsX50)
def wsX5_mayBoth_r1 : List Cond := [Cond.fieldLink RX5 26 "StrokeCutsModel" "held" "[I", Cond.methodLink RX5 98 yX5_costWith, Cond.instanceMethod yX5_costWith, Cond.selects RX5 yX5_costWith yX5_costWith, Cond.initialized RX5, Cond.code yX5_costWith cX5_costWith 5 (some .int), Cond.methodLink RX5 92 yX5_leastCost, Cond.instanceMethod yX5_leastCost, Cond.selects RX5 yX5_leastCost yX5_leastCost, Cond.code yX5_leastCost cX5_leastCost 4 (some .int), Cond.fieldLink RX5 7 "StrokeCutsModel" "st" "[I", Cond.fieldLink RX5 29 "StrokeCutsModel" "least" "[I", Cond.constant RX5 79 (1000000), Cond.fieldLink RX5 32 "StrokeCutsModel" "next" "[I", Cond.methodLink RX5 80 yX5_dots, Cond.instanceMethod yX5_dots, Cond.selects RX5 yX5_dots yX5_dots, Cond.code yX5_dots cX5_dots 1 (some .int), Cond.methodLink RX5 84 yX5_goesOn, Cond.instanceMethod yX5_goesOn, Cond.selects RX5 yX5_goesOn yX5_goesOn, Cond.code yX5_goesOn cX5_goesOn 7 none, Cond.methodLink RX5 88 yX5_adds, Cond.instanceMethod yX5_adds]
def wsX5_mayBoth_r2 : List Cond := [Cond.selects RX5 yX5_adds yX5_adds, Cond.code yX5_adds cX5_adds 8 (some .int), Cond.methodLink RX5 72 yX5_pull, Cond.instanceMethod yX5_pull, Cond.selects RX5 yX5_pull yX5_pull, Cond.code yX5_pull cX5_pull 3 (some .int), Cond.methodLink RX5 66 yX5_far, Cond.static yX5_far, Cond.code yX5_far cX5_far 2 (some .int), Cond.methodLink RX5 75 yX5_cutTo, Cond.instanceMethod yX5_cutTo, Cond.selects RX5 yX5_cutTo yX5_cutTo, Cond.code yX5_cutTo cX5_cutTo 6 (some .int), Cond.methodLink RX5 69 yX5_weight, Cond.instanceMethod yX5_weight, Cond.selects RX5 yX5_weight yX5_weight, Cond.code yX5_weight cX5_weight 5 (some .int), Cond.fieldLink RX5 22 "StrokeCutsModel" "strained" "I", Cond.fieldLink RX5 60 "StrokeCutsModel" "strainedTo" "I", Cond.methodLink RX5 63 yX5_over, Cond.instanceMethod yX5_over, Cond.selects RX5 yX5_over yX5_over, Cond.code yX5_over cX5_over 5 (some .int), Cond.methodLink RX5 52 yX5_isDot]
def wsX5_mayBoth_r3 : List Cond := [Cond.instanceMethod yX5_isDot, Cond.selects RX5 yX5_isDot yX5_isDot, Cond.code yX5_isDot cX5_isDot 3 (some .boolean), Cond.methodLink RX5 41 yX5_in, Cond.static yX5_in, Cond.code yX5_in cX5_in 3 (some .boolean), Cond.methodLink RX5 56 yX5_numberOf, Cond.instanceMethod yX5_numberOf, Cond.selects RX5 yX5_numberOf yX5_numberOf, Cond.code yX5_numberOf cX5_numberOf 3 (some .int), Cond.methodLink RX5 48 yX5_bring, Cond.static yX5_bring, Cond.code yX5_bring cX5_bring 6 none]
def wsX5_mayBoth : List Cond := .code yX5_mayBoth cX5_mayBoth 8 (some .boolean) :: ((wsX5_mayBoth_r1 ++ (wsX5_mayBoth_r2 ++ wsX5_mayBoth_r3)) ++ wsX50)
def wsX5_tight_r1 : List Cond := [Cond.methodLink RX5 131 yX5_isLinked, Cond.instanceMethod yX5_isLinked, Cond.selects RX5 yX5_isLinked yX5_isLinked, Cond.initialized RX5, Cond.code yX5_isLinked cX5_isLinked 4 (some .boolean), Cond.methodLink RX5 52 yX5_isDot, Cond.instanceMethod yX5_isDot, Cond.selects RX5 yX5_isDot yX5_isDot, Cond.code yX5_isDot cX5_isDot 3 (some .boolean), Cond.fieldLink RX5 7 "StrokeCutsModel" "st" "[I", Cond.methodLink RX5 41 yX5_in, Cond.static yX5_in, Cond.code yX5_in cX5_in 3 (some .boolean), Cond.methodLink RX5 107 yX5_bad, Cond.instanceMethod yX5_bad, Cond.selects RX5 yX5_bad yX5_bad, Cond.code yX5_bad cX5_bad 1 (some .int), Cond.fieldLink RX5 16 "StrokeCutsModel" "refused" "[I", Cond.methodLink RX5 56 yX5_numberOf, Cond.instanceMethod yX5_numberOf, Cond.selects RX5 yX5_numberOf yX5_numberOf, Cond.code yX5_numberOf cX5_numberOf 3 (some .int), Cond.methodLink RX5 63 yX5_over, Cond.instanceMethod yX5_over]
def wsX5_tight_r2 : List Cond := [Cond.selects RX5 yX5_over yX5_over, Cond.code yX5_over cX5_over 5 (some .int), Cond.methodLink RX5 101 yX5_bestCost, Cond.instanceMethod yX5_bestCost, Cond.selects RX5 yX5_bestCost yX5_bestCost, Cond.code yX5_bestCost cX5_bestCost 1 (some .int), Cond.methodLink RX5 95 yX5_holdsMarks, Cond.instanceMethod yX5_holdsMarks, Cond.selects RX5 yX5_holdsMarks yX5_holdsMarks, Cond.code yX5_holdsMarks cX5_holdsMarks 1 none, Cond.fieldLink RX5 26 "StrokeCutsModel" "held" "[I", Cond.methodLink RX5 48 yX5_bring, Cond.static yX5_bring, Cond.code yX5_bring cX5_bring 6 none, Cond.methodLink RX5 92 yX5_leastCost, Cond.instanceMethod yX5_leastCost, Cond.selects RX5 yX5_leastCost yX5_leastCost, Cond.code yX5_leastCost cX5_leastCost 4 (some .int), Cond.fieldLink RX5 29 "StrokeCutsModel" "least" "[I", Cond.constant RX5 79 (1000000), Cond.fieldLink RX5 32 "StrokeCutsModel" "next" "[I", Cond.methodLink RX5 80 yX5_dots, Cond.instanceMethod yX5_dots, Cond.selects RX5 yX5_dots yX5_dots]
def wsX5_tight_r3 : List Cond := [Cond.code yX5_dots cX5_dots 1 (some .int), Cond.methodLink RX5 84 yX5_goesOn, Cond.instanceMethod yX5_goesOn, Cond.selects RX5 yX5_goesOn yX5_goesOn, Cond.code yX5_goesOn cX5_goesOn 7 none, Cond.methodLink RX5 88 yX5_adds, Cond.instanceMethod yX5_adds, Cond.selects RX5 yX5_adds yX5_adds, Cond.code yX5_adds cX5_adds 8 (some .int), Cond.methodLink RX5 72 yX5_pull, Cond.instanceMethod yX5_pull, Cond.selects RX5 yX5_pull yX5_pull, Cond.code yX5_pull cX5_pull 3 (some .int), Cond.methodLink RX5 66 yX5_far, Cond.static yX5_far, Cond.code yX5_far cX5_far 2 (some .int), Cond.methodLink RX5 75 yX5_cutTo, Cond.instanceMethod yX5_cutTo, Cond.selects RX5 yX5_cutTo yX5_cutTo, Cond.code yX5_cutTo cX5_cutTo 6 (some .int), Cond.methodLink RX5 69 yX5_weight, Cond.instanceMethod yX5_weight, Cond.selects RX5 yX5_weight yX5_weight, Cond.code yX5_weight cX5_weight 5 (some .int)]
def wsX5_tight_r4 : List Cond := [Cond.fieldLink RX5 22 "StrokeCutsModel" "strained" "I", Cond.fieldLink RX5 60 "StrokeCutsModel" "strainedTo" "I", Cond.methodLink RX5 138 yX5_mayBoth, Cond.instanceMethod yX5_mayBoth, Cond.selects RX5 yX5_mayBoth yX5_mayBoth, Cond.code yX5_mayBoth cX5_mayBoth 8 (some .boolean), Cond.methodLink RX5 98 yX5_costWith, Cond.instanceMethod yX5_costWith, Cond.selects RX5 yX5_costWith yX5_costWith, Cond.code yX5_costWith cX5_costWith 5 (some .int)]
def wsX5_tight : List Cond := .code yX5_tight cX5_tight 9 (some .int) :: ((wsX5_tight_r1 ++ (wsX5_tight_r2 ++ (wsX5_tight_r3 ++ wsX5_tight_r4))) ++ wsX50)
def wsX5_costs_r1 : List Cond := [Cond.fieldLink RX5 7 "StrokeCutsModel" "st" "[I", Cond.methodLink RX5 80 yX5_dots, Cond.instanceMethod yX5_dots, Cond.selects RX5 yX5_dots yX5_dots, Cond.initialized RX5, Cond.code yX5_dots cX5_dots 1 (some .int), Cond.methodLink RX5 107 yX5_bad, Cond.instanceMethod yX5_bad, Cond.selects RX5 yX5_bad yX5_bad, Cond.code yX5_bad cX5_bad 1 (some .int), Cond.fieldLink RX5 16 "StrokeCutsModel" "refused" "[I", Cond.methodLink RX5 142 yX5_isIn, Cond.static yX5_isIn, Cond.code yX5_isIn cX5_isIn 3 (some .boolean), Cond.methodLink RX5 146 yX5_no, Cond.instanceMethod yX5_no, Cond.selects RX5 yX5_no yX5_no, Cond.code yX5_no cX5_no 1 (some .int), Cond.methodLink RX5 72 yX5_pull, Cond.instanceMethod yX5_pull, Cond.selects RX5 yX5_pull yX5_pull, Cond.code yX5_pull cX5_pull 3 (some .int), Cond.methodLink RX5 66 yX5_far, Cond.static yX5_far]
def wsX5_costs_r2 : List Cond := [Cond.code yX5_far cX5_far 2 (some .int), Cond.methodLink RX5 63 yX5_over, Cond.instanceMethod yX5_over, Cond.selects RX5 yX5_over yX5_over, Cond.code yX5_over cX5_over 5 (some .int), Cond.methodLink RX5 52 yX5_isDot, Cond.instanceMethod yX5_isDot, Cond.selects RX5 yX5_isDot yX5_isDot, Cond.code yX5_isDot cX5_isDot 3 (some .boolean), Cond.methodLink RX5 41 yX5_in, Cond.static yX5_in, Cond.code yX5_in cX5_in 3 (some .boolean), Cond.methodLink RX5 56 yX5_numberOf, Cond.instanceMethod yX5_numberOf, Cond.selects RX5 yX5_numberOf yX5_numberOf, Cond.code yX5_numberOf cX5_numberOf 3 (some .int), Cond.methodLink RX5 69 yX5_weight, Cond.instanceMethod yX5_weight, Cond.selects RX5 yX5_weight yX5_weight, Cond.code yX5_weight cX5_weight 5 (some .int), Cond.fieldLink RX5 22 "StrokeCutsModel" "strained" "I", Cond.fieldLink RX5 60 "StrokeCutsModel" "strainedTo" "I"]
def wsX5_costs : List Cond := .code yX5_costs cX5_costs 9 (some .int) :: ((wsX5_costs_r1 ++ wsX5_costs_r2) ++ wsX50)
def wsX5_joins : List Cond := .code yX5_joins cX5_joins 4 (some .boolean) :: ([.fieldLink RX5 35 "StrokeCutsModel" "piece" "[I"] ++ wsX50)
def wsX5_laysPieces_r1 : List Cond := [Cond.fieldLink RX5 35 "StrokeCutsModel" "piece" "[I", Cond.methodLink RX5 80 yX5_dots, Cond.instanceMethod yX5_dots, Cond.selects RX5 yX5_dots yX5_dots, Cond.initialized RX5, Cond.code yX5_dots cX5_dots 1 (some .int), Cond.fieldLink RX5 7 "StrokeCutsModel" "st" "[I", Cond.methodLink RX5 142 yX5_isIn, Cond.static yX5_isIn, Cond.code yX5_isIn cX5_isIn 3 (some .boolean), Cond.methodLink RX5 63 yX5_over, Cond.instanceMethod yX5_over, Cond.selects RX5 yX5_over yX5_over, Cond.code yX5_over cX5_over 5 (some .int), Cond.methodLink RX5 52 yX5_isDot, Cond.instanceMethod yX5_isDot, Cond.selects RX5 yX5_isDot yX5_isDot, Cond.code yX5_isDot cX5_isDot 3 (some .boolean), Cond.methodLink RX5 41 yX5_in, Cond.static yX5_in, Cond.code yX5_in cX5_in 3 (some .boolean), Cond.methodLink RX5 56 yX5_numberOf, Cond.instanceMethod yX5_numberOf, Cond.selects RX5 yX5_numberOf yX5_numberOf]
def wsX5_laysPieces_r2 : List Cond := [Cond.code yX5_numberOf cX5_numberOf 3 (some .int), Cond.methodLink RX5 149 yX5_joins, Cond.instanceMethod yX5_joins, Cond.selects RX5 yX5_joins yX5_joins, Cond.code yX5_joins cX5_joins 4 (some .boolean)]
def wsX5_laysPieces : List Cond := .code yX5_laysPieces cX5_laysPieces 7 none :: ((wsX5_laysPieces_r1 ++ wsX5_laysPieces_r2) ++ wsX50)
def wsX5_pieces : List Cond := .code yX5_pieces cX5_pieces 3 (some .int) :: ([.fieldLink RX5 35 "StrokeCutsModel" "piece" "[I", .methodLink RX5 80 yX5_dots, .instanceMethod yX5_dots, .selects RX5 yX5_dots yX5_dots, .initialized RX5, .code yX5_dots cX5_dots 1 (some .int), .fieldLink RX5 7 "StrokeCutsModel" "st" "[I"] ++ wsX50)
def wsX5_isBorder : List Cond := .code yX5_isBorder cX5_isBorder 4 (some .boolean) :: ([.fieldLink RX5 7 "StrokeCutsModel" "st" "[I"] ++ wsX50)
def wsX5_holes_r1 : List Cond := [Cond.fieldLink RX5 35 "StrokeCutsModel" "piece" "[I", Cond.methodLink RX5 152 yX5_laysPieces, Cond.instanceMethod yX5_laysPieces, Cond.selects RX5 yX5_laysPieces yX5_laysPieces, Cond.initialized RX5, Cond.code yX5_laysPieces cX5_laysPieces 7 none, Cond.methodLink RX5 80 yX5_dots, Cond.instanceMethod yX5_dots, Cond.selects RX5 yX5_dots yX5_dots, Cond.code yX5_dots cX5_dots 1 (some .int), Cond.fieldLink RX5 7 "StrokeCutsModel" "st" "[I", Cond.methodLink RX5 142 yX5_isIn, Cond.static yX5_isIn, Cond.code yX5_isIn cX5_isIn 3 (some .boolean), Cond.methodLink RX5 63 yX5_over, Cond.instanceMethod yX5_over, Cond.selects RX5 yX5_over yX5_over, Cond.code yX5_over cX5_over 5 (some .int), Cond.methodLink RX5 52 yX5_isDot, Cond.instanceMethod yX5_isDot, Cond.selects RX5 yX5_isDot yX5_isDot, Cond.code yX5_isDot cX5_isDot 3 (some .boolean), Cond.methodLink RX5 41 yX5_in, Cond.static yX5_in]
def wsX5_holes_r2 : List Cond := [Cond.code yX5_in cX5_in 3 (some .boolean), Cond.methodLink RX5 56 yX5_numberOf, Cond.instanceMethod yX5_numberOf, Cond.selects RX5 yX5_numberOf yX5_numberOf, Cond.code yX5_numberOf cX5_numberOf 3 (some .int), Cond.methodLink RX5 149 yX5_joins, Cond.instanceMethod yX5_joins, Cond.selects RX5 yX5_joins yX5_joins, Cond.code yX5_joins cX5_joins 4 (some .boolean), Cond.methodLink RX5 156 yX5_pieces, Cond.instanceMethod yX5_pieces, Cond.selects RX5 yX5_pieces yX5_pieces, Cond.code yX5_pieces cX5_pieces 3 (some .int), Cond.methodLink RX5 159 yX5_isBorder, Cond.instanceMethod yX5_isBorder, Cond.selects RX5 yX5_isBorder yX5_isBorder, Cond.code yX5_isBorder cX5_isBorder 4 (some .boolean)]
def wsX5_holes : List Cond := .code yX5_holes cX5_holes 7 (some .int) :: ((wsX5_holes_r1 ++ wsX5_holes_r2) ++ wsX50)
def wsX5_isOpenAt : List Cond := .code yX5_isOpenAt cX5_isOpenAt 5 (some .int) :: ([.methodLink RX5 52 yX5_isDot, .instanceMethod yX5_isDot, .selects RX5 yX5_isDot yX5_isDot, .initialized RX5, .code yX5_isDot cX5_isDot 3 (some .boolean), .fieldLink RX5 7 "StrokeCutsModel" "st" "[I", .methodLink RX5 41 yX5_in, .static yX5_in, .code yX5_in cX5_in 3 (some .boolean), .methodLink RX5 56 yX5_numberOf, .instanceMethod yX5_numberOf, .selects RX5 yX5_numberOf yX5_numberOf, .code yX5_numberOf cX5_numberOf 3 (some .int), .methodLink RX5 142 yX5_isIn, .static yX5_isIn, .code yX5_isIn cX5_isIn 3 (some .boolean)] ++ wsX50)
def wsX5_edges : List Cond := .code yX5_edges cX5_edges 7 (some .int) :: ([.fieldLink RX5 7 "StrokeCutsModel" "st" "[I", .methodLink RX5 80 yX5_dots, .instanceMethod yX5_dots, .selects RX5 yX5_dots yX5_dots, .initialized RX5, .code yX5_dots cX5_dots 1 (some .int), .methodLink RX5 142 yX5_isIn, .static yX5_isIn, .code yX5_isIn cX5_isIn 3 (some .boolean), .methodLink RX5 163 yX5_isOpenAt, .instanceMethod yX5_isOpenAt, .selects RX5 yX5_isOpenAt yX5_isOpenAt, .code yX5_isOpenAt cX5_isOpenAt 5 (some .int), .methodLink RX5 52 yX5_isDot, .instanceMethod yX5_isDot, .selects RX5 yX5_isDot yX5_isDot, .code yX5_isDot cX5_isDot 3 (some .boolean), .methodLink RX5 41 yX5_in, .static yX5_in, .code yX5_in cX5_in 3 (some .boolean), .methodLink RX5 56 yX5_numberOf, .instanceMethod yX5_numberOf, .selects RX5 yX5_numberOf yX5_numberOf, .code yX5_numberOf cX5_numberOf 3 (some .int)] ++ wsX50)
def wsX5_bound : List Cond := .code yX5_bound cX5_bound 8 (some .int) :: ([.fieldLink RX5 7 "StrokeCutsModel" "st" "[I", .methodLink RX5 80 yX5_dots, .instanceMethod yX5_dots, .selects RX5 yX5_dots yX5_dots, .initialized RX5, .code yX5_dots cX5_dots 1 (some .int), .methodLink RX5 142 yX5_isIn, .static yX5_isIn, .code yX5_isIn cX5_isIn 3 (some .boolean)] ++ wsX50)
def wsX5_many : List Cond := .code yX5_many cX5_many 5 (some .int) :: ([.methodLink RX5 80 yX5_dots, .instanceMethod yX5_dots, .selects RX5 yX5_dots yX5_dots, .initialized RX5, .code yX5_dots cX5_dots 1 (some .int), .fieldLink RX5 7 "StrokeCutsModel" "st" "[I", .methodLink RX5 142 yX5_isIn, .static yX5_isIn, .code yX5_isIn cX5_isIn 3 (some .boolean)] ++ wsX50)
def wsX5_shape_r1 : List Cond := [Cond.methodLink RX5 41 yX5_in, Cond.static yX5_in, Cond.initialized RX5, Cond.code yX5_in cX5_in 3 (some .boolean), Cond.methodLink RX5 107 yX5_bad, Cond.instanceMethod yX5_bad, Cond.selects RX5 yX5_bad yX5_bad, Cond.code yX5_bad cX5_bad 1 (some .int), Cond.fieldLink RX5 16 "StrokeCutsModel" "refused" "[I", Cond.methodLink RX5 134 yX5_sideOf, Cond.instanceMethod yX5_sideOf, Cond.selects RX5 yX5_sideOf yX5_sideOf, Cond.code yX5_sideOf cX5_sideOf 7 (some .long), Cond.methodLink RX5 101 yX5_bestCost, Cond.instanceMethod yX5_bestCost, Cond.selects RX5 yX5_bestCost yX5_bestCost, Cond.code yX5_bestCost cX5_bestCost 1 (some .int), Cond.methodLink RX5 95 yX5_holdsMarks, Cond.instanceMethod yX5_holdsMarks, Cond.selects RX5 yX5_holdsMarks yX5_holdsMarks, Cond.code yX5_holdsMarks cX5_holdsMarks 1 none, Cond.fieldLink RX5 7 "StrokeCutsModel" "st" "[I", Cond.fieldLink RX5 26 "StrokeCutsModel" "held" "[I", Cond.methodLink RX5 48 yX5_bring]
def wsX5_shape_r2 : List Cond := [Cond.static yX5_bring, Cond.code yX5_bring cX5_bring 6 none, Cond.methodLink RX5 92 yX5_leastCost, Cond.instanceMethod yX5_leastCost, Cond.selects RX5 yX5_leastCost yX5_leastCost, Cond.code yX5_leastCost cX5_leastCost 4 (some .int), Cond.fieldLink RX5 29 "StrokeCutsModel" "least" "[I", Cond.constant RX5 79 (1000000), Cond.fieldLink RX5 32 "StrokeCutsModel" "next" "[I", Cond.methodLink RX5 80 yX5_dots, Cond.instanceMethod yX5_dots, Cond.selects RX5 yX5_dots yX5_dots, Cond.code yX5_dots cX5_dots 1 (some .int), Cond.methodLink RX5 84 yX5_goesOn, Cond.instanceMethod yX5_goesOn, Cond.selects RX5 yX5_goesOn yX5_goesOn, Cond.code yX5_goesOn cX5_goesOn 7 none, Cond.methodLink RX5 88 yX5_adds, Cond.instanceMethod yX5_adds, Cond.selects RX5 yX5_adds yX5_adds, Cond.code yX5_adds cX5_adds 8 (some .int), Cond.methodLink RX5 72 yX5_pull, Cond.instanceMethod yX5_pull, Cond.selects RX5 yX5_pull yX5_pull]
def wsX5_shape_r3 : List Cond := [Cond.code yX5_pull cX5_pull 3 (some .int), Cond.methodLink RX5 66 yX5_far, Cond.static yX5_far, Cond.code yX5_far cX5_far 2 (some .int), Cond.methodLink RX5 75 yX5_cutTo, Cond.instanceMethod yX5_cutTo, Cond.selects RX5 yX5_cutTo yX5_cutTo, Cond.code yX5_cutTo cX5_cutTo 6 (some .int), Cond.methodLink RX5 69 yX5_weight, Cond.instanceMethod yX5_weight, Cond.selects RX5 yX5_weight yX5_weight, Cond.code yX5_weight cX5_weight 5 (some .int), Cond.fieldLink RX5 22 "StrokeCutsModel" "strained" "I", Cond.fieldLink RX5 60 "StrokeCutsModel" "strainedTo" "I", Cond.methodLink RX5 63 yX5_over, Cond.instanceMethod yX5_over, Cond.selects RX5 yX5_over yX5_over, Cond.code yX5_over cX5_over 5 (some .int), Cond.methodLink RX5 52 yX5_isDot, Cond.instanceMethod yX5_isDot, Cond.selects RX5 yX5_isDot yX5_isDot, Cond.code yX5_isDot cX5_isDot 3 (some .boolean), Cond.methodLink RX5 56 yX5_numberOf, Cond.instanceMethod yX5_numberOf]
def wsX5_shape_r4 : List Cond := [Cond.selects RX5 yX5_numberOf yX5_numberOf, Cond.code yX5_numberOf cX5_numberOf 3 (some .int), Cond.methodLink RX5 104 yX5_mayBe, Cond.instanceMethod yX5_mayBe, Cond.selects RX5 yX5_mayBe yX5_mayBe, Cond.code yX5_mayBe cX5_mayBe 4 (some .boolean), Cond.methodLink RX5 98 yX5_costWith, Cond.instanceMethod yX5_costWith, Cond.selects RX5 yX5_costWith yX5_costWith, Cond.code yX5_costWith cX5_costWith 5 (some .int), Cond.methodLink RX5 167 yX5_many, Cond.instanceMethod yX5_many, Cond.selects RX5 yX5_many yX5_many, Cond.code yX5_many cX5_many 5 (some .int), Cond.methodLink RX5 142 yX5_isIn, Cond.static yX5_isIn, Cond.code yX5_isIn cX5_isIn 3 (some .boolean), Cond.methodLink RX5 152 yX5_laysPieces, Cond.instanceMethod yX5_laysPieces, Cond.selects RX5 yX5_laysPieces yX5_laysPieces, Cond.code yX5_laysPieces cX5_laysPieces 7 none, Cond.fieldLink RX5 35 "StrokeCutsModel" "piece" "[I", Cond.methodLink RX5 149 yX5_joins, Cond.instanceMethod yX5_joins]
def wsX5_shape_r5 : List Cond := [Cond.selects RX5 yX5_joins yX5_joins, Cond.code yX5_joins cX5_joins 4 (some .boolean), Cond.methodLink RX5 156 yX5_pieces, Cond.instanceMethod yX5_pieces, Cond.selects RX5 yX5_pieces yX5_pieces, Cond.code yX5_pieces cX5_pieces 3 (some .int), Cond.methodLink RX5 171 yX5_holes, Cond.instanceMethod yX5_holes, Cond.selects RX5 yX5_holes yX5_holes, Cond.code yX5_holes cX5_holes 7 (some .int), Cond.methodLink RX5 159 yX5_isBorder, Cond.instanceMethod yX5_isBorder, Cond.selects RX5 yX5_isBorder yX5_isBorder, Cond.code yX5_isBorder cX5_isBorder 4 (some .boolean), Cond.methodLink RX5 174 yX5_edges, Cond.instanceMethod yX5_edges, Cond.selects RX5 yX5_edges yX5_edges, Cond.code yX5_edges cX5_edges 7 (some .int), Cond.methodLink RX5 163 yX5_isOpenAt, Cond.instanceMethod yX5_isOpenAt, Cond.selects RX5 yX5_isOpenAt yX5_isOpenAt, Cond.code yX5_isOpenAt cX5_isOpenAt 5 (some .int), Cond.methodLink RX5 177 yX5_bound, Cond.instanceMethod yX5_bound]
def wsX5_shape_r6 : List Cond := [Cond.selects RX5 yX5_bound yX5_bound, Cond.code yX5_bound cX5_bound 8 (some .int)]
def wsX5_shape : List Cond := .code yX5_shape cX5_shape 4 (some .int) :: ((wsX5_shape_r1 ++ (wsX5_shape_r2 ++ (wsX5_shape_r3 ++ (wsX5_shape_r4 ++ (wsX5_shape_r5 ++ wsX5_shape_r6))))) ++ wsX50)
def wsX5_learnsOnce_r1 : List Cond := [Cond.fieldLink RX5 7 "StrokeCutsModel" "st" "[I", Cond.methodLink RX5 134 yX5_sideOf, Cond.instanceMethod yX5_sideOf, Cond.selects RX5 yX5_sideOf yX5_sideOf, Cond.initialized RX5, Cond.code yX5_sideOf cX5_sideOf 7 (some .long), Cond.methodLink RX5 101 yX5_bestCost, Cond.instanceMethod yX5_bestCost, Cond.selects RX5 yX5_bestCost yX5_bestCost, Cond.code yX5_bestCost cX5_bestCost 1 (some .int), Cond.methodLink RX5 95 yX5_holdsMarks, Cond.instanceMethod yX5_holdsMarks, Cond.selects RX5 yX5_holdsMarks yX5_holdsMarks, Cond.code yX5_holdsMarks cX5_holdsMarks 1 none, Cond.fieldLink RX5 26 "StrokeCutsModel" "held" "[I", Cond.methodLink RX5 48 yX5_bring, Cond.static yX5_bring, Cond.code yX5_bring cX5_bring 6 none, Cond.methodLink RX5 92 yX5_leastCost, Cond.instanceMethod yX5_leastCost, Cond.selects RX5 yX5_leastCost yX5_leastCost, Cond.code yX5_leastCost cX5_leastCost 4 (some .int), Cond.fieldLink RX5 29 "StrokeCutsModel" "least" "[I", Cond.constant RX5 79 (1000000)]
def wsX5_learnsOnce_r2 : List Cond := [Cond.fieldLink RX5 32 "StrokeCutsModel" "next" "[I", Cond.methodLink RX5 80 yX5_dots, Cond.instanceMethod yX5_dots, Cond.selects RX5 yX5_dots yX5_dots, Cond.code yX5_dots cX5_dots 1 (some .int), Cond.methodLink RX5 84 yX5_goesOn, Cond.instanceMethod yX5_goesOn, Cond.selects RX5 yX5_goesOn yX5_goesOn, Cond.code yX5_goesOn cX5_goesOn 7 none, Cond.methodLink RX5 88 yX5_adds, Cond.instanceMethod yX5_adds, Cond.selects RX5 yX5_adds yX5_adds, Cond.code yX5_adds cX5_adds 8 (some .int), Cond.methodLink RX5 72 yX5_pull, Cond.instanceMethod yX5_pull, Cond.selects RX5 yX5_pull yX5_pull, Cond.code yX5_pull cX5_pull 3 (some .int), Cond.methodLink RX5 66 yX5_far, Cond.static yX5_far, Cond.code yX5_far cX5_far 2 (some .int), Cond.methodLink RX5 75 yX5_cutTo, Cond.instanceMethod yX5_cutTo, Cond.selects RX5 yX5_cutTo yX5_cutTo, Cond.code yX5_cutTo cX5_cutTo 6 (some .int)]
def wsX5_learnsOnce_r3 : List Cond := [Cond.methodLink RX5 69 yX5_weight, Cond.instanceMethod yX5_weight, Cond.selects RX5 yX5_weight yX5_weight, Cond.code yX5_weight cX5_weight 5 (some .int), Cond.fieldLink RX5 22 "StrokeCutsModel" "strained" "I", Cond.fieldLink RX5 60 "StrokeCutsModel" "strainedTo" "I", Cond.methodLink RX5 63 yX5_over, Cond.instanceMethod yX5_over, Cond.selects RX5 yX5_over yX5_over, Cond.code yX5_over cX5_over 5 (some .int), Cond.methodLink RX5 52 yX5_isDot, Cond.instanceMethod yX5_isDot, Cond.selects RX5 yX5_isDot yX5_isDot, Cond.code yX5_isDot cX5_isDot 3 (some .boolean), Cond.methodLink RX5 41 yX5_in, Cond.static yX5_in, Cond.code yX5_in cX5_in 3 (some .boolean), Cond.methodLink RX5 56 yX5_numberOf, Cond.instanceMethod yX5_numberOf, Cond.selects RX5 yX5_numberOf yX5_numberOf, Cond.code yX5_numberOf cX5_numberOf 3 (some .int), Cond.methodLink RX5 104 yX5_mayBe, Cond.instanceMethod yX5_mayBe, Cond.selects RX5 yX5_mayBe yX5_mayBe]
def wsX5_learnsOnce_r4 : List Cond := [Cond.code yX5_mayBe cX5_mayBe 4 (some .boolean), Cond.methodLink RX5 98 yX5_costWith, Cond.instanceMethod yX5_costWith, Cond.selects RX5 yX5_costWith yX5_costWith, Cond.code yX5_costWith cX5_costWith 5 (some .int), Cond.methodLink RX5 167 yX5_many, Cond.instanceMethod yX5_many, Cond.selects RX5 yX5_many yX5_many, Cond.code yX5_many cX5_many 5 (some .int), Cond.methodLink RX5 142 yX5_isIn, Cond.static yX5_isIn, Cond.code yX5_isIn cX5_isIn 3 (some .boolean)]
def wsX5_learnsOnce : List Cond := .code yX5_learnsOnce cX5_learnsOnce 9 (some .boolean) :: ((wsX5_learnsOnce_r1 ++ (wsX5_learnsOnce_r2 ++ (wsX5_learnsOnce_r3 ++ wsX5_learnsOnce_r4))) ++ wsX50)
def wsX5_learnsAll_r1 : List Cond := [Cond.methodLink RX5 181 yX5_learnsOnce, Cond.instanceMethod yX5_learnsOnce, Cond.selects RX5 yX5_learnsOnce yX5_learnsOnce, Cond.initialized RX5, Cond.code yX5_learnsOnce cX5_learnsOnce 9 (some .boolean), Cond.fieldLink RX5 7 "StrokeCutsModel" "st" "[I", Cond.methodLink RX5 134 yX5_sideOf, Cond.instanceMethod yX5_sideOf, Cond.selects RX5 yX5_sideOf yX5_sideOf, Cond.code yX5_sideOf cX5_sideOf 7 (some .long), Cond.methodLink RX5 101 yX5_bestCost, Cond.instanceMethod yX5_bestCost, Cond.selects RX5 yX5_bestCost yX5_bestCost, Cond.code yX5_bestCost cX5_bestCost 1 (some .int), Cond.methodLink RX5 95 yX5_holdsMarks, Cond.instanceMethod yX5_holdsMarks, Cond.selects RX5 yX5_holdsMarks yX5_holdsMarks, Cond.code yX5_holdsMarks cX5_holdsMarks 1 none, Cond.fieldLink RX5 26 "StrokeCutsModel" "held" "[I", Cond.methodLink RX5 48 yX5_bring, Cond.static yX5_bring, Cond.code yX5_bring cX5_bring 6 none, Cond.methodLink RX5 92 yX5_leastCost, Cond.instanceMethod yX5_leastCost]
def wsX5_learnsAll_r2 : List Cond := [Cond.selects RX5 yX5_leastCost yX5_leastCost, Cond.code yX5_leastCost cX5_leastCost 4 (some .int), Cond.fieldLink RX5 29 "StrokeCutsModel" "least" "[I", Cond.constant RX5 79 (1000000), Cond.fieldLink RX5 32 "StrokeCutsModel" "next" "[I", Cond.methodLink RX5 80 yX5_dots, Cond.instanceMethod yX5_dots, Cond.selects RX5 yX5_dots yX5_dots, Cond.code yX5_dots cX5_dots 1 (some .int), Cond.methodLink RX5 84 yX5_goesOn, Cond.instanceMethod yX5_goesOn, Cond.selects RX5 yX5_goesOn yX5_goesOn, Cond.code yX5_goesOn cX5_goesOn 7 none, Cond.methodLink RX5 88 yX5_adds, Cond.instanceMethod yX5_adds, Cond.selects RX5 yX5_adds yX5_adds, Cond.code yX5_adds cX5_adds 8 (some .int), Cond.methodLink RX5 72 yX5_pull, Cond.instanceMethod yX5_pull, Cond.selects RX5 yX5_pull yX5_pull, Cond.code yX5_pull cX5_pull 3 (some .int), Cond.methodLink RX5 66 yX5_far, Cond.static yX5_far, Cond.code yX5_far cX5_far 2 (some .int)]
def wsX5_learnsAll_r3 : List Cond := [Cond.methodLink RX5 75 yX5_cutTo, Cond.instanceMethod yX5_cutTo, Cond.selects RX5 yX5_cutTo yX5_cutTo, Cond.code yX5_cutTo cX5_cutTo 6 (some .int), Cond.methodLink RX5 69 yX5_weight, Cond.instanceMethod yX5_weight, Cond.selects RX5 yX5_weight yX5_weight, Cond.code yX5_weight cX5_weight 5 (some .int), Cond.fieldLink RX5 22 "StrokeCutsModel" "strained" "I", Cond.fieldLink RX5 60 "StrokeCutsModel" "strainedTo" "I", Cond.methodLink RX5 63 yX5_over, Cond.instanceMethod yX5_over, Cond.selects RX5 yX5_over yX5_over, Cond.code yX5_over cX5_over 5 (some .int), Cond.methodLink RX5 52 yX5_isDot, Cond.instanceMethod yX5_isDot, Cond.selects RX5 yX5_isDot yX5_isDot, Cond.code yX5_isDot cX5_isDot 3 (some .boolean), Cond.methodLink RX5 41 yX5_in, Cond.static yX5_in, Cond.code yX5_in cX5_in 3 (some .boolean), Cond.methodLink RX5 56 yX5_numberOf, Cond.instanceMethod yX5_numberOf, Cond.selects RX5 yX5_numberOf yX5_numberOf]
def wsX5_learnsAll_r4 : List Cond := [Cond.code yX5_numberOf cX5_numberOf 3 (some .int), Cond.methodLink RX5 104 yX5_mayBe, Cond.instanceMethod yX5_mayBe, Cond.selects RX5 yX5_mayBe yX5_mayBe, Cond.code yX5_mayBe cX5_mayBe 4 (some .boolean), Cond.methodLink RX5 98 yX5_costWith, Cond.instanceMethod yX5_costWith, Cond.selects RX5 yX5_costWith yX5_costWith, Cond.code yX5_costWith cX5_costWith 5 (some .int), Cond.methodLink RX5 167 yX5_many, Cond.instanceMethod yX5_many, Cond.selects RX5 yX5_many yX5_many, Cond.code yX5_many cX5_many 5 (some .int), Cond.methodLink RX5 142 yX5_isIn, Cond.static yX5_isIn, Cond.code yX5_isIn cX5_isIn 3 (some .boolean)]
def wsX5_learnsAll : List Cond := .code yX5_learnsAll cX5_learnsAll 3 (some .int) :: ((wsX5_learnsAll_r1 ++ (wsX5_learnsAll_r2 ++ (wsX5_learnsAll_r3 ++ wsX5_learnsAll_r4))) ++ wsX50)
def wsX5_learns_r1 : List Cond := [Cond.methodLink RX5 41 yX5_in, Cond.static yX5_in, Cond.initialized RX5, Cond.code yX5_in cX5_in 3 (some .boolean), Cond.methodLink RX5 107 yX5_bad, Cond.instanceMethod yX5_bad, Cond.selects RX5 yX5_bad yX5_bad, Cond.code yX5_bad cX5_bad 1 (some .int), Cond.fieldLink RX5 16 "StrokeCutsModel" "refused" "[I", Cond.methodLink RX5 110 yX5_leaves, Cond.instanceMethod yX5_leaves, Cond.selects RX5 yX5_leaves yX5_leaves, Cond.code yX5_leaves cX5_leaves 1 none, Cond.fieldLink RX5 45 "StrokeCutsModel" "states" "I", Cond.fieldLink RX5 13 "StrokeCutsModel" "past" "[I", Cond.fieldLink RX5 7 "StrokeCutsModel" "st" "[I", Cond.methodLink RX5 48 yX5_bring, Cond.static yX5_bring, Cond.code yX5_bring cX5_bring 6 none, Cond.methodLink RX5 185 yX5_learnsAll, Cond.instanceMethod yX5_learnsAll, Cond.selects RX5 yX5_learnsAll yX5_learnsAll, Cond.code yX5_learnsAll cX5_learnsAll 3 (some .int), Cond.methodLink RX5 181 yX5_learnsOnce]
def wsX5_learns_r2 : List Cond := [Cond.instanceMethod yX5_learnsOnce, Cond.selects RX5 yX5_learnsOnce yX5_learnsOnce, Cond.code yX5_learnsOnce cX5_learnsOnce 9 (some .boolean), Cond.methodLink RX5 134 yX5_sideOf, Cond.instanceMethod yX5_sideOf, Cond.selects RX5 yX5_sideOf yX5_sideOf, Cond.code yX5_sideOf cX5_sideOf 7 (some .long), Cond.methodLink RX5 101 yX5_bestCost, Cond.instanceMethod yX5_bestCost, Cond.selects RX5 yX5_bestCost yX5_bestCost, Cond.code yX5_bestCost cX5_bestCost 1 (some .int), Cond.methodLink RX5 95 yX5_holdsMarks, Cond.instanceMethod yX5_holdsMarks, Cond.selects RX5 yX5_holdsMarks yX5_holdsMarks, Cond.code yX5_holdsMarks cX5_holdsMarks 1 none, Cond.fieldLink RX5 26 "StrokeCutsModel" "held" "[I", Cond.methodLink RX5 92 yX5_leastCost, Cond.instanceMethod yX5_leastCost, Cond.selects RX5 yX5_leastCost yX5_leastCost, Cond.code yX5_leastCost cX5_leastCost 4 (some .int), Cond.fieldLink RX5 29 "StrokeCutsModel" "least" "[I", Cond.constant RX5 79 (1000000), Cond.fieldLink RX5 32 "StrokeCutsModel" "next" "[I", Cond.methodLink RX5 80 yX5_dots]
def wsX5_learns_r3 : List Cond := [Cond.instanceMethod yX5_dots, Cond.selects RX5 yX5_dots yX5_dots, Cond.code yX5_dots cX5_dots 1 (some .int), Cond.methodLink RX5 84 yX5_goesOn, Cond.instanceMethod yX5_goesOn, Cond.selects RX5 yX5_goesOn yX5_goesOn, Cond.code yX5_goesOn cX5_goesOn 7 none, Cond.methodLink RX5 88 yX5_adds, Cond.instanceMethod yX5_adds, Cond.selects RX5 yX5_adds yX5_adds, Cond.code yX5_adds cX5_adds 8 (some .int), Cond.methodLink RX5 72 yX5_pull, Cond.instanceMethod yX5_pull, Cond.selects RX5 yX5_pull yX5_pull, Cond.code yX5_pull cX5_pull 3 (some .int), Cond.methodLink RX5 66 yX5_far, Cond.static yX5_far, Cond.code yX5_far cX5_far 2 (some .int), Cond.methodLink RX5 75 yX5_cutTo, Cond.instanceMethod yX5_cutTo, Cond.selects RX5 yX5_cutTo yX5_cutTo, Cond.code yX5_cutTo cX5_cutTo 6 (some .int), Cond.methodLink RX5 69 yX5_weight, Cond.instanceMethod yX5_weight]
def wsX5_learns_r4 : List Cond := [Cond.selects RX5 yX5_weight yX5_weight, Cond.code yX5_weight cX5_weight 5 (some .int), Cond.fieldLink RX5 22 "StrokeCutsModel" "strained" "I", Cond.fieldLink RX5 60 "StrokeCutsModel" "strainedTo" "I", Cond.methodLink RX5 63 yX5_over, Cond.instanceMethod yX5_over, Cond.selects RX5 yX5_over yX5_over, Cond.code yX5_over cX5_over 5 (some .int), Cond.methodLink RX5 52 yX5_isDot, Cond.instanceMethod yX5_isDot, Cond.selects RX5 yX5_isDot yX5_isDot, Cond.code yX5_isDot cX5_isDot 3 (some .boolean), Cond.methodLink RX5 56 yX5_numberOf, Cond.instanceMethod yX5_numberOf, Cond.selects RX5 yX5_numberOf yX5_numberOf, Cond.code yX5_numberOf cX5_numberOf 3 (some .int), Cond.methodLink RX5 104 yX5_mayBe, Cond.instanceMethod yX5_mayBe, Cond.selects RX5 yX5_mayBe yX5_mayBe, Cond.code yX5_mayBe cX5_mayBe 4 (some .boolean), Cond.methodLink RX5 98 yX5_costWith, Cond.instanceMethod yX5_costWith, Cond.selects RX5 yX5_costWith yX5_costWith, Cond.code yX5_costWith cX5_costWith 5 (some .int)]
def wsX5_learns_r5 : List Cond := [Cond.methodLink RX5 167 yX5_many, Cond.instanceMethod yX5_many, Cond.selects RX5 yX5_many yX5_many, Cond.code yX5_many cX5_many 5 (some .int), Cond.methodLink RX5 142 yX5_isIn, Cond.static yX5_isIn, Cond.code yX5_isIn cX5_isIn 3 (some .boolean)]
def wsX5_learns : List Cond := .code yX5_learns cX5_learns 2 (some .int) :: ((wsX5_learns_r1 ++ (wsX5_learns_r2 ++ (wsX5_learns_r3 ++ (wsX5_learns_r4 ++ wsX5_learns_r5)))) ++ wsX50)
def wsX5_keeps_r1 : List Cond := [Cond.fieldLink RX5 7 "StrokeCutsModel" "st" "[I", Cond.methodLink RX5 134 yX5_sideOf, Cond.instanceMethod yX5_sideOf, Cond.selects RX5 yX5_sideOf yX5_sideOf, Cond.initialized RX5, Cond.code yX5_sideOf cX5_sideOf 7 (some .long), Cond.methodLink RX5 101 yX5_bestCost, Cond.instanceMethod yX5_bestCost, Cond.selects RX5 yX5_bestCost yX5_bestCost, Cond.code yX5_bestCost cX5_bestCost 1 (some .int), Cond.methodLink RX5 95 yX5_holdsMarks, Cond.instanceMethod yX5_holdsMarks, Cond.selects RX5 yX5_holdsMarks yX5_holdsMarks, Cond.code yX5_holdsMarks cX5_holdsMarks 1 none, Cond.fieldLink RX5 26 "StrokeCutsModel" "held" "[I", Cond.methodLink RX5 48 yX5_bring, Cond.static yX5_bring, Cond.code yX5_bring cX5_bring 6 none, Cond.methodLink RX5 92 yX5_leastCost, Cond.instanceMethod yX5_leastCost, Cond.selects RX5 yX5_leastCost yX5_leastCost, Cond.code yX5_leastCost cX5_leastCost 4 (some .int), Cond.fieldLink RX5 29 "StrokeCutsModel" "least" "[I", Cond.constant RX5 79 (1000000)]
def wsX5_keeps_r2 : List Cond := [Cond.fieldLink RX5 32 "StrokeCutsModel" "next" "[I", Cond.methodLink RX5 80 yX5_dots, Cond.instanceMethod yX5_dots, Cond.selects RX5 yX5_dots yX5_dots, Cond.code yX5_dots cX5_dots 1 (some .int), Cond.methodLink RX5 84 yX5_goesOn, Cond.instanceMethod yX5_goesOn, Cond.selects RX5 yX5_goesOn yX5_goesOn, Cond.code yX5_goesOn cX5_goesOn 7 none, Cond.methodLink RX5 88 yX5_adds, Cond.instanceMethod yX5_adds, Cond.selects RX5 yX5_adds yX5_adds, Cond.code yX5_adds cX5_adds 8 (some .int), Cond.methodLink RX5 72 yX5_pull, Cond.instanceMethod yX5_pull, Cond.selects RX5 yX5_pull yX5_pull, Cond.code yX5_pull cX5_pull 3 (some .int), Cond.methodLink RX5 66 yX5_far, Cond.static yX5_far, Cond.code yX5_far cX5_far 2 (some .int), Cond.methodLink RX5 75 yX5_cutTo, Cond.instanceMethod yX5_cutTo, Cond.selects RX5 yX5_cutTo yX5_cutTo, Cond.code yX5_cutTo cX5_cutTo 6 (some .int)]
def wsX5_keeps_r3 : List Cond := [Cond.methodLink RX5 69 yX5_weight, Cond.instanceMethod yX5_weight, Cond.selects RX5 yX5_weight yX5_weight, Cond.code yX5_weight cX5_weight 5 (some .int), Cond.fieldLink RX5 22 "StrokeCutsModel" "strained" "I", Cond.fieldLink RX5 60 "StrokeCutsModel" "strainedTo" "I", Cond.methodLink RX5 63 yX5_over, Cond.instanceMethod yX5_over, Cond.selects RX5 yX5_over yX5_over, Cond.code yX5_over cX5_over 5 (some .int), Cond.methodLink RX5 52 yX5_isDot, Cond.instanceMethod yX5_isDot, Cond.selects RX5 yX5_isDot yX5_isDot, Cond.code yX5_isDot cX5_isDot 3 (some .boolean), Cond.methodLink RX5 41 yX5_in, Cond.static yX5_in, Cond.code yX5_in cX5_in 3 (some .boolean), Cond.methodLink RX5 56 yX5_numberOf, Cond.instanceMethod yX5_numberOf, Cond.selects RX5 yX5_numberOf yX5_numberOf, Cond.code yX5_numberOf cX5_numberOf 3 (some .int), Cond.methodLink RX5 104 yX5_mayBe, Cond.instanceMethod yX5_mayBe, Cond.selects RX5 yX5_mayBe yX5_mayBe]
def wsX5_keeps_r4 : List Cond := [Cond.code yX5_mayBe cX5_mayBe 4 (some .boolean), Cond.methodLink RX5 98 yX5_costWith, Cond.instanceMethod yX5_costWith, Cond.selects RX5 yX5_costWith yX5_costWith, Cond.code yX5_costWith cX5_costWith 5 (some .int), Cond.methodLink RX5 110 yX5_leaves, Cond.instanceMethod yX5_leaves, Cond.selects RX5 yX5_leaves yX5_leaves, Cond.code yX5_leaves cX5_leaves 1 none, Cond.fieldLink RX5 45 "StrokeCutsModel" "states" "I", Cond.fieldLink RX5 13 "StrokeCutsModel" "past" "[I", Cond.methodLink RX5 142 yX5_isIn, Cond.static yX5_isIn, Cond.code yX5_isIn cX5_isIn 3 (some .boolean)]
def wsX5_keeps : List Cond := .code yX5_keeps cX5_keeps 5 (some .int) :: ((wsX5_keeps_r1 ++ (wsX5_keeps_r2 ++ (wsX5_keeps_r3 ++ wsX5_keeps_r4))) ++ wsX50)
def wsX5_turns : List Cond := .code yX5_turns cX5_turns 4 (some .int) :: ([.fieldLink RX5 7 "StrokeCutsModel" "st" "[I", .methodLink RX5 110 yX5_leaves, .instanceMethod yX5_leaves, .selects RX5 yX5_leaves yX5_leaves, .initialized RX5, .code yX5_leaves cX5_leaves 1 none, .fieldLink RX5 45 "StrokeCutsModel" "states" "I", .fieldLink RX5 13 "StrokeCutsModel" "past" "[I", .methodLink RX5 48 yX5_bring, .static yX5_bring, .code yX5_bring cX5_bring 6 none, .methodLink RX5 80 yX5_dots, .instanceMethod yX5_dots, .selects RX5 yX5_dots yX5_dots, .code yX5_dots cX5_dots 1 (some .int)] ++ wsX50)
def wsX5_type : List Cond := .code yX5_type cX5_type 2 (some .int) :: ([.fieldLink RX5 189 "StrokeCutsModel" "letters" "I", .fieldLink RX5 19 "StrokeCutsModel" "text" "[I", .methodLink RX5 41 yX5_in, .static yX5_in, .initialized RX5, .code yX5_in cX5_in 3 (some .boolean), .methodLink RX5 107 yX5_bad, .instanceMethod yX5_bad, .selects RX5 yX5_bad yX5_bad, .code yX5_bad cX5_bad 1 (some .int), .fieldLink RX5 16 "StrokeCutsModel" "refused" "[I", .methodLink RX5 192 yX5_full, .instanceMethod yX5_full, .selects RX5 yX5_full yX5_full, .code yX5_full cX5_full 1 (some .int)] ++ wsX50)
def wsX5_clear : List Cond := .code yX5_clear cX5_clear 2 (some .int) :: ([.fieldLink RX5 189 "StrokeCutsModel" "letters" "I"] ++ wsX50)
def wsX5_sign : List Cond := .code yX5_sign cX5_sign 1 (some .int) :: ([.fieldLink RX5 195 "StrokeCutsModel" "at" "I", .fieldLink RX5 189 "StrokeCutsModel" "letters" "I", .fieldLink RX5 19 "StrokeCutsModel" "text" "[I"] ++ wsX50)
def wsX5_reads : List Cond := .code yX5_reads cX5_reads 4 (some .boolean) :: ([.fieldLink RX5 38 "StrokeCutsModel" "figures" "[I", .fieldLink RX5 201 "StrokeCutsModel" "figuresMany" "I", .fieldLink RX5 195 "StrokeCutsModel" "at" "I", .methodLink RX5 198 yX5_sign, .instanceMethod yX5_sign, .selects RX5 yX5_sign yX5_sign, .initialized RX5, .code yX5_sign cX5_sign 1 (some .int), .fieldLink RX5 189 "StrokeCutsModel" "letters" "I", .fieldLink RX5 19 "StrokeCutsModel" "text" "[I", .methodLink RX5 41 yX5_in, .static yX5_in, .code yX5_in cX5_in 3 (some .boolean)] ++ wsX50)
def wsX5_readsDot : List Cond := .code yX5_readsDot cX5_readsDot 1 (some .boolean) :: ([.fieldLink RX5 7 "StrokeCutsModel" "st" "[I", .methodLink RX5 204 yX5_reads, .instanceMethod yX5_reads, .selects RX5 yX5_reads yX5_reads, .initialized RX5, .code yX5_reads cX5_reads 4 (some .boolean), .fieldLink RX5 38 "StrokeCutsModel" "figures" "[I", .fieldLink RX5 201 "StrokeCutsModel" "figuresMany" "I", .fieldLink RX5 195 "StrokeCutsModel" "at" "I", .methodLink RX5 198 yX5_sign, .instanceMethod yX5_sign, .selects RX5 yX5_sign yX5_sign, .code yX5_sign cX5_sign 1 (some .int), .fieldLink RX5 189 "StrokeCutsModel" "letters" "I", .fieldLink RX5 19 "StrokeCutsModel" "text" "[I", .methodLink RX5 41 yX5_in, .static yX5_in, .code yX5_in cX5_in 3 (some .boolean)] ++ wsX50)
def wsX5_readsRest : List Cond := .code yX5_readsRest cX5_readsRest 2 (some .boolean) :: ([.fieldLink RX5 201 "StrokeCutsModel" "figuresMany" "I", .methodLink RX5 204 yX5_reads, .instanceMethod yX5_reads, .selects RX5 yX5_reads yX5_reads, .initialized RX5, .code yX5_reads cX5_reads 4 (some .boolean), .fieldLink RX5 38 "StrokeCutsModel" "figures" "[I", .fieldLink RX5 195 "StrokeCutsModel" "at" "I", .methodLink RX5 198 yX5_sign, .instanceMethod yX5_sign, .selects RX5 yX5_sign yX5_sign, .code yX5_sign cX5_sign 1 (some .int), .fieldLink RX5 189 "StrokeCutsModel" "letters" "I", .fieldLink RX5 19 "StrokeCutsModel" "text" "[I", .methodLink RX5 41 yX5_in, .static yX5_in, .code yX5_in cX5_in 3 (some .boolean), .methodLink RX5 207 yX5_readsDot, .instanceMethod yX5_readsDot, .selects RX5 yX5_readsDot yX5_readsDot, .code yX5_readsDot cX5_readsDot 1 (some .boolean), .fieldLink RX5 7 "StrokeCutsModel" "st" "[I"] ++ wsX50)
def wsX5_isOrder : List Cond := .code yX5_isOrder cX5_isOrder 1 (some .boolean) :: ([])
def wsX5_doesOrder_r1 : List Cond := [Cond.fieldLink RX5 38 "StrokeCutsModel" "figures" "[I", Cond.fieldLink RX5 7 "StrokeCutsModel" "st" "[I", Cond.fieldLink RX5 201 "StrokeCutsModel" "figuresMany" "I", Cond.methodLink RX5 185 yX5_learnsAll, Cond.instanceMethod yX5_learnsAll, Cond.selects RX5 yX5_learnsAll yX5_learnsAll, Cond.initialized RX5, Cond.code yX5_learnsAll cX5_learnsAll 3 (some .int), Cond.methodLink RX5 181 yX5_learnsOnce, Cond.instanceMethod yX5_learnsOnce, Cond.selects RX5 yX5_learnsOnce yX5_learnsOnce, Cond.code yX5_learnsOnce cX5_learnsOnce 9 (some .boolean), Cond.methodLink RX5 134 yX5_sideOf, Cond.instanceMethod yX5_sideOf, Cond.selects RX5 yX5_sideOf yX5_sideOf, Cond.code yX5_sideOf cX5_sideOf 7 (some .long), Cond.methodLink RX5 101 yX5_bestCost, Cond.instanceMethod yX5_bestCost, Cond.selects RX5 yX5_bestCost yX5_bestCost, Cond.code yX5_bestCost cX5_bestCost 1 (some .int), Cond.methodLink RX5 95 yX5_holdsMarks, Cond.instanceMethod yX5_holdsMarks, Cond.selects RX5 yX5_holdsMarks yX5_holdsMarks, Cond.code yX5_holdsMarks cX5_holdsMarks 1 none]
def wsX5_doesOrder_r2 : List Cond := [Cond.fieldLink RX5 26 "StrokeCutsModel" "held" "[I", Cond.methodLink RX5 48 yX5_bring, Cond.static yX5_bring, Cond.code yX5_bring cX5_bring 6 none, Cond.methodLink RX5 92 yX5_leastCost, Cond.instanceMethod yX5_leastCost, Cond.selects RX5 yX5_leastCost yX5_leastCost, Cond.code yX5_leastCost cX5_leastCost 4 (some .int), Cond.fieldLink RX5 29 "StrokeCutsModel" "least" "[I", Cond.constant RX5 79 (1000000), Cond.fieldLink RX5 32 "StrokeCutsModel" "next" "[I", Cond.methodLink RX5 80 yX5_dots, Cond.instanceMethod yX5_dots, Cond.selects RX5 yX5_dots yX5_dots, Cond.code yX5_dots cX5_dots 1 (some .int), Cond.methodLink RX5 84 yX5_goesOn, Cond.instanceMethod yX5_goesOn, Cond.selects RX5 yX5_goesOn yX5_goesOn, Cond.code yX5_goesOn cX5_goesOn 7 none, Cond.methodLink RX5 88 yX5_adds, Cond.instanceMethod yX5_adds, Cond.selects RX5 yX5_adds yX5_adds, Cond.code yX5_adds cX5_adds 8 (some .int), Cond.methodLink RX5 72 yX5_pull]
def wsX5_doesOrder_r3 : List Cond := [Cond.instanceMethod yX5_pull, Cond.selects RX5 yX5_pull yX5_pull, Cond.code yX5_pull cX5_pull 3 (some .int), Cond.methodLink RX5 66 yX5_far, Cond.static yX5_far, Cond.code yX5_far cX5_far 2 (some .int), Cond.methodLink RX5 75 yX5_cutTo, Cond.instanceMethod yX5_cutTo, Cond.selects RX5 yX5_cutTo yX5_cutTo, Cond.code yX5_cutTo cX5_cutTo 6 (some .int), Cond.methodLink RX5 69 yX5_weight, Cond.instanceMethod yX5_weight, Cond.selects RX5 yX5_weight yX5_weight, Cond.code yX5_weight cX5_weight 5 (some .int), Cond.fieldLink RX5 22 "StrokeCutsModel" "strained" "I", Cond.fieldLink RX5 60 "StrokeCutsModel" "strainedTo" "I", Cond.methodLink RX5 63 yX5_over, Cond.instanceMethod yX5_over, Cond.selects RX5 yX5_over yX5_over, Cond.code yX5_over cX5_over 5 (some .int), Cond.methodLink RX5 52 yX5_isDot, Cond.instanceMethod yX5_isDot, Cond.selects RX5 yX5_isDot yX5_isDot, Cond.code yX5_isDot cX5_isDot 3 (some .boolean)]
def wsX5_doesOrder_r4 : List Cond := [Cond.methodLink RX5 41 yX5_in, Cond.static yX5_in, Cond.code yX5_in cX5_in 3 (some .boolean), Cond.methodLink RX5 56 yX5_numberOf, Cond.instanceMethod yX5_numberOf, Cond.selects RX5 yX5_numberOf yX5_numberOf, Cond.code yX5_numberOf cX5_numberOf 3 (some .int), Cond.methodLink RX5 104 yX5_mayBe, Cond.instanceMethod yX5_mayBe, Cond.selects RX5 yX5_mayBe yX5_mayBe, Cond.code yX5_mayBe cX5_mayBe 4 (some .boolean), Cond.methodLink RX5 98 yX5_costWith, Cond.instanceMethod yX5_costWith, Cond.selects RX5 yX5_costWith yX5_costWith, Cond.code yX5_costWith cX5_costWith 5 (some .int), Cond.methodLink RX5 167 yX5_many, Cond.instanceMethod yX5_many, Cond.selects RX5 yX5_many yX5_many, Cond.code yX5_many cX5_many 5 (some .int), Cond.methodLink RX5 142 yX5_isIn, Cond.static yX5_isIn, Cond.code yX5_isIn cX5_isIn 3 (some .boolean), Cond.methodLink RX5 125 yX5_strokes, Cond.instanceMethod yX5_strokes]
def wsX5_doesOrder_r5 : List Cond := [Cond.selects RX5 yX5_strokes yX5_strokes, Cond.code yX5_strokes cX5_strokes 12 (some .int), Cond.methodLink RX5 122 yX5_nearest, Cond.static yX5_nearest, Cond.code yX5_nearest cX5_nearest 4 (some .int)]
def wsX5_doesOrder : List Cond := .code yX5_doesOrder cX5_doesOrder 4 none :: ((wsX5_doesOrder_r1 ++ (wsX5_doesOrder_r2 ++ (wsX5_doesOrder_r3 ++ (wsX5_doesOrder_r4 ++ wsX5_doesOrder_r5)))) ++ wsX50)
def wsX5_goesThrough_r1 : List Cond := [Cond.fieldLink RX5 195 "StrokeCutsModel" "at" "I", Cond.methodLink RX5 198 yX5_sign, Cond.instanceMethod yX5_sign, Cond.selects RX5 yX5_sign yX5_sign, Cond.initialized RX5, Cond.code yX5_sign cX5_sign 1 (some .int), Cond.fieldLink RX5 189 "StrokeCutsModel" "letters" "I", Cond.fieldLink RX5 19 "StrokeCutsModel" "text" "[I", Cond.methodLink RX5 210 yX5_isOrder, Cond.static yX5_isOrder, Cond.code yX5_isOrder cX5_isOrder 1 (some .boolean), Cond.methodLink RX5 213 yX5_readsRest, Cond.instanceMethod yX5_readsRest, Cond.selects RX5 yX5_readsRest yX5_readsRest, Cond.code yX5_readsRest cX5_readsRest 2 (some .boolean), Cond.fieldLink RX5 201 "StrokeCutsModel" "figuresMany" "I", Cond.methodLink RX5 204 yX5_reads, Cond.instanceMethod yX5_reads, Cond.selects RX5 yX5_reads yX5_reads, Cond.code yX5_reads cX5_reads 4 (some .boolean), Cond.fieldLink RX5 38 "StrokeCutsModel" "figures" "[I", Cond.methodLink RX5 41 yX5_in, Cond.static yX5_in, Cond.code yX5_in cX5_in 3 (some .boolean)]
def wsX5_goesThrough_r2 : List Cond := [Cond.methodLink RX5 207 yX5_readsDot, Cond.instanceMethod yX5_readsDot, Cond.selects RX5 yX5_readsDot yX5_readsDot, Cond.code yX5_readsDot cX5_readsDot 1 (some .boolean), Cond.fieldLink RX5 7 "StrokeCutsModel" "st" "[I", Cond.methodLink RX5 216 yX5_doesOrder, Cond.instanceMethod yX5_doesOrder, Cond.selects RX5 yX5_doesOrder yX5_doesOrder, Cond.code yX5_doesOrder cX5_doesOrder 4 none, Cond.methodLink RX5 185 yX5_learnsAll, Cond.instanceMethod yX5_learnsAll, Cond.selects RX5 yX5_learnsAll yX5_learnsAll, Cond.code yX5_learnsAll cX5_learnsAll 3 (some .int), Cond.methodLink RX5 181 yX5_learnsOnce, Cond.instanceMethod yX5_learnsOnce, Cond.selects RX5 yX5_learnsOnce yX5_learnsOnce, Cond.code yX5_learnsOnce cX5_learnsOnce 9 (some .boolean), Cond.methodLink RX5 134 yX5_sideOf, Cond.instanceMethod yX5_sideOf, Cond.selects RX5 yX5_sideOf yX5_sideOf, Cond.code yX5_sideOf cX5_sideOf 7 (some .long), Cond.methodLink RX5 101 yX5_bestCost, Cond.instanceMethod yX5_bestCost, Cond.selects RX5 yX5_bestCost yX5_bestCost]
def wsX5_goesThrough_r3 : List Cond := [Cond.code yX5_bestCost cX5_bestCost 1 (some .int), Cond.methodLink RX5 95 yX5_holdsMarks, Cond.instanceMethod yX5_holdsMarks, Cond.selects RX5 yX5_holdsMarks yX5_holdsMarks, Cond.code yX5_holdsMarks cX5_holdsMarks 1 none, Cond.fieldLink RX5 26 "StrokeCutsModel" "held" "[I", Cond.methodLink RX5 48 yX5_bring, Cond.static yX5_bring, Cond.code yX5_bring cX5_bring 6 none, Cond.methodLink RX5 92 yX5_leastCost, Cond.instanceMethod yX5_leastCost, Cond.selects RX5 yX5_leastCost yX5_leastCost, Cond.code yX5_leastCost cX5_leastCost 4 (some .int), Cond.fieldLink RX5 29 "StrokeCutsModel" "least" "[I", Cond.constant RX5 79 (1000000), Cond.fieldLink RX5 32 "StrokeCutsModel" "next" "[I", Cond.methodLink RX5 80 yX5_dots, Cond.instanceMethod yX5_dots, Cond.selects RX5 yX5_dots yX5_dots, Cond.code yX5_dots cX5_dots 1 (some .int), Cond.methodLink RX5 84 yX5_goesOn, Cond.instanceMethod yX5_goesOn, Cond.selects RX5 yX5_goesOn yX5_goesOn, Cond.code yX5_goesOn cX5_goesOn 7 none]
def wsX5_goesThrough_r4 : List Cond := [Cond.methodLink RX5 88 yX5_adds, Cond.instanceMethod yX5_adds, Cond.selects RX5 yX5_adds yX5_adds, Cond.code yX5_adds cX5_adds 8 (some .int), Cond.methodLink RX5 72 yX5_pull, Cond.instanceMethod yX5_pull, Cond.selects RX5 yX5_pull yX5_pull, Cond.code yX5_pull cX5_pull 3 (some .int), Cond.methodLink RX5 66 yX5_far, Cond.static yX5_far, Cond.code yX5_far cX5_far 2 (some .int), Cond.methodLink RX5 75 yX5_cutTo, Cond.instanceMethod yX5_cutTo, Cond.selects RX5 yX5_cutTo yX5_cutTo, Cond.code yX5_cutTo cX5_cutTo 6 (some .int), Cond.methodLink RX5 69 yX5_weight, Cond.instanceMethod yX5_weight, Cond.selects RX5 yX5_weight yX5_weight, Cond.code yX5_weight cX5_weight 5 (some .int), Cond.fieldLink RX5 22 "StrokeCutsModel" "strained" "I", Cond.fieldLink RX5 60 "StrokeCutsModel" "strainedTo" "I", Cond.methodLink RX5 63 yX5_over, Cond.instanceMethod yX5_over, Cond.selects RX5 yX5_over yX5_over]
def wsX5_goesThrough_r5 : List Cond := [Cond.code yX5_over cX5_over 5 (some .int), Cond.methodLink RX5 52 yX5_isDot, Cond.instanceMethod yX5_isDot, Cond.selects RX5 yX5_isDot yX5_isDot, Cond.code yX5_isDot cX5_isDot 3 (some .boolean), Cond.methodLink RX5 56 yX5_numberOf, Cond.instanceMethod yX5_numberOf, Cond.selects RX5 yX5_numberOf yX5_numberOf, Cond.code yX5_numberOf cX5_numberOf 3 (some .int), Cond.methodLink RX5 104 yX5_mayBe, Cond.instanceMethod yX5_mayBe, Cond.selects RX5 yX5_mayBe yX5_mayBe, Cond.code yX5_mayBe cX5_mayBe 4 (some .boolean), Cond.methodLink RX5 98 yX5_costWith, Cond.instanceMethod yX5_costWith, Cond.selects RX5 yX5_costWith yX5_costWith, Cond.code yX5_costWith cX5_costWith 5 (some .int), Cond.methodLink RX5 167 yX5_many, Cond.instanceMethod yX5_many, Cond.selects RX5 yX5_many yX5_many, Cond.code yX5_many cX5_many 5 (some .int), Cond.methodLink RX5 142 yX5_isIn, Cond.static yX5_isIn, Cond.code yX5_isIn cX5_isIn 3 (some .boolean)]
def wsX5_goesThrough_r6 : List Cond := [Cond.methodLink RX5 125 yX5_strokes, Cond.instanceMethod yX5_strokes, Cond.selects RX5 yX5_strokes yX5_strokes, Cond.code yX5_strokes cX5_strokes 12 (some .int), Cond.methodLink RX5 122 yX5_nearest, Cond.static yX5_nearest, Cond.code yX5_nearest cX5_nearest 4 (some .int)]
def wsX5_goesThrough : List Cond := .code yX5_goesThrough cX5_goesThrough 4 (some .int) :: ((wsX5_goesThrough_r1 ++ (wsX5_goesThrough_r2 ++ (wsX5_goesThrough_r3 ++ (wsX5_goesThrough_r4 ++ (wsX5_goesThrough_r5 ++ wsX5_goesThrough_r6))))) ++ wsX50)
def wsX5_does_r1 : List Cond := [Cond.fieldLink RX5 195 "StrokeCutsModel" "at" "I", Cond.methodLink RX5 220 yX5_goesThrough, Cond.instanceMethod yX5_goesThrough, Cond.selects RX5 yX5_goesThrough yX5_goesThrough, Cond.initialized RX5, Cond.code yX5_goesThrough cX5_goesThrough 4 (some .int), Cond.methodLink RX5 198 yX5_sign, Cond.instanceMethod yX5_sign, Cond.selects RX5 yX5_sign yX5_sign, Cond.code yX5_sign cX5_sign 1 (some .int), Cond.fieldLink RX5 189 "StrokeCutsModel" "letters" "I", Cond.fieldLink RX5 19 "StrokeCutsModel" "text" "[I", Cond.methodLink RX5 210 yX5_isOrder, Cond.static yX5_isOrder, Cond.code yX5_isOrder cX5_isOrder 1 (some .boolean), Cond.methodLink RX5 213 yX5_readsRest, Cond.instanceMethod yX5_readsRest, Cond.selects RX5 yX5_readsRest yX5_readsRest, Cond.code yX5_readsRest cX5_readsRest 2 (some .boolean), Cond.fieldLink RX5 201 "StrokeCutsModel" "figuresMany" "I", Cond.methodLink RX5 204 yX5_reads, Cond.instanceMethod yX5_reads, Cond.selects RX5 yX5_reads yX5_reads, Cond.code yX5_reads cX5_reads 4 (some .boolean)]
def wsX5_does_r2 : List Cond := [Cond.fieldLink RX5 38 "StrokeCutsModel" "figures" "[I", Cond.methodLink RX5 41 yX5_in, Cond.static yX5_in, Cond.code yX5_in cX5_in 3 (some .boolean), Cond.methodLink RX5 207 yX5_readsDot, Cond.instanceMethod yX5_readsDot, Cond.selects RX5 yX5_readsDot yX5_readsDot, Cond.code yX5_readsDot cX5_readsDot 1 (some .boolean), Cond.fieldLink RX5 7 "StrokeCutsModel" "st" "[I", Cond.methodLink RX5 216 yX5_doesOrder, Cond.instanceMethod yX5_doesOrder, Cond.selects RX5 yX5_doesOrder yX5_doesOrder, Cond.code yX5_doesOrder cX5_doesOrder 4 none, Cond.methodLink RX5 185 yX5_learnsAll, Cond.instanceMethod yX5_learnsAll, Cond.selects RX5 yX5_learnsAll yX5_learnsAll, Cond.code yX5_learnsAll cX5_learnsAll 3 (some .int), Cond.methodLink RX5 181 yX5_learnsOnce, Cond.instanceMethod yX5_learnsOnce, Cond.selects RX5 yX5_learnsOnce yX5_learnsOnce, Cond.code yX5_learnsOnce cX5_learnsOnce 9 (some .boolean), Cond.methodLink RX5 134 yX5_sideOf, Cond.instanceMethod yX5_sideOf, Cond.selects RX5 yX5_sideOf yX5_sideOf]
def wsX5_does_r3 : List Cond := [Cond.code yX5_sideOf cX5_sideOf 7 (some .long), Cond.methodLink RX5 101 yX5_bestCost, Cond.instanceMethod yX5_bestCost, Cond.selects RX5 yX5_bestCost yX5_bestCost, Cond.code yX5_bestCost cX5_bestCost 1 (some .int), Cond.methodLink RX5 95 yX5_holdsMarks, Cond.instanceMethod yX5_holdsMarks, Cond.selects RX5 yX5_holdsMarks yX5_holdsMarks, Cond.code yX5_holdsMarks cX5_holdsMarks 1 none, Cond.fieldLink RX5 26 "StrokeCutsModel" "held" "[I", Cond.methodLink RX5 48 yX5_bring, Cond.static yX5_bring, Cond.code yX5_bring cX5_bring 6 none, Cond.methodLink RX5 92 yX5_leastCost, Cond.instanceMethod yX5_leastCost, Cond.selects RX5 yX5_leastCost yX5_leastCost, Cond.code yX5_leastCost cX5_leastCost 4 (some .int), Cond.fieldLink RX5 29 "StrokeCutsModel" "least" "[I", Cond.constant RX5 79 (1000000), Cond.fieldLink RX5 32 "StrokeCutsModel" "next" "[I", Cond.methodLink RX5 80 yX5_dots, Cond.instanceMethod yX5_dots, Cond.selects RX5 yX5_dots yX5_dots, Cond.code yX5_dots cX5_dots 1 (some .int)]
def wsX5_does_r4 : List Cond := [Cond.methodLink RX5 84 yX5_goesOn, Cond.instanceMethod yX5_goesOn, Cond.selects RX5 yX5_goesOn yX5_goesOn, Cond.code yX5_goesOn cX5_goesOn 7 none, Cond.methodLink RX5 88 yX5_adds, Cond.instanceMethod yX5_adds, Cond.selects RX5 yX5_adds yX5_adds, Cond.code yX5_adds cX5_adds 8 (some .int), Cond.methodLink RX5 72 yX5_pull, Cond.instanceMethod yX5_pull, Cond.selects RX5 yX5_pull yX5_pull, Cond.code yX5_pull cX5_pull 3 (some .int), Cond.methodLink RX5 66 yX5_far, Cond.static yX5_far, Cond.code yX5_far cX5_far 2 (some .int), Cond.methodLink RX5 75 yX5_cutTo, Cond.instanceMethod yX5_cutTo, Cond.selects RX5 yX5_cutTo yX5_cutTo, Cond.code yX5_cutTo cX5_cutTo 6 (some .int), Cond.methodLink RX5 69 yX5_weight, Cond.instanceMethod yX5_weight, Cond.selects RX5 yX5_weight yX5_weight, Cond.code yX5_weight cX5_weight 5 (some .int), Cond.fieldLink RX5 22 "StrokeCutsModel" "strained" "I"]
def wsX5_does_r5 : List Cond := [Cond.fieldLink RX5 60 "StrokeCutsModel" "strainedTo" "I", Cond.methodLink RX5 63 yX5_over, Cond.instanceMethod yX5_over, Cond.selects RX5 yX5_over yX5_over, Cond.code yX5_over cX5_over 5 (some .int), Cond.methodLink RX5 52 yX5_isDot, Cond.instanceMethod yX5_isDot, Cond.selects RX5 yX5_isDot yX5_isDot, Cond.code yX5_isDot cX5_isDot 3 (some .boolean), Cond.methodLink RX5 56 yX5_numberOf, Cond.instanceMethod yX5_numberOf, Cond.selects RX5 yX5_numberOf yX5_numberOf, Cond.code yX5_numberOf cX5_numberOf 3 (some .int), Cond.methodLink RX5 104 yX5_mayBe, Cond.instanceMethod yX5_mayBe, Cond.selects RX5 yX5_mayBe yX5_mayBe, Cond.code yX5_mayBe cX5_mayBe 4 (some .boolean), Cond.methodLink RX5 98 yX5_costWith, Cond.instanceMethod yX5_costWith, Cond.selects RX5 yX5_costWith yX5_costWith, Cond.code yX5_costWith cX5_costWith 5 (some .int), Cond.methodLink RX5 167 yX5_many, Cond.instanceMethod yX5_many, Cond.selects RX5 yX5_many yX5_many]
def wsX5_does_r6 : List Cond := [Cond.code yX5_many cX5_many 5 (some .int), Cond.methodLink RX5 142 yX5_isIn, Cond.static yX5_isIn, Cond.code yX5_isIn cX5_isIn 3 (some .boolean), Cond.methodLink RX5 125 yX5_strokes, Cond.instanceMethod yX5_strokes, Cond.selects RX5 yX5_strokes yX5_strokes, Cond.code yX5_strokes cX5_strokes 12 (some .int), Cond.methodLink RX5 122 yX5_nearest, Cond.static yX5_nearest, Cond.code yX5_nearest cX5_nearest 4 (some .int), Cond.methodLink RX5 110 yX5_leaves, Cond.instanceMethod yX5_leaves, Cond.selects RX5 yX5_leaves yX5_leaves, Cond.code yX5_leaves cX5_leaves 1 none, Cond.fieldLink RX5 45 "StrokeCutsModel" "states" "I", Cond.fieldLink RX5 13 "StrokeCutsModel" "past" "[I"]
def wsX5_does : List Cond := .code yX5_does cX5_does 1 (some .int) :: ((wsX5_does_r1 ++ (wsX5_does_r2 ++ (wsX5_does_r3 ++ (wsX5_does_r4 ++ (wsX5_does_r5 ++ wsX5_does_r6))))) ++ wsX50)
def wsX5_back : List Cond := .code yX5_back cX5_back 1 (some .int) :: ([.fieldLink RX5 45 "StrokeCutsModel" "states" "I", .fieldLink RX5 13 "StrokeCutsModel" "past" "[I", .fieldLink RX5 7 "StrokeCutsModel" "st" "[I", .methodLink RX5 146 yX5_no, .instanceMethod yX5_no, .selects RX5 yX5_no yX5_no, .initialized RX5, .code yX5_no cX5_no 1 (some .int), .fieldLink RX5 16 "StrokeCutsModel" "refused" "[I", .methodLink RX5 48 yX5_bring, .static yX5_bring, .code yX5_bring cX5_bring 6 none] ++ wsX50)
def wsX5_tells : List Cond := .code yX5_tells cX5_tells 2 (some .int) :: ([.fieldLink RX5 16 "StrokeCutsModel" "refused" "[I", .fieldLink RX5 7 "StrokeCutsModel" "st" "[I", .fieldLink RX5 189 "StrokeCutsModel" "letters" "I", .fieldLink RX5 45 "StrokeCutsModel" "states" "I"] ++ wsX50)
def wsX5_told : List Cond := .code yX5_told cX5_told 2 (some .int) :: ([.methodLink RX5 41 yX5_in, .static yX5_in, .initialized RX5, .code yX5_in cX5_in 3 (some .boolean), .methodLink RX5 224 yX5_tells, .instanceMethod yX5_tells, .selects RX5 yX5_tells yX5_tells, .code yX5_tells cX5_tells 2 (some .int), .fieldLink RX5 16 "StrokeCutsModel" "refused" "[I", .fieldLink RX5 7 "StrokeCutsModel" "st" "[I", .fieldLink RX5 189 "StrokeCutsModel" "letters" "I", .fieldLink RX5 45 "StrokeCutsModel" "states" "I", .methodLink RX5 107 yX5_bad, .instanceMethod yX5_bad, .selects RX5 yX5_bad yX5_bad, .code yX5_bad cX5_bad 1 (some .int)] ++ wsX50)
def wsX5_digest_r1 : List Cond := [Cond.constantLong RX5 227 (1744), Cond.constantLong RX5 229 (31), Cond.fieldLink RX5 7 "StrokeCutsModel" "st" "[I", Cond.methodLink RX5 224 yX5_tells, Cond.instanceMethod yX5_tells, Cond.selects RX5 yX5_tells yX5_tells, Cond.initialized RX5, Cond.code yX5_tells cX5_tells 2 (some .int), Cond.fieldLink RX5 16 "StrokeCutsModel" "refused" "[I", Cond.fieldLink RX5 189 "StrokeCutsModel" "letters" "I", Cond.fieldLink RX5 45 "StrokeCutsModel" "states" "I", Cond.methodLink RX5 80 yX5_dots, Cond.instanceMethod yX5_dots, Cond.selects RX5 yX5_dots yX5_dots, Cond.code yX5_dots cX5_dots 1 (some .int), Cond.methodLink RX5 101 yX5_bestCost, Cond.instanceMethod yX5_bestCost, Cond.selects RX5 yX5_bestCost yX5_bestCost, Cond.code yX5_bestCost cX5_bestCost 1 (some .int), Cond.methodLink RX5 95 yX5_holdsMarks, Cond.instanceMethod yX5_holdsMarks, Cond.selects RX5 yX5_holdsMarks yX5_holdsMarks, Cond.code yX5_holdsMarks cX5_holdsMarks 1 none, Cond.fieldLink RX5 26 "StrokeCutsModel" "held" "[I"]
def wsX5_digest_r2 : List Cond := [Cond.methodLink RX5 48 yX5_bring, Cond.static yX5_bring, Cond.code yX5_bring cX5_bring 6 none, Cond.methodLink RX5 92 yX5_leastCost, Cond.instanceMethod yX5_leastCost, Cond.selects RX5 yX5_leastCost yX5_leastCost, Cond.code yX5_leastCost cX5_leastCost 4 (some .int), Cond.fieldLink RX5 29 "StrokeCutsModel" "least" "[I", Cond.constant RX5 79 (1000000), Cond.fieldLink RX5 32 "StrokeCutsModel" "next" "[I", Cond.methodLink RX5 84 yX5_goesOn, Cond.instanceMethod yX5_goesOn, Cond.selects RX5 yX5_goesOn yX5_goesOn, Cond.code yX5_goesOn cX5_goesOn 7 none, Cond.methodLink RX5 88 yX5_adds, Cond.instanceMethod yX5_adds, Cond.selects RX5 yX5_adds yX5_adds, Cond.code yX5_adds cX5_adds 8 (some .int), Cond.methodLink RX5 72 yX5_pull, Cond.instanceMethod yX5_pull, Cond.selects RX5 yX5_pull yX5_pull, Cond.code yX5_pull cX5_pull 3 (some .int), Cond.methodLink RX5 66 yX5_far, Cond.static yX5_far]
def wsX5_digest_r3 : List Cond := [Cond.code yX5_far cX5_far 2 (some .int), Cond.methodLink RX5 75 yX5_cutTo, Cond.instanceMethod yX5_cutTo, Cond.selects RX5 yX5_cutTo yX5_cutTo, Cond.code yX5_cutTo cX5_cutTo 6 (some .int), Cond.methodLink RX5 69 yX5_weight, Cond.instanceMethod yX5_weight, Cond.selects RX5 yX5_weight yX5_weight, Cond.code yX5_weight cX5_weight 5 (some .int), Cond.fieldLink RX5 22 "StrokeCutsModel" "strained" "I", Cond.fieldLink RX5 60 "StrokeCutsModel" "strainedTo" "I", Cond.methodLink RX5 63 yX5_over, Cond.instanceMethod yX5_over, Cond.selects RX5 yX5_over yX5_over, Cond.code yX5_over cX5_over 5 (some .int), Cond.methodLink RX5 52 yX5_isDot, Cond.instanceMethod yX5_isDot, Cond.selects RX5 yX5_isDot yX5_isDot, Cond.code yX5_isDot cX5_isDot 3 (some .boolean), Cond.methodLink RX5 41 yX5_in, Cond.static yX5_in, Cond.code yX5_in cX5_in 3 (some .boolean), Cond.methodLink RX5 56 yX5_numberOf, Cond.instanceMethod yX5_numberOf]
def wsX5_digest_r4 : List Cond := [Cond.selects RX5 yX5_numberOf yX5_numberOf, Cond.code yX5_numberOf cX5_numberOf 3 (some .int), Cond.methodLink RX5 134 yX5_sideOf, Cond.instanceMethod yX5_sideOf, Cond.selects RX5 yX5_sideOf yX5_sideOf, Cond.code yX5_sideOf cX5_sideOf 7 (some .long), Cond.methodLink RX5 104 yX5_mayBe, Cond.instanceMethod yX5_mayBe, Cond.selects RX5 yX5_mayBe yX5_mayBe, Cond.code yX5_mayBe cX5_mayBe 4 (some .boolean), Cond.methodLink RX5 98 yX5_costWith, Cond.instanceMethod yX5_costWith, Cond.selects RX5 yX5_costWith yX5_costWith, Cond.code yX5_costWith cX5_costWith 5 (some .int)]
def wsX5_digest : List Cond := .code yX5_digest cX5_digest 4 (some .long) :: ((wsX5_digest_r1 ++ (wsX5_digest_r2 ++ (wsX5_digest_r3 ++ wsX5_digest_r4))) ++ wsX50)
def wsJ9_abs_0f7a4 : List Cond := .code yJ9_abs_0f7a4 cJ9_abs_0f7a4 1 (some .int) :: ([])
def wsJ9_max_7cf53 : List Cond := .code yJ9_max_7cf53 cJ9_max_7cf53 2 (some .int) :: ([])
def wsJ9_min_7cf53 : List Cond := .code yJ9_min_7cf53 cJ9_min_7cf53 2 (some .int) :: ([])
end
section
abbrev vwCl : List vw_C := [(RX0, TX0, 3), (RX1, TX1, 8), (RX2, TX2, 5), (RX3, TX3, 7), (RX4, TX4, 7), (RX5, TX5, 15)]
/-! ===== ints as integers ===== -/
def zI (z : Int) : Int32 := Int32.ofInt z
def zb (z : Int) : Prop := -2147483648 ≤ z ∧ z ≤ 2147483647
theorem zI_add (a b : Int) : zI a + zI b = zI (a + b) := (Int32.ofInt_add a b).symm
theorem zI_sub (a b : Int) : zI a - zI b = zI (a - b) := (Int32.ofInt_sub a b).symm
theorem zI_mul (a b : Int) : zI a * zI b = zI (a * b) := (Int32.ofInt_mul a b).symm
theorem zI_neg (a : Int) : -zI a = zI (-a) := (Int32.ofInt_neg a).symm
theorem zI_toInt {a : Int} (h : zb a) : (zI a).toInt = a := Int32.toInt_ofInt_of_le (by have := h.1; omega) (by have := h.2; omega)
theorem zI_of (x : Int32) : zI x.toInt = x := Int32.ofInt_toInt x
theorem zb_toInt (x : Int32) : zb x.toInt := ⟨by have := x.le_toInt; omega, by have := x.toInt_lt; omega⟩
theorem zI_lt {a b : Int} (ha : zb a) (hb : zb b) : zI a < zI b ↔ a < b := by rw [Int32.lt_iff_toInt_lt, zI_toInt ha, zI_toInt hb]
theorem zI_le {a b : Int} (ha : zb a) (hb : zb b) : zI a ≤ zI b ↔ a ≤ b := by rw [Int32.le_iff_toInt_le, zI_toInt ha, zI_toInt hb]
theorem zI_eq {a b : Int} (ha : zb a) (hb : zb b) : zI a = zI b ↔ a = b := by rw [← Int32.toInt_inj, zI_toInt ha, zI_toInt hb]
theorem zb_0 : zb 0 := ⟨by omega, by omega⟩
theorem zI_0 : zI 0 = 0 := rfl
theorem zI_cl {a : Int} (h0 : 0 ≤ a) (h1 : a ≤ 2147483647) : (zI a).toNatClampNeg = a.toNat := Int32.toNatClampNeg_ofInt_of_le (by omega) (by omega)
theorem zI_n (n : Nat) : nI n = zI n := Int32.ofInt_eq_ofNat.symm
theorem zI_in {a : Int} {n : Nat} (h0 : 0 ≤ a) (h1 : a < n) (hn : n ≤ 2147483647) : vp_in (zI a) n := by
  rw [vp_in_iff, zI_toInt ⟨by omega, by omega⟩]
  exact ⟨h0, h1⟩
/-! ===== memory ===== -/
abbrev Mem : Type := Nat → Nat → Int32
def gt (Ω : Mem) (q k : Nat) : Int := (Ω q k).toInt
def upc (Ω : Mem) (q : Nat) (f : Nat → Int32) : Mem := fun r => if r = q then f else Ω r
def ups (Ω : Mem) (q k : Nat) (v : Int) : Mem := upc Ω q (upd (Ω q) k (zI v))
theorem zb_gt (Ω : Mem) (q k : Nat) : zb (gt Ω q k) := zb_toInt _
theorem zI_gt (Ω : Mem) (q k : Nat) : zI (gt Ω q k) = Ω q k := zI_of _
theorem upc_s (Ω : Mem) (q : Nat) (f : Nat → Int32) : upc Ω q f q = f := by simp [upc]
theorem upc_n (Ω : Mem) {q r : Nat} (f : Nat → Int32) (h : r ≠ q) : upc Ω q f r = Ω r := by simp [upc, h]
theorem upc_upc (Ω : Mem) (q : Nat) (f g : Nat → Int32) : upc (upc Ω q f) q g = upc Ω q g := by
  funext r
  by_cases h : r = q <;> simp [upc, h]
theorem ups_n (Ω : Mem) {q r : Nat} (k : Nat) (v : Int) (h : r ≠ q) : ups Ω q k v r = Ω r := upc_n _ _ h
theorem ups_s (Ω : Mem) (q k : Nat) (v : Int) : ups Ω q k v q k = zI v := by simp [ups, upc, upd]
theorem ups_sn (Ω : Mem) (q : Nat) {k j : Nat} (v : Int) (h : j ≠ k) : ups Ω q k v q j = Ω q j := by simp [ups, upc, upd, h]
theorem gt_n (Ω : Mem) {q r : Nat} (k j : Nat) (v : Int) (h : r ≠ q) : gt (ups Ω q k v) r j = gt Ω r j := by rw [gt, ups_n Ω k v h]; rfl
theorem gt_s (Ω : Mem) (q k : Nat) {v : Int} (h : zb v) : gt (ups Ω q k v) q k = v := by rw [gt, ups_s, zI_toInt h]
theorem gt_sn (Ω : Mem) (q : Nat) {k j : Nat} (v : Int) (h : j ≠ k) : gt (ups Ω q k v) q j = gt Ω q j := by rw [gt, ups_sn Ω q v h]; rfl
theorem gt_if (Ω : Mem) (q k : Nat) {v : Int} (h : zb v) (r j : Nat) : gt (ups Ω q k v) r j = if r = q ∧ j = k then v else gt Ω r j := by
  by_cases h1 : r = q
  · subst h1
    by_cases h2 : j = k
    · subst h2; rw [gt_s Ω r j h]; simp
    · rw [gt_sn Ω r v h2]; simp [h2]
  · rw [gt_n Ω k j v h1]; simp [h1]
/-! ===== the world ===== -/
abbrev zP : Type := va_G × (Nat → Nat) × ClassId × ClassId × (Nat → Nat)
def wa (w : zP) (i : Nat) : Nat := w.2.1 i
def wI (w : zP) : ClassId := w.2.2.1
def wR (w : zP) : ClassId := w.2.2.2.1
def wt (w : zP) (i : Nat) : Nat := w.2.2.2.2 i
def zar (w : zP) (n : Nat) (f : Nat → Int32) : va_E := .inl (wI w, n, .inl f)
def zsc (w : zP) (q : Nat) (f : Nat → Int32) : va_E := .inr (2, [.int (f 0), .int (f 1), .ref (wa w (q + 1)), .ref (wa w (q + 2)), .ref (wa w (q + 3))])
def zl (w : zP) (f : Nat → Int32) : List va_E := [
  .inr (4, [.ref (wa w 13), .ref (wa w 1), .ref (wa w 3), .ref (wa w 10), .int (f 4), .int (f 5), .int (f 6)]),
  .inr (0, [.ref (wa w 2), .int (f 1), .int (f 2)]),
  .inl (wR w, 8, .inr (.inr (.inr (.inr (fun j => some (wa w (17 + 4 * j))))))),
  .inr (1, [.int (f 0), .ref (wa w 4), .ref (wa w 5), .ref (wa w 6), .ref (wa w 7), .ref (wa w 8), .ref (wa w 9), .int (f 7)]),
  zar w 36 f, zar w 36 f, zar w 288 f, zar w 288 f, zar w 36 f, zar w 36 f,
  .inr (3, [.ref (wa w 11), .ref (wa w 12), .int (f 2), .int (f 3), .int (f 4), .int (f 5), .int (f 6)]),
  zar w 100 f, zar w 4 f,
  zsc w 13 f, zar w 6 f, zar w 36 f, zar w 36 f,
  zsc w 17 f, zar w 6 f, zar w 36 f, zar w 36 f,
  zsc w 21 f, zar w 6 f, zar w 36 f, zar w 36 f,
  zsc w 25 f, zar w 6 f, zar w 36 f, zar w 36 f,
  zsc w 29 f, zar w 6 f, zar w 36 f, zar w 36 f,
  zsc w 33 f, zar w 6 f, zar w 36 f, zar w 36 f,
  zsc w 37 f, zar w 6 f, zar w 36 f, zar w 36 f,
  zsc w 41 f, zar w 6 f, zar w 36 f, zar w 36 f,
  zsc w 45 f, zar w 6 f, zar w 36 f, zar w 36 f,
  .inr (5, [.ref (wa w 50), .ref (wa w 51), .int (f 2), .ref (wa w 52), .ref (wa w 53), .int (f 5), .int (f 6), .int (f 7), .ref (wa w 54), .ref (wa w 55), .ref (wa w 56), .ref (wa w 57), .int (f 12), .ref (wa w 58), .int (f 14)]),
  zar w 80 f, zar w 640 f, zar w 3 f, zar w 100 f, zar w 36 f, zar w 128 f, zar w 128 f, zar w 36 f, zar w 4 f]
def zs (w : zP) (f : Nat → Int32) (i : Nat) : va_E := ((zl w f)[i]?).getD (zar w 0 f)
def zW (w : zP) (Ω : Mem) : va_W := (List.range 59).map (fun i => (wa w i, zs w (Ω i) i))
def zA (w : zP) : Nat → Prop := fun a => ∃ i, i < 59 ∧ a = wa w i
def zOK (w : zP) : Prop := ∀ i j, i < 59 → j < 59 → wa w i = wa w j → i = j
def zT (w : zP) : List (ClassId × FieldType) := [(wI w, .int), (wR w, .object "StrokeCuts$Scene")]
theorem zW_at (w : zP) (Ω : Mem) {q : Nat} (h : q < 59) : (zW w Ω)[q]? = some (wa w q, zs w (Ω q) q) := by
  simp [zW, h]
theorem zW_len (w : zP) (Ω : Mem) : (zW w Ω).length = 59 := by simp [zW]
theorem zW_inv {w : zP} {Ω : Mem} {k : Nat} {x : Nat × va_E} (h : (zW w Ω)[k]? = some x) : k < 59 ∧ x = (wa w k, zs w (Ω k) k) := by
  have hk : k < 59 := by
    have := (List.getElem?_eq_some_iff.mp h).1
    rwa [zW_len] at this
  rw [zW_at w Ω hk] at h
  exact ⟨hk, (Option.some.inj h).symm⟩
theorem zW_set (w : zP) (Ω : Mem) (q : Nat) (f : Nat → Int32) : (zW w Ω).set q (wa w q, zs w f q) = zW w (upc Ω q f) := by
  apply List.ext_getElem?
  intro i
  by_cases hi : i < 59
  · rw [zW_at w _ hi]
    by_cases hq : q = i
    · subst hq
      rw [List.getElem?_set_self (by rw [zW_len]; exact hi), upc_s]
    · rw [List.getElem?_set_ne hq, zW_at w Ω hi, upc_n _ _ (Ne.symm hq)]
  · rw [List.getElem?_eq_none (by rw [List.length_set, zW_len]; omega), List.getElem?_eq_none (by rw [zW_len]; omega)]
theorem zD {w : zP} (hw : zOK w) (Ω : Mem) : va_D (zA w) (zW w Ω) := by
  refine ⟨fun i j p q hp hq e => ?_, fun k q hk => ?_⟩
  · obtain ⟨h1, rfl⟩ := zW_inv hp
    obtain ⟨h2, rfl⟩ := zW_inv hq
    exact hw i j h1 h2 e
  · obtain ⟨h1, rfl⟩ := zW_inv hk
    exact ⟨k, h1, rfl⟩
/-! ===== what stays as it is: static arrays, nest mates ===== -/
def zTab (j : Nat) : String := match j with
  | 0 => "LEAST_SETTING"
  | 1 => "GREATEST_SETTING"
  | 2 => "LINK_X"
  | _ => "LINK_Y"
def zTl (j : Nat) : Nat := if j < 2 then 6 else 4
def zTv (j k : Nat) : Int := (([[1, 0, 0, 0, 0, 4], [50, 9, 9, 9, 9, 8], [1, 0, 1, -1], [0, 1, 1, 1]] : List (List Int)).getD j []).getD k 0
def zSt (w : zP) (U : State) (H : Heap) : Prop :=
  (∀ j, j < 4 → va_Z "StrokeCuts" (zTab j) "[I" (.ref (wt w j)) (zA w) U H ∧ va_T .int (wt w j) (zTl j) (fun k => .int (zI (zTv j k))) (zA w) U H) ∧
  (va_Nw (.methodLinkNest RX1 108 yX4_has RX4) U ∧ va_Nw (.methodLinkNest RX2 64 yX4_has RX4) U ∧ va_Nw (.methodLinkNest RX3 55 yX4_isWithin RX4) U) ∧
  va_Nw (.fieldLinkNest RX2 38 RX4 "LINK_X" "[I" RX4) U ∧ va_Nw (.fieldLinkNest RX2 41 RX4 "LINK_Y" "[I" RX4) U
theorem zSt.warm {w : zP} {s U : State} {H H1 : Heap} (hW : s.WarmedH U.vm) (hq : ∀ a : Nat, a < H.size → ¬ zA w a → H1[a]? = H[a]?) (h : zSt w s H) : zSt w U H1 := by
  obtain ⟨h1, ⟨h2, h3, h4⟩, h5, h6⟩ := h
  exact ⟨fun j hj => ⟨((h1 j hj).1.moved hW.alike).kept hq, ((h1 j hj).2.moved hW.alike).kept hq⟩, ⟨h2.warmM hW, h3.warmM hW, h4.warmM hW⟩, h5.warmF hW, h6.warmF hW⟩
theorem zSt.calling {w : zP} {U : State} (g : JFrame) (mk : MethodId) (a : Array Value) (h : zSt w U U.heap) : zSt w (U.calling g mk a) (U.calling g mk a).heap := by
  obtain ⟨h1, ⟨h2, h3, h4⟩, h5, h6⟩ := h
  exact ⟨fun j hj => ⟨(h1 j hj).1.moved (Vm.Alike.refl U.vm), (h1 j hj).2.moved (Vm.Alike.refl U.vm)⟩, ⟨h2.same rfl rfl, h3.same rfl rfl, h4.same rfl rfl⟩, h5.same rfl rfl, h6.same rfl rfl⟩
end
section
/-! ===== contracts, the state of a walk ===== -/
def zQ (w : zP) (Post : Option Value → Mem → Prop) : Array Value → State → Outcome → State → Prop := fun _ st oc t => (∃ (v : Option Value) (Ω' : Mem), oc = .returned v ∧ Post v Ω' ∧ va_P w.1 vwCl (zW w Ω') t.heap) ∧ va_F (zA w) st t
def zM (l : Launch) (w : zP) (y : MethodName) (ws : List Cond) (fr lo : Nat) (Av : List Value) (Ω : Mem) (Post : Option Value → Mem → Prop) : Prop :=
  Met l y ws ({ frames := fr, cells := 0, slots := 0, locals := lo }) (va_Pc Av (fun U => va_P w.1 vwCl (zW w Ω) U.heap ∧ va_K w.1 vwCl (zT w) U ∧ zSt w U U.heap)) (zQ w Post) 0 0 (zA w)
def zi (P : Int → Mem → Prop) : Option Value → Mem → Prop := fun v Ω => ∃ r : Int, v = some (.int (zI r)) ∧ P r Ω
def zlo (P : Int64 → Mem → Prop) : Option Value → Mem → Prop := fun v Ω => ∃ r : Int64, v = some (.long r) ∧ P r Ω
def zvo (P : Mem → Prop) : Option Value → Mem → Prop := fun v Ω => v = none ∧ P Ω
def bI (b : Bool) : Int := if b then 1 else 0
def zbo (P : Bool → Mem → Prop) : Option Value → Mem → Prop := fun v Ω => ∃ b : Bool, v = some (.int (zI (bI b))) ∧ P b Ω
/-- the locals, by their places -/
def zL (ls : Array Slot) (nL : Nat) (lv : List (Option Value)) : Prop := ls.size = nL ∧ lv_wf ls ∧ ∀ (i : Nat) (v : Value), lv[i]? = some (some v) → ls[i]? = some (.val v)
def zpl (lv : List (Option Value)) : List (Nat × Value) := (List.range lv.length).filterMap (fun i => (lv[i]?.join).map (fun v => (i, v)))
theorem zpl_mem {lv : List (Option Value)} {i : Nat} {v : Value} (h : lv[i]? = some (some v)) : (i, v) ∈ zpl lv := by
  refine List.mem_filterMap.mpr ⟨i, List.mem_range.mpr (List.getElem?_eq_some_iff.mp h).1, ?_⟩
  rw [h]; rfl
theorem zpl_inv {lv : List (Option Value)} {q : Nat × Value} (h : q ∈ zpl lv) : lv[q.1]? = some (some q.2) := by
  obtain ⟨i, -, hi⟩ := List.mem_filterMap.mp h
  cases hh : lv[i]? with
  | none => rw [hh] at hi; cases hi
  | some o =>
    cases o with
    | none => rw [hh] at hi; cases hi
    | some v => rw [hh] at hi; cases hi; exact hh
theorem zL.has {ls : Array Slot} {nL : Nat} {lv : List (Option Value)} (h : zL ls nL lv) : lv_has ls nL (zpl lv) := ⟨h.1, h.2.1, fun q hq => h.2.2 q.1 q.2 (zpl_inv hq)⟩
/-- storing: the list behind it -/
def zS (lv : List (Option Value)) (i : Nat) (v : Value) (lv' : List (Option Value)) : Prop := lv' = lv.set i (some v)
theorem zS_0 {a : Option Value} {r : List (Option Value)} {v : Value} : zS (a :: r) 0 v (some v :: r) := rfl
theorem zS_s {a : Option Value} {r r' : List (Option Value)} {i : Nat} {v : Value} (h : zS r i v r') : zS (a :: r) (i + 1) v (a :: r') := by
  rw [zS] at h ⊢; rw [h]; rfl
def zS2 (lv : List (Option Value)) (i : Nat) (v : Value) (lv' : List (Option Value)) : Prop := lv' = (lv.set i (some v)).set (i + 1) none
theorem zS2_0 {a b : Option Value} {r : List (Option Value)} {v : Value} : zS2 (a :: b :: r) 0 v (some v :: none :: r) := rfl
theorem zS2_s {a : Option Value} {r r' : List (Option Value)} {i : Nat} {v : Value} (h : zS2 r i v r') : zS2 (a :: r) (i + 1) v (a :: r') := by
  rw [zS2] at h ⊢; rw [h]; rfl
def zok (lv : List (Option Value)) (i : Nat) : Bool := match i with
  | 0 => true
  | j + 1 => match lv[j]? with
    | some (some x) => x.category == 1
    | _ => true
theorem zok_spec {lv : List (Option Value)} {i : Nat} (h : zok lv i = true) {j : Nat} {x : Value} (hj : lv[j]? = some (some x)) (e : j + 1 = i) : ¬ x.category = 2 := by
  subst e
  simp only [zok, hj, beq_iff_eq] at h
  omega
theorem zL.of1 {ls' : Array Slot} {nL : Nat} {lv lv' : List (Option Value)} {i : Nat} {v : Value} (h : lv_has ls' nL ((i, v) :: (zpl lv).filter (fun q => !(q.1 == i) && !(q.1 + 1 == i && q.2.category == 2)))) (hk : zok lv i = true) (hs : zS lv i v lv') : zL ls' nL lv' := by
  obtain ⟨h2, h3, h4⟩ := h
  refine ⟨h2, h3, fun j x hj => ?_⟩
  rw [hs] at hj
  by_cases e : j = i
  · subst e
    have hlt : j < lv.length := by
      have := (List.getElem?_eq_some_iff.mp hj).1
      rwa [List.length_set] at this
    rw [List.getElem?_set_self hlt] at hj
    cases hj
    exact h4 (j, v) List.mem_cons_self
  · rw [List.getElem?_set_ne (Ne.symm e)] at hj
    refine h4 (j, x) (List.mem_cons_of_mem _ (List.mem_filter.mpr ⟨zpl_mem hj, ?_⟩))
    have h5 : (j == i) = false := by simpa using e
    by_cases e2 : j + 1 = i
    · have h6 := zok_spec hk hj e2
      have h7 : (x.category == 2) = false := by simpa using h6
      simp [h5, h7]
    · have h6 : (j + 1 == i) = false := by simpa using e2
      simp [h5, h6]
theorem zL.of2 {ls' : Array Slot} {nL : Nat} {lv lv' : List (Option Value)} {i : Nat} {v : Value} (h : lv_has ls' nL ((i, v) :: (zpl lv).filter (fun q => !(q.1 == i) && (!(q.1 == i + 1) && !(q.1 + 1 == i && q.2.category == 2))))) (hk : zok lv i = true) (hs : zS2 lv i v lv') : zL ls' nL lv' := by
  obtain ⟨h2, h3, h4⟩ := h
  refine ⟨h2, h3, fun j x hj => ?_⟩
  rw [hs] at hj
  by_cases e1 : j = i + 1
  · subst e1
    have hlt : i + 1 < (lv.set i (some v)).length := by
      have := (List.getElem?_eq_some_iff.mp hj).1
      rwa [List.length_set] at this
    rw [List.getElem?_set_self hlt] at hj
    cases hj
  · rw [List.getElem?_set_ne (Ne.symm e1)] at hj
    by_cases e : j = i
    · subst e
      have hlt : j < lv.length := by
        have := (List.getElem?_eq_some_iff.mp hj).1
        rwa [List.length_set] at this
      rw [List.getElem?_set_self hlt] at hj
      cases hj
      exact h4 (j, v) List.mem_cons_self
    · rw [List.getElem?_set_ne (Ne.symm e)] at hj
      refine h4 (j, x) (List.mem_cons_of_mem _ (List.mem_filter.mpr ⟨zpl_mem hj, ?_⟩))
      have h5 : (j == i) = false := by simpa using e
      have h8 : (j == i + 1) = false := by simpa using e1
      by_cases e2 : j + 1 = i
      · have h6 := zok_spec hk hj e2
        have h7 : (x.category == 2) = false := by simpa using h6
        simp [h5, h7, h8]
      · have h6 : (j + 1 == i) = false := by simpa using e2
        simp [h5, h6, h8]
/-- fewer known locals -/
def zle : List (Option Value) → List (Option Value) → Prop
  | [], _ => True
  | none :: a, _ :: b => zle a b
  | some v :: a, x :: b => x = some v ∧ zle a b
  | none :: a, [] => zle a []
  | some _ :: _, [] => False
theorem zle_at : ∀ {a b : List (Option Value)}, zle a b → ∀ (i : Nat) (v : Value), a[i]? = some (some v) → b[i]? = some (some v)
  | [], _, _, i, v, h => by simp at h
  | none :: a, y :: b, hz, 0, v, h => by simp at h
  | none :: a, y :: b, hz, i + 1, v, h => by
    rw [List.getElem?_cons_succ] at h ⊢
    exact zle_at (show zle a b from hz) i v h
  | some x :: a, y :: b, hz, 0, v, h => by
    rw [List.getElem?_cons_zero] at h ⊢
    rw [hz.1]; exact h
  | some x :: a, y :: b, hz, i + 1, v, h => by
    rw [List.getElem?_cons_succ] at h ⊢
    exact zle_at hz.2 i v h
  | none :: a, [], hz, 0, v, h => by simp at h
  | none :: a, [], hz, i + 1, v, h => by
    rw [List.getElem?_cons_succ] at h
    have := zle_at (show zle a [] from hz) i v h
    simp at this
  | some x :: a, [], hz, i, v, h => hz.elim
theorem zL.le {ls : Array Slot} {nL : Nat} {lv lv' : List (Option Value)} (h : zL ls nL lv) (hz : zle lv' lv) : zL ls nL lv' := ⟨h.1, h.2.1, fun i v hv => h.2.2 i v (zle_at hz i v hv)⟩
/-- the locals at a method's entry -/
def zen : List Value → List (Option Value)
  | [] => []
  | v :: r => if v.category = 2 then some v :: none :: zen r else some v :: zen r
theorem zen_args : ∀ (vs : List Value) (b i : Nat) (v : Value), (zen vs)[i]? = some (some v) → (b + i, v) ∈ lv_args b vs
  | [], b, i, v, h => by simp [zen] at h
  | x :: vs, b, i, v, h => by
    by_cases hc : x.category = 2
    · simp only [zen, hc, if_true] at h
      simp only [lv_args, hc, if_true]
      match i, h with
      | 0, h => rw [List.getElem?_cons_zero] at h; cases h; exact List.mem_cons_self
      | 1, h => simp at h
      | i + 2, h =>
        have := zen_args vs (b + 2) i v (by simpa using h)
        rw [show b + (i + 2) = b + 2 + i by omega]
        exact List.mem_cons_of_mem _ this
    · simp only [zen, hc, if_false] at h
      simp only [lv_args, hc, if_false]
      match i, h with
      | 0, h => rw [List.getElem?_cons_zero] at h; cases h; exact List.mem_cons_self
      | i + 1, h =>
        have := zen_args vs (b + 1) i v (by simpa using h)
        rw [show b + (i + 1) = b + 1 + i by omega]
        exact List.mem_cons_of_mem _ this
theorem zL.entry (vs : List Value) {n : Nat} (h : (lg_sl vs).length ≤ n) : zL ((lg_sl vs ++ List.replicate (n - (lg_sl vs).length) Slot.unset).toArray) n (zen vs ++ List.replicate (n - (zen vs).length) none) := by
  obtain ⟨h1, h2, h3⟩ := lv_entry vs h
  refine ⟨h1, h2, fun i v hv => ?_⟩
  by_cases hi : i < (zen vs).length
  · rw [List.getElem?_append_left hi] at hv
    have := h3 _ (zen_args vs 0 i v hv)
    simpa using this
  · rw [List.getElem?_append_right (by omega)] at hv
    have := List.eq_of_mem_replicate (List.mem_of_getElem? hv)
    cases this
/-! the fixed things of a walk, in one -/
abbrev zE : Type := Program × Launch × Env × Room × State × MethodId × Array Value × List Frame × Method × Code × zP × Nat × (State → Prop)
def e_p (E : zE) : Program := E.1
def e_l (E : zE) : Launch := E.2.1
def e_e (E : zE) : Env := E.2.2.1
def e_R (E : zE) : Room := E.2.2.2.1
def e_s (E : zE) : State := E.2.2.2.2.1
def e_m (E : zE) : MethodId := E.2.2.2.2.2.1
def e_a (E : zE) : Array Value := E.2.2.2.2.2.2.1
def e_b (E : zE) : List Frame := E.2.2.2.2.2.2.2.1
def e_me (E : zE) : Method := E.2.2.2.2.2.2.2.2.1
def e_c (E : zE) : Code := E.2.2.2.2.2.2.2.2.2.1
def e_w (E : zE) : zP := E.2.2.2.2.2.2.2.2.2.2.1
def e_n (E : zE) : Nat := E.2.2.2.2.2.2.2.2.2.2.2.1
def e_Q (E : zE) : State → Prop := E.2.2.2.2.2.2.2.2.2.2.2.2
def zV (E : zE) (H : Heap) (locs : List Loc) (g : JFrame) : Prop := W (e_p E) (e_l E) (e_e E) (e_R E) (e_s E) (e_m E) (e_a E) (e_b E) (e_me E) (e_c E) H locs 0 0 (e_Q E) g
def X (E : zE) (Ω : Mem) (pc : Nat) (lv : List (Option Value)) (st : List Value) : Prop :=
  ∀ (H : Heap) (locs : List Loc) (ls : Array Slot), va_P (e_w E).1 vwCl (zW (e_w E) Ω) H → va_S (zA (e_w E)) (e_s E).heap H locs → zL ls (e_n E) lv → W (e_p E) (e_l E) (e_e E) (e_R E) (e_s E) (e_m E) (e_a E) (e_b E) (e_me E) (e_c E) H locs 0 0 (e_Q E) (F0 (e_m E) pc ls st)
def zC (E : zE) (w : zP) (l : Launch) (own : String) (ws : List Cond) (cc : ByteArray) (nL fr lo : Nat) (ret : Option FieldType) (Post : Option Value → Mem → Prop) : Prop :=
  (e_p E).tables.exec = Jvm.exec ∧ (e_c E).code = cc ∧ (e_c E).maxLocals = nL ∧ (e_s E).vm.findClass own = some (e_m E).cls ∧ (∀ x ∈ ws, x.before (e_a E) (e_s E) = true) ∧ va_K w.1 vwCl (zT w) (e_s E) ∧ (e_me E).locks = false ∧ zOK w ∧ zSt w (e_s E) (e_s E).heap ∧ e_R E = { frames := fr, cells := 0, slots := 0, locals := lo } ∧ (e_me E).sig.returnType = ret ∧ e_Q E = MQ (e_b E) (zQ w Post) (e_a E) (e_s E) 0 0 (zA w) ∧ e_w E = w ∧ e_l E = l ∧ e_n E = nL
theorem zM_of {l : Launch} {w : zP} {y : MethodName} {ws ws' : List Cond} {fr lo : Nat} {Av : List Value} {Ω : Mem} {Post : Option Value → Mem → Prop} (cc : ByteArray) (nL : Nat) (ret : Option FieldType) (own : String) (lv : List (Option Value)) (hw : zOK w) (hy : plainName y.cls = true) (hws : ws = Cond.code y cc nL ret :: ws') (hcls : y.cls = own) (hlen : (lg_sl Av).length ≤ nL) (hlv : zen Av ++ List.replicate (nL - (zen Av).length) none = lv)
    (body : ∀ E : zE, zC E w l own ws cc nL fr lo ret Post → X E Ω 0 lv []) : zM l w y ws fr lo Av Ω Post := by
  refine Met.ofW (cc := cc) (maxL := nL) (ret := ret) hy hws ?_
  intro p e s m args below meth c s₁ B hml hv
  obtain ⟨rfl, hP, hK, hSt⟩ := hv
  have hk := body (p, l, e, _, s, m, Av.toArray, below, meth, c, w, nL, MQ below (zQ w Post) Av.toArray s 0 0 (zA w)) ⟨B.exec, B.bytes, hml, by rw [← hcls]; exact findClass_of_methodNamed B.named, atoms_spec (ws := ws) B.pre, hK, B.notSynchronized, hw, hSt, rfl, B.returns, rfl, rfl, rfl, rfl⟩
  rw [lg_entry_eq]
  rw [← hlv] at hk
  exact hk s.heap [] _ hP va_S.rf (zL.entry Av hlen)
theorem z_le {E : zE} {Ω : Mem} {pc : Nat} {lv : List (Option Value)} {st : List Value} (lv' : List (Option Value)) (hz : zle lv' lv) (k : X E Ω pc lv' st) : X E Ω pc lv st := fun H locs ls hP hS hl => k H locs ls hP hS (hl.le hz)
theorem z_mem {E : zE} {Ω Ω' : Mem} {pc : Nat} {lv : List (Option Value)} {st : List Value} (h : Ω = Ω') (k : X E Ω' pc lv st) : X E Ω pc lv st := h ▸ k
theorem z_st {E : zE} {Ω : Mem} {pc : Nat} {lv : List (Option Value)} {st st' : List Value} (h : st = st') (k : X E Ω pc lv st') : X E Ω pc lv st := h ▸ k
theorem zi_k {E : zE} {P : Int → Mem → Prop} {pc : Nat} {lv : List (Option Value)} {rest : List Value} (k : ∀ (r : Int) (Ω1 : Mem), P r Ω1 → X E Ω1 pc lv (.int (zI r) :: rest)) : ∀ (v : Option Value) (Ω1 : Mem), zi P v Ω1 → X E Ω1 pc lv (v.toList ++ rest) := by
  rintro v Ω1 ⟨r, rfl, h⟩
  exact k r Ω1 h
theorem zl_k {E : zE} {P : Int64 → Mem → Prop} {pc : Nat} {lv : List (Option Value)} {rest : List Value} (k : ∀ (r : Int64) (Ω1 : Mem), P r Ω1 → X E Ω1 pc lv (.long r :: rest)) : ∀ (v : Option Value) (Ω1 : Mem), zlo P v Ω1 → X E Ω1 pc lv (v.toList ++ rest) := by
  rintro v Ω1 ⟨r, rfl, h⟩
  exact k r Ω1 h
theorem zv_k {E : zE} {P : Mem → Prop} {pc : Nat} {lv : List (Option Value)} {rest : List Value} (k : ∀ (Ω1 : Mem), P Ω1 → X E Ω1 pc lv rest) : ∀ (v : Option Value) (Ω1 : Mem), zvo P v Ω1 → X E Ω1 pc lv (v.toList ++ rest) := by
  rintro v Ω1 ⟨rfl, h⟩
  exact k Ω1 h
theorem zb_k {E : zE} {P : Bool → Mem → Prop} {pc : Nat} {lv : List (Option Value)} {rest : List Value} (k : ∀ (b : Bool) (Ω1 : Mem), P b Ω1 → X E Ω1 pc lv (.int (zI (bI b)) :: rest)) : ∀ (v : Option Value) (Ω1 : Mem), zbo P v Ω1 → X E Ω1 pc lv (v.toList ++ rest) := by
  rintro v Ω1 ⟨r, rfl, h⟩
  exact k r Ω1 h
end
section
theorem zI_ne0 {b : Int} (hb : zb b) (h : 0 < b) : ¬ zI b = 0 := fun e => by
  rw [← zI_0, zI_eq hb zb_0] at e
  omega
theorem zI_div {a b : Int} (ha : zb a) (hb : zb b) (h : 0 < b) : zI a / zI b = zI (Int.tdiv a b) := by
  have h1 : zI b ≠ -1 := fun e => by
    rw [show (-1 : Int32) = zI (-1) from rfl, zI_eq hb ⟨by omega, by omega⟩] at e
    omega
  rw [← Int32.toInt_inj, Int32.toInt_div_of_ne_right _ _ h1, zI_toInt ha, zI_toInt hb, zI_toInt]
  have h2 : (Int.tdiv a b).natAbs ≤ a.natAbs := by
    rw [Int.natAbs_tdiv]
    exact Nat.div_le_self _ _
  have h3 := ha.1
  have h4 := ha.2
  by_cases h5 : 0 ≤ a
  · have := Int.tdiv_nonneg h5 (by omega : 0 ≤ b)
    exact ⟨by omega, by omega⟩
  · exact ⟨by omega, by
      have h6 : Int.tdiv a b = -(Int.tdiv (-a) b) := by rw [Int.neg_tdiv]; omega
      have h7 := Int.tdiv_nonneg (by omega : 0 ≤ -a) (by omega : 0 ≤ b)
      omega⟩
theorem zI_rem {a b : Int} (ha : zb a) (hb : zb b) (h : 0 < b) : zI a - zI a / zI b * zI b = zI (Int.tmod a b) := by
  rw [zI_div ha hb h, zI_mul, zI_sub]
  congr 1
  have := Int.tmod_add_mul_tdiv a b
  rw [Int.mul_comm (Int.tdiv a b) b]
  omega
def zcmp (x y : Int64) : Int := if y < x then 1 else if x = y then 0 else -1
theorem zcmp_eq (x y : Int64) : lg_cmp x y = zI (zcmp x y) := by
  unfold lg_cmp zcmp
  by_cases h1 : y < x
  · rw [if_pos h1, if_pos (show x > y from h1)]; rfl
  · by_cases h2 : x = y
    · subst h2; rw [if_neg (show ¬ x > x from h1)]; simp; rfl
    · rw [if_neg (show ¬ x > y from h1), if_neg h2, if_neg h1, if_neg h2]; rfl
theorem zcmp_zb (x y : Int64) : zb (zcmp x y) := by
  unfold zcmp
  split
  · exact ⟨by omega, by omega⟩
  · split
    · exact ⟨by omega, by omega⟩
    · exact ⟨by omega, by omega⟩
theorem bI_zb (b : Bool) : zb (bI b) := by cases b <;> exact ⟨by decide, by decide⟩
theorem zc_eq {a b : Int} (ha : zb a) (hb : zb b) (h : zI a = zI b) : a = b := (zI_eq ha hb).mp h
theorem zn_eq {a b : Int} (ha : zb a) (hb : zb b) (h : ¬ zI a = zI b) : a ≠ b := fun e => h ((zI_eq ha hb).mpr e)
theorem zc_ne {a b : Int} (ha : zb a) (hb : zb b) (h : ¬ zI a = zI b) : a ≠ b := zn_eq ha hb h
theorem zn_ne {a b : Int} (ha : zb a) (hb : zb b) (h : zI a = zI b) : a = b := (zI_eq ha hb).mp h
theorem zc_lt {a b : Int} (ha : zb a) (hb : zb b) (h : zI a < zI b) : a < b := (zI_lt ha hb).mp h
theorem zn_lt {a b : Int} (ha : zb a) (hb : zb b) (h : ¬ zI a < zI b) : b ≤ a := Int.not_lt.mp fun e => h ((zI_lt ha hb).mpr e)
theorem zc_ge {a b : Int} (ha : zb a) (hb : zb b) (h : zI b ≤ zI a) : b ≤ a := (zI_le hb ha).mp h
theorem zn_ge {a b : Int} (ha : zb a) (hb : zb b) (h : ¬ zI b ≤ zI a) : a < b := Int.not_le.mp fun e => h ((zI_le hb ha).mpr e)
theorem zc_gt {a b : Int} (ha : zb a) (hb : zb b) (h : zI b < zI a) : b < a := (zI_lt hb ha).mp h
theorem zn_gt {a b : Int} (ha : zb a) (hb : zb b) (h : ¬ zI b < zI a) : a ≤ b := Int.not_lt.mp fun e => h ((zI_lt hb ha).mpr e)
theorem zc_le {a b : Int} (ha : zb a) (hb : zb b) (h : zI a ≤ zI b) : a ≤ b := (zI_le ha hb).mp h
theorem zn_le {a b : Int} (ha : zb a) (hb : zb b) (h : ¬ zI a ≤ zI b) : b < a := Int.not_le.mp fun e => h ((zI_le ha hb).mpr e)
section ZOPS
variable {E : zE} {w : zP} {l : Launch} {own : String} {ws : List Cond} {cc : ByteArray} {nL fr lo : Nat} {ret : Option FieldType} {Post : Option Value → Mem → Prop} {Ω : Mem} {pc : Nat} {lv lv' : List (Option Value)} {st : List Value}
theorem z_iconst (hC : zC E w l own ws cc nL fr lo ret Post) {n : Int} (hdg : decode cc pc = .ok (.iconst n, 1)) (k : X E Ω (pc + 1) lv (.int (zI n) :: st)) : X E Ω pc lv st := by
  obtain ⟨hx, hb, hml, hown, hts, hK, hlk, hok, hsta, hR, hret, hQ, rfl, rfl, rfl⟩ := hC
  intro H locs ls hP hS hl
  exact lv_iconst hx hb hdg rfl (k H locs ls hP hS hl)
theorem z_bipush (hC : zC E w l own ws cc nL fr lo ret Post) {n : Int} (hdg : decode cc pc = .ok (.bipush n, 2)) (hv : (Int8.ofInt n).toInt32 = zI n) (k : X E Ω (pc + 2) lv (.int (zI n) :: st)) : X E Ω pc lv st := by
  obtain ⟨hx, hb, hml, hown, hts, hK, hlk, hok, hsta, hR, hret, hQ, rfl, rfl, rfl⟩ := hC
  intro H locs ls hP hS hl
  exact lv_bipush hx hb hdg hv (k H locs ls hP hS hl)
theorem z_sipush (hC : zC E w l own ws cc nL fr lo ret Post) {n : Int} (hdg : decode cc pc = .ok (.sipush n, 3)) (hv : (Int16.ofInt n).toInt32 = zI n) (k : X E Ω (pc + 3) lv (.int (zI n) :: st)) : X E Ω pc lv st := by
  obtain ⟨hx, hb, hml, hown, hts, hK, hlk, hok, hsta, hR, hret, hQ, rfl, rfl, rfl⟩ := hC
  intro H locs ls hP hS hl
  exact lv_sipush hx hb hdg hv (k H locs ls hP hS hl)
theorem z_lconst (hC : zC E w l own ws cc nL fr lo ret Post) {n : Fin 2} {v : Int64} (hdg : decode cc pc = .ok (.lconst n, 1)) (hv : Int64.ofNat (n : Nat) = v) (k : X E Ω (pc + 1) lv (.long v :: st)) : X E Ω pc lv st := by
  obtain ⟨hx, hb, hml, hown, hts, hK, hlk, hok, hsta, hR, hret, hQ, rfl, rfl, rfl⟩ := hC
  intro H locs ls hP hS hl
  exact lv_lconst hx hb hdg hv (k H locs ls hP hS hl)
theorem z_ldc (hC : zC E w l own ws cc nL fr lo ret Post) {idx : Nat} {v : Int32} {n : Int} (hm : Cond.constant own idx v ∈ ws) (hv : v = zI n) (hdg : decode cc pc = .ok (.ldc idx, 2)) (k : X E Ω (pc + 2) lv (.int (zI n) :: st)) : X E Ω pc lv st := by
  obtain ⟨hx, hb, hml, hown, hts, hK, hlk, hok, hsta, hR, hret, hQ, rfl, rfl, rfl⟩ := hC
  intro H locs ls hP hS hl
  subst hv
  exact lv_ldc hx hb hown (hts _ hm) hdg (k H locs ls hP hS hl)
theorem z_ldc2 (hC : zC E w l own ws cc nL fr lo ret Post) {idx : Nat} {v : Int64} (hm : Cond.constantLong own idx v ∈ ws) (hdg : decode cc pc = .ok (.ldc2_w idx, 3)) (k : X E Ω (pc + 3) lv (.long v :: st)) : X E Ω pc lv st := by
  obtain ⟨hx, hb, hml, hown, hts, hK, hlk, hok, hsta, hR, hret, hQ, rfl, rfl, rfl⟩ := hC
  intro H locs ls hP hS hl
  exact lv_ldc2 hx hb hown (hts _ hm) hdg (k H locs ls hP hS hl)
theorem z_iload_n (hC : zC E w l own ws cc nL fr lo ret Post) {i : Nat} {j : Fin 4} {x : Int32} (hdg : decode cc pc = .ok (.iload_n j, 1)) (hi : (j : Nat) = i) (hl0 : lv[i]? = some (some (.int x))) (k : X E Ω (pc + 1) lv (.int x :: st)) : X E Ω pc lv st := by
  obtain ⟨hx, hb, hml, hown, hts, hK, hlk, hok, hsta, hR, hret, hQ, rfl, rfl, rfl⟩ := hC
  intro H locs ls hP hS hl
  exact lv_iload_n hx hb hdg hi (hl.2.2 i _ hl0) (k H locs ls hP hS hl)
theorem z_iload (hC : zC E w l own ws cc nL fr lo ret Post) {i : Nat} {x : Int32} (hdg : decode cc pc = .ok (.iload i, 2)) (hl0 : lv[i]? = some (some (.int x))) (k : X E Ω (pc + 2) lv (.int x :: st)) : X E Ω pc lv st := by
  obtain ⟨hx, hb, hml, hown, hts, hK, hlk, hok, hsta, hR, hret, hQ, rfl, rfl, rfl⟩ := hC
  intro H locs ls hP hS hl
  exact lv_iload hx hb hdg (hl.2.2 i _ hl0) (k H locs ls hP hS hl)
theorem z_lload_n (hC : zC E w l own ws cc nL fr lo ret Post) {i : Nat} {j : Fin 4} {x : Int64} (hdg : decode cc pc = .ok (.lload_n j, 1)) (hi : (j : Nat) = i) (hl0 : lv[i]? = some (some (.long x))) (k : X E Ω (pc + 1) lv (.long x :: st)) : X E Ω pc lv st := by
  obtain ⟨hx, hb, hml, hown, hts, hK, hlk, hok, hsta, hR, hret, hQ, rfl, rfl, rfl⟩ := hC
  intro H locs ls hP hS hl
  exact lv_lload_n hx hb hdg hi (hl.2.2 i _ hl0) (k H locs ls hP hS hl)
theorem z_lload (hC : zC E w l own ws cc nL fr lo ret Post) {i : Nat} {x : Int64} (hdg : decode cc pc = .ok (.lload i, 2)) (hl0 : lv[i]? = some (some (.long x))) (k : X E Ω (pc + 2) lv (.long x :: st)) : X E Ω pc lv st := by
  obtain ⟨hx, hb, hml, hown, hts, hK, hlk, hok, hsta, hR, hret, hQ, rfl, rfl, rfl⟩ := hC
  intro H locs ls hP hS hl
  exact lv_lload hx hb hdg (hl.2.2 i _ hl0) (k H locs ls hP hS hl)
theorem z_aload_n (hC : zC E w l own ws cc nL fr lo ret Post) {i : Nat} {j : Fin 4} {x : Nat} (hdg : decode cc pc = .ok (.aload_n j, 1)) (hi : (j : Nat) = i) (hl0 : lv[i]? = some (some (.ref x))) (k : X E Ω (pc + 1) lv (.ref x :: st)) : X E Ω pc lv st := by
  obtain ⟨hx, hb, hml, hown, hts, hK, hlk, hok, hsta, hR, hret, hQ, rfl, rfl, rfl⟩ := hC
  intro H locs ls hP hS hl
  exact lv_aload_n hx hb hdg hi (hl.2.2 i _ hl0) (k H locs ls hP hS hl)
theorem z_aload (hC : zC E w l own ws cc nL fr lo ret Post) {i : Nat} {x : Nat} (hdg : decode cc pc = .ok (.aload i, 2)) (hl0 : lv[i]? = some (some (.ref x))) (k : X E Ω (pc + 2) lv (.ref x :: st)) : X E Ω pc lv st := by
  obtain ⟨hx, hb, hml, hown, hts, hK, hlk, hok, hsta, hR, hret, hQ, rfl, rfl, rfl⟩ := hC
  intro H locs ls hP hS hl
  exact lv_aload hx hb hdg (hl.2.2 i _ hl0) (k H locs ls hP hS hl)
theorem z_istore_n (hC : zC E w l own ws cc nL fr lo ret Post) {i : Nat} {j : Fin 4} {x : Int32} (hdg : decode cc pc = .ok (.istore_n j, 1)) (hi : (j : Nat) = i) (hn : i < nL) (hk : zok lv i = true) (hs : zS lv i (.int x) lv') (k : X E Ω (pc + 1) lv' st) : X E Ω pc lv (.int x :: st) := by
  obtain ⟨hx, hb, hml, hown, hts, hK, hlk, hok, hsta, hR, hret, hQ, rfl, rfl, rfl⟩ := hC
  intro H locs ls hP hS hl
  exact lv_istore_n hx hb hdg hi hl.has hn rfl (fun ls1 h1 => k H locs ls1 hP hS (zL.of1 h1 hk hs))
theorem z_istore (hC : zC E w l own ws cc nL fr lo ret Post) {i : Nat} {x : Int32} (hdg : decode cc pc = .ok (.istore i, 2)) (hn : i < nL) (hk : zok lv i = true) (hs : zS lv i (.int x) lv') (k : X E Ω (pc + 2) lv' st) : X E Ω pc lv (.int x :: st) := by
  obtain ⟨hx, hb, hml, hown, hts, hK, hlk, hok, hsta, hR, hret, hQ, rfl, rfl, rfl⟩ := hC
  intro H locs ls hP hS hl
  exact lv_istore hx hb hdg hl.has hn rfl (fun ls1 h1 => k H locs ls1 hP hS (zL.of1 h1 hk hs))
theorem z_astore_n (hC : zC E w l own ws cc nL fr lo ret Post) {i : Nat} {j : Fin 4} {x : Nat} (hdg : decode cc pc = .ok (.astore_n j, 1)) (hi : (j : Nat) = i) (hn : i < nL) (hk : zok lv i = true) (hs : zS lv i (.ref x) lv') (k : X E Ω (pc + 1) lv' st) : X E Ω pc lv (.ref x :: st) := by
  obtain ⟨hx, hb, hml, hown, hts, hK, hlk, hok, hsta, hR, hret, hQ, rfl, rfl, rfl⟩ := hC
  intro H locs ls hP hS hl
  exact lv_astore_n hx hb hdg hi hl.has hn rfl (fun ls1 h1 => k H locs ls1 hP hS (zL.of1 h1 hk hs))
theorem z_astore (hC : zC E w l own ws cc nL fr lo ret Post) {i : Nat} {x : Nat} (hdg : decode cc pc = .ok (.astore i, 2)) (hn : i < nL) (hk : zok lv i = true) (hs : zS lv i (.ref x) lv') (k : X E Ω (pc + 2) lv' st) : X E Ω pc lv (.ref x :: st) := by
  obtain ⟨hx, hb, hml, hown, hts, hK, hlk, hok, hsta, hR, hret, hQ, rfl, rfl, rfl⟩ := hC
  intro H locs ls hP hS hl
  exact lv_astore hx hb hdg hl.has hn rfl (fun ls1 h1 => k H locs ls1 hP hS (zL.of1 h1 hk hs))
theorem z_lstore_n (hC : zC E w l own ws cc nL fr lo ret Post) {i : Nat} {j : Fin 4} {x : Int64} (hdg : decode cc pc = .ok (.lstore_n j, 1)) (hi : (j : Nat) = i) (hn : i + 1 < nL) (hk : zok lv i = true) (hs : zS2 lv i (.long x) lv') (k : X E Ω (pc + 1) lv' st) : X E Ω pc lv (.long x :: st) := by
  obtain ⟨hx, hb, hml, hown, hts, hK, hlk, hok, hsta, hR, hret, hQ, rfl, rfl, rfl⟩ := hC
  intro H locs ls hP hS hl
  exact lv_lstore_n hx hb hdg hi hl.has hn rfl (fun ls1 h1 => k H locs ls1 hP hS (zL.of2 h1 hk hs))
theorem z_lstore (hC : zC E w l own ws cc nL fr lo ret Post) {i : Nat} {x : Int64} (hdg : decode cc pc = .ok (.lstore i, 2)) (hn : i + 1 < nL) (hk : zok lv i = true) (hs : zS2 lv i (.long x) lv') (k : X E Ω (pc + 2) lv' st) : X E Ω pc lv (.long x :: st) := by
  obtain ⟨hx, hb, hml, hown, hts, hK, hlk, hok, hsta, hR, hret, hQ, rfl, rfl, rfl⟩ := hC
  intro H locs ls hP hS hl
  exact lv_lstore hx hb hdg hl.has hn rfl (fun ls1 h1 => k H locs ls1 hP hS (zL.of2 h1 hk hs))
theorem z_iinc (hC : zC E w l own ws cc nL fr lo ret Post) {i : Nat} {z n : Int} (hdg : decode cc pc = .ok (.iinc i n, 3)) (hl0 : lv[i]? = some (some (.int (zI z)))) (hn : i < nL) (hk : zok lv i = true) (hs : zS lv i (.int (zI (z + n))) lv') (k : X E Ω (pc + 3) lv' st) : X E Ω pc lv st := by
  obtain ⟨hx, hb, hml, hown, hts, hK, hlk, hok, hsta, hR, hret, hQ, rfl, rfl, rfl⟩ := hC
  intro H locs ls hP hS hl
  obtain ⟨j, hj⟩ := List.getElem?_of_mem (zpl_mem hl0)
  exact lv_iinc (v := zI (z + n)) hx hb hdg hl.has hj (by rw [← zI_add]; rfl) hn rfl (fun ls1 h1 => k H locs ls1 hP hS (zL.of1 h1 hk hs))
theorem z_iadd (hC : zC E w l own ws cc nL fr lo ret Post) {a b : Int} (hdg : decode cc pc = .ok (.iadd, 1)) (k : X E Ω (pc + 1) lv (.int (zI (a + b)) :: st)) : X E Ω pc lv (.int (zI b) :: .int (zI a) :: st) := by
  obtain ⟨hx, hb, hml, hown, hts, hK, hlk, hok, hsta, hR, hret, hQ, rfl, rfl, rfl⟩ := hC
  intro H locs ls hP hS hl
  have k := k H locs ls hP hS hl
  rw [← zI_add] at k
  exact lv_iadd hx hb hdg k
theorem z_isub (hC : zC E w l own ws cc nL fr lo ret Post) {a b : Int} (hdg : decode cc pc = .ok (.isub, 1)) (k : X E Ω (pc + 1) lv (.int (zI (a - b)) :: st)) : X E Ω pc lv (.int (zI b) :: .int (zI a) :: st) := by
  obtain ⟨hx, hb, hml, hown, hts, hK, hlk, hok, hsta, hR, hret, hQ, rfl, rfl, rfl⟩ := hC
  intro H locs ls hP hS hl
  have k := k H locs ls hP hS hl
  rw [← zI_sub] at k
  exact lv_isub hx hb hdg k
theorem z_imul (hC : zC E w l own ws cc nL fr lo ret Post) {a b : Int} (hdg : decode cc pc = .ok (.imul, 1)) (k : X E Ω (pc + 1) lv (.int (zI (a * b)) :: st)) : X E Ω pc lv (.int (zI b) :: .int (zI a) :: st) := by
  obtain ⟨hx, hb, hml, hown, hts, hK, hlk, hok, hsta, hR, hret, hQ, rfl, rfl, rfl⟩ := hC
  intro H locs ls hP hS hl
  have k := k H locs ls hP hS hl
  rw [← zI_mul] at k
  exact lv_imul hx hb hdg k
theorem z_ineg (hC : zC E w l own ws cc nL fr lo ret Post) {a : Int} (hdg : decode cc pc = .ok (.ineg, 1)) (k : X E Ω (pc + 1) lv (.int (zI (-a)) :: st)) : X E Ω pc lv (.int (zI a) :: st) := by
  obtain ⟨hx, hb, hml, hown, hts, hK, hlk, hok, hsta, hR, hret, hQ, rfl, rfl, rfl⟩ := hC
  intro H locs ls hP hS hl
  have k := k H locs ls hP hS hl
  rw [← zI_neg] at k
  exact lv_ineg hx hb hdg k
theorem z_iand (hC : zC E w l own ws cc nL fr lo ret Post) {a b : Int32} (r : Int) (hr : a &&& b = zI r) (hdg : decode cc pc = .ok (.iand, 1)) (k : X E Ω (pc + 1) lv (.int (zI r) :: st)) : X E Ω pc lv (.int b :: .int a :: st) := by
  obtain ⟨hx, hb, hml, hown, hts, hK, hlk, hok, hsta, hR, hret, hQ, rfl, rfl, rfl⟩ := hC
  intro H locs ls hP hS hl
  have k := k H locs ls hP hS hl
  rw [← hr] at k
  exact lv_iand hx hb hdg k
theorem z_ior (hC : zC E w l own ws cc nL fr lo ret Post) {a b : Int32} (r : Int) (hr : a ||| b = zI r) (hdg : decode cc pc = .ok (.ior, 1)) (k : X E Ω (pc + 1) lv (.int (zI r) :: st)) : X E Ω pc lv (.int b :: .int a :: st) := by
  obtain ⟨hx, hb, hml, hown, hts, hK, hlk, hok, hsta, hR, hret, hQ, rfl, rfl, rfl⟩ := hC
  intro H locs ls hP hS hl
  have k := k H locs ls hP hS hl
  rw [← hr] at k
  exact lv_ior hx hb hdg k
theorem z_ixor (hC : zC E w l own ws cc nL fr lo ret Post) {a b : Int32} (r : Int) (hr : a ^^^ b = zI r) (hdg : decode cc pc = .ok (.ixor, 1)) (k : X E Ω (pc + 1) lv (.int (zI r) :: st)) : X E Ω pc lv (.int b :: .int a :: st) := by
  obtain ⟨hx, hb, hml, hown, hts, hK, hlk, hok, hsta, hR, hret, hQ, rfl, rfl, rfl⟩ := hC
  intro H locs ls hP hS hl
  have k := k H locs ls hP hS hl
  rw [← hr] at k
  exact lv_ixor hx hb hdg k
theorem z_ishl (hC : zC E w l own ws cc nL fr lo ret Post) {a b : Int32} (r : Int) (hr : a <<< (b &&& 31) = zI r) (hdg : decode cc pc = .ok (.ishl, 1)) (k : X E Ω (pc + 1) lv (.int (zI r) :: st)) : X E Ω pc lv (.int b :: .int a :: st) := by
  obtain ⟨hx, hb, hml, hown, hts, hK, hlk, hok, hsta, hR, hret, hQ, rfl, rfl, rfl⟩ := hC
  intro H locs ls hP hS hl
  have k := k H locs ls hP hS hl
  rw [← hr] at k
  exact lv_ishl hx hb hdg k
theorem z_ishr (hC : zC E w l own ws cc nL fr lo ret Post) {a b : Int32} (r : Int) (hr : a >>> (b &&& 31) = zI r) (hdg : decode cc pc = .ok (.ishr, 1)) (k : X E Ω (pc + 1) lv (.int (zI r) :: st)) : X E Ω pc lv (.int b :: .int a :: st) := by
  obtain ⟨hx, hb, hml, hown, hts, hK, hlk, hok, hsta, hR, hret, hQ, rfl, rfl, rfl⟩ := hC
  intro H locs ls hP hS hl
  have k := k H locs ls hP hS hl
  rw [← hr] at k
  exact lv_ishr hx hb hdg k
theorem z_idiv (hC : zC E w l own ws cc nL fr lo ret Post) {a b : Int} (ha : zb a) (hb0 : zb b) (h0 : 0 < b) (hdg : decode cc pc = .ok (.idiv, 1)) (k : X E Ω (pc + 1) lv (.int (zI (Int.tdiv a b)) :: st)) : X E Ω pc lv (.int (zI b) :: .int (zI a) :: st) := by
  obtain ⟨hx, hb, hml, hown, hts, hK, hlk, hok, hsta, hR, hret, hQ, rfl, rfl, rfl⟩ := hC
  intro H locs ls hP hS hl
  have k := k H locs ls hP hS hl
  rw [← zI_div ha hb0 h0] at k
  exact lv_idiv hx hb hdg (zI_ne0 hb0 h0) k
theorem z_irem (hC : zC E w l own ws cc nL fr lo ret Post) {a b : Int} (ha : zb a) (hb0 : zb b) (h0 : 0 < b) (hdg : decode cc pc = .ok (.irem, 1)) (k : X E Ω (pc + 1) lv (.int (zI (Int.tmod a b)) :: st)) : X E Ω pc lv (.int (zI b) :: .int (zI a) :: st) := by
  obtain ⟨hx, hb, hml, hown, hts, hK, hlk, hok, hsta, hR, hret, hQ, rfl, rfl, rfl⟩ := hC
  intro H locs ls hP hS hl
  have k := k H locs ls hP hS hl
  rw [← zI_rem ha hb0 h0] at k
  exact lv_irem hx hb hdg (zI_ne0 hb0 h0) k
theorem z_ladd (hC : zC E w l own ws cc nL fr lo ret Post) {x y : Int64} (hdg : decode cc pc = .ok (.ladd, 1)) (k : X E Ω (pc + 1) lv (.long (x + y) :: st)) : X E Ω pc lv (.long y :: .long x :: st) := by
  obtain ⟨hx, hb, hml, hown, hts, hK, hlk, hok, hsta, hR, hret, hQ, rfl, rfl, rfl⟩ := hC
  intro H locs ls hP hS hl
  exact lv_ladd hx hb hdg (k H locs ls hP hS hl)
theorem z_lsub (hC : zC E w l own ws cc nL fr lo ret Post) {x y : Int64} (hdg : decode cc pc = .ok (.lsub, 1)) (k : X E Ω (pc + 1) lv (.long (x - y) :: st)) : X E Ω pc lv (.long y :: .long x :: st) := by
  obtain ⟨hx, hb, hml, hown, hts, hK, hlk, hok, hsta, hR, hret, hQ, rfl, rfl, rfl⟩ := hC
  intro H locs ls hP hS hl
  exact lv_lsub hx hb hdg (k H locs ls hP hS hl)
theorem z_lmul (hC : zC E w l own ws cc nL fr lo ret Post) {x y : Int64} (hdg : decode cc pc = .ok (.lmul, 1)) (k : X E Ω (pc + 1) lv (.long (x * y) :: st)) : X E Ω pc lv (.long y :: .long x :: st) := by
  obtain ⟨hx, hb, hml, hown, hts, hK, hlk, hok, hsta, hR, hret, hQ, rfl, rfl, rfl⟩ := hC
  intro H locs ls hP hS hl
  exact lv_lmul hx hb hdg (k H locs ls hP hS hl)
theorem z_land (hC : zC E w l own ws cc nL fr lo ret Post) {x y : Int64} (hdg : decode cc pc = .ok (.land, 1)) (k : X E Ω (pc + 1) lv (.long (x &&& y) :: st)) : X E Ω pc lv (.long y :: .long x :: st) := by
  obtain ⟨hx, hb, hml, hown, hts, hK, hlk, hok, hsta, hR, hret, hQ, rfl, rfl, rfl⟩ := hC
  intro H locs ls hP hS hl
  exact lv_land hx hb hdg (k H locs ls hP hS hl)
theorem z_lor (hC : zC E w l own ws cc nL fr lo ret Post) {x y : Int64} (hdg : decode cc pc = .ok (.lor, 1)) (k : X E Ω (pc + 1) lv (.long (x ||| y) :: st)) : X E Ω pc lv (.long y :: .long x :: st) := by
  obtain ⟨hx, hb, hml, hown, hts, hK, hlk, hok, hsta, hR, hret, hQ, rfl, rfl, rfl⟩ := hC
  intro H locs ls hP hS hl
  exact lv_lor hx hb hdg (k H locs ls hP hS hl)
theorem z_lxor (hC : zC E w l own ws cc nL fr lo ret Post) {x y : Int64} (hdg : decode cc pc = .ok (.lxor, 1)) (k : X E Ω (pc + 1) lv (.long (x ^^^ y) :: st)) : X E Ω pc lv (.long y :: .long x :: st) := by
  obtain ⟨hx, hb, hml, hown, hts, hK, hlk, hok, hsta, hR, hret, hQ, rfl, rfl, rfl⟩ := hC
  intro H locs ls hP hS hl
  exact lv_lxor hx hb hdg (k H locs ls hP hS hl)
theorem z_lneg (hC : zC E w l own ws cc nL fr lo ret Post) {x v : Int64} (hv : -x = v) (hdg : decode cc pc = .ok (.lneg, 1)) (k : X E Ω (pc + 1) lv (.long v :: st)) : X E Ω pc lv (.long x :: st) := by
  obtain ⟨hx, hb, hml, hown, hts, hK, hlk, hok, hsta, hR, hret, hQ, rfl, rfl, rfl⟩ := hC
  intro H locs ls hP hS hl
  subst hv
  exact lv_lneg hx hb hdg (k H locs ls hP hS hl)
theorem z_ldiv (hC : zC E w l own ws cc nL fr lo ret Post) {x y : Int64} (h0 : ¬ y = 0) (hdg : decode cc pc = .ok (.ldiv, 1)) (k : X E Ω (pc + 1) lv (.long (x / y) :: st)) : X E Ω pc lv (.long y :: .long x :: st) := by
  obtain ⟨hx, hb, hml, hown, hts, hK, hlk, hok, hsta, hR, hret, hQ, rfl, rfl, rfl⟩ := hC
  intro H locs ls hP hS hl
  exact lv_ldiv hx hb hdg h0 (k H locs ls hP hS hl)
theorem z_lrem (hC : zC E w l own ws cc nL fr lo ret Post) {x y : Int64} (h0 : ¬ y = 0) (hdg : decode cc pc = .ok (.lrem, 1)) (k : X E Ω (pc + 1) lv (.long (x - x / y * y) :: st)) : X E Ω pc lv (.long y :: .long x :: st) := by
  obtain ⟨hx, hb, hml, hown, hts, hK, hlk, hok, hsta, hR, hret, hQ, rfl, rfl, rfl⟩ := hC
  intro H locs ls hP hS hl
  exact lv_lrem hx hb hdg h0 (k H locs ls hP hS hl)
theorem z_lshl (hC : zC E w l own ws cc nL fr lo ret Post) {x v : Int64} {y : Int32} (hv : x <<< (y.toInt64 &&& 63) = v) (hdg : decode cc pc = .ok (.lshl, 1)) (k : X E Ω (pc + 1) lv (.long v :: st)) : X E Ω pc lv (.int y :: .long x :: st) := by
  obtain ⟨hx, hb, hml, hown, hts, hK, hlk, hok, hsta, hR, hret, hQ, rfl, rfl, rfl⟩ := hC
  intro H locs ls hP hS hl
  exact lv_lshl hx hb hdg hv (k H locs ls hP hS hl)
theorem z_lushr (hC : zC E w l own ws cc nL fr lo ret Post) {x v : Int64} {y : Int32} (hv : (x.toUInt64 >>> (y.toInt64.toUInt64 &&& Int64.toUInt64 63)).toInt64 = v) (hdg : decode cc pc = .ok (.lushr, 1)) (k : X E Ω (pc + 1) lv (.long v :: st)) : X E Ω pc lv (.int y :: .long x :: st) := by
  obtain ⟨hx, hb, hml, hown, hts, hK, hlk, hok, hsta, hR, hret, hQ, rfl, rfl, rfl⟩ := hC
  intro H locs ls hP hS hl
  exact lv_lushr hx hb hdg hv (k H locs ls hP hS hl)
theorem z_lshr (hC : zC E w l own ws cc nL fr lo ret Post) {x v : Int64} {y : Int32} (hv : x >>> (y.toInt64 &&& 63) = v) (hdg : decode cc pc = .ok (.lshr, 1)) (k : X E Ω (pc + 1) lv (.long v :: st)) : X E Ω pc lv (.int y :: .long x :: st) := by
  obtain ⟨hx, hb, hml, hown, hts, hK, hlk, hok, hsta, hR, hret, hQ, rfl, rfl, rfl⟩ := hC
  intro H locs ls hP hS hl
  exact lv_lshr hx hb hdg hv (k H locs ls hP hS hl)
theorem z_i2l (hC : zC E w l own ws cc nL fr lo ret Post) {x : Int32} {v : Int64} (hv : x.toInt64 = v) (hdg : decode cc pc = .ok (.i2l, 1)) (k : X E Ω (pc + 1) lv (.long v :: st)) : X E Ω pc lv (.int x :: st) := by
  obtain ⟨hx, hb, hml, hown, hts, hK, hlk, hok, hsta, hR, hret, hQ, rfl, rfl, rfl⟩ := hC
  intro H locs ls hP hS hl
  exact lv_i2l hx hb hdg hv (k H locs ls hP hS hl)
theorem z_l2i (hC : zC E w l own ws cc nL fr lo ret Post) {x : Int64} (r : Int) (hv : x.toInt32 = zI r) (hdg : decode cc pc = .ok (.l2i, 1)) (k : X E Ω (pc + 1) lv (.int (zI r) :: st)) : X E Ω pc lv (.long x :: st) := by
  obtain ⟨hx, hb, hml, hown, hts, hK, hlk, hok, hsta, hR, hret, hQ, rfl, rfl, rfl⟩ := hC
  intro H locs ls hP hS hl
  exact lv_l2i hx hb hdg hv (k H locs ls hP hS hl)
theorem z_lcmp (hC : zC E w l own ws cc nL fr lo ret Post) {x y : Int64} (hdg : decode cc pc = .ok (.lcmp, 1)) (k : X E Ω (pc + 1) lv (.int (zI (zcmp x y)) :: st)) : X E Ω pc lv (.long y :: .long x :: st) := by
  obtain ⟨hx, hb, hml, hown, hts, hK, hlk, hok, hsta, hR, hret, hQ, rfl, rfl, rfl⟩ := hC
  intro H locs ls hP hS hl
  have k := k H locs ls hP hS hl
  rw [← zcmp_eq] at k
  exact W.lcmp hx hb hdg k
theorem z_dup (hC : zC E w l own ws cc nL fr lo ret Post) {v : Value} (hdg : decode cc pc = .ok (.dup, 1)) (hv : v.category = 1) (k : X E Ω (pc + 1) lv (v :: v :: st)) : X E Ω pc lv (v :: st) := by
  obtain ⟨hx, hb, hml, hown, hts, hK, hlk, hok, hsta, hR, hret, hQ, rfl, rfl, rfl⟩ := hC
  intro H locs ls hP hS hl
  exact lv_dup hx hb hdg hv (k H locs ls hP hS hl)
theorem z_pop (hC : zC E w l own ws cc nL fr lo ret Post) {v : Value} (hdg : decode cc pc = .ok (.pop, 1)) (hv : v.category = 1) (k : X E Ω (pc + 1) lv st) : X E Ω pc lv (v :: st) := by
  obtain ⟨hx, hb, hml, hown, hts, hK, hlk, hok, hsta, hR, hret, hQ, rfl, rfl, rfl⟩ := hC
  intro H locs ls hP hS hl
  exact lv_pop hx hb hdg hv (k H locs ls hP hS hl)
theorem z_dup2 (hC : zC E w l own ws cc nL fr lo ret Post) {v u : Value} (hdg : decode cc pc = .ok (.dup2, 1)) (hv : v.category = 1) (hu : u.category = 1) (k : X E Ω (pc + 1) lv (v :: u :: v :: u :: st)) : X E Ω pc lv (v :: u :: st) := by
  obtain ⟨hx, hb, hml, hown, hts, hK, hlk, hok, hsta, hR, hret, hQ, rfl, rfl, rfl⟩ := hC
  intro H locs ls hP hS hl
  exact lv_dup2_11 hx hb hdg hv hu (k H locs ls hP hS hl)
theorem z_dup_x1 (hC : zC E w l own ws cc nL fr lo ret Post) {v u : Value} (hdg : decode cc pc = .ok (.dup_x1, 1)) (hv : v.category = 1) (hu : u.category = 1) (k : X E Ω (pc + 1) lv (v :: u :: v :: st)) : X E Ω pc lv (v :: u :: st) := by
  obtain ⟨hx, hb, hml, hown, hts, hK, hlk, hok, hsta, hR, hret, hQ, rfl, rfl, rfl⟩ := hC
  intro H locs ls hP hS hl
  exact lv_dup_x1 hx hb hdg hv hu (k H locs ls hP hS hl)
theorem z_dup_x2 (hC : zC E w l own ws cc nL fr lo ret Post) {v u t : Value} (hdg : decode cc pc = .ok (.dup_x2, 1)) (hv : v.category = 1) (hu : u.category = 1) (ht : t.category = 1) (k : X E Ω (pc + 1) lv (v :: u :: t :: v :: st)) : X E Ω pc lv (v :: u :: t :: st) := by
  obtain ⟨hx, hb, hml, hown, hts, hK, hlk, hok, hsta, hR, hret, hQ, rfl, rfl, rfl⟩ := hC
  intro H locs ls hP hS hl
  exact lv_dup_x2 hx hb hdg hv hu ht (k H locs ls hP hS hl)
theorem z_pop2 (hC : zC E w l own ws cc nL fr lo ret Post) {v : Value} (hdg : decode cc pc = .ok (.pop2, 1)) (hv : v.category = 2) (k : X E Ω (pc + 1) lv st) : X E Ω pc lv (v :: st) := by
  obtain ⟨hx, hb, hml, hown, hts, hK, hlk, hok, hsta, hR, hret, hQ, rfl, rfl, rfl⟩ := hC
  intro H locs ls hP hS hl
  exact lv_pop2_2 hx hb hdg hv (k H locs ls hP hS hl)
theorem z_icmp_eq (hC : zC E w l own ws cc nL fr lo ret Post) {a b : Int} {off : Int} (tgt : Nat) (ha : zb a) (hb1 : zb b) (hdg : decode cc pc = .ok (.if_icmp .eq off, 3)) (ht : (pc : Int) + off = (tgt : Int)) (kt : a = b → X E Ω tgt lv st) (kf : a ≠ b → X E Ω (pc + 3) lv st) : X E Ω pc lv (.int (zI b) :: .int (zI a) :: st) := by
  obtain ⟨hx, hb, hml, hown, hts, hK, hlk, hok, hsta, hR, hret, hQ, rfl, rfl, rfl⟩ := hC
  intro H locs ls hP hS hl
  refine lv_icmp_eq (tgt := tgt) hx hb hdg ht (fun h => kt ?_ H locs ls hP hS hl) (fun h => kf ?_ H locs ls hP hS hl)
  · exact zc_eq ha hb1 h
  · exact zn_eq ha hb1 h
theorem z_if_eq (hC : zC E w l own ws cc nL fr lo ret Post) {a : Int} {off : Int} (tgt : Nat) (ha : zb a) (hdg : decode cc pc = .ok (.ifCond .eq off, 3)) (ht : (pc : Int) + off = (tgt : Int)) (kt : a = 0 → X E Ω tgt lv st) (kf : a ≠ 0 → X E Ω (pc + 3) lv st) : X E Ω pc lv (.int (zI a) :: st) := by
  obtain ⟨hx, hb, hml, hown, hts, hK, hlk, hok, hsta, hR, hret, hQ, rfl, rfl, rfl⟩ := hC
  intro H locs ls hP hS hl
  refine lv_if_eq (tgt := tgt) hx hb hdg ht (fun h => kt ?_ H locs ls hP hS hl) (fun h => kf ?_ H locs ls hP hS hl)
  · exact zc_eq (b := 0) ha zb_0 h
  · exact zn_eq (b := 0) ha zb_0 h
theorem z_icmp_ne (hC : zC E w l own ws cc nL fr lo ret Post) {a b : Int} {off : Int} (tgt : Nat) (ha : zb a) (hb1 : zb b) (hdg : decode cc pc = .ok (.if_icmp .ne off, 3)) (ht : (pc : Int) + off = (tgt : Int)) (kt : a ≠ b → X E Ω tgt lv st) (kf : a = b → X E Ω (pc + 3) lv st) : X E Ω pc lv (.int (zI b) :: .int (zI a) :: st) := by
  obtain ⟨hx, hb, hml, hown, hts, hK, hlk, hok, hsta, hR, hret, hQ, rfl, rfl, rfl⟩ := hC
  intro H locs ls hP hS hl
  refine lv_icmp_ne (tgt := tgt) hx hb hdg ht (fun h => kt ?_ H locs ls hP hS hl) (fun h => kf ?_ H locs ls hP hS hl)
  · exact zc_ne ha hb1 h
  · exact zn_ne ha hb1 h
theorem z_if_ne (hC : zC E w l own ws cc nL fr lo ret Post) {a : Int} {off : Int} (tgt : Nat) (ha : zb a) (hdg : decode cc pc = .ok (.ifCond .ne off, 3)) (ht : (pc : Int) + off = (tgt : Int)) (kt : a ≠ 0 → X E Ω tgt lv st) (kf : a = 0 → X E Ω (pc + 3) lv st) : X E Ω pc lv (.int (zI a) :: st) := by
  obtain ⟨hx, hb, hml, hown, hts, hK, hlk, hok, hsta, hR, hret, hQ, rfl, rfl, rfl⟩ := hC
  intro H locs ls hP hS hl
  refine lv_if_ne (tgt := tgt) hx hb hdg ht (fun h => kt ?_ H locs ls hP hS hl) (fun h => kf ?_ H locs ls hP hS hl)
  · exact zc_ne (b := 0) ha zb_0 h
  · exact zn_ne (b := 0) ha zb_0 h
theorem z_icmp_lt (hC : zC E w l own ws cc nL fr lo ret Post) {a b : Int} {off : Int} (tgt : Nat) (ha : zb a) (hb1 : zb b) (hdg : decode cc pc = .ok (.if_icmp .lt off, 3)) (ht : (pc : Int) + off = (tgt : Int)) (kt : a < b → X E Ω tgt lv st) (kf : b ≤ a → X E Ω (pc + 3) lv st) : X E Ω pc lv (.int (zI b) :: .int (zI a) :: st) := by
  obtain ⟨hx, hb, hml, hown, hts, hK, hlk, hok, hsta, hR, hret, hQ, rfl, rfl, rfl⟩ := hC
  intro H locs ls hP hS hl
  refine lv_icmp_lt (tgt := tgt) hx hb hdg ht (fun h => kt ?_ H locs ls hP hS hl) (fun h => kf ?_ H locs ls hP hS hl)
  · exact zc_lt ha hb1 h
  · exact zn_lt ha hb1 h
theorem z_if_lt (hC : zC E w l own ws cc nL fr lo ret Post) {a : Int} {off : Int} (tgt : Nat) (ha : zb a) (hdg : decode cc pc = .ok (.ifCond .lt off, 3)) (ht : (pc : Int) + off = (tgt : Int)) (kt : a < 0 → X E Ω tgt lv st) (kf : 0 ≤ a → X E Ω (pc + 3) lv st) : X E Ω pc lv (.int (zI a) :: st) := by
  obtain ⟨hx, hb, hml, hown, hts, hK, hlk, hok, hsta, hR, hret, hQ, rfl, rfl, rfl⟩ := hC
  intro H locs ls hP hS hl
  refine lv_if_lt (tgt := tgt) hx hb hdg ht (fun h => kt ?_ H locs ls hP hS hl) (fun h => kf ?_ H locs ls hP hS hl)
  · exact zc_lt (b := 0) ha zb_0 h
  · exact zn_lt (b := 0) ha zb_0 h
theorem z_icmp_ge (hC : zC E w l own ws cc nL fr lo ret Post) {a b : Int} {off : Int} (tgt : Nat) (ha : zb a) (hb1 : zb b) (hdg : decode cc pc = .ok (.if_icmp .ge off, 3)) (ht : (pc : Int) + off = (tgt : Int)) (kt : b ≤ a → X E Ω tgt lv st) (kf : a < b → X E Ω (pc + 3) lv st) : X E Ω pc lv (.int (zI b) :: .int (zI a) :: st) := by
  obtain ⟨hx, hb, hml, hown, hts, hK, hlk, hok, hsta, hR, hret, hQ, rfl, rfl, rfl⟩ := hC
  intro H locs ls hP hS hl
  refine lv_icmp_ge (tgt := tgt) hx hb hdg ht (fun h => kt ?_ H locs ls hP hS hl) (fun h => kf ?_ H locs ls hP hS hl)
  · exact zc_ge ha hb1 h
  · exact zn_ge ha hb1 h
theorem z_if_ge (hC : zC E w l own ws cc nL fr lo ret Post) {a : Int} {off : Int} (tgt : Nat) (ha : zb a) (hdg : decode cc pc = .ok (.ifCond .ge off, 3)) (ht : (pc : Int) + off = (tgt : Int)) (kt : 0 ≤ a → X E Ω tgt lv st) (kf : a < 0 → X E Ω (pc + 3) lv st) : X E Ω pc lv (.int (zI a) :: st) := by
  obtain ⟨hx, hb, hml, hown, hts, hK, hlk, hok, hsta, hR, hret, hQ, rfl, rfl, rfl⟩ := hC
  intro H locs ls hP hS hl
  refine lv_if_ge (tgt := tgt) hx hb hdg ht (fun h => kt ?_ H locs ls hP hS hl) (fun h => kf ?_ H locs ls hP hS hl)
  · exact zc_ge (b := 0) ha zb_0 h
  · exact zn_ge (b := 0) ha zb_0 h
theorem z_icmp_gt (hC : zC E w l own ws cc nL fr lo ret Post) {a b : Int} {off : Int} (tgt : Nat) (ha : zb a) (hb1 : zb b) (hdg : decode cc pc = .ok (.if_icmp .gt off, 3)) (ht : (pc : Int) + off = (tgt : Int)) (kt : b < a → X E Ω tgt lv st) (kf : a ≤ b → X E Ω (pc + 3) lv st) : X E Ω pc lv (.int (zI b) :: .int (zI a) :: st) := by
  obtain ⟨hx, hb, hml, hown, hts, hK, hlk, hok, hsta, hR, hret, hQ, rfl, rfl, rfl⟩ := hC
  intro H locs ls hP hS hl
  refine lv_icmp_gt (tgt := tgt) hx hb hdg ht (fun h => kt ?_ H locs ls hP hS hl) (fun h => kf ?_ H locs ls hP hS hl)
  · exact zc_gt ha hb1 h
  · exact zn_gt ha hb1 h
theorem z_if_gt (hC : zC E w l own ws cc nL fr lo ret Post) {a : Int} {off : Int} (tgt : Nat) (ha : zb a) (hdg : decode cc pc = .ok (.ifCond .gt off, 3)) (ht : (pc : Int) + off = (tgt : Int)) (kt : 0 < a → X E Ω tgt lv st) (kf : a ≤ 0 → X E Ω (pc + 3) lv st) : X E Ω pc lv (.int (zI a) :: st) := by
  obtain ⟨hx, hb, hml, hown, hts, hK, hlk, hok, hsta, hR, hret, hQ, rfl, rfl, rfl⟩ := hC
  intro H locs ls hP hS hl
  refine lv_if_gt (tgt := tgt) hx hb hdg ht (fun h => kt ?_ H locs ls hP hS hl) (fun h => kf ?_ H locs ls hP hS hl)
  · exact zc_gt (b := 0) ha zb_0 h
  · exact zn_gt (b := 0) ha zb_0 h
theorem z_icmp_le (hC : zC E w l own ws cc nL fr lo ret Post) {a b : Int} {off : Int} (tgt : Nat) (ha : zb a) (hb1 : zb b) (hdg : decode cc pc = .ok (.if_icmp .le off, 3)) (ht : (pc : Int) + off = (tgt : Int)) (kt : a ≤ b → X E Ω tgt lv st) (kf : b < a → X E Ω (pc + 3) lv st) : X E Ω pc lv (.int (zI b) :: .int (zI a) :: st) := by
  obtain ⟨hx, hb, hml, hown, hts, hK, hlk, hok, hsta, hR, hret, hQ, rfl, rfl, rfl⟩ := hC
  intro H locs ls hP hS hl
  refine lv_icmp_le (tgt := tgt) hx hb hdg ht (fun h => kt ?_ H locs ls hP hS hl) (fun h => kf ?_ H locs ls hP hS hl)
  · exact zc_le ha hb1 h
  · exact zn_le ha hb1 h
theorem z_if_le (hC : zC E w l own ws cc nL fr lo ret Post) {a : Int} {off : Int} (tgt : Nat) (ha : zb a) (hdg : decode cc pc = .ok (.ifCond .le off, 3)) (ht : (pc : Int) + off = (tgt : Int)) (kt : a ≤ 0 → X E Ω tgt lv st) (kf : 0 < a → X E Ω (pc + 3) lv st) : X E Ω pc lv (.int (zI a) :: st) := by
  obtain ⟨hx, hb, hml, hown, hts, hK, hlk, hok, hsta, hR, hret, hQ, rfl, rfl, rfl⟩ := hC
  intro H locs ls hP hS hl
  refine lv_if_le (tgt := tgt) hx hb hdg ht (fun h => kt ?_ H locs ls hP hS hl) (fun h => kf ?_ H locs ls hP hS hl)
  · exact zc_le (b := 0) ha zb_0 h
  · exact zn_le (b := 0) ha zb_0 h
theorem z_ifb_eq (hC : zC E w l own ws cc nL fr lo ret Post) {b : Bool} {off : Int} (tgt : Nat) (hdg : decode cc pc = .ok (.ifCond .eq off, 3)) (ht : (pc : Int) + off = (tgt : Int)) (kt : b = false → X E Ω tgt lv st) (kf : b = true → X E Ω (pc + 3) lv st) : X E Ω pc lv (.int (zI (bI b)) :: st) := by
  refine z_if_eq hC tgt (bI_zb b) hdg ht (fun h => kt ?_) (fun h => kf ?_)
  · cases b <;> simp_all [bI]
  · cases b <;> simp_all [bI]
theorem z_ifb_ne (hC : zC E w l own ws cc nL fr lo ret Post) {b : Bool} {off : Int} (tgt : Nat) (hdg : decode cc pc = .ok (.ifCond .ne off, 3)) (ht : (pc : Int) + off = (tgt : Int)) (kt : b = true → X E Ω tgt lv st) (kf : b = false → X E Ω (pc + 3) lv st) : X E Ω pc lv (.int (zI (bI b)) :: st) := by
  refine z_if_ne hC tgt (bI_zb b) hdg ht (fun h => kt ?_) (fun h => kf ?_)
  · cases b <;> simp_all [bI]
  · cases b <;> simp_all [bI]
theorem z_goto (hC : zC E w l own ws cc nL fr lo ret Post) {off : Int} (tgt : Nat) (hdg : decode cc pc = .ok (.goto off, 3)) (ht : (pc : Int) + off = (tgt : Int)) (k : X E Ω tgt lv st) : X E Ω pc lv st := by
  obtain ⟨hx, hb, hml, hown, hts, hK, hlk, hok, hsta, hR, hret, hQ, rfl, rfl, rfl⟩ := hC
  intro H locs ls hP hS hl
  exact lv_goto (tgt := tgt) hx hb hdg ht (k H locs ls hP hS hl)
theorem z_ifnull (hC : zC E w l own ws cc nL fr lo ret Post) {x : Nat} {off : Int} (hdg : decode cc pc = .ok (.ifnull off, 3)) (k : X E Ω (pc + 3) lv st) : X E Ω pc lv (.ref x :: st) := by
  obtain ⟨hx, hb, hml, hown, hts, hK, hlk, hok, hsta, hR, hret, hQ, rfl, rfl, rfl⟩ := hC
  intro H locs ls hP hS hl
  exact lv_ifnull hx hb hdg (k H locs ls hP hS hl)
theorem z_tsIn (hC : zC E w l own ws cc nL fr lo ret Post) {a dflt lo1 hi off : Int} {offs : Array Int} {len : Nat} (tgt : Nat) (ha : zb a) (h1 : lo1 ≤ a) (h2 : a ≤ hi) (hdg : decode cc pc = .ok (.tableswitch dflt lo1 hi offs, len)) (ho : offs[(a - lo1).toNat]? = some off) (ht : (pc : Int) + off = (tgt : Int)) (k : X E Ω tgt lv st) : X E Ω pc lv (.int (zI a) :: st) := by
  obtain ⟨hx, hb, hml, hown, hts, hK, hlk, hok, hsta, hR, hret, hQ, rfl, rfl, rfl⟩ := hC
  intro H locs ls hP hS hl
  exact lv_tableIn (tgt := tgt) (off := off) hx hb hdg (by rw [zI_toInt ha]; omega) (by rw [zI_toInt ha]; omega) (by rw [zI_toInt ha]; exact ho) ht (k H locs ls hP hS hl)
theorem z_tsOut (hC : zC E w l own ws cc nL fr lo ret Post) {a dflt lo1 hi : Int} {offs : Array Int} {len : Nat} (tgt : Nat) (ha : zb a) (h1 : a < lo1 ∨ hi < a) (hdg : decode cc pc = .ok (.tableswitch dflt lo1 hi offs, len)) (ht : (pc : Int) + dflt = (tgt : Int)) (k : X E Ω tgt lv st) : X E Ω pc lv (.int (zI a) :: st) := by
  obtain ⟨hx, hb, hml, hown, hts, hK, hlk, hok, hsta, hR, hret, hQ, rfl, rfl, rfl⟩ := hC
  intro H locs ls hP hS hl
  exact lv_tableOut (tgt := tgt) hx hb hdg (by rw [zI_toInt ha]; exact h1) ht (k H locs ls hP hS hl)
theorem z_lsw (hC : zC E w l own ws cc nL fr lo ret Post) {a dflt off : Int} {ps : Array (Int × Int)} {len : Nat} (tgt : Nat) (ha : zb a) (hdg : decode cc pc = .ok (.lookupswitch dflt ps, len)) (hp : (ps.toList.zip (ps.toList.drop 1)).all (fun (a, next) => a.1 < next.1) = true) (ho : Op.lookupswitch.offset ps.toList dflt a = off) (ht : (pc : Int) + off = (tgt : Int)) (k : X E Ω tgt lv st) : X E Ω pc lv (.int (zI a) :: st) := by
  obtain ⟨hx, hb, hml, hown, hts, hK, hlk, hok, hsta, hR, hret, hQ, rfl, rfl, rfl⟩ := hC
  intro H locs ls hP hS hl
  exact lv_lookup (tgt := tgt) (off := off) hx hb hdg hp (by rw [zI_toInt ha]; exact ho) ht (k H locs ls hP hS hl)
theorem z_getI (hC : zC E w l own ws cc nL fr lo ret Post) {C : String} {T : u_T} {N ci idx : Nat} (q kf : Nat) {fsf : (Nat → Int32) → List Value} (hin : ∀ x ∈ u_ws C T N, x ∈ ws) (hc : vwCl[ci]? = some (C, T, N)) (hq : q < 59) (hz : ∀ f, zs w f q = .inr (ci, fsf f)) (hk : kf < N) (hlk1 : Cond.fieldLink own idx (T kf).1 (T kf).2.1 (T kf).2.2.1 ∈ ws) (hv : ∀ f, (fsf f)[kf]? = some (.int (f kf))) (hdg : decode cc pc = .ok (.getfield idx, 3)) (k : X E Ω (pc + 3) lv (.int (zI (gt Ω q kf)) :: st)) : X E Ω pc lv (.ref (wa w q) :: st) := by
  obtain ⟨hx, hb, hml, hown, hts, hK, hlk, hok, hsta, hR, hret, hQ, rfl, rfl, rfl⟩ := hC
  intro H locs ls hP hS hl
  have k := k H locs ls hP hS hl
  rw [zI_gt] at k
  exact va_get hx hb hts hin hown hK hP q (by rw [zW_at _ Ω hq, hz]) hc kf hk (hts _ hlk1) (fun _ h => h) (hv (Ω q)) hdg k
theorem z_getR (hC : zC E w l own ws cc nL fr lo ret Post) (v : Value) {C : String} {T : u_T} {N ci idx : Nat} (q kf : Nat) {fsf : (Nat → Int32) → List Value} (hin : ∀ x ∈ u_ws C T N, x ∈ ws) (hc : vwCl[ci]? = some (C, T, N)) (hq : q < 59) (hz : ∀ f, zs w f q = .inr (ci, fsf f)) (hk : kf < N) (hlk1 : Cond.fieldLink own idx (T kf).1 (T kf).2.1 (T kf).2.2.1 ∈ ws) (hv : ∀ f, (fsf f)[kf]? = some v) (hdg : decode cc pc = .ok (.getfield idx, 3)) (k : X E Ω (pc + 3) lv (v :: st)) : X E Ω pc lv (.ref (wa w q) :: st) := by
  obtain ⟨hx, hb, hml, hown, hts, hK, hlk, hok, hsta, hR, hret, hQ, rfl, rfl, rfl⟩ := hC
  intro H locs ls hP hS hl
  exact va_get hx hb hts hin hown hK hP q (by rw [zW_at _ Ω hq, hz]) hc kf hk (hts _ hlk1) (fun _ h => h) (hv (Ω q)) hdg (k H locs ls hP hS hl)
theorem z_putI (hC : zC E w l own ws cc nL fr lo ret Post) {z : Int} {C : String} {T : u_T} {N ci idx : Nat} (q kf : Nat) {fsf : (Nat → Int32) → List Value} (hin : ∀ x ∈ u_ws C T N, x ∈ ws) (hc : vwCl[ci]? = some (C, T, N)) (hq : q < 59) (hz : ∀ f, zs w f q = .inr (ci, fsf f)) (hk : kf < N) (hlk1 : Cond.fieldLink own idx (T kf).1 (T kf).2.1 (T kf).2.2.1 ∈ ws) {ty0 : Nat → FieldType} (hty : ∀ k, k < N → parseFieldDescriptor (T k).2.2.1 = some (ty0 k)) (hnm : ∀ a, a < N → ∀ b, b < N → a ≠ b → (T a).2.1 ≠ (T b).2.1) (hfin : (T kf).2.2.2 = false) (hd : parseFieldDescriptor (T kf).2.2.1 = some .int) (hlen : ∀ f, kf < (fsf f).length) (hset : ∀ f v, (.inr (ci, (fsf f).set kf (.int v)) : va_E) = zs w (upd f kf v) q) (hdg : decode cc pc = .ok (.putfield idx, 3)) (k : X E (ups Ω q kf z) (pc + 3) lv st) : X E Ω pc lv (.int (zI z) :: .ref (wa w q) :: st) := by
  obtain ⟨hx, hb, hml, hown, hts, hK, hlk, hok, hsta, hR, hret, hQ, rfl, rfl, rfl⟩ := hC
  intro H locs ls hP hS hl
  refine va_put hx hb hts hin ty0 hty hnm hown hK hP (zD hok Ω) hS q (by rw [zW_at _ Ω hq, hz]) hc kf hk (hts _ hlk1) (fun _ h => h) hfin hd rfl rfl (hlen (Ω q)) hdg (fun H1 locs1 hP1 hD1 hS1 => k H1 locs1 ls ?_ hS1 hl)
  rw [hset, zW_set] at hP1
  exact hP1
theorem z_iald (hC : zC E w l own ws cc nL fr lo ret Post) (q : Nat) {n : Nat} {z : Int} (hq : q < 59) (hz : ∀ f, zs w f q = zar w n f) (h0 : 0 ≤ z) (h1 : z < n) (hn : n ≤ 2147483647) (hdg : decode cc pc = .ok (.iaload, 1)) (k : X E Ω (pc + 1) lv (.int (zI (gt Ω q z.toNat)) :: st)) : X E Ω pc lv (.int (zI z) :: .ref (wa w q) :: st) := by
  obtain ⟨hx, hb, hml, hown, hts, hK, hlk, hok, hsta, hR, hret, hQ, rfl, rfl, rfl⟩ := hC
  intro H locs ls hP hS hl
  have k := k H locs ls hP hS hl
  rw [zI_gt, ← zI_cl h0 (by omega)] at k
  exact va_iald hx hb hK hP q 0 (cA := wI (e_w E)) (n := n) (f := Ω q) (by rw [zW_at _ Ω hq, hz]; rfl) rfl (zI_in h0 h1 hn) hdg k
theorem z_iast (hC : zC E w l own ws cc nL fr lo ret Post) (q : Nat) {n : Nat} {z x : Int} (hq : q < 59) (hz : ∀ f, zs w f q = zar w n f) (h0 : 0 ≤ z) (h1 : z < n) (hn : n ≤ 2147483647) (hdg : decode cc pc = .ok (.iastore, 1)) (k : X E (ups Ω q z.toNat x) (pc + 1) lv st) : X E Ω pc lv (.int (zI x) :: .int (zI z) :: .ref (wa w q) :: st) := by
  obtain ⟨hx, hb, hml, hown, hts, hK, hlk, hok, hsta, hR, hret, hQ, rfl, rfl, rfl⟩ := hC
  intro H locs ls hP hS hl
  refine va_iast hx hb hK hP (zD hok Ω) hS q 0 (cA := wI (e_w E)) (n := n) (f := Ω q) (by rw [zW_at _ Ω hq, hz]; rfl) rfl (zI_in h0 h1 hn) hdg (fun H1 locs1 hP1 hD1 hS1 => k H1 locs1 ls ?_ hS1 hl)
  rw [zI_cl h0 (by omega)] at hP1
  have e : (.inl (wI (e_w E), n, .inl (upd (Ω q) z.toNat (zI x))) : va_E) = zs (e_w E) (upd (Ω q) z.toNat (zI x)) q := by rw [hz]; rfl
  rw [e, zW_set] at hP1
  exact hP1
theorem z_alen (hC : zC E w l own ws cc nL fr lo ret Post) (q : Nat) {n : Nat} (hq : q < 59) (hz : ∀ f, zs w f q = zar w n f) (hdg : decode cc pc = .ok (.arraylength, 1)) (k : X E Ω (pc + 1) lv (.int (zI n) :: st)) : X E Ω pc lv (.ref (wa w q) :: st) := by
  obtain ⟨hx, hb, hml, hown, hts, hK, hlk, hok, hsta, hR, hret, hQ, rfl, rfl, rfl⟩ := hC
  intro H locs ls hP hS hl
  have k := k H locs ls hP hS hl
  rw [← zI_n] at k
  exact va_alen hx hb hK hP q 0 (cA := wI (e_w E)) (x := (n, .inl (Ω q))) (by rw [zW_at _ Ω hq, hz]; rfl) (ty := .int) rfl rfl hdg k
theorem z_kept (hC : zC E w l own ws cc nL fr lo ret Post) {z : Int} (h0 : 0 ≤ z) (h1 : z < 8) (hdg : decode cc pc = .ok (.aaload, 1)) (k : X E Ω (pc + 1) lv (.ref (wa w (17 + 4 * z.toNat)) :: st)) : X E Ω pc lv (.int (zI z) :: .ref (wa w 2) :: st) := by
  obtain ⟨hx, hb, hml, hown, hts, hK, hlk, hok, hsta, hR, hret, hQ, rfl, rfl, rfl⟩ := hC
  intro H locs ls hP hS hl
  have k := k H locs ls hP hS hl
  rw [← zI_cl h0 (by omega)] at k
  exact va_aldq hx hb hK hP 2 1 (cA := wR (e_w E)) (C := "StrokeCuts$Scene") (n := 8) (f := fun j => some (wa (e_w E) (17 + 4 * j))) (by rw [zW_at _ Ω (by omega)]; rfl) rfl (zI_in h0 h1 (by omega)) hdg k
theorem z_gets (hC : zC E w l own ws cc nL fr lo ret Post) {idx : Nat} (j : Nat) (hj : j < 4) (hlk1 : Cond.fieldLink own idx "StrokeCuts" (zTab j) "[I" ∈ ws) (hdg : decode cc pc = .ok (.getstatic idx, 3)) (k : X E Ω (pc + 3) lv (.ref (wt w j) :: st)) : X E Ω pc lv st := by
  obtain ⟨hx, hb, hml, hown, hts, hK, hlk, hok, hsta, hR, hret, hQ, rfl, rfl, rfl⟩ := hC
  intro H locs ls hP hS hl
  exact va_gets hx hb (hsta.1 j hj).1 hS hown (hts _ hlk1) (fun _ h => h) hdg (k H locs ls hP hS hl)
theorem z_getsN (hC : zC E w l own ws cc nL fr lo ret Post) {idx : Nat} {host : String} (j : Nat) (hj : j < 4) (hlk1 : va_Nw (.fieldLinkNest own idx "StrokeCuts" (zTab j) "[I" host) (e_s E)) (hdg : decode cc pc = .ok (.getstatic idx, 3)) (k : X E Ω (pc + 3) lv (.ref (wt w j) :: st)) : X E Ω pc lv st := by
  obtain ⟨hx, hb, hml, hown, hts, hK, hlk, hok, hsta, hR, hret, hQ, rfl, rfl, rfl⟩ := hC
  intro H locs ls hP hS hl
  exact va_getsN hx hb (hsta.1 j hj).1 hS hown (va_Nw.use rfl hlk1) (fun _ h => h) hdg (k H locs ls hP hS hl)
theorem z_tald (hC : zC E w l own ws cc nL fr lo ret Post) (j : Nat) {z : Int} (hj : j < 4) (h0 : 0 ≤ z) (h1 : z < zTl j) (hdg : decode cc pc = .ok (.iaload, 1)) (k : X E Ω (pc + 1) lv (.int (zI (zTv j z.toNat)) :: st)) : X E Ω pc lv (.int (zI z) :: .ref (wt w j) :: st) := by
  obtain ⟨hx, hb, hml, hown, hts, hK, hlk, hok, hsta, hR, hret, hQ, rfl, rfl, rfl⟩ := hC
  intro H locs ls hP hS hl
  have hle : (zTl j : Int) ≤ 6 := by unfold zTl; split <;> omega
  exact va_ti hx hb (hsta.1 j hj).2 hS (zI_in h0 h1 (by omega)) (by rw [zI_cl h0 (by omega)]) hdg (k H locs ls hP hS hl)
theorem zQ_ret {w : zP} {Post : Option Value → Mem → Prop} {Ω : Mem} {s t : State} {H : Heap} {locs : List Loc} {a : Array Value} {v : Option Value} (hp : Post v Ω) (hP : va_P w.1 vwCl (zW w Ω) H) (hS : va_S (zA w) s.heap H locs) (ht : t.heap = H) : zQ w Post a s (.returned v) t := ⟨⟨v, Ω, rfl, hp, by rw [ht]; exact hP⟩, hS.F ht⟩
theorem z_iret (hC : zC E w l own ws cc nL fr lo ret Post) {x : Int32} (hr : ret = some .int) (hp : Post (some (.int x)) Ω) (hdg : decode cc pc = .ok (.ireturn, 1)) : X E Ω pc lv [.int x] := by
  obtain ⟨hx, hb, hml, hown, hts, hK, hlk, hok, hsta, hR, hret, hQ, rfl, rfl, rfl⟩ := hC
  intro H locs ls hP hS hl
  rw [hQ]
  exact W.iret hx hb (hret.trans hr) (fun t ht _ => zQ_ret hp hP hS ht) hS.2.2 hdg hlk
theorem z_zret (hC : zC E w l own ws cc nL fr lo ret Post) {b : Bool} (hr : ret = some .boolean) (hp : Post (some (.int (zI (bI b)))) Ω) (hdg : decode cc pc = .ok (.ireturn, 1)) : X E Ω pc lv [.int (zI (bI b))] := by
  obtain ⟨hx, hb, hml, hown, hts, hK, hlk, hok, hsta, hR, hret, hQ, rfl, rfl, rfl⟩ := hC
  intro H locs ls hP hS hl
  rw [hQ]
  exact W.zret hx hb (hret.trans hr) (by cases b <;> rfl) (fun t ht _ => zQ_ret hp hP hS ht) hS.2.2 hdg hlk
theorem z_lret (hC : zC E w l own ws cc nL fr lo ret Post) {x : Int64} (hr : ret = some .long) (hp : Post (some (.long x)) Ω) (hdg : decode cc pc = .ok (.lreturn, 1)) : X E Ω pc lv [.long x] := by
  obtain ⟨hx, hb, hml, hown, hts, hK, hlk, hok, hsta, hR, hret, hQ, rfl, rfl, rfl⟩ := hC
  intro H locs ls hP hS hl
  rw [hQ]
  exact W.lret hx hb (hret.trans hr) (fun t ht _ => zQ_ret hp hP hS ht) hS.2.2 hdg hlk
theorem z_vret (hC : zC E w l own ws cc nL fr lo ret Post) (hr : ret = none) (hp : Post none Ω) (hdg : decode cc pc = .ok (.return_, 1)) : X E Ω pc lv [] := by
  obtain ⟨hx, hb, hml, hown, hts, hK, hlk, hok, hsta, hR, hret, hQ, rfl, rfl, rfl⟩ := hC
  intro H locs ls hP hS hl
  rw [hQ]
  exact W.vret hx hb (hret.trans hr) (fun t ht _ => zQ_ret hp hP hS ht) hS.2.2 hdg hlk
theorem z_topl {x : Int64} (k : ∀ y : Int64, y = x → X E Ω pc lv (.long y :: st)) : X E Ω pc lv (.long x :: st) := k x rfl
theorem z_topi {x : Int} (k : ∀ y : Int, y = x → X E Ω pc lv (.int (zI y) :: st)) : X E Ω pc lv (.int (zI x) :: st) := k x rfl
theorem z_tope {x : Int} (y : Int) (h : x = y) (k : X E Ω pc lv (.int (zI y) :: st)) : X E Ω pc lv (.int (zI x) :: st) := h ▸ k
theorem z_tople {x : Int64} (y : Int64) (h : x = y) (k : X E Ω pc lv (.long y :: st)) : X E Ω pc lv (.long x :: st) := h ▸ k
end ZOPS
end
section
section ZCALL
variable {E : zE} {w : zP} {l : Launch} {own : String} {ws : List Cond} {cc : ByteArray} {nL fr lo : Nat} {ret : Option FieldType} {Post : Option Value → Mem → Prop} {Ω : Mem} {pc : Nat} {lv lv' : List (Option Value)} {st st0 rest : List Value}
theorem z_run {PostY : Option Value → Mem → Prop} {a : Array Value} (hr : ∀ (H : Heap) (locs : List Loc) (ls : Array Slot), va_P (e_w E).1 vwCl (zW (e_w E) Ω) H → va_S (zA (e_w E)) (e_s E).heap H locs → zL ls (e_n E) lv → va_Run (e_p E) (e_l E) (e_e E) (e_R E) (e_s E) (e_m E) (e_a E) (e_b E) (e_me E) (e_c E) H locs 0 0 0 0 (F0 (e_m E) pc ls st0) rest (zQ (e_w E) PostY a) (zA (e_w E)))
    (kk : ∀ (v : Option Value) (Ω1 : Mem), PostY v Ω1 → X E Ω1 (pc + 3) lv (v.toList ++ rest)) : X E Ω pc lv st0 := by
  intro H locs ls hP hS hl T hT XX
  obtain ⟨v, st₀, t, T', L, h0, X', hL, e1, e2, ⟨⟨v', Ω', hv, hp, hPt⟩, hz, hk⟩, hst⟩ := hr H locs ls hP hS hl T hT XX
  cases hv
  rw [h0] at hz hk
  obtain ⟨t2, a1, b1⟩ := kk v Ω' hp T'.heap (locs ++ L) ls (by rw [e1]; exact hPt)
    ⟨Nat.le_trans hS.1 (by rw [e1]; exact hz), fun q h1 h2 => by rw [e1, hk q (Nat.lt_of_lt_of_le h1 hS.1) h2]; exact hS.2.1 q h1 h2, fun q hq => by
      rcases List.mem_append.mp hq with h | h
      · exact hS.2.2 q h
      · exact hL q h⟩ hl T' rfl X'
  exact ⟨t2, hst t2 a1, b1⟩
theorem z_blind {w : zP} {Ω : Mem} {Av : List Value} : FrameBlind (va_Pc Av (fun U => va_P w.1 vwCl (zW w Ω) U.heap ∧ va_K w.1 vwCl (zT w) U ∧ zSt w U U.heap)) := by
  intro a U g mk q
  obtain ⟨q0, qP, qK, qS⟩ := q
  exact ⟨q0, qP, va_K.moved (u := U) (U := U.calling g mk a) (Vm.Alike.refl U.vm) qK, zSt.calling g mk a qS⟩
theorem z_pre {w : zP} {s U : State} {H : Heap} {locs : List Loc} {Av : List Value} (hP : va_P w.1 vwCl (zW w Ω) H) (hS : va_S (zA w) s.heap H locs) (hK : va_K w.1 vwCl (zT w) s) (hsta : zSt w s s.heap) (hU : U.heap = H) (hW : s.WarmedH U.vm) : va_Pc Av (fun U => va_P w.1 vwCl (zW w Ω) U.heap ∧ va_K w.1 vwCl (zT w) U ∧ zSt w U U.heap) Av.toArray U :=
  ⟨rfl, by rw [hU]; exact hP, va_K.moved hW.alike hK, by rw [hU]; exact zSt.warm hW hS.2.1 hsta⟩
theorem z_callV (hC : zC E w l own ws cc nL fr lo ret Post) {y : MethodName} {wy wy' : List Cond} {ccy : ByteArray} {nLy fr' lo' : Nat} {rety : Option FieldType} {C : String} {idx n ci N q : Nat} {T : u_T} {fsf : (Nat → Int32) → List Value} {As : List Value} {PostY : Option Value → Mem → Prop}
    (hM : zM l w y wy fr' lo' (.ref (wa w q) :: As) Ω PostY) (hg : GoodIn ws (wsV own idx C y wy)) (hwy : wy = Cond.code y ccy nLy rety :: wy') (hd : y.cls = C ∧ y.cls ≠ "java/lang/invoke/MethodHandle" ∧ y.cls ≠ "java/lang/invoke/VarHandle" ∧ (parseMethodDescriptor y.desc).map (fun d => d.parameters.length) = some n)
    (hR1 : fr' + 1 ≤ fr) (hR2 : 8 + (nLy + 11) + lo' ≤ lo) (hc : vwCl[ci]? = some (C, T, N)) (hq : q < 59) (hz : ∀ f, zs w f q = .inr (ci, fsf f)) (hn : As.length = n) (hst0 : st0 = As.reverse ++ .ref (wa w q) :: rest) (hroom : (rest.map fun v => v.category).sum ≤ 8) (hdg : decode cc pc = .ok (.invokevirtual idx, 3))
    (kk : ∀ (v : Option Value) (Ω1 : Mem), PostY v Ω1 → X E Ω1 (pc + 3) lv (v.toList ++ rest)) : X E Ω pc lv st0 := by
  obtain ⟨hx, hb, hml, hown, hts, hK, hlk, hok, hsta, hR, hret, hQ, rfl, rfl, rfl⟩ := hC
  refine z_run (a := (Value.ref (wa (e_w E) q) :: As).toArray) (fun H locs ls hP hS hl => ?_) kk
  exact va_runV (As := As) (rest := rest) ⟨hx, hb, hml, hown, hts⟩ hM (cwV n hts hg hwy rfl rfl hd ⟨by rw [hR]; exact hR1, by rw [hR]; exact hR2⟩) ⟨z_blind, va_recv hK hP hc (q0 := q) (by rw [zW_at _ Ω hq, hz]), fun U hU hW => z_pre hP hS hK hsta hU hW⟩ rfl hn hl.1 hst0 (lv_room hroom) hdg ⟨Nat.zero_le _, Nat.zero_le _⟩
theorem z_callS (hC : zC E w l own ws cc nL fr lo ret Post) {y : MethodName} {wy wy' : List Cond} {ccy : ByteArray} {nLy fr' lo' : Nat} {rety : Option FieldType} {idx n : Nat} {As : List Value} {PostY : Option Value → Mem → Prop}
    (hM : zM l w y wy fr' lo' As Ω PostY) (hg : GoodIn ws (va_wsS own idx y wy)) (hwy : wy = Cond.code y ccy nLy rety :: wy') (hd : y.cls ≠ "java/lang/invoke/MethodHandle" ∧ y.cls ≠ "java/lang/invoke/VarHandle" ∧ (parseMethodDescriptor y.desc).map (fun d => d.parameters.length) = some n)
    (hR1 : fr' + 1 ≤ fr) (hR2 : 8 + (nLy + 11) + lo' ≤ lo) (hn : As.length = n) (hst0 : st0 = As.reverse ++ rest) (hroom : (rest.map fun v => v.category).sum ≤ 8) (hdg : decode cc pc = .ok (.invokestatic idx, 3))
    (kk : ∀ (v : Option Value) (Ω1 : Mem), PostY v Ω1 → X E Ω1 (pc + 3) lv (v.toList ++ rest)) : X E Ω pc lv st0 := by
  obtain ⟨hx, hb, hml, hown, hts, hK, hlk, hok, hsta, hR, hret, hQ, rfl, rfl, rfl⟩ := hC
  refine z_run (a := As.toArray) (fun H locs ls hP hS hl => ?_) kk
  exact va_runS (As := As) (rest := rest) ⟨hx, hb, hml, hown, hts⟩ hM (va_cwS n hts hg hwy rfl rfl hd ⟨by rw [hR]; exact hR1, by rw [hR]; exact hR2⟩) ⟨z_blind, fun U hU hW => z_pre hP hS hK hsta hU hW⟩ rfl hn hl.1 hst0 (lv_room hroom) hdg ⟨Nat.zero_le _, Nat.zero_le _⟩
theorem z_callSN (hC : zC E w l own ws cc nL fr lo ret Post) {y : MethodName} {wy wy' : List Cond} {ccy : ByteArray} {nLy fr' lo' : Nat} {rety : Option FieldType} {idx n : Nat} {host : String} {As : List Value} {PostY : Option Value → Mem → Prop}
    (hM : zM l w y wy fr' lo' As Ω PostY) (hN : zSt w (e_s E) (e_s E).heap → va_Nw (.methodLinkNest own idx y host) (e_s E)) (hg : GoodIn ws wy) (hm1 : Cond.static y ∈ ws) (hm2 : Cond.initialized y.cls ∈ ws) (hwy : wy = Cond.code y ccy nLy rety :: wy') (hd : y.cls ≠ "java/lang/invoke/MethodHandle" ∧ y.cls ≠ "java/lang/invoke/VarHandle" ∧ (parseMethodDescriptor y.desc).map (fun d => d.parameters.length) = some n)
    (hR1 : fr' + 1 ≤ fr) (hR2 : 8 + (nLy + 11) + lo' ≤ lo) (hn : As.length = n) (hst0 : st0 = As.reverse ++ rest) (hroom : (rest.map fun v => v.category).sum ≤ 8) (hdg : decode cc pc = .ok (.invokestatic idx, 3))
    (kk : ∀ (v : Option Value) (Ω1 : Mem), PostY v Ω1 → X E Ω1 (pc + 3) lv (v.toList ++ rest)) : X E Ω pc lv st0 := by
  obtain ⟨hx, hb, hml, hown, hts, hK, hlk, hok, hsta, hR, hret, hQ, rfl, rfl, rfl⟩ := hC
  refine z_run (a := As.toArray) (fun H locs ls hP hS hl => ?_) kk
  exact va_runSN (As := As) (rest := rest) ⟨hx, hb, hml, hown, hts⟩ hM ⟨va_cnB n hts hg hwy rfl rfl (hN hsta) (hts _ hm2) hd ⟨by rw [hR]; exact hR1, by rw [hR]; exact hR2⟩, hts _ hm1, trivial⟩ ⟨z_blind, fun U hU hW => z_pre hP hS hK hsta hU hW⟩ rfl hn hl.1 hst0 (lv_room hroom) hdg ⟨Nat.zero_le _, Nat.zero_le _⟩
theorem zI_max {a b : Int} (ha : zb a) (hb : zb b) : (if zI a < zI b then zI b else zI a) = zI (max a b) := by
  by_cases h : a < b
  · rw [if_pos ((zI_lt ha hb).mpr h), Int.max_eq_right (by omega)]
  · rw [if_neg (fun e => h ((zI_lt ha hb).mp e)), Int.max_eq_left (by omega)]
theorem zI_min {a b : Int} (ha : zb a) (hb : zb b) : (if zI b < zI a then zI b else zI a) = zI (min a b) := by
  by_cases h : b < a
  · rw [if_pos ((zI_lt hb ha).mpr h), Int.min_eq_right (by omega)]
  · rw [if_neg (fun e => h ((zI_lt hb ha).mp e)), Int.min_eq_left (by omega)]
def zabs (a : Int) : Int := if 0 ≤ a then a else -a
theorem zI_abs {a : Int} (ha : zb a) : (if 0 ≤ zI a then zI a else 0 - zI a) = zI (zabs a) := by
  unfold zabs
  by_cases h : 0 ≤ a
  · rw [if_pos h, if_pos (by rw [← zI_0]; exact (zI_le zb_0 ha).mpr h)]
  · rw [if_neg h, if_neg (fun e => h (by rw [← zI_0] at e; exact (zI_le zb_0 ha).mp e)), ← zI_0, zI_sub]
    congr 1
    omega
theorem z_mmax (hC : zC E w l own ws cc nL fr lo ret Post) {a b : Int} {idx : Nat} (ha : zb a) (hb0 : zb b) (h1 : Cond.methodLink own idx Lib.Math.max.name ∈ ws) (h2 : Cond.static Lib.Math.max.name ∈ ws) (h3 : Cond.initialized "java/lang/Math" ∈ ws) (h4 : Cond.code Lib.Math.max.name Lib.Math.max.code 2 (some .int) ∈ ws) (hR1 : 1 ≤ fr) (hR2 : (st.map fun v => v.category).sum + 13 ≤ lo) (hdg : decode cc pc = .ok (.invokestatic idx, 3)) (k : X E Ω (pc + 3) lv (.int (zI (max a b)) :: st)) : X E Ω pc lv (.int (zI b) :: .int (zI a) :: st) := by
  obtain ⟨hx, hb, hml, hown, hts, hK, hlk, hok, hsta, hR, hret, hQ, rfl, rfl, rfl⟩ := hC
  intro H locs ls hP hS hl
  have k := k H locs ls hP hS hl
  rw [← zI_max ha hb0] at k
  exact va_mmax hx hb (hml.trans hl.1.symm) hown (hts _ h1) (hts _ h2) (hts _ h3) (hts _ h4) (by rw [hR]; exact hR1) (by rw [hR]; exact hR2) (Nat.zero_le _) (Nat.zero_le _) hdg k
theorem z_mmin (hC : zC E w l own ws cc nL fr lo ret Post) {a b : Int} {idx : Nat} (ha : zb a) (hb0 : zb b) (h1 : Cond.methodLink own idx Lib.Math.min.name ∈ ws) (h2 : Cond.static Lib.Math.min.name ∈ ws) (h3 : Cond.initialized "java/lang/Math" ∈ ws) (h4 : Cond.code Lib.Math.min.name Lib.Math.min.code 2 (some .int) ∈ ws) (hR1 : 1 ≤ fr) (hR2 : (st.map fun v => v.category).sum + 13 ≤ lo) (hdg : decode cc pc = .ok (.invokestatic idx, 3)) (k : X E Ω (pc + 3) lv (.int (zI (min a b)) :: st)) : X E Ω pc lv (.int (zI b) :: .int (zI a) :: st) := by
  obtain ⟨hx, hb, hml, hown, hts, hK, hlk, hok, hsta, hR, hret, hQ, rfl, rfl, rfl⟩ := hC
  intro H locs ls hP hS hl
  have k := k H locs ls hP hS hl
  rw [← zI_min ha hb0] at k
  exact va_mmin hx hb (hml.trans hl.1.symm) hown (hts _ h1) (hts _ h2) (hts _ h3) (hts _ h4) (by rw [hR]; exact hR1) (by rw [hR]; exact hR2) (Nat.zero_le _) (Nat.zero_le _) hdg k
theorem z_mabs (hC : zC E w l own ws cc nL fr lo ret Post) {a : Int} {idx : Nat} (ha : zb a) (h1 : Cond.methodLink own idx Lib.Math.abs.name ∈ ws) (h2 : Cond.static Lib.Math.abs.name ∈ ws) (h3 : Cond.initialized "java/lang/Math" ∈ ws) (h4 : Cond.code Lib.Math.abs.name Lib.Math.abs.code 1 (some .int) ∈ ws) (hR1 : 1 ≤ fr) (hR2 : (st.map fun v => v.category).sum + 13 ≤ lo) (hdg : decode cc pc = .ok (.invokestatic idx, 3)) (k : X E Ω (pc + 3) lv (.int (zI (zabs a)) :: st)) : X E Ω pc lv (.int (zI a) :: st) := by
  obtain ⟨hx, hb, hml, hown, hts, hK, hlk, hok, hsta, hR, hret, hQ, rfl, rfl, rfl⟩ := hC
  intro H locs ls hP hS hl
  have k := k H locs ls hP hS hl
  rw [← zI_abs ha] at k
  exact va_mabs hx hb (hml.trans hl.1.symm) hown (hts _ h1) (hts _ h2) (hts _ h3) (hts _ h4) (by rw [hR]; exact hR1) (by rw [hR]; exact hR2) (Nat.zero_le _) (Nat.zero_le _) hdg k
theorem z_copy (hC : zC E w l own ws cc nL fr lo ret Post) (q0 q1 : Nat) {n0 n1 : Nat} {sp dp n : Int} {idx : Nat} (hq0 : q0 < 59) (hq1 : q1 < 59) (hz0 : ∀ f, zs w f q0 = zar w n0 f) (hz1 : ∀ f, zs w f q1 = zar w n1 f) (hs0 : 0 ≤ sp) (hd0 : 0 ≤ dp) (hn0 : 0 ≤ n) (h4 : sp + n ≤ n0) (h5 : dp + n ≤ n1) (hn1 : n0 ≤ 1000000) (hn2 : n1 ≤ 1000000)
    (h1 : Cond.methodLink own idx arraycopyName ∈ ws) (h2 : Cond.native arraycopyName ∈ ws) (h3 : Cond.static arraycopyName ∈ ws) (h6 : Cond.initialized "java/lang/System" ∈ ws) (hR1 : 1 ≤ fr) (hR2 : (st.map fun v => v.category).sum + (nativeFrameWords "java/lang/System" "arraycopy" 5 + 11) ≤ lo) (hdg : decode cc pc = .ok (.invokestatic idx, 3)) (k : X E (upc Ω q1 (va_cpy (Ω q0) (Ω q1) sp.toNat dp.toNat n.toNat)) (pc + 3) lv st) : X E Ω pc lv (.int (zI n) :: .int (zI dp) :: .ref (wa w q1) :: .int (zI sp) :: .ref (wa w q0) :: st) := by
  obtain ⟨hx, hb, hml, hown, hts, hK, hlk, hok, hsta, hR, hret, hQ, rfl, rfl, rfl⟩ := hC
  intro H locs ls hP hS hl
  have e1 := zI_cl hs0 (by omega : sp ≤ 2147483647)
  have e2 := zI_cl hd0 (by omega : dp ≤ 2147483647)
  have e3 := zI_cl hn0 (by omega : n ≤ 2147483647)
  have nn : ∀ z : Int, 0 ≤ z → z ≤ 1000000 → ¬ zI z < 0 := fun z h1 h2 e => by
    rw [← zI_0, zI_lt ⟨by omega, by omega⟩ zb_0] at e
    omega
  refine va_copyi hx hb (hml.trans hl.1.symm) hown (hts _ h1) (hts _ h2) (hts _ h3) (hts _ h6) hK hP (zD hok Ω) hS q0 q1 0 0 (c0 := wI (e_w E)) (c1 := wI (e_w E)) (n0 := n0) (n1 := n1) (f := Ω q0) (g := Ω q1) (ty := .int) (by rw [zW_at _ Ω hq0, hz0]; rfl) (by rw [zW_at _ Ω hq1, hz1]; rfl) rfl rfl rfl (nn sp hs0 (by omega)) (nn dp hd0 (by omega)) (nn n hn0 (by omega)) (by rw [e1, e3]; omega) (by rw [e2, e3]; omega) (fun _ _ => rfl) (by rw [hR]; exact hR1) (by rw [hR]; exact hR2) hdg (fun H1 locs1 hP1 hD1 hS1 => k H1 locs1 ls ?_ hS1 hl)
  rw [e1, e2, e3] at hP1
  have e : (.inl (wI (e_w E), n1, .inl (va_cpy (Ω q0) (Ω q1) sp.toNat dp.toNat n.toNat)) : va_E) = zs (e_w E) (va_cpy (Ω q0) (Ω q1) sp.toNat dp.toNat n.toNat) q1 := by rw [hz1]; rfl
  rw [e, zW_set] at hP1
  exact hP1
theorem z_ifd_eq (hC : zC E w l own ws cc nL fr lo ret Post) {P : Prop} [Decidable P] {off : Int} (tgt : Nat) (hdg : decode cc pc = .ok (.ifCond .eq off, 3)) (ht : (pc : Int) + off = (tgt : Int)) (kt : ¬ P → X E Ω tgt lv st) (kf : P → X E Ω (pc + 3) lv st) : X E Ω pc lv (.int (zI (bI (decide P))) :: st) :=
  z_ifb_eq hC tgt hdg ht (fun h => kt (of_decide_eq_false h)) (fun h => kf (of_decide_eq_true h))
theorem z_ifd_ne (hC : zC E w l own ws cc nL fr lo ret Post) {P : Prop} [Decidable P] {off : Int} (tgt : Nat) (hdg : decode cc pc = .ok (.ifCond .ne off, 3)) (ht : (pc : Int) + off = (tgt : Int)) (kt : P → X E Ω tgt lv st) (kf : ¬ P → X E Ω (pc + 3) lv st) : X E Ω pc lv (.int (zI (bI (decide P))) :: st) :=
  z_ifb_ne hC tgt hdg ht (fun h => kt (of_decide_eq_true h)) (fun h => kf (of_decide_eq_false h))
end ZCALL
end
section
set_option maxRecDepth 20000 in
theorem ggX0_init_X2_init : GoodIn wsX0_init wsX2_init := goodIn_r _ [10, 11, 2, 3, 12, 13, 14, 15, 16, 17, 21, 22, 23, 24, 25] (by decide +kernel) (by decide +kernel)
set_option maxRecDepth 20000 in
theorem gX0_init_X2_init : GoodIn wsX0_init (wsX2_init) := ggX0_init_X2_init
theorem dX0_init_0 : decode cX0_init 0 = .ok (.aload_n 0, 1) := by decide +kernel
theorem dX0_init_1 : decode cX0_init 1 = .ok (.invokespecial 1, 3) := by decide +kernel
theorem dX0_init_4 : decode cX0_init 4 = .ok (.aload_n 0, 1) := by decide +kernel
theorem dX0_init_5 : decode cX0_init 5 = .ok (.bipush 8, 2) := by decide +kernel
theorem dX0_init_7 : decode cX0_init 7 = .ok (.anewarray 9, 3) := by decide +kernel
theorem dX0_init_10 : decode cX0_init 10 = .ok (.putfield 11, 3) := by decide +kernel
theorem dX0_init_13 : decode cX0_init 13 = .ok (.iconst 0, 1) := by decide +kernel
theorem dX0_init_14 : decode cX0_init 14 = .ok (.istore_n 1, 1) := by decide +kernel
theorem dX0_init_15 : decode cX0_init 15 = .ok (.iload_n 1, 1) := by decide +kernel
theorem dX0_init_16 : decode cX0_init 16 = .ok (.bipush 8, 2) := by decide +kernel
theorem dX0_init_18 : decode cX0_init 18 = .ok (.if_icmp .ge 22, 3) := by decide +kernel
theorem dX0_init_21 : decode cX0_init 21 = .ok (.aload_n 0, 1) := by decide +kernel
theorem dX0_init_22 : decode cX0_init 22 = .ok (.getfield 11, 3) := by decide +kernel
theorem dX0_init_25 : decode cX0_init 25 = .ok (.iload_n 1, 1) := by decide +kernel
theorem dX0_init_26 : decode cX0_init 26 = .ok (.new 9, 3) := by decide +kernel
theorem dX0_init_29 : decode cX0_init 29 = .ok (.dup, 1) := by decide +kernel
theorem dX0_init_30 : decode cX0_init 30 = .ok (.invokespecial 15, 3) := by decide +kernel
theorem dX0_init_33 : decode cX0_init 33 = .ok (.aastore, 1) := by decide +kernel
theorem dX0_init_34 : decode cX0_init 34 = .ok (.iinc 1 1, 3) := by decide +kernel
theorem dX0_init_37 : decode cX0_init 37 = .ok (.goto (-22), 3) := by decide +kernel
theorem dX0_init_40 : decode cX0_init 40 = .ok (.return_, 1) := by decide +kernel
set_option maxRecDepth 20000 in
theorem ggX0_remember_X2_copyFrom : GoodIn wsX0_remember wsX2_copyFrom := goodIn_r _ [12, 13, 14, 15, 16, 17, 18, 19, 20, 21, 25, 26, 27, 28, 29] (by decide +kernel) (by decide +kernel)
set_option maxRecDepth 20000 in
theorem gX0_remember_X2_copyFrom : GoodIn wsX0_remember (wsV RX0 20 RX2 yX2_copyFrom wsX2_copyFrom) := goodIn_app (goodIn_of _ (by decide +kernel)) ggX0_remember_X2_copyFrom
theorem dX0_remember_0 : decode cX0_remember 0 = .ok (.aload_n 0, 1) := by decide +kernel
theorem dX0_remember_1 : decode cX0_remember 1 = .ok (.getfield 11, 3) := by decide +kernel
theorem dX0_remember_4 : decode cX0_remember 4 = .ok (.aload_n 0, 1) := by decide +kernel
theorem dX0_remember_5 : decode cX0_remember 5 = .ok (.getfield 16, 3) := by decide +kernel
theorem dX0_remember_8 : decode cX0_remember 8 = .ok (.aaload, 1) := by decide +kernel
theorem dX0_remember_9 : decode cX0_remember 9 = .ok (.astore_n 2, 1) := by decide +kernel
theorem dX0_remember_10 : decode cX0_remember 10 = .ok (.aload_n 2, 1) := by decide +kernel
theorem dX0_remember_11 : decode cX0_remember 11 = .ok (.ifnull 8, 3) := by decide +kernel
theorem dX0_remember_14 : decode cX0_remember 14 = .ok (.aload_n 2, 1) := by decide +kernel
theorem dX0_remember_15 : decode cX0_remember 15 = .ok (.aload_n 1, 1) := by decide +kernel
theorem dX0_remember_16 : decode cX0_remember 16 = .ok (.invokevirtual 20, 3) := by decide +kernel
theorem dX0_remember_19 : decode cX0_remember 19 = .ok (.aload_n 0, 1) := by decide +kernel
theorem dX0_remember_20 : decode cX0_remember 20 = .ok (.aload_n 0, 1) := by decide +kernel
theorem dX0_remember_21 : decode cX0_remember 21 = .ok (.getfield 16, 3) := by decide +kernel
theorem dX0_remember_24 : decode cX0_remember 24 = .ok (.iconst 1, 1) := by decide +kernel
theorem dX0_remember_25 : decode cX0_remember 25 = .ok (.iadd, 1) := by decide +kernel
theorem dX0_remember_26 : decode cX0_remember 26 = .ok (.bipush 8, 2) := by decide +kernel
theorem dX0_remember_28 : decode cX0_remember 28 = .ok (.irem, 1) := by decide +kernel
theorem dX0_remember_29 : decode cX0_remember 29 = .ok (.putfield 16, 3) := by decide +kernel
theorem dX0_remember_32 : decode cX0_remember 32 = .ok (.aload_n 0, 1) := by decide +kernel
theorem dX0_remember_33 : decode cX0_remember 33 = .ok (.aload_n 0, 1) := by decide +kernel
theorem dX0_remember_34 : decode cX0_remember 34 = .ok (.getfield 24, 3) := by decide +kernel
theorem dX0_remember_37 : decode cX0_remember 37 = .ok (.iconst 1, 1) := by decide +kernel
theorem dX0_remember_38 : decode cX0_remember 38 = .ok (.iadd, 1) := by decide +kernel
theorem dX0_remember_39 : decode cX0_remember 39 = .ok (.bipush 8, 2) := by decide +kernel
theorem dX0_remember_41 : decode cX0_remember 41 = .ok (.invokestatic 27, 3) := by decide +kernel
theorem dX0_remember_44 : decode cX0_remember 44 = .ok (.putfield 24, 3) := by decide +kernel
theorem dX0_remember_47 : decode cX0_remember 47 = .ok (.return_, 1) := by decide +kernel
set_option maxRecDepth 20000 in
theorem ggX0_giveBack_X2_copyFrom : GoodIn wsX0_giveBack wsX2_copyFrom := goodIn_r _ [8, 9, 10, 11, 12, 13, 14, 15, 16, 17, 21, 22, 23, 24, 25] (by decide +kernel) (by decide +kernel)
set_option maxRecDepth 20000 in
theorem gX0_giveBack_X2_copyFrom : GoodIn wsX0_giveBack (wsV RX0 20 RX2 yX2_copyFrom wsX2_copyFrom) := goodIn_app (goodIn_of _ (by decide +kernel)) ggX0_giveBack_X2_copyFrom
theorem dX0_giveBack_0 : decode cX0_giveBack 0 = .ok (.aload_n 0, 1) := by decide +kernel
theorem dX0_giveBack_1 : decode cX0_giveBack 1 = .ok (.getfield 24, 3) := by decide +kernel
theorem dX0_giveBack_4 : decode cX0_giveBack 4 = .ok (.ifCond .le 48, 3) := by decide +kernel
theorem dX0_giveBack_7 : decode cX0_giveBack 7 = .ok (.aload_n 0, 1) := by decide +kernel
theorem dX0_giveBack_8 : decode cX0_giveBack 8 = .ok (.aload_n 0, 1) := by decide +kernel
theorem dX0_giveBack_9 : decode cX0_giveBack 9 = .ok (.getfield 16, 3) := by decide +kernel
theorem dX0_giveBack_12 : decode cX0_giveBack 12 = .ok (.bipush 8, 2) := by decide +kernel
theorem dX0_giveBack_14 : decode cX0_giveBack 14 = .ok (.iadd, 1) := by decide +kernel
theorem dX0_giveBack_15 : decode cX0_giveBack 15 = .ok (.iconst 1, 1) := by decide +kernel
theorem dX0_giveBack_16 : decode cX0_giveBack 16 = .ok (.isub, 1) := by decide +kernel
theorem dX0_giveBack_17 : decode cX0_giveBack 17 = .ok (.bipush 8, 2) := by decide +kernel
theorem dX0_giveBack_19 : decode cX0_giveBack 19 = .ok (.irem, 1) := by decide +kernel
theorem dX0_giveBack_20 : decode cX0_giveBack 20 = .ok (.putfield 16, 3) := by decide +kernel
theorem dX0_giveBack_23 : decode cX0_giveBack 23 = .ok (.aload_n 0, 1) := by decide +kernel
theorem dX0_giveBack_24 : decode cX0_giveBack 24 = .ok (.dup, 1) := by decide +kernel
theorem dX0_giveBack_25 : decode cX0_giveBack 25 = .ok (.getfield 24, 3) := by decide +kernel
theorem dX0_giveBack_28 : decode cX0_giveBack 28 = .ok (.iconst 1, 1) := by decide +kernel
theorem dX0_giveBack_29 : decode cX0_giveBack 29 = .ok (.isub, 1) := by decide +kernel
theorem dX0_giveBack_30 : decode cX0_giveBack 30 = .ok (.putfield 24, 3) := by decide +kernel
theorem dX0_giveBack_33 : decode cX0_giveBack 33 = .ok (.aload_n 0, 1) := by decide +kernel
theorem dX0_giveBack_34 : decode cX0_giveBack 34 = .ok (.getfield 11, 3) := by decide +kernel
theorem dX0_giveBack_37 : decode cX0_giveBack 37 = .ok (.aload_n 0, 1) := by decide +kernel
theorem dX0_giveBack_38 : decode cX0_giveBack 38 = .ok (.getfield 16, 3) := by decide +kernel
theorem dX0_giveBack_41 : decode cX0_giveBack 41 = .ok (.aaload, 1) := by decide +kernel
theorem dX0_giveBack_42 : decode cX0_giveBack 42 = .ok (.astore_n 2, 1) := by decide +kernel
theorem dX0_giveBack_43 : decode cX0_giveBack 43 = .ok (.aload_n 2, 1) := by decide +kernel
theorem dX0_giveBack_44 : decode cX0_giveBack 44 = .ok (.ifnull 8, 3) := by decide +kernel
theorem dX0_giveBack_47 : decode cX0_giveBack 47 = .ok (.aload_n 1, 1) := by decide +kernel
theorem dX0_giveBack_48 : decode cX0_giveBack 48 = .ok (.aload_n 2, 1) := by decide +kernel
theorem dX0_giveBack_49 : decode cX0_giveBack 49 = .ok (.invokevirtual 20, 3) := by decide +kernel
theorem dX0_giveBack_52 : decode cX0_giveBack 52 = .ok (.return_, 1) := by decide +kernel
theorem dX1_init_0 : decode cX1_init 0 = .ok (.aload_n 0, 1) := by decide +kernel
theorem dX1_init_1 : decode cX1_init 1 = .ok (.invokespecial 3, 3) := by decide +kernel
theorem dX1_init_4 : decode cX1_init 4 = .ok (.aload_n 0, 1) := by decide +kernel
theorem dX1_init_5 : decode cX1_init 5 = .ok (.bipush 36, 2) := by decide +kernel
theorem dX1_init_7 : decode cX1_init 7 = .ok (.newarray .int, 2) := by decide +kernel
theorem dX1_init_9 : decode cX1_init 9 = .ok (.putfield 9, 3) := by decide +kernel
theorem dX1_init_12 : decode cX1_init 12 = .ok (.aload_n 0, 1) := by decide +kernel
theorem dX1_init_13 : decode cX1_init 13 = .ok (.bipush 36, 2) := by decide +kernel
theorem dX1_init_15 : decode cX1_init 15 = .ok (.newarray .int, 2) := by decide +kernel
theorem dX1_init_17 : decode cX1_init 17 = .ok (.putfield 15, 3) := by decide +kernel
theorem dX1_init_20 : decode cX1_init 20 = .ok (.aload_n 0, 1) := by decide +kernel
theorem dX1_init_21 : decode cX1_init 21 = .ok (.sipush 288, 3) := by decide +kernel
theorem dX1_init_24 : decode cX1_init 24 = .ok (.newarray .int, 2) := by decide +kernel
theorem dX1_init_26 : decode cX1_init 26 = .ok (.putfield 18, 3) := by decide +kernel
theorem dX1_init_29 : decode cX1_init 29 = .ok (.aload_n 0, 1) := by decide +kernel
theorem dX1_init_30 : decode cX1_init 30 = .ok (.sipush 288, 3) := by decide +kernel
theorem dX1_init_33 : decode cX1_init 33 = .ok (.newarray .int, 2) := by decide +kernel
theorem dX1_init_35 : decode cX1_init 35 = .ok (.putfield 21, 3) := by decide +kernel
theorem dX1_init_38 : decode cX1_init 38 = .ok (.aload_n 0, 1) := by decide +kernel
theorem dX1_init_39 : decode cX1_init 39 = .ok (.bipush 36, 2) := by decide +kernel
theorem dX1_init_41 : decode cX1_init 41 = .ok (.newarray .int, 2) := by decide +kernel
theorem dX1_init_43 : decode cX1_init 43 = .ok (.putfield 24, 3) := by decide +kernel
theorem dX1_init_46 : decode cX1_init 46 = .ok (.aload_n 0, 1) := by decide +kernel
theorem dX1_init_47 : decode cX1_init 47 = .ok (.bipush 36, 2) := by decide +kernel
theorem dX1_init_49 : decode cX1_init 49 = .ok (.newarray .int, 2) := by decide +kernel
theorem dX1_init_51 : decode cX1_init 51 = .ok (.putfield 27, 3) := by decide +kernel
theorem dX1_init_54 : decode cX1_init 54 = .ok (.return_, 1) := by decide +kernel
set_option maxRecDepth 20000 in
theorem ggX1_solve_X1_load : GoodIn wsX1_solve wsX1_load := goodIn_r _ [5, 6, 7, 8, 9, 10, 11, 12, 13, 14, 15, 16, 17, 18, 19, 20, 21, 22, 23, 24, 4, 25, 26, 27, 28, 29, 30, 31, 32, 33, 34, 35, 36, 37, 38, 39, 40, 41, 42, 43, 44, 45, 46, 47, 48, 49, 50, 51, 52, 53, 54, 55, 56, 57, 58, 59, 60, 61, 62, 89, 90, 91, 92, 93, 94, 95, 96, 97, 98, 99, 100, 101] (by decide +kernel) (by decide +kernel)
set_option maxRecDepth 20000 in
theorem gX1_solve_X1_load : GoodIn wsX1_solve (wsV RX1 30 RX1 yX1_load wsX1_load) := goodIn_app (goodIn_of _ (by decide +kernel)) ggX1_solve_X1_load
set_option maxRecDepth 20000 in
theorem ggX1_solve_X1_fill : GoodIn wsX1_solve wsX1_fill := goodIn_r _ [66, 6, 26, 67, 68, 69, 70, 4, 71, 72, 28, 73, 7, 59, 74, 75, 76, 77, 60, 61, 62, 78, 79, 80, 81, 82, 83, 37, 84, 85, 86, 87, 88, 89, 90, 91, 92, 93, 94, 95, 96] (by decide +kernel) (by decide +kernel)
set_option maxRecDepth 20000 in
theorem gX1_solve_X1_fill : GoodIn wsX1_solve (wsV RX1 34 RX1 yX1_fill wsX1_fill) := goodIn_app (goodIn_of _ (by decide +kernel)) ggX1_solve_X1_fill
theorem dX1_solve_0 : decode cX1_solve 0 = .ok (.aload_n 0, 1) := by decide +kernel
theorem dX1_solve_1 : decode cX1_solve 1 = .ok (.aload_n 1, 1) := by decide +kernel
theorem dX1_solve_2 : decode cX1_solve 2 = .ok (.invokevirtual 30, 3) := by decide +kernel
theorem dX1_solve_5 : decode cX1_solve 5 = .ok (.aload_n 0, 1) := by decide +kernel
theorem dX1_solve_6 : decode cX1_solve 6 = .ok (.invokevirtual 34, 3) := by decide +kernel
theorem dX1_solve_9 : decode cX1_solve 9 = .ok (.ireturn, 1) := by decide +kernel
set_option maxRecDepth 20000 in
theorem ggX1_load_X2_dots : GoodIn wsX1_load wsX2_dots := goodIn_r _ [10, 11, 12, 67, 68, 69, 70, 71] (by decide +kernel) (by decide +kernel)
set_option maxRecDepth 20000 in
theorem gX1_load_X2_dots : GoodIn wsX1_load (wsV RX1 38 RX2 yX2_dots wsX2_dots) := goodIn_app (goodIn_of _ (by decide +kernel)) ggX1_load_X2_dots
set_option maxRecDepth 20000 in
theorem ggX1_load_X2_numberOf : GoodIn wsX1_load wsX2_numberOf := goodIn_r _ [16, 11, 67, 68, 69, 70, 71] (by decide +kernel) (by decide +kernel)
set_option maxRecDepth 20000 in
theorem gX1_load_X2_numberOf : GoodIn wsX1_load (wsV RX1 52 RX2 yX2_numberOf wsX2_numberOf) := goodIn_app (goodIn_of _ (by decide +kernel)) ggX1_load_X2_numberOf
set_option maxRecDepth 20000 in
theorem ggX1_load_X1_loadPulls : GoodIn wsX1_load wsX1_loadPulls := goodIn_r _ [21, 22, 23, 24, 25, 26, 27, 9, 28, 29, 30, 31, 32, 33, 34, 59, 60, 61, 62, 63, 64, 65, 66, 67, 68, 69, 70, 71] (by decide +kernel) (by decide +kernel)
set_option maxRecDepth 20000 in
theorem gX1_load_X1_loadPulls : GoodIn wsX1_load (wsV RX1 59 RX1 yX1_loadPulls wsX1_loadPulls) := goodIn_app (goodIn_of _ (by decide +kernel)) ggX1_load_X1_loadPulls
set_option maxRecDepth 20000 in
theorem ggX1_load_X2_linkedTo : GoodIn wsX1_load wsX2_linkedTo := goodIn_r _ [38, 29, 39, 40, 41, 9, 42, 11, 12, 43, 14, 15, 16, 67, 68, 69, 70, 71] (by decide +kernel) (by decide +kernel)
set_option maxRecDepth 20000 in
theorem gX1_load_X2_linkedTo : GoodIn wsX1_load (wsV RX1 63 RX2 yX2_linkedTo wsX2_linkedTo) := goodIn_app (goodIn_of _ (by decide +kernel)) ggX1_load_X2_linkedTo
set_option maxRecDepth 20000 in
theorem ggX1_load_X2_weightOf : GoodIn wsX1_load wsX2_weightOf := goodIn_r _ [47, 30, 31, 32, 33, 34, 29, 48, 49, 50, 67, 68, 69, 70, 71] (by decide +kernel) (by decide +kernel)
set_option maxRecDepth 20000 in
theorem gX1_load_X2_weightOf : GoodIn wsX1_load (wsV RX1 67 RX2 yX2_weightOf wsX2_weightOf) := goodIn_app (goodIn_of _ (by decide +kernel)) ggX1_load_X2_weightOf
set_option maxRecDepth 20000 in
theorem ggX1_load_X1_join : GoodIn wsX1_load wsX1_join := goodIn_r _ [54, 2, 55, 56, 57, 20, 58, 59, 60, 61, 62, 63, 64, 65, 66] (by decide +kernel) (by decide +kernel)
set_option maxRecDepth 20000 in
theorem gX1_load_X1_join : GoodIn wsX1_load (wsV RX1 70 RX1 yX1_join wsX1_join) := goodIn_app (goodIn_of _ (by decide +kernel)) ggX1_load_X1_join
theorem dX1_load_0 : decode cX1_load 0 = .ok (.aload_n 0, 1) := by decide +kernel
theorem dX1_load_1 : decode cX1_load 1 = .ok (.aload_n 1, 1) := by decide +kernel
theorem dX1_load_2 : decode cX1_load 2 = .ok (.invokevirtual 38, 3) := by decide +kernel
theorem dX1_load_5 : decode cX1_load 5 = .ok (.putfield 43, 3) := by decide +kernel
theorem dX1_load_8 : decode cX1_load 8 = .ok (.iconst 0, 1) := by decide +kernel
theorem dX1_load_9 : decode cX1_load 9 = .ok (.istore_n 2, 1) := by decide +kernel
theorem dX1_load_10 : decode cX1_load 10 = .ok (.iload_n 2, 1) := by decide +kernel
theorem dX1_load_11 : decode cX1_load 11 = .ok (.aload_n 0, 1) := by decide +kernel
theorem dX1_load_12 : decode cX1_load 12 = .ok (.getfield 18, 3) := by decide +kernel
theorem dX1_load_15 : decode cX1_load 15 = .ok (.arraylength, 1) := by decide +kernel
theorem dX1_load_16 : decode cX1_load 16 = .ok (.if_icmp .ge 16, 3) := by decide +kernel
theorem dX1_load_19 : decode cX1_load 19 = .ok (.aload_n 0, 1) := by decide +kernel
theorem dX1_load_20 : decode cX1_load 20 = .ok (.getfield 18, 3) := by decide +kernel
theorem dX1_load_23 : decode cX1_load 23 = .ok (.iload_n 2, 1) := by decide +kernel
theorem dX1_load_24 : decode cX1_load 24 = .ok (.iconst (-1), 1) := by decide +kernel
theorem dX1_load_25 : decode cX1_load 25 = .ok (.iastore, 1) := by decide +kernel
theorem dX1_load_26 : decode cX1_load 26 = .ok (.iinc 2 1, 3) := by decide +kernel
theorem dX1_load_29 : decode cX1_load 29 = .ok (.goto (-19), 3) := by decide +kernel
theorem dX1_load_32 : decode cX1_load 32 = .ok (.iconst 0, 1) := by decide +kernel
theorem dX1_load_33 : decode cX1_load 33 = .ok (.istore_n 2, 1) := by decide +kernel
theorem dX1_load_34 : decode cX1_load 34 = .ok (.iload_n 2, 1) := by decide +kernel
theorem dX1_load_35 : decode cX1_load 35 = .ok (.aload_n 1, 1) := by decide +kernel
theorem dX1_load_36 : decode cX1_load 36 = .ok (.getfield 46, 3) := by decide +kernel
theorem dX1_load_39 : decode cX1_load 39 = .ok (.if_icmp .ge 98, 3) := by decide +kernel
theorem dX1_load_42 : decode cX1_load 42 = .ok (.iconst 0, 1) := by decide +kernel
theorem dX1_load_43 : decode cX1_load 43 = .ok (.istore_n 3, 1) := by decide +kernel
theorem dX1_load_44 : decode cX1_load 44 = .ok (.iload_n 3, 1) := by decide +kernel
theorem dX1_load_45 : decode cX1_load 45 = .ok (.aload_n 1, 1) := by decide +kernel
theorem dX1_load_46 : decode cX1_load 46 = .ok (.getfield 49, 3) := by decide +kernel
theorem dX1_load_49 : decode cX1_load 49 = .ok (.if_icmp .ge 82, 3) := by decide +kernel
theorem dX1_load_52 : decode cX1_load 52 = .ok (.aload_n 1, 1) := by decide +kernel
theorem dX1_load_53 : decode cX1_load 53 = .ok (.iload_n 3, 1) := by decide +kernel
theorem dX1_load_54 : decode cX1_load 54 = .ok (.iload_n 2, 1) := by decide +kernel
theorem dX1_load_55 : decode cX1_load 55 = .ok (.invokevirtual 52, 3) := by decide +kernel
theorem dX1_load_58 : decode cX1_load 58 = .ok (.istore 4, 2) := by decide +kernel
theorem dX1_load_60 : decode cX1_load 60 = .ok (.aload_n 0, 1) := by decide +kernel
theorem dX1_load_61 : decode cX1_load 61 = .ok (.aload_n 1, 1) := by decide +kernel
theorem dX1_load_62 : decode cX1_load 62 = .ok (.iload 4, 2) := by decide +kernel
theorem dX1_load_64 : decode cX1_load 64 = .ok (.aload_n 1, 1) := by decide +kernel
theorem dX1_load_65 : decode cX1_load 65 = .ok (.getfield 56, 3) := by decide +kernel
theorem dX1_load_68 : decode cX1_load 68 = .ok (.iload 4, 2) := by decide +kernel
theorem dX1_load_70 : decode cX1_load 70 = .ok (.iaload, 1) := by decide +kernel
theorem dX1_load_71 : decode cX1_load 71 = .ok (.invokevirtual 59, 3) := by decide +kernel
theorem dX1_load_74 : decode cX1_load 74 = .ok (.iconst 0, 1) := by decide +kernel
theorem dX1_load_75 : decode cX1_load 75 = .ok (.istore 5, 2) := by decide +kernel
theorem dX1_load_77 : decode cX1_load 77 = .ok (.iload 5, 2) := by decide +kernel
theorem dX1_load_79 : decode cX1_load 79 = .ok (.iconst 4, 1) := by decide +kernel
theorem dX1_load_80 : decode cX1_load 80 = .ok (.if_icmp .ge 45, 3) := by decide +kernel
theorem dX1_load_83 : decode cX1_load 83 = .ok (.aload_n 1, 1) := by decide +kernel
theorem dX1_load_84 : decode cX1_load 84 = .ok (.iload_n 3, 1) := by decide +kernel
theorem dX1_load_85 : decode cX1_load 85 = .ok (.iload_n 2, 1) := by decide +kernel
theorem dX1_load_86 : decode cX1_load 86 = .ok (.iload 5, 2) := by decide +kernel
theorem dX1_load_88 : decode cX1_load 88 = .ok (.invokevirtual 63, 3) := by decide +kernel
theorem dX1_load_91 : decode cX1_load 91 = .ok (.istore 6, 2) := by decide +kernel
theorem dX1_load_93 : decode cX1_load 93 = .ok (.iload 6, 2) := by decide +kernel
theorem dX1_load_95 : decode cX1_load 95 = .ok (.iconst (-1), 1) := by decide +kernel
theorem dX1_load_96 : decode cX1_load 96 = .ok (.if_icmp .eq 23, 3) := by decide +kernel
theorem dX1_load_99 : decode cX1_load 99 = .ok (.aload_n 0, 1) := by decide +kernel
theorem dX1_load_100 : decode cX1_load 100 = .ok (.iload 4, 2) := by decide +kernel
theorem dX1_load_102 : decode cX1_load 102 = .ok (.iload 6, 2) := by decide +kernel
theorem dX1_load_104 : decode cX1_load 104 = .ok (.iload 5, 2) := by decide +kernel
theorem dX1_load_106 : decode cX1_load 106 = .ok (.aload_n 1, 1) := by decide +kernel
theorem dX1_load_107 : decode cX1_load 107 = .ok (.iload 4, 2) := by decide +kernel
theorem dX1_load_109 : decode cX1_load 109 = .ok (.iload 6, 2) := by decide +kernel
theorem dX1_load_111 : decode cX1_load 111 = .ok (.iload 5, 2) := by decide +kernel
theorem dX1_load_113 : decode cX1_load 113 = .ok (.invokevirtual 67, 3) := by decide +kernel
theorem dX1_load_116 : decode cX1_load 116 = .ok (.invokevirtual 70, 3) := by decide +kernel
theorem dX1_load_119 : decode cX1_load 119 = .ok (.iinc 5 1, 3) := by decide +kernel
theorem dX1_load_122 : decode cX1_load 122 = .ok (.goto (-45), 3) := by decide +kernel
theorem dX1_load_125 : decode cX1_load 125 = .ok (.iinc 3 1, 3) := by decide +kernel
theorem dX1_load_128 : decode cX1_load 128 = .ok (.goto (-84), 3) := by decide +kernel
theorem dX1_load_131 : decode cX1_load 131 = .ok (.iinc 2 1, 3) := by decide +kernel
theorem dX1_load_134 : decode cX1_load 134 = .ok (.goto (-100), 3) := by decide +kernel
theorem dX1_load_137 : decode cX1_load 137 = .ok (.return_, 1) := by decide +kernel
set_option maxRecDepth 20000 in
theorem ggX1_loadPulls_X2_pullFrom : GoodIn wsX1_loadPulls wsX2_pullFrom := goodIn_r _ [8, 9, 10, 11, 12, 13, 14, 23, 24, 25, 26, 27] (by decide +kernel) (by decide +kernel)
set_option maxRecDepth 20000 in
theorem gX1_loadPulls_X2_pullFrom : GoodIn wsX1_loadPulls (wsV RX1 74 RX2 yX2_pullFrom wsX2_pullFrom) := goodIn_app (goodIn_of _ (by decide +kernel)) ggX1_loadPulls_X2_pullFrom
theorem dX1_loadPulls_0 : decode cX1_loadPulls 0 = .ok (.aload_n 0, 1) := by decide +kernel
theorem dX1_loadPulls_1 : decode cX1_loadPulls 1 = .ok (.getfield 9, 3) := by decide +kernel
theorem dX1_loadPulls_4 : decode cX1_loadPulls 4 = .ok (.iload_n 2, 1) := by decide +kernel
theorem dX1_loadPulls_5 : decode cX1_loadPulls 5 = .ok (.aload_n 1, 1) := by decide +kernel
theorem dX1_loadPulls_6 : decode cX1_loadPulls 6 = .ok (.iload_n 2, 1) := by decide +kernel
theorem dX1_loadPulls_7 : decode cX1_loadPulls 7 = .ok (.iconst 4, 1) := by decide +kernel
theorem dX1_loadPulls_8 : decode cX1_loadPulls 8 = .ok (.invokevirtual 74, 3) := by decide +kernel
theorem dX1_loadPulls_11 : decode cX1_loadPulls 11 = .ok (.iload_n 3, 1) := by decide +kernel
theorem dX1_loadPulls_12 : decode cX1_loadPulls 12 = .ok (.iconst 1, 1) := by decide +kernel
theorem dX1_loadPulls_13 : decode cX1_loadPulls 13 = .ok (.if_icmp .ne 8, 3) := by decide +kernel
theorem dX1_loadPulls_16 : decode cX1_loadPulls 16 = .ok (.ldc 77, 2) := by decide +kernel
theorem dX1_loadPulls_18 : decode cX1_loadPulls 18 = .ok (.goto 4, 3) := by decide +kernel
theorem dX1_loadPulls_21 : decode cX1_loadPulls 21 = .ok (.iconst 0, 1) := by decide +kernel
theorem dX1_loadPulls_22 : decode cX1_loadPulls 22 = .ok (.iadd, 1) := by decide +kernel
theorem dX1_loadPulls_23 : decode cX1_loadPulls 23 = .ok (.iastore, 1) := by decide +kernel
theorem dX1_loadPulls_24 : decode cX1_loadPulls 24 = .ok (.aload_n 0, 1) := by decide +kernel
theorem dX1_loadPulls_25 : decode cX1_loadPulls 25 = .ok (.getfield 15, 3) := by decide +kernel
theorem dX1_loadPulls_28 : decode cX1_loadPulls 28 = .ok (.iload_n 2, 1) := by decide +kernel
theorem dX1_loadPulls_29 : decode cX1_loadPulls 29 = .ok (.aload_n 1, 1) := by decide +kernel
theorem dX1_loadPulls_30 : decode cX1_loadPulls 30 = .ok (.iload_n 2, 1) := by decide +kernel
theorem dX1_loadPulls_31 : decode cX1_loadPulls 31 = .ok (.iconst 3, 1) := by decide +kernel
theorem dX1_loadPulls_32 : decode cX1_loadPulls 32 = .ok (.invokevirtual 74, 3) := by decide +kernel
theorem dX1_loadPulls_35 : decode cX1_loadPulls 35 = .ok (.iload_n 3, 1) := by decide +kernel
theorem dX1_loadPulls_36 : decode cX1_loadPulls 36 = .ok (.iconst 2, 1) := by decide +kernel
theorem dX1_loadPulls_37 : decode cX1_loadPulls 37 = .ok (.if_icmp .ne 8, 3) := by decide +kernel
theorem dX1_loadPulls_40 : decode cX1_loadPulls 40 = .ok (.ldc 77, 2) := by decide +kernel
theorem dX1_loadPulls_42 : decode cX1_loadPulls 42 = .ok (.goto 4, 3) := by decide +kernel
theorem dX1_loadPulls_45 : decode cX1_loadPulls 45 = .ok (.iconst 0, 1) := by decide +kernel
theorem dX1_loadPulls_46 : decode cX1_loadPulls 46 = .ok (.iadd, 1) := by decide +kernel
theorem dX1_loadPulls_47 : decode cX1_loadPulls 47 = .ok (.iastore, 1) := by decide +kernel
theorem dX1_loadPulls_48 : decode cX1_loadPulls 48 = .ok (.return_, 1) := by decide +kernel
set_option maxRecDepth 20000 in
theorem ggX1_join_X1_reverse : GoodIn wsX1_join wsX1_reverse := goodIn_r _ [6] (by decide +kernel) (by decide +kernel)
set_option maxRecDepth 20000 in
theorem gX1_join_X1_reverse : GoodIn wsX1_join (va_wsS RX1 78 yX1_reverse wsX1_reverse) := goodIn_app (goodIn_of _ (by decide +kernel)) ggX1_join_X1_reverse
theorem dX1_join_0 : decode cX1_join 0 = .ok (.iload_n 1, 1) := by decide +kernel
theorem dX1_join_1 : decode cX1_join 1 = .ok (.bipush 8, 2) := by decide +kernel
theorem dX1_join_3 : decode cX1_join 3 = .ok (.imul, 1) := by decide +kernel
theorem dX1_join_4 : decode cX1_join 4 = .ok (.iload_n 3, 1) := by decide +kernel
theorem dX1_join_5 : decode cX1_join 5 = .ok (.iadd, 1) := by decide +kernel
theorem dX1_join_6 : decode cX1_join 6 = .ok (.istore 5, 2) := by decide +kernel
theorem dX1_join_8 : decode cX1_join 8 = .ok (.iload_n 2, 1) := by decide +kernel
theorem dX1_join_9 : decode cX1_join 9 = .ok (.bipush 8, 2) := by decide +kernel
theorem dX1_join_11 : decode cX1_join 11 = .ok (.imul, 1) := by decide +kernel
theorem dX1_join_12 : decode cX1_join 12 = .ok (.iload_n 3, 1) := by decide +kernel
theorem dX1_join_13 : decode cX1_join 13 = .ok (.invokestatic 78, 3) := by decide +kernel
theorem dX1_join_16 : decode cX1_join 16 = .ok (.iadd, 1) := by decide +kernel
theorem dX1_join_17 : decode cX1_join 17 = .ok (.istore 6, 2) := by decide +kernel
theorem dX1_join_19 : decode cX1_join 19 = .ok (.aload_n 0, 1) := by decide +kernel
theorem dX1_join_20 : decode cX1_join 20 = .ok (.getfield 18, 3) := by decide +kernel
theorem dX1_join_23 : decode cX1_join 23 = .ok (.iload 5, 2) := by decide +kernel
theorem dX1_join_25 : decode cX1_join 25 = .ok (.iload_n 2, 1) := by decide +kernel
theorem dX1_join_26 : decode cX1_join 26 = .ok (.iastore, 1) := by decide +kernel
theorem dX1_join_27 : decode cX1_join 27 = .ok (.aload_n 0, 1) := by decide +kernel
theorem dX1_join_28 : decode cX1_join 28 = .ok (.getfield 18, 3) := by decide +kernel
theorem dX1_join_31 : decode cX1_join 31 = .ok (.iload 6, 2) := by decide +kernel
theorem dX1_join_33 : decode cX1_join 33 = .ok (.iload_n 1, 1) := by decide +kernel
theorem dX1_join_34 : decode cX1_join 34 = .ok (.iastore, 1) := by decide +kernel
theorem dX1_join_35 : decode cX1_join 35 = .ok (.aload_n 0, 1) := by decide +kernel
theorem dX1_join_36 : decode cX1_join 36 = .ok (.getfield 21, 3) := by decide +kernel
theorem dX1_join_39 : decode cX1_join 39 = .ok (.iload 5, 2) := by decide +kernel
theorem dX1_join_41 : decode cX1_join 41 = .ok (.iload 4, 2) := by decide +kernel
theorem dX1_join_43 : decode cX1_join 43 = .ok (.iastore, 1) := by decide +kernel
theorem dX1_join_44 : decode cX1_join 44 = .ok (.aload_n 0, 1) := by decide +kernel
theorem dX1_join_45 : decode cX1_join 45 = .ok (.getfield 21, 3) := by decide +kernel
theorem dX1_join_48 : decode cX1_join 48 = .ok (.iload 6, 2) := by decide +kernel
theorem dX1_join_50 : decode cX1_join 50 = .ok (.iload 4, 2) := by decide +kernel
theorem dX1_join_52 : decode cX1_join 52 = .ok (.iastore, 1) := by decide +kernel
theorem dX1_join_53 : decode cX1_join 53 = .ok (.return_, 1) := by decide +kernel
theorem dX1_reverse_0 : decode cX1_reverse 0 = .ok (.iload_n 0, 1) := by decide +kernel
theorem dX1_reverse_1 : decode cX1_reverse 1 = .ok (.iconst 4, 1) := by decide +kernel
theorem dX1_reverse_2 : decode cX1_reverse 2 = .ok (.if_icmp .ge 9, 3) := by decide +kernel
theorem dX1_reverse_5 : decode cX1_reverse 5 = .ok (.iload_n 0, 1) := by decide +kernel
theorem dX1_reverse_6 : decode cX1_reverse 6 = .ok (.iconst 4, 1) := by decide +kernel
theorem dX1_reverse_7 : decode cX1_reverse 7 = .ok (.iadd, 1) := by decide +kernel
theorem dX1_reverse_8 : decode cX1_reverse 8 = .ok (.goto 6, 3) := by decide +kernel
theorem dX1_reverse_11 : decode cX1_reverse 11 = .ok (.iload_n 0, 1) := by decide +kernel
theorem dX1_reverse_12 : decode cX1_reverse 12 = .ok (.iconst 4, 1) := by decide +kernel
theorem dX1_reverse_13 : decode cX1_reverse 13 = .ok (.isub, 1) := by decide +kernel
theorem dX1_reverse_14 : decode cX1_reverse 14 = .ok (.ireturn, 1) := by decide +kernel
set_option maxRecDepth 20000 in
theorem ggX1_fill_X1_measureDistances : GoodIn wsX1_fill wsX1_measureDistances := goodIn_r _ [8, 9, 1, 3, 10, 11, 12, 13, 14, 15, 16, 7, 17, 18, 19, 20, 33, 34, 35, 36, 37, 38, 39, 40] (by decide +kernel) (by decide +kernel)
set_option maxRecDepth 20000 in
theorem gX1_fill_X1_measureDistances : GoodIn wsX1_fill (wsV RX1 82 RX1 yX1_measureDistances wsX1_measureDistances) := goodIn_app (goodIn_of _ (by decide +kernel)) ggX1_fill_X1_measureDistances
set_option maxRecDepth 20000 in
theorem ggX1_fill_X1_send : GoodIn wsX1_fill wsX1_send := goodIn_r _ [24, 3, 10, 25, 26, 27, 28, 12, 13, 29, 30, 31, 7, 32, 21, 22, 23, 18, 19, 20, 33, 34, 35, 36, 37, 38, 39, 40] (by decide +kernel) (by decide +kernel)
set_option maxRecDepth 20000 in
theorem gX1_fill_X1_send : GoodIn wsX1_fill (wsV RX1 85 RX1 yX1_send wsX1_send) := goodIn_app (goodIn_of _ (by decide +kernel)) ggX1_fill_X1_send
theorem dX1_fill_0 : decode cX1_fill 0 = .ok (.iconst 0, 1) := by decide +kernel
theorem dX1_fill_1 : decode cX1_fill 1 = .ok (.istore_n 1, 1) := by decide +kernel
theorem dX1_fill_2 : decode cX1_fill 2 = .ok (.iconst 0, 1) := by decide +kernel
theorem dX1_fill_3 : decode cX1_fill 3 = .ok (.istore_n 2, 1) := by decide +kernel
theorem dX1_fill_4 : decode cX1_fill 4 = .ok (.iload_n 2, 1) := by decide +kernel
theorem dX1_fill_5 : decode cX1_fill 5 = .ok (.sipush 1000, 3) := by decide +kernel
theorem dX1_fill_8 : decode cX1_fill 8 = .ok (.if_icmp .ge 94, 3) := by decide +kernel
theorem dX1_fill_11 : decode cX1_fill 11 = .ok (.aload_n 0, 1) := by decide +kernel
theorem dX1_fill_12 : decode cX1_fill 12 = .ok (.invokevirtual 82, 3) := by decide +kernel
theorem dX1_fill_15 : decode cX1_fill 15 = .ok (.iload_n 1, 1) := by decide +kernel
theorem dX1_fill_16 : decode cX1_fill 16 = .ok (.istore_n 3, 1) := by decide +kernel
theorem dX1_fill_17 : decode cX1_fill 17 = .ok (.iconst 0, 1) := by decide +kernel
theorem dX1_fill_18 : decode cX1_fill 18 = .ok (.istore 4, 2) := by decide +kernel
theorem dX1_fill_20 : decode cX1_fill 20 = .ok (.iload 4, 2) := by decide +kernel
theorem dX1_fill_22 : decode cX1_fill 22 = .ok (.aload_n 0, 1) := by decide +kernel
theorem dX1_fill_23 : decode cX1_fill 23 = .ok (.getfield 43, 3) := by decide +kernel
theorem dX1_fill_26 : decode cX1_fill 26 = .ok (.if_icmp .ge 62, 3) := by decide +kernel
theorem dX1_fill_29 : decode cX1_fill 29 = .ok (.aload_n 0, 1) := by decide +kernel
theorem dX1_fill_30 : decode cX1_fill 30 = .ok (.getfield 9, 3) := by decide +kernel
theorem dX1_fill_33 : decode cX1_fill 33 = .ok (.iload 4, 2) := by decide +kernel
theorem dX1_fill_35 : decode cX1_fill 35 = .ok (.iaload, 1) := by decide +kernel
theorem dX1_fill_36 : decode cX1_fill 36 = .ok (.ifCond .le 46, 3) := by decide +kernel
theorem dX1_fill_39 : decode cX1_fill 39 = .ok (.aload_n 0, 1) := by decide +kernel
theorem dX1_fill_40 : decode cX1_fill 40 = .ok (.getfield 24, 3) := by decide +kernel
theorem dX1_fill_43 : decode cX1_fill 43 = .ok (.iload 4, 2) := by decide +kernel
theorem dX1_fill_45 : decode cX1_fill 45 = .ok (.iaload, 1) := by decide +kernel
theorem dX1_fill_46 : decode cX1_fill 46 = .ok (.ifCond .le 36, 3) := by decide +kernel
theorem dX1_fill_49 : decode cX1_fill 49 = .ok (.aload_n 0, 1) := by decide +kernel
theorem dX1_fill_50 : decode cX1_fill 50 = .ok (.iload 4, 2) := by decide +kernel
theorem dX1_fill_52 : decode cX1_fill 52 = .ok (.aload_n 0, 1) := by decide +kernel
theorem dX1_fill_53 : decode cX1_fill 53 = .ok (.getfield 9, 3) := by decide +kernel
theorem dX1_fill_56 : decode cX1_fill 56 = .ok (.iload 4, 2) := by decide +kernel
theorem dX1_fill_58 : decode cX1_fill 58 = .ok (.iaload, 1) := by decide +kernel
theorem dX1_fill_59 : decode cX1_fill 59 = .ok (.iconst 1, 1) := by decide +kernel
theorem dX1_fill_60 : decode cX1_fill 60 = .ok (.invokevirtual 85, 3) := by decide +kernel
theorem dX1_fill_63 : decode cX1_fill 63 = .ok (.istore 5, 2) := by decide +kernel
theorem dX1_fill_65 : decode cX1_fill 65 = .ok (.aload_n 0, 1) := by decide +kernel
theorem dX1_fill_66 : decode cX1_fill 66 = .ok (.getfield 9, 3) := by decide +kernel
theorem dX1_fill_69 : decode cX1_fill 69 = .ok (.iload 4, 2) := by decide +kernel
theorem dX1_fill_71 : decode cX1_fill 71 = .ok (.dup2, 1) := by decide +kernel
theorem dX1_fill_72 : decode cX1_fill 72 = .ok (.iaload, 1) := by decide +kernel
theorem dX1_fill_73 : decode cX1_fill 73 = .ok (.iload 5, 2) := by decide +kernel
theorem dX1_fill_75 : decode cX1_fill 75 = .ok (.isub, 1) := by decide +kernel
theorem dX1_fill_76 : decode cX1_fill 76 = .ok (.iastore, 1) := by decide +kernel
theorem dX1_fill_77 : decode cX1_fill 77 = .ok (.iload_n 1, 1) := by decide +kernel
theorem dX1_fill_78 : decode cX1_fill 78 = .ok (.iload 5, 2) := by decide +kernel
theorem dX1_fill_80 : decode cX1_fill 80 = .ok (.iadd, 1) := by decide +kernel
theorem dX1_fill_81 : decode cX1_fill 81 = .ok (.istore_n 1, 1) := by decide +kernel
theorem dX1_fill_82 : decode cX1_fill 82 = .ok (.iinc 4 1, 3) := by decide +kernel
theorem dX1_fill_85 : decode cX1_fill 85 = .ok (.goto (-65), 3) := by decide +kernel
theorem dX1_fill_88 : decode cX1_fill 88 = .ok (.iload_n 1, 1) := by decide +kernel
theorem dX1_fill_89 : decode cX1_fill 89 = .ok (.iload_n 3, 1) := by decide +kernel
theorem dX1_fill_90 : decode cX1_fill 90 = .ok (.if_icmp .ne 6, 3) := by decide +kernel
theorem dX1_fill_93 : decode cX1_fill 93 = .ok (.goto 9, 3) := by decide +kernel
theorem dX1_fill_96 : decode cX1_fill 96 = .ok (.iinc 2 1, 3) := by decide +kernel
theorem dX1_fill_99 : decode cX1_fill 99 = .ok (.goto (-95), 3) := by decide +kernel
theorem dX1_fill_102 : decode cX1_fill 102 = .ok (.iload_n 1, 1) := by decide +kernel
theorem dX1_fill_103 : decode cX1_fill 103 = .ok (.ireturn, 1) := by decide +kernel
set_option maxRecDepth 20000 in
theorem ggX1_measureDistances_X1_enqueue : GoodIn wsX1_measureDistances wsX1_enqueue := goodIn_r _ [12, 1, 5, 16, 17, 18, 19, 20, 21, 22, 23] (by decide +kernel) (by decide +kernel)
set_option maxRecDepth 20000 in
theorem gX1_measureDistances_X1_enqueue : GoodIn wsX1_measureDistances (wsV RX1 91 RX1 yX1_enqueue wsX1_enqueue) := goodIn_app (goodIn_of _ (by decide +kernel)) ggX1_measureDistances_X1_enqueue
set_option maxRecDepth 20000 in
theorem ggX1_measureDistances_X1_reverse : GoodIn wsX1_measureDistances wsX1_reverse := goodIn_r _ [15] (by decide +kernel) (by decide +kernel)
set_option maxRecDepth 20000 in
theorem gX1_measureDistances_X1_reverse : GoodIn wsX1_measureDistances (va_wsS RX1 78 yX1_reverse wsX1_reverse) := goodIn_app (goodIn_of _ (by decide +kernel)) ggX1_measureDistances_X1_reverse
theorem dX1_measureDistances_0 : decode cX1_measureDistances 0 = .ok (.aload_n 0, 1) := by decide +kernel
theorem dX1_measureDistances_1 : decode cX1_measureDistances 1 = .ok (.iconst 0, 1) := by decide +kernel
theorem dX1_measureDistances_2 : decode cX1_measureDistances 2 = .ok (.putfield 88, 3) := by decide +kernel
theorem dX1_measureDistances_5 : decode cX1_measureDistances 5 = .ok (.iconst 0, 1) := by decide +kernel
theorem dX1_measureDistances_6 : decode cX1_measureDistances 6 = .ok (.istore_n 1, 1) := by decide +kernel
theorem dX1_measureDistances_7 : decode cX1_measureDistances 7 = .ok (.iload_n 1, 1) := by decide +kernel
theorem dX1_measureDistances_8 : decode cX1_measureDistances 8 = .ok (.aload_n 0, 1) := by decide +kernel
theorem dX1_measureDistances_9 : decode cX1_measureDistances 9 = .ok (.getfield 43, 3) := by decide +kernel
theorem dX1_measureDistances_12 : decode cX1_measureDistances 12 = .ok (.if_icmp .ge 37, 3) := by decide +kernel
theorem dX1_measureDistances_15 : decode cX1_measureDistances 15 = .ok (.aload_n 0, 1) := by decide +kernel
theorem dX1_measureDistances_16 : decode cX1_measureDistances 16 = .ok (.getfield 24, 3) := by decide +kernel
theorem dX1_measureDistances_19 : decode cX1_measureDistances 19 = .ok (.iload_n 1, 1) := by decide +kernel
theorem dX1_measureDistances_20 : decode cX1_measureDistances 20 = .ok (.iconst 0, 1) := by decide +kernel
theorem dX1_measureDistances_21 : decode cX1_measureDistances 21 = .ok (.iastore, 1) := by decide +kernel
theorem dX1_measureDistances_22 : decode cX1_measureDistances 22 = .ok (.aload_n 0, 1) := by decide +kernel
theorem dX1_measureDistances_23 : decode cX1_measureDistances 23 = .ok (.getfield 15, 3) := by decide +kernel
theorem dX1_measureDistances_26 : decode cX1_measureDistances 26 = .ok (.iload_n 1, 1) := by decide +kernel
theorem dX1_measureDistances_27 : decode cX1_measureDistances 27 = .ok (.iaload, 1) := by decide +kernel
theorem dX1_measureDistances_28 : decode cX1_measureDistances 28 = .ok (.ifCond .le 15, 3) := by decide +kernel
theorem dX1_measureDistances_31 : decode cX1_measureDistances 31 = .ok (.aload_n 0, 1) := by decide +kernel
theorem dX1_measureDistances_32 : decode cX1_measureDistances 32 = .ok (.getfield 24, 3) := by decide +kernel
theorem dX1_measureDistances_35 : decode cX1_measureDistances 35 = .ok (.iload_n 1, 1) := by decide +kernel
theorem dX1_measureDistances_36 : decode cX1_measureDistances 36 = .ok (.iconst 1, 1) := by decide +kernel
theorem dX1_measureDistances_37 : decode cX1_measureDistances 37 = .ok (.iastore, 1) := by decide +kernel
theorem dX1_measureDistances_38 : decode cX1_measureDistances 38 = .ok (.aload_n 0, 1) := by decide +kernel
theorem dX1_measureDistances_39 : decode cX1_measureDistances 39 = .ok (.iload_n 1, 1) := by decide +kernel
theorem dX1_measureDistances_40 : decode cX1_measureDistances 40 = .ok (.invokevirtual 91, 3) := by decide +kernel
theorem dX1_measureDistances_43 : decode cX1_measureDistances 43 = .ok (.iinc 1 1, 3) := by decide +kernel
theorem dX1_measureDistances_46 : decode cX1_measureDistances 46 = .ok (.goto (-39), 3) := by decide +kernel
theorem dX1_measureDistances_49 : decode cX1_measureDistances 49 = .ok (.iconst 0, 1) := by decide +kernel
theorem dX1_measureDistances_50 : decode cX1_measureDistances 50 = .ok (.istore_n 1, 1) := by decide +kernel
theorem dX1_measureDistances_51 : decode cX1_measureDistances 51 = .ok (.iload_n 1, 1) := by decide +kernel
theorem dX1_measureDistances_52 : decode cX1_measureDistances 52 = .ok (.aload_n 0, 1) := by decide +kernel
theorem dX1_measureDistances_53 : decode cX1_measureDistances 53 = .ok (.getfield 88, 3) := by decide +kernel
theorem dX1_measureDistances_56 : decode cX1_measureDistances 56 = .ok (.if_icmp .ge 98, 3) := by decide +kernel
theorem dX1_measureDistances_59 : decode cX1_measureDistances 59 = .ok (.aload_n 0, 1) := by decide +kernel
theorem dX1_measureDistances_60 : decode cX1_measureDistances 60 = .ok (.getfield 27, 3) := by decide +kernel
theorem dX1_measureDistances_63 : decode cX1_measureDistances 63 = .ok (.iload_n 1, 1) := by decide +kernel
theorem dX1_measureDistances_64 : decode cX1_measureDistances 64 = .ok (.iaload, 1) := by decide +kernel
theorem dX1_measureDistances_65 : decode cX1_measureDistances 65 = .ok (.istore_n 2, 1) := by decide +kernel
theorem dX1_measureDistances_66 : decode cX1_measureDistances 66 = .ok (.iconst 0, 1) := by decide +kernel
theorem dX1_measureDistances_67 : decode cX1_measureDistances 67 = .ok (.istore_n 3, 1) := by decide +kernel
theorem dX1_measureDistances_68 : decode cX1_measureDistances 68 = .ok (.iload_n 3, 1) := by decide +kernel
theorem dX1_measureDistances_69 : decode cX1_measureDistances 69 = .ok (.bipush 8, 2) := by decide +kernel
theorem dX1_measureDistances_71 : decode cX1_measureDistances 71 = .ok (.if_icmp .ge 77, 3) := by decide +kernel
theorem dX1_measureDistances_74 : decode cX1_measureDistances 74 = .ok (.aload_n 0, 1) := by decide +kernel
theorem dX1_measureDistances_75 : decode cX1_measureDistances 75 = .ok (.getfield 18, 3) := by decide +kernel
theorem dX1_measureDistances_78 : decode cX1_measureDistances 78 = .ok (.iload_n 2, 1) := by decide +kernel
theorem dX1_measureDistances_79 : decode cX1_measureDistances 79 = .ok (.bipush 8, 2) := by decide +kernel
theorem dX1_measureDistances_81 : decode cX1_measureDistances 81 = .ok (.imul, 1) := by decide +kernel
theorem dX1_measureDistances_82 : decode cX1_measureDistances 82 = .ok (.iload_n 3, 1) := by decide +kernel
theorem dX1_measureDistances_83 : decode cX1_measureDistances 83 = .ok (.iadd, 1) := by decide +kernel
theorem dX1_measureDistances_84 : decode cX1_measureDistances 84 = .ok (.iaload, 1) := by decide +kernel
theorem dX1_measureDistances_85 : decode cX1_measureDistances 85 = .ok (.istore 4, 2) := by decide +kernel
theorem dX1_measureDistances_87 : decode cX1_measureDistances 87 = .ok (.iload 4, 2) := by decide +kernel
theorem dX1_measureDistances_89 : decode cX1_measureDistances 89 = .ok (.iconst (-1), 1) := by decide +kernel
theorem dX1_measureDistances_90 : decode cX1_measureDistances 90 = .ok (.if_icmp .eq 52, 3) := by decide +kernel
theorem dX1_measureDistances_93 : decode cX1_measureDistances 93 = .ok (.aload_n 0, 1) := by decide +kernel
theorem dX1_measureDistances_94 : decode cX1_measureDistances 94 = .ok (.getfield 24, 3) := by decide +kernel
theorem dX1_measureDistances_97 : decode cX1_measureDistances 97 = .ok (.iload 4, 2) := by decide +kernel
theorem dX1_measureDistances_99 : decode cX1_measureDistances 99 = .ok (.iaload, 1) := by decide +kernel
theorem dX1_measureDistances_100 : decode cX1_measureDistances 100 = .ok (.ifCond .ne 42, 3) := by decide +kernel
theorem dX1_measureDistances_103 : decode cX1_measureDistances 103 = .ok (.aload_n 0, 1) := by decide +kernel
theorem dX1_measureDistances_104 : decode cX1_measureDistances 104 = .ok (.getfield 21, 3) := by decide +kernel
theorem dX1_measureDistances_107 : decode cX1_measureDistances 107 = .ok (.iload 4, 2) := by decide +kernel
theorem dX1_measureDistances_109 : decode cX1_measureDistances 109 = .ok (.bipush 8, 2) := by decide +kernel
theorem dX1_measureDistances_111 : decode cX1_measureDistances 111 = .ok (.imul, 1) := by decide +kernel
theorem dX1_measureDistances_112 : decode cX1_measureDistances 112 = .ok (.iload_n 3, 1) := by decide +kernel
theorem dX1_measureDistances_113 : decode cX1_measureDistances 113 = .ok (.invokestatic 78, 3) := by decide +kernel
theorem dX1_measureDistances_116 : decode cX1_measureDistances 116 = .ok (.iadd, 1) := by decide +kernel
theorem dX1_measureDistances_117 : decode cX1_measureDistances 117 = .ok (.iaload, 1) := by decide +kernel
theorem dX1_measureDistances_118 : decode cX1_measureDistances 118 = .ok (.ifCond .le 24, 3) := by decide +kernel
theorem dX1_measureDistances_121 : decode cX1_measureDistances 121 = .ok (.aload_n 0, 1) := by decide +kernel
theorem dX1_measureDistances_122 : decode cX1_measureDistances 122 = .ok (.getfield 24, 3) := by decide +kernel
theorem dX1_measureDistances_125 : decode cX1_measureDistances 125 = .ok (.iload 4, 2) := by decide +kernel
theorem dX1_measureDistances_127 : decode cX1_measureDistances 127 = .ok (.aload_n 0, 1) := by decide +kernel
theorem dX1_measureDistances_128 : decode cX1_measureDistances 128 = .ok (.getfield 24, 3) := by decide +kernel
theorem dX1_measureDistances_131 : decode cX1_measureDistances 131 = .ok (.iload_n 2, 1) := by decide +kernel
theorem dX1_measureDistances_132 : decode cX1_measureDistances 132 = .ok (.iaload, 1) := by decide +kernel
theorem dX1_measureDistances_133 : decode cX1_measureDistances 133 = .ok (.iconst 1, 1) := by decide +kernel
theorem dX1_measureDistances_134 : decode cX1_measureDistances 134 = .ok (.iadd, 1) := by decide +kernel
theorem dX1_measureDistances_135 : decode cX1_measureDistances 135 = .ok (.iastore, 1) := by decide +kernel
theorem dX1_measureDistances_136 : decode cX1_measureDistances 136 = .ok (.aload_n 0, 1) := by decide +kernel
theorem dX1_measureDistances_137 : decode cX1_measureDistances 137 = .ok (.iload 4, 2) := by decide +kernel
theorem dX1_measureDistances_139 : decode cX1_measureDistances 139 = .ok (.invokevirtual 91, 3) := by decide +kernel
theorem dX1_measureDistances_142 : decode cX1_measureDistances 142 = .ok (.iinc 3 1, 3) := by decide +kernel
theorem dX1_measureDistances_145 : decode cX1_measureDistances 145 = .ok (.goto (-77), 3) := by decide +kernel
theorem dX1_measureDistances_148 : decode cX1_measureDistances 148 = .ok (.iinc 1 1, 3) := by decide +kernel
theorem dX1_measureDistances_151 : decode cX1_measureDistances 151 = .ok (.goto (-100), 3) := by decide +kernel
theorem dX1_measureDistances_154 : decode cX1_measureDistances 154 = .ok (.return_, 1) := by decide +kernel
theorem dX1_enqueue_0 : decode cX1_enqueue 0 = .ok (.aload_n 0, 1) := by decide +kernel
theorem dX1_enqueue_1 : decode cX1_enqueue 1 = .ok (.getfield 88, 3) := by decide +kernel
theorem dX1_enqueue_4 : decode cX1_enqueue 4 = .ok (.aload_n 0, 1) := by decide +kernel
theorem dX1_enqueue_5 : decode cX1_enqueue 5 = .ok (.getfield 27, 3) := by decide +kernel
theorem dX1_enqueue_8 : decode cX1_enqueue 8 = .ok (.arraylength, 1) := by decide +kernel
theorem dX1_enqueue_9 : decode cX1_enqueue 9 = .ok (.if_icmp .ge 23, 3) := by decide +kernel
theorem dX1_enqueue_12 : decode cX1_enqueue 12 = .ok (.aload_n 0, 1) := by decide +kernel
theorem dX1_enqueue_13 : decode cX1_enqueue 13 = .ok (.getfield 27, 3) := by decide +kernel
theorem dX1_enqueue_16 : decode cX1_enqueue 16 = .ok (.aload_n 0, 1) := by decide +kernel
theorem dX1_enqueue_17 : decode cX1_enqueue 17 = .ok (.getfield 88, 3) := by decide +kernel
theorem dX1_enqueue_20 : decode cX1_enqueue 20 = .ok (.iload_n 1, 1) := by decide +kernel
theorem dX1_enqueue_21 : decode cX1_enqueue 21 = .ok (.iastore, 1) := by decide +kernel
theorem dX1_enqueue_22 : decode cX1_enqueue 22 = .ok (.aload_n 0, 1) := by decide +kernel
theorem dX1_enqueue_23 : decode cX1_enqueue 23 = .ok (.dup, 1) := by decide +kernel
theorem dX1_enqueue_24 : decode cX1_enqueue 24 = .ok (.getfield 88, 3) := by decide +kernel
theorem dX1_enqueue_27 : decode cX1_enqueue 27 = .ok (.iconst 1, 1) := by decide +kernel
theorem dX1_enqueue_28 : decode cX1_enqueue 28 = .ok (.iadd, 1) := by decide +kernel
theorem dX1_enqueue_29 : decode cX1_enqueue 29 = .ok (.putfield 88, 3) := by decide +kernel
theorem dX1_enqueue_32 : decode cX1_enqueue 32 = .ok (.return_, 1) := by decide +kernel
set_option maxRecDepth 20000 in
theorem ggX1_send_X1_isNext : GoodIn wsX1_send wsX1_isNext := goodIn_r _ [13, 1, 20, 21, 22, 23, 24, 25, 26, 27] (by decide +kernel) (by decide +kernel)
set_option maxRecDepth 20000 in
theorem gX1_send_X1_isNext : GoodIn wsX1_send (wsV RX1 100 RX1 yX1_isNext wsX1_isNext) := goodIn_app (goodIn_of _ (by decide +kernel)) ggX1_send_X1_isNext
set_option maxRecDepth 20000 in
theorem ggX1_send_X1_send : GoodIn wsX1_send wsX1_send := goodIn_r _ [0, 1, 2, 3, 4, 5, 6, 7, 8, 9, 10, 11, 12, 13, 14, 15, 16, 17, 18, 19, 20, 21, 22, 23, 24, 25, 26, 27] (by decide +kernel) (by decide +kernel)
set_option maxRecDepth 20000 in
theorem gX1_send_X1_send : GoodIn wsX1_send (wsV RX1 85 RX1 yX1_send wsX1_send) := goodIn_app (goodIn_of _ (by decide +kernel)) ggX1_send_X1_send
set_option maxRecDepth 20000 in
theorem ggX1_send_X1_reverse : GoodIn wsX1_send wsX1_reverse := goodIn_r _ [19] (by decide +kernel) (by decide +kernel)
set_option maxRecDepth 20000 in
theorem gX1_send_X1_reverse : GoodIn wsX1_send (va_wsS RX1 78 yX1_reverse wsX1_reverse) := goodIn_app (goodIn_of _ (by decide +kernel)) ggX1_send_X1_reverse
theorem dX1_send_0 : decode cX1_send 0 = .ok (.iload_n 3, 1) := by decide +kernel
theorem dX1_send_1 : decode cX1_send 1 = .ok (.bipush 36, 2) := by decide +kernel
theorem dX1_send_3 : decode cX1_send 3 = .ok (.if_icmp .le 5, 3) := by decide +kernel
theorem dX1_send_6 : decode cX1_send 6 = .ok (.iconst 0, 1) := by decide +kernel
theorem dX1_send_7 : decode cX1_send 7 = .ok (.ireturn, 1) := by decide +kernel
theorem dX1_send_8 : decode cX1_send 8 = .ok (.iconst 0, 1) := by decide +kernel
theorem dX1_send_9 : decode cX1_send 9 = .ok (.istore 4, 2) := by decide +kernel
theorem dX1_send_11 : decode cX1_send 11 = .ok (.aload_n 0, 1) := by decide +kernel
theorem dX1_send_12 : decode cX1_send 12 = .ok (.getfield 24, 3) := by decide +kernel
theorem dX1_send_15 : decode cX1_send 15 = .ok (.iload_n 1, 1) := by decide +kernel
theorem dX1_send_16 : decode cX1_send 16 = .ok (.iaload, 1) := by decide +kernel
theorem dX1_send_17 : decode cX1_send 17 = .ok (.iconst 1, 1) := by decide +kernel
theorem dX1_send_18 : decode cX1_send 18 = .ok (.if_icmp .ne 26, 3) := by decide +kernel
theorem dX1_send_21 : decode cX1_send 21 = .ok (.iload_n 2, 1) := by decide +kernel
theorem dX1_send_22 : decode cX1_send 22 = .ok (.aload_n 0, 1) := by decide +kernel
theorem dX1_send_23 : decode cX1_send 23 = .ok (.getfield 15, 3) := by decide +kernel
theorem dX1_send_26 : decode cX1_send 26 = .ok (.iload_n 1, 1) := by decide +kernel
theorem dX1_send_27 : decode cX1_send 27 = .ok (.iaload, 1) := by decide +kernel
theorem dX1_send_28 : decode cX1_send 28 = .ok (.invokestatic 95, 3) := by decide +kernel
theorem dX1_send_31 : decode cX1_send 31 = .ok (.istore 4, 2) := by decide +kernel
theorem dX1_send_33 : decode cX1_send 33 = .ok (.aload_n 0, 1) := by decide +kernel
theorem dX1_send_34 : decode cX1_send 34 = .ok (.getfield 15, 3) := by decide +kernel
theorem dX1_send_37 : decode cX1_send 37 = .ok (.iload_n 1, 1) := by decide +kernel
theorem dX1_send_38 : decode cX1_send 38 = .ok (.dup2, 1) := by decide +kernel
theorem dX1_send_39 : decode cX1_send 39 = .ok (.iaload, 1) := by decide +kernel
theorem dX1_send_40 : decode cX1_send 40 = .ok (.iload 4, 2) := by decide +kernel
theorem dX1_send_42 : decode cX1_send 42 = .ok (.isub, 1) := by decide +kernel
theorem dX1_send_43 : decode cX1_send 43 = .ok (.iastore, 1) := by decide +kernel
theorem dX1_send_44 : decode cX1_send 44 = .ok (.iconst 0, 1) := by decide +kernel
theorem dX1_send_45 : decode cX1_send 45 = .ok (.istore 5, 2) := by decide +kernel
theorem dX1_send_47 : decode cX1_send 47 = .ok (.iload 5, 2) := by decide +kernel
theorem dX1_send_49 : decode cX1_send 49 = .ok (.bipush 8, 2) := by decide +kernel
theorem dX1_send_51 : decode cX1_send 51 = .ok (.if_icmp .ge 124, 3) := by decide +kernel
theorem dX1_send_54 : decode cX1_send 54 = .ok (.iload 4, 2) := by decide +kernel
theorem dX1_send_56 : decode cX1_send 56 = .ok (.iload_n 2, 1) := by decide +kernel
theorem dX1_send_57 : decode cX1_send 57 = .ok (.if_icmp .ge 118, 3) := by decide +kernel
theorem dX1_send_60 : decode cX1_send 60 = .ok (.iload_n 1, 1) := by decide +kernel
theorem dX1_send_61 : decode cX1_send 61 = .ok (.bipush 8, 2) := by decide +kernel
theorem dX1_send_63 : decode cX1_send 63 = .ok (.imul, 1) := by decide +kernel
theorem dX1_send_64 : decode cX1_send 64 = .ok (.iload 5, 2) := by decide +kernel
theorem dX1_send_66 : decode cX1_send 66 = .ok (.iadd, 1) := by decide +kernel
theorem dX1_send_67 : decode cX1_send 67 = .ok (.istore 6, 2) := by decide +kernel
theorem dX1_send_69 : decode cX1_send 69 = .ok (.aload_n 0, 1) := by decide +kernel
theorem dX1_send_70 : decode cX1_send 70 = .ok (.getfield 18, 3) := by decide +kernel
theorem dX1_send_73 : decode cX1_send 73 = .ok (.iload 6, 2) := by decide +kernel
theorem dX1_send_75 : decode cX1_send 75 = .ok (.iaload, 1) := by decide +kernel
theorem dX1_send_76 : decode cX1_send 76 = .ok (.istore 7, 2) := by decide +kernel
theorem dX1_send_78 : decode cX1_send 78 = .ok (.iload 7, 2) := by decide +kernel
theorem dX1_send_80 : decode cX1_send 80 = .ok (.iconst (-1), 1) := by decide +kernel
theorem dX1_send_81 : decode cX1_send 81 = .ok (.if_icmp .eq 88, 3) := by decide +kernel
theorem dX1_send_84 : decode cX1_send 84 = .ok (.aload_n 0, 1) := by decide +kernel
theorem dX1_send_85 : decode cX1_send 85 = .ok (.getfield 21, 3) := by decide +kernel
theorem dX1_send_88 : decode cX1_send 88 = .ok (.iload 6, 2) := by decide +kernel
theorem dX1_send_90 : decode cX1_send 90 = .ok (.iaload, 1) := by decide +kernel
theorem dX1_send_91 : decode cX1_send 91 = .ok (.ifCond .le 78, 3) := by decide +kernel
theorem dX1_send_94 : decode cX1_send 94 = .ok (.aload_n 0, 1) := by decide +kernel
theorem dX1_send_95 : decode cX1_send 95 = .ok (.iload_n 1, 1) := by decide +kernel
theorem dX1_send_96 : decode cX1_send 96 = .ok (.iload 7, 2) := by decide +kernel
theorem dX1_send_98 : decode cX1_send 98 = .ok (.invokevirtual 100, 3) := by decide +kernel
theorem dX1_send_101 : decode cX1_send 101 = .ok (.ifCond .eq 68, 3) := by decide +kernel
theorem dX1_send_104 : decode cX1_send 104 = .ok (.aload_n 0, 1) := by decide +kernel
theorem dX1_send_105 : decode cX1_send 105 = .ok (.iload 7, 2) := by decide +kernel
theorem dX1_send_107 : decode cX1_send 107 = .ok (.iload_n 2, 1) := by decide +kernel
theorem dX1_send_108 : decode cX1_send 108 = .ok (.iload 4, 2) := by decide +kernel
theorem dX1_send_110 : decode cX1_send 110 = .ok (.isub, 1) := by decide +kernel
theorem dX1_send_111 : decode cX1_send 111 = .ok (.aload_n 0, 1) := by decide +kernel
theorem dX1_send_112 : decode cX1_send 112 = .ok (.getfield 21, 3) := by decide +kernel
theorem dX1_send_115 : decode cX1_send 115 = .ok (.iload 6, 2) := by decide +kernel
theorem dX1_send_117 : decode cX1_send 117 = .ok (.iaload, 1) := by decide +kernel
theorem dX1_send_118 : decode cX1_send 118 = .ok (.invokestatic 95, 3) := by decide +kernel
theorem dX1_send_121 : decode cX1_send 121 = .ok (.iload_n 3, 1) := by decide +kernel
theorem dX1_send_122 : decode cX1_send 122 = .ok (.iconst 1, 1) := by decide +kernel
theorem dX1_send_123 : decode cX1_send 123 = .ok (.iadd, 1) := by decide +kernel
theorem dX1_send_124 : decode cX1_send 124 = .ok (.invokevirtual 85, 3) := by decide +kernel
theorem dX1_send_127 : decode cX1_send 127 = .ok (.istore 8, 2) := by decide +kernel
theorem dX1_send_129 : decode cX1_send 129 = .ok (.aload_n 0, 1) := by decide +kernel
theorem dX1_send_130 : decode cX1_send 130 = .ok (.getfield 21, 3) := by decide +kernel
theorem dX1_send_133 : decode cX1_send 133 = .ok (.iload 6, 2) := by decide +kernel
theorem dX1_send_135 : decode cX1_send 135 = .ok (.dup2, 1) := by decide +kernel
theorem dX1_send_136 : decode cX1_send 136 = .ok (.iaload, 1) := by decide +kernel
theorem dX1_send_137 : decode cX1_send 137 = .ok (.iload 8, 2) := by decide +kernel
theorem dX1_send_139 : decode cX1_send 139 = .ok (.isub, 1) := by decide +kernel
theorem dX1_send_140 : decode cX1_send 140 = .ok (.iastore, 1) := by decide +kernel
theorem dX1_send_141 : decode cX1_send 141 = .ok (.aload_n 0, 1) := by decide +kernel
theorem dX1_send_142 : decode cX1_send 142 = .ok (.getfield 21, 3) := by decide +kernel
theorem dX1_send_145 : decode cX1_send 145 = .ok (.iload 7, 2) := by decide +kernel
theorem dX1_send_147 : decode cX1_send 147 = .ok (.bipush 8, 2) := by decide +kernel
theorem dX1_send_149 : decode cX1_send 149 = .ok (.imul, 1) := by decide +kernel
theorem dX1_send_150 : decode cX1_send 150 = .ok (.iload 5, 2) := by decide +kernel
theorem dX1_send_152 : decode cX1_send 152 = .ok (.invokestatic 78, 3) := by decide +kernel
theorem dX1_send_155 : decode cX1_send 155 = .ok (.iadd, 1) := by decide +kernel
theorem dX1_send_156 : decode cX1_send 156 = .ok (.dup2, 1) := by decide +kernel
theorem dX1_send_157 : decode cX1_send 157 = .ok (.iaload, 1) := by decide +kernel
theorem dX1_send_158 : decode cX1_send 158 = .ok (.iload 8, 2) := by decide +kernel
theorem dX1_send_160 : decode cX1_send 160 = .ok (.iadd, 1) := by decide +kernel
theorem dX1_send_161 : decode cX1_send 161 = .ok (.iastore, 1) := by decide +kernel
theorem dX1_send_162 : decode cX1_send 162 = .ok (.iload 4, 2) := by decide +kernel
theorem dX1_send_164 : decode cX1_send 164 = .ok (.iload 8, 2) := by decide +kernel
theorem dX1_send_166 : decode cX1_send 166 = .ok (.iadd, 1) := by decide +kernel
theorem dX1_send_167 : decode cX1_send 167 = .ok (.istore 4, 2) := by decide +kernel
theorem dX1_send_169 : decode cX1_send 169 = .ok (.iinc 5 1, 3) := by decide +kernel
theorem dX1_send_172 : decode cX1_send 172 = .ok (.goto (-125), 3) := by decide +kernel
theorem dX1_send_175 : decode cX1_send 175 = .ok (.iload 4, 2) := by decide +kernel
theorem dX1_send_177 : decode cX1_send 177 = .ok (.iload_n 2, 1) := by decide +kernel
theorem dX1_send_178 : decode cX1_send 178 = .ok (.if_icmp .ge 10, 3) := by decide +kernel
theorem dX1_send_181 : decode cX1_send 181 = .ok (.aload_n 0, 1) := by decide +kernel
theorem dX1_send_182 : decode cX1_send 182 = .ok (.getfield 24, 3) := by decide +kernel
theorem dX1_send_185 : decode cX1_send 185 = .ok (.iload_n 1, 1) := by decide +kernel
theorem dX1_send_186 : decode cX1_send 186 = .ok (.iconst 0, 1) := by decide +kernel
theorem dX1_send_187 : decode cX1_send 187 = .ok (.iastore, 1) := by decide +kernel
theorem dX1_send_188 : decode cX1_send 188 = .ok (.iload 4, 2) := by decide +kernel
theorem dX1_send_190 : decode cX1_send 190 = .ok (.ireturn, 1) := by decide +kernel
theorem dX1_isNext_0 : decode cX1_isNext 0 = .ok (.aload_n 0, 1) := by decide +kernel
theorem dX1_isNext_1 : decode cX1_isNext 1 = .ok (.getfield 24, 3) := by decide +kernel
theorem dX1_isNext_4 : decode cX1_isNext 4 = .ok (.iload_n 2, 1) := by decide +kernel
theorem dX1_isNext_5 : decode cX1_isNext 5 = .ok (.iaload, 1) := by decide +kernel
theorem dX1_isNext_6 : decode cX1_isNext 6 = .ok (.ifCond .le 24, 3) := by decide +kernel
theorem dX1_isNext_9 : decode cX1_isNext 9 = .ok (.aload_n 0, 1) := by decide +kernel
theorem dX1_isNext_10 : decode cX1_isNext 10 = .ok (.getfield 24, 3) := by decide +kernel
theorem dX1_isNext_13 : decode cX1_isNext 13 = .ok (.iload_n 2, 1) := by decide +kernel
theorem dX1_isNext_14 : decode cX1_isNext 14 = .ok (.iaload, 1) := by decide +kernel
theorem dX1_isNext_15 : decode cX1_isNext 15 = .ok (.aload_n 0, 1) := by decide +kernel
theorem dX1_isNext_16 : decode cX1_isNext 16 = .ok (.getfield 24, 3) := by decide +kernel
theorem dX1_isNext_19 : decode cX1_isNext 19 = .ok (.iload_n 1, 1) := by decide +kernel
theorem dX1_isNext_20 : decode cX1_isNext 20 = .ok (.iaload, 1) := by decide +kernel
theorem dX1_isNext_21 : decode cX1_isNext 21 = .ok (.iconst 1, 1) := by decide +kernel
theorem dX1_isNext_22 : decode cX1_isNext 22 = .ok (.isub, 1) := by decide +kernel
theorem dX1_isNext_23 : decode cX1_isNext 23 = .ok (.if_icmp .ne 7, 3) := by decide +kernel
theorem dX1_isNext_26 : decode cX1_isNext 26 = .ok (.iconst 1, 1) := by decide +kernel
theorem dX1_isNext_27 : decode cX1_isNext 27 = .ok (.goto 4, 3) := by decide +kernel
theorem dX1_isNext_30 : decode cX1_isNext 30 = .ok (.iconst 0, 1) := by decide +kernel
theorem dX1_isNext_31 : decode cX1_isNext 31 = .ok (.ireturn, 1) := by decide +kernel
set_option maxRecDepth 20000 in
theorem ggX1_leastSet_X1_spread : GoodIn wsX1_leastSet wsX1_spread := goodIn_r _ [7, 8, 1, 9, 10, 11, 12, 13, 14, 15, 16, 17, 6, 18, 19, 20, 21, 22, 23, 24, 25, 26] (by decide +kernel) (by decide +kernel)
set_option maxRecDepth 20000 in
theorem gX1_leastSet_X1_spread : GoodIn wsX1_leastSet (wsV RX1 104 RX1 yX1_spread wsX1_spread) := goodIn_app (goodIn_of _ (by decide +kernel)) ggX1_leastSet_X1_spread
theorem dX1_leastSet_0 : decode cX1_leastSet 0 = .ok (.lconst 0, 1) := by decide +kernel
theorem dX1_leastSet_1 : decode cX1_leastSet 1 = .ok (.lstore_n 1, 1) := by decide +kernel
theorem dX1_leastSet_2 : decode cX1_leastSet 2 = .ok (.iconst 0, 1) := by decide +kernel
theorem dX1_leastSet_3 : decode cX1_leastSet 3 = .ok (.istore_n 3, 1) := by decide +kernel
theorem dX1_leastSet_4 : decode cX1_leastSet 4 = .ok (.iload_n 3, 1) := by decide +kernel
theorem dX1_leastSet_5 : decode cX1_leastSet 5 = .ok (.aload_n 0, 1) := by decide +kernel
theorem dX1_leastSet_6 : decode cX1_leastSet 6 = .ok (.getfield 43, 3) := by decide +kernel
theorem dX1_leastSet_9 : decode cX1_leastSet 9 = .ok (.if_icmp .ge 24, 3) := by decide +kernel
theorem dX1_leastSet_12 : decode cX1_leastSet 12 = .ok (.aload_n 0, 1) := by decide +kernel
theorem dX1_leastSet_13 : decode cX1_leastSet 13 = .ok (.getfield 9, 3) := by decide +kernel
theorem dX1_leastSet_16 : decode cX1_leastSet 16 = .ok (.iload_n 3, 1) := by decide +kernel
theorem dX1_leastSet_17 : decode cX1_leastSet 17 = .ok (.iaload, 1) := by decide +kernel
theorem dX1_leastSet_18 : decode cX1_leastSet 18 = .ok (.ifCond .le 9, 3) := by decide +kernel
theorem dX1_leastSet_21 : decode cX1_leastSet 21 = .ok (.lload_n 1, 1) := by decide +kernel
theorem dX1_leastSet_22 : decode cX1_leastSet 22 = .ok (.lconst 1, 1) := by decide +kernel
theorem dX1_leastSet_23 : decode cX1_leastSet 23 = .ok (.iload_n 3, 1) := by decide +kernel
theorem dX1_leastSet_24 : decode cX1_leastSet 24 = .ok (.lshl, 1) := by decide +kernel
theorem dX1_leastSet_25 : decode cX1_leastSet 25 = .ok (.lor, 1) := by decide +kernel
theorem dX1_leastSet_26 : decode cX1_leastSet 26 = .ok (.lstore_n 1, 1) := by decide +kernel
theorem dX1_leastSet_27 : decode cX1_leastSet 27 = .ok (.iinc 3 1, 3) := by decide +kernel
theorem dX1_leastSet_30 : decode cX1_leastSet 30 = .ok (.goto (-26), 3) := by decide +kernel
theorem dX1_leastSet_33 : decode cX1_leastSet 33 = .ok (.aload_n 0, 1) := by decide +kernel
theorem dX1_leastSet_34 : decode cX1_leastSet 34 = .ok (.lload_n 1, 1) := by decide +kernel
theorem dX1_leastSet_35 : decode cX1_leastSet 35 = .ok (.invokevirtual 104, 3) := by decide +kernel
theorem dX1_leastSet_38 : decode cX1_leastSet 38 = .ok (.lreturn, 1) := by decide +kernel
set_option maxRecDepth 20000 in
theorem ggX1_greatestSet_X1_measureDistances : GoodIn wsX1_greatestSet wsX1_measureDistances := goodIn_r _ [7, 8, 1, 2, 9, 10, 11, 12, 13, 14, 15, 6, 16, 17, 18, 19, 20, 21, 22, 23, 24, 25, 26, 27] (by decide +kernel) (by decide +kernel)
set_option maxRecDepth 20000 in
theorem gX1_greatestSet_X1_measureDistances : GoodIn wsX1_greatestSet (wsV RX1 82 RX1 yX1_measureDistances wsX1_measureDistances) := goodIn_app (goodIn_of _ (by decide +kernel)) ggX1_greatestSet_X1_measureDistances
theorem dX1_greatestSet_0 : decode cX1_greatestSet 0 = .ok (.aload_n 0, 1) := by decide +kernel
theorem dX1_greatestSet_1 : decode cX1_greatestSet 1 = .ok (.invokevirtual 82, 3) := by decide +kernel
theorem dX1_greatestSet_4 : decode cX1_greatestSet 4 = .ok (.lconst 0, 1) := by decide +kernel
theorem dX1_greatestSet_5 : decode cX1_greatestSet 5 = .ok (.lstore_n 1, 1) := by decide +kernel
theorem dX1_greatestSet_6 : decode cX1_greatestSet 6 = .ok (.iconst 0, 1) := by decide +kernel
theorem dX1_greatestSet_7 : decode cX1_greatestSet 7 = .ok (.istore_n 3, 1) := by decide +kernel
theorem dX1_greatestSet_8 : decode cX1_greatestSet 8 = .ok (.iload_n 3, 1) := by decide +kernel
theorem dX1_greatestSet_9 : decode cX1_greatestSet 9 = .ok (.aload_n 0, 1) := by decide +kernel
theorem dX1_greatestSet_10 : decode cX1_greatestSet 10 = .ok (.getfield 43, 3) := by decide +kernel
theorem dX1_greatestSet_13 : decode cX1_greatestSet 13 = .ok (.if_icmp .ge 24, 3) := by decide +kernel
theorem dX1_greatestSet_16 : decode cX1_greatestSet 16 = .ok (.aload_n 0, 1) := by decide +kernel
theorem dX1_greatestSet_17 : decode cX1_greatestSet 17 = .ok (.getfield 24, 3) := by decide +kernel
theorem dX1_greatestSet_20 : decode cX1_greatestSet 20 = .ok (.iload_n 3, 1) := by decide +kernel
theorem dX1_greatestSet_21 : decode cX1_greatestSet 21 = .ok (.iaload, 1) := by decide +kernel
theorem dX1_greatestSet_22 : decode cX1_greatestSet 22 = .ok (.ifCond .ne 9, 3) := by decide +kernel
theorem dX1_greatestSet_25 : decode cX1_greatestSet 25 = .ok (.lload_n 1, 1) := by decide +kernel
theorem dX1_greatestSet_26 : decode cX1_greatestSet 26 = .ok (.lconst 1, 1) := by decide +kernel
theorem dX1_greatestSet_27 : decode cX1_greatestSet 27 = .ok (.iload_n 3, 1) := by decide +kernel
theorem dX1_greatestSet_28 : decode cX1_greatestSet 28 = .ok (.lshl, 1) := by decide +kernel
theorem dX1_greatestSet_29 : decode cX1_greatestSet 29 = .ok (.lor, 1) := by decide +kernel
theorem dX1_greatestSet_30 : decode cX1_greatestSet 30 = .ok (.lstore_n 1, 1) := by decide +kernel
theorem dX1_greatestSet_31 : decode cX1_greatestSet 31 = .ok (.iinc 3 1, 3) := by decide +kernel
theorem dX1_greatestSet_34 : decode cX1_greatestSet 34 = .ok (.goto (-26), 3) := by decide +kernel
theorem dX1_greatestSet_37 : decode cX1_greatestSet 37 = .ok (.lload_n 1, 1) := by decide +kernel
theorem dX1_greatestSet_38 : decode cX1_greatestSet 38 = .ok (.lreturn, 1) := by decide +kernel
set_option maxRecDepth 20000 in
theorem ggX1_spread_X4_has : GoodIn wsX1_spread wsX4_has := goodIn_r _ [8] (by decide +kernel) (by decide +kernel)
set_option maxRecDepth 20000 in
theorem gX1_spread_X4_has_n108 : GoodIn wsX1_spread (wsX4_has) := ggX1_spread_X4_has
set_option maxRecDepth 20000 in
theorem ggX1_spread_X1_enqueue : GoodIn wsX1_spread wsX1_enqueue := goodIn_r _ [13, 1, 3, 14, 15, 16, 17, 18, 19, 20, 21] (by decide +kernel) (by decide +kernel)
set_option maxRecDepth 20000 in
theorem gX1_spread_X1_enqueue : GoodIn wsX1_spread (wsV RX1 91 RX1 yX1_enqueue wsX1_enqueue) := goodIn_app (goodIn_of _ (by decide +kernel)) ggX1_spread_X1_enqueue
theorem dX1_spread_0 : decode cX1_spread 0 = .ok (.lload_n 1, 1) := by decide +kernel
theorem dX1_spread_1 : decode cX1_spread 1 = .ok (.lstore_n 3, 1) := by decide +kernel
theorem dX1_spread_2 : decode cX1_spread 2 = .ok (.aload_n 0, 1) := by decide +kernel
theorem dX1_spread_3 : decode cX1_spread 3 = .ok (.iconst 0, 1) := by decide +kernel
theorem dX1_spread_4 : decode cX1_spread 4 = .ok (.putfield 88, 3) := by decide +kernel
theorem dX1_spread_7 : decode cX1_spread 7 = .ok (.iconst 0, 1) := by decide +kernel
theorem dX1_spread_8 : decode cX1_spread 8 = .ok (.istore 5, 2) := by decide +kernel
theorem dX1_spread_10 : decode cX1_spread 10 = .ok (.iload 5, 2) := by decide +kernel
theorem dX1_spread_12 : decode cX1_spread 12 = .ok (.aload_n 0, 1) := by decide +kernel
theorem dX1_spread_13 : decode cX1_spread 13 = .ok (.getfield 43, 3) := by decide +kernel
theorem dX1_spread_16 : decode cX1_spread 16 = .ok (.if_icmp .ge 24, 3) := by decide +kernel
theorem dX1_spread_19 : decode cX1_spread 19 = .ok (.lload_n 1, 1) := by decide +kernel
theorem dX1_spread_20 : decode cX1_spread 20 = .ok (.iload 5, 2) := by decide +kernel
theorem dX1_spread_22 : decode cX1_spread 22 = .ok (.invokestatic 108, 3) := by decide +kernel
theorem dX1_spread_25 : decode cX1_spread 25 = .ok (.ifCond .eq 9, 3) := by decide +kernel
theorem dX1_spread_28 : decode cX1_spread 28 = .ok (.aload_n 0, 1) := by decide +kernel
theorem dX1_spread_29 : decode cX1_spread 29 = .ok (.iload 5, 2) := by decide +kernel
theorem dX1_spread_31 : decode cX1_spread 31 = .ok (.invokevirtual 91, 3) := by decide +kernel
theorem dX1_spread_34 : decode cX1_spread 34 = .ok (.iinc 5 1, 3) := by decide +kernel
theorem dX1_spread_37 : decode cX1_spread 37 = .ok (.goto (-27), 3) := by decide +kernel
theorem dX1_spread_40 : decode cX1_spread 40 = .ok (.iconst 0, 1) := by decide +kernel
theorem dX1_spread_41 : decode cX1_spread 41 = .ok (.istore 5, 2) := by decide +kernel
theorem dX1_spread_43 : decode cX1_spread 43 = .ok (.iload 5, 2) := by decide +kernel
theorem dX1_spread_45 : decode cX1_spread 45 = .ok (.aload_n 0, 1) := by decide +kernel
theorem dX1_spread_46 : decode cX1_spread 46 = .ok (.getfield 88, 3) := by decide +kernel
theorem dX1_spread_49 : decode cX1_spread 49 = .ok (.if_icmp .ge 87, 3) := by decide +kernel
theorem dX1_spread_52 : decode cX1_spread 52 = .ok (.iconst 0, 1) := by decide +kernel
theorem dX1_spread_53 : decode cX1_spread 53 = .ok (.istore 6, 2) := by decide +kernel
theorem dX1_spread_55 : decode cX1_spread 55 = .ok (.iload 6, 2) := by decide +kernel
theorem dX1_spread_57 : decode cX1_spread 57 = .ok (.bipush 8, 2) := by decide +kernel
theorem dX1_spread_59 : decode cX1_spread 59 = .ok (.if_icmp .ge 71, 3) := by decide +kernel
theorem dX1_spread_62 : decode cX1_spread 62 = .ok (.aload_n 0, 1) := by decide +kernel
theorem dX1_spread_63 : decode cX1_spread 63 = .ok (.getfield 27, 3) := by decide +kernel
theorem dX1_spread_66 : decode cX1_spread 66 = .ok (.iload 5, 2) := by decide +kernel
theorem dX1_spread_68 : decode cX1_spread 68 = .ok (.iaload, 1) := by decide +kernel
theorem dX1_spread_69 : decode cX1_spread 69 = .ok (.bipush 8, 2) := by decide +kernel
theorem dX1_spread_71 : decode cX1_spread 71 = .ok (.imul, 1) := by decide +kernel
theorem dX1_spread_72 : decode cX1_spread 72 = .ok (.iload 6, 2) := by decide +kernel
theorem dX1_spread_74 : decode cX1_spread 74 = .ok (.iadd, 1) := by decide +kernel
theorem dX1_spread_75 : decode cX1_spread 75 = .ok (.istore 7, 2) := by decide +kernel
theorem dX1_spread_77 : decode cX1_spread 77 = .ok (.aload_n 0, 1) := by decide +kernel
theorem dX1_spread_78 : decode cX1_spread 78 = .ok (.getfield 18, 3) := by decide +kernel
theorem dX1_spread_81 : decode cX1_spread 81 = .ok (.iload 7, 2) := by decide +kernel
theorem dX1_spread_83 : decode cX1_spread 83 = .ok (.iaload, 1) := by decide +kernel
theorem dX1_spread_84 : decode cX1_spread 84 = .ok (.istore 8, 2) := by decide +kernel
theorem dX1_spread_86 : decode cX1_spread 86 = .ok (.iload 8, 2) := by decide +kernel
theorem dX1_spread_88 : decode cX1_spread 88 = .ok (.iconst (-1), 1) := by decide +kernel
theorem dX1_spread_89 : decode cX1_spread 89 = .ok (.if_icmp .eq 35, 3) := by decide +kernel
theorem dX1_spread_92 : decode cX1_spread 92 = .ok (.aload_n 0, 1) := by decide +kernel
theorem dX1_spread_93 : decode cX1_spread 93 = .ok (.getfield 21, 3) := by decide +kernel
theorem dX1_spread_96 : decode cX1_spread 96 = .ok (.iload 7, 2) := by decide +kernel
theorem dX1_spread_98 : decode cX1_spread 98 = .ok (.iaload, 1) := by decide +kernel
theorem dX1_spread_99 : decode cX1_spread 99 = .ok (.ifCond .le 25, 3) := by decide +kernel
theorem dX1_spread_102 : decode cX1_spread 102 = .ok (.lload_n 3, 1) := by decide +kernel
theorem dX1_spread_103 : decode cX1_spread 103 = .ok (.iload 8, 2) := by decide +kernel
theorem dX1_spread_105 : decode cX1_spread 105 = .ok (.invokestatic 108, 3) := by decide +kernel
theorem dX1_spread_108 : decode cX1_spread 108 = .ok (.ifCond .ne 16, 3) := by decide +kernel
theorem dX1_spread_111 : decode cX1_spread 111 = .ok (.lload_n 3, 1) := by decide +kernel
theorem dX1_spread_112 : decode cX1_spread 112 = .ok (.lconst 1, 1) := by decide +kernel
theorem dX1_spread_113 : decode cX1_spread 113 = .ok (.iload 8, 2) := by decide +kernel
theorem dX1_spread_115 : decode cX1_spread 115 = .ok (.lshl, 1) := by decide +kernel
theorem dX1_spread_116 : decode cX1_spread 116 = .ok (.lor, 1) := by decide +kernel
theorem dX1_spread_117 : decode cX1_spread 117 = .ok (.lstore_n 3, 1) := by decide +kernel
theorem dX1_spread_118 : decode cX1_spread 118 = .ok (.aload_n 0, 1) := by decide +kernel
theorem dX1_spread_119 : decode cX1_spread 119 = .ok (.iload 8, 2) := by decide +kernel
theorem dX1_spread_121 : decode cX1_spread 121 = .ok (.invokevirtual 91, 3) := by decide +kernel
theorem dX1_spread_124 : decode cX1_spread 124 = .ok (.iinc 6 1, 3) := by decide +kernel
theorem dX1_spread_127 : decode cX1_spread 127 = .ok (.goto (-72), 3) := by decide +kernel
theorem dX1_spread_130 : decode cX1_spread 130 = .ok (.iinc 5 1, 3) := by decide +kernel
theorem dX1_spread_133 : decode cX1_spread 133 = .ok (.goto (-90), 3) := by decide +kernel
theorem dX1_spread_136 : decode cX1_spread 136 = .ok (.lload_n 3, 1) := by decide +kernel
theorem dX1_spread_137 : decode cX1_spread 137 = .ok (.lreturn, 1) := by decide +kernel
set_option maxRecDepth 20000 in
theorem ggX1_alwaysParts_X1_leastSet : GoodIn wsX1_alwaysParts wsX1_leastSet := goodIn_r _ [5, 6, 7, 8, 9, 10, 4, 11, 12, 13, 14, 15, 16, 17, 18, 19, 20, 21, 22, 36, 37, 38, 39, 40, 41, 42, 43] (by decide +kernel) (by decide +kernel)
set_option maxRecDepth 20000 in
theorem gX1_alwaysParts_X1_leastSet : GoodIn wsX1_alwaysParts (wsV RX1 112 RX1 yX1_leastSet wsX1_leastSet) := goodIn_app (goodIn_of _ (by decide +kernel)) ggX1_alwaysParts_X1_leastSet
set_option maxRecDepth 20000 in
theorem ggX1_alwaysParts_X4_has : GoodIn wsX1_alwaysParts wsX4_has := goodIn_r _ [18] (by decide +kernel) (by decide +kernel)
set_option maxRecDepth 20000 in
theorem gX1_alwaysParts_X4_has_n108 : GoodIn wsX1_alwaysParts (wsX4_has) := ggX1_alwaysParts_X4_has
set_option maxRecDepth 20000 in
theorem ggX1_alwaysParts_X1_greatestSet : GoodIn wsX1_alwaysParts wsX1_greatestSet := goodIn_r _ [26, 6, 27, 28, 29, 30, 4, 31, 12, 32, 13, 14, 15, 19, 20, 21, 22, 33, 34, 35, 36, 37, 38, 39, 40, 41, 42, 43] (by decide +kernel) (by decide +kernel)
set_option maxRecDepth 20000 in
theorem gX1_alwaysParts_X1_greatestSet : GoodIn wsX1_alwaysParts (wsV RX1 116 RX1 yX1_greatestSet wsX1_greatestSet) := goodIn_app (goodIn_of _ (by decide +kernel)) ggX1_alwaysParts_X1_greatestSet
theorem dX1_alwaysParts_0 : decode cX1_alwaysParts 0 = .ok (.aload_n 0, 1) := by decide +kernel
theorem dX1_alwaysParts_1 : decode cX1_alwaysParts 1 = .ok (.invokevirtual 112, 3) := by decide +kernel
theorem dX1_alwaysParts_4 : decode cX1_alwaysParts 4 = .ok (.iload_n 1, 1) := by decide +kernel
theorem dX1_alwaysParts_5 : decode cX1_alwaysParts 5 = .ok (.invokestatic 108, 3) := by decide +kernel
theorem dX1_alwaysParts_8 : decode cX1_alwaysParts 8 = .ok (.ifCond .eq 18, 3) := by decide +kernel
theorem dX1_alwaysParts_11 : decode cX1_alwaysParts 11 = .ok (.aload_n 0, 1) := by decide +kernel
theorem dX1_alwaysParts_12 : decode cX1_alwaysParts 12 = .ok (.invokevirtual 116, 3) := by decide +kernel
theorem dX1_alwaysParts_15 : decode cX1_alwaysParts 15 = .ok (.iload_n 2, 1) := by decide +kernel
theorem dX1_alwaysParts_16 : decode cX1_alwaysParts 16 = .ok (.invokestatic 108, 3) := by decide +kernel
theorem dX1_alwaysParts_19 : decode cX1_alwaysParts 19 = .ok (.ifCond .ne 7, 3) := by decide +kernel
theorem dX1_alwaysParts_22 : decode cX1_alwaysParts 22 = .ok (.iconst 1, 1) := by decide +kernel
theorem dX1_alwaysParts_23 : decode cX1_alwaysParts 23 = .ok (.goto 4, 3) := by decide +kernel
theorem dX1_alwaysParts_26 : decode cX1_alwaysParts 26 = .ok (.iconst 0, 1) := by decide +kernel
theorem dX1_alwaysParts_27 : decode cX1_alwaysParts 27 = .ok (.ireturn, 1) := by decide +kernel
set_option maxRecDepth 20000 in
theorem ggX1_mayPart_X1_greatestSet : GoodIn wsX1_mayPart wsX1_greatestSet := goodIn_r _ [5, 6, 7, 8, 9, 10, 4, 11, 12, 13, 14, 15, 16, 17, 18, 19, 20, 21, 22, 23, 36, 37, 38, 39, 40, 41, 42, 43] (by decide +kernel) (by decide +kernel)
set_option maxRecDepth 20000 in
theorem gX1_mayPart_X1_greatestSet : GoodIn wsX1_mayPart (wsV RX1 116 RX1 yX1_greatestSet wsX1_greatestSet) := goodIn_app (goodIn_of _ (by decide +kernel)) ggX1_mayPart_X1_greatestSet
set_option maxRecDepth 20000 in
theorem ggX1_mayPart_X4_has : GoodIn wsX1_mayPart wsX4_has := goodIn_r _ [26] (by decide +kernel) (by decide +kernel)
set_option maxRecDepth 20000 in
theorem gX1_mayPart_X4_has_n108 : GoodIn wsX1_mayPart (wsX4_has) := ggX1_mayPart_X4_has
set_option maxRecDepth 20000 in
theorem ggX1_mayPart_X1_leastSet : GoodIn wsX1_mayPart wsX1_leastSet := goodIn_r _ [30, 6, 31, 32, 33, 34, 4, 35, 12, 14, 15, 16, 24, 25, 26, 17, 18, 19, 20, 36, 37, 38, 39, 40, 41, 42, 43] (by decide +kernel) (by decide +kernel)
set_option maxRecDepth 20000 in
theorem gX1_mayPart_X1_leastSet : GoodIn wsX1_mayPart (wsV RX1 112 RX1 yX1_leastSet wsX1_leastSet) := goodIn_app (goodIn_of _ (by decide +kernel)) ggX1_mayPart_X1_leastSet
set_option maxRecDepth 20000 in
theorem ggX1_mayPart_X1_spread : GoodIn wsX1_mayPart wsX1_spread := goodIn_r _ [35, 12, 6, 14, 15, 16, 24, 25, 26, 17, 18, 19, 4, 20, 36, 37, 38, 39, 40, 41, 42, 43] (by decide +kernel) (by decide +kernel)
set_option maxRecDepth 20000 in
theorem gX1_mayPart_X1_spread : GoodIn wsX1_mayPart (wsV RX1 104 RX1 yX1_spread wsX1_spread) := goodIn_app (goodIn_of _ (by decide +kernel)) ggX1_mayPart_X1_spread
theorem dX1_mayPart_0 : decode cX1_mayPart 0 = .ok (.aload_n 0, 1) := by decide +kernel
theorem dX1_mayPart_1 : decode cX1_mayPart 1 = .ok (.invokevirtual 116, 3) := by decide +kernel
theorem dX1_mayPart_4 : decode cX1_mayPart 4 = .ok (.iload_n 1, 1) := by decide +kernel
theorem dX1_mayPart_5 : decode cX1_mayPart 5 = .ok (.invokestatic 108, 3) := by decide +kernel
theorem dX1_mayPart_8 : decode cX1_mayPart 8 = .ok (.ifCond .ne 5, 3) := by decide +kernel
theorem dX1_mayPart_11 : decode cX1_mayPart 11 = .ok (.iconst 0, 1) := by decide +kernel
theorem dX1_mayPart_12 : decode cX1_mayPart 12 = .ok (.ireturn, 1) := by decide +kernel
theorem dX1_mayPart_13 : decode cX1_mayPart 13 = .ok (.aload_n 0, 1) := by decide +kernel
theorem dX1_mayPart_14 : decode cX1_mayPart 14 = .ok (.aload_n 0, 1) := by decide +kernel
theorem dX1_mayPart_15 : decode cX1_mayPart 15 = .ok (.invokevirtual 112, 3) := by decide +kernel
theorem dX1_mayPart_18 : decode cX1_mayPart 18 = .ok (.lconst 1, 1) := by decide +kernel
theorem dX1_mayPart_19 : decode cX1_mayPart 19 = .ok (.iload_n 1, 1) := by decide +kernel
theorem dX1_mayPart_20 : decode cX1_mayPart 20 = .ok (.lshl, 1) := by decide +kernel
theorem dX1_mayPart_21 : decode cX1_mayPart 21 = .ok (.lor, 1) := by decide +kernel
theorem dX1_mayPart_22 : decode cX1_mayPart 22 = .ok (.invokevirtual 104, 3) := by decide +kernel
theorem dX1_mayPart_25 : decode cX1_mayPart 25 = .ok (.iload_n 2, 1) := by decide +kernel
theorem dX1_mayPart_26 : decode cX1_mayPart 26 = .ok (.invokestatic 108, 3) := by decide +kernel
theorem dX1_mayPart_29 : decode cX1_mayPart 29 = .ok (.ifCond .ne 7, 3) := by decide +kernel
theorem dX1_mayPart_32 : decode cX1_mayPart 32 = .ok (.iconst 1, 1) := by decide +kernel
theorem dX1_mayPart_33 : decode cX1_mayPart 33 = .ok (.goto 4, 3) := by decide +kernel
theorem dX1_mayPart_36 : decode cX1_mayPart 36 = .ok (.iconst 0, 1) := by decide +kernel
theorem dX1_mayPart_37 : decode cX1_mayPart 37 = .ok (.ireturn, 1) := by decide +kernel
theorem dX2_init_0 : decode cX2_init 0 = .ok (.aload_n 0, 1) := by decide +kernel
theorem dX2_init_1 : decode cX2_init 1 = .ok (.invokespecial 3, 3) := by decide +kernel
theorem dX2_init_4 : decode cX2_init 4 = .ok (.aload_n 0, 1) := by decide +kernel
theorem dX2_init_5 : decode cX2_init 5 = .ok (.bipush 6, 2) := by decide +kernel
theorem dX2_init_7 : decode cX2_init 7 = .ok (.newarray .int, 2) := by decide +kernel
theorem dX2_init_9 : decode cX2_init 9 = .ok (.dup, 1) := by decide +kernel
theorem dX2_init_10 : decode cX2_init 10 = .ok (.iconst 0, 1) := by decide +kernel
theorem dX2_init_11 : decode cX2_init 11 = .ok (.bipush 10, 2) := by decide +kernel
theorem dX2_init_13 : decode cX2_init 13 = .ok (.iastore, 1) := by decide +kernel
theorem dX2_init_14 : decode cX2_init 14 = .ok (.dup, 1) := by decide +kernel
theorem dX2_init_15 : decode cX2_init 15 = .ok (.iconst 1, 1) := by decide +kernel
theorem dX2_init_16 : decode cX2_init 16 = .ok (.iconst 2, 1) := by decide +kernel
theorem dX2_init_17 : decode cX2_init 17 = .ok (.iastore, 1) := by decide +kernel
theorem dX2_init_18 : decode cX2_init 18 = .ok (.dup, 1) := by decide +kernel
theorem dX2_init_19 : decode cX2_init 19 = .ok (.iconst 2, 1) := by decide +kernel
theorem dX2_init_20 : decode cX2_init 20 = .ok (.iconst 1, 1) := by decide +kernel
theorem dX2_init_21 : decode cX2_init 21 = .ok (.iastore, 1) := by decide +kernel
theorem dX2_init_22 : decode cX2_init 22 = .ok (.dup, 1) := by decide +kernel
theorem dX2_init_23 : decode cX2_init 23 = .ok (.iconst 3, 1) := by decide +kernel
theorem dX2_init_24 : decode cX2_init 24 = .ok (.iconst 0, 1) := by decide +kernel
theorem dX2_init_25 : decode cX2_init 25 = .ok (.iastore, 1) := by decide +kernel
theorem dX2_init_26 : decode cX2_init 26 = .ok (.dup, 1) := by decide +kernel
theorem dX2_init_27 : decode cX2_init 27 = .ok (.iconst 4, 1) := by decide +kernel
theorem dX2_init_28 : decode cX2_init 28 = .ok (.bipush 9, 2) := by decide +kernel
theorem dX2_init_30 : decode cX2_init 30 = .ok (.iastore, 1) := by decide +kernel
theorem dX2_init_31 : decode cX2_init 31 = .ok (.dup, 1) := by decide +kernel
theorem dX2_init_32 : decode cX2_init 32 = .ok (.iconst 5, 1) := by decide +kernel
theorem dX2_init_33 : decode cX2_init 33 = .ok (.iconst 4, 1) := by decide +kernel
theorem dX2_init_34 : decode cX2_init 34 = .ok (.iastore, 1) := by decide +kernel
theorem dX2_init_35 : decode cX2_init 35 = .ok (.putfield 9, 3) := by decide +kernel
theorem dX2_init_38 : decode cX2_init 38 = .ok (.aload_n 0, 1) := by decide +kernel
theorem dX2_init_39 : decode cX2_init 39 = .ok (.bipush 36, 2) := by decide +kernel
theorem dX2_init_41 : decode cX2_init 41 = .ok (.newarray .int, 2) := by decide +kernel
theorem dX2_init_43 : decode cX2_init 43 = .ok (.putfield 15, 3) := by decide +kernel
theorem dX2_init_46 : decode cX2_init 46 = .ok (.aload_n 0, 1) := by decide +kernel
theorem dX2_init_47 : decode cX2_init 47 = .ok (.bipush 36, 2) := by decide +kernel
theorem dX2_init_49 : decode cX2_init 49 = .ok (.newarray .int, 2) := by decide +kernel
theorem dX2_init_51 : decode cX2_init 51 = .ok (.putfield 18, 3) := by decide +kernel
theorem dX2_init_54 : decode cX2_init 54 = .ok (.aload_n 0, 1) := by decide +kernel
theorem dX2_init_55 : decode cX2_init 55 = .ok (.iconst 4, 1) := by decide +kernel
theorem dX2_init_56 : decode cX2_init 56 = .ok (.putfield 21, 3) := by decide +kernel
theorem dX2_init_59 : decode cX2_init 59 = .ok (.aload_n 0, 1) := by decide +kernel
theorem dX2_init_60 : decode cX2_init 60 = .ok (.iconst 4, 1) := by decide +kernel
theorem dX2_init_61 : decode cX2_init 61 = .ok (.putfield 25, 3) := by decide +kernel
theorem dX2_init_64 : decode cX2_init 64 = .ok (.return_, 1) := by decide +kernel
theorem dX2_copyFrom_0 : decode cX2_copyFrom 0 = .ok (.aload_n 0, 1) := by decide +kernel
theorem dX2_copyFrom_1 : decode cX2_copyFrom 1 = .ok (.aload_n 1, 1) := by decide +kernel
theorem dX2_copyFrom_2 : decode cX2_copyFrom 2 = .ok (.getfield 21, 3) := by decide +kernel
theorem dX2_copyFrom_5 : decode cX2_copyFrom 5 = .ok (.putfield 21, 3) := by decide +kernel
theorem dX2_copyFrom_8 : decode cX2_copyFrom 8 = .ok (.aload_n 0, 1) := by decide +kernel
theorem dX2_copyFrom_9 : decode cX2_copyFrom 9 = .ok (.aload_n 1, 1) := by decide +kernel
theorem dX2_copyFrom_10 : decode cX2_copyFrom 10 = .ok (.getfield 25, 3) := by decide +kernel
theorem dX2_copyFrom_13 : decode cX2_copyFrom 13 = .ok (.putfield 25, 3) := by decide +kernel
theorem dX2_copyFrom_16 : decode cX2_copyFrom 16 = .ok (.aload_n 1, 1) := by decide +kernel
theorem dX2_copyFrom_17 : decode cX2_copyFrom 17 = .ok (.getfield 9, 3) := by decide +kernel
theorem dX2_copyFrom_20 : decode cX2_copyFrom 20 = .ok (.iconst 0, 1) := by decide +kernel
theorem dX2_copyFrom_21 : decode cX2_copyFrom 21 = .ok (.aload_n 0, 1) := by decide +kernel
theorem dX2_copyFrom_22 : decode cX2_copyFrom 22 = .ok (.getfield 9, 3) := by decide +kernel
theorem dX2_copyFrom_25 : decode cX2_copyFrom 25 = .ok (.iconst 0, 1) := by decide +kernel
theorem dX2_copyFrom_26 : decode cX2_copyFrom 26 = .ok (.bipush 6, 2) := by decide +kernel
theorem dX2_copyFrom_28 : decode cX2_copyFrom 28 = .ok (.invokestatic 28, 3) := by decide +kernel
theorem dX2_copyFrom_31 : decode cX2_copyFrom 31 = .ok (.aload_n 1, 1) := by decide +kernel
theorem dX2_copyFrom_32 : decode cX2_copyFrom 32 = .ok (.getfield 15, 3) := by decide +kernel
theorem dX2_copyFrom_35 : decode cX2_copyFrom 35 = .ok (.iconst 0, 1) := by decide +kernel
theorem dX2_copyFrom_36 : decode cX2_copyFrom 36 = .ok (.aload_n 0, 1) := by decide +kernel
theorem dX2_copyFrom_37 : decode cX2_copyFrom 37 = .ok (.getfield 15, 3) := by decide +kernel
theorem dX2_copyFrom_40 : decode cX2_copyFrom 40 = .ok (.iconst 0, 1) := by decide +kernel
theorem dX2_copyFrom_41 : decode cX2_copyFrom 41 = .ok (.bipush 36, 2) := by decide +kernel
theorem dX2_copyFrom_43 : decode cX2_copyFrom 43 = .ok (.invokestatic 28, 3) := by decide +kernel
theorem dX2_copyFrom_46 : decode cX2_copyFrom 46 = .ok (.aload_n 1, 1) := by decide +kernel
theorem dX2_copyFrom_47 : decode cX2_copyFrom 47 = .ok (.getfield 18, 3) := by decide +kernel
theorem dX2_copyFrom_50 : decode cX2_copyFrom 50 = .ok (.iconst 0, 1) := by decide +kernel
theorem dX2_copyFrom_51 : decode cX2_copyFrom 51 = .ok (.aload_n 0, 1) := by decide +kernel
theorem dX2_copyFrom_52 : decode cX2_copyFrom 52 = .ok (.getfield 18, 3) := by decide +kernel
theorem dX2_copyFrom_55 : decode cX2_copyFrom 55 = .ok (.iconst 0, 1) := by decide +kernel
theorem dX2_copyFrom_56 : decode cX2_copyFrom 56 = .ok (.bipush 36, 2) := by decide +kernel
theorem dX2_copyFrom_58 : decode cX2_copyFrom 58 = .ok (.invokestatic 28, 3) := by decide +kernel
theorem dX2_copyFrom_61 : decode cX2_copyFrom 61 = .ok (.return_, 1) := by decide +kernel
theorem dX2_startBlank_0 : decode cX2_startBlank 0 = .ok (.aload_n 0, 1) := by decide +kernel
theorem dX2_startBlank_1 : decode cX2_startBlank 1 = .ok (.iload_n 1, 1) := by decide +kernel
theorem dX2_startBlank_2 : decode cX2_startBlank 2 = .ok (.putfield 21, 3) := by decide +kernel
theorem dX2_startBlank_5 : decode cX2_startBlank 5 = .ok (.aload_n 0, 1) := by decide +kernel
theorem dX2_startBlank_6 : decode cX2_startBlank 6 = .ok (.iload_n 2, 1) := by decide +kernel
theorem dX2_startBlank_7 : decode cX2_startBlank 7 = .ok (.putfield 25, 3) := by decide +kernel
theorem dX2_startBlank_10 : decode cX2_startBlank 10 = .ok (.iconst 0, 1) := by decide +kernel
theorem dX2_startBlank_11 : decode cX2_startBlank 11 = .ok (.istore_n 3, 1) := by decide +kernel
theorem dX2_startBlank_12 : decode cX2_startBlank 12 = .ok (.iload_n 3, 1) := by decide +kernel
theorem dX2_startBlank_13 : decode cX2_startBlank 13 = .ok (.bipush 36, 2) := by decide +kernel
theorem dX2_startBlank_15 : decode cX2_startBlank 15 = .ok (.if_icmp .ge 23, 3) := by decide +kernel
theorem dX2_startBlank_18 : decode cX2_startBlank 18 = .ok (.aload_n 0, 1) := by decide +kernel
theorem dX2_startBlank_19 : decode cX2_startBlank 19 = .ok (.getfield 15, 3) := by decide +kernel
theorem dX2_startBlank_22 : decode cX2_startBlank 22 = .ok (.iload_n 3, 1) := by decide +kernel
theorem dX2_startBlank_23 : decode cX2_startBlank 23 = .ok (.iconst 0, 1) := by decide +kernel
theorem dX2_startBlank_24 : decode cX2_startBlank 24 = .ok (.iastore, 1) := by decide +kernel
theorem dX2_startBlank_25 : decode cX2_startBlank 25 = .ok (.aload_n 0, 1) := by decide +kernel
theorem dX2_startBlank_26 : decode cX2_startBlank 26 = .ok (.getfield 18, 3) := by decide +kernel
theorem dX2_startBlank_29 : decode cX2_startBlank 29 = .ok (.iload_n 3, 1) := by decide +kernel
theorem dX2_startBlank_30 : decode cX2_startBlank 30 = .ok (.iconst 0, 1) := by decide +kernel
theorem dX2_startBlank_31 : decode cX2_startBlank 31 = .ok (.iastore, 1) := by decide +kernel
theorem dX2_startBlank_32 : decode cX2_startBlank 32 = .ok (.iinc 3 1, 3) := by decide +kernel
theorem dX2_startBlank_35 : decode cX2_startBlank 35 = .ok (.goto (-23), 3) := by decide +kernel
theorem dX2_startBlank_38 : decode cX2_startBlank 38 = .ok (.return_, 1) := by decide +kernel
theorem dX2_dots_0 : decode cX2_dots 0 = .ok (.aload_n 0, 1) := by decide +kernel
theorem dX2_dots_1 : decode cX2_dots 1 = .ok (.getfield 21, 3) := by decide +kernel
theorem dX2_dots_4 : decode cX2_dots 4 = .ok (.aload_n 0, 1) := by decide +kernel
theorem dX2_dots_5 : decode cX2_dots 5 = .ok (.getfield 25, 3) := by decide +kernel
theorem dX2_dots_8 : decode cX2_dots 8 = .ok (.imul, 1) := by decide +kernel
theorem dX2_dots_9 : decode cX2_dots 9 = .ok (.ireturn, 1) := by decide +kernel
set_option maxRecDepth 20000 in
theorem ggX2_allDots_X2_dots : GoodIn wsX2_allDots wsX2_dots := goodIn_r _ [5, 6, 7, 8, 9, 10, 11, 12] (by decide +kernel) (by decide +kernel)
set_option maxRecDepth 20000 in
theorem gX2_allDots_X2_dots : GoodIn wsX2_allDots (wsV RX2 34 RX2 yX2_dots wsX2_dots) := goodIn_app (goodIn_of _ (by decide +kernel)) ggX2_allDots_X2_dots
theorem dX2_allDots_0 : decode cX2_allDots 0 = .ok (.lconst 1, 1) := by decide +kernel
theorem dX2_allDots_1 : decode cX2_allDots 1 = .ok (.aload_n 0, 1) := by decide +kernel
theorem dX2_allDots_2 : decode cX2_allDots 2 = .ok (.invokevirtual 34, 3) := by decide +kernel
theorem dX2_allDots_5 : decode cX2_allDots 5 = .ok (.lshl, 1) := by decide +kernel
theorem dX2_allDots_6 : decode cX2_allDots 6 = .ok (.lconst 1, 1) := by decide +kernel
theorem dX2_allDots_7 : decode cX2_allDots 7 = .ok (.lsub, 1) := by decide +kernel
theorem dX2_allDots_8 : decode cX2_allDots 8 = .ok (.lreturn, 1) := by decide +kernel
theorem dX2_hasDot_0 : decode cX2_hasDot 0 = .ok (.iload_n 1, 1) := by decide +kernel
theorem dX2_hasDot_1 : decode cX2_hasDot 1 = .ok (.ifCond .lt 27, 3) := by decide +kernel
theorem dX2_hasDot_4 : decode cX2_hasDot 4 = .ok (.iload_n 1, 1) := by decide +kernel
theorem dX2_hasDot_5 : decode cX2_hasDot 5 = .ok (.aload_n 0, 1) := by decide +kernel
theorem dX2_hasDot_6 : decode cX2_hasDot 6 = .ok (.getfield 21, 3) := by decide +kernel
theorem dX2_hasDot_9 : decode cX2_hasDot 9 = .ok (.if_icmp .ge 19, 3) := by decide +kernel
theorem dX2_hasDot_12 : decode cX2_hasDot 12 = .ok (.iload_n 2, 1) := by decide +kernel
theorem dX2_hasDot_13 : decode cX2_hasDot 13 = .ok (.ifCond .lt 15, 3) := by decide +kernel
theorem dX2_hasDot_16 : decode cX2_hasDot 16 = .ok (.iload_n 2, 1) := by decide +kernel
theorem dX2_hasDot_17 : decode cX2_hasDot 17 = .ok (.aload_n 0, 1) := by decide +kernel
theorem dX2_hasDot_18 : decode cX2_hasDot 18 = .ok (.getfield 25, 3) := by decide +kernel
theorem dX2_hasDot_21 : decode cX2_hasDot 21 = .ok (.if_icmp .ge 7, 3) := by decide +kernel
theorem dX2_hasDot_24 : decode cX2_hasDot 24 = .ok (.iconst 1, 1) := by decide +kernel
theorem dX2_hasDot_25 : decode cX2_hasDot 25 = .ok (.goto 4, 3) := by decide +kernel
theorem dX2_hasDot_28 : decode cX2_hasDot 28 = .ok (.iconst 0, 1) := by decide +kernel
theorem dX2_hasDot_29 : decode cX2_hasDot 29 = .ok (.ireturn, 1) := by decide +kernel
theorem dX2_numberOf_0 : decode cX2_numberOf 0 = .ok (.aload_n 0, 1) := by decide +kernel
theorem dX2_numberOf_1 : decode cX2_numberOf 1 = .ok (.getfield 21, 3) := by decide +kernel
theorem dX2_numberOf_4 : decode cX2_numberOf 4 = .ok (.iload_n 2, 1) := by decide +kernel
theorem dX2_numberOf_5 : decode cX2_numberOf 5 = .ok (.imul, 1) := by decide +kernel
theorem dX2_numberOf_6 : decode cX2_numberOf 6 = .ok (.iload_n 1, 1) := by decide +kernel
theorem dX2_numberOf_7 : decode cX2_numberOf 7 = .ok (.iadd, 1) := by decide +kernel
theorem dX2_numberOf_8 : decode cX2_numberOf 8 = .ok (.ireturn, 1) := by decide +kernel
set_option maxRecDepth 20000 in
theorem ggX2_linkedTo_X2_hasDot : GoodIn wsX2_linkedTo wsX2_hasDot := goodIn_r _ [6, 7, 8, 13, 14, 15, 16, 17] (by decide +kernel) (by decide +kernel)
set_option maxRecDepth 20000 in
theorem gX2_linkedTo_X2_hasDot : GoodIn wsX2_linkedTo (wsV RX2 44 RX2 yX2_hasDot wsX2_hasDot) := goodIn_app (goodIn_of _ (by decide +kernel)) ggX2_linkedTo_X2_hasDot
set_option maxRecDepth 20000 in
theorem ggX2_linkedTo_X2_numberOf : GoodIn wsX2_linkedTo wsX2_numberOf := goodIn_r _ [12, 7, 13, 14, 15, 16, 17] (by decide +kernel) (by decide +kernel)
set_option maxRecDepth 20000 in
theorem gX2_linkedTo_X2_numberOf : GoodIn wsX2_linkedTo (wsV RX2 48 RX2 yX2_numberOf wsX2_numberOf) := goodIn_app (goodIn_of _ (by decide +kernel)) ggX2_linkedTo_X2_numberOf
theorem dX2_linkedTo_0 : decode cX2_linkedTo 0 = .ok (.iload_n 3, 1) := by decide +kernel
theorem dX2_linkedTo_1 : decode cX2_linkedTo 1 = .ok (.iconst 2, 1) := by decide +kernel
theorem dX2_linkedTo_2 : decode cX2_linkedTo 2 = .ok (.if_icmp .lt 16, 3) := by decide +kernel
theorem dX2_linkedTo_5 : decode cX2_linkedTo 5 = .ok (.aload_n 0, 1) := by decide +kernel
theorem dX2_linkedTo_6 : decode cX2_linkedTo 6 = .ok (.getfield 9, 3) := by decide +kernel
theorem dX2_linkedTo_9 : decode cX2_linkedTo 9 = .ok (.iconst 5, 1) := by decide +kernel
theorem dX2_linkedTo_10 : decode cX2_linkedTo 10 = .ok (.iaload, 1) := by decide +kernel
theorem dX2_linkedTo_11 : decode cX2_linkedTo 11 = .ok (.bipush 8, 2) := by decide +kernel
theorem dX2_linkedTo_13 : decode cX2_linkedTo 13 = .ok (.if_icmp .eq 5, 3) := by decide +kernel
theorem dX2_linkedTo_16 : decode cX2_linkedTo 16 = .ok (.iconst (-1), 1) := by decide +kernel
theorem dX2_linkedTo_17 : decode cX2_linkedTo 17 = .ok (.ireturn, 1) := by decide +kernel
theorem dX2_linkedTo_18 : decode cX2_linkedTo 18 = .ok (.iload_n 1, 1) := by decide +kernel
theorem dX2_linkedTo_19 : decode cX2_linkedTo 19 = .ok (.getstatic 38, 3) := by decide +kernel
theorem dX2_linkedTo_22 : decode cX2_linkedTo 22 = .ok (.iload_n 3, 1) := by decide +kernel
theorem dX2_linkedTo_23 : decode cX2_linkedTo 23 = .ok (.iaload, 1) := by decide +kernel
theorem dX2_linkedTo_24 : decode cX2_linkedTo 24 = .ok (.iadd, 1) := by decide +kernel
theorem dX2_linkedTo_25 : decode cX2_linkedTo 25 = .ok (.istore 4, 2) := by decide +kernel
theorem dX2_linkedTo_27 : decode cX2_linkedTo 27 = .ok (.iload_n 2, 1) := by decide +kernel
theorem dX2_linkedTo_28 : decode cX2_linkedTo 28 = .ok (.getstatic 41, 3) := by decide +kernel
theorem dX2_linkedTo_31 : decode cX2_linkedTo 31 = .ok (.iload_n 3, 1) := by decide +kernel
theorem dX2_linkedTo_32 : decode cX2_linkedTo 32 = .ok (.iaload, 1) := by decide +kernel
theorem dX2_linkedTo_33 : decode cX2_linkedTo 33 = .ok (.iadd, 1) := by decide +kernel
theorem dX2_linkedTo_34 : decode cX2_linkedTo 34 = .ok (.istore 5, 2) := by decide +kernel
theorem dX2_linkedTo_36 : decode cX2_linkedTo 36 = .ok (.aload_n 0, 1) := by decide +kernel
theorem dX2_linkedTo_37 : decode cX2_linkedTo 37 = .ok (.iload 4, 2) := by decide +kernel
theorem dX2_linkedTo_39 : decode cX2_linkedTo 39 = .ok (.iload 5, 2) := by decide +kernel
theorem dX2_linkedTo_41 : decode cX2_linkedTo 41 = .ok (.invokevirtual 44, 3) := by decide +kernel
theorem dX2_linkedTo_44 : decode cX2_linkedTo 44 = .ok (.ifCond .eq 14, 3) := by decide +kernel
theorem dX2_linkedTo_47 : decode cX2_linkedTo 47 = .ok (.aload_n 0, 1) := by decide +kernel
theorem dX2_linkedTo_48 : decode cX2_linkedTo 48 = .ok (.iload 4, 2) := by decide +kernel
theorem dX2_linkedTo_50 : decode cX2_linkedTo 50 = .ok (.iload 5, 2) := by decide +kernel
theorem dX2_linkedTo_52 : decode cX2_linkedTo 52 = .ok (.invokevirtual 48, 3) := by decide +kernel
theorem dX2_linkedTo_55 : decode cX2_linkedTo 55 = .ok (.goto 4, 3) := by decide +kernel
theorem dX2_linkedTo_58 : decode cX2_linkedTo 58 = .ok (.iconst (-1), 1) := by decide +kernel
theorem dX2_linkedTo_59 : decode cX2_linkedTo 59 = .ok (.ireturn, 1) := by decide +kernel
theorem dX2_weightOf_0 : decode cX2_weightOf 0 = .ok (.aload_n 0, 1) := by decide +kernel
theorem dX2_weightOf_1 : decode cX2_weightOf 1 = .ok (.getfield 15, 3) := by decide +kernel
theorem dX2_weightOf_4 : decode cX2_weightOf 4 = .ok (.iload_n 1, 1) := by decide +kernel
theorem dX2_weightOf_5 : decode cX2_weightOf 5 = .ok (.iaload, 1) := by decide +kernel
theorem dX2_weightOf_6 : decode cX2_weightOf 6 = .ok (.aload_n 0, 1) := by decide +kernel
theorem dX2_weightOf_7 : decode cX2_weightOf 7 = .ok (.getfield 15, 3) := by decide +kernel
theorem dX2_weightOf_10 : decode cX2_weightOf 10 = .ok (.iload_n 2, 1) := by decide +kernel
theorem dX2_weightOf_11 : decode cX2_weightOf 11 = .ok (.iaload, 1) := by decide +kernel
theorem dX2_weightOf_12 : decode cX2_weightOf 12 = .ok (.isub, 1) := by decide +kernel
theorem dX2_weightOf_13 : decode cX2_weightOf 13 = .ok (.invokestatic 52, 3) := by decide +kernel
theorem dX2_weightOf_16 : decode cX2_weightOf 16 = .ok (.istore 4, 2) := by decide +kernel
theorem dX2_weightOf_18 : decode cX2_weightOf 18 = .ok (.iconst 1, 1) := by decide +kernel
theorem dX2_weightOf_19 : decode cX2_weightOf 19 = .ok (.aload_n 0, 1) := by decide +kernel
theorem dX2_weightOf_20 : decode cX2_weightOf 20 = .ok (.getfield 9, 3) := by decide +kernel
theorem dX2_weightOf_23 : decode cX2_weightOf 23 = .ok (.iconst 0, 1) := by decide +kernel
theorem dX2_weightOf_24 : decode cX2_weightOf 24 = .ok (.iaload, 1) := by decide +kernel
theorem dX2_weightOf_25 : decode cX2_weightOf 25 = .ok (.aload_n 0, 1) := by decide +kernel
theorem dX2_weightOf_26 : decode cX2_weightOf 26 = .ok (.getfield 9, 3) := by decide +kernel
theorem dX2_weightOf_29 : decode cX2_weightOf 29 = .ok (.iconst 1, 1) := by decide +kernel
theorem dX2_weightOf_30 : decode cX2_weightOf 30 = .ok (.iaload, 1) := by decide +kernel
theorem dX2_weightOf_31 : decode cX2_weightOf 31 = .ok (.iload 4, 2) := by decide +kernel
theorem dX2_weightOf_33 : decode cX2_weightOf 33 = .ok (.imul, 1) := by decide +kernel
theorem dX2_weightOf_34 : decode cX2_weightOf 34 = .ok (.isub, 1) := by decide +kernel
theorem dX2_weightOf_35 : decode cX2_weightOf 35 = .ok (.invokestatic 58, 3) := by decide +kernel
theorem dX2_weightOf_38 : decode cX2_weightOf 38 = .ok (.istore 5, 2) := by decide +kernel
theorem dX2_weightOf_40 : decode cX2_weightOf 40 = .ok (.iload_n 3, 1) := by decide +kernel
theorem dX2_weightOf_41 : decode cX2_weightOf 41 = .ok (.iconst 2, 1) := by decide +kernel
theorem dX2_weightOf_42 : decode cX2_weightOf 42 = .ok (.if_icmp .ge 8, 3) := by decide +kernel
theorem dX2_weightOf_45 : decode cX2_weightOf 45 = .ok (.iload 5, 2) := by decide +kernel
theorem dX2_weightOf_47 : decode cX2_weightOf 47 = .ok (.goto 11, 3) := by decide +kernel
theorem dX2_weightOf_50 : decode cX2_weightOf 50 = .ok (.iconst 1, 1) := by decide +kernel
theorem dX2_weightOf_51 : decode cX2_weightOf 51 = .ok (.iload 5, 2) := by decide +kernel
theorem dX2_weightOf_53 : decode cX2_weightOf 53 = .ok (.iconst 2, 1) := by decide +kernel
theorem dX2_weightOf_54 : decode cX2_weightOf 54 = .ok (.idiv, 1) := by decide +kernel
theorem dX2_weightOf_55 : decode cX2_weightOf 55 = .ok (.invokestatic 58, 3) := by decide +kernel
theorem dX2_weightOf_58 : decode cX2_weightOf 58 = .ok (.ireturn, 1) := by decide +kernel
theorem dX2_pullFrom_0 : decode cX2_pullFrom 0 = .ok (.aload_n 0, 1) := by decide +kernel
theorem dX2_pullFrom_1 : decode cX2_pullFrom 1 = .ok (.getfield 9, 3) := by decide +kernel
theorem dX2_pullFrom_4 : decode cX2_pullFrom 4 = .ok (.iconst 2, 1) := by decide +kernel
theorem dX2_pullFrom_5 : decode cX2_pullFrom 5 = .ok (.iaload, 1) := by decide +kernel
theorem dX2_pullFrom_6 : decode cX2_pullFrom 6 = .ok (.aload_n 0, 1) := by decide +kernel
theorem dX2_pullFrom_7 : decode cX2_pullFrom 7 = .ok (.getfield 15, 3) := by decide +kernel
theorem dX2_pullFrom_10 : decode cX2_pullFrom 10 = .ok (.iload_n 1, 1) := by decide +kernel
theorem dX2_pullFrom_11 : decode cX2_pullFrom 11 = .ok (.iaload, 1) := by decide +kernel
theorem dX2_pullFrom_12 : decode cX2_pullFrom 12 = .ok (.aload_n 0, 1) := by decide +kernel
theorem dX2_pullFrom_13 : decode cX2_pullFrom 13 = .ok (.getfield 9, 3) := by decide +kernel
theorem dX2_pullFrom_16 : decode cX2_pullFrom 16 = .ok (.iload_n 2, 1) := by decide +kernel
theorem dX2_pullFrom_17 : decode cX2_pullFrom 17 = .ok (.iaload, 1) := by decide +kernel
theorem dX2_pullFrom_18 : decode cX2_pullFrom 18 = .ok (.isub, 1) := by decide +kernel
theorem dX2_pullFrom_19 : decode cX2_pullFrom 19 = .ok (.invokestatic 52, 3) := by decide +kernel
theorem dX2_pullFrom_22 : decode cX2_pullFrom 22 = .ok (.imul, 1) := by decide +kernel
theorem dX2_pullFrom_23 : decode cX2_pullFrom 23 = .ok (.ireturn, 1) := by decide +kernel
set_option maxRecDepth 20000 in
theorem ggX2_shadeAround_X2_numberOf : GoodIn wsX2_shadeAround wsX2_numberOf := goodIn_r _ [12, 2, 13, 14, 15, 16, 17] (by decide +kernel) (by decide +kernel)
set_option maxRecDepth 20000 in
theorem gX2_shadeAround_X2_numberOf : GoodIn wsX2_shadeAround (wsV RX2 48 RX2 yX2_numberOf wsX2_numberOf) := goodIn_app (goodIn_of _ (by decide +kernel)) ggX2_shadeAround_X2_numberOf
theorem dX2_shadeAround_0 : decode cX2_shadeAround 0 = .ok (.iconst 0, 1) := by decide +kernel
theorem dX2_shadeAround_1 : decode cX2_shadeAround 1 = .ok (.istore 5, 2) := by decide +kernel
theorem dX2_shadeAround_3 : decode cX2_shadeAround 3 = .ok (.iconst 0, 1) := by decide +kernel
theorem dX2_shadeAround_4 : decode cX2_shadeAround 4 = .ok (.istore 6, 2) := by decide +kernel
theorem dX2_shadeAround_6 : decode cX2_shadeAround 6 = .ok (.iload 6, 2) := by decide +kernel
theorem dX2_shadeAround_8 : decode cX2_shadeAround 8 = .ok (.aload_n 0, 1) := by decide +kernel
theorem dX2_shadeAround_9 : decode cX2_shadeAround 9 = .ok (.getfield 25, 3) := by decide +kernel
theorem dX2_shadeAround_12 : decode cX2_shadeAround 12 = .ok (.if_icmp .ge 64, 3) := by decide +kernel
theorem dX2_shadeAround_15 : decode cX2_shadeAround 15 = .ok (.iconst 0, 1) := by decide +kernel
theorem dX2_shadeAround_16 : decode cX2_shadeAround 16 = .ok (.istore 7, 2) := by decide +kernel
theorem dX2_shadeAround_18 : decode cX2_shadeAround 18 = .ok (.iload 7, 2) := by decide +kernel
theorem dX2_shadeAround_20 : decode cX2_shadeAround 20 = .ok (.aload_n 0, 1) := by decide +kernel
theorem dX2_shadeAround_21 : decode cX2_shadeAround 21 = .ok (.getfield 21, 3) := by decide +kernel
theorem dX2_shadeAround_24 : decode cX2_shadeAround 24 = .ok (.if_icmp .ge 46, 3) := by decide +kernel
theorem dX2_shadeAround_27 : decode cX2_shadeAround 27 = .ok (.iload 7, 2) := by decide +kernel
theorem dX2_shadeAround_29 : decode cX2_shadeAround 29 = .ok (.iload_n 1, 1) := by decide +kernel
theorem dX2_shadeAround_30 : decode cX2_shadeAround 30 = .ok (.isub, 1) := by decide +kernel
theorem dX2_shadeAround_31 : decode cX2_shadeAround 31 = .ok (.invokestatic 52, 3) := by decide +kernel
theorem dX2_shadeAround_34 : decode cX2_shadeAround 34 = .ok (.iload 6, 2) := by decide +kernel
theorem dX2_shadeAround_36 : decode cX2_shadeAround 36 = .ok (.iload_n 2, 1) := by decide +kernel
theorem dX2_shadeAround_37 : decode cX2_shadeAround 37 = .ok (.isub, 1) := by decide +kernel
theorem dX2_shadeAround_38 : decode cX2_shadeAround 38 = .ok (.invokestatic 52, 3) := by decide +kernel
theorem dX2_shadeAround_41 : decode cX2_shadeAround 41 = .ok (.iadd, 1) := by decide +kernel
theorem dX2_shadeAround_42 : decode cX2_shadeAround 42 = .ok (.iload_n 3, 1) := by decide +kernel
theorem dX2_shadeAround_43 : decode cX2_shadeAround 43 = .ok (.if_icmp .gt 21, 3) := by decide +kernel
theorem dX2_shadeAround_46 : decode cX2_shadeAround 46 = .ok (.aload_n 0, 1) := by decide +kernel
theorem dX2_shadeAround_47 : decode cX2_shadeAround 47 = .ok (.getfield 15, 3) := by decide +kernel
theorem dX2_shadeAround_50 : decode cX2_shadeAround 50 = .ok (.aload_n 0, 1) := by decide +kernel
theorem dX2_shadeAround_51 : decode cX2_shadeAround 51 = .ok (.iload 7, 2) := by decide +kernel
theorem dX2_shadeAround_53 : decode cX2_shadeAround 53 = .ok (.iload 6, 2) := by decide +kernel
theorem dX2_shadeAround_55 : decode cX2_shadeAround 55 = .ok (.invokevirtual 48, 3) := by decide +kernel
theorem dX2_shadeAround_58 : decode cX2_shadeAround 58 = .ok (.iload 4, 2) := by decide +kernel
theorem dX2_shadeAround_60 : decode cX2_shadeAround 60 = .ok (.iastore, 1) := by decide +kernel
theorem dX2_shadeAround_61 : decode cX2_shadeAround 61 = .ok (.iinc 5 1, 3) := by decide +kernel
theorem dX2_shadeAround_64 : decode cX2_shadeAround 64 = .ok (.iinc 7 1, 3) := by decide +kernel
theorem dX2_shadeAround_67 : decode cX2_shadeAround 67 = .ok (.goto (-49), 3) := by decide +kernel
theorem dX2_shadeAround_70 : decode cX2_shadeAround 70 = .ok (.iinc 6 1, 3) := by decide +kernel
theorem dX2_shadeAround_73 : decode cX2_shadeAround 73 = .ok (.goto (-67), 3) := by decide +kernel
theorem dX2_shadeAround_76 : decode cX2_shadeAround 76 = .ok (.iload 5, 2) := by decide +kernel
theorem dX2_shadeAround_78 : decode cX2_shadeAround 78 = .ok (.ireturn, 1) := by decide +kernel
set_option maxRecDepth 20000 in
theorem ggX2_lineOf_X2_numberOf : GoodIn wsX2_lineOf wsX2_numberOf := goodIn_r _ [12, 13, 18, 19, 20, 21, 22] (by decide +kernel) (by decide +kernel)
set_option maxRecDepth 20000 in
theorem gX2_lineOf_X2_numberOf : GoodIn wsX2_lineOf (wsV RX2 48 RX2 yX2_numberOf wsX2_numberOf) := goodIn_app (goodIn_of _ (by decide +kernel)) ggX2_lineOf_X2_numberOf
set_option maxRecDepth 20000 in
theorem ggX2_lineOf_J9_floorDiv_7cf53 : GoodIn wsX2_lineOf wsJ9_floorDiv_7cf53 := goodIn_r _ [17] (by decide +kernel) (by decide +kernel)
set_option maxRecDepth 20000 in
theorem gX2_lineOf_J9_floorDiv_7cf53 : GoodIn wsX2_lineOf (va_wsS RX2 61 yJ9_floorDiv_7cf53 wsJ9_floorDiv_7cf53) := goodIn_app (goodIn_of _ (by decide +kernel)) ggX2_lineOf_J9_floorDiv_7cf53
theorem dX2_lineOf_0 : decode cX2_lineOf 0 = .ok (.iload_n 3, 1) := by decide +kernel
theorem dX2_lineOf_1 : decode cX2_lineOf 1 = .ok (.iload_n 1, 1) := by decide +kernel
theorem dX2_lineOf_2 : decode cX2_lineOf 2 = .ok (.isub, 1) := by decide +kernel
theorem dX2_lineOf_3 : decode cX2_lineOf 3 = .ok (.invokestatic 52, 3) := by decide +kernel
theorem dX2_lineOf_6 : decode cX2_lineOf 6 = .ok (.iload 4, 2) := by decide +kernel
theorem dX2_lineOf_8 : decode cX2_lineOf 8 = .ok (.iload_n 2, 1) := by decide +kernel
theorem dX2_lineOf_9 : decode cX2_lineOf 9 = .ok (.isub, 1) := by decide +kernel
theorem dX2_lineOf_10 : decode cX2_lineOf 10 = .ok (.invokestatic 52, 3) := by decide +kernel
theorem dX2_lineOf_13 : decode cX2_lineOf 13 = .ok (.invokestatic 58, 3) := by decide +kernel
theorem dX2_lineOf_16 : decode cX2_lineOf 16 = .ok (.istore 5, 2) := by decide +kernel
theorem dX2_lineOf_18 : decode cX2_lineOf 18 = .ok (.iload 5, 2) := by decide +kernel
theorem dX2_lineOf_20 : decode cX2_lineOf 20 = .ok (.ifCond .ne 12, 3) := by decide +kernel
theorem dX2_lineOf_23 : decode cX2_lineOf 23 = .ok (.lconst 1, 1) := by decide +kernel
theorem dX2_lineOf_24 : decode cX2_lineOf 24 = .ok (.aload_n 0, 1) := by decide +kernel
theorem dX2_lineOf_25 : decode cX2_lineOf 25 = .ok (.iload_n 1, 1) := by decide +kernel
theorem dX2_lineOf_26 : decode cX2_lineOf 26 = .ok (.iload_n 2, 1) := by decide +kernel
theorem dX2_lineOf_27 : decode cX2_lineOf 27 = .ok (.invokevirtual 48, 3) := by decide +kernel
theorem dX2_lineOf_30 : decode cX2_lineOf 30 = .ok (.lshl, 1) := by decide +kernel
theorem dX2_lineOf_31 : decode cX2_lineOf 31 = .ok (.lreturn, 1) := by decide +kernel
theorem dX2_lineOf_32 : decode cX2_lineOf 32 = .ok (.lconst 0, 1) := by decide +kernel
theorem dX2_lineOf_33 : decode cX2_lineOf 33 = .ok (.lstore 6, 2) := by decide +kernel
theorem dX2_lineOf_35 : decode cX2_lineOf 35 = .ok (.iconst 0, 1) := by decide +kernel
theorem dX2_lineOf_36 : decode cX2_lineOf 36 = .ok (.istore 8, 2) := by decide +kernel
theorem dX2_lineOf_38 : decode cX2_lineOf 38 = .ok (.iload 8, 2) := by decide +kernel
theorem dX2_lineOf_40 : decode cX2_lineOf 40 = .ok (.iload 5, 2) := by decide +kernel
theorem dX2_lineOf_42 : decode cX2_lineOf 42 = .ok (.if_icmp .gt 69, 3) := by decide +kernel
theorem dX2_lineOf_45 : decode cX2_lineOf 45 = .ok (.iload_n 1, 1) := by decide +kernel
theorem dX2_lineOf_46 : decode cX2_lineOf 46 = .ok (.iconst 2, 1) := by decide +kernel
theorem dX2_lineOf_47 : decode cX2_lineOf 47 = .ok (.iload 8, 2) := by decide +kernel
theorem dX2_lineOf_49 : decode cX2_lineOf 49 = .ok (.imul, 1) := by decide +kernel
theorem dX2_lineOf_50 : decode cX2_lineOf 50 = .ok (.iload_n 3, 1) := by decide +kernel
theorem dX2_lineOf_51 : decode cX2_lineOf 51 = .ok (.iload_n 1, 1) := by decide +kernel
theorem dX2_lineOf_52 : decode cX2_lineOf 52 = .ok (.isub, 1) := by decide +kernel
theorem dX2_lineOf_53 : decode cX2_lineOf 53 = .ok (.imul, 1) := by decide +kernel
theorem dX2_lineOf_54 : decode cX2_lineOf 54 = .ok (.iload 5, 2) := by decide +kernel
theorem dX2_lineOf_56 : decode cX2_lineOf 56 = .ok (.iadd, 1) := by decide +kernel
theorem dX2_lineOf_57 : decode cX2_lineOf 57 = .ok (.iconst 2, 1) := by decide +kernel
theorem dX2_lineOf_58 : decode cX2_lineOf 58 = .ok (.iload 5, 2) := by decide +kernel
theorem dX2_lineOf_60 : decode cX2_lineOf 60 = .ok (.imul, 1) := by decide +kernel
theorem dX2_lineOf_61 : decode cX2_lineOf 61 = .ok (.invokestatic 61, 3) := by decide +kernel
theorem dX2_lineOf_64 : decode cX2_lineOf 64 = .ok (.iadd, 1) := by decide +kernel
theorem dX2_lineOf_65 : decode cX2_lineOf 65 = .ok (.istore 9, 2) := by decide +kernel
theorem dX2_lineOf_67 : decode cX2_lineOf 67 = .ok (.iload_n 2, 1) := by decide +kernel
theorem dX2_lineOf_68 : decode cX2_lineOf 68 = .ok (.iconst 2, 1) := by decide +kernel
theorem dX2_lineOf_69 : decode cX2_lineOf 69 = .ok (.iload 8, 2) := by decide +kernel
theorem dX2_lineOf_71 : decode cX2_lineOf 71 = .ok (.imul, 1) := by decide +kernel
theorem dX2_lineOf_72 : decode cX2_lineOf 72 = .ok (.iload 4, 2) := by decide +kernel
theorem dX2_lineOf_74 : decode cX2_lineOf 74 = .ok (.iload_n 2, 1) := by decide +kernel
theorem dX2_lineOf_75 : decode cX2_lineOf 75 = .ok (.isub, 1) := by decide +kernel
theorem dX2_lineOf_76 : decode cX2_lineOf 76 = .ok (.imul, 1) := by decide +kernel
theorem dX2_lineOf_77 : decode cX2_lineOf 77 = .ok (.iload 5, 2) := by decide +kernel
theorem dX2_lineOf_79 : decode cX2_lineOf 79 = .ok (.iadd, 1) := by decide +kernel
theorem dX2_lineOf_80 : decode cX2_lineOf 80 = .ok (.iconst 2, 1) := by decide +kernel
theorem dX2_lineOf_81 : decode cX2_lineOf 81 = .ok (.iload 5, 2) := by decide +kernel
theorem dX2_lineOf_83 : decode cX2_lineOf 83 = .ok (.imul, 1) := by decide +kernel
theorem dX2_lineOf_84 : decode cX2_lineOf 84 = .ok (.invokestatic 61, 3) := by decide +kernel
theorem dX2_lineOf_87 : decode cX2_lineOf 87 = .ok (.iadd, 1) := by decide +kernel
theorem dX2_lineOf_88 : decode cX2_lineOf 88 = .ok (.istore 10, 2) := by decide +kernel
theorem dX2_lineOf_90 : decode cX2_lineOf 90 = .ok (.lload 6, 2) := by decide +kernel
theorem dX2_lineOf_92 : decode cX2_lineOf 92 = .ok (.lconst 1, 1) := by decide +kernel
theorem dX2_lineOf_93 : decode cX2_lineOf 93 = .ok (.aload_n 0, 1) := by decide +kernel
theorem dX2_lineOf_94 : decode cX2_lineOf 94 = .ok (.iload 9, 2) := by decide +kernel
theorem dX2_lineOf_96 : decode cX2_lineOf 96 = .ok (.iload 10, 2) := by decide +kernel
theorem dX2_lineOf_98 : decode cX2_lineOf 98 = .ok (.invokevirtual 48, 3) := by decide +kernel
theorem dX2_lineOf_101 : decode cX2_lineOf 101 = .ok (.lshl, 1) := by decide +kernel
theorem dX2_lineOf_102 : decode cX2_lineOf 102 = .ok (.lor, 1) := by decide +kernel
theorem dX2_lineOf_103 : decode cX2_lineOf 103 = .ok (.lstore 6, 2) := by decide +kernel
theorem dX2_lineOf_105 : decode cX2_lineOf 105 = .ok (.iinc 8 1, 3) := by decide +kernel
theorem dX2_lineOf_108 : decode cX2_lineOf 108 = .ok (.goto (-70), 3) := by decide +kernel
theorem dX2_lineOf_111 : decode cX2_lineOf 111 = .ok (.lload 6, 2) := by decide +kernel
theorem dX2_lineOf_113 : decode cX2_lineOf 113 = .ok (.lreturn, 1) := by decide +kernel
set_option maxRecDepth 20000 in
theorem ggX2_markAll_X2_dots : GoodIn wsX2_markAll wsX2_dots := goodIn_r _ [6, 7, 8, 12, 13, 14, 15, 16] (by decide +kernel) (by decide +kernel)
set_option maxRecDepth 20000 in
theorem gX2_markAll_X2_dots : GoodIn wsX2_markAll (wsV RX2 34 RX2 yX2_dots wsX2_dots) := goodIn_app (goodIn_of _ (by decide +kernel)) ggX2_markAll_X2_dots
set_option maxRecDepth 20000 in
theorem ggX2_markAll_X4_has : GoodIn wsX2_markAll wsX4_has := goodIn_r _ [11] (by decide +kernel) (by decide +kernel)
set_option maxRecDepth 20000 in
theorem gX2_markAll_X4_has_n64 : GoodIn wsX2_markAll (wsX4_has) := ggX2_markAll_X4_has
theorem dX2_markAll_0 : decode cX2_markAll 0 = .ok (.iconst 0, 1) := by decide +kernel
theorem dX2_markAll_1 : decode cX2_markAll 1 = .ok (.istore 4, 2) := by decide +kernel
theorem dX2_markAll_3 : decode cX2_markAll 3 = .ok (.iconst 0, 1) := by decide +kernel
theorem dX2_markAll_4 : decode cX2_markAll 4 = .ok (.istore 5, 2) := by decide +kernel
theorem dX2_markAll_6 : decode cX2_markAll 6 = .ok (.iload 5, 2) := by decide +kernel
theorem dX2_markAll_8 : decode cX2_markAll 8 = .ok (.aload_n 0, 1) := by decide +kernel
theorem dX2_markAll_9 : decode cX2_markAll 9 = .ok (.invokevirtual 34, 3) := by decide +kernel
theorem dX2_markAll_12 : decode cX2_markAll 12 = .ok (.if_icmp .ge 40, 3) := by decide +kernel
theorem dX2_markAll_15 : decode cX2_markAll 15 = .ok (.lload_n 1, 1) := by decide +kernel
theorem dX2_markAll_16 : decode cX2_markAll 16 = .ok (.iload 5, 2) := by decide +kernel
theorem dX2_markAll_18 : decode cX2_markAll 18 = .ok (.invokestatic 64, 3) := by decide +kernel
theorem dX2_markAll_21 : decode cX2_markAll 21 = .ok (.ifCond .eq 25, 3) := by decide +kernel
theorem dX2_markAll_24 : decode cX2_markAll 24 = .ok (.aload_n 0, 1) := by decide +kernel
theorem dX2_markAll_25 : decode cX2_markAll 25 = .ok (.getfield 18, 3) := by decide +kernel
theorem dX2_markAll_28 : decode cX2_markAll 28 = .ok (.iload 5, 2) := by decide +kernel
theorem dX2_markAll_30 : decode cX2_markAll 30 = .ok (.iaload, 1) := by decide +kernel
theorem dX2_markAll_31 : decode cX2_markAll 31 = .ok (.iload_n 3, 1) := by decide +kernel
theorem dX2_markAll_32 : decode cX2_markAll 32 = .ok (.if_icmp .eq 14, 3) := by decide +kernel
theorem dX2_markAll_35 : decode cX2_markAll 35 = .ok (.aload_n 0, 1) := by decide +kernel
theorem dX2_markAll_36 : decode cX2_markAll 36 = .ok (.getfield 18, 3) := by decide +kernel
theorem dX2_markAll_39 : decode cX2_markAll 39 = .ok (.iload 5, 2) := by decide +kernel
theorem dX2_markAll_41 : decode cX2_markAll 41 = .ok (.iload_n 3, 1) := by decide +kernel
theorem dX2_markAll_42 : decode cX2_markAll 42 = .ok (.iastore, 1) := by decide +kernel
theorem dX2_markAll_43 : decode cX2_markAll 43 = .ok (.iinc 4 1, 3) := by decide +kernel
theorem dX2_markAll_46 : decode cX2_markAll 46 = .ok (.iinc 5 1, 3) := by decide +kernel
theorem dX2_markAll_49 : decode cX2_markAll 49 = .ok (.goto (-43), 3) := by decide +kernel
theorem dX2_markAll_52 : decode cX2_markAll 52 = .ok (.iload 4, 2) := by decide +kernel
theorem dX2_markAll_54 : decode cX2_markAll 54 = .ok (.ireturn, 1) := by decide +kernel
set_option maxRecDepth 20000 in
theorem ggX2_markRest_X2_dots : GoodIn wsX2_markRest wsX2_dots := goodIn_r _ [6, 7, 8, 12, 13, 14, 15, 16] (by decide +kernel) (by decide +kernel)
set_option maxRecDepth 20000 in
theorem gX2_markRest_X2_dots : GoodIn wsX2_markRest (wsV RX2 34 RX2 yX2_dots wsX2_dots) := goodIn_app (goodIn_of _ (by decide +kernel)) ggX2_markRest_X2_dots
set_option maxRecDepth 20000 in
theorem ggX2_markRest_X4_has : GoodIn wsX2_markRest wsX4_has := goodIn_r _ [11] (by decide +kernel) (by decide +kernel)
set_option maxRecDepth 20000 in
theorem gX2_markRest_X4_has_n64 : GoodIn wsX2_markRest (wsX4_has) := ggX2_markRest_X4_has
theorem dX2_markRest_0 : decode cX2_markRest 0 = .ok (.iconst 0, 1) := by decide +kernel
theorem dX2_markRest_1 : decode cX2_markRest 1 = .ok (.istore_n 3, 1) := by decide +kernel
theorem dX2_markRest_2 : decode cX2_markRest 2 = .ok (.iconst 0, 1) := by decide +kernel
theorem dX2_markRest_3 : decode cX2_markRest 3 = .ok (.istore 4, 2) := by decide +kernel
theorem dX2_markRest_5 : decode cX2_markRest 5 = .ok (.iload 4, 2) := by decide +kernel
theorem dX2_markRest_7 : decode cX2_markRest 7 = .ok (.aload_n 0, 1) := by decide +kernel
theorem dX2_markRest_8 : decode cX2_markRest 8 = .ok (.invokevirtual 34, 3) := by decide +kernel
theorem dX2_markRest_11 : decode cX2_markRest 11 = .ok (.if_icmp .ge 43, 3) := by decide +kernel
theorem dX2_markRest_14 : decode cX2_markRest 14 = .ok (.aload_n 0, 1) := by decide +kernel
theorem dX2_markRest_15 : decode cX2_markRest 15 = .ok (.getfield 18, 3) := by decide +kernel
theorem dX2_markRest_18 : decode cX2_markRest 18 = .ok (.iload 4, 2) := by decide +kernel
theorem dX2_markRest_20 : decode cX2_markRest 20 = .ok (.iaload, 1) := by decide +kernel
theorem dX2_markRest_21 : decode cX2_markRest 21 = .ok (.ifCond .ne 27, 3) := by decide +kernel
theorem dX2_markRest_24 : decode cX2_markRest 24 = .ok (.aload_n 0, 1) := by decide +kernel
theorem dX2_markRest_25 : decode cX2_markRest 25 = .ok (.getfield 18, 3) := by decide +kernel
theorem dX2_markRest_28 : decode cX2_markRest 28 = .ok (.iload 4, 2) := by decide +kernel
theorem dX2_markRest_30 : decode cX2_markRest 30 = .ok (.lload_n 1, 1) := by decide +kernel
theorem dX2_markRest_31 : decode cX2_markRest 31 = .ok (.iload 4, 2) := by decide +kernel
theorem dX2_markRest_33 : decode cX2_markRest 33 = .ok (.invokestatic 64, 3) := by decide +kernel
theorem dX2_markRest_36 : decode cX2_markRest 36 = .ok (.ifCond .eq 7, 3) := by decide +kernel
theorem dX2_markRest_39 : decode cX2_markRest 39 = .ok (.iconst 1, 1) := by decide +kernel
theorem dX2_markRest_40 : decode cX2_markRest 40 = .ok (.goto 4, 3) := by decide +kernel
theorem dX2_markRest_43 : decode cX2_markRest 43 = .ok (.iconst 2, 1) := by decide +kernel
theorem dX2_markRest_44 : decode cX2_markRest 44 = .ok (.iastore, 1) := by decide +kernel
theorem dX2_markRest_45 : decode cX2_markRest 45 = .ok (.iinc 3 1, 3) := by decide +kernel
theorem dX2_markRest_48 : decode cX2_markRest 48 = .ok (.iinc 4 1, 3) := by decide +kernel
theorem dX2_markRest_51 : decode cX2_markRest 51 = .ok (.goto (-46), 3) := by decide +kernel
theorem dX2_markRest_54 : decode cX2_markRest 54 = .ok (.iload_n 3, 1) := by decide +kernel
theorem dX2_markRest_55 : decode cX2_markRest 55 = .ok (.ireturn, 1) := by decide +kernel
set_option maxRecDepth 20000 in
theorem ggX2_swapSides_X2_dots : GoodIn wsX2_swapSides wsX2_dots := goodIn_r _ [7, 8, 9, 10, 11, 12, 13, 14] (by decide +kernel) (by decide +kernel)
set_option maxRecDepth 20000 in
theorem gX2_swapSides_X2_dots : GoodIn wsX2_swapSides (wsV RX2 34 RX2 yX2_dots wsX2_dots) := goodIn_app (goodIn_of _ (by decide +kernel)) ggX2_swapSides_X2_dots
theorem dX2_swapSides_0 : decode cX2_swapSides 0 = .ok (.iconst 0, 1) := by decide +kernel
theorem dX2_swapSides_1 : decode cX2_swapSides 1 = .ok (.istore_n 1, 1) := by decide +kernel
theorem dX2_swapSides_2 : decode cX2_swapSides 2 = .ok (.iconst 0, 1) := by decide +kernel
theorem dX2_swapSides_3 : decode cX2_swapSides 3 = .ok (.istore_n 2, 1) := by decide +kernel
theorem dX2_swapSides_4 : decode cX2_swapSides 4 = .ok (.iload_n 2, 1) := by decide +kernel
theorem dX2_swapSides_5 : decode cX2_swapSides 5 = .ok (.aload_n 0, 1) := by decide +kernel
theorem dX2_swapSides_6 : decode cX2_swapSides 6 = .ok (.invokevirtual 34, 3) := by decide +kernel
theorem dX2_swapSides_9 : decode cX2_swapSides 9 = .ok (.if_icmp .ge 42, 3) := by decide +kernel
theorem dX2_swapSides_12 : decode cX2_swapSides 12 = .ok (.aload_n 0, 1) := by decide +kernel
theorem dX2_swapSides_13 : decode cX2_swapSides 13 = .ok (.getfield 18, 3) := by decide +kernel
theorem dX2_swapSides_16 : decode cX2_swapSides 16 = .ok (.iload_n 2, 1) := by decide +kernel
theorem dX2_swapSides_17 : decode cX2_swapSides 17 = .ok (.iaload, 1) := by decide +kernel
theorem dX2_swapSides_18 : decode cX2_swapSides 18 = .ok (.ifCond .eq 27, 3) := by decide +kernel
theorem dX2_swapSides_21 : decode cX2_swapSides 21 = .ok (.aload_n 0, 1) := by decide +kernel
theorem dX2_swapSides_22 : decode cX2_swapSides 22 = .ok (.getfield 18, 3) := by decide +kernel
theorem dX2_swapSides_25 : decode cX2_swapSides 25 = .ok (.iload_n 2, 1) := by decide +kernel
theorem dX2_swapSides_26 : decode cX2_swapSides 26 = .ok (.aload_n 0, 1) := by decide +kernel
theorem dX2_swapSides_27 : decode cX2_swapSides 27 = .ok (.getfield 18, 3) := by decide +kernel
theorem dX2_swapSides_30 : decode cX2_swapSides 30 = .ok (.iload_n 2, 1) := by decide +kernel
theorem dX2_swapSides_31 : decode cX2_swapSides 31 = .ok (.iaload, 1) := by decide +kernel
theorem dX2_swapSides_32 : decode cX2_swapSides 32 = .ok (.iconst 1, 1) := by decide +kernel
theorem dX2_swapSides_33 : decode cX2_swapSides 33 = .ok (.if_icmp .ne 7, 3) := by decide +kernel
theorem dX2_swapSides_36 : decode cX2_swapSides 36 = .ok (.iconst 2, 1) := by decide +kernel
theorem dX2_swapSides_37 : decode cX2_swapSides 37 = .ok (.goto 4, 3) := by decide +kernel
theorem dX2_swapSides_40 : decode cX2_swapSides 40 = .ok (.iconst 1, 1) := by decide +kernel
theorem dX2_swapSides_41 : decode cX2_swapSides 41 = .ok (.iastore, 1) := by decide +kernel
theorem dX2_swapSides_42 : decode cX2_swapSides 42 = .ok (.iinc 1 1, 3) := by decide +kernel
theorem dX2_swapSides_45 : decode cX2_swapSides 45 = .ok (.iinc 2 1, 3) := by decide +kernel
theorem dX2_swapSides_48 : decode cX2_swapSides 48 = .ok (.goto (-44), 3) := by decide +kernel
theorem dX2_swapSides_51 : decode cX2_swapSides 51 = .ok (.aload_n 0, 1) := by decide +kernel
theorem dX2_swapSides_52 : decode cX2_swapSides 52 = .ok (.getfield 9, 3) := by decide +kernel
theorem dX2_swapSides_55 : decode cX2_swapSides 55 = .ok (.iconst 3, 1) := by decide +kernel
theorem dX2_swapSides_56 : decode cX2_swapSides 56 = .ok (.iaload, 1) := by decide +kernel
theorem dX2_swapSides_57 : decode cX2_swapSides 57 = .ok (.istore_n 2, 1) := by decide +kernel
theorem dX2_swapSides_58 : decode cX2_swapSides 58 = .ok (.aload_n 0, 1) := by decide +kernel
theorem dX2_swapSides_59 : decode cX2_swapSides 59 = .ok (.getfield 9, 3) := by decide +kernel
theorem dX2_swapSides_62 : decode cX2_swapSides 62 = .ok (.iconst 3, 1) := by decide +kernel
theorem dX2_swapSides_63 : decode cX2_swapSides 63 = .ok (.aload_n 0, 1) := by decide +kernel
theorem dX2_swapSides_64 : decode cX2_swapSides 64 = .ok (.getfield 9, 3) := by decide +kernel
theorem dX2_swapSides_67 : decode cX2_swapSides 67 = .ok (.iconst 4, 1) := by decide +kernel
theorem dX2_swapSides_68 : decode cX2_swapSides 68 = .ok (.iaload, 1) := by decide +kernel
theorem dX2_swapSides_69 : decode cX2_swapSides 69 = .ok (.iastore, 1) := by decide +kernel
theorem dX2_swapSides_70 : decode cX2_swapSides 70 = .ok (.aload_n 0, 1) := by decide +kernel
theorem dX2_swapSides_71 : decode cX2_swapSides 71 = .ok (.getfield 9, 3) := by decide +kernel
theorem dX2_swapSides_74 : decode cX2_swapSides 74 = .ok (.iconst 4, 1) := by decide +kernel
theorem dX2_swapSides_75 : decode cX2_swapSides 75 = .ok (.iload_n 2, 1) := by decide +kernel
theorem dX2_swapSides_76 : decode cX2_swapSides 76 = .ok (.iastore, 1) := by decide +kernel
theorem dX2_swapSides_77 : decode cX2_swapSides 77 = .ok (.iload_n 1, 1) := by decide +kernel
theorem dX2_swapSides_78 : decode cX2_swapSides 78 = .ok (.ireturn, 1) := by decide +kernel
set_option maxRecDepth 20000 in
theorem ggX2_learnTones_X2_learnTone : GoodIn wsX2_learnTones wsX2_learnTone := goodIn_r _ [6, 7, 8, 9, 10, 11, 5, 12, 13, 14, 15, 16, 17, 22, 23, 24, 25, 26] (by decide +kernel) (by decide +kernel)
set_option maxRecDepth 20000 in
theorem gX2_learnTones_X2_learnTone : GoodIn wsX2_learnTones (wsV RX2 68 RX2 yX2_learnTone wsX2_learnTone) := goodIn_app (goodIn_of _ (by decide +kernel)) ggX2_learnTones_X2_learnTone
set_option maxRecDepth 20000 in
theorem ggX2_learnTones_X2_allDots : GoodIn wsX2_learnTones wsX2_allDots := goodIn_r _ [21, 9, 10, 11, 5, 12, 13, 14, 22, 23, 24, 25, 26] (by decide +kernel) (by decide +kernel)
set_option maxRecDepth 20000 in
theorem gX2_learnTones_X2_allDots : GoodIn wsX2_learnTones (wsV RX2 72 RX2 yX2_allDots wsX2_allDots) := goodIn_app (goodIn_of _ (by decide +kernel)) ggX2_learnTones_X2_allDots
theorem dX2_learnTones_0 : decode cX2_learnTones 0 = .ok (.aload_n 0, 1) := by decide +kernel
theorem dX2_learnTones_1 : decode cX2_learnTones 1 = .ok (.iconst 3, 1) := by decide +kernel
theorem dX2_learnTones_2 : decode cX2_learnTones 2 = .ok (.lload_n 1, 1) := by decide +kernel
theorem dX2_learnTones_3 : decode cX2_learnTones 3 = .ok (.invokevirtual 68, 3) := by decide +kernel
theorem dX2_learnTones_6 : decode cX2_learnTones 6 = .ok (.istore_n 3, 1) := by decide +kernel
theorem dX2_learnTones_7 : decode cX2_learnTones 7 = .ok (.aload_n 0, 1) := by decide +kernel
theorem dX2_learnTones_8 : decode cX2_learnTones 8 = .ok (.iconst 4, 1) := by decide +kernel
theorem dX2_learnTones_9 : decode cX2_learnTones 9 = .ok (.aload_n 0, 1) := by decide +kernel
theorem dX2_learnTones_10 : decode cX2_learnTones 10 = .ok (.invokevirtual 72, 3) := by decide +kernel
theorem dX2_learnTones_13 : decode cX2_learnTones 13 = .ok (.lload_n 1, 1) := by decide +kernel
theorem dX2_learnTones_14 : decode cX2_learnTones 14 = .ok (.ldc2_w 76, 3) := by decide +kernel
theorem dX2_learnTones_17 : decode cX2_learnTones 17 = .ok (.lxor, 1) := by decide +kernel
theorem dX2_learnTones_18 : decode cX2_learnTones 18 = .ok (.land, 1) := by decide +kernel
theorem dX2_learnTones_19 : decode cX2_learnTones 19 = .ok (.invokevirtual 68, 3) := by decide +kernel
theorem dX2_learnTones_22 : decode cX2_learnTones 22 = .ok (.istore 4, 2) := by decide +kernel
theorem dX2_learnTones_24 : decode cX2_learnTones 24 = .ok (.iload_n 3, 1) := by decide +kernel
theorem dX2_learnTones_25 : decode cX2_learnTones 25 = .ok (.ifCond .ne 8, 3) := by decide +kernel
theorem dX2_learnTones_28 : decode cX2_learnTones 28 = .ok (.iload 4, 2) := by decide +kernel
theorem dX2_learnTones_30 : decode cX2_learnTones 30 = .ok (.ifCond .eq 7, 3) := by decide +kernel
theorem dX2_learnTones_33 : decode cX2_learnTones 33 = .ok (.iconst 1, 1) := by decide +kernel
theorem dX2_learnTones_34 : decode cX2_learnTones 34 = .ok (.goto 4, 3) := by decide +kernel
theorem dX2_learnTones_37 : decode cX2_learnTones 37 = .ok (.iconst 0, 1) := by decide +kernel
theorem dX2_learnTones_38 : decode cX2_learnTones 38 = .ok (.ireturn, 1) := by decide +kernel
set_option maxRecDepth 20000 in
theorem ggX2_learnTone_X2_dots : GoodIn wsX2_learnTone wsX2_dots := goodIn_r _ [7, 8, 9, 13, 14, 15, 16, 17] (by decide +kernel) (by decide +kernel)
set_option maxRecDepth 20000 in
theorem gX2_learnTone_X2_dots : GoodIn wsX2_learnTone (wsV RX2 34 RX2 yX2_dots wsX2_dots) := goodIn_app (goodIn_of _ (by decide +kernel)) ggX2_learnTone_X2_dots
set_option maxRecDepth 20000 in
theorem ggX2_learnTone_X4_has : GoodIn wsX2_learnTone wsX4_has := goodIn_r _ [12] (by decide +kernel) (by decide +kernel)
set_option maxRecDepth 20000 in
theorem gX2_learnTone_X4_has_n64 : GoodIn wsX2_learnTone (wsX4_has) := ggX2_learnTone_X4_has
theorem dX2_learnTone_0 : decode cX2_learnTone 0 = .ok (.iconst 0, 1) := by decide +kernel
theorem dX2_learnTone_1 : decode cX2_learnTone 1 = .ok (.istore 4, 2) := by decide +kernel
theorem dX2_learnTone_3 : decode cX2_learnTone 3 = .ok (.iconst 0, 1) := by decide +kernel
theorem dX2_learnTone_4 : decode cX2_learnTone 4 = .ok (.istore 5, 2) := by decide +kernel
theorem dX2_learnTone_6 : decode cX2_learnTone 6 = .ok (.iconst 0, 1) := by decide +kernel
theorem dX2_learnTone_7 : decode cX2_learnTone 7 = .ok (.istore 6, 2) := by decide +kernel
theorem dX2_learnTone_9 : decode cX2_learnTone 9 = .ok (.iload 6, 2) := by decide +kernel
theorem dX2_learnTone_11 : decode cX2_learnTone 11 = .ok (.aload_n 0, 1) := by decide +kernel
theorem dX2_learnTone_12 : decode cX2_learnTone 12 = .ok (.invokevirtual 34, 3) := by decide +kernel
theorem dX2_learnTone_15 : decode cX2_learnTone 15 = .ok (.if_icmp .ge 33, 3) := by decide +kernel
theorem dX2_learnTone_18 : decode cX2_learnTone 18 = .ok (.lload_n 2, 1) := by decide +kernel
theorem dX2_learnTone_19 : decode cX2_learnTone 19 = .ok (.iload 6, 2) := by decide +kernel
theorem dX2_learnTone_21 : decode cX2_learnTone 21 = .ok (.invokestatic 64, 3) := by decide +kernel
theorem dX2_learnTone_24 : decode cX2_learnTone 24 = .ok (.ifCond .eq 18, 3) := by decide +kernel
theorem dX2_learnTone_27 : decode cX2_learnTone 27 = .ok (.iinc 4 1, 3) := by decide +kernel
theorem dX2_learnTone_30 : decode cX2_learnTone 30 = .ok (.iload 5, 2) := by decide +kernel
theorem dX2_learnTone_32 : decode cX2_learnTone 32 = .ok (.aload_n 0, 1) := by decide +kernel
theorem dX2_learnTone_33 : decode cX2_learnTone 33 = .ok (.getfield 15, 3) := by decide +kernel
theorem dX2_learnTone_36 : decode cX2_learnTone 36 = .ok (.iload 6, 2) := by decide +kernel
theorem dX2_learnTone_38 : decode cX2_learnTone 38 = .ok (.iaload, 1) := by decide +kernel
theorem dX2_learnTone_39 : decode cX2_learnTone 39 = .ok (.iadd, 1) := by decide +kernel
theorem dX2_learnTone_40 : decode cX2_learnTone 40 = .ok (.istore 5, 2) := by decide +kernel
theorem dX2_learnTone_42 : decode cX2_learnTone 42 = .ok (.iinc 6 1, 3) := by decide +kernel
theorem dX2_learnTone_45 : decode cX2_learnTone 45 = .ok (.goto (-36), 3) := by decide +kernel
theorem dX2_learnTone_48 : decode cX2_learnTone 48 = .ok (.aload_n 0, 1) := by decide +kernel
theorem dX2_learnTone_49 : decode cX2_learnTone 49 = .ok (.getfield 9, 3) := by decide +kernel
theorem dX2_learnTone_52 : decode cX2_learnTone 52 = .ok (.iload_n 1, 1) := by decide +kernel
theorem dX2_learnTone_53 : decode cX2_learnTone 53 = .ok (.iaload, 1) := by decide +kernel
theorem dX2_learnTone_54 : decode cX2_learnTone 54 = .ok (.istore 6, 2) := by decide +kernel
theorem dX2_learnTone_56 : decode cX2_learnTone 56 = .ok (.iload 4, 2) := by decide +kernel
theorem dX2_learnTone_58 : decode cX2_learnTone 58 = .ok (.ifCond .le 14, 3) := by decide +kernel
theorem dX2_learnTone_61 : decode cX2_learnTone 61 = .ok (.aload_n 0, 1) := by decide +kernel
theorem dX2_learnTone_62 : decode cX2_learnTone 62 = .ok (.getfield 9, 3) := by decide +kernel
theorem dX2_learnTone_65 : decode cX2_learnTone 65 = .ok (.iload_n 1, 1) := by decide +kernel
theorem dX2_learnTone_66 : decode cX2_learnTone 66 = .ok (.iload 5, 2) := by decide +kernel
theorem dX2_learnTone_68 : decode cX2_learnTone 68 = .ok (.iload 4, 2) := by decide +kernel
theorem dX2_learnTone_70 : decode cX2_learnTone 70 = .ok (.idiv, 1) := by decide +kernel
theorem dX2_learnTone_71 : decode cX2_learnTone 71 = .ok (.iastore, 1) := by decide +kernel
theorem dX2_learnTone_72 : decode cX2_learnTone 72 = .ok (.aload_n 0, 1) := by decide +kernel
theorem dX2_learnTone_73 : decode cX2_learnTone 73 = .ok (.getfield 9, 3) := by decide +kernel
theorem dX2_learnTone_76 : decode cX2_learnTone 76 = .ok (.iload_n 1, 1) := by decide +kernel
theorem dX2_learnTone_77 : decode cX2_learnTone 77 = .ok (.iaload, 1) := by decide +kernel
theorem dX2_learnTone_78 : decode cX2_learnTone 78 = .ok (.iload 6, 2) := by decide +kernel
theorem dX2_learnTone_80 : decode cX2_learnTone 80 = .ok (.if_icmp .eq 7, 3) := by decide +kernel
theorem dX2_learnTone_83 : decode cX2_learnTone 83 = .ok (.iconst 1, 1) := by decide +kernel
theorem dX2_learnTone_84 : decode cX2_learnTone 84 = .ok (.goto 4, 3) := by decide +kernel
theorem dX2_learnTone_87 : decode cX2_learnTone 87 = .ok (.iconst 0, 1) := by decide +kernel
theorem dX2_learnTone_88 : decode cX2_learnTone 88 = .ok (.ireturn, 1) := by decide +kernel
set_option maxRecDepth 20000 in
theorem ggX2_isCutOut_X2_dots : GoodIn wsX2_isCutOut wsX2_dots := goodIn_r _ [6, 7, 8, 12, 13, 14, 15, 16] (by decide +kernel) (by decide +kernel)
set_option maxRecDepth 20000 in
theorem gX2_isCutOut_X2_dots : GoodIn wsX2_isCutOut (wsV RX2 34 RX2 yX2_dots wsX2_dots) := goodIn_app (goodIn_of _ (by decide +kernel)) ggX2_isCutOut_X2_dots
set_option maxRecDepth 20000 in
theorem ggX2_isCutOut_X4_has : GoodIn wsX2_isCutOut wsX4_has := goodIn_r _ [11] (by decide +kernel) (by decide +kernel)
set_option maxRecDepth 20000 in
theorem gX2_isCutOut_X4_has_n64 : GoodIn wsX2_isCutOut (wsX4_has) := ggX2_isCutOut_X4_has
theorem dX2_isCutOut_0 : decode cX2_isCutOut 0 = .ok (.iconst 0, 1) := by decide +kernel
theorem dX2_isCutOut_1 : decode cX2_isCutOut 1 = .ok (.istore_n 3, 1) := by decide +kernel
theorem dX2_isCutOut_2 : decode cX2_isCutOut 2 = .ok (.iload_n 3, 1) := by decide +kernel
theorem dX2_isCutOut_3 : decode cX2_isCutOut 3 = .ok (.aload_n 0, 1) := by decide +kernel
theorem dX2_isCutOut_4 : decode cX2_isCutOut 4 = .ok (.invokevirtual 34, 3) := by decide +kernel
theorem dX2_isCutOut_7 : decode cX2_isCutOut 7 = .ok (.if_icmp .ge 33, 3) := by decide +kernel
theorem dX2_isCutOut_10 : decode cX2_isCutOut 10 = .ok (.aload_n 0, 1) := by decide +kernel
theorem dX2_isCutOut_11 : decode cX2_isCutOut 11 = .ok (.getfield 18, 3) := by decide +kernel
theorem dX2_isCutOut_14 : decode cX2_isCutOut 14 = .ok (.iload_n 3, 1) := by decide +kernel
theorem dX2_isCutOut_15 : decode cX2_isCutOut 15 = .ok (.iaload, 1) := by decide +kernel
theorem dX2_isCutOut_16 : decode cX2_isCutOut 16 = .ok (.lload_n 1, 1) := by decide +kernel
theorem dX2_isCutOut_17 : decode cX2_isCutOut 17 = .ok (.iload_n 3, 1) := by decide +kernel
theorem dX2_isCutOut_18 : decode cX2_isCutOut 18 = .ok (.invokestatic 64, 3) := by decide +kernel
theorem dX2_isCutOut_21 : decode cX2_isCutOut 21 = .ok (.ifCond .eq 7, 3) := by decide +kernel
theorem dX2_isCutOut_24 : decode cX2_isCutOut 24 = .ok (.iconst 2, 1) := by decide +kernel
theorem dX2_isCutOut_25 : decode cX2_isCutOut 25 = .ok (.goto 4, 3) := by decide +kernel
theorem dX2_isCutOut_28 : decode cX2_isCutOut 28 = .ok (.iconst 1, 1) := by decide +kernel
theorem dX2_isCutOut_29 : decode cX2_isCutOut 29 = .ok (.if_icmp .ne 5, 3) := by decide +kernel
theorem dX2_isCutOut_32 : decode cX2_isCutOut 32 = .ok (.iconst 0, 1) := by decide +kernel
theorem dX2_isCutOut_33 : decode cX2_isCutOut 33 = .ok (.ireturn, 1) := by decide +kernel
theorem dX2_isCutOut_34 : decode cX2_isCutOut 34 = .ok (.iinc 3 1, 3) := by decide +kernel
theorem dX2_isCutOut_37 : decode cX2_isCutOut 37 = .ok (.goto (-35), 3) := by decide +kernel
theorem dX2_isCutOut_40 : decode cX2_isCutOut 40 = .ok (.iconst 1, 1) := by decide +kernel
theorem dX2_isCutOut_41 : decode cX2_isCutOut 41 = .ok (.ireturn, 1) := by decide +kernel
set_option maxRecDepth 20000 in
theorem ggX2_costOf_X2_numberOf : GoodIn wsX2_costOf wsX2_numberOf := goodIn_r _ [7, 2, 40, 41, 42, 43, 44] (by decide +kernel) (by decide +kernel)
set_option maxRecDepth 20000 in
theorem gX2_costOf_X2_numberOf : GoodIn wsX2_costOf (wsV RX2 48 RX2 yX2_numberOf wsX2_numberOf) := goodIn_app (goodIn_of _ (by decide +kernel)) ggX2_costOf_X2_numberOf
set_option maxRecDepth 20000 in
theorem ggX2_costOf_X4_has : GoodIn wsX2_costOf wsX4_has := goodIn_r _ [10] (by decide +kernel) (by decide +kernel)
set_option maxRecDepth 20000 in
theorem gX2_costOf_X4_has_n64 : GoodIn wsX2_costOf (wsX4_has) := ggX2_costOf_X4_has
set_option maxRecDepth 20000 in
theorem ggX2_costOf_X2_pullFrom : GoodIn wsX2_costOf wsX2_pullFrom := goodIn_r _ [14, 15, 16, 17, 18, 19, 20, 40, 41, 42, 43, 44] (by decide +kernel) (by decide +kernel)
set_option maxRecDepth 20000 in
theorem gX2_costOf_X2_pullFrom : GoodIn wsX2_costOf (wsV RX2 78 RX2 yX2_pullFrom wsX2_pullFrom) := goodIn_app (goodIn_of _ (by decide +kernel)) ggX2_costOf_X2_pullFrom
set_option maxRecDepth 20000 in
theorem ggX2_costOf_X2_linkCosts : GoodIn wsX2_costOf wsX2_linkCosts := goodIn_r _ [24, 3, 4, 5, 6, 7, 2, 25, 26, 27, 28, 15, 29, 30, 31, 32, 1, 8, 9, 10, 33, 34, 35, 36, 16, 17, 18, 19, 20, 37, 38, 39, 40, 41, 42, 43, 44] (by decide +kernel) (by decide +kernel)
set_option maxRecDepth 20000 in
theorem gX2_costOf_X2_linkCosts : GoodIn wsX2_costOf (wsV RX2 81 RX2 yX2_linkCosts wsX2_linkCosts) := goodIn_app (goodIn_of _ (by decide +kernel)) ggX2_costOf_X2_linkCosts
theorem dX2_costOf_0 : decode cX2_costOf 0 = .ok (.iconst 0, 1) := by decide +kernel
theorem dX2_costOf_1 : decode cX2_costOf 1 = .ok (.istore_n 3, 1) := by decide +kernel
theorem dX2_costOf_2 : decode cX2_costOf 2 = .ok (.iconst 0, 1) := by decide +kernel
theorem dX2_costOf_3 : decode cX2_costOf 3 = .ok (.istore 4, 2) := by decide +kernel
theorem dX2_costOf_5 : decode cX2_costOf 5 = .ok (.iload 4, 2) := by decide +kernel
theorem dX2_costOf_7 : decode cX2_costOf 7 = .ok (.aload_n 0, 1) := by decide +kernel
theorem dX2_costOf_8 : decode cX2_costOf 8 = .ok (.getfield 25, 3) := by decide +kernel
theorem dX2_costOf_11 : decode cX2_costOf 11 = .ok (.if_icmp .ge 72, 3) := by decide +kernel
theorem dX2_costOf_14 : decode cX2_costOf 14 = .ok (.iconst 0, 1) := by decide +kernel
theorem dX2_costOf_15 : decode cX2_costOf 15 = .ok (.istore 5, 2) := by decide +kernel
theorem dX2_costOf_17 : decode cX2_costOf 17 = .ok (.iload 5, 2) := by decide +kernel
theorem dX2_costOf_19 : decode cX2_costOf 19 = .ok (.aload_n 0, 1) := by decide +kernel
theorem dX2_costOf_20 : decode cX2_costOf 20 = .ok (.getfield 21, 3) := by decide +kernel
theorem dX2_costOf_23 : decode cX2_costOf 23 = .ok (.if_icmp .ge 54, 3) := by decide +kernel
theorem dX2_costOf_26 : decode cX2_costOf 26 = .ok (.aload_n 0, 1) := by decide +kernel
theorem dX2_costOf_27 : decode cX2_costOf 27 = .ok (.iload 5, 2) := by decide +kernel
theorem dX2_costOf_29 : decode cX2_costOf 29 = .ok (.iload 4, 2) := by decide +kernel
theorem dX2_costOf_31 : decode cX2_costOf 31 = .ok (.invokevirtual 48, 3) := by decide +kernel
theorem dX2_costOf_34 : decode cX2_costOf 34 = .ok (.istore 6, 2) := by decide +kernel
theorem dX2_costOf_36 : decode cX2_costOf 36 = .ok (.iload_n 3, 1) := by decide +kernel
theorem dX2_costOf_37 : decode cX2_costOf 37 = .ok (.aload_n 0, 1) := by decide +kernel
theorem dX2_costOf_38 : decode cX2_costOf 38 = .ok (.iload 6, 2) := by decide +kernel
theorem dX2_costOf_40 : decode cX2_costOf 40 = .ok (.lload_n 1, 1) := by decide +kernel
theorem dX2_costOf_41 : decode cX2_costOf 41 = .ok (.iload 6, 2) := by decide +kernel
theorem dX2_costOf_43 : decode cX2_costOf 43 = .ok (.invokestatic 64, 3) := by decide +kernel
theorem dX2_costOf_46 : decode cX2_costOf 46 = .ok (.ifCond .eq 7, 3) := by decide +kernel
theorem dX2_costOf_49 : decode cX2_costOf 49 = .ok (.iconst 3, 1) := by decide +kernel
theorem dX2_costOf_50 : decode cX2_costOf 50 = .ok (.goto 4, 3) := by decide +kernel
theorem dX2_costOf_53 : decode cX2_costOf 53 = .ok (.iconst 4, 1) := by decide +kernel
theorem dX2_costOf_54 : decode cX2_costOf 54 = .ok (.invokevirtual 78, 3) := by decide +kernel
theorem dX2_costOf_57 : decode cX2_costOf 57 = .ok (.iadd, 1) := by decide +kernel
theorem dX2_costOf_58 : decode cX2_costOf 58 = .ok (.istore_n 3, 1) := by decide +kernel
theorem dX2_costOf_59 : decode cX2_costOf 59 = .ok (.iload_n 3, 1) := by decide +kernel
theorem dX2_costOf_60 : decode cX2_costOf 60 = .ok (.aload_n 0, 1) := by decide +kernel
theorem dX2_costOf_61 : decode cX2_costOf 61 = .ok (.lload_n 1, 1) := by decide +kernel
theorem dX2_costOf_62 : decode cX2_costOf 62 = .ok (.iload 5, 2) := by decide +kernel
theorem dX2_costOf_64 : decode cX2_costOf 64 = .ok (.iload 4, 2) := by decide +kernel
theorem dX2_costOf_66 : decode cX2_costOf 66 = .ok (.invokevirtual 81, 3) := by decide +kernel
theorem dX2_costOf_69 : decode cX2_costOf 69 = .ok (.iadd, 1) := by decide +kernel
theorem dX2_costOf_70 : decode cX2_costOf 70 = .ok (.istore_n 3, 1) := by decide +kernel
theorem dX2_costOf_71 : decode cX2_costOf 71 = .ok (.iinc 5 1, 3) := by decide +kernel
theorem dX2_costOf_74 : decode cX2_costOf 74 = .ok (.goto (-57), 3) := by decide +kernel
theorem dX2_costOf_77 : decode cX2_costOf 77 = .ok (.iinc 4 1, 3) := by decide +kernel
theorem dX2_costOf_80 : decode cX2_costOf 80 = .ok (.goto (-75), 3) := by decide +kernel
theorem dX2_costOf_83 : decode cX2_costOf 83 = .ok (.iload_n 3, 1) := by decide +kernel
theorem dX2_costOf_84 : decode cX2_costOf 84 = .ok (.ireturn, 1) := by decide +kernel
set_option maxRecDepth 20000 in
theorem ggX2_linkCosts_X2_numberOf : GoodIn wsX2_linkCosts wsX2_numberOf := goodIn_r _ [5, 6, 32, 33, 34, 35, 36] (by decide +kernel) (by decide +kernel)
set_option maxRecDepth 20000 in
theorem gX2_linkCosts_X2_numberOf : GoodIn wsX2_linkCosts (wsV RX2 48 RX2 yX2_numberOf wsX2_numberOf) := goodIn_app (goodIn_of _ (by decide +kernel)) ggX2_linkCosts_X2_numberOf
set_option maxRecDepth 20000 in
theorem ggX2_linkCosts_X2_linkedTo : GoodIn wsX2_linkCosts wsX2_linkedTo := goodIn_r _ [10, 11, 12, 13, 14, 4, 15, 6, 16, 1, 2, 3, 5, 32, 33, 34, 35, 36] (by decide +kernel) (by decide +kernel)
set_option maxRecDepth 20000 in
theorem gX2_linkCosts_X2_linkedTo : GoodIn wsX2_linkCosts (wsV RX2 85 RX2 yX2_linkedTo wsX2_linkedTo) := goodIn_app (goodIn_of _ (by decide +kernel)) ggX2_linkCosts_X2_linkedTo
set_option maxRecDepth 20000 in
theorem ggX2_linkCosts_X4_has : GoodIn wsX2_linkCosts wsX4_has := goodIn_r _ [19] (by decide +kernel) (by decide +kernel)
set_option maxRecDepth 20000 in
theorem gX2_linkCosts_X4_has_n64 : GoodIn wsX2_linkCosts (wsX4_has) := ggX2_linkCosts_X4_has
set_option maxRecDepth 20000 in
theorem ggX2_linkCosts_X2_weightOf : GoodIn wsX2_linkCosts wsX2_weightOf := goodIn_r _ [23, 24, 25, 26, 27, 28, 11, 29, 30, 31, 32, 33, 34, 35, 36] (by decide +kernel) (by decide +kernel)
set_option maxRecDepth 20000 in
theorem gX2_linkCosts_X2_weightOf : GoodIn wsX2_linkCosts (wsV RX2 89 RX2 yX2_weightOf wsX2_weightOf) := goodIn_app (goodIn_of _ (by decide +kernel)) ggX2_linkCosts_X2_weightOf
theorem dX2_linkCosts_0 : decode cX2_linkCosts 0 = .ok (.aload_n 0, 1) := by decide +kernel
theorem dX2_linkCosts_1 : decode cX2_linkCosts 1 = .ok (.iload_n 3, 1) := by decide +kernel
theorem dX2_linkCosts_2 : decode cX2_linkCosts 2 = .ok (.iload 4, 2) := by decide +kernel
theorem dX2_linkCosts_4 : decode cX2_linkCosts 4 = .ok (.invokevirtual 48, 3) := by decide +kernel
theorem dX2_linkCosts_7 : decode cX2_linkCosts 7 = .ok (.istore 5, 2) := by decide +kernel
theorem dX2_linkCosts_9 : decode cX2_linkCosts 9 = .ok (.iconst 0, 1) := by decide +kernel
theorem dX2_linkCosts_10 : decode cX2_linkCosts 10 = .ok (.istore 6, 2) := by decide +kernel
theorem dX2_linkCosts_12 : decode cX2_linkCosts 12 = .ok (.iconst 0, 1) := by decide +kernel
theorem dX2_linkCosts_13 : decode cX2_linkCosts 13 = .ok (.istore 7, 2) := by decide +kernel
theorem dX2_linkCosts_15 : decode cX2_linkCosts 15 = .ok (.iload 7, 2) := by decide +kernel
theorem dX2_linkCosts_17 : decode cX2_linkCosts 17 = .ok (.iconst 4, 1) := by decide +kernel
theorem dX2_linkCosts_18 : decode cX2_linkCosts 18 = .ok (.if_icmp .ge 56, 3) := by decide +kernel
theorem dX2_linkCosts_21 : decode cX2_linkCosts 21 = .ok (.aload_n 0, 1) := by decide +kernel
theorem dX2_linkCosts_22 : decode cX2_linkCosts 22 = .ok (.iload_n 3, 1) := by decide +kernel
theorem dX2_linkCosts_23 : decode cX2_linkCosts 23 = .ok (.iload 4, 2) := by decide +kernel
theorem dX2_linkCosts_25 : decode cX2_linkCosts 25 = .ok (.iload 7, 2) := by decide +kernel
theorem dX2_linkCosts_27 : decode cX2_linkCosts 27 = .ok (.invokevirtual 85, 3) := by decide +kernel
theorem dX2_linkCosts_30 : decode cX2_linkCosts 30 = .ok (.istore 8, 2) := by decide +kernel
theorem dX2_linkCosts_32 : decode cX2_linkCosts 32 = .ok (.iload 8, 2) := by decide +kernel
theorem dX2_linkCosts_34 : decode cX2_linkCosts 34 = .ok (.iconst (-1), 1) := by decide +kernel
theorem dX2_linkCosts_35 : decode cX2_linkCosts 35 = .ok (.if_icmp .eq 33, 3) := by decide +kernel
theorem dX2_linkCosts_38 : decode cX2_linkCosts 38 = .ok (.lload_n 1, 1) := by decide +kernel
theorem dX2_linkCosts_39 : decode cX2_linkCosts 39 = .ok (.iload 5, 2) := by decide +kernel
theorem dX2_linkCosts_41 : decode cX2_linkCosts 41 = .ok (.invokestatic 64, 3) := by decide +kernel
theorem dX2_linkCosts_44 : decode cX2_linkCosts 44 = .ok (.lload_n 1, 1) := by decide +kernel
theorem dX2_linkCosts_45 : decode cX2_linkCosts 45 = .ok (.iload 8, 2) := by decide +kernel
theorem dX2_linkCosts_47 : decode cX2_linkCosts 47 = .ok (.invokestatic 64, 3) := by decide +kernel
theorem dX2_linkCosts_50 : decode cX2_linkCosts 50 = .ok (.if_icmp .eq 18, 3) := by decide +kernel
theorem dX2_linkCosts_53 : decode cX2_linkCosts 53 = .ok (.iload 6, 2) := by decide +kernel
theorem dX2_linkCosts_55 : decode cX2_linkCosts 55 = .ok (.aload_n 0, 1) := by decide +kernel
theorem dX2_linkCosts_56 : decode cX2_linkCosts 56 = .ok (.iload 5, 2) := by decide +kernel
theorem dX2_linkCosts_58 : decode cX2_linkCosts 58 = .ok (.iload 8, 2) := by decide +kernel
theorem dX2_linkCosts_60 : decode cX2_linkCosts 60 = .ok (.iload 7, 2) := by decide +kernel
theorem dX2_linkCosts_62 : decode cX2_linkCosts 62 = .ok (.invokevirtual 89, 3) := by decide +kernel
theorem dX2_linkCosts_65 : decode cX2_linkCosts 65 = .ok (.iadd, 1) := by decide +kernel
theorem dX2_linkCosts_66 : decode cX2_linkCosts 66 = .ok (.istore 6, 2) := by decide +kernel
theorem dX2_linkCosts_68 : decode cX2_linkCosts 68 = .ok (.iinc 7 1, 3) := by decide +kernel
theorem dX2_linkCosts_71 : decode cX2_linkCosts 71 = .ok (.goto (-56), 3) := by decide +kernel
theorem dX2_linkCosts_74 : decode cX2_linkCosts 74 = .ok (.iload 6, 2) := by decide +kernel
theorem dX2_linkCosts_76 : decode cX2_linkCosts 76 = .ok (.ireturn, 1) := by decide +kernel
set_option maxRecDepth 20000 in
theorem ggX2_column_X2_numberOf : GoodIn wsX2_column wsX2_numberOf := goodIn_r _ [6, 7, 8, 9, 10, 11, 12] (by decide +kernel) (by decide +kernel)
set_option maxRecDepth 20000 in
theorem gX2_column_X2_numberOf : GoodIn wsX2_column (wsV RX2 48 RX2 yX2_numberOf wsX2_numberOf) := goodIn_app (goodIn_of _ (by decide +kernel)) ggX2_column_X2_numberOf
theorem dX2_column_0 : decode cX2_column 0 = .ok (.lconst 0, 1) := by decide +kernel
theorem dX2_column_1 : decode cX2_column 1 = .ok (.lstore_n 2, 1) := by decide +kernel
theorem dX2_column_2 : decode cX2_column 2 = .ok (.iconst 0, 1) := by decide +kernel
theorem dX2_column_3 : decode cX2_column 3 = .ok (.istore 4, 2) := by decide +kernel
theorem dX2_column_5 : decode cX2_column 5 = .ok (.iload 4, 2) := by decide +kernel
theorem dX2_column_7 : decode cX2_column 7 = .ok (.aload_n 0, 1) := by decide +kernel
theorem dX2_column_8 : decode cX2_column 8 = .ok (.getfield 25, 3) := by decide +kernel
theorem dX2_column_11 : decode cX2_column 11 = .ok (.if_icmp .ge 21, 3) := by decide +kernel
theorem dX2_column_14 : decode cX2_column 14 = .ok (.lload_n 2, 1) := by decide +kernel
theorem dX2_column_15 : decode cX2_column 15 = .ok (.lconst 1, 1) := by decide +kernel
theorem dX2_column_16 : decode cX2_column 16 = .ok (.aload_n 0, 1) := by decide +kernel
theorem dX2_column_17 : decode cX2_column 17 = .ok (.iload_n 1, 1) := by decide +kernel
theorem dX2_column_18 : decode cX2_column 18 = .ok (.iload 4, 2) := by decide +kernel
theorem dX2_column_20 : decode cX2_column 20 = .ok (.invokevirtual 48, 3) := by decide +kernel
theorem dX2_column_23 : decode cX2_column 23 = .ok (.lshl, 1) := by decide +kernel
theorem dX2_column_24 : decode cX2_column 24 = .ok (.lor, 1) := by decide +kernel
theorem dX2_column_25 : decode cX2_column 25 = .ok (.lstore_n 2, 1) := by decide +kernel
theorem dX2_column_26 : decode cX2_column 26 = .ok (.iinc 4 1, 3) := by decide +kernel
theorem dX2_column_29 : decode cX2_column 29 = .ok (.goto (-24), 3) := by decide +kernel
theorem dX2_column_32 : decode cX2_column 32 = .ok (.lload_n 2, 1) := by decide +kernel
theorem dX2_column_33 : decode cX2_column 33 = .ok (.lreturn, 1) := by decide +kernel
set_option maxRecDepth 20000 in
theorem ggX2_row_X2_numberOf : GoodIn wsX2_row wsX2_numberOf := goodIn_r _ [6, 1, 7, 8, 9, 10, 11] (by decide +kernel) (by decide +kernel)
set_option maxRecDepth 20000 in
theorem gX2_row_X2_numberOf : GoodIn wsX2_row (wsV RX2 48 RX2 yX2_numberOf wsX2_numberOf) := goodIn_app (goodIn_of _ (by decide +kernel)) ggX2_row_X2_numberOf
theorem dX2_row_0 : decode cX2_row 0 = .ok (.lconst 0, 1) := by decide +kernel
theorem dX2_row_1 : decode cX2_row 1 = .ok (.lstore_n 2, 1) := by decide +kernel
theorem dX2_row_2 : decode cX2_row 2 = .ok (.iconst 0, 1) := by decide +kernel
theorem dX2_row_3 : decode cX2_row 3 = .ok (.istore 4, 2) := by decide +kernel
theorem dX2_row_5 : decode cX2_row 5 = .ok (.iload 4, 2) := by decide +kernel
theorem dX2_row_7 : decode cX2_row 7 = .ok (.aload_n 0, 1) := by decide +kernel
theorem dX2_row_8 : decode cX2_row 8 = .ok (.getfield 21, 3) := by decide +kernel
theorem dX2_row_11 : decode cX2_row 11 = .ok (.if_icmp .ge 21, 3) := by decide +kernel
theorem dX2_row_14 : decode cX2_row 14 = .ok (.lload_n 2, 1) := by decide +kernel
theorem dX2_row_15 : decode cX2_row 15 = .ok (.lconst 1, 1) := by decide +kernel
theorem dX2_row_16 : decode cX2_row 16 = .ok (.aload_n 0, 1) := by decide +kernel
theorem dX2_row_17 : decode cX2_row 17 = .ok (.iload 4, 2) := by decide +kernel
theorem dX2_row_19 : decode cX2_row 19 = .ok (.iload_n 1, 1) := by decide +kernel
theorem dX2_row_20 : decode cX2_row 20 = .ok (.invokevirtual 48, 3) := by decide +kernel
theorem dX2_row_23 : decode cX2_row 23 = .ok (.lshl, 1) := by decide +kernel
theorem dX2_row_24 : decode cX2_row 24 = .ok (.lor, 1) := by decide +kernel
theorem dX2_row_25 : decode cX2_row 25 = .ok (.lstore_n 2, 1) := by decide +kernel
theorem dX2_row_26 : decode cX2_row 26 = .ok (.iinc 4 1, 3) := by decide +kernel
theorem dX2_row_29 : decode cX2_row 29 = .ok (.goto (-24), 3) := by decide +kernel
theorem dX2_row_32 : decode cX2_row 32 = .ok (.lload_n 2, 1) := by decide +kernel
theorem dX2_row_33 : decode cX2_row 33 = .ok (.lreturn, 1) := by decide +kernel
set_option maxRecDepth 20000 in
theorem ggX2_border_X2_column : GoodIn wsX2_border wsX2_column := goodIn_r _ [7, 2, 8, 9, 10, 6, 11, 1, 16, 17, 18, 19, 20] (by decide +kernel) (by decide +kernel)
set_option maxRecDepth 20000 in
theorem gX2_border_X2_column : GoodIn wsX2_border (wsV RX2 92 RX2 yX2_column wsX2_column) := goodIn_app (goodIn_of _ (by decide +kernel)) ggX2_border_X2_column
set_option maxRecDepth 20000 in
theorem ggX2_border_X2_row : GoodIn wsX2_border wsX2_row := goodIn_r _ [15, 1, 8, 9, 10, 6, 11, 16, 17, 18, 19, 20] (by decide +kernel) (by decide +kernel)
set_option maxRecDepth 20000 in
theorem gX2_border_X2_row : GoodIn wsX2_border (wsV RX2 96 RX2 yX2_row wsX2_row) := goodIn_app (goodIn_of _ (by decide +kernel)) ggX2_border_X2_row
theorem dX2_border_0 : decode cX2_border 0 = .ok (.aload_n 0, 1) := by decide +kernel
theorem dX2_border_1 : decode cX2_border 1 = .ok (.iconst 0, 1) := by decide +kernel
theorem dX2_border_2 : decode cX2_border 2 = .ok (.invokevirtual 92, 3) := by decide +kernel
theorem dX2_border_5 : decode cX2_border 5 = .ok (.aload_n 0, 1) := by decide +kernel
theorem dX2_border_6 : decode cX2_border 6 = .ok (.aload_n 0, 1) := by decide +kernel
theorem dX2_border_7 : decode cX2_border 7 = .ok (.getfield 21, 3) := by decide +kernel
theorem dX2_border_10 : decode cX2_border 10 = .ok (.iconst 1, 1) := by decide +kernel
theorem dX2_border_11 : decode cX2_border 11 = .ok (.isub, 1) := by decide +kernel
theorem dX2_border_12 : decode cX2_border 12 = .ok (.invokevirtual 92, 3) := by decide +kernel
theorem dX2_border_15 : decode cX2_border 15 = .ok (.lor, 1) := by decide +kernel
theorem dX2_border_16 : decode cX2_border 16 = .ok (.aload_n 0, 1) := by decide +kernel
theorem dX2_border_17 : decode cX2_border 17 = .ok (.iconst 0, 1) := by decide +kernel
theorem dX2_border_18 : decode cX2_border 18 = .ok (.invokevirtual 96, 3) := by decide +kernel
theorem dX2_border_21 : decode cX2_border 21 = .ok (.lor, 1) := by decide +kernel
theorem dX2_border_22 : decode cX2_border 22 = .ok (.aload_n 0, 1) := by decide +kernel
theorem dX2_border_23 : decode cX2_border 23 = .ok (.aload_n 0, 1) := by decide +kernel
theorem dX2_border_24 : decode cX2_border 24 = .ok (.getfield 25, 3) := by decide +kernel
theorem dX2_border_27 : decode cX2_border 27 = .ok (.iconst 1, 1) := by decide +kernel
theorem dX2_border_28 : decode cX2_border 28 = .ok (.isub, 1) := by decide +kernel
theorem dX2_border_29 : decode cX2_border 29 = .ok (.invokevirtual 96, 3) := by decide +kernel
theorem dX2_border_32 : decode cX2_border 32 = .ok (.lor, 1) := by decide +kernel
theorem dX2_border_33 : decode cX2_border 33 = .ok (.lreturn, 1) := by decide +kernel
set_option maxRecDepth 20000 in
theorem ggX2_pieces_X2_countPieces : GoodIn wsX2_pieces wsX2_countPieces := goodIn_r _ [5, 6, 7, 8, 9, 4, 10, 11, 12, 13, 14, 15, 16, 17, 18, 19, 20, 21, 22, 23, 24, 25, 26, 27, 28, 29] (by decide +kernel) (by decide +kernel)
set_option maxRecDepth 20000 in
theorem gX2_pieces_X2_countPieces : GoodIn wsX2_pieces (wsV RX2 99 RX2 yX2_countPieces wsX2_countPieces) := goodIn_app (goodIn_of _ (by decide +kernel)) ggX2_pieces_X2_countPieces
theorem dX2_pieces_0 : decode cX2_pieces 0 = .ok (.aload_n 0, 1) := by decide +kernel
theorem dX2_pieces_1 : decode cX2_pieces 1 = .ok (.lload_n 1, 1) := by decide +kernel
theorem dX2_pieces_2 : decode cX2_pieces 2 = .ok (.lconst 0, 1) := by decide +kernel
theorem dX2_pieces_3 : decode cX2_pieces 3 = .ok (.invokevirtual 99, 3) := by decide +kernel
theorem dX2_pieces_6 : decode cX2_pieces 6 = .ok (.ireturn, 1) := by decide +kernel
set_option maxRecDepth 20000 in
theorem ggX2_holes_X2_allDots : GoodIn wsX2_holes wsX2_allDots := goodIn_r _ [6, 7, 8, 9, 5, 10, 11, 12, 37, 38, 39, 40, 41] (by decide +kernel) (by decide +kernel)
set_option maxRecDepth 20000 in
theorem gX2_holes_X2_allDots : GoodIn wsX2_holes (wsV RX2 72 RX2 yX2_allDots wsX2_allDots) := goodIn_app (goodIn_of _ (by decide +kernel)) ggX2_holes_X2_allDots
set_option maxRecDepth 20000 in
theorem ggX2_holes_X2_border : GoodIn wsX2_holes wsX2_border := goodIn_r _ [16, 11, 12, 17, 18, 19, 5, 20, 21, 22, 23, 24, 25, 26, 27, 28, 37, 38, 39, 40, 41] (by decide +kernel) (by decide +kernel)
set_option maxRecDepth 20000 in
theorem gX2_holes_X2_border : GoodIn wsX2_holes (wsV RX2 103 RX2 yX2_border wsX2_border) := goodIn_app (goodIn_of _ (by decide +kernel)) ggX2_holes_X2_border
set_option maxRecDepth 20000 in
theorem ggX2_holes_X2_countPieces : GoodIn wsX2_holes wsX2_countPieces := goodIn_r _ [32, 1, 7, 8, 9, 5, 10, 11, 12, 33, 34, 35, 36, 17, 18, 19, 20, 21, 22, 23, 24, 37, 38, 39, 40, 41] (by decide +kernel) (by decide +kernel)
set_option maxRecDepth 20000 in
theorem gX2_holes_X2_countPieces : GoodIn wsX2_holes (wsV RX2 99 RX2 yX2_countPieces wsX2_countPieces) := goodIn_app (goodIn_of _ (by decide +kernel)) ggX2_holes_X2_countPieces
theorem dX2_holes_0 : decode cX2_holes 0 = .ok (.aload_n 0, 1) := by decide +kernel
theorem dX2_holes_1 : decode cX2_holes 1 = .ok (.aload_n 0, 1) := by decide +kernel
theorem dX2_holes_2 : decode cX2_holes 2 = .ok (.invokevirtual 72, 3) := by decide +kernel
theorem dX2_holes_5 : decode cX2_holes 5 = .ok (.lload_n 1, 1) := by decide +kernel
theorem dX2_holes_6 : decode cX2_holes 6 = .ok (.ldc2_w 76, 3) := by decide +kernel
theorem dX2_holes_9 : decode cX2_holes 9 = .ok (.lxor, 1) := by decide +kernel
theorem dX2_holes_10 : decode cX2_holes 10 = .ok (.land, 1) := by decide +kernel
theorem dX2_holes_11 : decode cX2_holes 11 = .ok (.aload_n 0, 1) := by decide +kernel
theorem dX2_holes_12 : decode cX2_holes 12 = .ok (.invokevirtual 103, 3) := by decide +kernel
theorem dX2_holes_15 : decode cX2_holes 15 = .ok (.invokevirtual 99, 3) := by decide +kernel
theorem dX2_holes_18 : decode cX2_holes 18 = .ok (.ireturn, 1) := by decide +kernel
set_option maxRecDepth 20000 in
theorem ggX2_countPieces_X2_dots : GoodIn wsX2_countPieces wsX2_dots := goodIn_r _ [6, 7, 8, 21, 22, 23, 24, 25] (by decide +kernel) (by decide +kernel)
set_option maxRecDepth 20000 in
theorem gX2_countPieces_X2_dots : GoodIn wsX2_countPieces (wsV RX2 34 RX2 yX2_dots wsX2_dots) := goodIn_app (goodIn_of _ (by decide +kernel)) ggX2_countPieces_X2_dots
set_option maxRecDepth 20000 in
theorem ggX2_countPieces_X2_pieceOf : GoodIn wsX2_countPieces wsX2_pieceOf := goodIn_r _ [12, 1, 7, 13, 14, 15, 5, 16, 8, 17, 18, 19, 20, 2, 3, 4, 6, 21, 22, 23, 24, 25] (by decide +kernel) (by decide +kernel)
set_option maxRecDepth 20000 in
theorem gX2_countPieces_X2_pieceOf : GoodIn wsX2_countPieces (wsV RX2 106 RX2 yX2_pieceOf wsX2_pieceOf) := goodIn_app (goodIn_of _ (by decide +kernel)) ggX2_countPieces_X2_pieceOf
theorem dX2_countPieces_0 : decode cX2_countPieces 0 = .ok (.lload_n 1, 1) := by decide +kernel
theorem dX2_countPieces_1 : decode cX2_countPieces 1 = .ok (.lstore 5, 2) := by decide +kernel
theorem dX2_countPieces_3 : decode cX2_countPieces 3 = .ok (.iconst 0, 1) := by decide +kernel
theorem dX2_countPieces_4 : decode cX2_countPieces 4 = .ok (.istore 7, 2) := by decide +kernel
theorem dX2_countPieces_6 : decode cX2_countPieces 6 = .ok (.iconst 0, 1) := by decide +kernel
theorem dX2_countPieces_7 : decode cX2_countPieces 7 = .ok (.istore 8, 2) := by decide +kernel
theorem dX2_countPieces_9 : decode cX2_countPieces 9 = .ok (.iload 8, 2) := by decide +kernel
theorem dX2_countPieces_11 : decode cX2_countPieces 11 = .ok (.aload_n 0, 1) := by decide +kernel
theorem dX2_countPieces_12 : decode cX2_countPieces 12 = .ok (.invokevirtual 34, 3) := by decide +kernel
theorem dX2_countPieces_15 : decode cX2_countPieces 15 = .ok (.if_icmp .ge 52, 3) := by decide +kernel
theorem dX2_countPieces_18 : decode cX2_countPieces 18 = .ok (.lload 5, 2) := by decide +kernel
theorem dX2_countPieces_20 : decode cX2_countPieces 20 = .ok (.lconst 0, 1) := by decide +kernel
theorem dX2_countPieces_21 : decode cX2_countPieces 21 = .ok (.lcmp, 1) := by decide +kernel
theorem dX2_countPieces_22 : decode cX2_countPieces 22 = .ok (.ifCond .eq 45, 3) := by decide +kernel
theorem dX2_countPieces_25 : decode cX2_countPieces 25 = .ok (.aload_n 0, 1) := by decide +kernel
theorem dX2_countPieces_26 : decode cX2_countPieces 26 = .ok (.lload 5, 2) := by decide +kernel
theorem dX2_countPieces_28 : decode cX2_countPieces 28 = .ok (.lload 5, 2) := by decide +kernel
theorem dX2_countPieces_30 : decode cX2_countPieces 30 = .ok (.lneg, 1) := by decide +kernel
theorem dX2_countPieces_31 : decode cX2_countPieces 31 = .ok (.land, 1) := by decide +kernel
theorem dX2_countPieces_32 : decode cX2_countPieces 32 = .ok (.lload_n 1, 1) := by decide +kernel
theorem dX2_countPieces_33 : decode cX2_countPieces 33 = .ok (.invokevirtual 106, 3) := by decide +kernel
theorem dX2_countPieces_36 : decode cX2_countPieces 36 = .ok (.lstore 9, 2) := by decide +kernel
theorem dX2_countPieces_38 : decode cX2_countPieces 38 = .ok (.lload 5, 2) := by decide +kernel
theorem dX2_countPieces_40 : decode cX2_countPieces 40 = .ok (.lload 9, 2) := by decide +kernel
theorem dX2_countPieces_42 : decode cX2_countPieces 42 = .ok (.ldc2_w 76, 3) := by decide +kernel
theorem dX2_countPieces_45 : decode cX2_countPieces 45 = .ok (.lxor, 1) := by decide +kernel
theorem dX2_countPieces_46 : decode cX2_countPieces 46 = .ok (.land, 1) := by decide +kernel
theorem dX2_countPieces_47 : decode cX2_countPieces 47 = .ok (.lstore 5, 2) := by decide +kernel
theorem dX2_countPieces_49 : decode cX2_countPieces 49 = .ok (.lload 9, 2) := by decide +kernel
theorem dX2_countPieces_51 : decode cX2_countPieces 51 = .ok (.lload_n 3, 1) := by decide +kernel
theorem dX2_countPieces_52 : decode cX2_countPieces 52 = .ok (.land, 1) := by decide +kernel
theorem dX2_countPieces_53 : decode cX2_countPieces 53 = .ok (.lconst 0, 1) := by decide +kernel
theorem dX2_countPieces_54 : decode cX2_countPieces 54 = .ok (.lcmp, 1) := by decide +kernel
theorem dX2_countPieces_55 : decode cX2_countPieces 55 = .ok (.ifCond .ne 6, 3) := by decide +kernel
theorem dX2_countPieces_58 : decode cX2_countPieces 58 = .ok (.iinc 7 1, 3) := by decide +kernel
theorem dX2_countPieces_61 : decode cX2_countPieces 61 = .ok (.iinc 8 1, 3) := by decide +kernel
theorem dX2_countPieces_64 : decode cX2_countPieces 64 = .ok (.goto (-55), 3) := by decide +kernel
theorem dX2_countPieces_67 : decode cX2_countPieces 67 = .ok (.iload 7, 2) := by decide +kernel
theorem dX2_countPieces_69 : decode cX2_countPieces 69 = .ok (.ireturn, 1) := by decide +kernel
set_option maxRecDepth 20000 in
theorem ggX2_pieceOf_X2_column : GoodIn wsX2_pieceOf wsX2_column := goodIn_r _ [7, 8, 9, 10, 11, 6, 12, 2, 17, 18, 19, 20, 21] (by decide +kernel) (by decide +kernel)
set_option maxRecDepth 20000 in
theorem gX2_pieceOf_X2_column : GoodIn wsX2_pieceOf (wsV RX2 92 RX2 yX2_column wsX2_column) := goodIn_app (goodIn_of _ (by decide +kernel)) ggX2_pieceOf_X2_column
set_option maxRecDepth 20000 in
theorem ggX2_pieceOf_X2_dots : GoodIn wsX2_pieceOf wsX2_dots := goodIn_r _ [16, 2, 8, 17, 18, 19, 20, 21] (by decide +kernel) (by decide +kernel)
set_option maxRecDepth 20000 in
theorem gX2_pieceOf_X2_dots : GoodIn wsX2_pieceOf (wsV RX2 34 RX2 yX2_dots wsX2_dots) := goodIn_app (goodIn_of _ (by decide +kernel)) ggX2_pieceOf_X2_dots
theorem dX2_pieceOf_0 : decode cX2_pieceOf 0 = .ok (.aload_n 0, 1) := by decide +kernel
theorem dX2_pieceOf_1 : decode cX2_pieceOf 1 = .ok (.iconst 0, 1) := by decide +kernel
theorem dX2_pieceOf_2 : decode cX2_pieceOf 2 = .ok (.invokevirtual 92, 3) := by decide +kernel
theorem dX2_pieceOf_5 : decode cX2_pieceOf 5 = .ok (.ldc2_w 76, 3) := by decide +kernel
theorem dX2_pieceOf_8 : decode cX2_pieceOf 8 = .ok (.lxor, 1) := by decide +kernel
theorem dX2_pieceOf_9 : decode cX2_pieceOf 9 = .ok (.lstore 5, 2) := by decide +kernel
theorem dX2_pieceOf_11 : decode cX2_pieceOf 11 = .ok (.aload_n 0, 1) := by decide +kernel
theorem dX2_pieceOf_12 : decode cX2_pieceOf 12 = .ok (.aload_n 0, 1) := by decide +kernel
theorem dX2_pieceOf_13 : decode cX2_pieceOf 13 = .ok (.getfield 21, 3) := by decide +kernel
theorem dX2_pieceOf_16 : decode cX2_pieceOf 16 = .ok (.iconst 1, 1) := by decide +kernel
theorem dX2_pieceOf_17 : decode cX2_pieceOf 17 = .ok (.isub, 1) := by decide +kernel
theorem dX2_pieceOf_18 : decode cX2_pieceOf 18 = .ok (.invokevirtual 92, 3) := by decide +kernel
theorem dX2_pieceOf_21 : decode cX2_pieceOf 21 = .ok (.ldc2_w 76, 3) := by decide +kernel
theorem dX2_pieceOf_24 : decode cX2_pieceOf 24 = .ok (.lxor, 1) := by decide +kernel
theorem dX2_pieceOf_25 : decode cX2_pieceOf 25 = .ok (.lstore 7, 2) := by decide +kernel
theorem dX2_pieceOf_27 : decode cX2_pieceOf 27 = .ok (.lload_n 1, 1) := by decide +kernel
theorem dX2_pieceOf_28 : decode cX2_pieceOf 28 = .ok (.lstore 9, 2) := by decide +kernel
theorem dX2_pieceOf_30 : decode cX2_pieceOf 30 = .ok (.iconst 0, 1) := by decide +kernel
theorem dX2_pieceOf_31 : decode cX2_pieceOf 31 = .ok (.istore 11, 2) := by decide +kernel
theorem dX2_pieceOf_33 : decode cX2_pieceOf 33 = .ok (.iload 11, 2) := by decide +kernel
theorem dX2_pieceOf_35 : decode cX2_pieceOf 35 = .ok (.aload_n 0, 1) := by decide +kernel
theorem dX2_pieceOf_36 : decode cX2_pieceOf 36 = .ok (.invokevirtual 34, 3) := by decide +kernel
theorem dX2_pieceOf_39 : decode cX2_pieceOf 39 = .ok (.if_icmp .ge 66, 3) := by decide +kernel
theorem dX2_pieceOf_42 : decode cX2_pieceOf 42 = .ok (.lload 9, 2) := by decide +kernel
theorem dX2_pieceOf_44 : decode cX2_pieceOf 44 = .ok (.lload 7, 2) := by decide +kernel
theorem dX2_pieceOf_46 : decode cX2_pieceOf 46 = .ok (.land, 1) := by decide +kernel
theorem dX2_pieceOf_47 : decode cX2_pieceOf 47 = .ok (.iconst 1, 1) := by decide +kernel
theorem dX2_pieceOf_48 : decode cX2_pieceOf 48 = .ok (.lshl, 1) := by decide +kernel
theorem dX2_pieceOf_49 : decode cX2_pieceOf 49 = .ok (.lload 9, 2) := by decide +kernel
theorem dX2_pieceOf_51 : decode cX2_pieceOf 51 = .ok (.lload 5, 2) := by decide +kernel
theorem dX2_pieceOf_53 : decode cX2_pieceOf 53 = .ok (.land, 1) := by decide +kernel
theorem dX2_pieceOf_54 : decode cX2_pieceOf 54 = .ok (.iconst 1, 1) := by decide +kernel
theorem dX2_pieceOf_55 : decode cX2_pieceOf 55 = .ok (.lushr, 1) := by decide +kernel
theorem dX2_pieceOf_56 : decode cX2_pieceOf 56 = .ok (.lor, 1) := by decide +kernel
theorem dX2_pieceOf_57 : decode cX2_pieceOf 57 = .ok (.lstore 12, 2) := by decide +kernel
theorem dX2_pieceOf_59 : decode cX2_pieceOf 59 = .ok (.lload 9, 2) := by decide +kernel
theorem dX2_pieceOf_61 : decode cX2_pieceOf 61 = .ok (.lload 12, 2) := by decide +kernel
theorem dX2_pieceOf_63 : decode cX2_pieceOf 63 = .ok (.lor, 1) := by decide +kernel
theorem dX2_pieceOf_64 : decode cX2_pieceOf 64 = .ok (.lload 9, 2) := by decide +kernel
theorem dX2_pieceOf_66 : decode cX2_pieceOf 66 = .ok (.aload_n 0, 1) := by decide +kernel
theorem dX2_pieceOf_67 : decode cX2_pieceOf 67 = .ok (.getfield 21, 3) := by decide +kernel
theorem dX2_pieceOf_70 : decode cX2_pieceOf 70 = .ok (.lshl, 1) := by decide +kernel
theorem dX2_pieceOf_71 : decode cX2_pieceOf 71 = .ok (.lor, 1) := by decide +kernel
theorem dX2_pieceOf_72 : decode cX2_pieceOf 72 = .ok (.lload 9, 2) := by decide +kernel
theorem dX2_pieceOf_74 : decode cX2_pieceOf 74 = .ok (.aload_n 0, 1) := by decide +kernel
theorem dX2_pieceOf_75 : decode cX2_pieceOf 75 = .ok (.getfield 21, 3) := by decide +kernel
theorem dX2_pieceOf_78 : decode cX2_pieceOf 78 = .ok (.lushr, 1) := by decide +kernel
theorem dX2_pieceOf_79 : decode cX2_pieceOf 79 = .ok (.lor, 1) := by decide +kernel
theorem dX2_pieceOf_80 : decode cX2_pieceOf 80 = .ok (.lload_n 3, 1) := by decide +kernel
theorem dX2_pieceOf_81 : decode cX2_pieceOf 81 = .ok (.land, 1) := by decide +kernel
theorem dX2_pieceOf_82 : decode cX2_pieceOf 82 = .ok (.lstore 14, 2) := by decide +kernel
theorem dX2_pieceOf_84 : decode cX2_pieceOf 84 = .ok (.lload 14, 2) := by decide +kernel
theorem dX2_pieceOf_86 : decode cX2_pieceOf 86 = .ok (.lload 9, 2) := by decide +kernel
theorem dX2_pieceOf_88 : decode cX2_pieceOf 88 = .ok (.lcmp, 1) := by decide +kernel
theorem dX2_pieceOf_89 : decode cX2_pieceOf 89 = .ok (.ifCond .ne 6, 3) := by decide +kernel
theorem dX2_pieceOf_92 : decode cX2_pieceOf 92 = .ok (.goto 13, 3) := by decide +kernel
theorem dX2_pieceOf_95 : decode cX2_pieceOf 95 = .ok (.lload 14, 2) := by decide +kernel
theorem dX2_pieceOf_97 : decode cX2_pieceOf 97 = .ok (.lstore 9, 2) := by decide +kernel
theorem dX2_pieceOf_99 : decode cX2_pieceOf 99 = .ok (.iinc 11 1, 3) := by decide +kernel
theorem dX2_pieceOf_102 : decode cX2_pieceOf 102 = .ok (.goto (-69), 3) := by decide +kernel
theorem dX2_pieceOf_105 : decode cX2_pieceOf 105 = .ok (.lload 9, 2) := by decide +kernel
theorem dX2_pieceOf_107 : decode cX2_pieceOf 107 = .ok (.lreturn, 1) := by decide +kernel
set_option maxRecDepth 20000 in
theorem ggX2_edges_X2_column : GoodIn wsX2_edges wsX2_column := goodIn_r _ [7, 8, 9, 10, 11, 6, 12, 1, 20, 21, 22, 23, 24] (by decide +kernel) (by decide +kernel)
set_option maxRecDepth 20000 in
theorem gX2_edges_X2_column : GoodIn wsX2_edges (wsV RX2 92 RX2 yX2_column wsX2_column) := goodIn_app (goodIn_of _ (by decide +kernel)) ggX2_edges_X2_column
set_option maxRecDepth 20000 in
theorem ggX2_edges_J13_bitCount_95d88 : GoodIn wsX2_edges wsJ13_bitCount_95d88 := goodIn_r _ [16, 17, 18, 19] (by decide +kernel) (by decide +kernel)
set_option maxRecDepth 20000 in
theorem gX2_edges_J13_bitCount_95d88 : GoodIn wsX2_edges (va_wsS RX2 110 yJ13_bitCount_95d88 wsJ13_bitCount_95d88) := goodIn_app (goodIn_of _ (by decide +kernel)) ggX2_edges_J13_bitCount_95d88
theorem dX2_edges_0 : decode cX2_edges 0 = .ok (.lload_n 1, 1) := by decide +kernel
theorem dX2_edges_1 : decode cX2_edges 1 = .ok (.aload_n 0, 1) := by decide +kernel
theorem dX2_edges_2 : decode cX2_edges 2 = .ok (.aload_n 0, 1) := by decide +kernel
theorem dX2_edges_3 : decode cX2_edges 3 = .ok (.getfield 21, 3) := by decide +kernel
theorem dX2_edges_6 : decode cX2_edges 6 = .ok (.iconst 1, 1) := by decide +kernel
theorem dX2_edges_7 : decode cX2_edges 7 = .ok (.isub, 1) := by decide +kernel
theorem dX2_edges_8 : decode cX2_edges 8 = .ok (.invokevirtual 92, 3) := by decide +kernel
theorem dX2_edges_11 : decode cX2_edges 11 = .ok (.ldc2_w 76, 3) := by decide +kernel
theorem dX2_edges_14 : decode cX2_edges 14 = .ok (.lxor, 1) := by decide +kernel
theorem dX2_edges_15 : decode cX2_edges 15 = .ok (.land, 1) := by decide +kernel
theorem dX2_edges_16 : decode cX2_edges 16 = .ok (.lload_n 1, 1) := by decide +kernel
theorem dX2_edges_17 : decode cX2_edges 17 = .ok (.iconst 1, 1) := by decide +kernel
theorem dX2_edges_18 : decode cX2_edges 18 = .ok (.lushr, 1) := by decide +kernel
theorem dX2_edges_19 : decode cX2_edges 19 = .ok (.land, 1) := by decide +kernel
theorem dX2_edges_20 : decode cX2_edges 20 = .ok (.lstore_n 3, 1) := by decide +kernel
theorem dX2_edges_21 : decode cX2_edges 21 = .ok (.lload_n 1, 1) := by decide +kernel
theorem dX2_edges_22 : decode cX2_edges 22 = .ok (.lload_n 1, 1) := by decide +kernel
theorem dX2_edges_23 : decode cX2_edges 23 = .ok (.aload_n 0, 1) := by decide +kernel
theorem dX2_edges_24 : decode cX2_edges 24 = .ok (.getfield 21, 3) := by decide +kernel
theorem dX2_edges_27 : decode cX2_edges 27 = .ok (.lushr, 1) := by decide +kernel
theorem dX2_edges_28 : decode cX2_edges 28 = .ok (.land, 1) := by decide +kernel
theorem dX2_edges_29 : decode cX2_edges 29 = .ok (.lstore 5, 2) := by decide +kernel
theorem dX2_edges_31 : decode cX2_edges 31 = .ok (.iconst 4, 1) := by decide +kernel
theorem dX2_edges_32 : decode cX2_edges 32 = .ok (.lload_n 1, 1) := by decide +kernel
theorem dX2_edges_33 : decode cX2_edges 33 = .ok (.invokestatic 110, 3) := by decide +kernel
theorem dX2_edges_36 : decode cX2_edges 36 = .ok (.imul, 1) := by decide +kernel
theorem dX2_edges_37 : decode cX2_edges 37 = .ok (.iconst 2, 1) := by decide +kernel
theorem dX2_edges_38 : decode cX2_edges 38 = .ok (.lload_n 3, 1) := by decide +kernel
theorem dX2_edges_39 : decode cX2_edges 39 = .ok (.invokestatic 110, 3) := by decide +kernel
theorem dX2_edges_42 : decode cX2_edges 42 = .ok (.lload 5, 2) := by decide +kernel
theorem dX2_edges_44 : decode cX2_edges 44 = .ok (.invokestatic 110, 3) := by decide +kernel
theorem dX2_edges_47 : decode cX2_edges 47 = .ok (.iadd, 1) := by decide +kernel
theorem dX2_edges_48 : decode cX2_edges 48 = .ok (.imul, 1) := by decide +kernel
theorem dX2_edges_49 : decode cX2_edges 49 = .ok (.isub, 1) := by decide +kernel
theorem dX2_edges_50 : decode cX2_edges 50 = .ok (.ireturn, 1) := by decide +kernel
set_option maxRecDepth 20000 in
theorem ggX2_firstColumn_X2_column : GoodIn wsX2_firstColumn wsX2_column := goodIn_r _ [6, 7, 8, 9, 10, 5, 11, 1, 12, 13, 14, 15, 16] (by decide +kernel) (by decide +kernel)
set_option maxRecDepth 20000 in
theorem gX2_firstColumn_X2_column : GoodIn wsX2_firstColumn (wsV RX2 92 RX2 yX2_column wsX2_column) := goodIn_app (goodIn_of _ (by decide +kernel)) ggX2_firstColumn_X2_column
theorem dX2_firstColumn_0 : decode cX2_firstColumn 0 = .ok (.iconst 0, 1) := by decide +kernel
theorem dX2_firstColumn_1 : decode cX2_firstColumn 1 = .ok (.istore_n 3, 1) := by decide +kernel
theorem dX2_firstColumn_2 : decode cX2_firstColumn 2 = .ok (.iload_n 3, 1) := by decide +kernel
theorem dX2_firstColumn_3 : decode cX2_firstColumn 3 = .ok (.aload_n 0, 1) := by decide +kernel
theorem dX2_firstColumn_4 : decode cX2_firstColumn 4 = .ok (.getfield 21, 3) := by decide +kernel
theorem dX2_firstColumn_7 : decode cX2_firstColumn 7 = .ok (.if_icmp .ge 23, 3) := by decide +kernel
theorem dX2_firstColumn_10 : decode cX2_firstColumn 10 = .ok (.lload_n 1, 1) := by decide +kernel
theorem dX2_firstColumn_11 : decode cX2_firstColumn 11 = .ok (.aload_n 0, 1) := by decide +kernel
theorem dX2_firstColumn_12 : decode cX2_firstColumn 12 = .ok (.iload_n 3, 1) := by decide +kernel
theorem dX2_firstColumn_13 : decode cX2_firstColumn 13 = .ok (.invokevirtual 92, 3) := by decide +kernel
theorem dX2_firstColumn_16 : decode cX2_firstColumn 16 = .ok (.land, 1) := by decide +kernel
theorem dX2_firstColumn_17 : decode cX2_firstColumn 17 = .ok (.lconst 0, 1) := by decide +kernel
theorem dX2_firstColumn_18 : decode cX2_firstColumn 18 = .ok (.lcmp, 1) := by decide +kernel
theorem dX2_firstColumn_19 : decode cX2_firstColumn 19 = .ok (.ifCond .eq 5, 3) := by decide +kernel
theorem dX2_firstColumn_22 : decode cX2_firstColumn 22 = .ok (.iload_n 3, 1) := by decide +kernel
theorem dX2_firstColumn_23 : decode cX2_firstColumn 23 = .ok (.ireturn, 1) := by decide +kernel
theorem dX2_firstColumn_24 : decode cX2_firstColumn 24 = .ok (.iinc 3 1, 3) := by decide +kernel
theorem dX2_firstColumn_27 : decode cX2_firstColumn 27 = .ok (.goto (-25), 3) := by decide +kernel
theorem dX2_firstColumn_30 : decode cX2_firstColumn 30 = .ok (.iconst (-1), 1) := by decide +kernel
theorem dX2_firstColumn_31 : decode cX2_firstColumn 31 = .ok (.ireturn, 1) := by decide +kernel
set_option maxRecDepth 20000 in
theorem ggX2_firstRow_X2_row : GoodIn wsX2_firstRow wsX2_row := goodIn_r _ [6, 7, 8, 9, 10, 5, 11, 12, 13, 14, 15, 16] (by decide +kernel) (by decide +kernel)
set_option maxRecDepth 20000 in
theorem gX2_firstRow_X2_row : GoodIn wsX2_firstRow (wsV RX2 96 RX2 yX2_row wsX2_row) := goodIn_app (goodIn_of _ (by decide +kernel)) ggX2_firstRow_X2_row
theorem dX2_firstRow_0 : decode cX2_firstRow 0 = .ok (.iconst 0, 1) := by decide +kernel
theorem dX2_firstRow_1 : decode cX2_firstRow 1 = .ok (.istore_n 3, 1) := by decide +kernel
theorem dX2_firstRow_2 : decode cX2_firstRow 2 = .ok (.iload_n 3, 1) := by decide +kernel
theorem dX2_firstRow_3 : decode cX2_firstRow 3 = .ok (.aload_n 0, 1) := by decide +kernel
theorem dX2_firstRow_4 : decode cX2_firstRow 4 = .ok (.getfield 25, 3) := by decide +kernel
theorem dX2_firstRow_7 : decode cX2_firstRow 7 = .ok (.if_icmp .ge 23, 3) := by decide +kernel
theorem dX2_firstRow_10 : decode cX2_firstRow 10 = .ok (.lload_n 1, 1) := by decide +kernel
theorem dX2_firstRow_11 : decode cX2_firstRow 11 = .ok (.aload_n 0, 1) := by decide +kernel
theorem dX2_firstRow_12 : decode cX2_firstRow 12 = .ok (.iload_n 3, 1) := by decide +kernel
theorem dX2_firstRow_13 : decode cX2_firstRow 13 = .ok (.invokevirtual 96, 3) := by decide +kernel
theorem dX2_firstRow_16 : decode cX2_firstRow 16 = .ok (.land, 1) := by decide +kernel
theorem dX2_firstRow_17 : decode cX2_firstRow 17 = .ok (.lconst 0, 1) := by decide +kernel
theorem dX2_firstRow_18 : decode cX2_firstRow 18 = .ok (.lcmp, 1) := by decide +kernel
theorem dX2_firstRow_19 : decode cX2_firstRow 19 = .ok (.ifCond .eq 5, 3) := by decide +kernel
theorem dX2_firstRow_22 : decode cX2_firstRow 22 = .ok (.iload_n 3, 1) := by decide +kernel
theorem dX2_firstRow_23 : decode cX2_firstRow 23 = .ok (.ireturn, 1) := by decide +kernel
theorem dX2_firstRow_24 : decode cX2_firstRow 24 = .ok (.iinc 3 1, 3) := by decide +kernel
theorem dX2_firstRow_27 : decode cX2_firstRow 27 = .ok (.goto (-25), 3) := by decide +kernel
theorem dX2_firstRow_30 : decode cX2_firstRow 30 = .ok (.iconst (-1), 1) := by decide +kernel
theorem dX2_firstRow_31 : decode cX2_firstRow 31 = .ok (.ireturn, 1) := by decide +kernel
set_option maxRecDepth 20000 in
theorem ggX2_lastColumn_X2_column : GoodIn wsX2_lastColumn wsX2_column := goodIn_r _ [6, 7, 8, 9, 10, 5, 11, 1, 12, 13, 14, 15, 16] (by decide +kernel) (by decide +kernel)
set_option maxRecDepth 20000 in
theorem gX2_lastColumn_X2_column : GoodIn wsX2_lastColumn (wsV RX2 92 RX2 yX2_column wsX2_column) := goodIn_app (goodIn_of _ (by decide +kernel)) ggX2_lastColumn_X2_column
theorem dX2_lastColumn_0 : decode cX2_lastColumn 0 = .ok (.aload_n 0, 1) := by decide +kernel
theorem dX2_lastColumn_1 : decode cX2_lastColumn 1 = .ok (.getfield 21, 3) := by decide +kernel
theorem dX2_lastColumn_4 : decode cX2_lastColumn 4 = .ok (.iconst 1, 1) := by decide +kernel
theorem dX2_lastColumn_5 : decode cX2_lastColumn 5 = .ok (.isub, 1) := by decide +kernel
theorem dX2_lastColumn_6 : decode cX2_lastColumn 6 = .ok (.istore_n 3, 1) := by decide +kernel
theorem dX2_lastColumn_7 : decode cX2_lastColumn 7 = .ok (.iload_n 3, 1) := by decide +kernel
theorem dX2_lastColumn_8 : decode cX2_lastColumn 8 = .ok (.ifCond .lt 23, 3) := by decide +kernel
theorem dX2_lastColumn_11 : decode cX2_lastColumn 11 = .ok (.lload_n 1, 1) := by decide +kernel
theorem dX2_lastColumn_12 : decode cX2_lastColumn 12 = .ok (.aload_n 0, 1) := by decide +kernel
theorem dX2_lastColumn_13 : decode cX2_lastColumn 13 = .ok (.iload_n 3, 1) := by decide +kernel
theorem dX2_lastColumn_14 : decode cX2_lastColumn 14 = .ok (.invokevirtual 92, 3) := by decide +kernel
theorem dX2_lastColumn_17 : decode cX2_lastColumn 17 = .ok (.land, 1) := by decide +kernel
theorem dX2_lastColumn_18 : decode cX2_lastColumn 18 = .ok (.lconst 0, 1) := by decide +kernel
theorem dX2_lastColumn_19 : decode cX2_lastColumn 19 = .ok (.lcmp, 1) := by decide +kernel
theorem dX2_lastColumn_20 : decode cX2_lastColumn 20 = .ok (.ifCond .eq 5, 3) := by decide +kernel
theorem dX2_lastColumn_23 : decode cX2_lastColumn 23 = .ok (.iload_n 3, 1) := by decide +kernel
theorem dX2_lastColumn_24 : decode cX2_lastColumn 24 = .ok (.ireturn, 1) := by decide +kernel
theorem dX2_lastColumn_25 : decode cX2_lastColumn 25 = .ok (.iinc 3 (-1), 3) := by decide +kernel
theorem dX2_lastColumn_28 : decode cX2_lastColumn 28 = .ok (.goto (-21), 3) := by decide +kernel
theorem dX2_lastColumn_31 : decode cX2_lastColumn 31 = .ok (.iconst (-1), 1) := by decide +kernel
theorem dX2_lastColumn_32 : decode cX2_lastColumn 32 = .ok (.ireturn, 1) := by decide +kernel
set_option maxRecDepth 20000 in
theorem ggX2_lastRow_X2_row : GoodIn wsX2_lastRow wsX2_row := goodIn_r _ [6, 7, 8, 9, 10, 5, 11, 12, 13, 14, 15, 16] (by decide +kernel) (by decide +kernel)
set_option maxRecDepth 20000 in
theorem gX2_lastRow_X2_row : GoodIn wsX2_lastRow (wsV RX2 96 RX2 yX2_row wsX2_row) := goodIn_app (goodIn_of _ (by decide +kernel)) ggX2_lastRow_X2_row
theorem dX2_lastRow_0 : decode cX2_lastRow 0 = .ok (.aload_n 0, 1) := by decide +kernel
theorem dX2_lastRow_1 : decode cX2_lastRow 1 = .ok (.getfield 25, 3) := by decide +kernel
theorem dX2_lastRow_4 : decode cX2_lastRow 4 = .ok (.iconst 1, 1) := by decide +kernel
theorem dX2_lastRow_5 : decode cX2_lastRow 5 = .ok (.isub, 1) := by decide +kernel
theorem dX2_lastRow_6 : decode cX2_lastRow 6 = .ok (.istore_n 3, 1) := by decide +kernel
theorem dX2_lastRow_7 : decode cX2_lastRow 7 = .ok (.iload_n 3, 1) := by decide +kernel
theorem dX2_lastRow_8 : decode cX2_lastRow 8 = .ok (.ifCond .lt 23, 3) := by decide +kernel
theorem dX2_lastRow_11 : decode cX2_lastRow 11 = .ok (.lload_n 1, 1) := by decide +kernel
theorem dX2_lastRow_12 : decode cX2_lastRow 12 = .ok (.aload_n 0, 1) := by decide +kernel
theorem dX2_lastRow_13 : decode cX2_lastRow 13 = .ok (.iload_n 3, 1) := by decide +kernel
theorem dX2_lastRow_14 : decode cX2_lastRow 14 = .ok (.invokevirtual 96, 3) := by decide +kernel
theorem dX2_lastRow_17 : decode cX2_lastRow 17 = .ok (.land, 1) := by decide +kernel
theorem dX2_lastRow_18 : decode cX2_lastRow 18 = .ok (.lconst 0, 1) := by decide +kernel
theorem dX2_lastRow_19 : decode cX2_lastRow 19 = .ok (.lcmp, 1) := by decide +kernel
theorem dX2_lastRow_20 : decode cX2_lastRow 20 = .ok (.ifCond .eq 5, 3) := by decide +kernel
theorem dX2_lastRow_23 : decode cX2_lastRow 23 = .ok (.iload_n 3, 1) := by decide +kernel
theorem dX2_lastRow_24 : decode cX2_lastRow 24 = .ok (.ireturn, 1) := by decide +kernel
theorem dX2_lastRow_25 : decode cX2_lastRow 25 = .ok (.iinc 3 (-1), 3) := by decide +kernel
theorem dX2_lastRow_28 : decode cX2_lastRow 28 = .ok (.goto (-21), 3) := by decide +kernel
theorem dX2_lastRow_31 : decode cX2_lastRow 31 = .ok (.iconst (-1), 1) := by decide +kernel
theorem dX2_lastRow_32 : decode cX2_lastRow 32 = .ok (.ireturn, 1) := by decide +kernel
theorem dX3_init_0 : decode cX3_init 0 = .ok (.aload_n 0, 1) := by decide +kernel
theorem dX3_init_1 : decode cX3_init 1 = .ok (.invokespecial 3, 3) := by decide +kernel
theorem dX3_init_4 : decode cX3_init 4 = .ok (.aload_n 0, 1) := by decide +kernel
theorem dX3_init_5 : decode cX3_init 5 = .ok (.bipush 100, 2) := by decide +kernel
theorem dX3_init_7 : decode cX3_init 7 = .ok (.newarray .int, 2) := by decide +kernel
theorem dX3_init_9 : decode cX3_init 9 = .ok (.putfield 11, 3) := by decide +kernel
theorem dX3_init_12 : decode cX3_init 12 = .ok (.aload_n 0, 1) := by decide +kernel
theorem dX3_init_13 : decode cX3_init 13 = .ok (.iconst 4, 1) := by decide +kernel
theorem dX3_init_14 : decode cX3_init 14 = .ok (.newarray .int, 2) := by decide +kernel
theorem dX3_init_16 : decode cX3_init 16 = .ok (.putfield 15, 3) := by decide +kernel
theorem dX3_init_19 : decode cX3_init 19 = .ok (.return_, 1) := by decide +kernel
theorem dX3_takeByte_0 : decode cX3_takeByte 0 = .ok (.aload_n 0, 1) := by decide +kernel
theorem dX3_takeByte_1 : decode cX3_takeByte 1 = .ok (.getfield 18, 3) := by decide +kernel
theorem dX3_takeByte_4 : decode cX3_takeByte 4 = .ok (.bipush 100, 2) := by decide +kernel
theorem dX3_takeByte_6 : decode cX3_takeByte 6 = .ok (.if_icmp .lt 5, 3) := by decide +kernel
theorem dX3_takeByte_9 : decode cX3_takeByte 9 = .ok (.iconst 0, 1) := by decide +kernel
theorem dX3_takeByte_10 : decode cX3_takeByte 10 = .ok (.ireturn, 1) := by decide +kernel
theorem dX3_takeByte_11 : decode cX3_takeByte 11 = .ok (.aload_n 0, 1) := by decide +kernel
theorem dX3_takeByte_12 : decode cX3_takeByte 12 = .ok (.getfield 11, 3) := by decide +kernel
theorem dX3_takeByte_15 : decode cX3_takeByte 15 = .ok (.aload_n 0, 1) := by decide +kernel
theorem dX3_takeByte_16 : decode cX3_takeByte 16 = .ok (.getfield 18, 3) := by decide +kernel
theorem dX3_takeByte_19 : decode cX3_takeByte 19 = .ok (.iload_n 1, 1) := by decide +kernel
theorem dX3_takeByte_20 : decode cX3_takeByte 20 = .ok (.iastore, 1) := by decide +kernel
theorem dX3_takeByte_21 : decode cX3_takeByte 21 = .ok (.aload_n 0, 1) := by decide +kernel
theorem dX3_takeByte_22 : decode cX3_takeByte 22 = .ok (.dup, 1) := by decide +kernel
theorem dX3_takeByte_23 : decode cX3_takeByte 23 = .ok (.getfield 18, 3) := by decide +kernel
theorem dX3_takeByte_26 : decode cX3_takeByte 26 = .ok (.iconst 1, 1) := by decide +kernel
theorem dX3_takeByte_27 : decode cX3_takeByte 27 = .ok (.iadd, 1) := by decide +kernel
theorem dX3_takeByte_28 : decode cX3_takeByte 28 = .ok (.putfield 18, 3) := by decide +kernel
theorem dX3_takeByte_31 : decode cX3_takeByte 31 = .ok (.iconst 1, 1) := by decide +kernel
theorem dX3_takeByte_32 : decode cX3_takeByte 32 = .ok (.ireturn, 1) := by decide +kernel
theorem dX3_rewind_0 : decode cX3_rewind 0 = .ok (.aload_n 0, 1) := by decide +kernel
theorem dX3_rewind_1 : decode cX3_rewind 1 = .ok (.iconst 0, 1) := by decide +kernel
theorem dX3_rewind_2 : decode cX3_rewind 2 = .ok (.putfield 22, 3) := by decide +kernel
theorem dX3_rewind_5 : decode cX3_rewind 5 = .ok (.return_, 1) := by decide +kernel
theorem dX3_number_0 : decode cX3_number 0 = .ok (.iload_n 1, 1) := by decide +kernel
theorem dX3_number_1 : decode cX3_number 1 = .ok (.ifCond .lt 20, 3) := by decide +kernel
theorem dX3_number_4 : decode cX3_number 4 = .ok (.iload_n 1, 1) := by decide +kernel
theorem dX3_number_5 : decode cX3_number 5 = .ok (.aload_n 0, 1) := by decide +kernel
theorem dX3_number_6 : decode cX3_number 6 = .ok (.getfield 25, 3) := by decide +kernel
theorem dX3_number_9 : decode cX3_number 9 = .ok (.if_icmp .ge 12, 3) := by decide +kernel
theorem dX3_number_12 : decode cX3_number 12 = .ok (.aload_n 0, 1) := by decide +kernel
theorem dX3_number_13 : decode cX3_number 13 = .ok (.getfield 15, 3) := by decide +kernel
theorem dX3_number_16 : decode cX3_number 16 = .ok (.iload_n 1, 1) := by decide +kernel
theorem dX3_number_17 : decode cX3_number 17 = .ok (.iaload, 1) := by decide +kernel
theorem dX3_number_18 : decode cX3_number 18 = .ok (.goto 4, 3) := by decide +kernel
theorem dX3_number_21 : decode cX3_number 21 = .ok (.iconst 0, 1) := by decide +kernel
theorem dX3_number_22 : decode cX3_number 22 = .ok (.ireturn, 1) := by decide +kernel
set_option maxRecDepth 20000 in
theorem ggX3_findFault_X3_rewind : GoodIn wsX3_findFault wsX3_rewind := goodIn_r _ [7, 2, 36, 37, 38, 39, 40, 41, 42] (by decide +kernel) (by decide +kernel)
set_option maxRecDepth 20000 in
theorem gX3_findFault_X3_rewind : GoodIn wsX3_findFault (wsV RX3 28 RX3 yX3_rewind wsX3_rewind) := goodIn_app (goodIn_of _ (by decide +kernel)) ggX3_findFault_X3_rewind
set_option maxRecDepth 20000 in
theorem ggX3_findFault_X3_peekSign : GoodIn wsX3_findFault wsX3_peekSign := goodIn_r _ [11, 2, 12, 13, 36, 37, 38, 39, 40, 41, 42] (by decide +kernel) (by decide +kernel)
set_option maxRecDepth 20000 in
theorem gX3_findFault_X3_peekSign : GoodIn wsX3_findFault (wsV RX3 34 RX3 yX3_peekSign wsX3_peekSign) := goodIn_app (goodIn_of _ (by decide +kernel)) ggX3_findFault_X3_peekSign
set_option maxRecDepth 20000 in
theorem ggX3_findFault_X3_readOrder : GoodIn wsX3_findFault wsX3_readOrder := goodIn_r _ [17, 18, 19, 2, 8, 9, 10, 6, 11, 12, 13, 20, 21, 22, 23, 24, 25, 26, 27, 28, 29, 30, 31, 32, 33, 34, 35, 36, 37, 38, 39, 40, 41, 42] (by decide +kernel) (by decide +kernel)
set_option maxRecDepth 20000 in
theorem gX3_findFault_X3_readOrder : GoodIn wsX3_findFault (wsV RX3 38 RX3 yX3_readOrder wsX3_readOrder) := goodIn_app (goodIn_of _ (by decide +kernel)) ggX3_findFault_X3_readOrder
theorem dX3_findFault_0 : decode cX3_findFault 0 = .ok (.aload_n 0, 1) := by decide +kernel
theorem dX3_findFault_1 : decode cX3_findFault 1 = .ok (.invokevirtual 28, 3) := by decide +kernel
theorem dX3_findFault_4 : decode cX3_findFault 4 = .ok (.aload_n 0, 1) := by decide +kernel
theorem dX3_findFault_5 : decode cX3_findFault 5 = .ok (.iconst 0, 1) := by decide +kernel
theorem dX3_findFault_6 : decode cX3_findFault 6 = .ok (.putfield 31, 3) := by decide +kernel
theorem dX3_findFault_9 : decode cX3_findFault 9 = .ok (.iconst 0, 1) := by decide +kernel
theorem dX3_findFault_10 : decode cX3_findFault 10 = .ok (.istore_n 3, 1) := by decide +kernel
theorem dX3_findFault_11 : decode cX3_findFault 11 = .ok (.iload_n 3, 1) := by decide +kernel
theorem dX3_findFault_12 : decode cX3_findFault 12 = .ok (.bipush 100, 2) := by decide +kernel
theorem dX3_findFault_14 : decode cX3_findFault 14 = .ok (.if_icmp .gt 50, 3) := by decide +kernel
theorem dX3_findFault_17 : decode cX3_findFault 17 = .ok (.aload_n 0, 1) := by decide +kernel
theorem dX3_findFault_18 : decode cX3_findFault 18 = .ok (.getfield 31, 3) := by decide +kernel
theorem dX3_findFault_21 : decode cX3_findFault 21 = .ok (.ifCond .le 13, 3) := by decide +kernel
theorem dX3_findFault_24 : decode cX3_findFault 24 = .ok (.aload_n 0, 1) := by decide +kernel
theorem dX3_findFault_25 : decode cX3_findFault 25 = .ok (.invokevirtual 34, 3) := by decide +kernel
theorem dX3_findFault_28 : decode cX3_findFault 28 = .ok (.iconst (-1), 1) := by decide +kernel
theorem dX3_findFault_29 : decode cX3_findFault 29 = .ok (.if_icmp .ne 5, 3) := by decide +kernel
theorem dX3_findFault_32 : decode cX3_findFault 32 = .ok (.iconst (-1), 1) := by decide +kernel
theorem dX3_findFault_33 : decode cX3_findFault 33 = .ok (.ireturn, 1) := by decide +kernel
theorem dX3_findFault_34 : decode cX3_findFault 34 = .ok (.aload_n 0, 1) := by decide +kernel
theorem dX3_findFault_35 : decode cX3_findFault 35 = .ok (.iload_n 1, 1) := by decide +kernel
theorem dX3_findFault_36 : decode cX3_findFault 36 = .ok (.iload_n 2, 1) := by decide +kernel
theorem dX3_findFault_37 : decode cX3_findFault 37 = .ok (.invokevirtual 38, 3) := by decide +kernel
theorem dX3_findFault_40 : decode cX3_findFault 40 = .ok (.ifCond .ne 8, 3) := by decide +kernel
theorem dX3_findFault_43 : decode cX3_findFault 43 = .ok (.aload_n 0, 1) := by decide +kernel
theorem dX3_findFault_44 : decode cX3_findFault 44 = .ok (.getfield 22, 3) := by decide +kernel
theorem dX3_findFault_47 : decode cX3_findFault 47 = .ok (.ireturn, 1) := by decide +kernel
theorem dX3_findFault_48 : decode cX3_findFault 48 = .ok (.aload_n 0, 1) := by decide +kernel
theorem dX3_findFault_49 : decode cX3_findFault 49 = .ok (.dup, 1) := by decide +kernel
theorem dX3_findFault_50 : decode cX3_findFault 50 = .ok (.getfield 31, 3) := by decide +kernel
theorem dX3_findFault_53 : decode cX3_findFault 53 = .ok (.iconst 1, 1) := by decide +kernel
theorem dX3_findFault_54 : decode cX3_findFault 54 = .ok (.iadd, 1) := by decide +kernel
theorem dX3_findFault_55 : decode cX3_findFault 55 = .ok (.putfield 31, 3) := by decide +kernel
theorem dX3_findFault_58 : decode cX3_findFault 58 = .ok (.iinc 3 1, 3) := by decide +kernel
theorem dX3_findFault_61 : decode cX3_findFault 61 = .ok (.goto (-50), 3) := by decide +kernel
theorem dX3_findFault_64 : decode cX3_findFault 64 = .ok (.aload_n 0, 1) := by decide +kernel
theorem dX3_findFault_65 : decode cX3_findFault 65 = .ok (.getfield 22, 3) := by decide +kernel
theorem dX3_findFault_68 : decode cX3_findFault 68 = .ok (.ireturn, 1) := by decide +kernel
set_option maxRecDepth 20000 in
theorem ggX3_readOrder_X3_peekSign : GoodIn wsX3_readOrder wsX3_peekSign := goodIn_r _ [8, 3, 9, 10, 27, 28, 29, 30, 31, 32, 33] (by decide +kernel) (by decide +kernel)
set_option maxRecDepth 20000 in
theorem gX3_readOrder_X3_peekSign : GoodIn wsX3_readOrder (wsV RX3 34 RX3 yX3_peekSign wsX3_peekSign) := goodIn_app (goodIn_of _ (by decide +kernel)) ggX3_readOrder_X3_peekSign
set_option maxRecDepth 20000 in
theorem ggX3_readOrder_X3_readDot : GoodIn wsX3_readOrder wsX3_readDot := goodIn_r _ [14, 15, 16, 17, 7, 18, 1, 19, 3, 4, 5, 6, 8, 9, 10, 20, 21, 22, 27, 28, 29, 30, 31, 32, 33] (by decide +kernel) (by decide +kernel)
set_option maxRecDepth 20000 in
theorem gX3_readOrder_X3_readDot : GoodIn wsX3_readOrder (wsV RX3 45 RX3 yX3_readDot wsX3_readDot) := goodIn_app (goodIn_of _ (by decide +kernel)) ggX3_readOrder_X3_readDot
set_option maxRecDepth 20000 in
theorem ggX3_readOrder_X3_readEnd : GoodIn wsX3_readOrder wsX3_readEnd := goodIn_r _ [26, 3, 4, 5, 6, 7, 8, 9, 10, 27, 28, 29, 30, 31, 32, 33] (by decide +kernel) (by decide +kernel)
set_option maxRecDepth 20000 in
theorem gX3_readOrder_X3_readEnd : GoodIn wsX3_readOrder (wsV RX3 48 RX3 yX3_readEnd wsX3_readEnd) := goodIn_app (goodIn_of _ (by decide +kernel)) ggX3_readOrder_X3_readEnd
set_option maxRecDepth 20000 in
theorem ggX3_readOrder_X3_readFigure : GoodIn wsX3_readOrder wsX3_readFigure := goodIn_r _ [18, 1, 19, 3, 4, 5, 6, 7, 8, 9, 10, 20, 21, 22, 27, 28, 29, 30, 31, 32, 33] (by decide +kernel) (by decide +kernel)
set_option maxRecDepth 20000 in
theorem gX3_readOrder_X3_readFigure : GoodIn wsX3_readOrder (wsV RX3 52 RX3 yX3_readFigure wsX3_readFigure) := goodIn_app (goodIn_of _ (by decide +kernel)) ggX3_readOrder_X3_readFigure
theorem dX3_readOrder_0 : decode cX3_readOrder 0 = .ok (.aload_n 0, 1) := by decide +kernel
theorem dX3_readOrder_1 : decode cX3_readOrder 1 = .ok (.iconst 0, 1) := by decide +kernel
theorem dX3_readOrder_2 : decode cX3_readOrder 2 = .ok (.putfield 25, 3) := by decide +kernel
theorem dX3_readOrder_5 : decode cX3_readOrder 5 = .ok (.aload_n 0, 1) := by decide +kernel
theorem dX3_readOrder_6 : decode cX3_readOrder 6 = .ok (.aload_n 0, 1) := by decide +kernel
theorem dX3_readOrder_7 : decode cX3_readOrder 7 = .ok (.invokevirtual 34, 3) := by decide +kernel
theorem dX3_readOrder_10 : decode cX3_readOrder 10 = .ok (.putfield 42, 3) := by decide +kernel
theorem dX3_readOrder_13 : decode cX3_readOrder 13 = .ok (.aload_n 0, 1) := by decide +kernel
theorem dX3_readOrder_14 : decode cX3_readOrder 14 = .ok (.getfield 42, 3) := by decide +kernel
theorem dX3_readOrder_17 : decode cX3_readOrder 17 = .ok (.tableswitch 196 102 115 #[71, 71, 196, 196, 196, 196, 163, 196, 71, 196, 196, 196, 196, 121], 71) := by decide +kernel
theorem dX3_readOrder_88 : decode cX3_readOrder 88 = .ok (.aload_n 0, 1) := by decide +kernel
theorem dX3_readOrder_89 : decode cX3_readOrder 89 = .ok (.dup, 1) := by decide +kernel
theorem dX3_readOrder_90 : decode cX3_readOrder 90 = .ok (.getfield 22, 3) := by decide +kernel
theorem dX3_readOrder_93 : decode cX3_readOrder 93 = .ok (.iconst 1, 1) := by decide +kernel
theorem dX3_readOrder_94 : decode cX3_readOrder 94 = .ok (.iadd, 1) := by decide +kernel
theorem dX3_readOrder_95 : decode cX3_readOrder 95 = .ok (.putfield 22, 3) := by decide +kernel
theorem dX3_readOrder_98 : decode cX3_readOrder 98 = .ok (.aload_n 0, 1) := by decide +kernel
theorem dX3_readOrder_99 : decode cX3_readOrder 99 = .ok (.iload_n 1, 1) := by decide +kernel
theorem dX3_readOrder_100 : decode cX3_readOrder 100 = .ok (.iload_n 2, 1) := by decide +kernel
theorem dX3_readOrder_101 : decode cX3_readOrder 101 = .ok (.invokevirtual 45, 3) := by decide +kernel
theorem dX3_readOrder_104 : decode cX3_readOrder 104 = .ok (.ifCond .eq 32, 3) := by decide +kernel
theorem dX3_readOrder_107 : decode cX3_readOrder 107 = .ok (.aload_n 0, 1) := by decide +kernel
theorem dX3_readOrder_108 : decode cX3_readOrder 108 = .ok (.invokevirtual 34, 3) := by decide +kernel
theorem dX3_readOrder_111 : decode cX3_readOrder 111 = .ok (.bipush 59, 2) := by decide +kernel
theorem dX3_readOrder_113 : decode cX3_readOrder 113 = .ok (.if_icmp .eq 12, 3) := by decide +kernel
theorem dX3_readOrder_116 : decode cX3_readOrder 116 = .ok (.aload_n 0, 1) := by decide +kernel
theorem dX3_readOrder_117 : decode cX3_readOrder 117 = .ok (.iload_n 1, 1) := by decide +kernel
theorem dX3_readOrder_118 : decode cX3_readOrder 118 = .ok (.iload_n 2, 1) := by decide +kernel
theorem dX3_readOrder_119 : decode cX3_readOrder 119 = .ok (.invokevirtual 45, 3) := by decide +kernel
theorem dX3_readOrder_122 : decode cX3_readOrder 122 = .ok (.ifCond .eq 14, 3) := by decide +kernel
theorem dX3_readOrder_125 : decode cX3_readOrder 125 = .ok (.aload_n 0, 1) := by decide +kernel
theorem dX3_readOrder_126 : decode cX3_readOrder 126 = .ok (.invokevirtual 48, 3) := by decide +kernel
theorem dX3_readOrder_129 : decode cX3_readOrder 129 = .ok (.ifCond .eq 7, 3) := by decide +kernel
theorem dX3_readOrder_132 : decode cX3_readOrder 132 = .ok (.iconst 1, 1) := by decide +kernel
theorem dX3_readOrder_133 : decode cX3_readOrder 133 = .ok (.goto 4, 3) := by decide +kernel
theorem dX3_readOrder_136 : decode cX3_readOrder 136 = .ok (.iconst 0, 1) := by decide +kernel
theorem dX3_readOrder_137 : decode cX3_readOrder 137 = .ok (.ireturn, 1) := by decide +kernel
theorem dX3_readOrder_138 : decode cX3_readOrder 138 = .ok (.aload_n 0, 1) := by decide +kernel
theorem dX3_readOrder_139 : decode cX3_readOrder 139 = .ok (.dup, 1) := by decide +kernel
theorem dX3_readOrder_140 : decode cX3_readOrder 140 = .ok (.getfield 22, 3) := by decide +kernel
theorem dX3_readOrder_143 : decode cX3_readOrder 143 = .ok (.iconst 1, 1) := by decide +kernel
theorem dX3_readOrder_144 : decode cX3_readOrder 144 = .ok (.iadd, 1) := by decide +kernel
theorem dX3_readOrder_145 : decode cX3_readOrder 145 = .ok (.putfield 22, 3) := by decide +kernel
theorem dX3_readOrder_148 : decode cX3_readOrder 148 = .ok (.aload_n 0, 1) := by decide +kernel
theorem dX3_readOrder_149 : decode cX3_readOrder 149 = .ok (.iload_n 1, 1) := by decide +kernel
theorem dX3_readOrder_150 : decode cX3_readOrder 150 = .ok (.iload_n 2, 1) := by decide +kernel
theorem dX3_readOrder_151 : decode cX3_readOrder 151 = .ok (.invokevirtual 45, 3) := by decide +kernel
theorem dX3_readOrder_154 : decode cX3_readOrder 154 = .ok (.ifCond .eq 24, 3) := by decide +kernel
theorem dX3_readOrder_157 : decode cX3_readOrder 157 = .ok (.aload_n 0, 1) := by decide +kernel
theorem dX3_readOrder_158 : decode cX3_readOrder 158 = .ok (.iconst 0, 1) := by decide +kernel
theorem dX3_readOrder_159 : decode cX3_readOrder 159 = .ok (.bipush 9, 2) := by decide +kernel
theorem dX3_readOrder_161 : decode cX3_readOrder 161 = .ok (.invokevirtual 52, 3) := by decide +kernel
theorem dX3_readOrder_164 : decode cX3_readOrder 164 = .ok (.ifCond .eq 14, 3) := by decide +kernel
theorem dX3_readOrder_167 : decode cX3_readOrder 167 = .ok (.aload_n 0, 1) := by decide +kernel
theorem dX3_readOrder_168 : decode cX3_readOrder 168 = .ok (.invokevirtual 48, 3) := by decide +kernel
theorem dX3_readOrder_171 : decode cX3_readOrder 171 = .ok (.ifCond .eq 7, 3) := by decide +kernel
theorem dX3_readOrder_174 : decode cX3_readOrder 174 = .ok (.iconst 1, 1) := by decide +kernel
theorem dX3_readOrder_175 : decode cX3_readOrder 175 = .ok (.goto 4, 3) := by decide +kernel
theorem dX3_readOrder_178 : decode cX3_readOrder 178 = .ok (.iconst 0, 1) := by decide +kernel
theorem dX3_readOrder_179 : decode cX3_readOrder 179 = .ok (.ireturn, 1) := by decide +kernel
theorem dX3_readOrder_180 : decode cX3_readOrder 180 = .ok (.aload_n 0, 1) := by decide +kernel
theorem dX3_readOrder_181 : decode cX3_readOrder 181 = .ok (.dup, 1) := by decide +kernel
theorem dX3_readOrder_182 : decode cX3_readOrder 182 = .ok (.getfield 22, 3) := by decide +kernel
theorem dX3_readOrder_185 : decode cX3_readOrder 185 = .ok (.iconst 1, 1) := by decide +kernel
theorem dX3_readOrder_186 : decode cX3_readOrder 186 = .ok (.iadd, 1) := by decide +kernel
theorem dX3_readOrder_187 : decode cX3_readOrder 187 = .ok (.putfield 22, 3) := by decide +kernel
theorem dX3_readOrder_190 : decode cX3_readOrder 190 = .ok (.aload_n 0, 1) := by decide +kernel
theorem dX3_readOrder_191 : decode cX3_readOrder 191 = .ok (.iconst 1, 1) := by decide +kernel
theorem dX3_readOrder_192 : decode cX3_readOrder 192 = .ok (.bipush 9, 2) := by decide +kernel
theorem dX3_readOrder_194 : decode cX3_readOrder 194 = .ok (.invokevirtual 52, 3) := by decide +kernel
theorem dX3_readOrder_197 : decode cX3_readOrder 197 = .ok (.ifCond .eq 14, 3) := by decide +kernel
theorem dX3_readOrder_200 : decode cX3_readOrder 200 = .ok (.aload_n 0, 1) := by decide +kernel
theorem dX3_readOrder_201 : decode cX3_readOrder 201 = .ok (.invokevirtual 48, 3) := by decide +kernel
theorem dX3_readOrder_204 : decode cX3_readOrder 204 = .ok (.ifCond .eq 7, 3) := by decide +kernel
theorem dX3_readOrder_207 : decode cX3_readOrder 207 = .ok (.iconst 1, 1) := by decide +kernel
theorem dX3_readOrder_208 : decode cX3_readOrder 208 = .ok (.goto 4, 3) := by decide +kernel
theorem dX3_readOrder_211 : decode cX3_readOrder 211 = .ok (.iconst 0, 1) := by decide +kernel
theorem dX3_readOrder_212 : decode cX3_readOrder 212 = .ok (.ireturn, 1) := by decide +kernel
theorem dX3_readOrder_213 : decode cX3_readOrder 213 = .ok (.iconst 0, 1) := by decide +kernel
theorem dX3_readOrder_214 : decode cX3_readOrder 214 = .ok (.ireturn, 1) := by decide +kernel
set_option maxRecDepth 20000 in
theorem ggX3_readDot_X3_readFigure : GoodIn wsX3_readDot wsX3_readFigure := goodIn_r _ [5, 6, 7, 8, 9, 10, 11, 4, 12, 13, 14, 15, 16, 17, 18, 19, 20, 21, 22, 23, 24] (by decide +kernel) (by decide +kernel)
set_option maxRecDepth 20000 in
theorem gX3_readDot_X3_readFigure : GoodIn wsX3_readDot (wsV RX3 52 RX3 yX3_readFigure wsX3_readFigure) := goodIn_app (goodIn_of _ (by decide +kernel)) ggX3_readDot_X3_readFigure
theorem dX3_readDot_0 : decode cX3_readDot 0 = .ok (.aload_n 0, 1) := by decide +kernel
theorem dX3_readDot_1 : decode cX3_readDot 1 = .ok (.iconst 0, 1) := by decide +kernel
theorem dX3_readDot_2 : decode cX3_readDot 2 = .ok (.iload_n 1, 1) := by decide +kernel
theorem dX3_readDot_3 : decode cX3_readDot 3 = .ok (.iconst 1, 1) := by decide +kernel
theorem dX3_readDot_4 : decode cX3_readDot 4 = .ok (.isub, 1) := by decide +kernel
theorem dX3_readDot_5 : decode cX3_readDot 5 = .ok (.invokevirtual 52, 3) := by decide +kernel
theorem dX3_readDot_8 : decode cX3_readDot 8 = .ok (.ifCond .eq 18, 3) := by decide +kernel
theorem dX3_readDot_11 : decode cX3_readDot 11 = .ok (.aload_n 0, 1) := by decide +kernel
theorem dX3_readDot_12 : decode cX3_readDot 12 = .ok (.iconst 0, 1) := by decide +kernel
theorem dX3_readDot_13 : decode cX3_readDot 13 = .ok (.iload_n 2, 1) := by decide +kernel
theorem dX3_readDot_14 : decode cX3_readDot 14 = .ok (.iconst 1, 1) := by decide +kernel
theorem dX3_readDot_15 : decode cX3_readDot 15 = .ok (.isub, 1) := by decide +kernel
theorem dX3_readDot_16 : decode cX3_readDot 16 = .ok (.invokevirtual 52, 3) := by decide +kernel
theorem dX3_readDot_19 : decode cX3_readDot 19 = .ok (.ifCond .eq 7, 3) := by decide +kernel
theorem dX3_readDot_22 : decode cX3_readDot 22 = .ok (.iconst 1, 1) := by decide +kernel
theorem dX3_readDot_23 : decode cX3_readDot 23 = .ok (.goto 4, 3) := by decide +kernel
theorem dX3_readDot_26 : decode cX3_readDot 26 = .ok (.iconst 0, 1) := by decide +kernel
theorem dX3_readDot_27 : decode cX3_readDot 27 = .ok (.ireturn, 1) := by decide +kernel
set_option maxRecDepth 20000 in
theorem ggX3_readFigure_X3_peekSign : GoodIn wsX3_readFigure wsX3_peekSign := goodIn_r _ [8, 3, 9, 10, 14, 15, 16, 17, 18, 19, 20] (by decide +kernel) (by decide +kernel)
set_option maxRecDepth 20000 in
theorem gX3_readFigure_X3_peekSign : GoodIn wsX3_readFigure (wsV RX3 34 RX3 yX3_peekSign wsX3_peekSign) := goodIn_app (goodIn_of _ (by decide +kernel)) ggX3_readFigure_X3_peekSign
set_option maxRecDepth 20000 in
theorem ggX3_readFigure_X4_isWithin : GoodIn wsX3_readFigure wsX4_isWithin := goodIn_r _ [13] (by decide +kernel) (by decide +kernel)
set_option maxRecDepth 20000 in
theorem gX3_readFigure_X4_isWithin_n55 : GoodIn wsX3_readFigure (wsX4_isWithin) := ggX3_readFigure_X4_isWithin
theorem dX3_readFigure_0 : decode cX3_readFigure 0 = .ok (.aload_n 0, 1) := by decide +kernel
theorem dX3_readFigure_1 : decode cX3_readFigure 1 = .ok (.invokevirtual 34, 3) := by decide +kernel
theorem dX3_readFigure_4 : decode cX3_readFigure 4 = .ok (.bipush 48, 2) := by decide +kernel
theorem dX3_readFigure_6 : decode cX3_readFigure 6 = .ok (.isub, 1) := by decide +kernel
theorem dX3_readFigure_7 : decode cX3_readFigure 7 = .ok (.istore_n 3, 1) := by decide +kernel
theorem dX3_readFigure_8 : decode cX3_readFigure 8 = .ok (.iload_n 3, 1) := by decide +kernel
theorem dX3_readFigure_9 : decode cX3_readFigure 9 = .ok (.iload_n 1, 1) := by decide +kernel
theorem dX3_readFigure_10 : decode cX3_readFigure 10 = .ok (.iload_n 2, 1) := by decide +kernel
theorem dX3_readFigure_11 : decode cX3_readFigure 11 = .ok (.invokestatic 55, 3) := by decide +kernel
theorem dX3_readFigure_14 : decode cX3_readFigure 14 = .ok (.ifCond .eq 11, 3) := by decide +kernel
theorem dX3_readFigure_17 : decode cX3_readFigure 17 = .ok (.aload_n 0, 1) := by decide +kernel
theorem dX3_readFigure_18 : decode cX3_readFigure 18 = .ok (.getfield 25, 3) := by decide +kernel
theorem dX3_readFigure_21 : decode cX3_readFigure 21 = .ok (.iconst 4, 1) := by decide +kernel
theorem dX3_readFigure_22 : decode cX3_readFigure 22 = .ok (.if_icmp .lt 5, 3) := by decide +kernel
theorem dX3_readFigure_25 : decode cX3_readFigure 25 = .ok (.iconst 0, 1) := by decide +kernel
theorem dX3_readFigure_26 : decode cX3_readFigure 26 = .ok (.ireturn, 1) := by decide +kernel
theorem dX3_readFigure_27 : decode cX3_readFigure 27 = .ok (.aload_n 0, 1) := by decide +kernel
theorem dX3_readFigure_28 : decode cX3_readFigure 28 = .ok (.getfield 15, 3) := by decide +kernel
theorem dX3_readFigure_31 : decode cX3_readFigure 31 = .ok (.aload_n 0, 1) := by decide +kernel
theorem dX3_readFigure_32 : decode cX3_readFigure 32 = .ok (.getfield 25, 3) := by decide +kernel
theorem dX3_readFigure_35 : decode cX3_readFigure 35 = .ok (.iload_n 3, 1) := by decide +kernel
theorem dX3_readFigure_36 : decode cX3_readFigure 36 = .ok (.iastore, 1) := by decide +kernel
theorem dX3_readFigure_37 : decode cX3_readFigure 37 = .ok (.aload_n 0, 1) := by decide +kernel
theorem dX3_readFigure_38 : decode cX3_readFigure 38 = .ok (.dup, 1) := by decide +kernel
theorem dX3_readFigure_39 : decode cX3_readFigure 39 = .ok (.getfield 25, 3) := by decide +kernel
theorem dX3_readFigure_42 : decode cX3_readFigure 42 = .ok (.iconst 1, 1) := by decide +kernel
theorem dX3_readFigure_43 : decode cX3_readFigure 43 = .ok (.iadd, 1) := by decide +kernel
theorem dX3_readFigure_44 : decode cX3_readFigure 44 = .ok (.putfield 25, 3) := by decide +kernel
theorem dX3_readFigure_47 : decode cX3_readFigure 47 = .ok (.aload_n 0, 1) := by decide +kernel
theorem dX3_readFigure_48 : decode cX3_readFigure 48 = .ok (.dup, 1) := by decide +kernel
theorem dX3_readFigure_49 : decode cX3_readFigure 49 = .ok (.getfield 22, 3) := by decide +kernel
theorem dX3_readFigure_52 : decode cX3_readFigure 52 = .ok (.iconst 1, 1) := by decide +kernel
theorem dX3_readFigure_53 : decode cX3_readFigure 53 = .ok (.iadd, 1) := by decide +kernel
theorem dX3_readFigure_54 : decode cX3_readFigure 54 = .ok (.putfield 22, 3) := by decide +kernel
theorem dX3_readFigure_57 : decode cX3_readFigure 57 = .ok (.iconst 1, 1) := by decide +kernel
theorem dX3_readFigure_58 : decode cX3_readFigure 58 = .ok (.ireturn, 1) := by decide +kernel
set_option maxRecDepth 20000 in
theorem ggX3_readEnd_X3_peekSign : GoodIn wsX3_readEnd wsX3_peekSign := goodIn_r _ [6, 1, 7, 8, 9, 10, 11, 12, 13, 14, 15] (by decide +kernel) (by decide +kernel)
set_option maxRecDepth 20000 in
theorem gX3_readEnd_X3_peekSign : GoodIn wsX3_readEnd (wsV RX3 34 RX3 yX3_peekSign wsX3_peekSign) := goodIn_app (goodIn_of _ (by decide +kernel)) ggX3_readEnd_X3_peekSign
theorem dX3_readEnd_0 : decode cX3_readEnd 0 = .ok (.aload_n 0, 1) := by decide +kernel
theorem dX3_readEnd_1 : decode cX3_readEnd 1 = .ok (.invokevirtual 34, 3) := by decide +kernel
theorem dX3_readEnd_4 : decode cX3_readEnd 4 = .ok (.bipush 59, 2) := by decide +kernel
theorem dX3_readEnd_6 : decode cX3_readEnd 6 = .ok (.if_icmp .eq 5, 3) := by decide +kernel
theorem dX3_readEnd_9 : decode cX3_readEnd 9 = .ok (.iconst 0, 1) := by decide +kernel
theorem dX3_readEnd_10 : decode cX3_readEnd 10 = .ok (.ireturn, 1) := by decide +kernel
theorem dX3_readEnd_11 : decode cX3_readEnd 11 = .ok (.aload_n 0, 1) := by decide +kernel
theorem dX3_readEnd_12 : decode cX3_readEnd 12 = .ok (.dup, 1) := by decide +kernel
theorem dX3_readEnd_13 : decode cX3_readEnd 13 = .ok (.getfield 22, 3) := by decide +kernel
theorem dX3_readEnd_16 : decode cX3_readEnd 16 = .ok (.iconst 1, 1) := by decide +kernel
theorem dX3_readEnd_17 : decode cX3_readEnd 17 = .ok (.iadd, 1) := by decide +kernel
theorem dX3_readEnd_18 : decode cX3_readEnd 18 = .ok (.putfield 22, 3) := by decide +kernel
theorem dX3_readEnd_21 : decode cX3_readEnd 21 = .ok (.iconst 1, 1) := by decide +kernel
theorem dX3_readEnd_22 : decode cX3_readEnd 22 = .ok (.ireturn, 1) := by decide +kernel
theorem dX3_peekSign_0 : decode cX3_peekSign 0 = .ok (.aload_n 0, 1) := by decide +kernel
theorem dX3_peekSign_1 : decode cX3_peekSign 1 = .ok (.getfield 22, 3) := by decide +kernel
theorem dX3_peekSign_4 : decode cX3_peekSign 4 = .ok (.aload_n 0, 1) := by decide +kernel
theorem dX3_peekSign_5 : decode cX3_peekSign 5 = .ok (.getfield 18, 3) := by decide +kernel
theorem dX3_peekSign_8 : decode cX3_peekSign 8 = .ok (.if_icmp .ge 30, 3) := by decide +kernel
theorem dX3_peekSign_11 : decode cX3_peekSign 11 = .ok (.aload_n 0, 1) := by decide +kernel
theorem dX3_peekSign_12 : decode cX3_peekSign 12 = .ok (.getfield 11, 3) := by decide +kernel
theorem dX3_peekSign_15 : decode cX3_peekSign 15 = .ok (.aload_n 0, 1) := by decide +kernel
theorem dX3_peekSign_16 : decode cX3_peekSign 16 = .ok (.getfield 22, 3) := by decide +kernel
theorem dX3_peekSign_19 : decode cX3_peekSign 19 = .ok (.iaload, 1) := by decide +kernel
theorem dX3_peekSign_20 : decode cX3_peekSign 20 = .ok (.bipush 32, 2) := by decide +kernel
theorem dX3_peekSign_22 : decode cX3_peekSign 22 = .ok (.if_icmp .ne 16, 3) := by decide +kernel
theorem dX3_peekSign_25 : decode cX3_peekSign 25 = .ok (.aload_n 0, 1) := by decide +kernel
theorem dX3_peekSign_26 : decode cX3_peekSign 26 = .ok (.dup, 1) := by decide +kernel
theorem dX3_peekSign_27 : decode cX3_peekSign 27 = .ok (.getfield 22, 3) := by decide +kernel
theorem dX3_peekSign_30 : decode cX3_peekSign 30 = .ok (.iconst 1, 1) := by decide +kernel
theorem dX3_peekSign_31 : decode cX3_peekSign 31 = .ok (.iadd, 1) := by decide +kernel
theorem dX3_peekSign_32 : decode cX3_peekSign 32 = .ok (.putfield 22, 3) := by decide +kernel
theorem dX3_peekSign_35 : decode cX3_peekSign 35 = .ok (.goto (-35), 3) := by decide +kernel
theorem dX3_peekSign_38 : decode cX3_peekSign 38 = .ok (.aload_n 0, 1) := by decide +kernel
theorem dX3_peekSign_39 : decode cX3_peekSign 39 = .ok (.getfield 22, 3) := by decide +kernel
theorem dX3_peekSign_42 : decode cX3_peekSign 42 = .ok (.aload_n 0, 1) := by decide +kernel
theorem dX3_peekSign_43 : decode cX3_peekSign 43 = .ok (.getfield 18, 3) := by decide +kernel
theorem dX3_peekSign_46 : decode cX3_peekSign 46 = .ok (.if_icmp .ge 15, 3) := by decide +kernel
theorem dX3_peekSign_49 : decode cX3_peekSign 49 = .ok (.aload_n 0, 1) := by decide +kernel
theorem dX3_peekSign_50 : decode cX3_peekSign 50 = .ok (.getfield 11, 3) := by decide +kernel
theorem dX3_peekSign_53 : decode cX3_peekSign 53 = .ok (.aload_n 0, 1) := by decide +kernel
theorem dX3_peekSign_54 : decode cX3_peekSign 54 = .ok (.getfield 22, 3) := by decide +kernel
theorem dX3_peekSign_57 : decode cX3_peekSign 57 = .ok (.iaload, 1) := by decide +kernel
theorem dX3_peekSign_58 : decode cX3_peekSign 58 = .ok (.goto 4, 3) := by decide +kernel
theorem dX3_peekSign_61 : decode cX3_peekSign 61 = .ok (.iconst (-1), 1) := by decide +kernel
theorem dX3_peekSign_62 : decode cX3_peekSign 62 = .ok (.ireturn, 1) := by decide +kernel
end
section
theorem fl_X2_dots_21 : Cond.fieldLink RX2 21 "StrokeCuts$Scene" "width" "I" ∈ wsX2_dots := by decide +kernel
theorem in_X2_dots_X2 : ∀ x ∈ u_ws RX2 TX2 5, x ∈ wsX2_dots := by decide +kernel
theorem fl_X2_dots_25 : Cond.fieldLink RX2 25 "StrokeCuts$Scene" "height" "I" ∈ wsX2_dots := by decide +kernel
set_option maxHeartbeats 4000000 in
set_option maxRecDepth 100000 in
theorem c_X2_dots (l : Launch) (w : zP) (hw : zOK w) (Ω : Mem) : zM l w yX2_dots wsX2_dots 0 0 [.ref (wa w 13)] Ω (zi (fun r Ω1 => r = gt Ω 13 0 * gt Ω 13 1 ∧ Ω1 = Ω)) := by
  refine zM_of cX2_dots 1 (some .int) RX2 [some (.ref (wa w 13))] hw (by decide +kernel) rfl rfl (Nat.le_of_ble_eq_true rfl) rfl (fun E hC => ?_)
  refine z_aload_n (pc := 0) hC (i := 0) dX2_dots_0 rfl rfl ?_
  refine z_getI (C := RX2) (T := TX2) (N := 5) (ci := 2) (pc := 1) hC _ 0 in_X2_dots_X2 rfl (by decide) (fun _ => rfl) (by decide) fl_X2_dots_21 (fun _ => rfl) dX2_dots_1 ?_
  refine z_aload_n (pc := 4) hC (i := 0) dX2_dots_4 rfl rfl ?_
  refine z_getI (C := RX2) (T := TX2) (N := 5) (ci := 2) (pc := 5) hC _ 1 in_X2_dots_X2 rfl (by decide) (fun _ => rfl) (by decide) fl_X2_dots_25 (fun _ => rfl) dX2_dots_5 ?_
  refine z_imul (pc := 8) hC dX2_dots_8 ?_
  exact z_iret (pc := 9) hC rfl ⟨_, rfl, ⟨rfl, rfl⟩⟩ dX2_dots_9
theorem fl_X2_numberOf_21 : Cond.fieldLink RX2 21 "StrokeCuts$Scene" "width" "I" ∈ wsX2_numberOf := by decide +kernel
theorem in_X2_numberOf_X2 : ∀ x ∈ u_ws RX2 TX2 5, x ∈ wsX2_numberOf := by decide +kernel
set_option maxHeartbeats 4000000 in
set_option maxRecDepth 100000 in
theorem c_X2_numberOf (l : Launch) (w : zP) (hw : zOK w) (Ω : Mem) (x y : Int) : zM l w yX2_numberOf wsX2_numberOf 0 0 [.ref (wa w 13), .int (zI x), .int (zI y)] Ω (zi (fun r Ω1 => r = gt Ω 13 0 * y + x ∧ Ω1 = Ω)) := by
  refine zM_of cX2_numberOf 3 (some .int) RX2 [some (.ref (wa w 13)), some (.int (zI x)), some (.int (zI y))] hw (by decide +kernel) rfl rfl (Nat.le_of_ble_eq_true rfl) rfl (fun E hC => ?_)
  refine z_aload_n (pc := 0) hC (i := 0) dX2_numberOf_0 rfl rfl ?_
  refine z_getI (C := RX2) (T := TX2) (N := 5) (ci := 2) (pc := 1) hC _ 0 in_X2_numberOf_X2 rfl (by decide) (fun _ => rfl) (by decide) fl_X2_numberOf_21 (fun _ => rfl) dX2_numberOf_1 ?_
  refine z_iload_n (pc := 4) hC (i := 2) dX2_numberOf_4 rfl rfl ?_
  refine z_imul (pc := 5) hC dX2_numberOf_5 ?_
  refine z_iload_n (pc := 6) hC (i := 1) dX2_numberOf_6 rfl rfl ?_
  refine z_iadd (pc := 7) hC dX2_numberOf_7 ?_
  exact z_iret (pc := 8) hC rfl ⟨_, rfl, ⟨rfl, rfl⟩⟩ dX2_numberOf_8
theorem fl_X2_hasDot_21 : Cond.fieldLink RX2 21 "StrokeCuts$Scene" "width" "I" ∈ wsX2_hasDot := by decide +kernel
theorem in_X2_hasDot_X2 : ∀ x ∈ u_ws RX2 TX2 5, x ∈ wsX2_hasDot := by decide +kernel
theorem fl_X2_hasDot_25 : Cond.fieldLink RX2 25 "StrokeCuts$Scene" "height" "I" ∈ wsX2_hasDot := by decide +kernel
set_option maxHeartbeats 4000000 in
set_option maxRecDepth 100000 in
theorem c_X2_hasDot (l : Launch) (w : zP) (hw : zOK w) (Ω : Mem) (x y : Int) (hx : zb x) (hy : zb y) : zM l w yX2_hasDot wsX2_hasDot 0 0 [.ref (wa w 13), .int (zI x), .int (zI y)] Ω (zbo (fun b Ω1 => b = decide (0 ≤ x ∧ x < gt Ω 13 0 ∧ 0 ≤ y ∧ y < gt Ω 13 1) ∧ Ω1 = Ω)) := by
  refine zM_of cX2_hasDot 3 (some .boolean) RX2 [some (.ref (wa w 13)), some (.int (zI x)), some (.int (zI y))] hw (by decide +kernel) rfl rfl (Nat.le_of_ble_eq_true rfl) rfl (fun E hC => ?_)
  refine z_iload_n (pc := 0) hC (i := 1) dX2_hasDot_0 rfl rfl ?_
  refine z_if_lt (pc := 1) hC 28 (by first | assumption | exact zb_gt _ _ _ | exact zcmp_zb _ _ | exact ⟨by omega, by omega⟩) dX2_hasDot_1 rfl (fun h1 => ?_) (fun h1 => ?_)
  · refine z_iconst (pc := 28) hC dX2_hasDot_28 ?_
    exact z_zret (b := false) (pc := 29) hC rfl ⟨false, rfl, ⟨(decide_eq_false (by omega)).symm, rfl⟩⟩ dX2_hasDot_29
  · refine z_iload_n (pc := 4) hC (i := 1) dX2_hasDot_4 rfl rfl ?_
    refine z_aload_n (pc := 5) hC (i := 0) dX2_hasDot_5 rfl rfl ?_
    refine z_getI (C := RX2) (T := TX2) (N := 5) (ci := 2) (pc := 6) hC _ 0 in_X2_hasDot_X2 rfl (by decide) (fun _ => rfl) (by decide) fl_X2_hasDot_21 (fun _ => rfl) dX2_hasDot_6 ?_
    refine z_icmp_ge (pc := 9) hC 28 (by first | assumption | exact zb_gt _ _ _ | exact zcmp_zb _ _ | exact ⟨by omega, by omega⟩) (by first | assumption | exact zb_gt _ _ _ | exact zcmp_zb _ _ | exact ⟨by omega, by omega⟩) dX2_hasDot_9 rfl (fun h9 => ?_) (fun h9 => ?_)
    · refine z_iconst (pc := 28) hC dX2_hasDot_28 ?_
      exact z_zret (b := false) (pc := 29) hC rfl ⟨false, rfl, ⟨(decide_eq_false (by omega)).symm, rfl⟩⟩ dX2_hasDot_29
    · refine z_iload_n (pc := 12) hC (i := 2) dX2_hasDot_12 rfl rfl ?_
      refine z_if_lt (pc := 13) hC 28 (by first | assumption | exact zb_gt _ _ _ | exact zcmp_zb _ _ | exact ⟨by omega, by omega⟩) dX2_hasDot_13 rfl (fun h13 => ?_) (fun h13 => ?_)
      · refine z_iconst (pc := 28) hC dX2_hasDot_28 ?_
        exact z_zret (b := false) (pc := 29) hC rfl ⟨false, rfl, ⟨(decide_eq_false (by omega)).symm, rfl⟩⟩ dX2_hasDot_29
      · refine z_iload_n (pc := 16) hC (i := 2) dX2_hasDot_16 rfl rfl ?_
        refine z_aload_n (pc := 17) hC (i := 0) dX2_hasDot_17 rfl rfl ?_
        refine z_getI (C := RX2) (T := TX2) (N := 5) (ci := 2) (pc := 18) hC _ 1 in_X2_hasDot_X2 rfl (by decide) (fun _ => rfl) (by decide) fl_X2_hasDot_25 (fun _ => rfl) dX2_hasDot_18 ?_
        refine z_icmp_ge (pc := 21) hC 28 (by first | assumption | exact zb_gt _ _ _ | exact zcmp_zb _ _ | exact ⟨by omega, by omega⟩) (by first | assumption | exact zb_gt _ _ _ | exact zcmp_zb _ _ | exact ⟨by omega, by omega⟩) dX2_hasDot_21 rfl (fun h21 => ?_) (fun h21 => ?_)
        · refine z_iconst (pc := 28) hC dX2_hasDot_28 ?_
          exact z_zret (b := false) (pc := 29) hC rfl ⟨false, rfl, ⟨(decide_eq_false (by omega)).symm, rfl⟩⟩ dX2_hasDot_29
        · refine z_iconst (pc := 24) hC dX2_hasDot_24 ?_
          refine z_goto (pc := 25) hC 29 dX2_hasDot_25 rfl ?_
          exact z_zret (b := true) (pc := 29) hC rfl ⟨true, rfl, ⟨(decide_eq_true (by omega)).symm, rfl⟩⟩ dX2_hasDot_29
end
