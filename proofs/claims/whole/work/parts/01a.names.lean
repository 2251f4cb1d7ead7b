-- ===== PART A: goes FIRST, ahead of the names: the tables' words, and 'selects' of the private methods out of them =====
/-- a private method of a class that the tables say can be made, by its rows of tables_1 -/
def lw_okq (q : MethodName × Nat) : Prop := (q.1.cls ≠ "java/lang/invoke/MethodHandle" ∧ q.1.cls ≠ "java/lang/invoke/VarHandle") ∧ Cond.instantiable q.1.cls q.2 ∈ tables_1 ∧ Cond.privateMethod q.1 ∈ tables_1 ∧ Cond.instanceMethod q.1 ∈ tables_1
theorem lw_p0 : lw_okq (⟨"DrawerNames$Draft", "asLaw", "()LDrawerNames$Law;"⟩, 4) := ⟨⟨by decide +kernel, by decide +kernel⟩, List.mem_of_getElem? (i := 38) (by decide +kernel), List.mem_of_getElem? (i := 308) (by decide +kernel), List.mem_of_getElem? (i := 309) (by decide +kernel)⟩
theorem lw_p1 : lw_okq (⟨"DrawerNames", "sitAt", "(LDrawerNames$Desk;)V"⟩, 18) := ⟨⟨by decide +kernel, by decide +kernel⟩, List.mem_of_getElem? (i := 24) (by decide +kernel), List.mem_of_getElem? (i := 379) (by decide +kernel), List.mem_of_getElem? (i := 380) (by decide +kernel)⟩
theorem lw_p2 : lw_okq (⟨"DrawerNames$Rows", "hold", "(I)V"⟩, 8) := ⟨⟨by decide +kernel, by decide +kernel⟩, List.mem_of_getElem? (i := 148) (by decide +kernel), List.mem_of_getElem? (i := 383) (by decide +kernel), List.mem_of_getElem? (i := 384) (by decide +kernel)⟩
theorem lw_p3 : lw_okq (⟨"DrawerNames$Rows", "fillRow", "(I)V"⟩, 8) := ⟨⟨by decide +kernel, by decide +kernel⟩, List.mem_of_getElem? (i := 148) (by decide +kernel), List.mem_of_getElem? (i := 389) (by decide +kernel), List.mem_of_getElem? (i := 390) (by decide +kernel)⟩
theorem lw_p4 : lw_okq (⟨"DrawerNames$Rows", "unusedName", "(II)I"⟩, 8) := ⟨⟨by decide +kernel, by decide +kernel⟩, List.mem_of_getElem? (i := 148) (by decide +kernel), List.mem_of_getElem? (i := 393) (by decide +kernel), List.mem_of_getElem? (i := 394) (by decide +kernel)⟩
theorem lw_p5 : lw_okq (⟨"DrawerNames$Visits", "sitAt", "(LDrawerNames$Desk;)V"⟩, 10) := ⟨⟨by decide +kernel, by decide +kernel⟩, List.mem_of_getElem? (i := 188) (by decide +kernel), List.mem_of_getElem? (i := 397) (by decide +kernel), List.mem_of_getElem? (i := 398) (by decide +kernel)⟩
theorem lw_p6 : lw_okq (⟨"DrawerNames", "putOnTape", "(I)V"⟩, 18) := ⟨⟨by decide +kernel, by decide +kernel⟩, List.mem_of_getElem? (i := 24) (by decide +kernel), List.mem_of_getElem? (i := 460) (by decide +kernel), List.mem_of_getElem? (i := 461) (by decide +kernel)⟩
theorem lw_p7 : lw_okq (⟨"DrawerNames$Reader", "read", "([BI)V"⟩, 18) := ⟨⟨by decide +kernel, by decide +kernel⟩, List.mem_of_getElem? (i := 32) (by decide +kernel), List.mem_of_getElem? (i := 468) (by decide +kernel), List.mem_of_getElem? (i := 469) (by decide +kernel)⟩
theorem lw_p8 : lw_okq (⟨"DrawerNames$Reader", "clear", "()V"⟩, 18) := ⟨⟨by decide +kernel, by decide +kernel⟩, List.mem_of_getElem? (i := 32) (by decide +kernel), List.mem_of_getElem? (i := 472) (by decide +kernel), List.mem_of_getElem? (i := 473) (by decide +kernel)⟩
theorem lw_p9 : lw_okq (⟨"DrawerNames$Draft", "clear", "()V"⟩, 4) := ⟨⟨by decide +kernel, by decide +kernel⟩, List.mem_of_getElem? (i := 38) (by decide +kernel), List.mem_of_getElem? (i := 476) (by decide +kernel), List.mem_of_getElem? (i := 477) (by decide +kernel)⟩
theorem lw_p10 : lw_okq (⟨"DrawerNames$Reader", "advance", "()V"⟩, 18) := ⟨⟨by decide +kernel, by decide +kernel⟩, List.mem_of_getElem? (i := 32) (by decide +kernel), List.mem_of_getElem? (i := 481) (by decide +kernel), List.mem_of_getElem? (i := 482) (by decide +kernel)⟩
theorem lw_p11 : lw_okq (⟨"DrawerNames$Reader", "wordBetween", "(II)I"⟩, 18) := ⟨⟨by decide +kernel, by decide +kernel⟩, List.mem_of_getElem? (i := 32) (by decide +kernel), List.mem_of_getElem? (i := 488) (by decide +kernel), List.mem_of_getElem? (i := 489) (by decide +kernel)⟩
theorem lw_p12 : lw_okq (⟨"DrawerNames$Reader", "readNumber", "()V"⟩, 18) := ⟨⟨by decide +kernel, by decide +kernel⟩, List.mem_of_getElem? (i := 32) (by decide +kernel), List.mem_of_getElem? (i := 544) (by decide +kernel), List.mem_of_getElem? (i := 545) (by decide +kernel)⟩
theorem lw_p13 : lw_okq (⟨"DrawerNames$Reader", "fail", "(I)V"⟩, 18) := ⟨⟨by decide +kernel, by decide +kernel⟩, List.mem_of_getElem? (i := 32) (by decide +kernel), List.mem_of_getElem? (i := 548) (by decide +kernel), List.mem_of_getElem? (i := 549) (by decide +kernel)⟩
theorem lw_p14 : lw_okq (⟨"DrawerNames$Reader", "header", "()V"⟩, 18) := ⟨⟨by decide +kernel, by decide +kernel⟩, List.mem_of_getElem? (i := 32) (by decide +kernel), List.mem_of_getElem? (i := 608) (by decide +kernel), List.mem_of_getElem? (i := 609) (by decide +kernel)⟩
theorem lw_p15 : lw_okq (⟨"DrawerNames$Reader", "expect", "(I)V"⟩, 18) := ⟨⟨by decide +kernel, by decide +kernel⟩, List.mem_of_getElem? (i := 32) (by decide +kernel), List.mem_of_getElem? (i := 612) (by decide +kernel), List.mem_of_getElem? (i := 613) (by decide +kernel)⟩
def lw_privs_1 : List (MethodName × Nat) := [(⟨"DrawerNames$Draft", "asLaw", "()LDrawerNames$Law;"⟩, 4), (⟨"DrawerNames", "sitAt", "(LDrawerNames$Desk;)V"⟩, 18), (⟨"DrawerNames$Rows", "hold", "(I)V"⟩, 8), (⟨"DrawerNames$Rows", "fillRow", "(I)V"⟩, 8), (⟨"DrawerNames$Rows", "unusedName", "(II)I"⟩, 8), (⟨"DrawerNames$Visits", "sitAt", "(LDrawerNames$Desk;)V"⟩, 10), (⟨"DrawerNames", "putOnTape", "(I)V"⟩, 18), (⟨"DrawerNames$Reader", "read", "([BI)V"⟩, 18), (⟨"DrawerNames$Reader", "clear", "()V"⟩, 18), (⟨"DrawerNames$Draft", "clear", "()V"⟩, 4), (⟨"DrawerNames$Reader", "advance", "()V"⟩, 18), (⟨"DrawerNames$Reader", "wordBetween", "(II)I"⟩, 18), (⟨"DrawerNames$Reader", "readNumber", "()V"⟩, 18), (⟨"DrawerNames$Reader", "fail", "(I)V"⟩, 18), (⟨"DrawerNames$Reader", "header", "()V"⟩, 18), (⟨"DrawerNames$Reader", "expect", "(I)V"⟩, 18)]
theorem lw_r1 : ∀ q ∈ lw_privs_1, lw_okq q := List.forall_mem_cons.mpr ⟨lw_p0, List.forall_mem_cons.mpr ⟨lw_p1, List.forall_mem_cons.mpr ⟨lw_p2, List.forall_mem_cons.mpr ⟨lw_p3, List.forall_mem_cons.mpr ⟨lw_p4, List.forall_mem_cons.mpr ⟨lw_p5, List.forall_mem_cons.mpr ⟨lw_p6, List.forall_mem_cons.mpr ⟨lw_p7, List.forall_mem_cons.mpr ⟨lw_p8, List.forall_mem_cons.mpr ⟨lw_p9, List.forall_mem_cons.mpr ⟨lw_p10, List.forall_mem_cons.mpr ⟨lw_p11, List.forall_mem_cons.mpr ⟨lw_p12, List.forall_mem_cons.mpr ⟨lw_p13, List.forall_mem_cons.mpr ⟨lw_p14, List.forall_mem_cons.mpr ⟨lw_p15, fun _ h => absurd h List.not_mem_nil⟩⟩⟩⟩⟩⟩⟩⟩⟩⟩⟩⟩⟩⟩⟩⟩
theorem lw_p16 : lw_okq (⟨"DrawerNames$Reader", "number", "(II)I"⟩, 18) := ⟨⟨by decide +kernel, by decide +kernel⟩, List.mem_of_getElem? (i := 32) (by decide +kernel), List.mem_of_getElem? (i := 616) (by decide +kernel), List.mem_of_getElem? (i := 617) (by decide +kernel)⟩
theorem lw_p17 : lw_okq (⟨"DrawerNames$Reader", "line", "()V"⟩, 18) := ⟨⟨by decide +kernel, by decide +kernel⟩, List.mem_of_getElem? (i := 32) (by decide +kernel), List.mem_of_getElem? (i := 620) (by decide +kernel), List.mem_of_getElem? (i := 621) (by decide +kernel)⟩
theorem lw_p18 : lw_okq (⟨"DrawerNames$Reader", "tell", "([I)V"⟩, 18) := ⟨⟨by decide +kernel, by decide +kernel⟩, List.mem_of_getElem? (i := 32) (by decide +kernel), List.mem_of_getElem? (i := 624) (by decide +kernel), List.mem_of_getElem? (i := 625) (by decide +kernel)⟩
theorem lw_p19 : lw_okq (⟨"DrawerNames$Reader", "begin", "(LDrawerNames$Draft;)V"⟩, 18) := ⟨⟨by decide +kernel, by decide +kernel⟩, List.mem_of_getElem? (i := 32) (by decide +kernel), List.mem_of_getElem? (i := 628) (by decide +kernel), List.mem_of_getElem? (i := 629) (by decide +kernel)⟩
theorem lw_p20 : lw_okq (⟨"DrawerNames$Reader", "sum", "()V"⟩, 18) := ⟨⟨by decide +kernel, by decide +kernel⟩, List.mem_of_getElem? (i := 32) (by decide +kernel), List.mem_of_getElem? (i := 632) (by decide +kernel), List.mem_of_getElem? (i := 633) (by decide +kernel)⟩
theorem lw_p21 : lw_okq (⟨"DrawerNames$Reader", "term", "()V"⟩, 18) := ⟨⟨by decide +kernel, by decide +kernel⟩, List.mem_of_getElem? (i := 32) (by decide +kernel), List.mem_of_getElem? (i := 636) (by decide +kernel), List.mem_of_getElem? (i := 637) (by decide +kernel)⟩
theorem lw_p22 : lw_okq (⟨"DrawerNames$Reader", "atom", "()V"⟩, 18) := ⟨⟨by decide +kernel, by decide +kernel⟩, List.mem_of_getElem? (i := 32) (by decide +kernel), List.mem_of_getElem? (i := 640) (by decide +kernel), List.mem_of_getElem? (i := 641) (by decide +kernel)⟩
theorem lw_p23 : lw_okq (⟨"DrawerNames$Reader", "leaf", "(I)V"⟩, 18) := ⟨⟨by decide +kernel, by decide +kernel⟩, List.mem_of_getElem? (i := 32) (by decide +kernel), List.mem_of_getElem? (i := 644) (by decide +kernel), List.mem_of_getElem? (i := 645) (by decide +kernel)⟩
theorem lw_p24 : lw_okq (⟨"DrawerNames$Draft", "add", "(I)V"⟩, 4) := ⟨⟨by decide +kernel, by decide +kernel⟩, List.mem_of_getElem? (i := 38) (by decide +kernel), List.mem_of_getElem? (i := 648) (by decide +kernel), List.mem_of_getElem? (i := 649) (by decide +kernel)⟩
theorem lw_p25 : lw_okq (⟨"DrawerNames$Reader", "enter", "()V"⟩, 18) := ⟨⟨by decide +kernel, by decide +kernel⟩, List.mem_of_getElem? (i := 32) (by decide +kernel), List.mem_of_getElem? (i := 656) (by decide +kernel), List.mem_of_getElem? (i := 657) (by decide +kernel)⟩
theorem lw_p26 : lw_okq (⟨"DrawerNames$Reader", "choice", "()V"⟩, 18) := ⟨⟨by decide +kernel, by decide +kernel⟩, List.mem_of_getElem? (i := 32) (by decide +kernel), List.mem_of_getElem? (i := 660) (by decide +kernel), List.mem_of_getElem? (i := 661) (by decide +kernel)⟩
theorem lw_p27 : lw_okq (⟨"DrawerNames$Reader", "truth", "()V"⟩, 18) := ⟨⟨by decide +kernel, by decide +kernel⟩, List.mem_of_getElem? (i := 32) (by decide +kernel), List.mem_of_getElem? (i := 664) (by decide +kernel), List.mem_of_getElem? (i := 665) (by decide +kernel)⟩
theorem lw_p28 : lw_okq (⟨"DrawerNames$Reader", "both", "()V"⟩, 18) := ⟨⟨by decide +kernel, by decide +kernel⟩, List.mem_of_getElem? (i := 32) (by decide +kernel), List.mem_of_getElem? (i := 668) (by decide +kernel), List.mem_of_getElem? (i := 669) (by decide +kernel)⟩
theorem lw_p29 : lw_okq (⟨"DrawerNames$Reader", "unit", "()V"⟩, 18) := ⟨⟨by decide +kernel, by decide +kernel⟩, List.mem_of_getElem? (i := 32) (by decide +kernel), List.mem_of_getElem? (i := 672) (by decide +kernel), List.mem_of_getElem? (i := 673) (by decide +kernel)⟩
theorem lw_p30 : lw_okq (⟨"DrawerNames$Reader", "comparison", "()V"⟩, 18) := ⟨⟨by decide +kernel, by decide +kernel⟩, List.mem_of_getElem? (i := 32) (by decide +kernel), List.mem_of_getElem? (i := 676) (by decide +kernel), List.mem_of_getElem? (i := 677) (by decide +kernel)⟩
theorem lw_p31 : lw_okq (⟨"DrawerNames$Reader", "stepOfSign", "()I"⟩, 18) := ⟨⟨by decide +kernel, by decide +kernel⟩, List.mem_of_getElem? (i := 32) (by decide +kernel), List.mem_of_getElem? (i := 680) (by decide +kernel), List.mem_of_getElem? (i := 681) (by decide +kernel)⟩
def lw_privs_2 : List (MethodName × Nat) := [(⟨"DrawerNames$Reader", "number", "(II)I"⟩, 18), (⟨"DrawerNames$Reader", "line", "()V"⟩, 18), (⟨"DrawerNames$Reader", "tell", "([I)V"⟩, 18), (⟨"DrawerNames$Reader", "begin", "(LDrawerNames$Draft;)V"⟩, 18), (⟨"DrawerNames$Reader", "sum", "()V"⟩, 18), (⟨"DrawerNames$Reader", "term", "()V"⟩, 18), (⟨"DrawerNames$Reader", "atom", "()V"⟩, 18), (⟨"DrawerNames$Reader", "leaf", "(I)V"⟩, 18), (⟨"DrawerNames$Draft", "add", "(I)V"⟩, 4), (⟨"DrawerNames$Reader", "enter", "()V"⟩, 18), (⟨"DrawerNames$Reader", "choice", "()V"⟩, 18), (⟨"DrawerNames$Reader", "truth", "()V"⟩, 18), (⟨"DrawerNames$Reader", "both", "()V"⟩, 18), (⟨"DrawerNames$Reader", "unit", "()V"⟩, 18), (⟨"DrawerNames$Reader", "comparison", "()V"⟩, 18), (⟨"DrawerNames$Reader", "stepOfSign", "()I"⟩, 18)]
theorem lw_r2 : ∀ q ∈ lw_privs_2, lw_okq q := List.forall_mem_cons.mpr ⟨lw_p16, List.forall_mem_cons.mpr ⟨lw_p17, List.forall_mem_cons.mpr ⟨lw_p18, List.forall_mem_cons.mpr ⟨lw_p19, List.forall_mem_cons.mpr ⟨lw_p20, List.forall_mem_cons.mpr ⟨lw_p21, List.forall_mem_cons.mpr ⟨lw_p22, List.forall_mem_cons.mpr ⟨lw_p23, List.forall_mem_cons.mpr ⟨lw_p24, List.forall_mem_cons.mpr ⟨lw_p25, List.forall_mem_cons.mpr ⟨lw_p26, List.forall_mem_cons.mpr ⟨lw_p27, List.forall_mem_cons.mpr ⟨lw_p28, List.forall_mem_cons.mpr ⟨lw_p29, List.forall_mem_cons.mpr ⟨lw_p30, List.forall_mem_cons.mpr ⟨lw_p31, fun _ h => absurd h List.not_mem_nil⟩⟩⟩⟩⟩⟩⟩⟩⟩⟩⟩⟩⟩⟩⟩⟩
theorem lw_p32 : lw_okq (⟨"DrawerNames$Reader", "isWhole", "([I)Z"⟩, 18) := ⟨⟨by decide +kernel, by decide +kernel⟩, List.mem_of_getElem? (i := 32) (by decide +kernel), List.mem_of_getElem? (i := 684) (by decide +kernel), List.mem_of_getElem? (i := 685) (by decide +kernel)⟩
theorem lw_p33 : lw_okq (⟨"DrawerNames", "isDrawer", "(I)Z"⟩, 18) := ⟨⟨by decide +kernel, by decide +kernel⟩, List.mem_of_getElem? (i := 24) (by decide +kernel), List.mem_of_getElem? (i := 696) (by decide +kernel), List.mem_of_getElem? (i := 697) (by decide +kernel)⟩
theorem lw_p34 : lw_okq (⟨"DrawerNames$Rows", "nameIn", "(II)I"⟩, 8) := ⟨⟨by decide +kernel, by decide +kernel⟩, List.mem_of_getElem? (i := 148) (by decide +kernel), List.mem_of_getElem? (i := 703) (by decide +kernel), List.mem_of_getElem? (i := 704) (by decide +kernel)⟩
theorem lw_p35 : lw_okq (⟨"DrawerNames$Visits", "go", "(III)V"⟩, 10) := ⟨⟨by decide +kernel, by decide +kernel⟩, List.mem_of_getElem? (i := 188) (by decide +kernel), List.mem_of_getElem? (i := 711) (by decide +kernel), List.mem_of_getElem? (i := 712) (by decide +kernel)⟩
theorem lw_p36 : lw_okq (⟨"DrawerNames$Visits", "prepare", "(I)V"⟩, 10) := ⟨⟨by decide +kernel, by decide +kernel⟩, List.mem_of_getElem? (i := 188) (by decide +kernel), List.mem_of_getElem? (i := 715) (by decide +kernel), List.mem_of_getElem? (i := 716) (by decide +kernel)⟩
theorem lw_p37 : lw_okq (⟨"DrawerNames$Visits", "nextMove", "()I"⟩, 10) := ⟨⟨by decide +kernel, by decide +kernel⟩, List.mem_of_getElem? (i := 188) (by decide +kernel), List.mem_of_getElem? (i := 719) (by decide +kernel), List.mem_of_getElem? (i := 720) (by decide +kernel)⟩
theorem lw_p38 : lw_okq (⟨"DrawerNames$Law", "tell", "([I)I"⟩, 2) := ⟨⟨by decide +kernel, by decide +kernel⟩, List.mem_of_getElem? (i := 312) (by decide +kernel), List.mem_of_getElem? (i := 723) (by decide +kernel), List.mem_of_getElem? (i := 724) (by decide +kernel)⟩
theorem lw_p39 : lw_okq (⟨"DrawerNames$Visits", "openedAt", "(I)I"⟩, 10) := ⟨⟨by decide +kernel, by decide +kernel⟩, List.mem_of_getElem? (i := 188) (by decide +kernel), List.mem_of_getElem? (i := 746) (by decide +kernel), List.mem_of_getElem? (i := 747) (by decide +kernel)⟩
theorem lw_p40 : lw_okq (⟨"DrawerNames$Visits", "maskOf", "(II)I"⟩, 10) := ⟨⟨by decide +kernel, by decide +kernel⟩, List.mem_of_getElem? (i := 188) (by decide +kernel), List.mem_of_getElem? (i := 754) (by decide +kernel), List.mem_of_getElem? (i := 755) (by decide +kernel)⟩
theorem lw_p41 : lw_okq (⟨"DrawerNames", "canSwap", "(II)Z"⟩, 18) := ⟨⟨by decide +kernel, by decide +kernel⟩, List.mem_of_getElem? (i := 24) (by decide +kernel), List.mem_of_getElem? (i := 763) (by decide +kernel), List.mem_of_getElem? (i := 764) (by decide +kernel)⟩
theorem lw_p42 : lw_okq (⟨"DrawerNames", "keepForUndoing", "(LDrawerNames$State;)V"⟩, 18) := ⟨⟨by decide +kernel, by decide +kernel⟩, List.mem_of_getElem? (i := 24) (by decide +kernel), List.mem_of_getElem? (i := 767) (by decide +kernel), List.mem_of_getElem? (i := 768) (by decide +kernel)⟩
theorem lw_p43 : lw_okq (⟨"DrawerNames", "forgetEldest", "()V"⟩, 18) := ⟨⟨by decide +kernel, by decide +kernel⟩, List.mem_of_getElem? (i := 24) (by decide +kernel), List.mem_of_getElem? (i := 771) (by decide +kernel), List.mem_of_getElem? (i := 772) (by decide +kernel)⟩
theorem lw_p44 : lw_okq (⟨"DrawerNames$State", "become", "(LDrawerNames$State;)V"⟩, 3) := ⟨⟨by decide +kernel, by decide +kernel⟩, List.mem_of_getElem? (i := 124) (by decide +kernel), List.mem_of_getElem? (i := 775) (by decide +kernel), List.mem_of_getElem? (i := 776) (by decide +kernel)⟩
theorem lw_p45 : lw_okq (⟨"DrawerNames$Rows", "swappedRow", "(III)I"⟩, 8) := ⟨⟨by decide +kernel, by decide +kernel⟩, List.mem_of_getElem? (i := 148) (by decide +kernel), List.mem_of_getElem? (i := 779) (by decide +kernel), List.mem_of_getElem? (i := 780) (by decide +kernel)⟩
theorem lw_p46 : lw_okq (⟨"DrawerNames", "howManyFree", "()I"⟩, 18) := ⟨⟨by decide +kernel, by decide +kernel⟩, List.mem_of_getElem? (i := 24) (by decide +kernel), List.mem_of_getElem? (i := 785) (by decide +kernel), List.mem_of_getElem? (i := 786) (by decide +kernel)⟩
theorem lw_p47 : lw_okq (⟨"DrawerNames", "rowBehind", "(J)I"⟩, 18) := ⟨⟨by decide +kernel, by decide +kernel⟩, List.mem_of_getElem? (i := 24) (by decide +kernel), List.mem_of_getElem? (i := 799) (by decide +kernel), List.mem_of_getElem? (i := 800) (by decide +kernel)⟩
def lw_privs_3 : List (MethodName × Nat) := [(⟨"DrawerNames$Reader", "isWhole", "([I)Z"⟩, 18), (⟨"DrawerNames", "isDrawer", "(I)Z"⟩, 18), (⟨"DrawerNames$Rows", "nameIn", "(II)I"⟩, 8), (⟨"DrawerNames$Visits", "go", "(III)V"⟩, 10), (⟨"DrawerNames$Visits", "prepare", "(I)V"⟩, 10), (⟨"DrawerNames$Visits", "nextMove", "()I"⟩, 10), (⟨"DrawerNames$Law", "tell", "([I)I"⟩, 2), (⟨"DrawerNames$Visits", "openedAt", "(I)I"⟩, 10), (⟨"DrawerNames$Visits", "maskOf", "(II)I"⟩, 10), (⟨"DrawerNames", "canSwap", "(II)Z"⟩, 18), (⟨"DrawerNames", "keepForUndoing", "(LDrawerNames$State;)V"⟩, 18), (⟨"DrawerNames", "forgetEldest", "()V"⟩, 18), (⟨"DrawerNames$State", "become", "(LDrawerNames$State;)V"⟩, 3), (⟨"DrawerNames$Rows", "swappedRow", "(III)I"⟩, 8), (⟨"DrawerNames", "howManyFree", "()I"⟩, 18), (⟨"DrawerNames", "rowBehind", "(J)I"⟩, 18)]
theorem lw_r3 : ∀ q ∈ lw_privs_3, lw_okq q := List.forall_mem_cons.mpr ⟨lw_p32, List.forall_mem_cons.mpr ⟨lw_p33, List.forall_mem_cons.mpr ⟨lw_p34, List.forall_mem_cons.mpr ⟨lw_p35, List.forall_mem_cons.mpr ⟨lw_p36, List.forall_mem_cons.mpr ⟨lw_p37, List.forall_mem_cons.mpr ⟨lw_p38, List.forall_mem_cons.mpr ⟨lw_p39, List.forall_mem_cons.mpr ⟨lw_p40, List.forall_mem_cons.mpr ⟨lw_p41, List.forall_mem_cons.mpr ⟨lw_p42, List.forall_mem_cons.mpr ⟨lw_p43, List.forall_mem_cons.mpr ⟨lw_p44, List.forall_mem_cons.mpr ⟨lw_p45, List.forall_mem_cons.mpr ⟨lw_p46, List.forall_mem_cons.mpr ⟨lw_p47, fun _ h => absurd h List.not_mem_nil⟩⟩⟩⟩⟩⟩⟩⟩⟩⟩⟩⟩⟩⟩⟩⟩
theorem lw_p48 : lw_okq (⟨"DrawerNames$Rows", "powerOf", "(IJ)I"⟩, 8) := ⟨⟨by decide +kernel, by decide +kernel⟩, List.mem_of_getElem? (i := 148) (by decide +kernel), List.mem_of_getElem? (i := 803) (by decide +kernel), List.mem_of_getElem? (i := 804) (by decide +kernel)⟩
theorem lw_p49 : lw_okq (⟨"DrawerNames$Rows", "roundBits", "(II)I"⟩, 8) := ⟨⟨by decide +kernel, by decide +kernel⟩, List.mem_of_getElem? (i := 148) (by decide +kernel), List.mem_of_getElem? (i := 807) (by decide +kernel), List.mem_of_getElem? (i := 808) (by decide +kernel)⟩
theorem lw_p50 : lw_okq (⟨"DrawerNames$Rows", "nameBehind", "(III)I"⟩, 8) := ⟨⟨by decide +kernel, by decide +kernel⟩, List.mem_of_getElem? (i := 148) (by decide +kernel), List.mem_of_getElem? (i := 813) (by decide +kernel), List.mem_of_getElem? (i := 814) (by decide +kernel)⟩
theorem lw_p51 : lw_okq (⟨"DrawerNames$Rows", "movedRow", "(II)I"⟩, 8) := ⟨⟨by decide +kernel, by decide +kernel⟩, List.mem_of_getElem? (i := 148) (by decide +kernel), List.mem_of_getElem? (i := 817) (by decide +kernel), List.mem_of_getElem? (i := 818) (by decide +kernel)⟩
theorem lw_p52 : lw_okq (⟨"DrawerNames$Tray", "isMissing", "()Z"⟩, 3) := ⟨⟨by decide +kernel, by decide +kernel⟩, List.mem_of_getElem? (i := 266) (by decide +kernel), List.mem_of_getElem? (i := 833) (by decide +kernel), List.mem_of_getElem? (i := 834) (by decide +kernel)⟩
theorem lw_p53 : lw_okq (⟨"DrawerNames", "doDeeds", "(LDrawerNames$State;LDrawerNames$Tray;)I"⟩, 18) := ⟨⟨by decide +kernel, by decide +kernel⟩, List.mem_of_getElem? (i := 24) (by decide +kernel), List.mem_of_getElem? (i := 837) (by decide +kernel), List.mem_of_getElem? (i := 838) (by decide +kernel)⟩
theorem lw_p54 : lw_okq (⟨"DrawerNames$Tray", "valueAt", "(I)J"⟩, 3) := ⟨⟨by decide +kernel, by decide +kernel⟩, List.mem_of_getElem? (i := 266) (by decide +kernel), List.mem_of_getElem? (i := 841) (by decide +kernel), List.mem_of_getElem? (i := 842) (by decide +kernel)⟩
theorem lw_p55 : lw_okq (⟨"DrawerNames", "doDeed", "(LDrawerNames$State;J)Z"⟩, 18) := ⟨⟨by decide +kernel, by decide +kernel⟩, List.mem_of_getElem? (i := 24) (by decide +kernel), List.mem_of_getElem? (i := 845) (by decide +kernel), List.mem_of_getElem? (i := 846) (by decide +kernel)⟩
theorem lw_p56 : lw_okq (⟨"DrawerNames", "doSwap", "(LDrawerNames$State;II)Z"⟩, 18) := ⟨⟨by decide +kernel, by decide +kernel⟩, List.mem_of_getElem? (i := 24) (by decide +kernel), List.mem_of_getElem? (i := 853) (by decide +kernel), List.mem_of_getElem? (i := 854) (by decide +kernel)⟩
theorem lw_p57 : lw_okq (⟨"DrawerNames", "drawDeed", "()I"⟩, 18) := ⟨⟨by decide +kernel, by decide +kernel⟩, List.mem_of_getElem? (i := 24) (by decide +kernel), List.mem_of_getElem? (i := 865) (by decide +kernel), List.mem_of_getElem? (i := 866) (by decide +kernel)⟩
theorem lw_p58 : lw_okq (⟨"DrawerNames", "draw", "()I"⟩, 18) := ⟨⟨by decide +kernel, by decide +kernel⟩, List.mem_of_getElem? (i := 24) (by decide +kernel), List.mem_of_getElem? (i := 869) (by decide +kernel), List.mem_of_getElem? (i := 870) (by decide +kernel)⟩
theorem lw_p59 : lw_okq (⟨"DrawerNames$Rows", "roundsOf", "(I)I"⟩, 8) := ⟨⟨by decide +kernel, by decide +kernel⟩, List.mem_of_getElem? (i := 148) (by decide +kernel), List.mem_of_getElem? (i := 878) (by decide +kernel), List.mem_of_getElem? (i := 879) (by decide +kernel)⟩
theorem lw_p60 : lw_okq (⟨"DrawerNames$Rows", "longestOf", "(I)I"⟩, 8) := ⟨⟨by decide +kernel, by decide +kernel⟩, List.mem_of_getElem? (i := 148) (by decide +kernel), List.mem_of_getElem? (i := 886) (by decide +kernel), List.mem_of_getElem? (i := 887) (by decide +kernel)⟩
theorem lw_p61 : lw_okq (⟨"DrawerNames$Rows", "fixedOf", "(I)I"⟩, 8) := ⟨⟨by decide +kernel, by decide +kernel⟩, List.mem_of_getElem? (i := 148) (by decide +kernel), List.mem_of_getElem? (i := 890) (by decide +kernel), List.mem_of_getElem? (i := 891) (by decide +kernel)⟩
theorem lw_p62 : lw_okq (⟨"DrawerNames$Rows", "orderOf", "(I)I"⟩, 8) := ⟨⟨by decide +kernel, by decide +kernel⟩, List.mem_of_getElem? (i := 148) (by decide +kernel), List.mem_of_getElem? (i := 894) (by decide +kernel), List.mem_of_getElem? (i := 895) (by decide +kernel)⟩
theorem lw_p63 : lw_okq (⟨"DrawerNames$Rows", "inversionsOf", "(I)I"⟩, 8) := ⟨⟨by decide +kernel, by decide +kernel⟩, List.mem_of_getElem? (i := 148) (by decide +kernel), List.mem_of_getElem? (i := 899) (by decide +kernel), List.mem_of_getElem? (i := 900) (by decide +kernel)⟩
def lw_privs_4 : List (MethodName × Nat) := [(⟨"DrawerNames$Rows", "powerOf", "(IJ)I"⟩, 8), (⟨"DrawerNames$Rows", "roundBits", "(II)I"⟩, 8), (⟨"DrawerNames$Rows", "nameBehind", "(III)I"⟩, 8), (⟨"DrawerNames$Rows", "movedRow", "(II)I"⟩, 8), (⟨"DrawerNames$Tray", "isMissing", "()Z"⟩, 3), (⟨"DrawerNames", "doDeeds", "(LDrawerNames$State;LDrawerNames$Tray;)I"⟩, 18), (⟨"DrawerNames$Tray", "valueAt", "(I)J"⟩, 3), (⟨"DrawerNames", "doDeed", "(LDrawerNames$State;J)Z"⟩, 18), (⟨"DrawerNames", "doSwap", "(LDrawerNames$State;II)Z"⟩, 18), (⟨"DrawerNames", "drawDeed", "()I"⟩, 18), (⟨"DrawerNames", "draw", "()I"⟩, 18), (⟨"DrawerNames$Rows", "roundsOf", "(I)I"⟩, 8), (⟨"DrawerNames$Rows", "longestOf", "(I)I"⟩, 8), (⟨"DrawerNames$Rows", "fixedOf", "(I)I"⟩, 8), (⟨"DrawerNames$Rows", "orderOf", "(I)I"⟩, 8), (⟨"DrawerNames$Rows", "inversionsOf", "(I)I"⟩, 8)]
theorem lw_r4 : ∀ q ∈ lw_privs_4, lw_okq q := List.forall_mem_cons.mpr ⟨lw_p48, List.forall_mem_cons.mpr ⟨lw_p49, List.forall_mem_cons.mpr ⟨lw_p50, List.forall_mem_cons.mpr ⟨lw_p51, List.forall_mem_cons.mpr ⟨lw_p52, List.forall_mem_cons.mpr ⟨lw_p53, List.forall_mem_cons.mpr ⟨lw_p54, List.forall_mem_cons.mpr ⟨lw_p55, List.forall_mem_cons.mpr ⟨lw_p56, List.forall_mem_cons.mpr ⟨lw_p57, List.forall_mem_cons.mpr ⟨lw_p58, List.forall_mem_cons.mpr ⟨lw_p59, List.forall_mem_cons.mpr ⟨lw_p60, List.forall_mem_cons.mpr ⟨lw_p61, List.forall_mem_cons.mpr ⟨lw_p62, List.forall_mem_cons.mpr ⟨lw_p63, fun _ h => absurd h List.not_mem_nil⟩⟩⟩⟩⟩⟩⟩⟩⟩⟩⟩⟩⟩⟩⟩⟩
theorem lw_p64 : lw_okq (⟨"DrawerNames$Rows", "isRoot", "(III)Z"⟩, 8) := ⟨⟨by decide +kernel, by decide +kernel⟩, List.mem_of_getElem? (i := 148) (by decide +kernel), List.mem_of_getElem? (i := 917) (by decide +kernel), List.mem_of_getElem? (i := 918) (by decide +kernel)⟩
theorem lw_p65 : lw_okq (⟨"DrawerNames", "boundedBy", "(II)J"⟩, 18) := ⟨⟨by decide +kernel, by decide +kernel⟩, List.mem_of_getElem? (i := 24) (by decide +kernel), List.mem_of_getElem? (i := 926) (by decide +kernel), List.mem_of_getElem? (i := 927) (by decide +kernel)⟩
theorem lw_p66 : lw_okq (⟨"DrawerNames$Ways", "measure", "(II)V"⟩, 5) := ⟨⟨by decide +kernel, by decide +kernel⟩, List.mem_of_getElem? (i := 228) (by decide +kernel), List.mem_of_getElem? (i := 937) (by decide +kernel), List.mem_of_getElem? (i := 938) (by decide +kernel)⟩
theorem lw_p67 : lw_okq (⟨"DrawerNames$Rows", "prepareSwaps", "()V"⟩, 8) := ⟨⟨by decide +kernel, by decide +kernel⟩, List.mem_of_getElem? (i := 148) (by decide +kernel), List.mem_of_getElem? (i := 941) (by decide +kernel), List.mem_of_getElem? (i := 942) (by decide +kernel)⟩
theorem lw_p68 : lw_okq (⟨"DrawerNames$Rows", "fillSwapped", "(III)V"⟩, 8) := ⟨⟨by decide +kernel, by decide +kernel⟩, List.mem_of_getElem? (i := 148) (by decide +kernel), List.mem_of_getElem? (i := 945) (by decide +kernel), List.mem_of_getElem? (i := 946) (by decide +kernel)⟩
theorem lw_p69 : lw_okq (⟨"DrawerNames$Visits", "goalOf", "(I)I"⟩, 10) := ⟨⟨by decide +kernel, by decide +kernel⟩, List.mem_of_getElem? (i := 188) (by decide +kernel), List.mem_of_getElem? (i := 950) (by decide +kernel), List.mem_of_getElem? (i := 951) (by decide +kernel)⟩
theorem lw_p70 : lw_okq (⟨"DrawerNames$Ways", "reach", "(II)V"⟩, 5) := ⟨⟨by decide +kernel, by decide +kernel⟩, List.mem_of_getElem? (i := 228) (by decide +kernel), List.mem_of_getElem? (i := 955) (by decide +kernel), List.mem_of_getElem? (i := 956) (by decide +kernel)⟩
theorem lw_p71 : lw_okq (⟨"DrawerNames$Ways", "reachNeighbours", "(I)V"⟩, 5) := ⟨⟨by decide +kernel, by decide +kernel⟩, List.mem_of_getElem? (i := 228) (by decide +kernel), List.mem_of_getElem? (i := 959) (by decide +kernel), List.mem_of_getElem? (i := 960) (by decide +kernel)⟩
theorem lw_p72 : lw_okq (⟨"DrawerNames$Ways", "stepsFrom", "(I)I"⟩, 5) := ⟨⟨by decide +kernel, by decide +kernel⟩, List.mem_of_getElem? (i := 228) (by decide +kernel), List.mem_of_getElem? (i := 963) (by decide +kernel), List.mem_of_getElem? (i := 964) (by decide +kernel)⟩
theorem lw_p73 : lw_okq (⟨"DrawerNames$Rows", "bySwap", "(II)I"⟩, 8) := ⟨⟨by decide +kernel, by decide +kernel⟩, List.mem_of_getElem? (i := 148) (by decide +kernel), List.mem_of_getElem? (i := 967) (by decide +kernel), List.mem_of_getElem? (i := 968) (by decide +kernel)⟩
theorem lw_p74 : lw_okq (⟨"DrawerNames$Ways", "pairFrom", "(I)I"⟩, 5) := ⟨⟨by decide +kernel, by decide +kernel⟩, List.mem_of_getElem? (i := 228) (by decide +kernel), List.mem_of_getElem? (i := 976) (by decide +kernel), List.mem_of_getElem? (i := 977) (by decide +kernel)⟩
theorem lw_p75 : lw_okq (⟨"DrawerNames$Rows", "codeOf", "(I)I"⟩, 8) := ⟨⟨by decide +kernel, by decide +kernel⟩, List.mem_of_getElem? (i := 148) (by decide +kernel), List.mem_of_getElem? (i := 981) (by decide +kernel), List.mem_of_getElem? (i := 982) (by decide +kernel)⟩
theorem lw_p76 : lw_okq (⟨"DrawerNames$Spread", "begin", "(I)V"⟩, 3) := ⟨⟨by decide +kernel, by decide +kernel⟩, List.mem_of_getElem? (i := 250) (by decide +kernel), List.mem_of_getElem? (i := 990) (by decide +kernel), List.mem_of_getElem? (i := 991) (by decide +kernel)⟩
theorem lw_p77 : lw_okq (⟨"DrawerNames$Spread", "bySwaps", "()V"⟩, 3) := ⟨⟨by decide +kernel, by decide +kernel⟩, List.mem_of_getElem? (i := 250) (by decide +kernel), List.mem_of_getElem? (i := 998) (by decide +kernel), List.mem_of_getElem? (i := 999) (by decide +kernel)⟩
theorem lw_p78 : lw_okq (⟨"DrawerNames$Spread", "weightAt", "(I)J"⟩, 3) := ⟨⟨by decide +kernel, by decide +kernel⟩, List.mem_of_getElem? (i := 250) (by decide +kernel), List.mem_of_getElem? (i := 1002) (by decide +kernel), List.mem_of_getElem? (i := 1003) (by decide +kernel)⟩
theorem lw_p79 : lw_okq (⟨"DrawerNames$Spread", "addLater", "(IJ)V"⟩, 3) := ⟨⟨by decide +kernel, by decide +kernel⟩, List.mem_of_getElem? (i := 250) (by decide +kernel), List.mem_of_getElem? (i := 1007) (by decide +kernel), List.mem_of_getElem? (i := 1008) (by decide +kernel)⟩
def lw_privs_5 : List (MethodName × Nat) := [(⟨"DrawerNames$Rows", "isRoot", "(III)Z"⟩, 8), (⟨"DrawerNames", "boundedBy", "(II)J"⟩, 18), (⟨"DrawerNames$Ways", "measure", "(II)V"⟩, 5), (⟨"DrawerNames$Rows", "prepareSwaps", "()V"⟩, 8), (⟨"DrawerNames$Rows", "fillSwapped", "(III)V"⟩, 8), (⟨"DrawerNames$Visits", "goalOf", "(I)I"⟩, 10), (⟨"DrawerNames$Ways", "reach", "(II)V"⟩, 5), (⟨"DrawerNames$Ways", "reachNeighbours", "(I)V"⟩, 5), (⟨"DrawerNames$Ways", "stepsFrom", "(I)I"⟩, 5), (⟨"DrawerNames$Rows", "bySwap", "(II)I"⟩, 8), (⟨"DrawerNames$Ways", "pairFrom", "(I)I"⟩, 5), (⟨"DrawerNames$Rows", "codeOf", "(I)I"⟩, 8), (⟨"DrawerNames$Spread", "begin", "(I)V"⟩, 3), (⟨"DrawerNames$Spread", "bySwaps", "()V"⟩, 3), (⟨"DrawerNames$Spread", "weightAt", "(I)J"⟩, 3), (⟨"DrawerNames$Spread", "addLater", "(IJ)V"⟩, 3)]
theorem lw_r5 : ∀ q ∈ lw_privs_5, lw_okq q := List.forall_mem_cons.mpr ⟨lw_p64, List.forall_mem_cons.mpr ⟨lw_p65, List.forall_mem_cons.mpr ⟨lw_p66, List.forall_mem_cons.mpr ⟨lw_p67, List.forall_mem_cons.mpr ⟨lw_p68, List.forall_mem_cons.mpr ⟨lw_p69, List.forall_mem_cons.mpr ⟨lw_p70, List.forall_mem_cons.mpr ⟨lw_p71, List.forall_mem_cons.mpr ⟨lw_p72, List.forall_mem_cons.mpr ⟨lw_p73, List.forall_mem_cons.mpr ⟨lw_p74, List.forall_mem_cons.mpr ⟨lw_p75, List.forall_mem_cons.mpr ⟨lw_p76, List.forall_mem_cons.mpr ⟨lw_p77, List.forall_mem_cons.mpr ⟨lw_p78, List.forall_mem_cons.mpr ⟨lw_p79, fun _ h => absurd h List.not_mem_nil⟩⟩⟩⟩⟩⟩⟩⟩⟩⟩⟩⟩⟩⟩⟩⟩
theorem lw_p80 : lw_okq (⟨"DrawerNames$Spread", "goOn", "()V"⟩, 3) := ⟨⟨by decide +kernel, by decide +kernel⟩, List.mem_of_getElem? (i := 250) (by decide +kernel), List.mem_of_getElem? (i := 1011) (by decide +kernel), List.mem_of_getElem? (i := 1012) (by decide +kernel)⟩
theorem lw_p81 : lw_okq (⟨"DrawerNames", "weightOf", "(I)J"⟩, 18) := ⟨⟨by decide +kernel, by decide +kernel⟩, List.mem_of_getElem? (i := 24) (by decide +kernel), List.mem_of_getElem? (i := 1015) (by decide +kernel), List.mem_of_getElem? (i := 1016) (by decide +kernel)⟩
theorem lw_p82 : lw_okq (⟨"DrawerNames", "rowsWithJust", "(I)I"⟩, 18) := ⟨⟨by decide +kernel, by decide +kernel⟩, List.mem_of_getElem? (i := 24) (by decide +kernel), List.mem_of_getElem? (i := 1025) (by decide +kernel), List.mem_of_getElem? (i := 1026) (by decide +kernel)⟩
theorem lw_p83 : lw_okq (⟨"DrawerNames", "hitsWithin", "(II)I"⟩, 18) := ⟨⟨by decide +kernel, by decide +kernel⟩, List.mem_of_getElem? (i := 24) (by decide +kernel), List.mem_of_getElem? (i := 1054) (by decide +kernel), List.mem_of_getElem? (i := 1055) (by decide +kernel)⟩
theorem lw_p84 : lw_okq (⟨"DrawerNames", "refusalOfFound", "(III)I"⟩, 18) := ⟨⟨by decide +kernel, by decide +kernel⟩, List.mem_of_getElem? (i := 24) (by decide +kernel), List.mem_of_getElem? (i := 1062) (by decide +kernel), List.mem_of_getElem? (i := 1063) (by decide +kernel)⟩
theorem lw_p85 : lw_okq (⟨"DrawerNames", "gatherFound", "(LDrawerNames$Tray;I)I"⟩, 18) := ⟨⟨by decide +kernel, by decide +kernel⟩, List.mem_of_getElem? (i := 24) (by decide +kernel), List.mem_of_getElem? (i := 1069) (by decide +kernel), List.mem_of_getElem? (i := 1070) (by decide +kernel)⟩
theorem lw_p86 : lw_okq (⟨"DrawerNames", "fits", "(LDrawerNames$Tray;II)Z"⟩, 18) := ⟨⟨by decide +kernel, by decide +kernel⟩, List.mem_of_getElem? (i := 24) (by decide +kernel), List.mem_of_getElem? (i := 1076) (by decide +kernel), List.mem_of_getElem? (i := 1077) (by decide +kernel)⟩
theorem lw_p87 : lw_okq (⟨"DrawerNames", "countLying", "(I)V"⟩, 18) := ⟨⟨by decide +kernel, by decide +kernel⟩, List.mem_of_getElem? (i := 24) (by decide +kernel), List.mem_of_getElem? (i := 1081) (by decide +kernel), List.mem_of_getElem? (i := 1082) (by decide +kernel)⟩
theorem lw_p88 : lw_okq (⟨"DrawerNames", "mostLying", "(I)I"⟩, 18) := ⟨⟨by decide +kernel, by decide +kernel⟩, List.mem_of_getElem? (i := 24) (by decide +kernel), List.mem_of_getElem? (i := 1093) (by decide +kernel), List.mem_of_getElem? (i := 1094) (by decide +kernel)⟩
theorem lw_p89 : lw_okq (⟨"DrawerNames", "wereLetOff", "(LDrawerNames$Tray;I)Z"⟩, 18) := ⟨⟨by decide +kernel, by decide +kernel⟩, List.mem_of_getElem? (i := 24) (by decide +kernel), List.mem_of_getElem? (i := 1101) (by decide +kernel), List.mem_of_getElem? (i := 1102) (by decide +kernel)⟩
theorem lw_p90 : lw_okq (⟨"DrawerNames", "pairTo", "(I)I"⟩, 18) := ⟨⟨by decide +kernel, by decide +kernel⟩, List.mem_of_getElem? (i := 24) (by decide +kernel), List.mem_of_getElem? (i := 1109) (by decide +kernel), List.mem_of_getElem? (i := 1110) (by decide +kernel)⟩
theorem lw_p91 : lw_okq (⟨"DrawerNames", "drawLots", "(I)J"⟩, 18) := ⟨⟨by decide +kernel, by decide +kernel⟩, List.mem_of_getElem? (i := 24) (by decide +kernel), List.mem_of_getElem? (i := 1122) (by decide +kernel), List.mem_of_getElem? (i := 1123) (by decide +kernel)⟩
theorem lw_p92 : lw_okq (⟨"DrawerNames$Spread", "byLots", "()V"⟩, 3) := ⟨⟨by decide +kernel, by decide +kernel⟩, List.mem_of_getElem? (i := 250) (by decide +kernel), List.mem_of_getElem? (i := 1126) (by decide +kernel), List.mem_of_getElem? (i := 1127) (by decide +kernel)⟩
theorem lw_p93 : lw_okq (⟨"DrawerNames$Spread", "addLots", "(I)V"⟩, 3) := ⟨⟨by decide +kernel, by decide +kernel⟩, List.mem_of_getElem? (i := 250) (by decide +kernel), List.mem_of_getElem? (i := 1130) (by decide +kernel), List.mem_of_getElem? (i := 1131) (by decide +kernel)⟩
theorem lw_p94 : lw_okq (⟨"DrawerNames$Tray", "empty", "(II)V"⟩, 3) := ⟨⟨by decide +kernel, by decide +kernel⟩, List.mem_of_getElem? (i := 266) (by decide +kernel), List.mem_of_getElem? (i := 1155) (by decide +kernel), List.mem_of_getElem? (i := 1156) (by decide +kernel)⟩
theorem lw_p95 : lw_okq (⟨"DrawerNames$Tray", "put", "(IJ)J"⟩, 3) := ⟨⟨by decide +kernel, by decide +kernel⟩, List.mem_of_getElem? (i := 266) (by decide +kernel), List.mem_of_getElem? (i := 1166) (by decide +kernel), List.mem_of_getElem? (i := 1167) (by decide +kernel)⟩
def lw_privs_6 : List (MethodName × Nat) := [(⟨"DrawerNames$Spread", "goOn", "()V"⟩, 3), (⟨"DrawerNames", "weightOf", "(I)J"⟩, 18), (⟨"DrawerNames", "rowsWithJust", "(I)I"⟩, 18), (⟨"DrawerNames", "hitsWithin", "(II)I"⟩, 18), (⟨"DrawerNames", "refusalOfFound", "(III)I"⟩, 18), (⟨"DrawerNames", "gatherFound", "(LDrawerNames$Tray;I)I"⟩, 18), (⟨"DrawerNames", "fits", "(LDrawerNames$Tray;II)Z"⟩, 18), (⟨"DrawerNames", "countLying", "(I)V"⟩, 18), (⟨"DrawerNames", "mostLying", "(I)I"⟩, 18), (⟨"DrawerNames", "wereLetOff", "(LDrawerNames$Tray;I)Z"⟩, 18), (⟨"DrawerNames", "pairTo", "(I)I"⟩, 18), (⟨"DrawerNames", "drawLots", "(I)J"⟩, 18), (⟨"DrawerNames$Spread", "byLots", "()V"⟩, 3), (⟨"DrawerNames$Spread", "addLots", "(I)V"⟩, 3), (⟨"DrawerNames$Tray", "empty", "(II)V"⟩, 3), (⟨"DrawerNames$Tray", "put", "(IJ)J"⟩, 3)]
theorem lw_r6 : ∀ q ∈ lw_privs_6, lw_okq q := List.forall_mem_cons.mpr ⟨lw_p80, List.forall_mem_cons.mpr ⟨lw_p81, List.forall_mem_cons.mpr ⟨lw_p82, List.forall_mem_cons.mpr ⟨lw_p83, List.forall_mem_cons.mpr ⟨lw_p84, List.forall_mem_cons.mpr ⟨lw_p85, List.forall_mem_cons.mpr ⟨lw_p86, List.forall_mem_cons.mpr ⟨lw_p87, List.forall_mem_cons.mpr ⟨lw_p88, List.forall_mem_cons.mpr ⟨lw_p89, List.forall_mem_cons.mpr ⟨lw_p90, List.forall_mem_cons.mpr ⟨lw_p91, List.forall_mem_cons.mpr ⟨lw_p92, List.forall_mem_cons.mpr ⟨lw_p93, List.forall_mem_cons.mpr ⟨lw_p94, List.forall_mem_cons.mpr ⟨lw_p95, fun _ h => absurd h List.not_mem_nil⟩⟩⟩⟩⟩⟩⟩⟩⟩⟩⟩⟩⟩⟩⟩⟩
theorem lw_p96 : lw_okq (⟨"DrawerNames$Tray", "cutToSort", "(J)J"⟩, 3) := ⟨⟨by decide +kernel, by decide +kernel⟩, List.mem_of_getElem? (i := 266) (by decide +kernel), List.mem_of_getElem? (i := 1170) (by decide +kernel), List.mem_of_getElem? (i := 1171) (by decide +kernel)⟩
theorem lw_p97 : lw_okq (⟨"DrawerNamesModel", "laysAll", "()V"⟩, 41) := ⟨⟨by decide +kernel, by decide +kernel⟩, List.mem_of_getElem? (i := 1191) (by decide +kernel), List.mem_of_getElem? (i := 1200) (by decide +kernel), List.mem_of_getElem? (i := 1201) (by decide +kernel)⟩
theorem lw_p98 : lw_okq (⟨"DrawerNamesModel", "goesAll", "(II)V"⟩, 41) := ⟨⟨by decide +kernel, by decide +kernel⟩, List.mem_of_getElem? (i := 1191) (by decide +kernel), List.mem_of_getElem? (i := 1204) (by decide +kernel), List.mem_of_getElem? (i := 1205) (by decide +kernel)⟩
theorem lw_p99 : lw_okq (⟨"DrawerNamesModel", "next", "()V"⟩, 41) := ⟨⟨by decide +kernel, by decide +kernel⟩, List.mem_of_getElem? (i := 1191) (by decide +kernel), List.mem_of_getElem? (i := 1346) (by decide +kernel), List.mem_of_getElem? (i := 1347) (by decide +kernel)⟩
theorem lw_p100 : lw_okq (⟨"DrawerNamesModel", "see", "(I)I"⟩, 41) := ⟨⟨by decide +kernel, by decide +kernel⟩, List.mem_of_getElem? (i := 1191) (by decide +kernel), List.mem_of_getElem? (i := 1350) (by decide +kernel), List.mem_of_getElem? (i := 1351) (by decide +kernel)⟩
theorem lw_p101 : lw_okq (⟨"DrawerNamesModel", "keyAt", "()I"⟩, 41) := ⟨⟨by decide +kernel, by decide +kernel⟩, List.mem_of_getElem? (i := 1191) (by decide +kernel), List.mem_of_getElem? (i := 1357) (by decide +kernel), List.mem_of_getElem? (i := 1358) (by decide +kernel)⟩
theorem lw_p102 : lw_okq (⟨"DrawerNamesModel", "eats", "(I)Z"⟩, 41) := ⟨⟨by decide +kernel, by decide +kernel⟩, List.mem_of_getElem? (i := 1191) (by decide +kernel), List.mem_of_getElem? (i := 1368) (by decide +kernel), List.mem_of_getElem? (i := 1369) (by decide +kernel)⟩
theorem lw_p103 : lw_okq (⟨"DrawerNamesModel", "is", "(I)Z"⟩, 41) := ⟨⟨by decide +kernel, by decide +kernel⟩, List.mem_of_getElem? (i := 1191) (by decide +kernel), List.mem_of_getElem? (i := 1372) (by decide +kernel), List.mem_of_getElem? (i := 1373) (by decide +kernel)⟩
theorem lw_p104 : lw_okq (⟨"DrawerNamesModel", "fails", "(I)V"⟩, 41) := ⟨⟨by decide +kernel, by decide +kernel⟩, List.mem_of_getElem? (i := 1191) (by decide +kernel), List.mem_of_getElem? (i := 1376) (by decide +kernel), List.mem_of_getElem? (i := 1377) (by decide +kernel)⟩
theorem lw_p105 : lw_okq (⟨"DrawerNamesModel", "named", "(III)I"⟩, 41) := ⟨⟨by decide +kernel, by decide +kernel⟩, List.mem_of_getElem? (i := 1191) (by decide +kernel), List.mem_of_getElem? (i := 1380) (by decide +kernel), List.mem_of_getElem? (i := 1381) (by decide +kernel)⟩
theorem lw_p106 : lw_okq (⟨"DrawerNamesModel", "takes", "(II)I"⟩, 41) := ⟨⟨by decide +kernel, by decide +kernel⟩, List.mem_of_getElem? (i := 1191) (by decide +kernel), List.mem_of_getElem? (i := 1384) (by decide +kernel), List.mem_of_getElem? (i := 1385) (by decide +kernel)⟩
theorem lw_p107 : lw_okq (⟨"DrawerNamesModel", "closes", "()V"⟩, 41) := ⟨⟨by decide +kernel, by decide +kernel⟩, List.mem_of_getElem? (i := 1191) (by decide +kernel), List.mem_of_getElem? (i := 1388) (by decide +kernel), List.mem_of_getElem? (i := 1389) (by decide +kernel)⟩
theorem lw_p108 : lw_okq (⟨"DrawerNamesModel", "readLine", "()V"⟩, 41) := ⟨⟨by decide +kernel, by decide +kernel⟩, List.mem_of_getElem? (i := 1191) (by decide +kernel), List.mem_of_getElem? (i := 1392) (by decide +kernel), List.mem_of_getElem? (i := 1393) (by decide +kernel)⟩
theorem lw_p109 : lw_okq (⟨"DrawerNamesModel", "readDrawer", "(I)V"⟩, 41) := ⟨⟨by decide +kernel, by decide +kernel⟩, List.mem_of_getElem? (i := 1191) (by decide +kernel), List.mem_of_getElem? (i := 1396) (by decide +kernel), List.mem_of_getElem? (i := 1397) (by decide +kernel)⟩
theorem lw_p110 : lw_okq (⟨"DrawerNamesModel", "readLaw", "(I)V"⟩, 41) := ⟨⟨by decide +kernel, by decide +kernel⟩, List.mem_of_getElem? (i := 1191) (by decide +kernel), List.mem_of_getElem? (i := 1400) (by decide +kernel), List.mem_of_getElem? (i := 1401) (by decide +kernel)⟩
theorem lw_p111 : lw_okq (⟨"DrawerNamesModel", "readSum", "(I)V"⟩, 41) := ⟨⟨by decide +kernel, by decide +kernel⟩, List.mem_of_getElem? (i := 1191) (by decide +kernel), List.mem_of_getElem? (i := 1404) (by decide +kernel), List.mem_of_getElem? (i := 1405) (by decide +kernel)⟩
def lw_privs_7 : List (MethodName × Nat) := [(⟨"DrawerNames$Tray", "cutToSort", "(J)J"⟩, 3), (⟨"DrawerNamesModel", "laysAll", "()V"⟩, 41), (⟨"DrawerNamesModel", "goesAll", "(II)V"⟩, 41), (⟨"DrawerNamesModel", "next", "()V"⟩, 41), (⟨"DrawerNamesModel", "see", "(I)I"⟩, 41), (⟨"DrawerNamesModel", "keyAt", "()I"⟩, 41), (⟨"DrawerNamesModel", "eats", "(I)Z"⟩, 41), (⟨"DrawerNamesModel", "is", "(I)Z"⟩, 41), (⟨"DrawerNamesModel", "fails", "(I)V"⟩, 41), (⟨"DrawerNamesModel", "named", "(III)I"⟩, 41), (⟨"DrawerNamesModel", "takes", "(II)I"⟩, 41), (⟨"DrawerNamesModel", "closes", "()V"⟩, 41), (⟨"DrawerNamesModel", "readLine", "()V"⟩, 41), (⟨"DrawerNamesModel", "readDrawer", "(I)V"⟩, 41), (⟨"DrawerNamesModel", "readLaw", "(I)V"⟩, 41), (⟨"DrawerNamesModel", "readSum", "(I)V"⟩, 41)]
theorem lw_r7 : ∀ q ∈ lw_privs_7, lw_okq q := List.forall_mem_cons.mpr ⟨lw_p96, List.forall_mem_cons.mpr ⟨lw_p97, List.forall_mem_cons.mpr ⟨lw_p98, List.forall_mem_cons.mpr ⟨lw_p99, List.forall_mem_cons.mpr ⟨lw_p100, List.forall_mem_cons.mpr ⟨lw_p101, List.forall_mem_cons.mpr ⟨lw_p102, List.forall_mem_cons.mpr ⟨lw_p103, List.forall_mem_cons.mpr ⟨lw_p104, List.forall_mem_cons.mpr ⟨lw_p105, List.forall_mem_cons.mpr ⟨lw_p106, List.forall_mem_cons.mpr ⟨lw_p107, List.forall_mem_cons.mpr ⟨lw_p108, List.forall_mem_cons.mpr ⟨lw_p109, List.forall_mem_cons.mpr ⟨lw_p110, List.forall_mem_cons.mpr ⟨lw_p111, fun _ h => absurd h List.not_mem_nil⟩⟩⟩⟩⟩⟩⟩⟩⟩⟩⟩⟩⟩⟩⟩⟩
theorem lw_p112 : lw_okq (⟨"DrawerNamesModel", "readTerm", "(I)V"⟩, 41) := ⟨⟨by decide +kernel, by decide +kernel⟩, List.mem_of_getElem? (i := 1191) (by decide +kernel), List.mem_of_getElem? (i := 1408) (by decide +kernel), List.mem_of_getElem? (i := 1409) (by decide +kernel)⟩
theorem lw_p113 : lw_okq (⟨"DrawerNamesModel", "readAtom", "(I)V"⟩, 41) := ⟨⟨by decide +kernel, by decide +kernel⟩, List.mem_of_getElem? (i := 1191) (by decide +kernel), List.mem_of_getElem? (i := 1412) (by decide +kernel), List.mem_of_getElem? (i := 1413) (by decide +kernel)⟩
theorem lw_p114 : lw_okq (⟨"DrawerNamesModel", "codes", "(I)V"⟩, 41) := ⟨⟨by decide +kernel, by decide +kernel⟩, List.mem_of_getElem? (i := 1191) (by decide +kernel), List.mem_of_getElem? (i := 1416) (by decide +kernel), List.mem_of_getElem? (i := 1417) (by decide +kernel)⟩
theorem lw_p115 : lw_okq (⟨"DrawerNamesModel", "wordOf", "(I)I"⟩, 41) := ⟨⟨by decide +kernel, by decide +kernel⟩, List.mem_of_getElem? (i := 1191) (by decide +kernel), List.mem_of_getElem? (i := 1420) (by decide +kernel), List.mem_of_getElem? (i := 1421) (by decide +kernel)⟩
theorem lw_p116 : lw_okq (⟨"DrawerNamesModel", "goesIn", "(I)Z"⟩, 41) := ⟨⟨by decide +kernel, by decide +kernel⟩, List.mem_of_getElem? (i := 1191) (by decide +kernel), List.mem_of_getElem? (i := 1424) (by decide +kernel), List.mem_of_getElem? (i := 1425) (by decide +kernel)⟩
theorem lw_p117 : lw_okq (⟨"DrawerNamesModel", "readIf", "(I)V"⟩, 41) := ⟨⟨by decide +kernel, by decide +kernel⟩, List.mem_of_getElem? (i := 1191) (by decide +kernel), List.mem_of_getElem? (i := 1428) (by decide +kernel), List.mem_of_getElem? (i := 1429) (by decide +kernel)⟩
theorem lw_p118 : lw_okq (⟨"DrawerNamesModel", "readTruth", "(I)V"⟩, 41) := ⟨⟨by decide +kernel, by decide +kernel⟩, List.mem_of_getElem? (i := 1191) (by decide +kernel), List.mem_of_getElem? (i := 1432) (by decide +kernel), List.mem_of_getElem? (i := 1433) (by decide +kernel)⟩
theorem lw_p119 : lw_okq (⟨"DrawerNamesModel", "readBoth", "(I)V"⟩, 41) := ⟨⟨by decide +kernel, by decide +kernel⟩, List.mem_of_getElem? (i := 1191) (by decide +kernel), List.mem_of_getElem? (i := 1436) (by decide +kernel), List.mem_of_getElem? (i := 1437) (by decide +kernel)⟩
theorem lw_p120 : lw_okq (⟨"DrawerNamesModel", "readUnit", "(I)V"⟩, 41) := ⟨⟨by decide +kernel, by decide +kernel⟩, List.mem_of_getElem? (i := 1191) (by decide +kernel), List.mem_of_getElem? (i := 1440) (by decide +kernel), List.mem_of_getElem? (i := 1441) (by decide +kernel)⟩
theorem lw_p121 : lw_okq (⟨"DrawerNamesModel", "isWhole", "(I)Z"⟩, 41) := ⟨⟨by decide +kernel, by decide +kernel⟩, List.mem_of_getElem? (i := 1191) (by decide +kernel), List.mem_of_getElem? (i := 1444) (by decide +kernel), List.mem_of_getElem? (i := 1445) (by decide +kernel)⟩
theorem lw_p122 : lw_okq (⟨"DrawerNamesModel", "numberNow", "()I"⟩, 41) := ⟨⟨by decide +kernel, by decide +kernel⟩, List.mem_of_getElem? (i := 1191) (by decide +kernel), List.mem_of_getElem? (i := 1448) (by decide +kernel), List.mem_of_getElem? (i := 1449) (by decide +kernel)⟩
theorem lw_p123 : lw_okq (⟨"DrawerNamesModel", "isDrawer", "(J)Z"⟩, 41) := ⟨⟨by decide +kernel, by decide +kernel⟩, List.mem_of_getElem? (i := 1191) (by decide +kernel), List.mem_of_getElem? (i := 1460) (by decide +kernel), List.mem_of_getElem? (i := 1461) (by decide +kernel)⟩
theorem lw_p124 : lw_okq (⟨"DrawerNamesModel", "nameIn", "(II)I"⟩, 41) := ⟨⟨by decide +kernel, by decide +kernel⟩, List.mem_of_getElem? (i := 1191) (by decide +kernel), List.mem_of_getElem? (i := 1464) (by decide +kernel), List.mem_of_getElem? (i := 1465) (by decide +kernel)⟩
theorem lw_p125 : lw_okq (⟨"DrawerNamesModel", "goesVisit", "(III)V"⟩, 41) := ⟨⟨by decide +kernel, by decide +kernel⟩, List.mem_of_getElem? (i := 1191) (by decide +kernel), List.mem_of_getElem? (i := 1472) (by decide +kernel), List.mem_of_getElem? (i := 1473) (by decide +kernel)⟩
theorem lw_p126 : lw_okq (⟨"DrawerNamesModel", "reckons", "(I)I"⟩, 41) := ⟨⟨by decide +kernel, by decide +kernel⟩, List.mem_of_getElem? (i := 1191) (by decide +kernel), List.mem_of_getElem? (i := 1476) (by decide +kernel), List.mem_of_getElem? (i := 1477) (by decide +kernel)⟩
theorem lw_p127 : lw_okq (⟨"DrawerNamesModel", "letNow", "()I"⟩, 41) := ⟨⟨by decide +kernel, by decide +kernel⟩, List.mem_of_getElem? (i := 1191) (by decide +kernel), List.mem_of_getElem? (i := 1493) (by decide +kernel), List.mem_of_getElem? (i := 1494) (by decide +kernel)⟩
def lw_privs_8 : List (MethodName × Nat) := [(⟨"DrawerNamesModel", "readTerm", "(I)V"⟩, 41), (⟨"DrawerNamesModel", "readAtom", "(I)V"⟩, 41), (⟨"DrawerNamesModel", "codes", "(I)V"⟩, 41), (⟨"DrawerNamesModel", "wordOf", "(I)I"⟩, 41), (⟨"DrawerNamesModel", "goesIn", "(I)Z"⟩, 41), (⟨"DrawerNamesModel", "readIf", "(I)V"⟩, 41), (⟨"DrawerNamesModel", "readTruth", "(I)V"⟩, 41), (⟨"DrawerNamesModel", "readBoth", "(I)V"⟩, 41), (⟨"DrawerNamesModel", "readUnit", "(I)V"⟩, 41), (⟨"DrawerNamesModel", "isWhole", "(I)Z"⟩, 41), (⟨"DrawerNamesModel", "numberNow", "()I"⟩, 41), (⟨"DrawerNamesModel", "isDrawer", "(J)Z"⟩, 41), (⟨"DrawerNamesModel", "nameIn", "(II)I"⟩, 41), (⟨"DrawerNamesModel", "goesVisit", "(III)V"⟩, 41), (⟨"DrawerNamesModel", "reckons", "(I)I"⟩, 41), (⟨"DrawerNamesModel", "letNow", "()I"⟩, 41)]
theorem lw_r8 : ∀ q ∈ lw_privs_8, lw_okq q := List.forall_mem_cons.mpr ⟨lw_p112, List.forall_mem_cons.mpr ⟨lw_p113, List.forall_mem_cons.mpr ⟨lw_p114, List.forall_mem_cons.mpr ⟨lw_p115, List.forall_mem_cons.mpr ⟨lw_p116, List.forall_mem_cons.mpr ⟨lw_p117, List.forall_mem_cons.mpr ⟨lw_p118, List.forall_mem_cons.mpr ⟨lw_p119, List.forall_mem_cons.mpr ⟨lw_p120, List.forall_mem_cons.mpr ⟨lw_p121, List.forall_mem_cons.mpr ⟨lw_p122, List.forall_mem_cons.mpr ⟨lw_p123, List.forall_mem_cons.mpr ⟨lw_p124, List.forall_mem_cons.mpr ⟨lw_p125, List.forall_mem_cons.mpr ⟨lw_p126, List.forall_mem_cons.mpr ⟨lw_p127, fun _ h => absurd h List.not_mem_nil⟩⟩⟩⟩⟩⟩⟩⟩⟩⟩⟩⟩⟩⟩⟩⟩
theorem lw_p128 : lw_okq (⟨"DrawerNamesModel", "letIn", "(II)I"⟩, 41) := ⟨⟨by decide +kernel, by decide +kernel⟩, List.mem_of_getElem? (i := 1191) (by decide +kernel), List.mem_of_getElem? (i := 1497) (by decide +kernel), List.mem_of_getElem? (i := 1498) (by decide +kernel)⟩
theorem lw_p129 : lw_okq (⟨"DrawerNamesModel", "canSwap", "(JJ)Z"⟩, 41) := ⟨⟨by decide +kernel, by decide +kernel⟩, List.mem_of_getElem? (i := 1191) (by decide +kernel), List.mem_of_getElem? (i := 1505) (by decide +kernel), List.mem_of_getElem? (i := 1506) (by decide +kernel)⟩
theorem lw_p130 : lw_okq (⟨"DrawerNamesModel", "stores", "()V"⟩, 41) := ⟨⟨by decide +kernel, by decide +kernel⟩, List.mem_of_getElem? (i := 1191) (by decide +kernel), List.mem_of_getElem? (i := 1509) (by decide +kernel), List.mem_of_getElem? (i := 1510) (by decide +kernel)⟩
theorem lw_p131 : lw_okq (⟨"DrawerNamesModel", "swapTo", "(III)I"⟩, 41) := ⟨⟨by decide +kernel, by decide +kernel⟩, List.mem_of_getElem? (i := 1191) (by decide +kernel), List.mem_of_getElem? (i := 1513) (by decide +kernel), List.mem_of_getElem? (i := 1514) (by decide +kernel)⟩
theorem lw_p132 : lw_okq (⟨"DrawerNamesModel", "notes", "()V"⟩, 41) := ⟨⟨by decide +kernel, by decide +kernel⟩, List.mem_of_getElem? (i := 1191) (by decide +kernel), List.mem_of_getElem? (i := 1517) (by decide +kernel), List.mem_of_getElem? (i := 1518) (by decide +kernel)⟩
theorem lw_p133 : lw_okq (⟨"DrawerNamesModel", "goesNight", "()V"⟩, 41) := ⟨⟨by decide +kernel, by decide +kernel⟩, List.mem_of_getElem? (i := 1191) (by decide +kernel), List.mem_of_getElem? (i := 1529) (by decide +kernel), List.mem_of_getElem? (i := 1530) (by decide +kernel)⟩
theorem lw_p134 : lw_okq (⟨"DrawerNamesModel", "nightTo", "(I)I"⟩, 41) := ⟨⟨by decide +kernel, by decide +kernel⟩, List.mem_of_getElem? (i := 1191) (by decide +kernel), List.mem_of_getElem? (i := 1533) (by decide +kernel), List.mem_of_getElem? (i := 1534) (by decide +kernel)⟩
theorem lw_p135 : lw_okq (⟨"DrawerNamesModel", "noTray", "(I)I"⟩, 41) := ⟨⟨by decide +kernel, by decide +kernel⟩, List.mem_of_getElem? (i := 1191) (by decide +kernel), List.mem_of_getElem? (i := 1552) (by decide +kernel), List.mem_of_getElem? (i := 1553) (by decide +kernel)⟩
theorem lw_p136 : lw_okq (⟨"DrawerNamesModel", "tells", "(I)I"⟩, 41) := ⟨⟨by decide +kernel, by decide +kernel⟩, List.mem_of_getElem? (i := 1191) (by decide +kernel), List.mem_of_getElem? (i := 1556) (by decide +kernel), List.mem_of_getElem? (i := 1557) (by decide +kernel)⟩
theorem lw_p137 : lw_okq (⟨"DrawerNamesModel", "whyNot", "(J)I"⟩, 41) := ⟨⟨by decide +kernel, by decide +kernel⟩, List.mem_of_getElem? (i := 1191) (by decide +kernel), List.mem_of_getElem? (i := 1560) (by decide +kernel), List.mem_of_getElem? (i := 1561) (by decide +kernel)⟩
theorem lw_p138 : lw_okq (⟨"DrawerNamesModel", "does", "(I)V"⟩, 41) := ⟨⟨by decide +kernel, by decide +kernel⟩, List.mem_of_getElem? (i := 1191) (by decide +kernel), List.mem_of_getElem? (i := 1567) (by decide +kernel), List.mem_of_getElem? (i := 1568) (by decide +kernel)⟩
theorem lw_p139 : lw_okq (⟨"DrawerNamesModel", "isAgain", "()V"⟩, 41) := ⟨⟨by decide +kernel, by decide +kernel⟩, List.mem_of_getElem? (i := 1191) (by decide +kernel), List.mem_of_getElem? (i := 1571) (by decide +kernel), List.mem_of_getElem? (i := 1572) (by decide +kernel)⟩
theorem lw_p140 : lw_okq (⟨"DrawerNamesModel", "drawn", "()I"⟩, 41) := ⟨⟨by decide +kernel, by decide +kernel⟩, List.mem_of_getElem? (i := 1191) (by decide +kernel), List.mem_of_getElem? (i := 1584) (by decide +kernel), List.mem_of_getElem? (i := 1585) (by decide +kernel)⟩
theorem lw_p141 : lw_okq (⟨"DrawerNamesModel", "draw", "(I)I"⟩, 41) := ⟨⟨by decide +kernel, by decide +kernel⟩, List.mem_of_getElem? (i := 1191) (by decide +kernel), List.mem_of_getElem? (i := 1588) (by decide +kernel), List.mem_of_getElem? (i := 1589) (by decide +kernel)⟩
theorem lw_p142 : lw_okq (⟨"DrawerNamesModel", "orderOf", "(I)I"⟩, 41) := ⟨⟨by decide +kernel, by decide +kernel⟩, List.mem_of_getElem? (i := 1191) (by decide +kernel), List.mem_of_getElem? (i := 1598) (by decide +kernel), List.mem_of_getElem? (i := 1599) (by decide +kernel)⟩
theorem lw_p143 : lw_okq (⟨"DrawerNamesModel", "roundOf", "(II)I"⟩, 41) := ⟨⟨by decide +kernel, by decide +kernel⟩, List.mem_of_getElem? (i := 1191) (by decide +kernel), List.mem_of_getElem? (i := 1602) (by decide +kernel), List.mem_of_getElem? (i := 1603) (by decide +kernel)⟩
def lw_privs_9 : List (MethodName × Nat) := [(⟨"DrawerNamesModel", "letIn", "(II)I"⟩, 41), (⟨"DrawerNamesModel", "canSwap", "(JJ)Z"⟩, 41), (⟨"DrawerNamesModel", "stores", "()V"⟩, 41), (⟨"DrawerNamesModel", "swapTo", "(III)I"⟩, 41), (⟨"DrawerNamesModel", "notes", "()V"⟩, 41), (⟨"DrawerNamesModel", "goesNight", "()V"⟩, 41), (⟨"DrawerNamesModel", "nightTo", "(I)I"⟩, 41), (⟨"DrawerNamesModel", "noTray", "(I)I"⟩, 41), (⟨"DrawerNamesModel", "tells", "(I)I"⟩, 41), (⟨"DrawerNamesModel", "whyNot", "(J)I"⟩, 41), (⟨"DrawerNamesModel", "does", "(I)V"⟩, 41), (⟨"DrawerNamesModel", "isAgain", "()V"⟩, 41), (⟨"DrawerNamesModel", "drawn", "()I"⟩, 41), (⟨"DrawerNamesModel", "draw", "(I)I"⟩, 41), (⟨"DrawerNamesModel", "orderOf", "(I)I"⟩, 41), (⟨"DrawerNamesModel", "roundOf", "(II)I"⟩, 41)]
theorem lw_r9 : ∀ q ∈ lw_privs_9, lw_okq q := List.forall_mem_cons.mpr ⟨lw_p128, List.forall_mem_cons.mpr ⟨lw_p129, List.forall_mem_cons.mpr ⟨lw_p130, List.forall_mem_cons.mpr ⟨lw_p131, List.forall_mem_cons.mpr ⟨lw_p132, List.forall_mem_cons.mpr ⟨lw_p133, List.forall_mem_cons.mpr ⟨lw_p134, List.forall_mem_cons.mpr ⟨lw_p135, List.forall_mem_cons.mpr ⟨lw_p136, List.forall_mem_cons.mpr ⟨lw_p137, List.forall_mem_cons.mpr ⟨lw_p138, List.forall_mem_cons.mpr ⟨lw_p139, List.forall_mem_cons.mpr ⟨lw_p140, List.forall_mem_cons.mpr ⟨lw_p141, List.forall_mem_cons.mpr ⟨lw_p142, List.forall_mem_cons.mpr ⟨lw_p143, fun _ h => absurd h List.not_mem_nil⟩⟩⟩⟩⟩⟩⟩⟩⟩⟩⟩⟩⟩⟩⟩⟩
theorem lw_p144 : lw_okq (⟨"DrawerNamesModel", "powerOf", "(II)I"⟩, 41) := ⟨⟨by decide +kernel, by decide +kernel⟩, List.mem_of_getElem? (i := 1191) (by decide +kernel), List.mem_of_getElem? (i := 1618) (by decide +kernel), List.mem_of_getElem? (i := 1619) (by decide +kernel)⟩
theorem lw_p145 : lw_okq (⟨"DrawerNamesModel", "laysFar", "(I)I"⟩, 41) := ⟨⟨by decide +kernel, by decide +kernel⟩, List.mem_of_getElem? (i := 1191) (by decide +kernel), List.mem_of_getElem? (i := 1639) (by decide +kernel), List.mem_of_getElem? (i := 1640) (by decide +kernel)⟩
theorem lw_p146 : lw_okq (⟨"DrawerNamesModel", "laysThen", "()V"⟩, 41) := ⟨⟨by decide +kernel, by decide +kernel⟩, List.mem_of_getElem? (i := 1191) (by decide +kernel), List.mem_of_getElem? (i := 1643) (by decide +kernel), List.mem_of_getElem? (i := 1644) (by decide +kernel)⟩
theorem lw_p147 : lw_okq (⟨"DrawerNamesModel", "laysLet", "()V"⟩, 41) := ⟨⟨by decide +kernel, by decide +kernel⟩, List.mem_of_getElem? (i := 1191) (by decide +kernel), List.mem_of_getElem? (i := 1647) (by decide +kernel), List.mem_of_getElem? (i := 1648) (by decide +kernel)⟩
theorem lw_p148 : lw_okq (⟨"DrawerNamesModel", "isSo", "(II)Z"⟩, 41) := ⟨⟨by decide +kernel, by decide +kernel⟩, List.mem_of_getElem? (i := 1191) (by decide +kernel), List.mem_of_getElem? (i := 1651) (by decide +kernel), List.mem_of_getElem? (i := 1652) (by decide +kernel)⟩
theorem lw_p149 : lw_okq (⟨"DrawerNamesModel", "beginsMany", "()V"⟩, 41) := ⟨⟨by decide +kernel, by decide +kernel⟩, List.mem_of_getElem? (i := 1191) (by decide +kernel), List.mem_of_getElem? (i := 1669) (by decide +kernel), List.mem_of_getElem? (i := 1670) (by decide +kernel)⟩
theorem lw_p150 : lw_okq (⟨"DrawerNamesModel", "isThen", "()V"⟩, 41) := ⟨⟨by decide +kernel, by decide +kernel⟩, List.mem_of_getElem? (i := 1191) (by decide +kernel), List.mem_of_getElem? (i := 1673) (by decide +kernel), List.mem_of_getElem? (i := 1674) (by decide +kernel)⟩
theorem lw_p151 : lw_okq (⟨"DrawerNamesModel", "laysLine", "()V"⟩, 41) := ⟨⟨by decide +kernel, by decide +kernel⟩, List.mem_of_getElem? (i := 1191) (by decide +kernel), List.mem_of_getElem? (i := 1693) (by decide +kernel), List.mem_of_getElem? (i := 1694) (by decide +kernel)⟩
theorem lw_p152 : lw_okq (⟨"DrawerNamesModel", "noOne", "(II)I"⟩, 41) := ⟨⟨by decide +kernel, by decide +kernel⟩, List.mem_of_getElem? (i := 1191) (by decide +kernel), List.mem_of_getElem? (i := 1713) (by decide +kernel), List.mem_of_getElem? (i := 1714) (by decide +kernel)⟩
theorem lw_p153 : lw_okq (⟨"DrawerNamesModel", "noFound", "(I)I"⟩, 41) := ⟨⟨by decide +kernel, by decide +kernel⟩, List.mem_of_getElem? (i := 1191) (by decide +kernel), List.mem_of_getElem? (i := 1717) (by decide +kernel), List.mem_of_getElem? (i := 1718) (by decide +kernel)⟩
theorem lw_p154 : lw_okq (⟨"DrawerNamesModel", "laysFound", "(II)I"⟩, 41) := ⟨⟨by decide +kernel, by decide +kernel⟩, List.mem_of_getElem? (i := 1191) (by decide +kernel), List.mem_of_getElem? (i := 1723) (by decide +kernel), List.mem_of_getElem? (i := 1724) (by decide +kernel)⟩
theorem lw_p155 : lw_okq (⟨"DrawerNamesModel", "isFound", "(III)Z"⟩, 41) := ⟨⟨by decide +kernel, by decide +kernel⟩, List.mem_of_getElem? (i := 1191) (by decide +kernel), List.mem_of_getElem? (i := 1727) (by decide +kernel), List.mem_of_getElem? (i := 1728) (by decide +kernel)⟩
theorem lw_p156 : lw_okq (⟨"DrawerNamesModel", "laysForce", "(I)I"⟩, 41) := ⟨⟨by decide +kernel, by decide +kernel⟩, List.mem_of_getElem? (i := 1191) (by decide +kernel), List.mem_of_getElem? (i := 1747) (by decide +kernel), List.mem_of_getElem? (i := 1748) (by decide +kernel)⟩
theorem lw_p157 : lw_okq (⟨"DrawerNamesModel", "firstBy", "(II)I"⟩, 41) := ⟨⟨by decide +kernel, by decide +kernel⟩, List.mem_of_getElem? (i := 1191) (by decide +kernel), List.mem_of_getElem? (i := 1751) (by decide +kernel), List.mem_of_getElem? (i := 1752) (by decide +kernel)⟩
theorem lw_p158 : lw_okq (⟨"DrawerNamesModel", "forcedTo", "(II)I"⟩, 41) := ⟨⟨by decide +kernel, by decide +kernel⟩, List.mem_of_getElem? (i := 1191) (by decide +kernel), List.mem_of_getElem? (i := 1755) (by decide +kernel), List.mem_of_getElem? (i := 1756) (by decide +kernel)⟩
theorem lw_p159 : lw_okq (⟨"DrawerNamesModel", "otherAt", "(I)I"⟩, 41) := ⟨⟨by decide +kernel, by decide +kernel⟩, List.mem_of_getElem? (i := 1191) (by decide +kernel), List.mem_of_getElem? (i := 1759) (by decide +kernel), List.mem_of_getElem? (i := 1760) (by decide +kernel)⟩
def lw_privs_10 : List (MethodName × Nat) := [(⟨"DrawerNamesModel", "powerOf", "(II)I"⟩, 41), (⟨"DrawerNamesModel", "laysFar", "(I)I"⟩, 41), (⟨"DrawerNamesModel", "laysThen", "()V"⟩, 41), (⟨"DrawerNamesModel", "laysLet", "()V"⟩, 41), (⟨"DrawerNamesModel", "isSo", "(II)Z"⟩, 41), (⟨"DrawerNamesModel", "beginsMany", "()V"⟩, 41), (⟨"DrawerNamesModel", "isThen", "()V"⟩, 41), (⟨"DrawerNamesModel", "laysLine", "()V"⟩, 41), (⟨"DrawerNamesModel", "noOne", "(II)I"⟩, 41), (⟨"DrawerNamesModel", "noFound", "(I)I"⟩, 41), (⟨"DrawerNamesModel", "laysFound", "(II)I"⟩, 41), (⟨"DrawerNamesModel", "isFound", "(III)Z"⟩, 41), (⟨"DrawerNamesModel", "laysForce", "(I)I"⟩, 41), (⟨"DrawerNamesModel", "firstBy", "(II)I"⟩, 41), (⟨"DrawerNamesModel", "forcedTo", "(II)I"⟩, 41), (⟨"DrawerNamesModel", "otherAt", "(I)I"⟩, 41)]
theorem lw_r10 : ∀ q ∈ lw_privs_10, lw_okq q := List.forall_mem_cons.mpr ⟨lw_p144, List.forall_mem_cons.mpr ⟨lw_p145, List.forall_mem_cons.mpr ⟨lw_p146, List.forall_mem_cons.mpr ⟨lw_p147, List.forall_mem_cons.mpr ⟨lw_p148, List.forall_mem_cons.mpr ⟨lw_p149, List.forall_mem_cons.mpr ⟨lw_p150, List.forall_mem_cons.mpr ⟨lw_p151, List.forall_mem_cons.mpr ⟨lw_p152, List.forall_mem_cons.mpr ⟨lw_p153, List.forall_mem_cons.mpr ⟨lw_p154, List.forall_mem_cons.mpr ⟨lw_p155, List.forall_mem_cons.mpr ⟨lw_p156, List.forall_mem_cons.mpr ⟨lw_p157, List.forall_mem_cons.mpr ⟨lw_p158, List.forall_mem_cons.mpr ⟨lw_p159, fun _ h => absurd h List.not_mem_nil⟩⟩⟩⟩⟩⟩⟩⟩⟩⟩⟩⟩⟩⟩⟩⟩
theorem lw_p160 : lw_okq (⟨"DrawerNamesModel", "laysLikely", "(I)V"⟩, 41) := ⟨⟨by decide +kernel, by decide +kernel⟩, List.mem_of_getElem? (i := 1191) (by decide +kernel), List.mem_of_getElem? (i := 1771) (by decide +kernel), List.mem_of_getElem? (i := 1772) (by decide +kernel)⟩
def lw_privs_11 : List (MethodName × Nat) := [(⟨"DrawerNamesModel", "laysLikely", "(I)V"⟩, 41)]
theorem lw_r11 : ∀ q ∈ lw_privs_11, lw_okq q := List.forall_mem_cons.mpr ⟨lw_p160, fun _ h => absurd h List.not_mem_nil⟩
def lw_privs : List (MethodName × Nat) := lw_privs_1 ++ (lw_privs_2 ++ (lw_privs_3 ++ (lw_privs_4 ++ (lw_privs_5 ++ (lw_privs_6 ++ (lw_privs_7 ++ (lw_privs_8 ++ (lw_privs_9 ++ (lw_privs_10 ++ (lw_privs_11))))))))))
def lw_tbl : List Cond := k2_sels lw_privs ++ tables_1
theorem lw_privs_ok : ∀ q ∈ lw_privs, lw_okq q := by
  show ∀ q ∈ lw_privs_1 ++ (lw_privs_2 ++ (lw_privs_3 ++ (lw_privs_4 ++ (lw_privs_5 ++ (lw_privs_6 ++ (lw_privs_7 ++ (lw_privs_8 ++ (lw_privs_9 ++ (lw_privs_10 ++ (lw_privs_11)))))))))), lw_okq q
  exact List.forall_mem_append.mpr ⟨lw_r1, List.forall_mem_append.mpr ⟨lw_r2, List.forall_mem_append.mpr ⟨lw_r3, List.forall_mem_append.mpr ⟨lw_r4, List.forall_mem_append.mpr ⟨lw_r5, List.forall_mem_append.mpr ⟨lw_r6, List.forall_mem_append.mpr ⟨lw_r7, List.forall_mem_append.mpr ⟨lw_r8, List.forall_mem_append.mpr ⟨lw_r9, List.forall_mem_append.mpr ⟨lw_r10, lw_r11⟩⟩⟩⟩⟩⟩⟩⟩⟩⟩
def RX0 : String := "DrawerNames$Desk"
def TX0 : u_T := fun k => match k with
  | 0 => ("DrawerNames$Desk", "drawers", "I", true)
  | 1 => ("DrawerNames$Desk", "opens", "I", true)
  | 2 => ("DrawerNames$Desk", "firstClue", "I", true)
  | 3 => ("DrawerNames$Desk", "firstRow", "I", true)
  | 4 => ("DrawerNames$Desk", "nightRow", "I", true)
  | 5 => ("DrawerNames$Desk", "lines", "I", true)
  | 6 => ("DrawerNames$Desk", "next", "LDrawerNames$Law;", true)
  | _ => ("DrawerNames$Desk", "stops", "LDrawerNames$Law;", true)
def tyX0 : Nat → FieldType := fun k => match k with
  | 0 => .int
  | 1 => .int
  | 2 => .int
  | 3 => .int
  | 4 => .int
  | 5 => .int
  | 6 => .object "DrawerNames$Law"
  | _ => .object "DrawerNames$Law"
abbrev wsX00 : List Cond := u_ws RX0 TX0 8
theorem nmX0 : ∀ a, a < 8 → ∀ b, b < 8 → a ≠ b → (TX0 a).2.1 ≠ (TX0 b).2.1 := by decide +kernel
theorem tyX0_ok : ∀ k, k < 8 → parseFieldDescriptor (TX0 k).2.2.1 = some (tyX0 k) := by decide +kernel
abbrev cX0_init : ByteArray := prog_2_method_1_code
def yX0_init : MethodName := ⟨RX0, "<init>", "(LDrawerNames$Reader;)V"⟩
def RX1 : String := "DrawerNames$Draft"
def TX1 : u_T := fun k => match k with
  | 0 => ("DrawerNames$Draft", "steps", "[I", true)
  | 1 => ("DrawerNames$Draft", "length", "I", false)
  | 2 => ("DrawerNames$Draft", "height", "I", false)
  | _ => ("DrawerNames$Draft", "highest", "I", false)
def tyX1 : Nat → FieldType := fun k => match k with
  | 0 => .array .int
  | 1 => .int
  | 2 => .int
  | _ => .int
abbrev wsX10 : List Cond := u_ws RX1 TX1 4
theorem nmX1 : ∀ a, a < 4 → ∀ b, b < 4 → a ≠ b → (TX1 a).2.1 ≠ (TX1 b).2.1 := by decide +kernel
theorem tyX1_ok : ∀ k, k < 4 → parseFieldDescriptor (TX1 k).2.2.1 = some (tyX1 k) := by decide +kernel
abbrev cX1_init : ByteArray := prog_3_method_1_code
def yX1_init : MethodName := ⟨RX1, "<init>", "()V"⟩
abbrev cX1_clear : ByteArray := prog_3_method_2_code
def yX1_clear : MethodName := ⟨RX1, "clear", "()V"⟩
abbrev cX1_add : ByteArray := prog_3_method_3_code
def yX1_add : MethodName := ⟨RX1, "add", "(I)V"⟩
abbrev cX1_growth : ByteArray := prog_3_method_4_code
def yX1_growth : MethodName := ⟨RX1, "growth", "(I)I"⟩
abbrev cX1_asLaw : ByteArray := prog_3_method_5_code
def yX1_asLaw : MethodName := ⟨RX1, "asLaw", "()LDrawerNames$Law;"⟩
def RX2 : String := "DrawerNames$Law"
def TX2 : u_T := fun k => match k with
  | 0 => ("DrawerNames$Law", "steps", "[I", true)
  | _ => ("DrawerNames$Law", "stack", "[I", true)
def tyX2 : Nat → FieldType := fun k => match k with
  | 0 => .array .int
  | _ => .array .int
abbrev wsX20 : List Cond := u_ws RX2 TX2 2
theorem nmX2 : ∀ a, a < 2 → ∀ b, b < 2 → a ≠ b → (TX2 a).2.1 ≠ (TX2 b).2.1 := by decide +kernel
theorem tyX2_ok : ∀ k, k < 2 → parseFieldDescriptor (TX2 k).2.2.1 = some (tyX2 k) := by decide +kernel
abbrev cX2_init : ByteArray := prog_4_method_1_code
def yX2_init : MethodName := ⟨RX2, "<init>", "([II)V"⟩
abbrev cX2_tell : ByteArray := prog_4_method_2_code
def yX2_tell : MethodName := ⟨RX2, "tell", "([I)I"⟩
abbrev cX2_joined : ByteArray := prog_4_method_3_code
def yX2_joined : MethodName := ⟨RX2, "joined", "(III)I"⟩
abbrev cX2_kept : ByteArray := prog_4_method_4_code
def yX2_kept : MethodName := ⟨RX2, "kept", "(J)I"⟩
def RX3 : String := "DrawerNames$Picture"
def TX3 : u_T := fun k => match k with
  | 0 => ("DrawerNames$Picture", "table", "LDrawerNames$Desk;", false)
  | _ => ("DrawerNames$Picture", "state", "LDrawerNames$State;", true)
def tyX3 : Nat → FieldType := fun k => match k with
  | 0 => .object "DrawerNames$Desk"
  | _ => .object "DrawerNames$State"
abbrev wsX30 : List Cond := u_ws RX3 TX3 2
theorem nmX3 : ∀ a, a < 2 → ∀ b, b < 2 → a ≠ b → (TX3 a).2.1 ≠ (TX3 b).2.1 := by decide +kernel
theorem tyX3_ok : ∀ k, k < 2 → parseFieldDescriptor (TX3 k).2.2.1 = some (tyX3 k) := by decide +kernel
abbrev cX3_init : ByteArray := prog_5_method_1_code
def yX3_init : MethodName := ⟨RX3, "<init>", "()V"⟩
def RX4 : String := "DrawerNames$Reader"
def TX4 : u_T := fun k => match k with
  | 0 => ("DrawerNames$Reader", "fault", "I", false)
  | 1 => ("DrawerNames$Reader", "place", "I", false)
  | 2 => ("DrawerNames$Reader", "drawers", "I", false)
  | 3 => ("DrawerNames$Reader", "opens", "I", false)
  | 4 => ("DrawerNames$Reader", "clue", "I", false)
  | 5 => ("DrawerNames$Reader", "lines", "I", false)
  | 6 => ("DrawerNames$Reader", "names", "[I", true)
  | 7 => ("DrawerNames$Reader", "goes", "[I", true)
  | 8 => ("DrawerNames$Reader", "next", "LDrawerNames$Draft;", true)
  | 9 => ("DrawerNames$Reader", "stops", "LDrawerNames$Draft;", true)
  | 10 => ("DrawerNames$Reader", "text", "[B", false)
  | 11 => ("DrawerNames$Reader", "length", "I", false)
  | 12 => ("DrawerNames$Reader", "head", "I", false)
  | 13 => ("DrawerNames$Reader", "token", "I", false)
  | 14 => ("DrawerNames$Reader", "start", "I", false)
  | 15 => ("DrawerNames$Reader", "value", "I", false)
  | 16 => ("DrawerNames$Reader", "depth", "I", false)
  | _ => ("DrawerNames$Reader", "draft", "LDrawerNames$Draft;", false)
def tyX4 : Nat → FieldType := fun k => match k with
  | 0 => .int
  | 1 => .int
  | 2 => .int
  | 3 => .int
  | 4 => .int
  | 5 => .int
  | 6 => .array .int
  | 7 => .array .int
  | 8 => .object "DrawerNames$Draft"
  | 9 => .object "DrawerNames$Draft"
  | 10 => .array .byte
  | 11 => .int
  | 12 => .int
  | 13 => .int
  | 14 => .int
  | 15 => .int
  | 16 => .int
  | _ => .object "DrawerNames$Draft"
abbrev wsX40 : List Cond := u_ws RX4 TX4 18
theorem nmX4 : ∀ a, a < 18 → ∀ b, b < 18 → a ≠ b → (TX4 a).2.1 ≠ (TX4 b).2.1 := by decide +kernel
theorem tyX4_ok : ∀ k, k < 18 → parseFieldDescriptor (TX4 k).2.2.1 = some (tyX4 k) := by decide +kernel
abbrev cX4_init : ByteArray := prog_6_method_1_code
def yX4_init : MethodName := ⟨RX4, "<init>", "()V"⟩
abbrev cX4_read : ByteArray := prog_6_method_2_code
def yX4_read : MethodName := ⟨RX4, "read", "([BI)V"⟩
abbrev cX4_clear : ByteArray := prog_6_method_3_code
def yX4_clear : MethodName := ⟨RX4, "clear", "()V"⟩
abbrev cX4_header : ByteArray := prog_6_method_4_code
def yX4_header : MethodName := ⟨RX4, "header", "()V"⟩
abbrev cX4_isWhole : ByteArray := prog_6_method_5_code
def yX4_isWhole : MethodName := ⟨RX4, "isWhole", "([I)Z"⟩
abbrev cX4_line : ByteArray := prog_6_method_6_code
def yX4_line : MethodName := ⟨RX4, "line", "()V"⟩
abbrev cX4_tell : ByteArray := prog_6_method_7_code
def yX4_tell : MethodName := ⟨RX4, "tell", "([I)V"⟩
abbrev cX4_begin : ByteArray := prog_6_method_8_code
def yX4_begin : MethodName := ⟨RX4, "begin", "(LDrawerNames$Draft;)V"⟩
abbrev cX4_sum : ByteArray := prog_6_method_9_code
def yX4_sum : MethodName := ⟨RX4, "sum", "()V"⟩
abbrev cX4_term : ByteArray := prog_6_method_10_code
def yX4_term : MethodName := ⟨RX4, "term", "()V"⟩
abbrev cX4_atom : ByteArray := prog_6_method_11_code
def yX4_atom : MethodName := ⟨RX4, "atom", "()V"⟩
abbrev cX4_leaf : ByteArray := prog_6_method_12_code
def yX4_leaf : MethodName := ⟨RX4, "leaf", "(I)V"⟩
abbrev cX4_choice : ByteArray := prog_6_method_13_code
def yX4_choice : MethodName := ⟨RX4, "choice", "()V"⟩
abbrev cX4_truth : ByteArray := prog_6_method_14_code
def yX4_truth : MethodName := ⟨RX4, "truth", "()V"⟩
abbrev cX4_both : ByteArray := prog_6_method_15_code
def yX4_both : MethodName := ⟨RX4, "both", "()V"⟩
abbrev cX4_unit : ByteArray := prog_6_method_16_code
def yX4_unit : MethodName := ⟨RX4, "unit", "()V"⟩
abbrev cX4_comparison : ByteArray := prog_6_method_17_code
def yX4_comparison : MethodName := ⟨RX4, "comparison", "()V"⟩
abbrev cX4_stepOfSign : ByteArray := prog_6_method_18_code
def yX4_stepOfSign : MethodName := ⟨RX4, "stepOfSign", "()I"⟩
abbrev cX4_enter : ByteArray := prog_6_method_19_code
def yX4_enter : MethodName := ⟨RX4, "enter", "()V"⟩
abbrev cX4_expect : ByteArray := prog_6_method_20_code
def yX4_expect : MethodName := ⟨RX4, "expect", "(I)V"⟩
abbrev cX4_number : ByteArray := prog_6_method_21_code
def yX4_number : MethodName := ⟨RX4, "number", "(II)I"⟩
abbrev cX4_fail : ByteArray := prog_6_method_22_code
def yX4_fail : MethodName := ⟨RX4, "fail", "(I)V"⟩
abbrev cX4_advance : ByteArray := prog_6_method_23_code
def yX4_advance : MethodName := ⟨RX4, "advance", "()V"⟩
abbrev cX4_isLetter : ByteArray := prog_6_method_24_code
def yX4_isLetter : MethodName := ⟨RX4, "isLetter", "(I)Z"⟩
abbrev cX4_isDigit : ByteArray := prog_6_method_25_code
def yX4_isDigit : MethodName := ⟨RX4, "isDigit", "(I)Z"⟩
abbrev cX4_readNumber : ByteArray := prog_6_method_26_code
def yX4_readNumber : MethodName := ⟨RX4, "readNumber", "()V"⟩
abbrev cX4_wordBetween : ByteArray := prog_6_method_27_code
def yX4_wordBetween : MethodName := ⟨RX4, "wordBetween", "(II)I"⟩
def RX5 : String := "DrawerNames$Rows"
def TX5 : u_T := fun k => match k with
  | 0 => ("DrawerNames$Rows", "drawers", "I", false)
  | 1 => ("DrawerNames$Rows", "count", "I", false)
  | 2 => ("DrawerNames$Rows", "pairs", "I", false)
  | 3 => ("DrawerNames$Rows", "swapsStand", "Z", false)
  | 4 => ("DrawerNames$Rows", "names", "[B", false)
  | 5 => ("DrawerNames$Rows", "swapped", "[I", false)
  | 6 => ("DrawerNames$Rows", "codes", "[I", true)
  | _ => ("DrawerNames$Rows", "made", "[I", true)
def tyX5 : Nat → FieldType := fun k => match k with
  | 0 => .int
  | 1 => .int
  | 2 => .int
  | 3 => .boolean
  | 4 => .array .byte
  | 5 => .array .int
  | 6 => .array .int
  | _ => .array .int
abbrev wsX50 : List Cond := u_ws RX5 TX5 8
theorem nmX5 : ∀ a, a < 8 → ∀ b, b < 8 → a ≠ b → (TX5 a).2.1 ≠ (TX5 b).2.1 := by decide +kernel
theorem tyX5_ok : ∀ k, k < 8 → parseFieldDescriptor (TX5 k).2.2.1 = some (tyX5 k) := by decide +kernel
abbrev cX5_init : ByteArray := prog_7_method_1_code
def yX5_init : MethodName := ⟨RX5, "<init>", "()V"⟩
abbrev cX5_hold : ByteArray := prog_7_method_2_code
def yX5_hold : MethodName := ⟨RX5, "hold", "(I)V"⟩
abbrev cX5_fillRow : ByteArray := prog_7_method_3_code
def yX5_fillRow : MethodName := ⟨RX5, "fillRow", "(I)V"⟩
abbrev cX5_unusedName : ByteArray := prog_7_method_4_code
def yX5_unusedName : MethodName := ⟨RX5, "unusedName", "(II)I"⟩
abbrev cX5_nameIn : ByteArray := prog_7_method_5_code
def yX5_nameIn : MethodName := ⟨RX5, "nameIn", "(II)I"⟩
abbrev cX5_numberOf : ByteArray := prog_7_method_6_code
def yX5_numberOf : MethodName := ⟨RX5, "numberOf", "([II)I"⟩
abbrev cX5_swappedRow : ByteArray := prog_7_method_7_code
def yX5_swappedRow : MethodName := ⟨RX5, "swappedRow", "(III)I"⟩
abbrev cX5_movedRow : ByteArray := prog_7_method_8_code
def yX5_movedRow : MethodName := ⟨RX5, "movedRow", "(II)I"⟩
abbrev cX5_powerOf : ByteArray := prog_7_method_9_code
def yX5_powerOf : MethodName := ⟨RX5, "powerOf", "(IJ)I"⟩
abbrev cX5_nameBehind : ByteArray := prog_7_method_10_code
def yX5_nameBehind : MethodName := ⟨RX5, "nameBehind", "(III)I"⟩
abbrev cX5_isRoot : ByteArray := prog_7_method_11_code
def yX5_isRoot : MethodName := ⟨RX5, "isRoot", "(III)Z"⟩
abbrev cX5_roundBits : ByteArray := prog_7_method_12_code
def yX5_roundBits : MethodName := ⟨RX5, "roundBits", "(II)I"⟩
abbrev cX5_roundsOf : ByteArray := prog_7_method_13_code
def yX5_roundsOf : MethodName := ⟨RX5, "roundsOf", "(I)I"⟩
abbrev cX5_longestOf : ByteArray := prog_7_method_14_code
def yX5_longestOf : MethodName := ⟨RX5, "longestOf", "(I)I"⟩
abbrev cX5_fixedOf : ByteArray := prog_7_method_15_code
def yX5_fixedOf : MethodName := ⟨RX5, "fixedOf", "(I)I"⟩
abbrev cX5_orderOf : ByteArray := prog_7_method_16_code
def yX5_orderOf : MethodName := ⟨RX5, "orderOf", "(I)I"⟩
abbrev cX5_inversionsOf : ByteArray := prog_7_method_17_code
def yX5_inversionsOf : MethodName := ⟨RX5, "inversionsOf", "(I)I"⟩
abbrev cX5_prepareSwaps : ByteArray := prog_7_method_18_code
def yX5_prepareSwaps : MethodName := ⟨RX5, "prepareSwaps", "()V"⟩
abbrev cX5_fillSwapped : ByteArray := prog_7_method_19_code
def yX5_fillSwapped : MethodName := ⟨RX5, "fillSwapped", "(III)V"⟩
abbrev cX5_bySwap : ByteArray := prog_7_method_20_code
def yX5_bySwap : MethodName := ⟨RX5, "bySwap", "(II)I"⟩
abbrev cX5_codeOf : ByteArray := prog_7_method_21_code
def yX5_codeOf : MethodName := ⟨RX5, "codeOf", "(I)I"⟩
def RX6 : String := "DrawerNames$Spread"
def TX6 : u_T := fun k => match k with
  | 0 => ("DrawerNames$Spread", "all", "LDrawerNames$Rows;", true)
  | 1 => ("DrawerNames$Spread", "weights", "[J", false)
  | _ => ("DrawerNames$Spread", "later", "[J", false)
def tyX6 : Nat → FieldType := fun k => match k with
  | 0 => .object "DrawerNames$Rows"
  | 1 => .array .long
  | _ => .array .long
abbrev wsX60 : List Cond := u_ws RX6 TX6 3
theorem nmX6 : ∀ a, a < 3 → ∀ b, b < 3 → a ≠ b → (TX6 a).2.1 ≠ (TX6 b).2.1 := by decide +kernel
theorem tyX6_ok : ∀ k, k < 3 → parseFieldDescriptor (TX6 k).2.2.1 = some (tyX6 k) := by decide +kernel
abbrev cX6_init : ByteArray := prog_8_method_1_code
def yX6_init : MethodName := ⟨RX6, "<init>", "(LDrawerNames$Rows;)V"⟩
abbrev cX6_begin : ByteArray := prog_8_method_2_code
def yX6_begin : MethodName := ⟨RX6, "begin", "(I)V"⟩
abbrev cX6_weightAt : ByteArray := prog_8_method_3_code
def yX6_weightAt : MethodName := ⟨RX6, "weightAt", "(I)J"⟩
abbrev cX6_bySwaps : ByteArray := prog_8_method_4_code
def yX6_bySwaps : MethodName := ⟨RX6, "bySwaps", "()V"⟩
abbrev cX6_byLots : ByteArray := prog_8_method_5_code
def yX6_byLots : MethodName := ⟨RX6, "byLots", "()V"⟩
abbrev cX6_addLots : ByteArray := prog_8_method_6_code
def yX6_addLots : MethodName := ⟨RX6, "addLots", "(I)V"⟩
abbrev cX6_isOfNeighbours : ByteArray := prog_8_method_7_code
def yX6_isOfNeighbours : MethodName := ⟨RX6, "isOfNeighbours", "(I)Z"⟩
abbrev cX6_addLater : ByteArray := prog_8_method_8_code
def yX6_addLater : MethodName := ⟨RX6, "addLater", "(IJ)V"⟩
abbrev cX6_goOn : ByteArray := prog_8_method_9_code
def yX6_goOn : MethodName := ⟨RX6, "goOn", "()V"⟩
def RX7 : String := "DrawerNames$State"
def TX7 : u_T := fun k => match k with
  | 0 => ("DrawerNames$State", "row", "I", false)
  | 1 => ("DrawerNames$State", "clue", "I", false)
  | _ => ("DrawerNames$State", "nights", "I", false)
def tyX7 : Nat → FieldType := fun k => match k with
  | 0 => .int
  | 1 => .int
  | _ => .int
abbrev wsX70 : List Cond := u_ws RX7 TX7 3
theorem nmX7 : ∀ a, a < 3 → ∀ b, b < 3 → a ≠ b → (TX7 a).2.1 ≠ (TX7 b).2.1 := by decide +kernel
theorem tyX7_ok : ∀ k, k < 3 → parseFieldDescriptor (TX7 k).2.2.1 = some (tyX7 k) := by decide +kernel
abbrev cX7_init : ByteArray := prog_9_method_1_code
def yX7_init : MethodName := ⟨RX7, "<init>", "()V"⟩
abbrev cX7_become : ByteArray := prog_9_method_2_code
def yX7_become : MethodName := ⟨RX7, "become", "(LDrawerNames$State;)V"⟩
def RX8 : String := "DrawerNames$Tray"
def TX8 : u_T := fun k => match k with
  | 0 => ("DrawerNames$Tray", "sort", "I", false)
  | 1 => ("DrawerNames$Tray", "size", "I", false)
  | _ => ("DrawerNames$Tray", "values", "[J", true)
def tyX8 : Nat → FieldType := fun k => match k with
  | 0 => .int
  | 1 => .int
  | _ => .array .long
abbrev wsX80 : List Cond := u_ws RX8 TX8 3
theorem nmX8 : ∀ a, a < 3 → ∀ b, b < 3 → a ≠ b → (TX8 a).2.1 ≠ (TX8 b).2.1 := by decide +kernel
theorem tyX8_ok : ∀ k, k < 3 → parseFieldDescriptor (TX8 k).2.2.1 = some (tyX8 k) := by decide +kernel
abbrev cX8_init : ByteArray := prog_10_method_1_code
def yX8_init : MethodName := ⟨RX8, "<init>", "()V"⟩
abbrev cX8_isMissing : ByteArray := prog_10_method_2_code
def yX8_isMissing : MethodName := ⟨RX8, "isMissing", "()Z"⟩
abbrev cX8_empty : ByteArray := prog_10_method_3_code
def yX8_empty : MethodName := ⟨RX8, "empty", "(II)V"⟩
abbrev cX8_valueAt : ByteArray := prog_10_method_4_code
def yX8_valueAt : MethodName := ⟨RX8, "valueAt", "(I)J"⟩
abbrev cX8_put : ByteArray := prog_10_method_5_code
def yX8_put : MethodName := ⟨RX8, "put", "(IJ)J"⟩
abbrev cX8_cutToSort : ByteArray := prog_10_method_6_code
def yX8_cutToSort : MethodName := ⟨RX8, "cutToSort", "(J)J"⟩
def RX9 : String := "DrawerNames$Visits"
def TX9 : u_T := fun k => match k with
  | 0 => ("DrawerNames$Visits", "all", "LDrawerNames$Rows;", true)
  | 1 => ("DrawerNames$Visits", "table", "LDrawerNames$Desk;", false)
  | 2 => ("DrawerNames$Visits", "moves", "[B", false)
  | 3 => ("DrawerNames$Visits", "masks", "[B", false)
  | 4 => ("DrawerNames$Visits", "movesOfClue", "I", false)
  | 5 => ("DrawerNames$Visits", "kept", "[Z", true)
  | 6 => ("DrawerNames$Visits", "facts", "[I", true)
  | 7 => ("DrawerNames$Visits", "path", "[I", true)
  | 8 => ("DrawerNames$Visits", "length", "I", false)
  | _ => ("DrawerNames$Visits", "free", "Z", false)
def tyX9 : Nat → FieldType := fun k => match k with
  | 0 => .object "DrawerNames$Rows"
  | 1 => .object "DrawerNames$Desk"
  | 2 => .array .byte
  | 3 => .array .byte
  | 4 => .int
  | 5 => .array .boolean
  | 6 => .array .int
  | 7 => .array .int
  | 8 => .int
  | _ => .boolean
abbrev wsX90 : List Cond := u_ws RX9 TX9 10
theorem nmX9 : ∀ a, a < 10 → ∀ b, b < 10 → a ≠ b → (TX9 a).2.1 ≠ (TX9 b).2.1 := by decide +kernel
theorem tyX9_ok : ∀ k, k < 10 → parseFieldDescriptor (TX9 k).2.2.1 = some (tyX9 k) := by decide +kernel
abbrev cX9_init : ByteArray := prog_11_method_1_code
def yX9_init : MethodName := ⟨RX9, "<init>", "(LDrawerNames$Rows;)V"⟩
abbrev cX9_sitAt : ByteArray := prog_11_method_2_code
def yX9_sitAt : MethodName := ⟨RX9, "sitAt", "(LDrawerNames$Desk;)V"⟩
abbrev cX9_prepare : ByteArray := prog_11_method_3_code
def yX9_prepare : MethodName := ⟨RX9, "prepare", "(I)V"⟩
abbrev cX9_goalOf : ByteArray := prog_11_method_4_code
def yX9_goalOf : MethodName := ⟨RX9, "goalOf", "(I)I"⟩
abbrev cX9_maskOf : ByteArray := prog_11_method_5_code
def yX9_maskOf : MethodName := ⟨RX9, "maskOf", "(II)I"⟩
abbrev cX9_go : ByteArray := prog_11_method_6_code
def yX9_go : MethodName := ⟨RX9, "go", "(III)V"⟩
abbrev cX9_openedAt : ByteArray := prog_11_method_7_code
def yX9_openedAt : MethodName := ⟨RX9, "openedAt", "(I)I"⟩
abbrev cX9_nextMove : ByteArray := prog_11_method_8_code
def yX9_nextMove : MethodName := ⟨RX9, "nextMove", "()I"⟩
def RX10 : String := "DrawerNames$Ways"
def TX10 : u_T := fun k => match k with
  | 0 => ("DrawerNames$Ways", "all", "LDrawerNames$Rows;", true)
  | 1 => ("DrawerNames$Ways", "visits", "LDrawerNames$Visits;", true)
  | 2 => ("DrawerNames$Ways", "steps", "[I", false)
  | 3 => ("DrawerNames$Ways", "queue", "[I", false)
  | _ => ("DrawerNames$Ways", "queued", "I", false)
def tyX10 : Nat → FieldType := fun k => match k with
  | 0 => .object "DrawerNames$Rows"
  | 1 => .object "DrawerNames$Visits"
  | 2 => .array .int
  | 3 => .array .int
  | _ => .int
abbrev wsX100 : List Cond := u_ws RX10 TX10 5
theorem nmX10 : ∀ a, a < 5 → ∀ b, b < 5 → a ≠ b → (TX10 a).2.1 ≠ (TX10 b).2.1 := by decide +kernel
theorem tyX10_ok : ∀ k, k < 5 → parseFieldDescriptor (TX10 k).2.2.1 = some (tyX10 k) := by decide +kernel
abbrev cX10_init : ByteArray := prog_12_method_1_code
def yX10_init : MethodName := ⟨RX10, "<init>", "(LDrawerNames$Rows;LDrawerNames$Visits;)V"⟩
abbrev cX10_measure : ByteArray := prog_12_method_2_code
def yX10_measure : MethodName := ⟨RX10, "measure", "(II)V"⟩
abbrev cX10_reachNeighbours : ByteArray := prog_12_method_3_code
def yX10_reachNeighbours : MethodName := ⟨RX10, "reachNeighbours", "(I)V"⟩
abbrev cX10_reach : ByteArray := prog_12_method_4_code
def yX10_reach : MethodName := ⟨RX10, "reach", "(II)V"⟩
abbrev cX10_stepsFrom : ByteArray := prog_12_method_5_code
def yX10_stepsFrom : MethodName := ⟨RX10, "stepsFrom", "(I)I"⟩
abbrev cX10_pairFrom : ByteArray := prog_12_method_6_code
def yX10_pairFrom : MethodName := ⟨RX10, "pairFrom", "(I)I"⟩
def RX11 : String := "DrawerNames"
def TX11 : u_T := fun k => match k with
  | 0 => ("DrawerNames", "tape", "[B", true)
  | 1 => ("DrawerNames", "tapeLength", "I", false)
  | 2 => ("DrawerNames", "reader", "LDrawerNames$Reader;", true)
  | 3 => ("DrawerNames", "table", "LDrawerNames$Desk;", false)
  | 4 => ("DrawerNames", "now", "LDrawerNames$State;", true)
  | 5 => ("DrawerNames", "before", "LDrawerNames$State;", true)
  | 6 => ("DrawerNames", "judged", "LDrawerNames$State;", true)
  | 7 => ("DrawerNames", "undone", "[LDrawerNames$State;", true)
  | 8 => ("DrawerNames", "undoable", "I", false)
  | 9 => ("DrawerNames", "drawn", "I", false)
  | 10 => ("DrawerNames", "trays", "[LDrawerNames$Tray;", true)
  | 11 => ("DrawerNames", "pictures", "[LDrawerNames$Picture;", true)
  | 12 => ("DrawerNames", "all", "LDrawerNames$Rows;", true)
  | 13 => ("DrawerNames", "visits", "LDrawerNames$Visits;", true)
  | 14 => ("DrawerNames", "ways", "LDrawerNames$Ways;", true)
  | 15 => ("DrawerNames", "spread", "LDrawerNames$Spread;", true)
  | 16 => ("DrawerNames", "lying", "[I", true)
  | _ => ("DrawerNames", "bounds", "[J", true)
def tyX11 : Nat → FieldType := fun k => match k with
  | 0 => .array .byte
  | 1 => .int
  | 2 => .object "DrawerNames$Reader"
  | 3 => .object "DrawerNames$Desk"
  | 4 => .object "DrawerNames$State"
  | 5 => .object "DrawerNames$State"
  | 6 => .object "DrawerNames$State"
  | 7 => .array (.object "DrawerNames$State")
  | 8 => .int
  | 9 => .int
  | 10 => .array (.object "DrawerNames$Tray")
  | 11 => .array (.object "DrawerNames$Picture")
  | 12 => .object "DrawerNames$Rows"
  | 13 => .object "DrawerNames$Visits"
  | 14 => .object "DrawerNames$Ways"
  | 15 => .object "DrawerNames$Spread"
  | 16 => .array .int
  | _ => .array .long
abbrev wsX110 : List Cond := u_ws RX11 TX11 18
theorem nmX11 : ∀ a, a < 18 → ∀ b, b < 18 → a ≠ b → (TX11 a).2.1 ≠ (TX11 b).2.1 := by decide +kernel
theorem tyX11_ok : ∀ k, k < 18 → parseFieldDescriptor (TX11 k).2.2.1 = some (tyX11 k) := by decide +kernel
abbrev cX11_init : ByteArray := prog_1_method_1_code
def yX11_init : MethodName := ⟨RX11, "<init>", "()V"⟩
abbrev cX11_feed : ByteArray := prog_1_method_2_code
def yX11_feed : MethodName := ⟨RX11, "feed", "(IIIII)I"⟩
abbrev cX11_putOnTape : ByteArray := prog_1_method_3_code
def yX11_putOnTape : MethodName := ⟨RX11, "putOnTape", "(I)V"⟩
abbrev cX11_desk : ByteArray := prog_1_method_4_code
def yX11_desk : MethodName := ⟨RX11, "desk", "(I)I"⟩
abbrev cX11_sitAt : ByteArray := prog_1_method_5_code
def yX11_sitAt : MethodName := ⟨RX11, "sitAt", "(LDrawerNames$Desk;)V"⟩
abbrev cX11_fault : ByteArray := prog_1_method_6_code
def yX11_fault : MethodName := ⟨RX11, "fault", "(I)I"⟩
abbrev cX11_drawer : ByteArray := prog_1_method_7_code
def yX11_drawer : MethodName := ⟨RX11, "drawer", "(II)I"⟩
abbrev cX11_isDrawer : ByteArray := prog_1_method_8_code
def yX11_isDrawer : MethodName := ⟨RX11, "isDrawer", "(I)Z"⟩
abbrev cX11_isOneOf : ByteArray := prog_1_method_9_code
def yX11_isOneOf : MethodName := ⟨RX11, "isOneOf", "(II)Z"⟩
abbrev cX11_visit : ByteArray := prog_1_method_10_code
def yX11_visit : MethodName := ⟨RX11, "visit", "(II)I"⟩
abbrev cX11_opened : ByteArray := prog_1_method_11_code
def yX11_opened : MethodName := ⟨RX11, "opened", "(II)I"⟩
abbrev cX11_letOff : ByteArray := prog_1_method_12_code
def yX11_letOff : MethodName := ⟨RX11, "letOff", "()I"⟩
abbrev cX11_howManyFree : ByteArray := prog_1_method_13_code
def yX11_howManyFree : MethodName := ⟨RX11, "howManyFree", "()I"⟩
abbrev cX11_swap : ByteArray := prog_1_method_14_code
def yX11_swap : MethodName := ⟨RX11, "swap", "(II)I"⟩
abbrev cX11_canSwap : ByteArray := prog_1_method_15_code
def yX11_canSwap : MethodName := ⟨RX11, "canSwap", "(II)Z"⟩
abbrev cX11_nights : ByteArray := prog_1_method_16_code
def yX11_nights : MethodName := ⟨RX11, "nights", "(I)I"⟩
abbrev cX11_rowBehind : ByteArray := prog_1_method_17_code
def yX11_rowBehind : MethodName := ⟨RX11, "rowBehind", "(J)I"⟩
abbrev cX11_clue : ByteArray := prog_1_method_18_code
def yX11_clue : MethodName := ⟨RX11, "clue", "(I)I"⟩
abbrev cX11_undo : ByteArray := prog_1_method_19_code
def yX11_undo : MethodName := ⟨RX11, "undo", "(I)I"⟩
abbrev cX11_keepForUndoing : ByteArray := prog_1_method_20_code
def yX11_keepForUndoing : MethodName := ⟨RX11, "keepForUndoing", "(LDrawerNames$State;)V"⟩
abbrev cX11_forgetEldest : ByteArray := prog_1_method_21_code
def yX11_forgetEldest : MethodName := ⟨RX11, "forgetEldest", "()V"⟩
abbrev cX11_judge : ByteArray := prog_1_method_22_code
def yX11_judge : MethodName := ⟨RX11, "judge", "(II)I"⟩
abbrev cX11_doDeeds : ByteArray := prog_1_method_23_code
def yX11_doDeeds : MethodName := ⟨RX11, "doDeeds", "(LDrawerNames$State;LDrawerNames$Tray;)I"⟩
abbrev cX11_doDeed : ByteArray := prog_1_method_24_code
def yX11_doDeed : MethodName := ⟨RX11, "doDeed", "(LDrawerNames$State;J)Z"⟩
abbrev cX11_doSwap : ByteArray := prog_1_method_25_code
def yX11_doSwap : MethodName := ⟨RX11, "doSwap", "(LDrawerNames$State;II)Z"⟩
abbrev cX11_perform : ByteArray := prog_1_method_26_code
def yX11_perform : MethodName := ⟨RX11, "perform", "(I)I"⟩
abbrev cX11_year : ByteArray := prog_1_method_27_code
def yX11_year : MethodName := ⟨RX11, "year", "(II)I"⟩
abbrev cX11_drawDeed : ByteArray := prog_1_method_28_code
def yX11_drawDeed : MethodName := ⟨RX11, "drawDeed", "()I"⟩
abbrev cX11_draw : ByteArray := prog_1_method_29_code
def yX11_draw : MethodName := ⟨RX11, "draw", "()I"⟩
abbrev cX11_lies : ByteArray := prog_1_method_30_code
def yX11_lies : MethodName := ⟨RX11, "lies", "(I)I"⟩
abbrev cX11_round : ByteArray := prog_1_method_31_code
def yX11_round : MethodName := ⟨RX11, "round", "(II)I"⟩
abbrev cX11_power : ByteArray := prog_1_method_32_code
def yX11_power : MethodName := ⟨RX11, "power", "(J)I"⟩
abbrev cX11_roots : ByteArray := prog_1_method_33_code
def yX11_roots : MethodName := ⟨RX11, "roots", "(I)I"⟩
abbrev cX11_bounded : ByteArray := prog_1_method_34_code
def yX11_bounded : MethodName := ⟨RX11, "bounded", "(II)J"⟩
abbrev cX11_boundedBy : ByteArray := prog_1_method_35_code
def yX11_boundedBy : MethodName := ⟨RX11, "boundedBy", "(II)J"⟩
abbrev cX11_isAim : ByteArray := prog_1_method_36_code
def yX11_isAim : MethodName := ⟨RX11, "isAim", "(I)Z"⟩
abbrev cX11_fewest : ByteArray := prog_1_method_37_code
def yX11_fewest : MethodName := ⟨RX11, "fewest", "(I)I"⟩
abbrev cX11_way : ByteArray := prog_1_method_38_code
def yX11_way : MethodName := ⟨RX11, "way", "(II)I"⟩
abbrev cX11_rows : ByteArray := prog_1_method_39_code
def yX11_rows : MethodName := ⟨RX11, "rows", "(II)J"⟩
abbrev cX11_weightOf : ByteArray := prog_1_method_40_code
def yX11_weightOf : MethodName := ⟨RX11, "weightOf", "(I)J"⟩
abbrev cX11_ofAll : ByteArray := prog_1_method_41_code
def yX11_ofAll : MethodName := ⟨RX11, "ofAll", "(I)I"⟩
abbrev cX11_ofOne : ByteArray := prog_1_method_42_code
def yX11_ofOne : MethodName := ⟨RX11, "ofOne", "(I)I"⟩
abbrev cX11_just : ByteArray := prog_1_method_43_code
def yX11_just : MethodName := ⟨RX11, "just", "(I)I"⟩
abbrev cX11_rowsWithJust : ByteArray := prog_1_method_44_code
def yX11_rowsWithJust : MethodName := ⟨RX11, "rowsWithJust", "(I)I"⟩
abbrev cX11_at : ByteArray := prog_1_method_45_code
def yX11_at : MethodName := ⟨RX11, "at", "(J)I"⟩
abbrev cX11_comesRound : ByteArray := prog_1_method_46_code
def yX11_comesRound : MethodName := ⟨RX11, "comesRound", "()I"⟩
abbrev cX11_first : ByteArray := prog_1_method_47_code
def yX11_first : MethodName := ⟨RX11, "first", "(I)I"⟩
abbrev cX11_often : ByteArray := prog_1_method_48_code
def yX11_often : MethodName := ⟨RX11, "often", "(IJ)J"⟩
abbrev cX11_hitsWithin : ByteArray := prog_1_method_49_code
def yX11_hitsWithin : MethodName := ⟨RX11, "hitsWithin", "(II)I"⟩
abbrev cX11_found : ByteArray := prog_1_method_50_code
def yX11_found : MethodName := ⟨RX11, "found", "(II)I"⟩
abbrev cX11_names : ByteArray := prog_1_method_51_code
def yX11_names : MethodName := ⟨RX11, "names", "(III)I"⟩
abbrev cX11_look : ByteArray := prog_1_method_52_code
def yX11_look : MethodName := ⟨RX11, "look", "(II)I"⟩
abbrev cX11_mostLying : ByteArray := prog_1_method_53_code
def yX11_mostLying : MethodName := ⟨RX11, "mostLying", "(I)I"⟩
abbrev cX11_refusalOfFound : ByteArray := prog_1_method_54_code
def yX11_refusalOfFound : MethodName := ⟨RX11, "refusalOfFound", "(III)I"⟩
abbrev cX11_refusalOfNumbers : ByteArray := prog_1_method_55_code
def yX11_refusalOfNumbers : MethodName := ⟨RX11, "refusalOfNumbers", "(LDrawerNames$Tray;II)I"⟩
abbrev cX11_gatherFound : ByteArray := prog_1_method_56_code
def yX11_gatherFound : MethodName := ⟨RX11, "gatherFound", "(LDrawerNames$Tray;I)I"⟩
abbrev cX11_countLying : ByteArray := prog_1_method_57_code
def yX11_countLying : MethodName := ⟨RX11, "countLying", "(I)V"⟩
abbrev cX11_fits : ByteArray := prog_1_method_58_code
def yX11_fits : MethodName := ⟨RX11, "fits", "(LDrawerNames$Tray;II)Z"⟩
abbrev cX11_clues : ByteArray := prog_1_method_59_code
def yX11_clues : MethodName := ⟨RX11, "clues", "(I)I"⟩
abbrev cX11_wereLetOff : ByteArray := prog_1_method_60_code
def yX11_wereLetOff : MethodName := ⟨RX11, "wereLetOff", "(LDrawerNames$Tray;I)Z"⟩
abbrev cX11_forces : ByteArray := prog_1_method_61_code
def yX11_forces : MethodName := ⟨RX11, "forces", "(I)I"⟩
abbrev cX11_best : ByteArray := prog_1_method_62_code
def yX11_best : MethodName := ⟨RX11, "best", "(I)I"⟩
abbrev cX11_pairTo : ByteArray := prog_1_method_63_code
def yX11_pairTo : MethodName := ⟨RX11, "pairTo", "(I)I"⟩
abbrev cX11_chance : ByteArray := prog_1_method_64_code
def yX11_chance : MethodName := ⟨RX11, "chance", "(III)I"⟩
abbrev cX11_mean : ByteArray := prog_1_method_65_code
def yX11_mean : MethodName := ⟨RX11, "mean", "(II)I"⟩
abbrev cX11_drawLots : ByteArray := prog_1_method_66_code
def yX11_drawLots : MethodName := ⟨RX11, "drawLots", "(I)J"⟩
abbrev cX11_inLowestTerms : ByteArray := prog_1_method_67_code
def yX11_inLowestTerms : MethodName := ⟨RX11, "inLowestTerms", "(JJI)I"⟩
abbrev cX11_greatestDivisor : ByteArray := prog_1_method_68_code
def yX11_greatestDivisor : MethodName := ⟨RX11, "greatestDivisor", "(JJ)J"⟩
abbrev cX11_numbers : ByteArray := prog_1_method_69_code
def yX11_numbers : MethodName := ⟨RX11, "numbers", "(III)I"⟩
abbrev cX11_write : ByteArray := prog_1_method_70_code
def yX11_write : MethodName := ⟨RX11, "write", "(IIJ)J"⟩
abbrev cX11_lists : ByteArray := prog_1_method_71_code
def yX11_lists : MethodName := ⟨RX11, "lists", "(II)I"⟩
abbrev cX11_image : ByteArray := prog_1_method_72_code
def yX11_image : MethodName := ⟨RX11, "image", "(I)I"⟩
abbrev cX11_restore : ByteArray := prog_1_method_73_code
def yX11_restore : MethodName := ⟨RX11, "restore", "(I)I"⟩
abbrev cX11_count : ByteArray := prog_1_method_74_code
def yX11_count : MethodName := ⟨RX11, "count", "(I)I"⟩
def RX12 : String := "DrawerNamesModel"
def TX12 : u_T := fun k => match k with
  | 0 => ("DrawerNamesModel", "thrown", "I", false)
  | 1 => ("DrawerNamesModel", "all", "[I", true)
  | 2 => ("DrawerNamesModel", "hasImage", "[Z", true)
  | 3 => ("DrawerNamesModel", "tape", "[I", true)
  | 4 => ("DrawerNamesModel", "fresh", "[I", true)
  | 5 => ("DrawerNamesModel", "taped", "I", false)
  | 6 => ("DrawerNamesModel", "at", "I", false)
  | 7 => ("DrawerNamesModel", "behind", "I", false)
  | 8 => ("DrawerNamesModel", "size", "I", false)
  | 9 => ("DrawerNamesModel", "kind", "I", false)
  | 10 => ("DrawerNamesModel", "number", "I", false)
  | 11 => ("DrawerNamesModel", "wrong", "I", false)
  | 12 => ("DrawerNamesModel", "wrongAt", "I", false)
  | 13 => ("DrawerNamesModel", "faultKind", "I", false)
  | 14 => ("DrawerNamesModel", "faultPlace", "I", false)
  | 15 => ("DrawerNamesModel", "named1", "[I", true)
  | 16 => ("DrawerNamesModel", "lying", "[I", true)
  | 17 => ("DrawerNamesModel", "rowMany1", "I", false)
  | 18 => ("DrawerNamesModel", "reckoned", "[I", true)
  | 19 => ("DrawerNamesModel", "words", "[I", true)
  | 20 => ("DrawerNamesModel", "visited", "[I", true)
  | 21 => ("DrawerNamesModel", "visitedMany", "I", false)
  | 22 => ("DrawerNamesModel", "isLet", "Z", false)
  | 23 => ("DrawerNamesModel", "was", "[I", true)
  | 24 => ("DrawerNamesModel", "toldWhy", "I", false)
  | 25 => ("DrawerNamesModel", "x", "I", false)
  | 26 => ("DrawerNamesModel", "waysOf", "[J", true)
  | 27 => ("DrawerNamesModel", "swapOf", "[I", true)
  | 28 => ("DrawerNamesModel", "let", "[I", true)
  | 29 => ("DrawerNamesModel", "then", "[I", true)
  | 30 => ("DrawerNamesModel", "far", "[I", true)
  | 31 => ("DrawerNamesModel", "farOther", "[I", true)
  | 32 => ("DrawerNamesModel", "swapMany", "I", false)
  | 33 => ("DrawerNamesModel", "many", "[J", true)
  | 34 => ("DrawerNamesModel", "manyThen", "[J", true)
  | 35 => ("DrawerNamesModel", "line", "[I", true)
  | 36 => ("DrawerNamesModel", "lineMany", "I", false)
  | 37 => ("DrawerNamesModel", "lain", "[I", true)
  | 38 => ("DrawerNamesModel", "rowSort", "[I", true)
  | 39 => ("DrawerNamesModel", "rowMany", "[I", true)
  | _ => ("DrawerNamesModel", "numbers", "[J", true)
def tyX12 : Nat → FieldType := fun k => match k with
  | 0 => .int
  | 1 => .array .int
  | 2 => .array .boolean
  | 3 => .array .int
  | 4 => .array .int
  | 5 => .int
  | 6 => .int
  | 7 => .int
  | 8 => .int
  | 9 => .int
  | 10 => .int
  | 11 => .int
  | 12 => .int
  | 13 => .int
  | 14 => .int
  | 15 => .array .int
  | 16 => .array .int
  | 17 => .int
  | 18 => .array .int
  | 19 => .array .int
  | 20 => .array .int
  | 21 => .int
  | 22 => .boolean
  | 23 => .array .int
  | 24 => .int
  | 25 => .int
  | 26 => .array .long
  | 27 => .array .int
  | 28 => .array .int
  | 29 => .array .int
  | 30 => .array .int
  | 31 => .array .int
  | 32 => .int
  | 33 => .array .long
  | 34 => .array .long
  | 35 => .array .int
  | 36 => .int
  | 37 => .array .int
  | 38 => .array .int
  | 39 => .array .int
  | _ => .array .long
abbrev wsX120 : List Cond := u_ws RX12 TX12 41
theorem nmX12 : ∀ a, a < 41 → ∀ b, b < 41 → a ≠ b → (TX12 a).2.1 ≠ (TX12 b).2.1 := by decide +kernel
theorem tyX12_ok : ∀ k, k < 41 → parseFieldDescriptor (TX12 k).2.2.1 = some (tyX12 k) := by decide +kernel
abbrev cX12_within : ByteArray := prog_14_method_2_code
def yX12_within : MethodName := ⟨RX12, "within", "(JJJ)Z"⟩
abbrev cX12_init : ByteArray := prog_14_method_3_code
def yX12_init : MethodName := ⟨RX12, "<init>", "()V"⟩
abbrev cX12_plain : ByteArray := prog_14_method_4_code
def yX12_plain : MethodName := ⟨RX12, "plain", "([I)V"⟩
abbrev cX12_feed : ByteArray := prog_14_method_5_code
def yX12_feed : MethodName := ⟨RX12, "feed", "(IIIII)I"⟩
abbrev cX12_see : ByteArray := prog_14_method_6_code
def yX12_see : MethodName := ⟨RX12, "see", "(I)I"⟩
abbrev cX12_isSmall : ByteArray := prog_14_method_7_code
def yX12_isSmall : MethodName := ⟨RX12, "isSmall", "(I)Z"⟩
abbrev cX12_isDigit : ByteArray := prog_14_method_8_code
def yX12_isDigit : MethodName := ⟨RX12, "isDigit", "(I)Z"⟩
abbrev cX12_keyAt : ByteArray := prog_14_method_9_code
def yX12_keyAt : MethodName := ⟨RX12, "keyAt", "()I"⟩
abbrev cX12_next : ByteArray := prog_14_method_10_code
def yX12_next : MethodName := ⟨RX12, "next", "()V"⟩
abbrev cX12_fails : ByteArray := prog_14_method_11_code
def yX12_fails : MethodName := ⟨RX12, "fails", "(I)V"⟩
abbrev cX12_is : ByteArray := prog_14_method_12_code
def yX12_is : MethodName := ⟨RX12, "is", "(I)Z"⟩
abbrev cX12_eats : ByteArray := prog_14_method_13_code
def yX12_eats : MethodName := ⟨RX12, "eats", "(I)Z"⟩
abbrev cX12_takes : ByteArray := prog_14_method_14_code
def yX12_takes : MethodName := ⟨RX12, "takes", "(II)I"⟩
abbrev cX12_isIn : ByteArray := prog_14_method_15_code
def yX12_isIn : MethodName := ⟨RX12, "isIn", "(JI)Z"⟩
abbrev cX12_wordOf : ByteArray := prog_14_method_16_code
def yX12_wordOf : MethodName := ⟨RX12, "wordOf", "(I)I"⟩
abbrev cX12_codes : ByteArray := prog_14_method_17_code
def yX12_codes : MethodName := ⟨RX12, "codes", "(I)V"⟩
abbrev cX12_goesIn : ByteArray := prog_14_method_18_code
def yX12_goesIn : MethodName := ⟨RX12, "goesIn", "(I)Z"⟩
abbrev cX12_readAtom : ByteArray := prog_14_method_19_code
def yX12_readAtom : MethodName := ⟨RX12, "readAtom", "(I)V"⟩
abbrev cX12_readIf : ByteArray := prog_14_method_20_code
def yX12_readIf : MethodName := ⟨RX12, "readIf", "(I)V"⟩
abbrev cX12_readTerm : ByteArray := prog_14_method_21_code
def yX12_readTerm : MethodName := ⟨RX12, "readTerm", "(I)V"⟩
abbrev cX12_readSum : ByteArray := prog_14_method_22_code
def yX12_readSum : MethodName := ⟨RX12, "readSum", "(I)V"⟩
abbrev cX12_readUnit : ByteArray := prog_14_method_23_code
def yX12_readUnit : MethodName := ⟨RX12, "readUnit", "(I)V"⟩
abbrev cX12_readBoth : ByteArray := prog_14_method_24_code
def yX12_readBoth : MethodName := ⟨RX12, "readBoth", "(I)V"⟩
abbrev cX12_readTruth : ByteArray := prog_14_method_25_code
def yX12_readTruth : MethodName := ⟨RX12, "readTruth", "(I)V"⟩
abbrev cX12_named : ByteArray := prog_14_method_26_code
def yX12_named : MethodName := ⟨RX12, "named", "(III)I"⟩
abbrev cX12_readDrawer : ByteArray := prog_14_method_27_code
def yX12_readDrawer : MethodName := ⟨RX12, "readDrawer", "(I)V"⟩
abbrev cX12_readLaw : ByteArray := prog_14_method_28_code
def yX12_readLaw : MethodName := ⟨RX12, "readLaw", "(I)V"⟩
abbrev cX12_readLine : ByteArray := prog_14_method_29_code
def yX12_readLine : MethodName := ⟨RX12, "readLine", "()V"⟩
abbrev cX12_closes : ByteArray := prog_14_method_30_code
def yX12_closes : MethodName := ⟨RX12, "closes", "()V"⟩
abbrev cX12_isWhole : ByteArray := prog_14_method_31_code
def yX12_isWhole : MethodName := ⟨RX12, "isWhole", "(I)Z"⟩
abbrev cX12_desk : ByteArray := prog_14_method_32_code
def yX12_desk : MethodName := ⟨RX12, "desk", "(I)I"⟩
abbrev cX12_fault : ByteArray := prog_14_method_33_code
def yX12_fault : MethodName := ⟨RX12, "fault", "(I)I"⟩
abbrev cX12_laysAll : ByteArray := prog_14_method_34_code
def yX12_laysAll : MethodName := ⟨RX12, "laysAll", "()V"⟩
abbrev cX12_goesAll : ByteArray := prog_14_method_35_code
def yX12_goesAll : MethodName := ⟨RX12, "goesAll", "(II)V"⟩
abbrev cX12_nameIn : ByteArray := prog_14_method_36_code
def yX12_nameIn : MethodName := ⟨RX12, "nameIn", "(II)I"⟩
abbrev cX12_numberNow : ByteArray := prog_14_method_37_code
def yX12_numberNow : MethodName := ⟨RX12, "numberNow", "()I"⟩
abbrev cX12_isDrawer : ByteArray := prog_14_method_38_code
def yX12_isDrawer : MethodName := ⟨RX12, "isDrawer", "(J)Z"⟩
abbrev cX12_bitsOf : ByteArray := prog_14_method_39_code
def yX12_bitsOf : MethodName := ⟨RX12, "bitsOf", "(I)I"⟩
abbrev cX12_between : ByteArray := prog_14_method_40_code
def yX12_between : MethodName := ⟨RX12, "between", "(III)I"⟩
abbrev cX12_reckons : ByteArray := prog_14_method_41_code
def yX12_reckons : MethodName := ⟨RX12, "reckons", "(I)I"⟩
abbrev cX12_goesVisit : ByteArray := prog_14_method_42_code
def yX12_goesVisit : MethodName := ⟨RX12, "goesVisit", "(III)V"⟩
abbrev cX12_letIn : ByteArray := prog_14_method_43_code
def yX12_letIn : MethodName := ⟨RX12, "letIn", "(II)I"⟩
abbrev cX12_letNow : ByteArray := prog_14_method_44_code
def yX12_letNow : MethodName := ⟨RX12, "letNow", "()I"⟩
abbrev cX12_drawer : ByteArray := prog_14_method_45_code
def yX12_drawer : MethodName := ⟨RX12, "drawer", "(II)I"⟩
abbrev cX12_visit : ByteArray := prog_14_method_46_code
def yX12_visit : MethodName := ⟨RX12, "visit", "(II)I"⟩
abbrev cX12_opened : ByteArray := prog_14_method_47_code
def yX12_opened : MethodName := ⟨RX12, "opened", "(II)I"⟩
abbrev cX12_letOff : ByteArray := prog_14_method_48_code
def yX12_letOff : MethodName := ⟨RX12, "letOff", "()I"⟩
abbrev cX12_stores : ByteArray := prog_14_method_49_code
def yX12_stores : MethodName := ⟨RX12, "stores", "()V"⟩
abbrev cX12_isAgain : ByteArray := prog_14_method_50_code
def yX12_isAgain : MethodName := ⟨RX12, "isAgain", "()V"⟩
abbrev cX12_notes : ByteArray := prog_14_method_51_code
def yX12_notes : MethodName := ⟨RX12, "notes", "()V"⟩
abbrev cX12_swapTo : ByteArray := prog_14_method_52_code
def yX12_swapTo : MethodName := ⟨RX12, "swapTo", "(III)I"⟩
abbrev cX12_nightTo : ByteArray := prog_14_method_53_code
def yX12_nightTo : MethodName := ⟨RX12, "nightTo", "(I)I"⟩
abbrev cX12_goesNight : ByteArray := prog_14_method_54_code
def yX12_goesNight : MethodName := ⟨RX12, "goesNight", "()V"⟩
abbrev cX12_canSwap : ByteArray := prog_14_method_55_code
def yX12_canSwap : MethodName := ⟨RX12, "canSwap", "(JJ)Z"⟩
abbrev cX12_swap : ByteArray := prog_14_method_56_code
def yX12_swap : MethodName := ⟨RX12, "swap", "(II)I"⟩
abbrev cX12_nights : ByteArray := prog_14_method_57_code
def yX12_nights : MethodName := ⟨RX12, "nights", "(I)I"⟩
abbrev cX12_clue : ByteArray := prog_14_method_58_code
def yX12_clue : MethodName := ⟨RX12, "clue", "(I)I"⟩
abbrev cX12_undo : ByteArray := prog_14_method_59_code
def yX12_undo : MethodName := ⟨RX12, "undo", "(I)I"⟩
abbrev cX12_whyNot : ByteArray := prog_14_method_60_code
def yX12_whyNot : MethodName := ⟨RX12, "whyNot", "(J)I"⟩
abbrev cX12_does : ByteArray := prog_14_method_61_code
def yX12_does : MethodName := ⟨RX12, "does", "(I)V"⟩
abbrev cX12_tells : ByteArray := prog_14_method_62_code
def yX12_tells : MethodName := ⟨RX12, "tells", "(I)I"⟩
abbrev cX12_noTray : ByteArray := prog_14_method_63_code
def yX12_noTray : MethodName := ⟨RX12, "noTray", "(I)I"⟩
abbrev cX12_judge : ByteArray := prog_14_method_64_code
def yX12_judge : MethodName := ⟨RX12, "judge", "(II)I"⟩
abbrev cX12_perform : ByteArray := prog_14_method_65_code
def yX12_perform : MethodName := ⟨RX12, "perform", "(I)I"⟩
abbrev cX12_draw : ByteArray := prog_14_method_66_code
def yX12_draw : MethodName := ⟨RX12, "draw", "(I)I"⟩
abbrev cX12_drawn : ByteArray := prog_14_method_67_code
def yX12_drawn : MethodName := ⟨RX12, "drawn", "()I"⟩
abbrev cX12_year : ByteArray := prog_14_method_68_code
def yX12_year : MethodName := ⟨RX12, "year", "(II)I"⟩
abbrev cX12_roundOf : ByteArray := prog_14_method_69_code
def yX12_roundOf : MethodName := ⟨RX12, "roundOf", "(II)I"⟩
abbrev cX12_common : ByteArray := prog_14_method_70_code
def yX12_common : MethodName := ⟨RX12, "common", "(II)I"⟩
abbrev cX12_orderOf : ByteArray := prog_14_method_71_code
def yX12_orderOf : MethodName := ⟨RX12, "orderOf", "(I)I"⟩
abbrev cX12_powerOf : ByteArray := prog_14_method_72_code
def yX12_powerOf : MethodName := ⟨RX12, "powerOf", "(II)I"⟩
abbrev cX12_lies : ByteArray := prog_14_method_73_code
def yX12_lies : MethodName := ⟨RX12, "lies", "(I)I"⟩
abbrev cX12_round : ByteArray := prog_14_method_74_code
def yX12_round : MethodName := ⟨RX12, "round", "(II)I"⟩
abbrev cX12_power : ByteArray := prog_14_method_75_code
def yX12_power : MethodName := ⟨RX12, "power", "(J)I"⟩
abbrev cX12_roots : ByteArray := prog_14_method_76_code
def yX12_roots : MethodName := ⟨RX12, "roots", "(I)I"⟩
abbrev cX12_bounded : ByteArray := prog_14_method_77_code
def yX12_bounded : MethodName := ⟨RX12, "bounded", "(II)J"⟩
abbrev cX12_laysLet : ByteArray := prog_14_method_78_code
def yX12_laysLet : MethodName := ⟨RX12, "laysLet", "()V"⟩
abbrev cX12_laysThen : ByteArray := prog_14_method_79_code
def yX12_laysThen : MethodName := ⟨RX12, "laysThen", "()V"⟩
abbrev cX12_isAim : ByteArray := prog_14_method_80_code
def yX12_isAim : MethodName := ⟨RX12, "isAim", "(I)Z"⟩
abbrev cX12_isSo : ByteArray := prog_14_method_81_code
def yX12_isSo : MethodName := ⟨RX12, "isSo", "(II)Z"⟩
abbrev cX12_laysFar : ByteArray := prog_14_method_82_code
def yX12_laysFar : MethodName := ⟨RX12, "laysFar", "(I)I"⟩
abbrev cX12_toldFar : ByteArray := prog_14_method_83_code
def yX12_toldFar : MethodName := ⟨RX12, "toldFar", "(I)I"⟩
abbrev cX12_fewest : ByteArray := prog_14_method_84_code
def yX12_fewest : MethodName := ⟨RX12, "fewest", "(I)I"⟩
abbrev cX12_way : ByteArray := prog_14_method_85_code
def yX12_way : MethodName := ⟨RX12, "way", "(II)I"⟩
abbrev cX12_beginsMany : ByteArray := prog_14_method_86_code
def yX12_beginsMany : MethodName := ⟨RX12, "beginsMany", "()V"⟩
abbrev cX12_isThen : ByteArray := prog_14_method_87_code
def yX12_isThen : MethodName := ⟨RX12, "isThen", "()V"⟩
abbrev cX12_rows : ByteArray := prog_14_method_88_code
def yX12_rows : MethodName := ⟨RX12, "rows", "(II)J"⟩
abbrev cX12_ofAll : ByteArray := prog_14_method_89_code
def yX12_ofAll : MethodName := ⟨RX12, "ofAll", "(I)I"⟩
abbrev cX12_ofOne : ByteArray := prog_14_method_90_code
def yX12_ofOne : MethodName := ⟨RX12, "ofOne", "(I)I"⟩
abbrev cX12_just : ByteArray := prog_14_method_91_code
def yX12_just : MethodName := ⟨RX12, "just", "(I)I"⟩
abbrev cX12_laysLine : ByteArray := prog_14_method_92_code
def yX12_laysLine : MethodName := ⟨RX12, "laysLine", "()V"⟩
abbrev cX12_at : ByteArray := prog_14_method_93_code
def yX12_at : MethodName := ⟨RX12, "at", "(J)I"⟩
abbrev cX12_comesRound : ByteArray := prog_14_method_94_code
def yX12_comesRound : MethodName := ⟨RX12, "comesRound", "()I"⟩
abbrev cX12_first : ByteArray := prog_14_method_95_code
def yX12_first : MethodName := ⟨RX12, "first", "(I)I"⟩
abbrev cX12_often : ByteArray := prog_14_method_96_code
def yX12_often : MethodName := ⟨RX12, "often", "(IJ)J"⟩
abbrev cX12_noFound : ByteArray := prog_14_method_97_code
def yX12_noFound : MethodName := ⟨RX12, "noFound", "(I)I"⟩
abbrev cX12_noOne : ByteArray := prog_14_method_98_code
def yX12_noOne : MethodName := ⟨RX12, "noOne", "(II)I"⟩
abbrev cX12_isFound : ByteArray := prog_14_method_99_code
def yX12_isFound : MethodName := ⟨RX12, "isFound", "(III)Z"⟩
abbrev cX12_laysFound : ByteArray := prog_14_method_100_code
def yX12_laysFound : MethodName := ⟨RX12, "laysFound", "(II)I"⟩
abbrev cX12_found : ByteArray := prog_14_method_101_code
def yX12_found : MethodName := ⟨RX12, "found", "(II)I"⟩
abbrev cX12_names : ByteArray := prog_14_method_102_code
def yX12_names : MethodName := ⟨RX12, "names", "(III)I"⟩
abbrev cX12_look : ByteArray := prog_14_method_103_code
def yX12_look : MethodName := ⟨RX12, "look", "(II)I"⟩
abbrev cX12_clues : ByteArray := prog_14_method_104_code
def yX12_clues : MethodName := ⟨RX12, "clues", "(I)I"⟩
abbrev cX12_forcedTo : ByteArray := prog_14_method_105_code
def yX12_forcedTo : MethodName := ⟨RX12, "forcedTo", "(II)I"⟩
abbrev cX12_firstBy : ByteArray := prog_14_method_106_code
def yX12_firstBy : MethodName := ⟨RX12, "firstBy", "(II)I"⟩
abbrev cX12_otherAt : ByteArray := prog_14_method_107_code
def yX12_otherAt : MethodName := ⟨RX12, "otherAt", "(I)I"⟩
abbrev cX12_laysForce : ByteArray := prog_14_method_108_code
def yX12_laysForce : MethodName := ⟨RX12, "laysForce", "(I)I"⟩
abbrev cX12_forces : ByteArray := prog_14_method_109_code
def yX12_forces : MethodName := ⟨RX12, "forces", "(I)I"⟩
abbrev cX12_best : ByteArray := prog_14_method_110_code
def yX12_best : MethodName := ⟨RX12, "best", "(I)I"⟩
abbrev cX12_laysLikely : ByteArray := prog_14_method_111_code
def yX12_laysLikely : MethodName := ⟨RX12, "laysLikely", "(I)V"⟩
abbrev cX12_wholeOf : ByteArray := prog_14_method_112_code
def yX12_wholeOf : MethodName := ⟨RX12, "wholeOf", "(I)J"⟩
abbrev cX12_commonOf : ByteArray := prog_14_method_113_code
def yX12_commonOf : MethodName := ⟨RX12, "commonOf", "(JJ)J"⟩
abbrev cX12_part : ByteArray := prog_14_method_114_code
def yX12_part : MethodName := ⟨RX12, "part", "(JJI)I"⟩
abbrev cX12_chance : ByteArray := prog_14_method_115_code
def yX12_chance : MethodName := ⟨RX12, "chance", "(III)I"⟩
abbrev cX12_mean : ByteArray := prog_14_method_116_code
def yX12_mean : MethodName := ⟨RX12, "mean", "(II)I"⟩
abbrev cX12_cut : ByteArray := prog_14_method_117_code
def yX12_cut : MethodName := ⟨RX12, "cut", "(JI)J"⟩
abbrev cX12_numbers : ByteArray := prog_14_method_118_code
def yX12_numbers : MethodName := ⟨RX12, "numbers", "(III)I"⟩
abbrev cX12_write : ByteArray := prog_14_method_119_code
def yX12_write : MethodName := ⟨RX12, "write", "(IIJ)J"⟩
abbrev cX12_lists : ByteArray := prog_14_method_120_code
def yX12_lists : MethodName := ⟨RX12, "lists", "(II)I"⟩
abbrev cX12_image : ByteArray := prog_14_method_121_code
def yX12_image : MethodName := ⟨RX12, "image", "(I)I"⟩
abbrev cX12_restore : ByteArray := prog_14_method_122_code
def yX12_restore : MethodName := ⟨RX12, "restore", "(I)I"⟩
abbrev cX12_count : ByteArray := prog_14_method_123_code
def yX12_count : MethodName := ⟨RX12, "count", "(I)I"⟩
def RJx145de : String := "java/io/Serializable"
def RJx9f9b0 : String := "java/lang/CharSequence"
def RJ11 : String := "java/lang/Character"
abbrev cJ11_isValidCodePoint_9a6ad : ByteArray := prog_15_method_11_code
def yJ11_isValidCodePoint_9a6ad : MethodName := ⟨RJ11, "isValidCodePoint", "(I)Z"⟩
abbrev cJ11_highSurrogate_5068e : ByteArray := prog_15_method_28_code
def yJ11_highSurrogate_5068e : MethodName := ⟨RJ11, "highSurrogate", "(I)C"⟩
abbrev cJ11_lowSurrogate_5068e : ByteArray := prog_15_method_29_code
def yJ11_lowSurrogate_5068e : MethodName := ⟨RJ11, "lowSurrogate", "(I)C"⟩
def RJx8e188 : String := "java/lang/Cloneable"
def RJxb160c : String := "java/lang/Comparable"
def RJ6 : String := "java/lang/Integer"
abbrev cJ6_numberOfTrailingZeros_0f7a4 : ByteArray := prog_17_method_48_code
def yJ6_numberOfTrailingZeros_0f7a4 : MethodName := ⟨RJ6, "numberOfTrailingZeros", "(I)I"⟩
abbrev cJ6_bitCount_0f7a4 : ByteArray := prog_17_method_49_code
def yJ6_bitCount_0f7a4 : MethodName := ⟨RJ6, "bitCount", "(I)I"⟩
def RJ9 : String := "java/lang/Math"
abbrev cJ9_floorMod_7cf53 : ByteArray := prog_18_method_50_code
def yJ9_floorMod_7cf53 : MethodName := ⟨RJ9, "floorMod", "(II)I"⟩
abbrev cJ9_max_7cf53 : ByteArray := prog_18_method_65_code
def yJ9_max_7cf53 : MethodName := ⟨RJ9, "max", "(II)I"⟩
abbrev cJ9_max_f86c9 : ByteArray := prog_18_method_66_code
def yJ9_max_f86c9 : MethodName := ⟨RJ9, "max", "(JJ)J"⟩
abbrev cJ9_min_7cf53 : ByteArray := prog_18_method_69_code
def yJ9_min_7cf53 : MethodName := ⟨RJ9, "min", "(II)I"⟩
def RJ0 : String := "java/lang/String"
abbrev cJ0_length_8abf5 : ByteArray := prog_19_method_54_code
def yJ0_length_8abf5 : MethodName := ⟨RJ0, "length", "()I"⟩
abbrev cJ0_charAt_5068e : ByteArray := prog_19_method_56_code
def yJ0_charAt_5068e : MethodName := ⟨RJ0, "charAt", "(I)C"⟩
abbrev cJ0_indexOf_0f7a4 : ByteArray := prog_19_method_79_code
def yJ0_indexOf_0f7a4 : MethodName := ⟨RJ0, "indexOf", "(I)I"⟩
abbrev cJ0_indexOf_7cf53 : ByteArray := prog_19_method_80_code
def yJ0_indexOf_7cf53 : MethodName := ⟨RJ0, "indexOf", "(II)I"⟩
abbrev cJ0_coder_7d493 : ByteArray := prog_19_method_152_code
def yJ0_coder_7d493 : MethodName := ⟨RJ0, "coder", "()B"⟩
abbrev cJ0_isLatin1_aae02 : ByteArray := prog_19_method_154_code
def yJ0_isLatin1_aae02 : MethodName := ⟨RJ0, "isLatin1", "()Z"⟩
abbrev cJ0_checkIndex_df160 : ByteArray := prog_19_method_155_code
def yJ0_checkIndex_df160 : MethodName := ⟨RJ0, "checkIndex", "(II)V"⟩
abbrev cJ0_checkBoundsBeginEnd_23922 : ByteArray := prog_19_method_158_code
def yJ0_checkBoundsBeginEnd_23922 : MethodName := ⟨RJ0, "checkBoundsBeginEnd", "(III)V"⟩
def RJ1 : String := "java/lang/StringLatin1"
abbrev cJ1_charAt_3b067 : ByteArray := prog_20_method_2_code
def yJ1_charAt_3b067 : MethodName := ⟨RJ1, "charAt", "([BI)C"⟩
abbrev cJ1_canEncode_9a6ad : ByteArray := prog_20_method_4_code
def yJ1_canEncode_9a6ad : MethodName := ⟨RJ1, "canEncode", "(I)Z"⟩
abbrev cJ1_indexOf_4cfef : ByteArray := prog_20_method_22_code
def yJ1_indexOf_4cfef : MethodName := ⟨RJ1, "indexOf", "([BIII)I"⟩
abbrev cJ1_indexOfChar_4cfef : ByteArray := prog_20_method_23_code
def yJ1_indexOfChar_4cfef : MethodName := ⟨RJ1, "indexOfChar", "([BIII)I"⟩
def RJ2 : String := "java/lang/StringUTF16"
abbrev cJ2_getChar_3b067 : ByteArray := prog_21_method_5_code
def yJ2_getChar_3b067 : MethodName := ⟨RJ2, "getChar", "([BI)C"⟩
abbrev cJ2_length_9d52b : ByteArray := prog_21_method_6_code
def yJ2_length_9d52b : MethodName := ⟨RJ2, "length", "([B)I"⟩
abbrev cJ2_indexOf_4cfef : ByteArray := prog_21_method_40_code
def yJ2_indexOf_4cfef : MethodName := ⟨RJ2, "indexOf", "([BIII)I"⟩
abbrev cJ2_indexOfChar_4cfef : ByteArray := prog_21_method_47_code
def yJ2_indexOfChar_4cfef : MethodName := ⟨RJ2, "indexOfChar", "([BIII)I"⟩
abbrev cJ2_indexOfCharUnsafe_4cfef : ByteArray := prog_21_method_48_code
def yJ2_indexOfCharUnsafe_4cfef : MethodName := ⟨RJ2, "indexOfCharUnsafe", "([BIII)I"⟩
abbrev cJ2_indexOfSupplementary_4cfef : ByteArray := prog_21_method_49_code
def yJ2_indexOfSupplementary_4cfef : MethodName := ⟨RJ2, "indexOfSupplementary", "([BIII)I"⟩
abbrev cJ2_charAt_3b067 : ByteArray := prog_21_method_83_code
def yJ2_charAt_3b067 : MethodName := ⟨RJ2, "charAt", "([BI)C"⟩
abbrev cJ2_checkIndex_2214a : ByteArray := prog_21_method_91_code
def yJ2_checkIndex_2214a : MethodName := ⟨RJ2, "checkIndex", "(I[B)V"⟩
abbrev cJ2_checkBoundsBeginEnd_d044e : ByteArray := prog_21_method_93_code
def yJ2_checkBoundsBeginEnd_d044e : MethodName := ⟨RJ2, "checkBoundsBeginEnd", "(II[B)V"⟩
def RJ10 : String := "java/lang/System"
def RJxfd54e : String := "java/lang/constant/Constable"
def RJx3cf43 : String := "java/lang/constant/ConstantDesc"
def RJ7 : String := "java/util/Arrays"
abbrev cJ7_fill_d0a16 : ByteArray := prog_23_method_101_code
def yJ7_fill_d0a16 : MethodName := ⟨RJ7, "fill", "([JJ)V"⟩
abbrev cJ7_fill_53178 : ByteArray := prog_23_method_103_code
def yJ7_fill_53178 : MethodName := ⟨RJ7, "fill", "([II)V"⟩
abbrev cJ7_copyOf_59c91 : ByteArray := prog_23_method_123_code
def yJ7_copyOf_59c91 : MethodName := ⟨RJ7, "copyOf", "([II)[I"⟩
def RJ3 : String := "jdk/internal/util/Preconditions"
abbrev cJ3_checkIndex_8e157 : ByteArray := prog_24_method_11_code
def yJ3_checkIndex_8e157 : MethodName := ⟨RJ3, "checkIndex", "(IILjava/util/function/BiFunction;)I"⟩
abbrev cJ3_checkFromToIndex_8c36e : ByteArray := prog_24_method_12_code
def yJ3_checkFromToIndex_8c36e : MethodName := ⟨RJ3, "checkFromToIndex", "(IIILjava/util/function/BiFunction;)I"⟩
def RL : String := "DrawerNamesLaw"
abbrev cL_law : ByteArray := code
def yL_law : MethodName := ⟨RL, "law", "([I)Z"⟩
abbrev vwCl : List vw_C := [(RX0, TX0, 8), (RX1, TX1, 4), (RX2, TX2, 2), (RX3, TX3, 2), (RX4, TX4, 18), (RX5, TX5, 8), (RX6, TX6, 3), (RX7, TX7, 3), (RX8, TX8, 3), (RX9, TX9, 10), (RX10, TX10, 5), (RX11, TX11, 18), (RX12, TX12, 41)]
