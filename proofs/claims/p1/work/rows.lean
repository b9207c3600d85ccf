section
-- ===== PART A: goes FIRST, ahead of the names: the tables' words, and 'selects' of the private methods out of them =====
/-- a private method of a class that the tables say can be made, by its rows of tables_1 -/
def lw_okq (q : MethodName × Nat) : Prop := (q.1.cls ≠ "java/lang/invoke/MethodHandle" ∧ q.1.cls ≠ "java/lang/invoke/VarHandle") ∧ Cond.instantiable q.1.cls q.2 ∈ tables_1 ∧ Cond.privateMethod q.1 ∈ tables_1 ∧ Cond.instanceMethod q.1 ∈ tables_1
theorem lw_p0 : lw_okq (⟨"StowTongue", "addFour", "(I)V"⟩, 10) := ⟨⟨by decide +kernel, by decide +kernel⟩, List.mem_of_getElem? (i := 30) (by decide +kernel), List.mem_of_getElem? (i := 389) (by decide +kernel), List.mem_of_getElem? (i := 390) (by decide +kernel)⟩
theorem lw_p1 : lw_okq (⟨"StowTongue$Lexer", "skipBlanks", "()V"⟩, 10) := ⟨⟨by decide +kernel, by decide +kernel⟩, List.mem_of_getElem? (i := 61) (by decide +kernel), List.mem_of_getElem? (i := 416) (by decide +kernel), List.mem_of_getElem? (i := 417) (by decide +kernel)⟩
theorem lw_p2 : lw_okq (⟨"StowTongue$Lexer", "byteAt", "(I)I"⟩, 10) := ⟨⟨by decide +kernel, by decide +kernel⟩, List.mem_of_getElem? (i := 61) (by decide +kernel), List.mem_of_getElem? (i := 420) (by decide +kernel), List.mem_of_getElem? (i := 421) (by decide +kernel)⟩
theorem lw_p3 : lw_okq (⟨"StowTongue$Lexer", "scanName", "()V"⟩, 10) := ⟨⟨by decide +kernel, by decide +kernel⟩, List.mem_of_getElem? (i := 61) (by decide +kernel), List.mem_of_getElem? (i := 427) (by decide +kernel), List.mem_of_getElem? (i := 428) (by decide +kernel)⟩
theorem lw_p4 : lw_okq (⟨"StowTongue$Lexer", "wordKind", "(J)I"⟩, 10) := ⟨⟨by decide +kernel, by decide +kernel⟩, List.mem_of_getElem? (i := 61) (by decide +kernel), List.mem_of_getElem? (i := 434) (by decide +kernel), List.mem_of_getElem? (i := 435) (by decide +kernel)⟩
theorem lw_p5 : lw_okq (⟨"StowTongue$Lexer", "scanNumber", "()V"⟩, 10) := ⟨⟨by decide +kernel, by decide +kernel⟩, List.mem_of_getElem? (i := 61) (by decide +kernel), List.mem_of_getElem? (i := 438) (by decide +kernel), List.mem_of_getElem? (i := 439) (by decide +kernel)⟩
theorem lw_p6 : lw_okq (⟨"StowTongue$Lexer", "scanText", "()V"⟩, 10) := ⟨⟨by decide +kernel, by decide +kernel⟩, List.mem_of_getElem? (i := 61) (by decide +kernel), List.mem_of_getElem? (i := 448) (by decide +kernel), List.mem_of_getElem? (i := 449) (by decide +kernel)⟩
theorem lw_p7 : lw_okq (⟨"StowTongue$Lexer", "scanSign", "(I)V"⟩, 10) := ⟨⟨by decide +kernel, by decide +kernel⟩, List.mem_of_getElem? (i := 61) (by decide +kernel), List.mem_of_getElem? (i := 458) (by decide +kernel), List.mem_of_getElem? (i := 459) (by decide +kernel)⟩
theorem lw_p8 : lw_okq (⟨"StowTongue$Parser", "function", "()V"⟩, 8) := ⟨⟨by decide +kernel, by decide +kernel⟩, List.mem_of_getElem? (i := 55) (by decide +kernel), List.mem_of_getElem? (i := 535) (by decide +kernel), List.mem_of_getElem? (i := 536) (by decide +kernel)⟩
theorem lw_p9 : lw_okq (⟨"StowTongue$Parser", "take", "(I)V"⟩, 8) := ⟨⟨by decide +kernel, by decide +kernel⟩, List.mem_of_getElem? (i := 55) (by decide +kernel), List.mem_of_getElem? (i := 539) (by decide +kernel), List.mem_of_getElem? (i := 540) (by decide +kernel)⟩
theorem lw_p10 : lw_okq (⟨"StowTongue$Parser", "fail", "()V"⟩, 8) := ⟨⟨by decide +kernel, by decide +kernel⟩, List.mem_of_getElem? (i := 55) (by decide +kernel), List.mem_of_getElem? (i := 544) (by decide +kernel), List.mem_of_getElem? (i := 545) (by decide +kernel)⟩
theorem lw_p11 : lw_okq (⟨"StowTongue$Parser", "takeName", "()J"⟩, 8) := ⟨⟨by decide +kernel, by decide +kernel⟩, List.mem_of_getElem? (i := 55) (by decide +kernel), List.mem_of_getElem? (i := 556) (by decide +kernel), List.mem_of_getElem? (i := 557) (by decide +kernel)⟩
theorem lw_p12 : lw_okq (⟨"StowTongue$Parser", "names", "()I"⟩, 8) := ⟨⟨by decide +kernel, by decide +kernel⟩, List.mem_of_getElem? (i := 55) (by decide +kernel), List.mem_of_getElem? (i := 564) (by decide +kernel), List.mem_of_getElem? (i := 565) (by decide +kernel)⟩
theorem lw_p13 : lw_okq (⟨"StowTongue$Parser", "newName", "(I)V"⟩, 8) := ⟨⟨by decide +kernel, by decide +kernel⟩, List.mem_of_getElem? (i := 55) (by decide +kernel), List.mem_of_getElem? (i := 568) (by decide +kernel), List.mem_of_getElem? (i := 569) (by decide +kernel)⟩
theorem lw_p14 : lw_okq (⟨"StowTongue$Parser", "block", "(I)V"⟩, 8) := ⟨⟨by decide +kernel, by decide +kernel⟩, List.mem_of_getElem? (i := 55) (by decide +kernel), List.mem_of_getElem? (i := 599) (by decide +kernel), List.mem_of_getElem? (i := 600) (by decide +kernel)⟩
theorem lw_p15 : lw_okq (⟨"StowTongue$Parser", "open", "(II)Z"⟩, 8) := ⟨⟨by decide +kernel, by decide +kernel⟩, List.mem_of_getElem? (i := 55) (by decide +kernel), List.mem_of_getElem? (i := 603) (by decide +kernel), List.mem_of_getElem? (i := 604) (by decide +kernel)⟩
def lw_privs_1 : List (MethodName × Nat) := [(⟨"StowTongue", "addFour", "(I)V"⟩, 10), (⟨"StowTongue$Lexer", "skipBlanks", "()V"⟩, 10), (⟨"StowTongue$Lexer", "byteAt", "(I)I"⟩, 10), (⟨"StowTongue$Lexer", "scanName", "()V"⟩, 10), (⟨"StowTongue$Lexer", "wordKind", "(J)I"⟩, 10), (⟨"StowTongue$Lexer", "scanNumber", "()V"⟩, 10), (⟨"StowTongue$Lexer", "scanText", "()V"⟩, 10), (⟨"StowTongue$Lexer", "scanSign", "(I)V"⟩, 10), (⟨"StowTongue$Parser", "function", "()V"⟩, 8), (⟨"StowTongue$Parser", "take", "(I)V"⟩, 8), (⟨"StowTongue$Parser", "fail", "()V"⟩, 8), (⟨"StowTongue$Parser", "takeName", "()J"⟩, 8), (⟨"StowTongue$Parser", "names", "()I"⟩, 8), (⟨"StowTongue$Parser", "newName", "(I)V"⟩, 8), (⟨"StowTongue$Parser", "block", "(I)V"⟩, 8), (⟨"StowTongue$Parser", "open", "(II)Z"⟩, 8)]
theorem lw_r1 : ∀ q ∈ lw_privs_1, lw_okq q := List.forall_mem_cons.mpr ⟨lw_p0, List.forall_mem_cons.mpr ⟨lw_p1, List.forall_mem_cons.mpr ⟨lw_p2, List.forall_mem_cons.mpr ⟨lw_p3, List.forall_mem_cons.mpr ⟨lw_p4, List.forall_mem_cons.mpr ⟨lw_p5, List.forall_mem_cons.mpr ⟨lw_p6, List.forall_mem_cons.mpr ⟨lw_p7, List.forall_mem_cons.mpr ⟨lw_p8, List.forall_mem_cons.mpr ⟨lw_p9, List.forall_mem_cons.mpr ⟨lw_p10, List.forall_mem_cons.mpr ⟨lw_p11, List.forall_mem_cons.mpr ⟨lw_p12, List.forall_mem_cons.mpr ⟨lw_p13, List.forall_mem_cons.mpr ⟨lw_p14, List.forall_mem_cons.mpr ⟨lw_p15, fun _ h => absurd h List.not_mem_nil⟩⟩⟩⟩⟩⟩⟩⟩⟩⟩⟩⟩⟩⟩⟩⟩
theorem lw_p16 : lw_okq (⟨"StowTongue$Parser", "statement", "(I)V"⟩, 8) := ⟨⟨by decide +kernel, by decide +kernel⟩, List.mem_of_getElem? (i := 55) (by decide +kernel), List.mem_of_getElem? (i := 607) (by decide +kernel), List.mem_of_getElem? (i := 608) (by decide +kernel)⟩
theorem lw_p17 : lw_okq (⟨"StowTongue$Parser", "letStatement", "(I)V"⟩, 8) := ⟨⟨by decide +kernel, by decide +kernel⟩, List.mem_of_getElem? (i := 55) (by decide +kernel), List.mem_of_getElem? (i := 623) (by decide +kernel), List.mem_of_getElem? (i := 624) (by decide +kernel)⟩
theorem lw_p18 : lw_okq (⟨"StowTongue$Parser", "expression", "(I)V"⟩, 8) := ⟨⟨by decide +kernel, by decide +kernel⟩, List.mem_of_getElem? (i := 55) (by decide +kernel), List.mem_of_getElem? (i := 627) (by decide +kernel), List.mem_of_getElem? (i := 628) (by decide +kernel)⟩
theorem lw_p19 : lw_okq (⟨"StowTongue$Parser", "level", "(II)V"⟩, 8) := ⟨⟨by decide +kernel, by decide +kernel⟩, List.mem_of_getElem? (i := 55) (by decide +kernel), List.mem_of_getElem? (i := 631) (by decide +kernel), List.mem_of_getElem? (i := 632) (by decide +kernel)⟩
theorem lw_p20 : lw_okq (⟨"StowTongue$Parser", "signed", "(I)V"⟩, 8) := ⟨⟨by decide +kernel, by decide +kernel⟩, List.mem_of_getElem? (i := 55) (by decide +kernel), List.mem_of_getElem? (i := 635) (by decide +kernel), List.mem_of_getElem? (i := 636) (by decide +kernel)⟩
theorem lw_p21 : lw_okq (⟨"StowTongue$Parser", "parts", "(I)V"⟩, 8) := ⟨⟨by decide +kernel, by decide +kernel⟩, List.mem_of_getElem? (i := 55) (by decide +kernel), List.mem_of_getElem? (i := 639) (by decide +kernel), List.mem_of_getElem? (i := 640) (by decide +kernel)⟩
theorem lw_p22 : lw_okq (⟨"StowTongue$Parser", "atom", "(I)V"⟩, 8) := ⟨⟨by decide +kernel, by decide +kernel⟩, List.mem_of_getElem? (i := 55) (by decide +kernel), List.mem_of_getElem? (i := 643) (by decide +kernel), List.mem_of_getElem? (i := 644) (by decide +kernel)⟩
theorem lw_p23 : lw_okq (⟨"StowTongue$Parser", "variableOrCall", "(I)Z"⟩, 8) := ⟨⟨by decide +kernel, by decide +kernel⟩, List.mem_of_getElem? (i := 55) (by decide +kernel), List.mem_of_getElem? (i := 659) (by decide +kernel), List.mem_of_getElem? (i := 660) (by decide +kernel)⟩
theorem lw_p24 : lw_okq (⟨"StowTongue$Parser", "list", "(III)I"⟩, 8) := ⟨⟨by decide +kernel, by decide +kernel⟩, List.mem_of_getElem? (i := 55) (by decide +kernel), List.mem_of_getElem? (i := 663) (by decide +kernel), List.mem_of_getElem? (i := 664) (by decide +kernel)⟩
theorem lw_p25 : lw_okq (⟨"StowTongue$Parser", "withOne", "(II)V"⟩, 8) := ⟨⟨by decide +kernel, by decide +kernel⟩, List.mem_of_getElem? (i := 55) (by decide +kernel), List.mem_of_getElem? (i := 667) (by decide +kernel), List.mem_of_getElem? (i := 668) (by decide +kernel)⟩
theorem lw_p26 : lw_okq (⟨"StowTongue$Parser", "inBrackets", "(I)V"⟩, 8) := ⟨⟨by decide +kernel, by decide +kernel⟩, List.mem_of_getElem? (i := 55) (by decide +kernel), List.mem_of_getElem? (i := 671) (by decide +kernel), List.mem_of_getElem? (i := 672) (by decide +kernel)⟩
theorem lw_p27 : lw_okq (⟨"StowTongue$Parser", "pushAtom", "(I)V"⟩, 8) := ⟨⟨by decide +kernel, by decide +kernel⟩, List.mem_of_getElem? (i := 55) (by decide +kernel), List.mem_of_getElem? (i := 675) (by decide +kernel), List.mem_of_getElem? (i := 676) (by decide +kernel)⟩
theorem lw_p28 : lw_okq (⟨"StowTongue$Parser", "fields", "(I)I"⟩, 8) := ⟨⟨by decide +kernel, by decide +kernel⟩, List.mem_of_getElem? (i := 55) (by decide +kernel), List.mem_of_getElem? (i := 679) (by decide +kernel), List.mem_of_getElem? (i := 680) (by decide +kernel)⟩
theorem lw_p29 : lw_okq (⟨"StowTongue$Parser", "field", "(I)V"⟩, 8) := ⟨⟨by decide +kernel, by decide +kernel⟩, List.mem_of_getElem? (i := 55) (by decide +kernel), List.mem_of_getElem? (i := 683) (by decide +kernel), List.mem_of_getElem? (i := 684) (by decide +kernel)⟩
theorem lw_p30 : lw_okq (⟨"StowTongue$Parser", "keepName", "(J)I"⟩, 8) := ⟨⟨by decide +kernel, by decide +kernel⟩, List.mem_of_getElem? (i := 55) (by decide +kernel), List.mem_of_getElem? (i := 687) (by decide +kernel), List.mem_of_getElem? (i := 688) (by decide +kernel)⟩
theorem lw_p31 : lw_okq (⟨"StowTongue$Parser", "ifStatement", "(I)V"⟩, 8) := ⟨⟨by decide +kernel, by decide +kernel⟩, List.mem_of_getElem? (i := 55) (by decide +kernel), List.mem_of_getElem? (i := 707) (by decide +kernel), List.mem_of_getElem? (i := 708) (by decide +kernel)⟩
def lw_privs_2 : List (MethodName × Nat) := [(⟨"StowTongue$Parser", "statement", "(I)V"⟩, 8), (⟨"StowTongue$Parser", "letStatement", "(I)V"⟩, 8), (⟨"StowTongue$Parser", "expression", "(I)V"⟩, 8), (⟨"StowTongue$Parser", "level", "(II)V"⟩, 8), (⟨"StowTongue$Parser", "signed", "(I)V"⟩, 8), (⟨"StowTongue$Parser", "parts", "(I)V"⟩, 8), (⟨"StowTongue$Parser", "atom", "(I)V"⟩, 8), (⟨"StowTongue$Parser", "variableOrCall", "(I)Z"⟩, 8), (⟨"StowTongue$Parser", "list", "(III)I"⟩, 8), (⟨"StowTongue$Parser", "withOne", "(II)V"⟩, 8), (⟨"StowTongue$Parser", "inBrackets", "(I)V"⟩, 8), (⟨"StowTongue$Parser", "pushAtom", "(I)V"⟩, 8), (⟨"StowTongue$Parser", "fields", "(I)I"⟩, 8), (⟨"StowTongue$Parser", "field", "(I)V"⟩, 8), (⟨"StowTongue$Parser", "keepName", "(J)I"⟩, 8), (⟨"StowTongue$Parser", "ifStatement", "(I)V"⟩, 8)]
theorem lw_r2 : ∀ q ∈ lw_privs_2, lw_okq q := List.forall_mem_cons.mpr ⟨lw_p16, List.forall_mem_cons.mpr ⟨lw_p17, List.forall_mem_cons.mpr ⟨lw_p18, List.forall_mem_cons.mpr ⟨lw_p19, List.forall_mem_cons.mpr ⟨lw_p20, List.forall_mem_cons.mpr ⟨lw_p21, List.forall_mem_cons.mpr ⟨lw_p22, List.forall_mem_cons.mpr ⟨lw_p23, List.forall_mem_cons.mpr ⟨lw_p24, List.forall_mem_cons.mpr ⟨lw_p25, List.forall_mem_cons.mpr ⟨lw_p26, List.forall_mem_cons.mpr ⟨lw_p27, List.forall_mem_cons.mpr ⟨lw_p28, List.forall_mem_cons.mpr ⟨lw_p29, List.forall_mem_cons.mpr ⟨lw_p30, List.forall_mem_cons.mpr ⟨lw_p31, fun _ h => absurd h List.not_mem_nil⟩⟩⟩⟩⟩⟩⟩⟩⟩⟩⟩⟩⟩⟩⟩⟩
theorem lw_p32 : lw_okq (⟨"StowTongue$Parser", "condition", "(I)I"⟩, 8) := ⟨⟨by decide +kernel, by decide +kernel⟩, List.mem_of_getElem? (i := 55) (by decide +kernel), List.mem_of_getElem? (i := 711) (by decide +kernel), List.mem_of_getElem? (i := 712) (by decide +kernel)⟩
theorem lw_p33 : lw_okq (⟨"StowTongue$Parser", "whileStatement", "(I)V"⟩, 8) := ⟨⟨by decide +kernel, by decide +kernel⟩, List.mem_of_getElem? (i := 55) (by decide +kernel), List.mem_of_getElem? (i := 715) (by decide +kernel), List.mem_of_getElem? (i := 716) (by decide +kernel)⟩
theorem lw_p34 : lw_okq (⟨"StowTongue$Parser", "returnStatement", "(I)V"⟩, 8) := ⟨⟨by decide +kernel, by decide +kernel⟩, List.mem_of_getElem? (i := 55) (by decide +kernel), List.mem_of_getElem? (i := 719) (by decide +kernel), List.mem_of_getElem? (i := 720) (by decide +kernel)⟩
theorem lw_p35 : lw_okq (⟨"StowTongue$Parser", "plainStatement", "(I)V"⟩, 8) := ⟨⟨by decide +kernel, by decide +kernel⟩, List.mem_of_getElem? (i := 55) (by decide +kernel), List.mem_of_getElem? (i := 723) (by decide +kernel), List.mem_of_getElem? (i := 724) (by decide +kernel)⟩
theorem lw_p36 : lw_okq (⟨"java/util/ArrayList", "add", "(Ljava/lang/Object;[Ljava/lang/Object;I)V"⟩, 3) := ⟨⟨by decide +kernel, by decide +kernel⟩, List.mem_of_getElem? (i := 177) (by decide +kernel), List.mem_of_getElem? (i := 754) (by decide +kernel), List.mem_of_getElem? (i := 755) (by decide +kernel)⟩
theorem lw_p37 : lw_okq (⟨"java/util/ArrayList", "grow", "()[Ljava/lang/Object;"⟩, 3) := ⟨⟨by decide +kernel, by decide +kernel⟩, List.mem_of_getElem? (i := 177) (by decide +kernel), List.mem_of_getElem? (i := 758) (by decide +kernel), List.mem_of_getElem? (i := 759) (by decide +kernel)⟩
theorem lw_p38 : lw_okq (⟨"java/util/ArrayList", "grow", "(I)[Ljava/lang/Object;"⟩, 3) := ⟨⟨by decide +kernel, by decide +kernel⟩, List.mem_of_getElem? (i := 177) (by decide +kernel), List.mem_of_getElem? (i := 762) (by decide +kernel), List.mem_of_getElem? (i := 763) (by decide +kernel)⟩
theorem lw_p39 : lw_okq (⟨"StowTongue", "forgetLatestRun", "()V"⟩, 10) := ⟨⟨by decide +kernel, by decide +kernel⟩, List.mem_of_getElem? (i := 30) (by decide +kernel), List.mem_of_getElem? (i := 808) (by decide +kernel), List.mem_of_getElem? (i := 809) (by decide +kernel)⟩
theorem lw_p40 : lw_okq (⟨"StowTongue$Log", "storeAt", "(I)LStowTongue$Store;"⟩, 4) := ⟨⟨by decide +kernel, by decide +kernel⟩, List.mem_of_getElem? (i := 316) (by decide +kernel), List.mem_of_getElem? (i := 816) (by decide +kernel), List.mem_of_getElem? (i := 817) (by decide +kernel)⟩
theorem lw_p41 : lw_okq (⟨"StowTongue$Store", "functionAt", "(J)I"⟩, 9) := ⟨⟨by decide +kernel, by decide +kernel⟩, List.mem_of_getElem? (i := 819) (by decide +kernel), List.mem_of_getElem? (i := 904) (by decide +kernel), List.mem_of_getElem? (i := 905) (by decide +kernel)⟩
theorem lw_p42 : lw_okq (⟨"StowTongue$Machine", "enter", "(LStowTongue$Unit;I)V"⟩, 18) := ⟨⟨by decide +kernel, by decide +kernel⟩, List.mem_of_getElem? (i := 253) (by decide +kernel), List.mem_of_getElem? (i := 924) (by decide +kernel), List.mem_of_getElem? (i := 925) (by decide +kernel)⟩
theorem lw_p43 : lw_okq (⟨"StowTongue$Machine", "below", "(I)I"⟩, 18) := ⟨⟨by decide +kernel, by decide +kernel⟩, List.mem_of_getElem? (i := 253) (by decide +kernel), List.mem_of_getElem? (i := 928) (by decide +kernel), List.mem_of_getElem? (i := 929) (by decide +kernel)⟩
theorem lw_p44 : lw_okq (⟨"StowTongue$Machine", "lay", "(JJ)V"⟩, 18) := ⟨⟨by decide +kernel, by decide +kernel⟩, List.mem_of_getElem? (i := 253) (by decide +kernel), List.mem_of_getElem? (i := 937) (by decide +kernel), List.mem_of_getElem? (i := 938) (by decide +kernel)⟩
theorem lw_p45 : lw_okq (⟨"StowTongue$Machine", "fail", "(I)V"⟩, 18) := ⟨⟨by decide +kernel, by decide +kernel⟩, List.mem_of_getElem? (i := 253) (by decide +kernel), List.mem_of_getElem? (i := 941) (by decide +kernel), List.mem_of_getElem? (i := 942) (by decide +kernel)⟩
theorem lw_p46 : lw_okq (⟨"StowTongue$Machine", "doFlow", "(II)V"⟩, 18) := ⟨⟨by decide +kernel, by decide +kernel⟩, List.mem_of_getElem? (i := 253) (by decide +kernel), List.mem_of_getElem? (i := 955) (by decide +kernel), List.mem_of_getElem? (i := 956) (by decide +kernel)⟩
theorem lw_p47 : lw_okq (⟨"StowTongue$Machine", "burn", "()Z"⟩, 18) := ⟨⟨by decide +kernel, by decide +kernel⟩, List.mem_of_getElem? (i := 253) (by decide +kernel), List.mem_of_getElem? (i := 965) (by decide +kernel), List.mem_of_getElem? (i := 966) (by decide +kernel)⟩
def lw_privs_3 : List (MethodName × Nat) := [(⟨"StowTongue$Parser", "condition", "(I)I"⟩, 8), (⟨"StowTongue$Parser", "whileStatement", "(I)V"⟩, 8), (⟨"StowTongue$Parser", "returnStatement", "(I)V"⟩, 8), (⟨"StowTongue$Parser", "plainStatement", "(I)V"⟩, 8), (⟨"java/util/ArrayList", "add", "(Ljava/lang/Object;[Ljava/lang/Object;I)V"⟩, 3), (⟨"java/util/ArrayList", "grow", "()[Ljava/lang/Object;"⟩, 3), (⟨"java/util/ArrayList", "grow", "(I)[Ljava/lang/Object;"⟩, 3), (⟨"StowTongue", "forgetLatestRun", "()V"⟩, 10), (⟨"StowTongue$Log", "storeAt", "(I)LStowTongue$Store;"⟩, 4), (⟨"StowTongue$Store", "functionAt", "(J)I"⟩, 9), (⟨"StowTongue$Machine", "enter", "(LStowTongue$Unit;I)V"⟩, 18), (⟨"StowTongue$Machine", "below", "(I)I"⟩, 18), (⟨"StowTongue$Machine", "lay", "(JJ)V"⟩, 18), (⟨"StowTongue$Machine", "fail", "(I)V"⟩, 18), (⟨"StowTongue$Machine", "doFlow", "(II)V"⟩, 18), (⟨"StowTongue$Machine", "burn", "()Z"⟩, 18)]
theorem lw_r3 : ∀ q ∈ lw_privs_3, lw_okq q := List.forall_mem_cons.mpr ⟨lw_p32, List.forall_mem_cons.mpr ⟨lw_p33, List.forall_mem_cons.mpr ⟨lw_p34, List.forall_mem_cons.mpr ⟨lw_p35, List.forall_mem_cons.mpr ⟨lw_p36, List.forall_mem_cons.mpr ⟨lw_p37, List.forall_mem_cons.mpr ⟨lw_p38, List.forall_mem_cons.mpr ⟨lw_p39, List.forall_mem_cons.mpr ⟨lw_p40, List.forall_mem_cons.mpr ⟨lw_p41, List.forall_mem_cons.mpr ⟨lw_p42, List.forall_mem_cons.mpr ⟨lw_p43, List.forall_mem_cons.mpr ⟨lw_p44, List.forall_mem_cons.mpr ⟨lw_p45, List.forall_mem_cons.mpr ⟨lw_p46, List.forall_mem_cons.mpr ⟨lw_p47, fun _ h => absurd h List.not_mem_nil⟩⟩⟩⟩⟩⟩⟩⟩⟩⟩⟩⟩⟩⟩⟩⟩
theorem lw_p48 : lw_okq (⟨"StowTongue$Machine", "keepLeft", "(ZI)V"⟩, 18) := ⟨⟨by decide +kernel, by decide +kernel⟩, List.mem_of_getElem? (i := 253) (by decide +kernel), List.mem_of_getElem? (i := 969) (by decide +kernel), List.mem_of_getElem? (i := 970) (by decide +kernel)⟩
theorem lw_p49 : lw_okq (⟨"StowTongue$Machine", "call", "(JI)V"⟩, 18) := ⟨⟨by decide +kernel, by decide +kernel⟩, List.mem_of_getElem? (i := 253) (by decide +kernel), List.mem_of_getElem? (i := 977) (by decide +kernel), List.mem_of_getElem? (i := 978) (by decide +kernel)⟩
theorem lw_p50 : lw_okq (⟨"StowTongue$Machine", "leave", "()V"⟩, 18) := ⟨⟨by decide +kernel, by decide +kernel⟩, List.mem_of_getElem? (i := 253) (by decide +kernel), List.mem_of_getElem? (i := 989) (by decide +kernel), List.mem_of_getElem? (i := 990) (by decide +kernel)⟩
theorem lw_p51 : lw_okq (⟨"StowTongue$Machine", "print", "(I)V"⟩, 18) := ⟨⟨by decide +kernel, by decide +kernel⟩, List.mem_of_getElem? (i := 253) (by decide +kernel), List.mem_of_getElem? (i := 993) (by decide +kernel), List.mem_of_getElem? (i := 994) (by decide +kernel)⟩
theorem lw_p52 : lw_okq (⟨"StowTongue$Machine", "sortAt", "(I)I"⟩, 18) := ⟨⟨by decide +kernel, by decide +kernel⟩, List.mem_of_getElem? (i := 253) (by decide +kernel), List.mem_of_getElem? (i := 997) (by decide +kernel), List.mem_of_getElem? (i := 998) (by decide +kernel)⟩
theorem lw_p53 : lw_okq (⟨"StowTongue$Machine", "doConstant", "(II)V"⟩, 18) := ⟨⟨by decide +kernel, by decide +kernel⟩, List.mem_of_getElem? (i := 253) (by decide +kernel), List.mem_of_getElem? (i := 1031) (by decide +kernel), List.mem_of_getElem? (i := 1032) (by decide +kernel)⟩
theorem lw_p54 : lw_okq (⟨"StowTongue$Machine", "layNumber", "(J)V"⟩, 18) := ⟨⟨by decide +kernel, by decide +kernel⟩, List.mem_of_getElem? (i := 253) (by decide +kernel), List.mem_of_getElem? (i := 1035) (by decide +kernel), List.mem_of_getElem? (i := 1036) (by decide +kernel)⟩
theorem lw_p55 : lw_okq (⟨"StowTongue$Machine", "doPlace", "(II)V"⟩, 18) := ⟨⟨by decide +kernel, by decide +kernel⟩, List.mem_of_getElem? (i := 253) (by decide +kernel), List.mem_of_getElem? (i := 1040) (by decide +kernel), List.mem_of_getElem? (i := 1041) (by decide +kernel)⟩
theorem lw_p56 : lw_okq (⟨"StowTongue$Machine", "localAt", "(I)I"⟩, 18) := ⟨⟨by decide +kernel, by decide +kernel⟩, List.mem_of_getElem? (i := 253) (by decide +kernel), List.mem_of_getElem? (i := 1044) (by decide +kernel), List.mem_of_getElem? (i := 1045) (by decide +kernel)⟩
theorem lw_p57 : lw_okq (⟨"StowTongue$Machine", "loadRoot", "(I)V"⟩, 18) := ⟨⟨by decide +kernel, by decide +kernel⟩, List.mem_of_getElem? (i := 253) (by decide +kernel), List.mem_of_getElem? (i := 1052) (by decide +kernel), List.mem_of_getElem? (i := 1053) (by decide +kernel)⟩
theorem lw_p58 : lw_okq (⟨"StowTongue$Store", "dropRoot", "(I)V"⟩, 9) := ⟨⟨by decide +kernel, by decide +kernel⟩, List.mem_of_getElem? (i := 819) (by decide +kernel), List.mem_of_getElem? (i := 1062) (by decide +kernel), List.mem_of_getElem? (i := 1063) (by decide +kernel)⟩
theorem lw_p59 : lw_okq (⟨"StowTongue$Machine", "loadField", "(J)V"⟩, 18) := ⟨⟨by decide +kernel, by decide +kernel⟩, List.mem_of_getElem? (i := 253) (by decide +kernel), List.mem_of_getElem? (i := 1066) (by decide +kernel), List.mem_of_getElem? (i := 1067) (by decide +kernel)⟩
theorem lw_p60 : lw_okq (⟨"StowTongue$Machine", "objectAt", "(I)I"⟩, 18) := ⟨⟨by decide +kernel, by decide +kernel⟩, List.mem_of_getElem? (i := 253) (by decide +kernel), List.mem_of_getElem? (i := 1070) (by decide +kernel), List.mem_of_getElem? (i := 1071) (by decide +kernel)⟩
theorem lw_p61 : lw_okq (⟨"StowTongue$Machine", "storeField", "(J)V"⟩, 18) := ⟨⟨by decide +kernel, by decide +kernel⟩, List.mem_of_getElem? (i := 253) (by decide +kernel), List.mem_of_getElem? (i := 1086) (by decide +kernel), List.mem_of_getElem? (i := 1087) (by decide +kernel)⟩
theorem lw_p62 : lw_okq (⟨"StowTongue$Store", "dropField", "(II)V"⟩, 9) := ⟨⟨by decide +kernel, by decide +kernel⟩, List.mem_of_getElem? (i := 819) (by decide +kernel), List.mem_of_getElem? (i := 1095) (by decide +kernel), List.mem_of_getElem? (i := 1096) (by decide +kernel)⟩
theorem lw_p63 : lw_okq (⟨"StowTongue$Machine", "loadItem", "()V"⟩, 18) := ⟨⟨by decide +kernel, by decide +kernel⟩, List.mem_of_getElem? (i := 253) (by decide +kernel), List.mem_of_getElem? (i := 1107) (by decide +kernel), List.mem_of_getElem? (i := 1108) (by decide +kernel)⟩
def lw_privs_4 : List (MethodName × Nat) := [(⟨"StowTongue$Machine", "keepLeft", "(ZI)V"⟩, 18), (⟨"StowTongue$Machine", "call", "(JI)V"⟩, 18), (⟨"StowTongue$Machine", "leave", "()V"⟩, 18), (⟨"StowTongue$Machine", "print", "(I)V"⟩, 18), (⟨"StowTongue$Machine", "sortAt", "(I)I"⟩, 18), (⟨"StowTongue$Machine", "doConstant", "(II)V"⟩, 18), (⟨"StowTongue$Machine", "layNumber", "(J)V"⟩, 18), (⟨"StowTongue$Machine", "doPlace", "(II)V"⟩, 18), (⟨"StowTongue$Machine", "localAt", "(I)I"⟩, 18), (⟨"StowTongue$Machine", "loadRoot", "(I)V"⟩, 18), (⟨"StowTongue$Store", "dropRoot", "(I)V"⟩, 9), (⟨"StowTongue$Machine", "loadField", "(J)V"⟩, 18), (⟨"StowTongue$Machine", "objectAt", "(I)I"⟩, 18), (⟨"StowTongue$Machine", "storeField", "(J)V"⟩, 18), (⟨"StowTongue$Store", "dropField", "(II)V"⟩, 9), (⟨"StowTongue$Machine", "loadItem", "()V"⟩, 18)]
theorem lw_r4 : ∀ q ∈ lw_privs_4, lw_okq q := List.forall_mem_cons.mpr ⟨lw_p48, List.forall_mem_cons.mpr ⟨lw_p49, List.forall_mem_cons.mpr ⟨lw_p50, List.forall_mem_cons.mpr ⟨lw_p51, List.forall_mem_cons.mpr ⟨lw_p52, List.forall_mem_cons.mpr ⟨lw_p53, List.forall_mem_cons.mpr ⟨lw_p54, List.forall_mem_cons.mpr ⟨lw_p55, List.forall_mem_cons.mpr ⟨lw_p56, List.forall_mem_cons.mpr ⟨lw_p57, List.forall_mem_cons.mpr ⟨lw_p58, List.forall_mem_cons.mpr ⟨lw_p59, List.forall_mem_cons.mpr ⟨lw_p60, List.forall_mem_cons.mpr ⟨lw_p61, List.forall_mem_cons.mpr ⟨lw_p62, List.forall_mem_cons.mpr ⟨lw_p63, fun _ h => absurd h List.not_mem_nil⟩⟩⟩⟩⟩⟩⟩⟩⟩⟩⟩⟩⟩⟩⟩⟩
theorem lw_p64 : lw_okq (⟨"StowTongue$Machine", "isWithin", "(II)Z"⟩, 18) := ⟨⟨by decide +kernel, by decide +kernel⟩, List.mem_of_getElem? (i := 253) (by decide +kernel), List.mem_of_getElem? (i := 1112) (by decide +kernel), List.mem_of_getElem? (i := 1113) (by decide +kernel)⟩
theorem lw_p65 : lw_okq (⟨"StowTongue$Machine", "storeItem", "()V"⟩, 18) := ⟨⟨by decide +kernel, by decide +kernel⟩, List.mem_of_getElem? (i := 253) (by decide +kernel), List.mem_of_getElem? (i := 1120) (by decide +kernel), List.mem_of_getElem? (i := 1121) (by decide +kernel)⟩
theorem lw_p66 : lw_okq (⟨"StowTongue$Machine", "doObject", "(II)V"⟩, 18) := ⟨⟨by decide +kernel, by decide +kernel⟩, List.mem_of_getElem? (i := 253) (by decide +kernel), List.mem_of_getElem? (i := 1124) (by decide +kernel), List.mem_of_getElem? (i := 1125) (by decide +kernel)⟩
theorem lw_p67 : lw_okq (⟨"StowTongue$Machine", "makeRecord", "(I)V"⟩, 18) := ⟨⟨by decide +kernel, by decide +kernel⟩, List.mem_of_getElem? (i := 253) (by decide +kernel), List.mem_of_getElem? (i := 1128) (by decide +kernel), List.mem_of_getElem? (i := 1129) (by decide +kernel)⟩
theorem lw_p68 : lw_okq (⟨"StowTongue$Machine", "makeRow", "(I)V"⟩, 18) := ⟨⟨by decide +kernel, by decide +kernel⟩, List.mem_of_getElem? (i := 253) (by decide +kernel), List.mem_of_getElem? (i := 1136) (by decide +kernel), List.mem_of_getElem? (i := 1137) (by decide +kernel)⟩
theorem lw_p69 : lw_okq (⟨"StowTongue$Machine", "size", "()V"⟩, 18) := ⟨⟨by decide +kernel, by decide +kernel⟩, List.mem_of_getElem? (i := 253) (by decide +kernel), List.mem_of_getElem? (i := 1141) (by decide +kernel), List.mem_of_getElem? (i := 1142) (by decide +kernel)⟩
theorem lw_p70 : lw_okq (⟨"StowTongue$Machine", "push", "()V"⟩, 18) := ⟨⟨by decide +kernel, by decide +kernel⟩, List.mem_of_getElem? (i := 253) (by decide +kernel), List.mem_of_getElem? (i := 1145) (by decide +kernel), List.mem_of_getElem? (i := 1146) (by decide +kernel)⟩
theorem lw_p71 : lw_okq (⟨"StowTongue$Machine", "pop", "()V"⟩, 18) := ⟨⟨by decide +kernel, by decide +kernel⟩, List.mem_of_getElem? (i := 253) (by decide +kernel), List.mem_of_getElem? (i := 1149) (by decide +kernel), List.mem_of_getElem? (i := 1150) (by decide +kernel)⟩
theorem lw_p72 : lw_okq (⟨"StowTongue$Machine", "doReckoning", "(I)V"⟩, 18) := ⟨⟨by decide +kernel, by decide +kernel⟩, List.mem_of_getElem? (i := 253) (by decide +kernel), List.mem_of_getElem? (i := 1157) (by decide +kernel), List.mem_of_getElem? (i := 1158) (by decide +kernel)⟩
theorem lw_p73 : lw_okq (⟨"StowTongue$Machine", "minus", "(I)V"⟩, 18) := ⟨⟨by decide +kernel, by decide +kernel⟩, List.mem_of_getElem? (i := 253) (by decide +kernel), List.mem_of_getElem? (i := 1161) (by decide +kernel), List.mem_of_getElem? (i := 1162) (by decide +kernel)⟩
theorem lw_p74 : lw_okq (⟨"StowTongue$Machine", "layTruth", "(Z)V"⟩, 18) := ⟨⟨by decide +kernel, by decide +kernel⟩, List.mem_of_getElem? (i := 253) (by decide +kernel), List.mem_of_getElem? (i := 1165) (by decide +kernel), List.mem_of_getElem? (i := 1166) (by decide +kernel)⟩
theorem lw_p75 : lw_okq (⟨"StowTongue$Machine", "compare", "(IIZ)V"⟩, 18) := ⟨⟨by decide +kernel, by decide +kernel⟩, List.mem_of_getElem? (i := 253) (by decide +kernel), List.mem_of_getElem? (i := 1169) (by decide +kernel), List.mem_of_getElem? (i := 1170) (by decide +kernel)⟩
theorem lw_p76 : lw_okq (⟨"StowTongue$Machine", "reckon", "(III)V"⟩, 18) := ⟨⟨by decide +kernel, by decide +kernel⟩, List.mem_of_getElem? (i := 253) (by decide +kernel), List.mem_of_getElem? (i := 1173) (by decide +kernel), List.mem_of_getElem? (i := 1174) (by decide +kernel)⟩
theorem lw_p77 : lw_okq (⟨"StowTongue$Machine", "join", "(II)V"⟩, 18) := ⟨⟨by decide +kernel, by decide +kernel⟩, List.mem_of_getElem? (i := 253) (by decide +kernel), List.mem_of_getElem? (i := 1177) (by decide +kernel), List.mem_of_getElem? (i := 1178) (by decide +kernel)⟩
theorem lw_p78 : lw_okq (⟨"StowTongue$Store", "sameObject", "(LStowTongue$Store;I)Z"⟩, 9) := ⟨⟨by decide +kernel, by decide +kernel⟩, List.mem_of_getElem? (i := 819) (by decide +kernel), List.mem_of_getElem? (i := 1209) (by decide +kernel), List.mem_of_getElem? (i := 1210) (by decide +kernel)⟩
theorem lw_p79 : lw_okq (⟨"StowTongue$Log", "settleOldest", "()V"⟩, 4) := ⟨⟨by decide +kernel, by decide +kernel⟩, List.mem_of_getElem? (i := 316) (by decide +kernel), List.mem_of_getElem? (i := 1225) (by decide +kernel), List.mem_of_getElem? (i := 1226) (by decide +kernel)⟩
def lw_privs_5 : List (MethodName × Nat) := [(⟨"StowTongue$Machine", "isWithin", "(II)Z"⟩, 18), (⟨"StowTongue$Machine", "storeItem", "()V"⟩, 18), (⟨"StowTongue$Machine", "doObject", "(II)V"⟩, 18), (⟨"StowTongue$Machine", "makeRecord", "(I)V"⟩, 18), (⟨"StowTongue$Machine", "makeRow", "(I)V"⟩, 18), (⟨"StowTongue$Machine", "size", "()V"⟩, 18), (⟨"StowTongue$Machine", "push", "()V"⟩, 18), (⟨"StowTongue$Machine", "pop", "()V"⟩, 18), (⟨"StowTongue$Machine", "doReckoning", "(I)V"⟩, 18), (⟨"StowTongue$Machine", "minus", "(I)V"⟩, 18), (⟨"StowTongue$Machine", "layTruth", "(Z)V"⟩, 18), (⟨"StowTongue$Machine", "compare", "(IIZ)V"⟩, 18), (⟨"StowTongue$Machine", "reckon", "(III)V"⟩, 18), (⟨"StowTongue$Machine", "join", "(II)V"⟩, 18), (⟨"StowTongue$Store", "sameObject", "(LStowTongue$Store;I)Z"⟩, 9), (⟨"StowTongue$Log", "settleOldest", "()V"⟩, 4)]
theorem lw_r5 : ∀ q ∈ lw_privs_5, lw_okq q := List.forall_mem_cons.mpr ⟨lw_p64, List.forall_mem_cons.mpr ⟨lw_p65, List.forall_mem_cons.mpr ⟨lw_p66, List.forall_mem_cons.mpr ⟨lw_p67, List.forall_mem_cons.mpr ⟨lw_p68, List.forall_mem_cons.mpr ⟨lw_p69, List.forall_mem_cons.mpr ⟨lw_p70, List.forall_mem_cons.mpr ⟨lw_p71, List.forall_mem_cons.mpr ⟨lw_p72, List.forall_mem_cons.mpr ⟨lw_p73, List.forall_mem_cons.mpr ⟨lw_p74, List.forall_mem_cons.mpr ⟨lw_p75, List.forall_mem_cons.mpr ⟨lw_p76, List.forall_mem_cons.mpr ⟨lw_p77, List.forall_mem_cons.mpr ⟨lw_p78, List.forall_mem_cons.mpr ⟨lw_p79, fun _ h => absurd h List.not_mem_nil⟩⟩⟩⟩⟩⟩⟩⟩⟩⟩⟩⟩⟩⟩⟩⟩
theorem lw_p80 : lw_okq (⟨"StowTongue$Sweeper", "reach", "(JJ)V"⟩, 3) := ⟨⟨by decide +kernel, by decide +kernel⟩, List.mem_of_getElem? (i := 337) (by decide +kernel), List.mem_of_getElem? (i := 1297) (by decide +kernel), List.mem_of_getElem? (i := 1298) (by decide +kernel)⟩
theorem lw_p81 : lw_okq (⟨"StowTongue$Sweeper", "reachFrom", "(LStowTongue$Store;I)V"⟩, 3) := ⟨⟨by decide +kernel, by decide +kernel⟩, List.mem_of_getElem? (i := 337) (by decide +kernel), List.mem_of_getElem? (i := 1305) (by decide +kernel), List.mem_of_getElem? (i := 1306) (by decide +kernel)⟩
theorem lw_p82 : lw_okq (⟨"StowTongue$Sweeper", "takeUnreached", "(LStowTongue$Store;)I"⟩, 3) := ⟨⟨by decide +kernel, by decide +kernel⟩, List.mem_of_getElem? (i := 337) (by decide +kernel), List.mem_of_getElem? (i := 1311) (by decide +kernel), List.mem_of_getElem? (i := 1312) (by decide +kernel)⟩
theorem lw_p83 : lw_okq (⟨"StowTongueModel", "read", "()Z"⟩, 53) := ⟨⟨by decide +kernel, by decide +kernel⟩, List.mem_of_getElem? (i := 1342) (by decide +kernel), List.mem_of_getElem? (i := 1657) (by decide +kernel), List.mem_of_getElem? (i := 1658) (by decide +kernel)⟩
theorem lw_p84 : lw_okq (⟨"StowTongueModel", "step", "()V"⟩, 53) := ⟨⟨by decide +kernel, by decide +kernel⟩, List.mem_of_getElem? (i := 1342) (by decide +kernel), List.mem_of_getElem? (i := 1665) (by decide +kernel), List.mem_of_getElem? (i := 1666) (by decide +kernel)⟩
theorem lw_p85 : lw_okq (⟨"StowTongueModel", "isReserved", "()Z"⟩, 53) := ⟨⟨by decide +kernel, by decide +kernel⟩, List.mem_of_getElem? (i := 1342) (by decide +kernel), List.mem_of_getElem? (i := 1675) (by decide +kernel), List.mem_of_getElem? (i := 1676) (by decide +kernel)⟩
theorem lw_p86 : lw_okq (⟨"StowTongueModel", "is", "(Ljava/lang/String;)Z"⟩, 53) := ⟨⟨by decide +kernel, by decide +kernel⟩, List.mem_of_getElem? (i := 1342) (by decide +kernel), List.mem_of_getElem? (i := 1690) (by decide +kernel), List.mem_of_getElem? (i := 1691) (by decide +kernel)⟩
theorem lw_p87 : lw_okq (⟨"StowTongueModel", "function", "()Z"⟩, 53) := ⟨⟨by decide +kernel, by decide +kernel⟩, List.mem_of_getElem? (i := 1342) (by decide +kernel), List.mem_of_getElem? (i := 1694) (by decide +kernel), List.mem_of_getElem? (i := 1695) (by decide +kernel)⟩
theorem lw_p88 : lw_okq (⟨"StowTongueModel", "bad", "()Z"⟩, 53) := ⟨⟨by decide +kernel, by decide +kernel⟩, List.mem_of_getElem? (i := 1342) (by decide +kernel), List.mem_of_getElem? (i := 1698) (by decide +kernel), List.mem_of_getElem? (i := 1699) (by decide +kernel)⟩
theorem lw_p89 : lw_okq (⟨"StowTongueModel", "name", "()J"⟩, 53) := ⟨⟨by decide +kernel, by decide +kernel⟩, List.mem_of_getElem? (i := 1342) (by decide +kernel), List.mem_of_getElem? (i := 1702) (by decide +kernel), List.mem_of_getElem? (i := 1703) (by decide +kernel)⟩
theorem lw_p90 : lw_okq (⟨"StowTongueModel", "take", "(Ljava/lang/String;)Z"⟩, 53) := ⟨⟨by decide +kernel, by decide +kernel⟩, List.mem_of_getElem? (i := 1342) (by decide +kernel), List.mem_of_getElem? (i := 1708) (by decide +kernel), List.mem_of_getElem? (i := 1709) (by decide +kernel)⟩
theorem lw_p91 : lw_okq (⟨"StowTongueModel", "localOf", "(J)I"⟩, 53) := ⟨⟨by decide +kernel, by decide +kernel⟩, List.mem_of_getElem? (i := 1342) (by decide +kernel), List.mem_of_getElem? (i := 1714) (by decide +kernel), List.mem_of_getElem? (i := 1715) (by decide +kernel)⟩
theorem lw_p92 : lw_okq (⟨"StowTongueModel", "let", "(J)I"⟩, 53) := ⟨⟨by decide +kernel, by decide +kernel⟩, List.mem_of_getElem? (i := 1342) (by decide +kernel), List.mem_of_getElem? (i := 1718) (by decide +kernel), List.mem_of_getElem? (i := 1719) (by decide +kernel)⟩
theorem lw_p93 : lw_okq (⟨"StowTongueModel", "block", "(I)Z"⟩, 53) := ⟨⟨by decide +kernel, by decide +kernel⟩, List.mem_of_getElem? (i := 1342) (by decide +kernel), List.mem_of_getElem? (i := 1722) (by decide +kernel), List.mem_of_getElem? (i := 1723) (by decide +kernel)⟩
theorem lw_p94 : lw_okq (⟨"StowTongueModel", "statement", "(I)Z"⟩, 53) := ⟨⟨by decide +kernel, by decide +kernel⟩, List.mem_of_getElem? (i := 1342) (by decide +kernel), List.mem_of_getElem? (i := 1728) (by decide +kernel), List.mem_of_getElem? (i := 1729) (by decide +kernel)⟩
theorem lw_p95 : lw_okq (⟨"StowTongueModel", "put", "(I)I"⟩, 53) := ⟨⟨by decide +kernel, by decide +kernel⟩, List.mem_of_getElem? (i := 1342) (by decide +kernel), List.mem_of_getElem? (i := 1732) (by decide +kernel), List.mem_of_getElem? (i := 1733) (by decide +kernel)⟩
def lw_privs_6 : List (MethodName × Nat) := [(⟨"StowTongue$Sweeper", "reach", "(JJ)V"⟩, 3), (⟨"StowTongue$Sweeper", "reachFrom", "(LStowTongue$Store;I)V"⟩, 3), (⟨"StowTongue$Sweeper", "takeUnreached", "(LStowTongue$Store;)I"⟩, 3), (⟨"StowTongueModel", "read", "()Z"⟩, 53), (⟨"StowTongueModel", "step", "()V"⟩, 53), (⟨"StowTongueModel", "isReserved", "()Z"⟩, 53), (⟨"StowTongueModel", "is", "(Ljava/lang/String;)Z"⟩, 53), (⟨"StowTongueModel", "function", "()Z"⟩, 53), (⟨"StowTongueModel", "bad", "()Z"⟩, 53), (⟨"StowTongueModel", "name", "()J"⟩, 53), (⟨"StowTongueModel", "take", "(Ljava/lang/String;)Z"⟩, 53), (⟨"StowTongueModel", "localOf", "(J)I"⟩, 53), (⟨"StowTongueModel", "let", "(J)I"⟩, 53), (⟨"StowTongueModel", "block", "(I)Z"⟩, 53), (⟨"StowTongueModel", "statement", "(I)Z"⟩, 53), (⟨"StowTongueModel", "put", "(I)I"⟩, 53)]
theorem lw_r6 : ∀ q ∈ lw_privs_6, lw_okq q := List.forall_mem_cons.mpr ⟨lw_p80, List.forall_mem_cons.mpr ⟨lw_p81, List.forall_mem_cons.mpr ⟨lw_p82, List.forall_mem_cons.mpr ⟨lw_p83, List.forall_mem_cons.mpr ⟨lw_p84, List.forall_mem_cons.mpr ⟨lw_p85, List.forall_mem_cons.mpr ⟨lw_p86, List.forall_mem_cons.mpr ⟨lw_p87, List.forall_mem_cons.mpr ⟨lw_p88, List.forall_mem_cons.mpr ⟨lw_p89, List.forall_mem_cons.mpr ⟨lw_p90, List.forall_mem_cons.mpr ⟨lw_p91, List.forall_mem_cons.mpr ⟨lw_p92, List.forall_mem_cons.mpr ⟨lw_p93, List.forall_mem_cons.mpr ⟨lw_p94, List.forall_mem_cons.mpr ⟨lw_p95, fun _ h => absurd h List.not_mem_nil⟩⟩⟩⟩⟩⟩⟩⟩⟩⟩⟩⟩⟩⟩⟩⟩
theorem lw_p96 : lw_okq (⟨"StowTongueModel", "expression", "(I)Z"⟩, 53) := ⟨⟨by decide +kernel, by decide +kernel⟩, List.mem_of_getElem? (i := 1342) (by decide +kernel), List.mem_of_getElem? (i := 1738) (by decide +kernel), List.mem_of_getElem? (i := 1739) (by decide +kernel)⟩
theorem lw_p97 : lw_okq (⟨"StowTongueModel", "either", "(II)Z"⟩, 53) := ⟨⟨by decide +kernel, by decide +kernel⟩, List.mem_of_getElem? (i := 1342) (by decide +kernel), List.mem_of_getElem? (i := 1742) (by decide +kernel), List.mem_of_getElem? (i := 1743) (by decide +kernel)⟩
theorem lw_p98 : lw_okq (⟨"StowTongueModel", "compared", "(I)Z"⟩, 53) := ⟨⟨by decide +kernel, by decide +kernel⟩, List.mem_of_getElem? (i := 1342) (by decide +kernel), List.mem_of_getElem? (i := 1746) (by decide +kernel), List.mem_of_getElem? (i := 1747) (by decide +kernel)⟩
theorem lw_p99 : lw_okq (⟨"StowTongueModel", "sum", "(II)Z"⟩, 53) := ⟨⟨by decide +kernel, by decide +kernel⟩, List.mem_of_getElem? (i := 1342) (by decide +kernel), List.mem_of_getElem? (i := 1750) (by decide +kernel), List.mem_of_getElem? (i := 1751) (by decide +kernel)⟩
theorem lw_p100 : lw_okq (⟨"StowTongueModel", "unary", "(I)Z"⟩, 53) := ⟨⟨by decide +kernel, by decide +kernel⟩, List.mem_of_getElem? (i := 1342) (by decide +kernel), List.mem_of_getElem? (i := 1754) (by decide +kernel), List.mem_of_getElem? (i := 1755) (by decide +kernel)⟩
theorem lw_p101 : lw_okq (⟨"StowTongueModel", "atom", "(I)Z"⟩, 53) := ⟨⟨by decide +kernel, by decide +kernel⟩, List.mem_of_getElem? (i := 1342) (by decide +kernel), List.mem_of_getElem? (i := 1760) (by decide +kernel), List.mem_of_getElem? (i := 1761) (by decide +kernel)⟩
theorem lw_p102 : lw_okq (⟨"StowTongueModel", "simple", "(I)Z"⟩, 53) := ⟨⟨by decide +kernel, by decide +kernel⟩, List.mem_of_getElem? (i := 1342) (by decide +kernel), List.mem_of_getElem? (i := 1764) (by decide +kernel), List.mem_of_getElem? (i := 1765) (by decide +kernel)⟩
theorem lw_p103 : lw_okq (⟨"StowTongueModel", "value", "(IIJJ)V"⟩, 53) := ⟨⟨by decide +kernel, by decide +kernel⟩, List.mem_of_getElem? (i := 1342) (by decide +kernel), List.mem_of_getElem? (i := 1768) (by decide +kernel), List.mem_of_getElem? (i := 1769) (by decide +kernel)⟩
theorem lw_p104 : lw_okq (⟨"StowTongueModel", "put", "(II)V"⟩, 53) := ⟨⟨by decide +kernel, by decide +kernel⟩, List.mem_of_getElem? (i := 1342) (by decide +kernel), List.mem_of_getElem? (i := 1776) (by decide +kernel), List.mem_of_getElem? (i := 1777) (by decide +kernel)⟩
theorem lw_p105 : lw_okq (⟨"StowTongueModel", "named", "(I)Z"⟩, 53) := ⟨⟨by decide +kernel, by decide +kernel⟩, List.mem_of_getElem? (i := 1342) (by decide +kernel), List.mem_of_getElem? (i := 1785) (by decide +kernel), List.mem_of_getElem? (i := 1786) (by decide +kernel)⟩
theorem lw_p106 : lw_okq (⟨"StowTongueModel", "nameValue", "(J)I"⟩, 53) := ⟨⟨by decide +kernel, by decide +kernel⟩, List.mem_of_getElem? (i := 1342) (by decide +kernel), List.mem_of_getElem? (i := 1789) (by decide +kernel), List.mem_of_getElem? (i := 1790) (by decide +kernel)⟩
theorem lw_p107 : lw_okq (⟨"StowTongueModel", "built", "(I)Z"⟩, 53) := ⟨⟨by decide +kernel, by decide +kernel⟩, List.mem_of_getElem? (i := 1342) (by decide +kernel), List.mem_of_getElem? (i := 1796) (by decide +kernel), List.mem_of_getElem? (i := 1797) (by decide +kernel)⟩
theorem lw_p108 : lw_okq (⟨"StowTongueModel", "record", "(I)Z"⟩, 53) := ⟨⟨by decide +kernel, by decide +kernel⟩, List.mem_of_getElem? (i := 1342) (by decide +kernel), List.mem_of_getElem? (i := 1801) (by decide +kernel), List.mem_of_getElem? (i := 1802) (by decide +kernel)⟩
theorem lw_p109 : lw_okq (⟨"StowTongueModel", "row", "(I)Z"⟩, 53) := ⟨⟨by decide +kernel, by decide +kernel⟩, List.mem_of_getElem? (i := 1342) (by decide +kernel), List.mem_of_getElem? (i := 1806) (by decide +kernel), List.mem_of_getElem? (i := 1807) (by decide +kernel)⟩
theorem lw_p110 : lw_okq (⟨"StowTongueModel", "branch", "(I)Z"⟩, 53) := ⟨⟨by decide +kernel, by decide +kernel⟩, List.mem_of_getElem? (i := 1342) (by decide +kernel), List.mem_of_getElem? (i := 1824) (by decide +kernel), List.mem_of_getElem? (i := 1825) (by decide +kernel)⟩
theorem lw_p111 : lw_okq (⟨"StowTongueModel", "test", "(I)Z"⟩, 53) := ⟨⟨by decide +kernel, by decide +kernel⟩, List.mem_of_getElem? (i := 1342) (by decide +kernel), List.mem_of_getElem? (i := 1828) (by decide +kernel), List.mem_of_getElem? (i := 1829) (by decide +kernel)⟩
def lw_privs_7 : List (MethodName × Nat) := [(⟨"StowTongueModel", "expression", "(I)Z"⟩, 53), (⟨"StowTongueModel", "either", "(II)Z"⟩, 53), (⟨"StowTongueModel", "compared", "(I)Z"⟩, 53), (⟨"StowTongueModel", "sum", "(II)Z"⟩, 53), (⟨"StowTongueModel", "unary", "(I)Z"⟩, 53), (⟨"StowTongueModel", "atom", "(I)Z"⟩, 53), (⟨"StowTongueModel", "simple", "(I)Z"⟩, 53), (⟨"StowTongueModel", "value", "(IIJJ)V"⟩, 53), (⟨"StowTongueModel", "put", "(II)V"⟩, 53), (⟨"StowTongueModel", "named", "(I)Z"⟩, 53), (⟨"StowTongueModel", "nameValue", "(J)I"⟩, 53), (⟨"StowTongueModel", "built", "(I)Z"⟩, 53), (⟨"StowTongueModel", "record", "(I)Z"⟩, 53), (⟨"StowTongueModel", "row", "(I)Z"⟩, 53), (⟨"StowTongueModel", "branch", "(I)Z"⟩, 53), (⟨"StowTongueModel", "test", "(I)Z"⟩, 53)]
theorem lw_r7 : ∀ q ∈ lw_privs_7, lw_okq q := List.forall_mem_cons.mpr ⟨lw_p96, List.forall_mem_cons.mpr ⟨lw_p97, List.forall_mem_cons.mpr ⟨lw_p98, List.forall_mem_cons.mpr ⟨lw_p99, List.forall_mem_cons.mpr ⟨lw_p100, List.forall_mem_cons.mpr ⟨lw_p101, List.forall_mem_cons.mpr ⟨lw_p102, List.forall_mem_cons.mpr ⟨lw_p103, List.forall_mem_cons.mpr ⟨lw_p104, List.forall_mem_cons.mpr ⟨lw_p105, List.forall_mem_cons.mpr ⟨lw_p106, List.forall_mem_cons.mpr ⟨lw_p107, List.forall_mem_cons.mpr ⟨lw_p108, List.forall_mem_cons.mpr ⟨lw_p109, List.forall_mem_cons.mpr ⟨lw_p110, List.forall_mem_cons.mpr ⟨lw_p111, fun _ h => absurd h List.not_mem_nil⟩⟩⟩⟩⟩⟩⟩⟩⟩⟩⟩⟩⟩⟩⟩⟩
theorem lw_p112 : lw_okq (⟨"StowTongueModel", "loop", "(I)Z"⟩, 53) := ⟨⟨by decide +kernel, by decide +kernel⟩, List.mem_of_getElem? (i := 1342) (by decide +kernel), List.mem_of_getElem? (i := 1834) (by decide +kernel), List.mem_of_getElem? (i := 1835) (by decide +kernel)⟩
theorem lw_p113 : lw_okq (⟨"StowTongueModel", "assignment", "(I)Z"⟩, 53) := ⟨⟨by decide +kernel, by decide +kernel⟩, List.mem_of_getElem? (i := 1342) (by decide +kernel), List.mem_of_getElem? (i := 1841) (by decide +kernel), List.mem_of_getElem? (i := 1842) (by decide +kernel)⟩
theorem lw_p114 : lw_okq (⟨"StowTongueModel", "tellFunctions", "()I"⟩, 53) := ⟨⟨by decide +kernel, by decide +kernel⟩, List.mem_of_getElem? (i := 1342) (by decide +kernel), List.mem_of_getElem? (i := 1855) (by decide +kernel), List.mem_of_getElem? (i := 1856) (by decide +kernel)⟩
theorem lw_p115 : lw_okq (⟨"StowTongueModel", "fresh", "()LStowTongueModel$Code;"⟩, 53) := ⟨⟨by decide +kernel, by decide +kernel⟩, List.mem_of_getElem? (i := 1342) (by decide +kernel), List.mem_of_getElem? (i := 1863) (by decide +kernel), List.mem_of_getElem? (i := 1864) (by decide +kernel)⟩
theorem lw_p116 : lw_okq (⟨"StowTongueModel", "mark", "(LStowTongueModel$State;)V"⟩, 53) := ⟨⟨by decide +kernel, by decide +kernel⟩, List.mem_of_getElem? (i := 1342) (by decide +kernel), List.mem_of_getElem? (i := 1867) (by decide +kernel), List.mem_of_getElem? (i := 1868) (by decide +kernel)⟩
theorem lw_p117 : lw_okq (⟨"StowTongueModel", "go", "()I"⟩, 53) := ⟨⟨by decide +kernel, by decide +kernel⟩, List.mem_of_getElem? (i := 1342) (by decide +kernel), List.mem_of_getElem? (i := 1880) (by decide +kernel), List.mem_of_getElem? (i := 1881) (by decide +kernel)⟩
theorem lw_p118 : lw_okq (⟨"StowTongueModel", "enter", "(LStowTongueModel$Code;I)V"⟩, 53) := ⟨⟨by decide +kernel, by decide +kernel⟩, List.mem_of_getElem? (i := 1342) (by decide +kernel), List.mem_of_getElem? (i := 1884) (by decide +kernel), List.mem_of_getElem? (i := 1885) (by decide +kernel)⟩
theorem lw_p119 : lw_okq (⟨"StowTongueModel", "one", "()I"⟩, 53) := ⟨⟨by decide +kernel, by decide +kernel⟩, List.mem_of_getElem? (i := 1342) (by decide +kernel), List.mem_of_getElem? (i := 1889) (by decide +kernel), List.mem_of_getElem? (i := 1890) (by decide +kernel)⟩
theorem lw_p120 : lw_okq (⟨"StowTongueModel", "next", "()I"⟩, 53) := ⟨⟨by decide +kernel, by decide +kernel⟩, List.mem_of_getElem? (i := 1342) (by decide +kernel), List.mem_of_getElem? (i := 1893) (by decide +kernel), List.mem_of_getElem? (i := 1894) (by decide +kernel)⟩
theorem lw_p121 : lw_okq (⟨"StowTongueModel", "text", "(I)J"⟩, 53) := ⟨⟨by decide +kernel, by decide +kernel⟩, List.mem_of_getElem? (i := 1342) (by decide +kernel), List.mem_of_getElem? (i := 1897) (by decide +kernel), List.mem_of_getElem? (i := 1898) (by decide +kernel)⟩
theorem lw_p122 : lw_okq (⟨"StowTongueModel", "setRoot", "(J)I"⟩, 53) := ⟨⟨by decide +kernel, by decide +kernel⟩, List.mem_of_getElem? (i := 1342) (by decide +kernel), List.mem_of_getElem? (i := 1905) (by decide +kernel), List.mem_of_getElem? (i := 1906) (by decide +kernel)⟩
theorem lw_p123 : lw_okq (⟨"StowTongueModel", "go", "(I)V"⟩, 53) := ⟨⟨by decide +kernel, by decide +kernel⟩, List.mem_of_getElem? (i := 1342) (by decide +kernel), List.mem_of_getElem? (i := 1909) (by decide +kernel), List.mem_of_getElem? (i := 1910) (by decide +kernel)⟩
theorem lw_p124 : lw_okq (⟨"StowTongueModel", "isTrue", "(I)Z"⟩, 53) := ⟨⟨by decide +kernel, by decide +kernel⟩, List.mem_of_getElem? (i := 1342) (by decide +kernel), List.mem_of_getElem? (i := 1913) (by decide +kernel), List.mem_of_getElem? (i := 1914) (by decide +kernel)⟩
theorem lw_p125 : lw_okq (⟨"StowTongueModel", "spend", "()Z"⟩, 53) := ⟨⟨by decide +kernel, by decide +kernel⟩, List.mem_of_getElem? (i := 1342) (by decide +kernel), List.mem_of_getElem? (i := 1917) (by decide +kernel), List.mem_of_getElem? (i := 1918) (by decide +kernel)⟩
theorem lw_p126 : lw_okq (⟨"StowTongueModel", "print", "()I"⟩, 53) := ⟨⟨by decide +kernel, by decide +kernel⟩, List.mem_of_getElem? (i := 1342) (by decide +kernel), List.mem_of_getElem? (i := 1921) (by decide +kernel), List.mem_of_getElem? (i := 1922) (by decide +kernel)⟩
theorem lw_p127 : lw_okq (⟨"StowTongueModel", "say", "(I)Z"⟩, 53) := ⟨⟨by decide +kernel, by decide +kernel⟩, List.mem_of_getElem? (i := 1342) (by decide +kernel), List.mem_of_getElem? (i := 1926) (by decide +kernel), List.mem_of_getElem? (i := 1927) (by decide +kernel)⟩
def lw_privs_8 : List (MethodName × Nat) := [(⟨"StowTongueModel", "loop", "(I)Z"⟩, 53), (⟨"StowTongueModel", "assignment", "(I)Z"⟩, 53), (⟨"StowTongueModel", "tellFunctions", "()I"⟩, 53), (⟨"StowTongueModel", "fresh", "()LStowTongueModel$Code;"⟩, 53), (⟨"StowTongueModel", "mark", "(LStowTongueModel$State;)V"⟩, 53), (⟨"StowTongueModel", "go", "()I"⟩, 53), (⟨"StowTongueModel", "enter", "(LStowTongueModel$Code;I)V"⟩, 53), (⟨"StowTongueModel", "one", "()I"⟩, 53), (⟨"StowTongueModel", "next", "()I"⟩, 53), (⟨"StowTongueModel", "text", "(I)J"⟩, 53), (⟨"StowTongueModel", "setRoot", "(J)I"⟩, 53), (⟨"StowTongueModel", "go", "(I)V"⟩, 53), (⟨"StowTongueModel", "isTrue", "(I)Z"⟩, 53), (⟨"StowTongueModel", "spend", "()Z"⟩, 53), (⟨"StowTongueModel", "print", "()I"⟩, 53), (⟨"StowTongueModel", "say", "(I)Z"⟩, 53)]
theorem lw_r8 : ∀ q ∈ lw_privs_8, lw_okq q := List.forall_mem_cons.mpr ⟨lw_p112, List.forall_mem_cons.mpr ⟨lw_p113, List.forall_mem_cons.mpr ⟨lw_p114, List.forall_mem_cons.mpr ⟨lw_p115, List.forall_mem_cons.mpr ⟨lw_p116, List.forall_mem_cons.mpr ⟨lw_p117, List.forall_mem_cons.mpr ⟨lw_p118, List.forall_mem_cons.mpr ⟨lw_p119, List.forall_mem_cons.mpr ⟨lw_p120, List.forall_mem_cons.mpr ⟨lw_p121, List.forall_mem_cons.mpr ⟨lw_p122, List.forall_mem_cons.mpr ⟨lw_p123, List.forall_mem_cons.mpr ⟨lw_p124, List.forall_mem_cons.mpr ⟨lw_p125, List.forall_mem_cons.mpr ⟨lw_p126, List.forall_mem_cons.mpr ⟨lw_p127, fun _ h => absurd h List.not_mem_nil⟩⟩⟩⟩⟩⟩⟩⟩⟩⟩⟩⟩⟩⟩⟩⟩
theorem lw_p128 : lw_okq (⟨"StowTongueModel", "call", "(JI)I"⟩, 53) := ⟨⟨by decide +kernel, by decide +kernel⟩, List.mem_of_getElem? (i := 1342) (by decide +kernel), List.mem_of_getElem? (i := 1935) (by decide +kernel), List.mem_of_getElem? (i := 1936) (by decide +kernel)⟩
theorem lw_p129 : lw_okq (⟨"StowTongueModel", "leave", "()I"⟩, 53) := ⟨⟨by decide +kernel, by decide +kernel⟩, List.mem_of_getElem? (i := 1342) (by decide +kernel), List.mem_of_getElem? (i := 1939) (by decide +kernel), List.mem_of_getElem? (i := 1940) (by decide +kernel)⟩
theorem lw_p130 : lw_okq (⟨"StowTongueModel", "push", "(IJ)V"⟩, 53) := ⟨⟨by decide +kernel, by decide +kernel⟩, List.mem_of_getElem? (i := 1342) (by decide +kernel), List.mem_of_getElem? (i := 1943) (by decide +kernel), List.mem_of_getElem? (i := 1944) (by decide +kernel)⟩
theorem lw_p131 : lw_okq (⟨"StowTongueModel", "parts", "(I)I"⟩, 53) := ⟨⟨by decide +kernel, by decide +kernel⟩, List.mem_of_getElem? (i := 1342) (by decide +kernel), List.mem_of_getElem? (i := 1947) (by decide +kernel), List.mem_of_getElem? (i := 1948) (by decide +kernel)⟩
theorem lw_p132 : lw_okq (⟨"StowTongueModel", "setField", "(IJLStowTongueModel$Values;I)I"⟩, 53) := ⟨⟨by decide +kernel, by decide +kernel⟩, List.mem_of_getElem? (i := 1342) (by decide +kernel), List.mem_of_getElem? (i := 1955) (by decide +kernel), List.mem_of_getElem? (i := 1956) (by decide +kernel)⟩
theorem lw_p133 : lw_okq (⟨"StowTongueModel", "placeOf", "(IIZ)I"⟩, 53) := ⟨⟨by decide +kernel, by decide +kernel⟩, List.mem_of_getElem? (i := 1342) (by decide +kernel), List.mem_of_getElem? (i := 1959) (by decide +kernel), List.mem_of_getElem? (i := 1960) (by decide +kernel)⟩
theorem lw_p134 : lw_okq (⟨"StowTongueModel", "reckon", "(I)I"⟩, 53) := ⟨⟨by decide +kernel, by decide +kernel⟩, List.mem_of_getElem? (i := 1342) (by decide +kernel), List.mem_of_getElem? (i := 1963) (by decide +kernel), List.mem_of_getElem? (i := 1964) (by decide +kernel)⟩
theorem lw_p135 : lw_okq (⟨"StowTongueModel", "order", "(II)I"⟩, 53) := ⟨⟨by decide +kernel, by decide +kernel⟩, List.mem_of_getElem? (i := 1342) (by decide +kernel), List.mem_of_getElem? (i := 1971) (by decide +kernel), List.mem_of_getElem? (i := 1972) (by decide +kernel)⟩
theorem lw_p136 : lw_okq (⟨"StowTongueModel", "join", "(II)I"⟩, 53) := ⟨⟨by decide +kernel, by decide +kernel⟩, List.mem_of_getElem? (i := 1342) (by decide +kernel), List.mem_of_getElem? (i := 1976) (by decide +kernel), List.mem_of_getElem? (i := 1977) (by decide +kernel)⟩
theorem lw_p137 : lw_okq (⟨"StowTongueModel", "sum", "(IIJJ)I"⟩, 53) := ⟨⟨by decide +kernel, by decide +kernel⟩, List.mem_of_getElem? (i := 1342) (by decide +kernel), List.mem_of_getElem? (i := 1980) (by decide +kernel), List.mem_of_getElem? (i := 1981) (by decide +kernel)⟩
theorem lw_p138 : lw_okq (⟨"StowTongueModel", "things", "(I)I"⟩, 53) := ⟨⟨by decide +kernel, by decide +kernel⟩, List.mem_of_getElem? (i := 1342) (by decide +kernel), List.mem_of_getElem? (i := 1984) (by decide +kernel), List.mem_of_getElem? (i := 1985) (by decide +kernel)⟩
theorem lw_p139 : lw_okq (⟨"StowTongueModel", "make", "(I)I"⟩, 53) := ⟨⟨by decide +kernel, by decide +kernel⟩, List.mem_of_getElem? (i := 1342) (by decide +kernel), List.mem_of_getElem? (i := 1988) (by decide +kernel), List.mem_of_getElem? (i := 1989) (by decide +kernel)⟩
theorem lw_p140 : lw_okq (⟨"StowTongueModel", "wait", "(I)V"⟩, 53) := ⟨⟨by decide +kernel, by decide +kernel⟩, List.mem_of_getElem? (i := 1342) (by decide +kernel), List.mem_of_getElem? (i := 1997) (by decide +kernel), List.mem_of_getElem? (i := 1998) (by decide +kernel)⟩
theorem lw_p141 : lw_okq (⟨"StowTongueModel", "reach", "(IJ)V"⟩, 53) := ⟨⟨by decide +kernel, by decide +kernel⟩, List.mem_of_getElem? (i := 1342) (by decide +kernel), List.mem_of_getElem? (i := 2016) (by decide +kernel), List.mem_of_getElem? (i := 2017) (by decide +kernel)⟩
def lw_privs_9 : List (MethodName × Nat) := [(⟨"StowTongueModel", "call", "(JI)I"⟩, 53), (⟨"StowTongueModel", "leave", "()I"⟩, 53), (⟨"StowTongueModel", "push", "(IJ)V"⟩, 53), (⟨"StowTongueModel", "parts", "(I)I"⟩, 53), (⟨"StowTongueModel", "setField", "(IJLStowTongueModel$Values;I)I"⟩, 53), (⟨"StowTongueModel", "placeOf", "(IIZ)I"⟩, 53), (⟨"StowTongueModel", "reckon", "(I)I"⟩, 53), (⟨"StowTongueModel", "order", "(II)I"⟩, 53), (⟨"StowTongueModel", "join", "(II)I"⟩, 53), (⟨"StowTongueModel", "sum", "(IIJJ)I"⟩, 53), (⟨"StowTongueModel", "things", "(I)I"⟩, 53), (⟨"StowTongueModel", "make", "(I)I"⟩, 53), (⟨"StowTongueModel", "wait", "(I)V"⟩, 53), (⟨"StowTongueModel", "reach", "(IJ)V"⟩, 53)]
theorem lw_r9 : ∀ q ∈ lw_privs_9, lw_okq q := List.forall_mem_cons.mpr ⟨lw_p128, List.forall_mem_cons.mpr ⟨lw_p129, List.forall_mem_cons.mpr ⟨lw_p130, List.forall_mem_cons.mpr ⟨lw_p131, List.forall_mem_cons.mpr ⟨lw_p132, List.forall_mem_cons.mpr ⟨lw_p133, List.forall_mem_cons.mpr ⟨lw_p134, List.forall_mem_cons.mpr ⟨lw_p135, List.forall_mem_cons.mpr ⟨lw_p136, List.forall_mem_cons.mpr ⟨lw_p137, List.forall_mem_cons.mpr ⟨lw_p138, List.forall_mem_cons.mpr ⟨lw_p139, List.forall_mem_cons.mpr ⟨lw_p140, List.forall_mem_cons.mpr ⟨lw_p141, fun _ h => absurd h List.not_mem_nil⟩⟩⟩⟩⟩⟩⟩⟩⟩⟩⟩⟩⟩⟩
def lw_privs : List (MethodName × Nat) := lw_privs_1 ++ (lw_privs_2 ++ (lw_privs_3 ++ (lw_privs_4 ++ (lw_privs_5 ++ (lw_privs_6 ++ (lw_privs_7 ++ (lw_privs_8 ++ (lw_privs_9))))))))
def lw_tbl : List Cond := k2_sels lw_privs ++ tables_1
theorem lw_privs_ok : ∀ q ∈ lw_privs, lw_okq q := by
  show ∀ q ∈ lw_privs_1 ++ (lw_privs_2 ++ (lw_privs_3 ++ (lw_privs_4 ++ (lw_privs_5 ++ (lw_privs_6 ++ (lw_privs_7 ++ (lw_privs_8 ++ (lw_privs_9)))))))), lw_okq q
  exact List.forall_mem_append.mpr ⟨lw_r1, List.forall_mem_append.mpr ⟨lw_r2, List.forall_mem_append.mpr ⟨lw_r3, List.forall_mem_append.mpr ⟨lw_r4, List.forall_mem_append.mpr ⟨lw_r5, List.forall_mem_append.mpr ⟨lw_r6, List.forall_mem_append.mpr ⟨lw_r7, List.forall_mem_append.mpr ⟨lw_r8, lw_r9⟩⟩⟩⟩⟩⟩⟩⟩
end
section
/-! NAMES: the classes of the world, by program out of the tables -/
def TC0 : u_T := fun k => match k with
  | 0 => ("StowTongue$Out", "bytes", "[B", true)
  | 1 => ("StowTongue$Out", "size", "I", false)
  | _ => ("StowTongue$Out", "spilled", "Z", false)
def TC1 : u_T := fun k => match k with
  | 0 => ("StowTongue$Lexer", "words", "[J", true)
  | 1 => ("StowTongue$Lexer", "text", "[B", false)
  | 2 => ("StowTongue$Lexer", "length", "I", false)
  | 3 => ("StowTongue$Lexer", "next", "I", false)
  | 4 => ("StowTongue$Lexer", "taken", "I", false)
  | 5 => ("StowTongue$Lexer", "kind", "I", false)
  | 6 => ("StowTongue$Lexer", "place", "I", false)
  | 7 => ("StowTongue$Lexer", "number", "I", false)
  | 8 => ("StowTongue$Lexer", "head", "J", false)
  | _ => ("StowTongue$Lexer", "tail", "J", false)
def TC2 : u_T := fun k => match k with
  | 0 => ("StowTongue$Draft", "code", "[I", false)
  | 1 => ("StowTongue$Draft", "size", "I", false)
  | 2 => ("StowTongue$Draft", "pool", "[J", false)
  | 3 => ("StowTongue$Draft", "pooled", "I", false)
  | 4 => ("StowTongue$Draft", "locals", "[J", false)
  | _ => ("StowTongue$Draft", "localCount", "I", false)
def TC3 : u_T := fun k => match k with
  | 0 => ("java/util/ArrayList", "elementData", "[Ljava/lang/Object;", false)
  | 1 => ("java/util/ArrayList", "size", "I", false)
  | _ => ("java/util/AbstractList", "modCount", "I", false)
def TC4 : u_T := fun k => match k with
  | 0 => ("StowTongue$Unit", "name", "J", true)
  | 1 => ("StowTongue$Unit", "names", "I", true)
  | 2 => ("StowTongue$Unit", "locals", "I", true)
  | 3 => ("StowTongue$Unit", "tokens", "I", true)
  | 4 => ("StowTongue$Unit", "code", "[I", true)
  | _ => ("StowTongue$Unit", "pool", "[J", true)
def TC5 : u_T := fun k => match k with
  | 0 => ("StowTongue$Parser", "lexer", "LStowTongue$Lexer;", true)
  | 1 => ("StowTongue$Parser", "main", "LStowTongue$Draft;", true)
  | 2 => ("StowTongue$Parser", "body", "LStowTongue$Draft;", true)
  | 3 => ("StowTongue$Parser", "draft", "LStowTongue$Draft;", false)
  | 4 => ("StowTongue$Parser", "told", "Ljava/util/ArrayList;", true)
  | 5 => ("StowTongue$Parser", "program", "LStowTongue$Unit;", false)
  | 6 => ("StowTongue$Parser", "fault", "I", false)
  | _ => ("StowTongue$Parser", "assignable", "Z", false)
def TC6 : u_T := fun k => match k with
  | 0 => ("StowTongue$Machine", "head", "[J", false)
  | 1 => ("StowTongue$Machine", "tail", "[J", false)
  | 2 => ("StowTongue$Machine", "top", "I", false)
  | 3 => ("StowTongue$Machine", "base", "I", false)
  | 4 => ("StowTongue$Machine", "unit", "LStowTongue$Unit;", false)
  | 5 => ("StowTongue$Machine", "next", "I", false)
  | 6 => ("StowTongue$Machine", "callers", "[LStowTongue$Unit;", true)
  | 7 => ("StowTongue$Machine", "callerNext", "[I", true)
  | 8 => ("StowTongue$Machine", "callerBase", "[I", true)
  | 9 => ("StowTongue$Machine", "calls", "I", false)
  | 10 => ("StowTongue$Machine", "store", "LStowTongue$Store;", false)
  | 11 => ("StowTongue$Machine", "out", "LStowTongue$Out;", false)
  | 12 => ("StowTongue$Machine", "fuel", "I", false)
  | 13 => ("StowTongue$Machine", "taken", "I", false)
  | 14 => ("StowTongue$Machine", "error", "I", false)
  | 15 => ("StowTongue$Machine", "done", "Z", false)
  | 16 => ("StowTongue$Machine", "resultHead", "J", false)
  | _ => ("StowTongue$Machine", "resultTail", "J", false)
def TC7 : u_T := fun k => match k with
  | 0 => ("StowTongue$Log", "stores", "[LStowTongue$Store;", true)
  | 1 => ("StowTongue$Log", "bytes", "[I", true)
  | 2 => ("StowTongue$Log", "waiting", "I", false)
  | _ => ("StowTongue$Log", "safeBytes", "I", false)
def TC8 : u_T := fun k => match k with
  | 0 => ("StowTongue$Sweeper", "reached", "[Z", true)
  | 1 => ("StowTongue$Sweeper", "queue", "[I", true)
  | _ => ("StowTongue$Sweeper", "queued", "I", false)
def TC9 : u_T := fun k => match k with
  | 0 => ("StowTongue", "tape", "[B", true)
  | 1 => ("StowTongue", "tapeSize", "I", false)
  | 2 => ("StowTongue", "out", "LStowTongue$Out;", true)
  | 3 => ("StowTongue", "parser", "LStowTongue$Parser;", true)
  | 4 => ("StowTongue", "machine", "LStowTongue$Machine;", true)
  | 5 => ("StowTongue", "log", "LStowTongue$Log;", true)
  | 6 => ("StowTongue", "sweeper", "LStowTongue$Sweeper;", true)
  | 7 => ("StowTongue", "valueHead", "J", false)
  | 8 => ("StowTongue", "valueTail", "J", false)
  | _ => ("StowTongue", "fuelTaken", "I", false)
def TC10 : u_T := fun k => match k with
  | 0 => ("StowTongue$Store", "head", "[J", true)
  | 1 => ("StowTongue$Store", "tail", "[J", true)
  | 2 => ("StowTongue$Store", "cells", "[I", true)
  | 3 => ("StowTongue$Store", "rootName", "[J", true)
  | 4 => ("StowTongue$Store", "rootHead", "[J", true)
  | 5 => ("StowTongue$Store", "rootTail", "[J", true)
  | 6 => ("StowTongue$Store", "roots", "I", false)
  | 7 => ("StowTongue$Store", "told", "[LStowTongue$Unit;", true)
  | _ => ("StowTongue$Store", "functions", "I", false)
def TC11 : u_T := fun k => match k with
  | 0 => ("StowTongueModel$Values", "kind", "[I", true)
  | 1 => ("StowTongueModel$Values", "size", "[I", true)
  | 2 => ("StowTongueModel$Values", "one", "[J", true)
  | _ => ("StowTongueModel$Values", "two", "[J", true)
def TC12 : u_T := fun k => match k with
  | 0 => ("StowTongueModel$Code", "step", "[I", true)
  | 1 => ("StowTongueModel$Code", "value", "LStowTongueModel$Values;", true)
  | 2 => ("StowTongueModel$Code", "many", "I", false)
  | 3 => ("StowTongueModel$Code", "values", "I", false)
  | 4 => ("StowTongueModel$Code", "tokens", "I", false)
  | 5 => ("StowTongueModel$Code", "parameters", "I", false)
  | 6 => ("StowTongueModel$Code", "locals", "I", false)
  | 7 => ("StowTongueModel$Code", "base", "I", false)
  | 8 => ("StowTongueModel$Code", "valueBase", "I", false)
  | _ => ("StowTongueModel$Code", "used", "Z", false)
def TC13 : u_T := fun k => match k with
  | 0 => ("StowTongueModel$State", "kind", "[I", true)
  | 1 => ("StowTongueModel$State", "size", "[I", true)
  | 2 => ("StowTongueModel$State", "name", "[J", true)
  | 3 => ("StowTongueModel$State", "root", "[J", true)
  | 4 => ("StowTongueModel$State", "function", "[J", true)
  | 5 => ("StowTongueModel$State", "item", "LStowTongueModel$Values;", true)
  | 6 => ("StowTongueModel$State", "value", "LStowTongueModel$Values;", true)
  | 7 => ("StowTongueModel$State", "code", "[LStowTongueModel$Code;", true)
  | 8 => ("StowTongueModel$State", "objects", "I", false)
  | 9 => ("StowTongueModel$State", "roots", "I", false)
  | 10 => ("StowTongueModel$State", "functions", "I", false)
  | _ => ("StowTongueModel$State", "bytes", "I", false)
def TC14 : u_T := fun k => match k with
  | 0 => ("StowTongueModel", "tape", "[B", true)
  | 1 => ("StowTongueModel", "out", "[B", true)
  | 2 => ("StowTongueModel", "tapeMany", "I", false)
  | 3 => ("StowTongueModel", "outMany", "I", false)
  | 4 => ("StowTongueModel", "size", "I", false)
  | 5 => ("StowTongueModel", "next", "I", false)
  | 6 => ("StowTongueModel", "kind", "I", false)
  | 7 => ("StowTongueModel", "from", "I", false)
  | 8 => ("StowTongueModel", "to", "I", false)
  | 9 => ("StowTongueModel", "fault", "I", false)
  | 10 => ("StowTongueModel", "passed", "I", false)
  | 11 => ("StowTongueModel", "number", "J", false)
  | 12 => ("StowTongueModel", "program", "LStowTongueModel$Code;", true)
  | 13 => ("StowTongueModel", "toldName", "[J", true)
  | 14 => ("StowTongueModel", "toldFrom", "[I", true)
  | 15 => ("StowTongueModel", "toldValue", "[I", true)
  | 16 => ("StowTongueModel", "toldEnd", "[I", true)
  | 17 => ("StowTongueModel", "toldTokens", "[I", true)
  | 18 => ("StowTongueModel", "toldParameters", "[I", true)
  | 19 => ("StowTongueModel", "toldLocals", "[I", true)
  | 20 => ("StowTongueModel", "told", "I", false)
  | 21 => ("StowTongueModel", "all", "LStowTongueModel$Code;", true)
  | 22 => ("StowTongueModel", "c", "LStowTongueModel$Code;", false)
  | 23 => ("StowTongueModel", "local", "[J", true)
  | 24 => ("StowTongueModel", "locals", "I", false)
  | 25 => ("StowTongueModel", "given", "Z", false)
  | 26 => ("StowTongueModel", "own", "[J", true)
  | 27 => ("StowTongueModel", "lastStep", "I", false)
  | 28 => ("StowTongueModel", "pile", "[I", true)
  | 29 => ("StowTongueModel", "piled", "I", false)
  | 30 => ("StowTongueModel", "now", "LStowTongueModel$State;", false)
  | 31 => ("StowTongueModel", "work", "LStowTongueModel$State;", false)
  | 32 => ("StowTongueModel", "safe", "LStowTongueModel$State;", false)
  | 33 => ("StowTongueModel", "waiting", "[LStowTongueModel$State;", true)
  | 34 => ("StowTongueModel", "waits", "I", false)
  | 35 => ("StowTongueModel", "logged", "I", false)
  | 36 => ("StowTongueModel", "pool", "[LStowTongueModel$Code;", true)
  | 37 => ("StowTongueModel", "stack", "LStowTongueModel$Values;", true)
  | 38 => ("StowTongueModel", "place", "LStowTongueModel$Values;", true)
  | 39 => ("StowTongueModel", "given0", "LStowTongueModel$Values;", true)
  | 40 => ("StowTongueModel", "held", "LStowTongueModel$Values;", true)
  | 41 => ("StowTongueModel", "top", "I", false)
  | 42 => ("StowTongueModel", "placed", "I", false)
  | 43 => ("StowTongueModel", "fuel", "I", false)
  | 44 => ("StowTongueModel", "used", "I", false)
  | 45 => ("StowTongueModel", "frames", "I", false)
  | 46 => ("StowTongueModel", "pc", "I", false)
  | 47 => ("StowTongueModel", "codes", "[LStowTongueModel$Code;", true)
  | 48 => ("StowTongueModel", "back", "[I", true)
  | 49 => ("StowTongueModel", "base", "[I", true)
  | 50 => ("StowTongueModel", "reached", "[Z", true)
  | 51 => ("StowTongueModel", "path", "[I", true)
  | _ => ("StowTongueModel", "walked", "I", false)
def am_cl : List vw_C := [("StowTongue$Out", TC0, 3), ("StowTongue$Lexer", TC1, 10), ("StowTongue$Draft", TC2, 6), ("java/util/ArrayList", TC3, 3), ("StowTongue$Unit", TC4, 6), ("StowTongue$Parser", TC5, 8), ("StowTongue$Machine", TC6, 18), ("StowTongue$Log", TC7, 4), ("StowTongue$Sweeper", TC8, 3), ("StowTongue", TC9, 10), ("StowTongue$Store", TC10, 9), ("StowTongueModel$Values", TC11, 4), ("StowTongueModel$Code", TC12, 10), ("StowTongueModel$State", TC13, 12), ("StowTongueModel", TC14, 53)]
/-- the words that keep -/
def am_tbl : List Cond := lw_tbl.filter goodWord
def am_tys : List FieldType := [.int, .long, .byte, .boolean, .object "StowTongue$Unit", .object "StowTongue$Store", .object "java/lang/Object", .object "StowTongueModel$Code", .object "StowTongueModel$State"]
theorem am_w {w : Cond} (i : Nat) (h : lw_tbl[i]? = some w) (g : goodWord w = true) : w ∈ am_tbl := List.mem_filter.mpr ⟨List.mem_of_getElem? h, g⟩
theorem am_in_r {ws : List Cond} (ps : List Nat) (hp : ws = ps.filterMap (fun i => lw_tbl[i]?)) (h : ws.all goodWord = true) : ∀ w ∈ ws, w ∈ am_tbl := by
  intro w hw
  have h1 := List.all_eq_true.mp h w hw
  rw [hp] at hw
  obtain ⟨i, -, hi⟩ := List.mem_filterMap.mp hw
  exact am_w i hi h1
end
section
/-! THE ABSTRACT MACHINE. A heap of cells by number: numbers under 128 are cells of the start (the script, texts), never written; number r from 128 on is the cell at (the start's size + r - 128). A value's reference is such a number. am_W: the machine at a frame, over an abstract heap, comes to its method's end with 'post'. -/
abbrev am_C : Type := (FieldType × Nat × (Nat → Value)) ⊕ (Nat × List Value)
abbrev am_H : Type := Nat × (Nat → am_C)
abbrev am_K : Type := State × va_G × (FieldType → ClassId) × (Nat → Nat)
abbrev am_M : Type := MethodName × ByteArray × Nat × Option FieldType
def am_ad (K : am_K) (r : Nat) : Nat := if r < 128 then K.2.2.2 r else K.1.heap.size + (r - 128)
def am_tr (K : am_K) (v : Value) : Value := match v with
  | .ref r => .ref (am_ad K r)
  | w => w
def am_tl (K : am_K) (q : Nat × Value) : Nat × Value := (q.1, am_tr K q.2)
theorem am_cat (K : am_K) (v : Value) : (am_tr K v).category = v.category := by cases v <;> rfl
def am_at (K : am_K) (q : Nat) (c : am_C) (H : Heap) : Prop := match c with
  | .inl a => H[q]? = some (arrV (K.2.2.1 a.1) a.2.1 (fun j => am_tr K (a.2.2 j)))
  | .inr o => ∃ r : vw_C, am_cl[o.1]? = some r ∧ t_OB q (K.2.1.1 o.1) r.2.2 (K.2.1.2 o.1) H (vp_V (o.2.map (am_tr K)))
theorem am_at.kept {K : am_K} {q : Nat} {c : am_C} {H H1 : Heap} (h : am_at K q c H) (e : H1[q]? = H[q]?) : am_at K q c H1 := by
  cases c with
  | inl a => exact e.trans h
  | inr o =>
    obtain ⟨r, h1, h2⟩ := h
    exact ⟨r, h1, h2.kept e⟩
def am_HR (K : am_K) (X : Nat → am_C) (h : am_H) (H : Heap) : Prop :=
  128 ≤ h.1 ∧ H.size + 128 = K.1.heap.size + h.1 ∧ (∀ q : Nat, q < K.1.heap.size → H[q]? = K.1.heap[q]?) ∧ (∀ r : Nat, r < 128 → h.2 r = X r) ∧ ∀ r : Nat, 128 ≤ r → r < h.1 → am_at K (am_ad K r) (h.2 r) H
theorem am_ad_hi {K : am_K} {r : Nat} (h : 128 ≤ r) : am_ad K r = K.1.heap.size + (r - 128) := if_neg (by omega)
theorem am_HR.set {K : am_K} {X : Nat → am_C} {h : am_H} {H H1 : Heap} (g : am_HR K X h H) {r : Nat} (h1 : 128 ≤ r) (h2 : r < h.1) {c : am_C} (hz : H1.size = H.size) (ho : ∀ q : Nat, q ≠ am_ad K r → H1[q]? = H[q]?) (hc : am_at K (am_ad K r) c H1) : am_HR K X (h.1, va_up h.2 r c) H1 := by
  obtain ⟨g1, g2, g3, g4, g5⟩ := g
  have e := am_ad_hi (K := K) h1
  refine ⟨g1, by rw [hz]; exact g2, fun q hq => (ho q (by omega)).trans (g3 q hq), fun x hx => ?_, fun x hx hx2 => ?_⟩
  · show va_up h.2 r c x = X x
    rw [va_up_ne _ _ (by omega)]
    exact g4 x hx
  · show am_at K (am_ad K x) (va_up h.2 r c x) H1
    by_cases hxr : x = r
    · subst hxr
      rw [va_up_self]
      exact hc
    · rw [va_up_ne _ _ hxr]
      have e2 := am_ad_hi (K := K) hx
      exact (g5 x hx hx2).kept (ho _ (by omega))
theorem am_HR.push {K : am_K} {X : Nat → am_C} {h : am_H} {H H1 : Heap} (g : am_HR K X h H) {c : am_C} (hz : H1.size = H.size + 1) (ho : ∀ q : Nat, q < H.size → H1[q]? = H[q]?) (hc : am_at K H.size c H1) : am_HR K X (h.1 + 1, va_up h.2 h.1 c) H1 ∧ am_ad K h.1 = H.size := by
  obtain ⟨g1, g2, g3, g4, g5⟩ := g
  have e := am_ad_hi (K := K) g1
  have e3 : am_ad K h.1 = H.size := by omega
  refine ⟨⟨by show 128 ≤ h.1 + 1; omega, by show H1.size + 128 = K.1.heap.size + (h.1 + 1); omega, fun q hq => (ho q (by omega)).trans (g3 q hq), fun x hx => ?_, fun x hx hx2 => ?_⟩, e3⟩
  · show va_up h.2 h.1 c x = X x
    rw [va_up_ne _ _ (by omega)]
    exact g4 x hx
  · show am_at K (am_ad K x) (va_up h.2 h.1 c x) H1
    have hx2 : x < h.1 + 1 := hx2
    by_cases hxr : x = h.1
    · subst hxr
      rw [va_up_self, e3]
      exact hc
    · rw [va_up_ne _ _ hxr]
      have e2 := am_ad_hi (K := K) hx
      exact (g5 x hx (by omega)).kept (ho _ (by omega))
/-- what a frame stands on: the machine, its code, the tables' words, the start's tables warmed, room -/
def am_Z (K : am_K) (p : Program) (R : Room) (s : State) (m : MethodId) (args : Array Value) (meth : Method) (c : Code) (M : am_M) (d : Nat) : Prop :=
  p.tables.exec = Jvm.exec ∧ c.code = M.2.1 ∧ c.maxLocals = M.2.2.1 ∧ s.vm.findClass M.1.cls = some m.cls ∧ (∀ w ∈ am_tbl, w.before args s = true) ∧ meth.sig.returnType = M.2.2.2 ∧ meth.locks = false ∧ meth.name = M.1.name ∧ K.1.WarmedH s.vm ∧ d ≤ R.frames ∧ 64 * d ≤ R.locals
def am_Q (K : am_K) (X : Nat → am_C) (post : Option Value → am_H → Prop) : Array Value → State → Outcome → State → Prop := fun _ _ o t => ∃ (v : Option Value) (h : am_H), o = .returned (v.map (am_tr K)) ∧ am_HR K X h t.heap ∧ post v h
def am_W (K : am_K) (X : Nat → am_C) (M : am_M) (d kc ks uc us pc : Nat) (lv : List (Nat × Value)) (st : List Value) (h : am_H) (post : Option Value → am_H → Prop) : Prop :=
  ∀ (p : Program) (l : Launch) (e : Env) (R : Room) (s : State) (m : MethodId) (args : Array Value) (below : List Frame) (meth : Method) (c : Code) (H : Heap) (locs : List Loc) (cells slots : Nat) (ls : Array Slot),
    am_Z K p R s m args meth c M d → am_HR K X h H → (∀ q ∈ locs, K.1.heap.size ≤ q.base) → lv_has ls M.2.2.1 (lv.map (am_tl K)) → cells + (kc - uc) ≤ R.cells → slots + (ks - us) ≤ R.slots →
    W p l e R s m args below meth c H locs cells slots (MQ below (am_Q K X post) args s R.cells R.slots (fun q => K.1.heap.size ≤ q)) (F0 m pc ls (st.map (am_tr K)))
/-- a local -/
def am_lk : List (Nat × Value) → Nat → Option Value
  | [], _ => none
  | (j, v) :: l, i => if j = i then some v else am_lk l i
theorem am_lk_mem : ∀ {lv : List (Nat × Value)} {i : Nat} {v : Value}, am_lk lv i = some v → (i, v) ∈ lv
  | [], _, _, h => by simp [am_lk] at h
  | (j, x) :: l, i, v, h => by
    by_cases hj : j = i
    · rw [am_lk, if_pos hj] at h
      cases h
      subst hj
      exact List.mem_cons_self
    · rw [am_lk, if_neg hj] at h
      exact List.mem_cons_of_mem _ (am_lk_mem h)
theorem am_loc {K : am_K} {ls : Array Slot} {n : Nat} {lv : List (Nat × Value)} {i : Nat} {v : Value} (hl : lv_has ls n (lv.map (am_tl K))) (h : am_lk lv i = some v) : ls[i]? = some (.val (am_tr K v)) :=
  hl.2.2 (i, am_tr K v) (List.mem_map.mpr ⟨(i, v), am_lk_mem h, rfl⟩)
def am_s1 (lv : List (Nat × Value)) (i : Nat) (v : Value) : List (Nat × Value) := (i, v) :: lv.filter (fun q => !(q.1 == i) && !(q.1 + 1 == i && q.2.category == 2))
def am_s2 (lv : List (Nat × Value)) (i : Nat) (v : Value) : List (Nat × Value) := (i, v) :: lv.filter (fun q => !(q.1 == i) && (!(q.1 == i + 1) && !(q.1 + 1 == i && q.2.category == 2)))
theorem am_s1_map (K : am_K) (lv : List (Nat × Value)) (i : Nat) (v : Value) : (i, am_tr K v) :: (lv.map (am_tl K)).filter (fun q => !(q.1 == i) && !(q.1 + 1 == i && q.2.category == 2)) = (am_s1 lv i v).map (am_tl K) := by
  simp only [am_s1, List.map_cons, List.filter_map, am_tl]
  congr 2
  apply List.filter_congr
  intro q _
  simp only [Function.comp, am_tl, am_cat]
theorem am_s2_map (K : am_K) (lv : List (Nat × Value)) (i : Nat) (v : Value) : (i, am_tr K v) :: (lv.map (am_tl K)).filter (fun q => !(q.1 == i) && (!(q.1 == i + 1) && !(q.1 + 1 == i && q.2.category == 2))) = (am_s2 lv i v).map (am_tl K) := by
  simp only [am_s2, List.map_cons, List.filter_map, am_tl]
  congr 2
  apply List.filter_congr
  intro q _
  simp only [Function.comp, am_tl, am_cat]
section AM
variable {K : am_K} {X : Nat → am_C} {M : am_M} {d kc ks uc us pc : Nat} {lv : List (Nat × Value)} {st : List Value} {h : am_H} {post : Option Value → am_H → Prop}
/-- fewer locals, in another order -/
theorem am_locs {lv' : List (Nat × Value)} (ee : lv'.map (fun q => am_lk lv q.1) = lv'.map (fun q => some q.2)) (k : am_W K X M d kc ks uc us pc lv' st h post) : am_W K X M d kc ks uc us pc lv st h post := by
  intro p l e R s m args below meth c H locs cells slots ls z hH hL hl h1 h2
  refine k p l e R s m args below meth c H locs cells slots ls z hH hL ⟨hl.1, hl.2.1, fun q hq => ?_⟩ h1 h2
  obtain ⟨x, hx, rfl⟩ := List.mem_map.mp hq
  obtain ⟨i, hi⟩ := List.getElem?_of_mem hx
  have e1 : (lv'.map (fun q => am_lk lv q.1))[i]? = (lv'.map (fun q => some q.2))[i]? := by rw [ee]
  rw [List.getElem?_map, List.getElem?_map, hi] at e1
  exact am_loc hl (Option.some.inj e1)
/-- room may be left -/
theorem am_less {d0 kc0 ks0 uc0 us0 : Nat} (hd : d0 ≤ d) (hc : kc0 - uc0 ≤ kc - uc) (hs : ks0 - us0 ≤ ks - us) (k : am_W K X M d0 kc0 ks0 uc0 us0 pc lv st h post) : am_W K X M d kc ks uc us pc lv st h post := by
  intro p l e R s m args below meth c H locs cells slots ls z hH hL hl h1 h2
  obtain ⟨z1, z2, z3, z4, z5, z6, z7, z8, z9, z10, z11⟩ := z
  exact k p l e R s m args below meth c H locs cells slots ls ⟨z1, z2, z3, z4, z5, z6, z7, z8, z9, by omega, by omega⟩ hH hL hl (by omega) (by omega)
theorem am_post {post0 : Option Value → am_H → Prop} (hp : ∀ v h', post0 v h' → post v h') (k : am_W K X M d kc ks uc us pc lv st h post0) : am_W K X M d kc ks uc us pc lv st h post := by
  intro p l e R s m args below meth c H locs cells slots ls z hH hL hl h1 h2 T hT X1
  obtain ⟨t, a, o, b1, b2, ⟨v, h', c1, c2, c3⟩, b4⟩ := k p l e R s m args below meth c H locs cells slots ls z hH hL hl h1 h2 T hT X1
  exact ⟨t, a, o, b1, b2, ⟨v, h', c1, c2, hp v h' c3⟩, b4⟩

theorem am_iconst {i : Int} {v : Int32} (hd : decode M.2.1 pc = .ok (.iconst i, 1)) (hv : Int32.ofInt i = v) (k : am_W K X M d kc ks uc us (pc + 1) lv (.int v :: st) h post) : am_W K X M d kc ks uc us pc lv (st) h post := by
  intro p l e R s m args below meth c H locs cells slots ls z hH hL hl h1 h2
  exact lv_iconst z.1 z.2.1 hd hv (k p l e R s m args below meth c H locs cells slots ls z hH hL hl h1 h2)
theorem am_bipush {i : Int} {v : Int32} (hd : decode M.2.1 pc = .ok (.bipush i, 2)) (hv : (Int8.ofInt i).toInt32 = v) (k : am_W K X M d kc ks uc us (pc + 2) lv (.int v :: st) h post) : am_W K X M d kc ks uc us pc lv (st) h post := by
  intro p l e R s m args below meth c H locs cells slots ls z hH hL hl h1 h2
  exact lv_bipush z.1 z.2.1 hd hv (k p l e R s m args below meth c H locs cells slots ls z hH hL hl h1 h2)
theorem am_sipush {i : Int} {v : Int32} (hd : decode M.2.1 pc = .ok (.sipush i, 3)) (hv : (Int16.ofInt i).toInt32 = v) (k : am_W K X M d kc ks uc us (pc + 3) lv (.int v :: st) h post) : am_W K X M d kc ks uc us pc lv (st) h post := by
  intro p l e R s m args below meth c H locs cells slots ls z hH hL hl h1 h2
  exact lv_sipush z.1 z.2.1 hd hv (k p l e R s m args below meth c H locs cells slots ls z hH hL hl h1 h2)
theorem am_lconst {i : Fin 2} {v : Int64} (hd : decode M.2.1 pc = .ok (.lconst i, 1)) (hv : Int64.ofNat (i : Nat) = v) (k : am_W K X M d kc ks uc us (pc + 1) lv (.long v :: st) h post) : am_W K X M d kc ks uc us pc lv (st) h post := by
  intro p l e R s m args below meth c H locs cells slots ls z hH hL hl h1 h2
  exact lv_lconst z.1 z.2.1 hd hv (k p l e R s m args below meth c H locs cells slots ls z hH hL hl h1 h2)
theorem am_null (hd : decode M.2.1 pc = .ok (.aconst_null, 1)) (k : am_W K X M d kc ks uc us (pc + 1) lv (.null :: st) h post) : am_W K X M d kc ks uc us pc lv (st) h post := by
  intro p l e R s m args below meth c H locs cells slots ls z hH hL hl h1 h2
  exact lv_null z.1 z.2.1 hd (k p l e R s m args below meth c H locs cells slots ls z hH hL hl h1 h2)
theorem am_ldc {ix : Nat} {v : Int32} (hw : Cond.constant M.1.cls ix v ∈ am_tbl) (hd : decode M.2.1 pc = .ok (.ldc ix, 2)) (k : am_W K X M d kc ks uc us (pc + 2) lv (.int v :: st) h post) : am_W K X M d kc ks uc us pc lv (st) h post := by
  intro p l e R s m args below meth c H locs cells slots ls z hH hL hl h1 h2
  exact lv_ldc z.1 z.2.1 z.2.2.2.1 (z.2.2.2.2.1 _ hw) hd (k p l e R s m args below meth c H locs cells slots ls z hH hL hl h1 h2)
theorem am_ldcw {ix : Nat} {v : Int32} (hw : Cond.constant M.1.cls ix v ∈ am_tbl) (hd : decode M.2.1 pc = .ok (.ldc_w ix, 3)) (k : am_W K X M d kc ks uc us (pc + 3) lv (.int v :: st) h post) : am_W K X M d kc ks uc us pc lv (st) h post := by
  intro p l e R s m args below meth c H locs cells slots ls z hH hL hl h1 h2
  exact lv_ldcw z.1 z.2.1 z.2.2.2.1 (z.2.2.2.2.1 _ hw) hd (k p l e R s m args below meth c H locs cells slots ls z hH hL hl h1 h2)
theorem am_ldc2 {ix : Nat} {v : Int64} (hw : Cond.constantLong M.1.cls ix v ∈ am_tbl) (hd : decode M.2.1 pc = .ok (.ldc2_w ix, 3)) (k : am_W K X M d kc ks uc us (pc + 3) lv (.long v :: st) h post) : am_W K X M d kc ks uc us pc lv (st) h post := by
  intro p l e R s m args below meth c H locs cells slots ls z hH hL hl h1 h2
  exact lv_ldc2 z.1 z.2.1 z.2.2.2.1 (z.2.2.2.2.1 _ hw) hd (k p l e R s m args below meth c H locs cells slots ls z hH hL hl h1 h2)
theorem am_iload_n {n : Fin 4} {i : Nat} {x : Int32} (hd : decode M.2.1 pc = .ok (.iload_n n, 1)) (hi : (n : Nat) = i) (hk : am_lk lv i = some (.int x)) (k : am_W K X M d kc ks uc us (pc + 1) lv (.int x :: st) h post) : am_W K X M d kc ks uc us pc lv (st) h post := by
  intro p l e R s m args below meth c H locs cells slots ls z hH hL hl h1 h2
  exact lv_iload_n z.1 z.2.1 hd hi (am_loc hl hk) (k p l e R s m args below meth c H locs cells slots ls z hH hL hl h1 h2)
theorem am_iload {i : Nat} {x : Int32} (hd : decode M.2.1 pc = .ok (.iload i, 2)) (hk : am_lk lv i = some (.int x)) (k : am_W K X M d kc ks uc us (pc + 2) lv (.int x :: st) h post) : am_W K X M d kc ks uc us pc lv (st) h post := by
  intro p l e R s m args below meth c H locs cells slots ls z hH hL hl h1 h2
  exact lv_iload z.1 z.2.1 hd (am_loc hl hk) (k p l e R s m args below meth c H locs cells slots ls z hH hL hl h1 h2)
theorem am_lload_n {n : Fin 4} {i : Nat} {x : Int64} (hd : decode M.2.1 pc = .ok (.lload_n n, 1)) (hi : (n : Nat) = i) (hk : am_lk lv i = some (.long x)) (k : am_W K X M d kc ks uc us (pc + 1) lv (.long x :: st) h post) : am_W K X M d kc ks uc us pc lv (st) h post := by
  intro p l e R s m args below meth c H locs cells slots ls z hH hL hl h1 h2
  exact lv_lload_n z.1 z.2.1 hd hi (am_loc hl hk) (k p l e R s m args below meth c H locs cells slots ls z hH hL hl h1 h2)
theorem am_lload {i : Nat} {x : Int64} (hd : decode M.2.1 pc = .ok (.lload i, 2)) (hk : am_lk lv i = some (.long x)) (k : am_W K X M d kc ks uc us (pc + 2) lv (.long x :: st) h post) : am_W K X M d kc ks uc us pc lv (st) h post := by
  intro p l e R s m args below meth c H locs cells slots ls z hH hL hl h1 h2
  exact lv_lload z.1 z.2.1 hd (am_loc hl hk) (k p l e R s m args below meth c H locs cells slots ls z hH hL hl h1 h2)
theorem am_aload_n {n : Fin 4} {i : Nat} {x : Nat} (hd : decode M.2.1 pc = .ok (.aload_n n, 1)) (hi : (n : Nat) = i) (hk : am_lk lv i = some (.ref x)) (k : am_W K X M d kc ks uc us (pc + 1) lv (.ref x :: st) h post) : am_W K X M d kc ks uc us pc lv (st) h post := by
  intro p l e R s m args below meth c H locs cells slots ls z hH hL hl h1 h2
  exact lv_aload_n z.1 z.2.1 hd hi (am_loc hl hk) (k p l e R s m args below meth c H locs cells slots ls z hH hL hl h1 h2)
theorem am_aload {i : Nat} {x : Nat} (hd : decode M.2.1 pc = .ok (.aload i, 2)) (hk : am_lk lv i = some (.ref x)) (k : am_W K X M d kc ks uc us (pc + 2) lv (.ref x :: st) h post) : am_W K X M d kc ks uc us pc lv (st) h post := by
  intro p l e R s m args below meth c H locs cells slots ls z hH hL hl h1 h2
  exact lv_aload z.1 z.2.1 hd (am_loc hl hk) (k p l e R s m args below meth c H locs cells slots ls z hH hL hl h1 h2)
theorem am_aload_nN {n : Fin 4} {i : Nat} (hd : decode M.2.1 pc = .ok (.aload_n n, 1)) (hi : (n : Nat) = i) (hk : am_lk lv i = some .null) (k : am_W K X M d kc ks uc us (pc + 1) lv (.null :: st) h post) : am_W K X M d kc ks uc us pc lv (st) h post := by
  intro p l e R s m args below meth c H locs cells slots ls z hH hL hl h1 h2
  exact lv_aload_nN z.1 z.2.1 hd hi (am_loc hl hk) (k p l e R s m args below meth c H locs cells slots ls z hH hL hl h1 h2)
theorem am_aloadN {i : Nat} (hd : decode M.2.1 pc = .ok (.aload i, 2)) (hk : am_lk lv i = some .null) (k : am_W K X M d kc ks uc us (pc + 2) lv (.null :: st) h post) : am_W K X M d kc ks uc us pc lv (st) h post := by
  intro p l e R s m args below meth c H locs cells slots ls z hH hL hl h1 h2
  exact lv_aloadN z.1 z.2.1 hd (am_loc hl hk) (k p l e R s m args below meth c H locs cells slots ls z hH hL hl h1 h2)
theorem am_istore_n {n : Fin 4} {i : Nat} {x : Int32} (hd : decode M.2.1 pc = .ok (.istore_n n, 1)) (hi : (n : Nat) = i) (hb : i < M.2.2.1) (k : am_W K X M d kc ks uc us (pc + 1) (am_s1 lv i (.int x)) st h post) : am_W K X M d kc ks uc us pc lv (.int x :: st) h post := by
  intro p l e R s m args below meth c H locs cells slots ls z hH hL hl h1 h2
  exact lv_istore_n z.1 z.2.1 hd hi hl hb (am_s1_map K lv i (.int x)) (fun ls hl => k p l e R s m args below meth c H locs cells slots ls z hH hL hl h1 h2)
theorem am_istore {i : Nat} {x : Int32} (hd : decode M.2.1 pc = .ok (.istore i, 2)) (hb : i < M.2.2.1) (k : am_W K X M d kc ks uc us (pc + 2) (am_s1 lv i (.int x)) st h post) : am_W K X M d kc ks uc us pc lv (.int x :: st) h post := by
  intro p l e R s m args below meth c H locs cells slots ls z hH hL hl h1 h2
  exact lv_istore z.1 z.2.1 hd hl hb (am_s1_map K lv i (.int x)) (fun ls hl => k p l e R s m args below meth c H locs cells slots ls z hH hL hl h1 h2)
theorem am_lstore_n {n : Fin 4} {i : Nat} {x : Int64} (hd : decode M.2.1 pc = .ok (.lstore_n n, 1)) (hi : (n : Nat) = i) (hb : i + 1 < M.2.2.1) (k : am_W K X M d kc ks uc us (pc + 1) (am_s2 lv i (.long x)) st h post) : am_W K X M d kc ks uc us pc lv (.long x :: st) h post := by
  intro p l e R s m args below meth c H locs cells slots ls z hH hL hl h1 h2
  exact lv_lstore_n z.1 z.2.1 hd hi hl hb (am_s2_map K lv i (.long x)) (fun ls hl => k p l e R s m args below meth c H locs cells slots ls z hH hL hl h1 h2)
theorem am_lstore {i : Nat} {x : Int64} (hd : decode M.2.1 pc = .ok (.lstore i, 2)) (hb : i + 1 < M.2.2.1) (k : am_W K X M d kc ks uc us (pc + 2) (am_s2 lv i (.long x)) st h post) : am_W K X M d kc ks uc us pc lv (.long x :: st) h post := by
  intro p l e R s m args below meth c H locs cells slots ls z hH hL hl h1 h2
  exact lv_lstore z.1 z.2.1 hd hl hb (am_s2_map K lv i (.long x)) (fun ls hl => k p l e R s m args below meth c H locs cells slots ls z hH hL hl h1 h2)
theorem am_astore_n {n : Fin 4} {i : Nat} {x : Nat} (hd : decode M.2.1 pc = .ok (.astore_n n, 1)) (hi : (n : Nat) = i) (hb : i < M.2.2.1) (k : am_W K X M d kc ks uc us (pc + 1) (am_s1 lv i (.ref x)) st h post) : am_W K X M d kc ks uc us pc lv (.ref x :: st) h post := by
  intro p l e R s m args below meth c H locs cells slots ls z hH hL hl h1 h2
  exact lv_astore_n z.1 z.2.1 hd hi hl hb (am_s1_map K lv i (.ref x)) (fun ls hl => k p l e R s m args below meth c H locs cells slots ls z hH hL hl h1 h2)
theorem am_astore {i : Nat} {x : Nat} (hd : decode M.2.1 pc = .ok (.astore i, 2)) (hb : i < M.2.2.1) (k : am_W K X M d kc ks uc us (pc + 2) (am_s1 lv i (.ref x)) st h post) : am_W K X M d kc ks uc us pc lv (.ref x :: st) h post := by
  intro p l e R s m args below meth c H locs cells slots ls z hH hL hl h1 h2
  exact lv_astore z.1 z.2.1 hd hl hb (am_s1_map K lv i (.ref x)) (fun ls hl => k p l e R s m args below meth c H locs cells slots ls z hH hL hl h1 h2)
theorem am_astore_nN {n : Fin 4} {i : Nat} (hd : decode M.2.1 pc = .ok (.astore_n n, 1)) (hi : (n : Nat) = i) (hb : i < M.2.2.1) (k : am_W K X M d kc ks uc us (pc + 1) (am_s1 lv i (.null)) st h post) : am_W K X M d kc ks uc us pc lv (.null :: st) h post := by
  intro p l e R s m args below meth c H locs cells slots ls z hH hL hl h1 h2
  exact lv_astore_nN z.1 z.2.1 hd hi hl hb (am_s1_map K lv i .null) (fun ls hl => k p l e R s m args below meth c H locs cells slots ls z hH hL hl h1 h2)
theorem am_astoreN {i : Nat} (hd : decode M.2.1 pc = .ok (.astore i, 2)) (hb : i < M.2.2.1) (k : am_W K X M d kc ks uc us (pc + 2) (am_s1 lv i (.null)) st h post) : am_W K X M d kc ks uc us pc lv (.null :: st) h post := by
  intro p l e R s m args below meth c H locs cells slots ls z hH hL hl h1 h2
  exact lv_astoreN z.1 z.2.1 hd hl hb (am_s1_map K lv i .null) (fun ls hl => k p l e R s m args below meth c H locs cells slots ls z hH hL hl h1 h2)
theorem am_iinc {i : Nat} {n : Int} {x v : Int32} (hd : decode M.2.1 pc = .ok (.iinc i n, 3)) (hk : am_lk lv i = some (.int x)) (hv : Int32.ofInt n = v) (hb : i < M.2.2.1) (k : am_W K X M d kc ks uc us (pc + 3) (am_s1 lv i (.int (x + v))) st h post) : am_W K X M d kc ks uc us pc lv st h post := by
  intro p l e R s m args below meth c H locs cells slots ls z hH hL hl h1 h2
  obtain ⟨j, hj⟩ := List.getElem?_of_mem (List.mem_map.mpr ⟨(i, .int x), am_lk_mem hk, rfl⟩ : am_tl K (i, .int x) ∈ lv.map (am_tl K))
  exact lv_iinc z.1 z.2.1 hd hl hj (congrArg (x + ·) hv) hb (am_s1_map K lv i (.int (x + v))) (fun ls hl => k p l e R s m args below meth c H locs cells slots ls z hH hL hl h1 h2)
theorem am_iadd {x y : Int32} (hd : decode M.2.1 pc = .ok (.iadd, 1)) (k : am_W K X M d kc ks uc us (pc + 1) lv (.int (x + y) :: st) h post) : am_W K X M d kc ks uc us pc lv (.int y :: .int x :: st) h post := by
  intro p l e R s m args below meth c H locs cells slots ls z hH hL hl h1 h2
  exact lv_iadd z.1 z.2.1 hd (k p l e R s m args below meth c H locs cells slots ls z hH hL hl h1 h2)
theorem am_isub {x y : Int32} (hd : decode M.2.1 pc = .ok (.isub, 1)) (k : am_W K X M d kc ks uc us (pc + 1) lv (.int (x - y) :: st) h post) : am_W K X M d kc ks uc us pc lv (.int y :: .int x :: st) h post := by
  intro p l e R s m args below meth c H locs cells slots ls z hH hL hl h1 h2
  exact lv_isub z.1 z.2.1 hd (k p l e R s m args below meth c H locs cells slots ls z hH hL hl h1 h2)
theorem am_imul {x y : Int32} (hd : decode M.2.1 pc = .ok (.imul, 1)) (k : am_W K X M d kc ks uc us (pc + 1) lv (.int (x * y) :: st) h post) : am_W K X M d kc ks uc us pc lv (.int y :: .int x :: st) h post := by
  intro p l e R s m args below meth c H locs cells slots ls z hH hL hl h1 h2
  exact lv_imul z.1 z.2.1 hd (k p l e R s m args below meth c H locs cells slots ls z hH hL hl h1 h2)
theorem am_iand {x y : Int32} (hd : decode M.2.1 pc = .ok (.iand, 1)) (k : am_W K X M d kc ks uc us (pc + 1) lv (.int (x &&& y) :: st) h post) : am_W K X M d kc ks uc us pc lv (.int y :: .int x :: st) h post := by
  intro p l e R s m args below meth c H locs cells slots ls z hH hL hl h1 h2
  exact lv_iand z.1 z.2.1 hd (k p l e R s m args below meth c H locs cells slots ls z hH hL hl h1 h2)
theorem am_ior {x y : Int32} (hd : decode M.2.1 pc = .ok (.ior, 1)) (k : am_W K X M d kc ks uc us (pc + 1) lv (.int (x ||| y) :: st) h post) : am_W K X M d kc ks uc us pc lv (.int y :: .int x :: st) h post := by
  intro p l e R s m args below meth c H locs cells slots ls z hH hL hl h1 h2
  exact lv_ior z.1 z.2.1 hd (k p l e R s m args below meth c H locs cells slots ls z hH hL hl h1 h2)
theorem am_ixor {x y : Int32} (hd : decode M.2.1 pc = .ok (.ixor, 1)) (k : am_W K X M d kc ks uc us (pc + 1) lv (.int (x ^^^ y) :: st) h post) : am_W K X M d kc ks uc us pc lv (.int y :: .int x :: st) h post := by
  intro p l e R s m args below meth c H locs cells slots ls z hH hL hl h1 h2
  exact lv_ixor z.1 z.2.1 hd (k p l e R s m args below meth c H locs cells slots ls z hH hL hl h1 h2)
theorem am_ladd {x y : Int64} (hd : decode M.2.1 pc = .ok (.ladd, 1)) (k : am_W K X M d kc ks uc us (pc + 1) lv (.long (x + y) :: st) h post) : am_W K X M d kc ks uc us pc lv (.long y :: .long x :: st) h post := by
  intro p l e R s m args below meth c H locs cells slots ls z hH hL hl h1 h2
  exact lv_ladd z.1 z.2.1 hd (k p l e R s m args below meth c H locs cells slots ls z hH hL hl h1 h2)
theorem am_lsub {x y : Int64} (hd : decode M.2.1 pc = .ok (.lsub, 1)) (k : am_W K X M d kc ks uc us (pc + 1) lv (.long (x - y) :: st) h post) : am_W K X M d kc ks uc us pc lv (.long y :: .long x :: st) h post := by
  intro p l e R s m args below meth c H locs cells slots ls z hH hL hl h1 h2
  exact lv_lsub z.1 z.2.1 hd (k p l e R s m args below meth c H locs cells slots ls z hH hL hl h1 h2)
theorem am_lmul {x y : Int64} (hd : decode M.2.1 pc = .ok (.lmul, 1)) (k : am_W K X M d kc ks uc us (pc + 1) lv (.long (x * y) :: st) h post) : am_W K X M d kc ks uc us pc lv (.long y :: .long x :: st) h post := by
  intro p l e R s m args below meth c H locs cells slots ls z hH hL hl h1 h2
  exact lv_lmul z.1 z.2.1 hd (k p l e R s m args below meth c H locs cells slots ls z hH hL hl h1 h2)
theorem am_land {x y : Int64} (hd : decode M.2.1 pc = .ok (.land, 1)) (k : am_W K X M d kc ks uc us (pc + 1) lv (.long (x &&& y) :: st) h post) : am_W K X M d kc ks uc us pc lv (.long y :: .long x :: st) h post := by
  intro p l e R s m args below meth c H locs cells slots ls z hH hL hl h1 h2
  exact lv_land z.1 z.2.1 hd (k p l e R s m args below meth c H locs cells slots ls z hH hL hl h1 h2)
theorem am_lor {x y : Int64} (hd : decode M.2.1 pc = .ok (.lor, 1)) (k : am_W K X M d kc ks uc us (pc + 1) lv (.long (x ||| y) :: st) h post) : am_W K X M d kc ks uc us pc lv (.long y :: .long x :: st) h post := by
  intro p l e R s m args below meth c H locs cells slots ls z hH hL hl h1 h2
  exact lv_lor z.1 z.2.1 hd (k p l e R s m args below meth c H locs cells slots ls z hH hL hl h1 h2)
theorem am_lxor {x y : Int64} (hd : decode M.2.1 pc = .ok (.lxor, 1)) (k : am_W K X M d kc ks uc us (pc + 1) lv (.long (x ^^^ y) :: st) h post) : am_W K X M d kc ks uc us pc lv (.long y :: .long x :: st) h post := by
  intro p l e R s m args below meth c H locs cells slots ls z hH hL hl h1 h2
  exact lv_lxor z.1 z.2.1 hd (k p l e R s m args below meth c H locs cells slots ls z hH hL hl h1 h2)
theorem am_idiv {x y : Int32} (hd : decode M.2.1 pc = .ok (.idiv, 1)) (hne : ¬ y = 0) (k : am_W K X M d kc ks uc us (pc + 1) lv (.int (x / y) :: st) h post) : am_W K X M d kc ks uc us pc lv (.int y :: .int x :: st) h post := by
  intro p l e R s m args below meth c H locs cells slots ls z hH hL hl h1 h2
  exact lv_idiv z.1 z.2.1 hd hne (k p l e R s m args below meth c H locs cells slots ls z hH hL hl h1 h2)
theorem am_irem {x y : Int32} (hd : decode M.2.1 pc = .ok (.irem, 1)) (hne : ¬ y = 0) (k : am_W K X M d kc ks uc us (pc + 1) lv (.int (x - x / y * y) :: st) h post) : am_W K X M d kc ks uc us pc lv (.int y :: .int x :: st) h post := by
  intro p l e R s m args below meth c H locs cells slots ls z hH hL hl h1 h2
  exact lv_irem z.1 z.2.1 hd hne (k p l e R s m args below meth c H locs cells slots ls z hH hL hl h1 h2)
theorem am_ldiv {x y : Int64} (hd : decode M.2.1 pc = .ok (.ldiv, 1)) (hne : ¬ y = 0) (k : am_W K X M d kc ks uc us (pc + 1) lv (.long (x / y) :: st) h post) : am_W K X M d kc ks uc us pc lv (.long y :: .long x :: st) h post := by
  intro p l e R s m args below meth c H locs cells slots ls z hH hL hl h1 h2
  exact lv_ldiv z.1 z.2.1 hd hne (k p l e R s m args below meth c H locs cells slots ls z hH hL hl h1 h2)
theorem am_lrem {x y : Int64} (hd : decode M.2.1 pc = .ok (.lrem, 1)) (hne : ¬ y = 0) (k : am_W K X M d kc ks uc us (pc + 1) lv (.long (x - x / y * y) :: st) h post) : am_W K X M d kc ks uc us pc lv (.long y :: .long x :: st) h post := by
  intro p l e R s m args below meth c H locs cells slots ls z hH hL hl h1 h2
  exact lv_lrem z.1 z.2.1 hd hne (k p l e R s m args below meth c H locs cells slots ls z hH hL hl h1 h2)
theorem am_ineg {x : Int32} (hd : decode M.2.1 pc = .ok (.ineg, 1)) (k : am_W K X M d kc ks uc us (pc + 1) lv (.int (-x) :: st) h post) : am_W K X M d kc ks uc us pc lv (.int x :: st) h post := by
  intro p l e R s m args below meth c H locs cells slots ls z hH hL hl h1 h2
  exact lv_ineg z.1 z.2.1 hd (k p l e R s m args below meth c H locs cells slots ls z hH hL hl h1 h2)
theorem am_lneg {x : Int64} (hd : decode M.2.1 pc = .ok (.lneg, 1)) (k : am_W K X M d kc ks uc us (pc + 1) lv (.long (-x) :: st) h post) : am_W K X M d kc ks uc us pc lv (.long x :: st) h post := by
  intro p l e R s m args below meth c H locs cells slots ls z hH hL hl h1 h2
  exact lv_lneg z.1 z.2.1 hd (k p l e R s m args below meth c H locs cells slots ls z hH hL hl h1 h2)
theorem am_ishl {x y : Int32} (hd : decode M.2.1 pc = .ok (.ishl, 1)) (k : am_W K X M d kc ks uc us (pc + 1) lv (.int (x <<< (y &&& 31)) :: st) h post) : am_W K X M d kc ks uc us pc lv (.int y :: .int x :: st) h post := by
  intro p l e R s m args below meth c H locs cells slots ls z hH hL hl h1 h2
  exact lv_ishl z.1 z.2.1 hd (k p l e R s m args below meth c H locs cells slots ls z hH hL hl h1 h2)
theorem am_ishr {x y : Int32} (hd : decode M.2.1 pc = .ok (.ishr, 1)) (k : am_W K X M d kc ks uc us (pc + 1) lv (.int (x >>> (y &&& 31)) :: st) h post) : am_W K X M d kc ks uc us pc lv (.int y :: .int x :: st) h post := by
  intro p l e R s m args below meth c H locs cells slots ls z hH hL hl h1 h2
  exact lv_ishr z.1 z.2.1 hd (k p l e R s m args below meth c H locs cells slots ls z hH hL hl h1 h2)
theorem am_iushr {x y v : Int32} (hd : decode M.2.1 pc = .ok (.iushr, 1)) (hv : (x.toUInt32 >>> (y.toUInt32 &&& Int32.toUInt32 31)).toInt32 = v) (k : am_W K X M d kc ks uc us (pc + 1) lv (.int v :: st) h post) : am_W K X M d kc ks uc us pc lv (.int y :: .int x :: st) h post := by
  intro p l e R s m args below meth c H locs cells slots ls z hH hL hl h1 h2
  exact lv_iushr z.1 z.2.1 hd hv (k p l e R s m args below meth c H locs cells slots ls z hH hL hl h1 h2)
theorem am_lshl {x v : Int64} {y : Int32} (hd : decode M.2.1 pc = .ok (.lshl, 1)) (hv : x <<< (y.toInt64 &&& 63) = v) (k : am_W K X M d kc ks uc us (pc + 1) lv (.long v :: st) h post) : am_W K X M d kc ks uc us pc lv (.int y :: .long x :: st) h post := by
  intro p l e R s m args below meth c H locs cells slots ls z hH hL hl h1 h2
  exact lv_lshl z.1 z.2.1 hd hv (k p l e R s m args below meth c H locs cells slots ls z hH hL hl h1 h2)
theorem am_lshr {x v : Int64} {y : Int32} (hd : decode M.2.1 pc = .ok (.lshr, 1)) (hv : x >>> (y.toInt64 &&& 63) = v) (k : am_W K X M d kc ks uc us (pc + 1) lv (.long v :: st) h post) : am_W K X M d kc ks uc us pc lv (.int y :: .long x :: st) h post := by
  intro p l e R s m args below meth c H locs cells slots ls z hH hL hl h1 h2
  exact lv_lshr z.1 z.2.1 hd hv (k p l e R s m args below meth c H locs cells slots ls z hH hL hl h1 h2)
theorem am_lushr {x v : Int64} {y : Int32} (hd : decode M.2.1 pc = .ok (.lushr, 1)) (hv : (x.toUInt64 >>> (y.toInt64.toUInt64 &&& Int64.toUInt64 63)).toInt64 = v) (k : am_W K X M d kc ks uc us (pc + 1) lv (.long v :: st) h post) : am_W K X M d kc ks uc us pc lv (.int y :: .long x :: st) h post := by
  intro p l e R s m args below meth c H locs cells slots ls z hH hL hl h1 h2
  exact lv_lushr z.1 z.2.1 hd hv (k p l e R s m args below meth c H locs cells slots ls z hH hL hl h1 h2)
theorem am_i2l {x : Int32} {v : Int64} (hd : decode M.2.1 pc = .ok (.i2l, 1)) (hv : x.toInt64 = v) (k : am_W K X M d kc ks uc us (pc + 1) lv (.long v :: st) h post) : am_W K X M d kc ks uc us pc lv (.int x :: st) h post := by
  intro p l e R s m args below meth c H locs cells slots ls z hH hL hl h1 h2
  exact lv_i2l z.1 z.2.1 hd hv (k p l e R s m args below meth c H locs cells slots ls z hH hL hl h1 h2)
theorem am_l2i {x : Int64} {v : Int32} (hd : decode M.2.1 pc = .ok (.l2i, 1)) (hv : x.toInt32 = v) (k : am_W K X M d kc ks uc us (pc + 1) lv (.int v :: st) h post) : am_W K X M d kc ks uc us pc lv (.long x :: st) h post := by
  intro p l e R s m args below meth c H locs cells slots ls z hH hL hl h1 h2
  exact lv_l2i z.1 z.2.1 hd hv (k p l e R s m args below meth c H locs cells slots ls z hH hL hl h1 h2)
theorem am_i2b {x v : Int32} (hd : decode M.2.1 pc = .ok (.i2b, 1)) (hv : x.toInt8.toInt32 = v) (k : am_W K X M d kc ks uc us (pc + 1) lv (.int v :: st) h post) : am_W K X M d kc ks uc us pc lv (.int x :: st) h post := by
  intro p l e R s m args below meth c H locs cells slots ls z hH hL hl h1 h2
  exact lv_i2b z.1 z.2.1 hd hv (k p l e R s m args below meth c H locs cells slots ls z hH hL hl h1 h2)
theorem am_i2c {x v : Int32} (hd : decode M.2.1 pc = .ok (.i2c, 1)) (hv : (x.toUInt32 % 65536).toInt32 = v) (k : am_W K X M d kc ks uc us (pc + 1) lv (.int v :: st) h post) : am_W K X M d kc ks uc us pc lv (.int x :: st) h post := by
  intro p l e R s m args below meth c H locs cells slots ls z hH hL hl h1 h2
  exact lv_i2c z.1 z.2.1 hd hv (k p l e R s m args below meth c H locs cells slots ls z hH hL hl h1 h2)
theorem am_lcmp {x y : Int64} (hd : decode M.2.1 pc = .ok (.lcmp, 1)) (k : am_W K X M d kc ks uc us (pc + 1) lv (.int (lg_cmp x y) :: st) h post) : am_W K X M d kc ks uc us pc lv (.long y :: .long x :: st) h post := by
  intro p l e R s m args below meth c H locs cells slots ls z hH hL hl h1 h2
  exact W.lcmp z.1 z.2.1 hd (k p l e R s m args below meth c H locs cells slots ls z hH hL hl h1 h2)
theorem am_dup {va : Value} (hd : decode M.2.1 pc = .ok (.dup, 1)) (ha : va.category = 1) (k : am_W K X M d kc ks uc us (pc + 1) lv (va :: va :: st) h post) : am_W K X M d kc ks uc us pc lv (va :: st) h post := by
  intro p l e R s m args below meth c H locs cells slots ls z hH hL hl h1 h2
  exact lv_dup z.1 z.2.1 hd ((am_cat K va).trans ha) (k p l e R s m args below meth c H locs cells slots ls z hH hL hl h1 h2)
theorem am_pop {va : Value} (hd : decode M.2.1 pc = .ok (.pop, 1)) (ha : va.category = 1) (k : am_W K X M d kc ks uc us (pc + 1) lv (st) h post) : am_W K X M d kc ks uc us pc lv (va :: st) h post := by
  intro p l e R s m args below meth c H locs cells slots ls z hH hL hl h1 h2
  exact lv_pop z.1 z.2.1 hd ((am_cat K va).trans ha) (k p l e R s m args below meth c H locs cells slots ls z hH hL hl h1 h2)
theorem am_pop2 {va : Value} (hd : decode M.2.1 pc = .ok (.pop2, 1)) (ha : va.category = 2) (k : am_W K X M d kc ks uc us (pc + 1) lv (st) h post) : am_W K X M d kc ks uc us pc lv (va :: st) h post := by
  intro p l e R s m args below meth c H locs cells slots ls z hH hL hl h1 h2
  exact lv_pop2_2 z.1 z.2.1 hd ((am_cat K va).trans ha) (k p l e R s m args below meth c H locs cells slots ls z hH hL hl h1 h2)
theorem am_dup_x1 {va vb : Value} (hd : decode M.2.1 pc = .ok (.dup_x1, 1)) (ha : va.category = 1) (hb : vb.category = 1) (k : am_W K X M d kc ks uc us (pc + 1) lv (va :: vb :: va :: st) h post) : am_W K X M d kc ks uc us pc lv (va :: vb :: st) h post := by
  intro p l e R s m args below meth c H locs cells slots ls z hH hL hl h1 h2
  exact lv_dup_x1 z.1 z.2.1 hd ((am_cat K va).trans ha) ((am_cat K vb).trans hb) (k p l e R s m args below meth c H locs cells slots ls z hH hL hl h1 h2)
theorem am_dup_x2 {va vb vd : Value} (hd : decode M.2.1 pc = .ok (.dup_x2, 1)) (ha : va.category = 1) (hb : vb.category = 1) (hc : vd.category = 1) (k : am_W K X M d kc ks uc us (pc + 1) lv (va :: vb :: vd :: va :: st) h post) : am_W K X M d kc ks uc us pc lv (va :: vb :: vd :: st) h post := by
  intro p l e R s m args below meth c H locs cells slots ls z hH hL hl h1 h2
  exact lv_dup_x2 z.1 z.2.1 hd ((am_cat K va).trans ha) ((am_cat K vb).trans hb) ((am_cat K vd).trans hc) (k p l e R s m args below meth c H locs cells slots ls z hH hL hl h1 h2)
theorem am_dup2 {va vb : Value} (hd : decode M.2.1 pc = .ok (.dup2, 1)) (ha : va.category = 1) (hb : vb.category = 1) (k : am_W K X M d kc ks uc us (pc + 1) lv (va :: vb :: va :: vb :: st) h post) : am_W K X M d kc ks uc us pc lv (va :: vb :: st) h post := by
  intro p l e R s m args below meth c H locs cells slots ls z hH hL hl h1 h2
  exact lv_dup2_11 z.1 z.2.1 hd ((am_cat K va).trans ha) ((am_cat K vb).trans hb) (k p l e R s m args below meth c H locs cells slots ls z hH hL hl h1 h2)
theorem am_dup2L {va : Value} (hd : decode M.2.1 pc = .ok (.dup2, 1)) (ha : va.category = 2) (k : am_W K X M d kc ks uc us (pc + 1) lv (va :: va :: st) h post) : am_W K X M d kc ks uc us pc lv (va :: st) h post := by
  intro p l e R s m args below meth c H locs cells slots ls z hH hL hl h1 h2
  exact lv_dup2_2 z.1 z.2.1 hd ((am_cat K va).trans ha) (k p l e R s m args below meth c H locs cells slots ls z hH hL hl h1 h2)
theorem am_dup2_x1 {va vb : Value} (hd : decode M.2.1 pc = .ok (.dup2_x1, 1)) (ha : va.category = 2) (hb : vb.category = 1) (k : am_W K X M d kc ks uc us (pc + 1) lv (va :: vb :: va :: st) h post) : am_W K X M d kc ks uc us pc lv (va :: vb :: st) h post := by
  intro p l e R s m args below meth c H locs cells slots ls z hH hL hl h1 h2
  exact lv_dup2_x1_2 z.1 z.2.1 hd ((am_cat K va).trans ha) ((am_cat K vb).trans hb) (k p l e R s m args below meth c H locs cells slots ls z hH hL hl h1 h2)
theorem am_dup2_x2 {va vb vd : Value} (hd : decode M.2.1 pc = .ok (.dup2_x2, 1)) (ha : va.category = 2) (hb : vb.category = 1) (hc : vd.category = 1) (k : am_W K X M d kc ks uc us (pc + 1) lv (va :: vb :: vd :: va :: st) h post) : am_W K X M d kc ks uc us pc lv (va :: vb :: vd :: st) h post := by
  intro p l e R s m args below meth c H locs cells slots ls z hH hL hl h1 h2
  exact lv_dup2_x2_2 z.1 z.2.1 hd ((am_cat K va).trans ha) ((am_cat K vb).trans hb) ((am_cat K vd).trans hc) (k p l e R s m args below meth c H locs cells slots ls z hH hL hl h1 h2)
theorem am_if_eq {x : Int32} {off : Int} {tgt : Nat} (hd : decode M.2.1 pc = .ok (.ifCond .eq off, 3)) (ht : (pc : Int) + off = (tgt : Int)) (kt : x = 0 → am_W K X M d kc ks uc us tgt lv st h post) (kf : ¬ x = 0 → am_W K X M d kc ks uc us (pc + 3) lv st h post) : am_W K X M d kc ks uc us pc lv (.int x :: st) h post := by
  intro p l e R s m args below meth c H locs cells slots ls z hH hL hl h1 h2
  exact lv_if_eq z.1 z.2.1 hd ht (fun q => kt q p l e R s m args below meth c H locs cells slots ls z hH hL hl h1 h2) (fun q => kf q p l e R s m args below meth c H locs cells slots ls z hH hL hl h1 h2)
theorem am_if_ne {x : Int32} {off : Int} {tgt : Nat} (hd : decode M.2.1 pc = .ok (.ifCond .ne off, 3)) (ht : (pc : Int) + off = (tgt : Int)) (kt : ¬ x = 0 → am_W K X M d kc ks uc us tgt lv st h post) (kf : x = 0 → am_W K X M d kc ks uc us (pc + 3) lv st h post) : am_W K X M d kc ks uc us pc lv (.int x :: st) h post := by
  intro p l e R s m args below meth c H locs cells slots ls z hH hL hl h1 h2
  exact lv_if_ne z.1 z.2.1 hd ht (fun q => kt q p l e R s m args below meth c H locs cells slots ls z hH hL hl h1 h2) (fun q => kf q p l e R s m args below meth c H locs cells slots ls z hH hL hl h1 h2)
theorem am_if_lt {x : Int32} {off : Int} {tgt : Nat} (hd : decode M.2.1 pc = .ok (.ifCond .lt off, 3)) (ht : (pc : Int) + off = (tgt : Int)) (kt : x < 0 → am_W K X M d kc ks uc us tgt lv st h post) (kf : ¬ x < 0 → am_W K X M d kc ks uc us (pc + 3) lv st h post) : am_W K X M d kc ks uc us pc lv (.int x :: st) h post := by
  intro p l e R s m args below meth c H locs cells slots ls z hH hL hl h1 h2
  exact lv_if_lt z.1 z.2.1 hd ht (fun q => kt q p l e R s m args below meth c H locs cells slots ls z hH hL hl h1 h2) (fun q => kf q p l e R s m args below meth c H locs cells slots ls z hH hL hl h1 h2)
theorem am_if_ge {x : Int32} {off : Int} {tgt : Nat} (hd : decode M.2.1 pc = .ok (.ifCond .ge off, 3)) (ht : (pc : Int) + off = (tgt : Int)) (kt : 0 ≤ x → am_W K X M d kc ks uc us tgt lv st h post) (kf : ¬ 0 ≤ x → am_W K X M d kc ks uc us (pc + 3) lv st h post) : am_W K X M d kc ks uc us pc lv (.int x :: st) h post := by
  intro p l e R s m args below meth c H locs cells slots ls z hH hL hl h1 h2
  exact lv_if_ge z.1 z.2.1 hd ht (fun q => kt q p l e R s m args below meth c H locs cells slots ls z hH hL hl h1 h2) (fun q => kf q p l e R s m args below meth c H locs cells slots ls z hH hL hl h1 h2)
theorem am_if_gt {x : Int32} {off : Int} {tgt : Nat} (hd : decode M.2.1 pc = .ok (.ifCond .gt off, 3)) (ht : (pc : Int) + off = (tgt : Int)) (kt : 0 < x → am_W K X M d kc ks uc us tgt lv st h post) (kf : ¬ 0 < x → am_W K X M d kc ks uc us (pc + 3) lv st h post) : am_W K X M d kc ks uc us pc lv (.int x :: st) h post := by
  intro p l e R s m args below meth c H locs cells slots ls z hH hL hl h1 h2
  exact lv_if_gt z.1 z.2.1 hd ht (fun q => kt q p l e R s m args below meth c H locs cells slots ls z hH hL hl h1 h2) (fun q => kf q p l e R s m args below meth c H locs cells slots ls z hH hL hl h1 h2)
theorem am_if_le {x : Int32} {off : Int} {tgt : Nat} (hd : decode M.2.1 pc = .ok (.ifCond .le off, 3)) (ht : (pc : Int) + off = (tgt : Int)) (kt : x ≤ 0 → am_W K X M d kc ks uc us tgt lv st h post) (kf : ¬ x ≤ 0 → am_W K X M d kc ks uc us (pc + 3) lv st h post) : am_W K X M d kc ks uc us pc lv (.int x :: st) h post := by
  intro p l e R s m args below meth c H locs cells slots ls z hH hL hl h1 h2
  exact lv_if_le z.1 z.2.1 hd ht (fun q => kt q p l e R s m args below meth c H locs cells slots ls z hH hL hl h1 h2) (fun q => kf q p l e R s m args below meth c H locs cells slots ls z hH hL hl h1 h2)
theorem am_icmp_eq {x y : Int32} {off : Int} {tgt : Nat} (hd : decode M.2.1 pc = .ok (.if_icmp .eq off, 3)) (ht : (pc : Int) + off = (tgt : Int)) (kt : x = y → am_W K X M d kc ks uc us tgt lv st h post) (kf : ¬ x = y → am_W K X M d kc ks uc us (pc + 3) lv st h post) : am_W K X M d kc ks uc us pc lv (.int y :: .int x :: st) h post := by
  intro p l e R s m args below meth c H locs cells slots ls z hH hL hl h1 h2
  exact lv_icmp_eq z.1 z.2.1 hd ht (fun q => kt q p l e R s m args below meth c H locs cells slots ls z hH hL hl h1 h2) (fun q => kf q p l e R s m args below meth c H locs cells slots ls z hH hL hl h1 h2)
theorem am_icmp_ne {x y : Int32} {off : Int} {tgt : Nat} (hd : decode M.2.1 pc = .ok (.if_icmp .ne off, 3)) (ht : (pc : Int) + off = (tgt : Int)) (kt : ¬ x = y → am_W K X M d kc ks uc us tgt lv st h post) (kf : x = y → am_W K X M d kc ks uc us (pc + 3) lv st h post) : am_W K X M d kc ks uc us pc lv (.int y :: .int x :: st) h post := by
  intro p l e R s m args below meth c H locs cells slots ls z hH hL hl h1 h2
  exact lv_icmp_ne z.1 z.2.1 hd ht (fun q => kt q p l e R s m args below meth c H locs cells slots ls z hH hL hl h1 h2) (fun q => kf q p l e R s m args below meth c H locs cells slots ls z hH hL hl h1 h2)
theorem am_icmp_lt {x y : Int32} {off : Int} {tgt : Nat} (hd : decode M.2.1 pc = .ok (.if_icmp .lt off, 3)) (ht : (pc : Int) + off = (tgt : Int)) (kt : x < y → am_W K X M d kc ks uc us tgt lv st h post) (kf : ¬ x < y → am_W K X M d kc ks uc us (pc + 3) lv st h post) : am_W K X M d kc ks uc us pc lv (.int y :: .int x :: st) h post := by
  intro p l e R s m args below meth c H locs cells slots ls z hH hL hl h1 h2
  exact lv_icmp_lt z.1 z.2.1 hd ht (fun q => kt q p l e R s m args below meth c H locs cells slots ls z hH hL hl h1 h2) (fun q => kf q p l e R s m args below meth c H locs cells slots ls z hH hL hl h1 h2)
theorem am_icmp_ge {x y : Int32} {off : Int} {tgt : Nat} (hd : decode M.2.1 pc = .ok (.if_icmp .ge off, 3)) (ht : (pc : Int) + off = (tgt : Int)) (kt : y ≤ x → am_W K X M d kc ks uc us tgt lv st h post) (kf : ¬ y ≤ x → am_W K X M d kc ks uc us (pc + 3) lv st h post) : am_W K X M d kc ks uc us pc lv (.int y :: .int x :: st) h post := by
  intro p l e R s m args below meth c H locs cells slots ls z hH hL hl h1 h2
  exact lv_icmp_ge z.1 z.2.1 hd ht (fun q => kt q p l e R s m args below meth c H locs cells slots ls z hH hL hl h1 h2) (fun q => kf q p l e R s m args below meth c H locs cells slots ls z hH hL hl h1 h2)
theorem am_icmp_gt {x y : Int32} {off : Int} {tgt : Nat} (hd : decode M.2.1 pc = .ok (.if_icmp .gt off, 3)) (ht : (pc : Int) + off = (tgt : Int)) (kt : y < x → am_W K X M d kc ks uc us tgt lv st h post) (kf : ¬ y < x → am_W K X M d kc ks uc us (pc + 3) lv st h post) : am_W K X M d kc ks uc us pc lv (.int y :: .int x :: st) h post := by
  intro p l e R s m args below meth c H locs cells slots ls z hH hL hl h1 h2
  exact lv_icmp_gt z.1 z.2.1 hd ht (fun q => kt q p l e R s m args below meth c H locs cells slots ls z hH hL hl h1 h2) (fun q => kf q p l e R s m args below meth c H locs cells slots ls z hH hL hl h1 h2)
theorem am_icmp_le {x y : Int32} {off : Int} {tgt : Nat} (hd : decode M.2.1 pc = .ok (.if_icmp .le off, 3)) (ht : (pc : Int) + off = (tgt : Int)) (kt : x ≤ y → am_W K X M d kc ks uc us tgt lv st h post) (kf : ¬ x ≤ y → am_W K X M d kc ks uc us (pc + 3) lv st h post) : am_W K X M d kc ks uc us pc lv (.int y :: .int x :: st) h post := by
  intro p l e R s m args below meth c H locs cells slots ls z hH hL hl h1 h2
  exact lv_icmp_le z.1 z.2.1 hd ht (fun q => kt q p l e R s m args below meth c H locs cells slots ls z hH hL hl h1 h2) (fun q => kf q p l e R s m args below meth c H locs cells slots ls z hH hL hl h1 h2)
theorem am_goto {off : Int} {tgt : Nat} (hd : decode M.2.1 pc = .ok (.goto off, 3)) (ht : (pc : Int) + off = (tgt : Int)) (k : am_W K X M d kc ks uc us tgt lv st h post) : am_W K X M d kc ks uc us pc lv st h post := by
  intro p l e R s m args below meth c H locs cells slots ls z hH hL hl h1 h2
  exact lv_goto z.1 z.2.1 hd ht (k p l e R s m args below meth c H locs cells slots ls z hH hL hl h1 h2)
theorem am_ifnullR {x : Nat} {off : Int} (hd : decode M.2.1 pc = .ok (.ifnull off, 3)) (k : am_W K X M d kc ks uc us (pc + 3) lv st h post) : am_W K X M d kc ks uc us pc lv (.ref x :: st) h post := by
  intro p l e R s m args below meth c H locs cells slots ls z hH hL hl h1 h2
  exact lv_ifnull z.1 z.2.1 hd (k p l e R s m args below meth c H locs cells slots ls z hH hL hl h1 h2)
theorem am_ifnullN {off : Int} {tgt : Nat} (hd : decode M.2.1 pc = .ok (.ifnull off, 3)) (ht : (pc : Int) + off = (tgt : Int)) (k : am_W K X M d kc ks uc us tgt lv st h post) : am_W K X M d kc ks uc us pc lv (.null :: st) h post := by
  intro p l e R s m args below meth c H locs cells slots ls z hH hL hl h1 h2
  exact lv_ifnullN z.1 z.2.1 hd ht (k p l e R s m args below meth c H locs cells slots ls z hH hL hl h1 h2)
theorem am_ifnonnullR {x : Nat} {off : Int} {tgt : Nat} (hd : decode M.2.1 pc = .ok (.ifnonnull off, 3)) (ht : (pc : Int) + off = (tgt : Int)) (k : am_W K X M d kc ks uc us tgt lv st h post) : am_W K X M d kc ks uc us pc lv (.ref x :: st) h post := by
  intro p l e R s m args below meth c H locs cells slots ls z hH hL hl h1 h2
  exact lv_ifnonnull z.1 z.2.1 hd ht (k p l e R s m args below meth c H locs cells slots ls z hH hL hl h1 h2)
theorem am_ifnonnullN {off : Int} (hd : decode M.2.1 pc = .ok (.ifnonnull off, 3)) (k : am_W K X M d kc ks uc us (pc + 3) lv st h post) : am_W K X M d kc ks uc us pc lv (.null :: st) h post := by
  intro p l e R s m args below meth c H locs cells slots ls z hH hL hl h1 h2
  exact lv_ifnonnullN z.1 z.2.1 hd (k p l e R s m args below meth c H locs cells slots ls z hH hL hl h1 h2)
theorem am_lookup {dflt : Int} {ps : Array (Int × Int)} {len : Nat} {x : Int32} {off : Int} {tgt : Nat} (hd : decode M.2.1 pc = .ok (.lookupswitch dflt ps, len)) (hp : (ps.toList.zip (ps.toList.drop 1)).all (fun (a, next) => a.1 < next.1) = true) (ho : Op.lookupswitch.offset ps.toList dflt x.toInt = off) (ht : (pc : Int) + off = (tgt : Int)) (k : am_W K X M d kc ks uc us tgt lv st h post) : am_W K X M d kc ks uc us pc lv (.int x :: st) h post := by
  intro p l e R s m args below meth c H locs cells slots ls z hH hL hl h1 h2
  exact lv_lookup z.1 z.2.1 hd hp ho ht (k p l e R s m args below meth c H locs cells slots ls z hH hL hl h1 h2)
theorem am_tableOut {dflt lo hi : Int} {offs : Array Int} {len : Nat} {x : Int32} {tgt : Nat} (hd : decode M.2.1 pc = .ok (.tableswitch dflt lo hi offs, len)) (hx : x.toInt < lo ∨ hi < x.toInt) (ht : (pc : Int) + dflt = (tgt : Int)) (k : am_W K X M d kc ks uc us tgt lv st h post) : am_W K X M d kc ks uc us pc lv (.int x :: st) h post := by
  intro p l e R s m args below meth c H locs cells slots ls z hH hL hl h1 h2
  exact lv_tableOut z.1 z.2.1 hd hx ht (k p l e R s m args below meth c H locs cells slots ls z hH hL hl h1 h2)
theorem am_tableIn {dflt lo hi : Int} {offs : Array Int} {len : Nat} {x : Int32} {off : Int} {tgt : Nat} (hd : decode M.2.1 pc = .ok (.tableswitch dflt lo hi offs, len)) (hx1 : ¬ x.toInt < lo) (hx2 : ¬ hi < x.toInt) (ho : offs[(x.toInt - lo).toNat]? = some off) (ht : (pc : Int) + off = (tgt : Int)) (k : am_W K X M d kc ks uc us tgt lv st h post) : am_W K X M d kc ks uc us pc lv (.int x :: st) h post := by
  intro p l e R s m args below meth c H locs cells slots ls z hH hL hl h1 h2
  exact lv_tableIn z.1 z.2.1 hd hx1 hx2 ho ht (k p l e R s m args below meth c H locs cells slots ls z hH hL hl h1 h2)
theorem am_iret {v : Int32} (hr : M.2.2.2 = some .int) (hd : decode M.2.1 pc = .ok (.ireturn, 1)) (hp : post (some (.int v)) h) : am_W K X M d kc ks uc us pc lv [.int v] h post := by
  intro p l e R s m args below meth c H locs cells slots ls z hH hL hl h1 h2
  refine W.widen (k := R.cells) (n := R.slots) (by omega) (by omega) ?_
  exact W.iret z.1 z.2.1 (z.2.2.2.2.2.1.trans hr) (fun t ht _ => ⟨some (.int v), h, rfl, by rw [ht]; exact hH, hp⟩) hL hd z.2.2.2.2.2.2.1
theorem am_zret {v : Int32} {ty : FieldType} (hr : M.2.2.2 = some ty) (hn : narrow ty (.int v) = .int v) (hd : decode M.2.1 pc = .ok (.ireturn, 1)) (hp : post (some (.int v)) h) : am_W K X M d kc ks uc us pc lv [.int v] h post := by
  intro p l e R s m args below meth c H locs cells slots ls z hH hL hl h1 h2
  refine W.widen (k := R.cells) (n := R.slots) (by omega) (by omega) ?_
  exact W.zret z.1 z.2.1 (z.2.2.2.2.2.1.trans hr) hn (fun t ht _ => ⟨some (.int v), h, rfl, by rw [ht]; exact hH, hp⟩) hL hd z.2.2.2.2.2.2.1
theorem am_lret {v : Int64} (hr : M.2.2.2 = some .long) (hd : decode M.2.1 pc = .ok (.lreturn, 1)) (hp : post (some (.long v)) h) : am_W K X M d kc ks uc us pc lv [.long v] h post := by
  intro p l e R s m args below meth c H locs cells slots ls z hH hL hl h1 h2
  refine W.widen (k := R.cells) (n := R.slots) (by omega) (by omega) ?_
  exact W.lret z.1 z.2.1 (z.2.2.2.2.2.1.trans hr) (fun t ht _ => ⟨some (.long v), h, rfl, by rw [ht]; exact hH, hp⟩) hL hd z.2.2.2.2.2.2.1
theorem am_vret (hr : M.2.2.2 = none) (hd : decode M.2.1 pc = .ok (.return_, 1)) (hp : post (none) h) : am_W K X M d kc ks uc us pc lv [] h post := by
  intro p l e R s m args below meth c H locs cells slots ls z hH hL hl h1 h2
  refine W.widen (k := R.cells) (n := R.slots) (by omega) (by omega) ?_
  exact W.vret z.1 z.2.1 (z.2.2.2.2.2.1.trans hr) (fun t ht _ => ⟨none, h, rfl, by rw [ht]; exact hH, hp⟩) hL hd z.2.2.2.2.2.2.1
theorem am_aret {v : Nat} {ty : FieldType} (hr : M.2.2.2 = some ty) (ht : (∃ n, ty = .object n) ∨ ∃ t, ty = .array t) (hd : decode M.2.1 pc = .ok (.areturn, 1)) (hp : post (some (.ref v)) h) : am_W K X M d kc ks uc us pc lv [.ref v] h post := by
  intro p l e R s m args below meth c H locs cells slots ls z hH hL hl h1 h2
  refine W.widen (k := R.cells) (n := R.slots) (by omega) (by omega) ?_
  exact W.aret z.1 z.2.1 (z.2.2.2.2.2.1.trans hr) ht (Or.inr ⟨_, rfl⟩) (fun t ht _ => ⟨some (.ref v), h, rfl, by rw [ht]; exact hH, hp⟩) hL hd z.2.2.2.2.2.2.1
theorem am_aretN {ty : FieldType} (hr : M.2.2.2 = some ty) (ht : (∃ n, ty = .object n) ∨ ∃ t, ty = .array t) (hd : decode M.2.1 pc = .ok (.areturn, 1)) (hp : post (some (.null)) h) : am_W K X M d kc ks uc us pc lv [.null] h post := by
  intro p l e R s m args below meth c H locs cells slots ls z hH hL hl h1 h2
  refine W.widen (k := R.cells) (n := R.slots) (by omega) (by omega) ?_
  exact W.aret z.1 z.2.1 (z.2.2.2.2.2.1.trans hr) ht (Or.inl rfl) (fun t ht _ => ⟨some (.null), h, rfl, by rw [ht]; exact hH, hp⟩) hL hd z.2.2.2.2.2.2.1
end AM
end
section
/-! THE ABSTRACT MACHINE'S HEAP ROWS -/
/-- a cell of the start, as read: an array, or an object of which some fields are known -/
def am_ext (K : am_K) (q : Nat) (c : am_C) : Prop := match c with
  | .inl a => ∃ cell : Cell, K.1.heap[q]? = some cell ∧ K.1.isArrayOf cell a.1 ∧ cell.vm ≠ .unknown ∧ cell.slots.size = a.2.1 ∧ ∀ j : Nat, j < a.2.1 → cell.slots[j]? = some (am_tr K (a.2.2 j))
  | .inr o => ∃ (r : vw_C) (cell : Cell), am_cl[o.1]? = some r ∧ K.1.heap[q]? = some cell ∧ cell.vm ≠ .unknown ∧ cell.vm.isStatics = false ∧ K.1.vm.findClass r.1 = some cell.cls ∧
      ∀ (k : Nat) (v : Value), o.2[k]? = some v → ∃ (cf fi : Nat) (kf : Class) (f : Field), K.1.fieldFound? (r.2.1 k).1 (r.2.1 k).2.1 (r.2.1 k).2.2.1 = some (cf, kf, fi, f) ∧ f.isStatic = false ∧ cell.slots[f.slot]? = some (am_tr K v)
def am_ok (K : am_K) (X : Nat → am_C) : Prop :=
  (∀ (c : Nat) (q : vw_C), am_cl[c]? = some q → u_Kn K.1 q.1 q.2.1 q.2.2 (K.2.1.1 c) (K.2.1.2 c)) ∧ (∀ ty ∈ am_tys, ArrOfT K.1 (K.2.2.1 ty) ty ∧ va_RA K.1 (K.2.2.1 ty) ty) ∧ (∀ w ∈ lw_tbl, ∃ A : Array Value, w.before A K.1 = true)
/-- the class's table: its words, its fields' names apart, their types known -/
def am_Cl (q : vw_C) : Prop := (∀ w ∈ u_ws q.1 q.2.1 q.2.2, w ∈ am_tbl) ∧ (∀ a, a < q.2.2 → ∀ b, b < q.2.2 → a ≠ b → (q.2.1 a).2.1 ≠ (q.2.1 b).2.1) ∧ (∀ k, k < q.2.2 → parseFieldDescriptor (q.2.1 k).2.2.1 = some ((parseFieldDescriptor (q.2.1 k).2.2.1).getD .int))
/-- a field's link: pool place ix of class own is field k of class ci -/
def am_F (own : String) (ix ci k : Nat) : Prop := ∃ q : vw_C, am_cl[ci]? = some q ∧ am_Cl q ∧ k < q.2.2 ∧
  (Cond.fieldLink own ix (q.2.1 k).1 (q.2.1 k).2.1 (q.2.1 k).2.2.1 ∈ am_tbl ∨ ∃ host, Cond.fieldLinkNest own ix (q.2.1 k).1 (q.2.1 k).2.1 (q.2.1 k).2.2.1 host ∈ lw_tbl)
theorem am_updV (K : am_K) (f : Nat → Value) (k : Nat) (v : Value) : updV (fun j => am_tr K (f j)) k (am_tr K v) = fun j => am_tr K (updV f k v j) := by
  funext j
  by_cases h : j = k
  · simp [updV, h]
  · simp [updV, h]
theorem am_narrow {K : am_K} {ty : FieldType} {v : Value} (h : narrow ty v = v) : narrow ty (am_tr K v) = am_tr K v := by
  cases v <;> first | exact h | (cases ty <;> rfl)
theorem am_fits {K : am_K} {ty : FieldType} {v : Value} (h : fits ty v = true) : fits ty (am_tr K v) = true := by
  cases v <;> first | exact h | (cases ty <;> exact h)
section AMH
variable {K : am_K} {X : Nat → am_C} {M : am_M} {d kc ks uc us pc : Nat} {lv : List (Nat × Value)} {st : List Value} {hn : Nat} {hf : Nat → am_C} {post : Option Value → am_H → Prop}
theorem am_kn {p : Program} {R : Room} {s : State} {m : MethodId} {args : Array Value} {meth : Method} {c : Code} (O : am_ok K X) (z : am_Z K p R s m args meth c M d) {ty : FieldType} (ht : ty ∈ am_tys) : ArrOfT s (K.2.2.1 ty) ty ∧ va_RA s (K.2.2.1 ty) ty :=
  ⟨arrOfT_moved z.2.2.2.2.2.2.2.2.1.alike (O.2.1 ty ht).1, (O.2.1 ty ht).2.moved z.2.2.2.2.2.2.2.2.1.alike⟩
theorem am_kc {p : Program} {R : Room} {s : State} {m : MethodId} {args : Array Value} {meth : Method} {c : Code} (O : am_ok K X) (z : am_Z K p R s m args meth c M d) : va_K K.2.1 am_cl [] s :=
  ⟨fun c q hq => u_Kn_moved z.2.2.2.2.2.2.2.2.1.alike (O.1 c q hq), fun k q hq => by simp at hq⟩
theorem am_locs2 {K : am_K} {locs : List Loc} {r i : Nat} (hL : ∀ q ∈ locs, K.1.heap.size ≤ q.base) (hr : 128 ≤ r) : ∀ q ∈ locs ++ [(⟨am_ad K r, i⟩ : Loc)], K.1.heap.size ≤ q.base := by
  intro q hq
  rcases List.mem_append.mp hq with h | h
  · exact hL q h
  · have e : q = ⟨am_ad K r, i⟩ := by simpa using h
    rw [e, am_ad_hi hr]
    exact Nat.le_add_right _ _
theorem am_get (O : am_ok K X) {ix ci k r : Nat} {fs : List Value} {v : Value} (hF : am_F M.1.cls ix ci k) (hd : decode M.2.1 pc = .ok (.getfield ix, 3)) (hc : hf r = .inr (ci, fs)) (hr : 128 ≤ r) (hr2 : r < hn) (hv : fs[k]? = some v) (kk : am_W K X M d kc ks uc us (pc + 3) lv (v :: st) (hn, hf) post) : am_W K X M d kc ks uc us pc lv (.ref r :: st) (hn, hf) post := by
  intro p l e R s m args below meth c H locs cells slots ls z hH hL hl h1 h2
  obtain ⟨q, e1, e2, hk, e4⟩ := hF
  have hat : am_at K (am_ad K r) (hf r) H := hH.2.2.2.2 r hr hr2
  rw [hc] at hat
  obtain ⟨q', f1, cell, g1, g2, g3, g4⟩ := hat
  have hq : q' = q := Option.some.inj (f1.symm.trans e1)
  subst hq
  obtain ⟨hS, hfc, kC, hkC, hkind⟩ := (am_kc O z).1 ci _ e1
  obtain ⟨cf, kf, fi, f, hi, hsl⟩ := hS k hk
  have hst := (u_facts hfc hkC (u_lays z.2.2.2.2.1 e2.1 hk) hi).1
  have hslot : cell.slots[f.slot]? = some (am_tr K v) := by
    rw [hsl, g4 k hk]
    simp [vp_V, hv]
  rcases e4 with e4 | ⟨host, e4⟩
  · exact W.getf z.1 z.2.1 z.2.2.2.1 (z.2.2.2.2.1 _ e4) hi hst g1 (by rw [g3]; exact fun h => by cases h) hslot rfl rfl hd (kk p l e R s m args below meth c H locs cells slots ls z hH hL hl h1 h2)
  · obtain ⟨A, hA⟩ := O.2.2 _ e4
    exact va_Wgetf z.1 z.2.1 z.2.2.2.1 (va_Nw.use rfl (va_Nw.warmF z.2.2.2.2.2.2.2.2.1 (va_Nw.of rfl hA))) hi hst g1 (by rw [g3]; exact fun h => by cases h) hslot rfl rfl hd (kk p l e R s m args below meth c H locs cells slots ls z hH hL hl h1 h2)
theorem am_put (O : am_ok K X) {ix ci k r : Nat} {fs : List Value} {v : Value} (hF : am_F M.1.cls ix ci k) (hd : decode M.2.1 pc = .ok (.putfield ix, 3)) (hc : hf r = .inr (ci, fs)) (hr : 128 ≤ r) (hr2 : r < hn) (hlen : k < fs.length)
    (ht : ∀ q : vw_C, am_cl[ci]? = some q → (q.2.1 k).2.2.2 = false ∧ narrow ((parseFieldDescriptor (q.2.1 k).2.2.1).getD .int) v = v ∧ fits ((parseFieldDescriptor (q.2.1 k).2.2.1).getD .int) v = true)
    (kk : am_W K X M d kc ks uc us (pc + 3) lv st (hn, va_up hf r (.inr (ci, fs.set k v))) post) : am_W K X M d kc ks uc us pc lv (v :: .ref r :: st) (hn, hf) post := by
  intro p l e R s m args below meth c H locs cells slots ls z hH hL hl h1 h2
  obtain ⟨q, e1, e2, hk, e4⟩ := hF
  have hat : am_at K (am_ad K r) (hf r) H := hH.2.2.2.2 r hr hr2
  rw [hc] at hat
  obtain ⟨q', f1, cell, g1, g2, g3, g4⟩ := hat
  have hq : q' = q := Option.some.inj (f1.symm.trans e1)
  subst hq
  have hK := am_kc O z
  obtain ⟨hS, hfc, kC, hkC, hkind⟩ := hK.1 ci _ e1
  have hap := va_apart (own := M.1.cls) (C := q'.1) (T := q'.2.1) (N := q'.2.2) z.2.2.2.2.1 e2.1 _ e2.2.2 e2.2.1 hK e1
  obtain ⟨cf, kf, fi, f, hi, hsl⟩ := hS k hk
  have hst := (u_facts hfc hkC (u_lays z.2.2.2.2.1 e2.1 hk) hi).1
  have hslt : f.slot < cell.slots.size := by rw [hsl]; exact k2_hasslot (g4 k hk)
  obtain ⟨t1, t2, t3⟩ := ht _ e1
  have tn := am_narrow (K := K) t2
  have tf := am_fits (K := K) t3
  have fin : ∀ H' : Heap, H'[am_ad K r]? = some (cell.setSlot f.slot (am_tr K v)) → H'.size = H.size → (∀ q, q ≠ am_ad K r → H'[q]? = H[q]?) → W p l e R s m args below meth c H' (locs ++ [⟨am_ad K r, f.slot⟩]) cells slots (MQ below (am_Q K X post) args s R.cells R.slots (fun q => K.1.heap.size ≤ q)) (F0 m (pc + 3) ls (st.map (am_tr K))) := by
    intro H' w1 w2 w3
    refine kk p l e R s m args below meth c H' _ cells slots ls z (hH.set hr hr2 w2 w3 ⟨q', e1, ?_⟩) (am_locs2 hL hr) hl h1 h2
    rw [hsl] at w1
    have hlen' : k < (fs.map (am_tr K)).length := by rw [List.length_map]; exact hlen
    have := t_OB.to (V := updV (vp_V (fs.map (am_tr K))) k (am_tr K v)) (V' := vp_V ((fs.map (am_tr K)).set k (am_tr K v))) (N := q'.2.2) ⟨_, w1, g2, g3, t_set g4 hap hk (am_tr K v)⟩ (fun j _ => vp_updV_set hlen' (am_tr K v) j)
    show t_OB _ _ _ _ _ (vp_V ((fs.set k v).map (am_tr K)))
    rw [List.map_set]
    exact this
  have hlay := z.2.2.2.2.1 _ (e2.1 _ (u_in_lay hk))
  unfold u_lay at hlay
  rw [if_neg (by rw [t1]; decide)] at hlay
  have h6 := u_store hfc hkC hkind hlay hi (e2.2.2 k hk) tn tf
  rcases e4 with e4 | ⟨host, e4⟩
  · exact W.putK z.1 z.2.1 (f := f) ⟨z.2.2.2.1, z.2.2.2.2.1 _ e4, ⟨_, _, _, hi⟩, hst⟩ (by rw [g2]; exact h6) g1 g3 hslt rfl rfl hd fin
  · obtain ⟨A, hA⟩ := O.2.2 _ e4
    exact va_WputK z.1 z.2.1 z.2.2.2.1 (va_Nw.use rfl (va_Nw.warmF z.2.2.2.2.2.2.2.2.1 (va_Nw.of rfl hA))) hi hst (by rw [g2]; exact h6) g1 g3 hslt rfl rfl hd fin
/-- a final field, in its own constructor -/
theorem am_putF (O : am_ok K X) {ix ci k r : Nat} {fs : List Value} {v : Value} (hF : am_F M.1.cls ix ci k) (hw : ∀ q : vw_C, am_cl[ci]? = some q → Cond.fieldLink M.1.cls ix (q.2.1 k).1 (q.2.1 k).2.1 (q.2.1 k).2.2.1 ∈ am_tbl ∧ M.1.cls = (q.2.1 k).1) (hin : M.1.name = "<init>") (hd : decode M.2.1 pc = .ok (.putfield ix, 3)) (hc : hf r = .inr (ci, fs)) (hr : 128 ≤ r) (hr2 : r < hn) (hlen : k < fs.length)
    (ht : ∀ q : vw_C, am_cl[ci]? = some q → (q.2.1 k).2.2.2 = true ∧ narrow ((parseFieldDescriptor (q.2.1 k).2.2.1).getD .int) v = v ∧ fits ((parseFieldDescriptor (q.2.1 k).2.2.1).getD .int) v = true)
    (kk : am_W K X M d kc ks uc us (pc + 3) lv st (hn, va_up hf r (.inr (ci, fs.set k v))) post) : am_W K X M d kc ks uc us pc lv (v :: .ref r :: st) (hn, hf) post := by
  intro p l e R s m args below meth c H locs cells slots ls z hH hL hl h1 h2
  obtain ⟨q, e1, e2, hk, e4⟩ := hF
  have hat : am_at K (am_ad K r) (hf r) H := hH.2.2.2.2 r hr hr2
  rw [hc] at hat
  obtain ⟨q', f1, cell, g1, g2, g3, g4⟩ := hat
  have hq : q' = q := Option.some.inj (f1.symm.trans e1)
  subst hq
  have hK := am_kc O z
  obtain ⟨hS, hfc, kC, hkC, hkind⟩ := hK.1 ci _ e1
  have hap := va_apart (own := M.1.cls) (C := q'.1) (T := q'.2.1) (N := q'.2.2) z.2.2.2.2.1 e2.1 _ e2.2.2 e2.2.1 hK e1
  obtain ⟨cf, kf, fi, f, hi, hsl⟩ := hS k hk
  have hst := (u_facts hfc hkC (u_lays z.2.2.2.2.1 e2.1 hk) hi).1
  have hslt : f.slot < cell.slots.size := by rw [hsl]; exact k2_hasslot (g4 k hk)
  obtain ⟨t1, t2, t3⟩ := ht _ e1
  have tn := am_narrow (K := K) t2
  have tf := am_fits (K := K) t3
  have fin : ∀ H' : Heap, H'[am_ad K r]? = some (cell.setSlot f.slot (am_tr K v)) → H'.size = H.size → (∀ q, q ≠ am_ad K r → H'[q]? = H[q]?) → W p l e R s m args below meth c H' (locs ++ [⟨am_ad K r, f.slot⟩]) cells slots (MQ below (am_Q K X post) args s R.cells R.slots (fun q => K.1.heap.size ≤ q)) (F0 m (pc + 3) ls (st.map (am_tr K))) := by
    intro H' w1 w2 w3
    refine kk p l e R s m args below meth c H' _ cells slots ls z (hH.set hr hr2 w2 w3 ⟨q', e1, ?_⟩) (am_locs2 hL hr) hl h1 h2
    rw [hsl] at w1
    have hlen' : k < (fs.map (am_tr K)).length := by rw [List.length_map]; exact hlen
    have := t_OB.to (V := updV (vp_V (fs.map (am_tr K))) k (am_tr K v)) (V' := vp_V ((fs.map (am_tr K)).set k (am_tr K v))) (N := q'.2.2) ⟨_, w1, g2, g3, t_set g4 hap hk (am_tr K v)⟩ (fun j _ => vp_updV_set hlen' (am_tr K v) j)
    show t_OB _ _ _ _ _ (vp_V ((fs.set k v).map (am_tr K)))
    rw [List.map_set]
    exact this
  have hlay := z.2.2.2.2.1 _ (e2.1 _ (u_in_lay hk))
  unfold u_lay at hlay
  rw [if_pos t1] at hlay
  obtain ⟨w1, w2⟩ := hw _ e1
  have hcf : m.cls = cf := by
    obtain ⟨_, _, c', _, _, _, -, -, hf', -, -, -, hown2, -⟩ := Cond.laysFinal_spec hlay
    have e1 : c' = cf := by have := hi.symm.trans hf'; simp at this; exact this.1.symm
    rw [← w2] at hown2
    rw [← e1]; exact Option.some.inj (z.2.2.2.1.symm.trans hown2)
  have h6 := u_fits hfc hkC hkind (Or.inr hlay) hi (e2.2.2 k hk) tn tf
  exact W.putFinK z.1 z.2.1 z.2.2.2.1 (z.2.2.2.2.1 _ w1) hi hst hcf (z.2.2.2.2.2.2.2.1.trans hin) (by rw [g2]; exact h6) g1 g3 hslt rfl rfl hd fin
theorem am_hat {r n : Nat} {ty : FieldType} {f : Nat → Value} {H : Heap} (hH : am_HR K X (hn, hf) H) (hc : hf r = .inl (ty, n, f)) (hr : 128 ≤ r) (hr2 : r < hn) : H[am_ad K r]? = some (arrV (K.2.2.1 ty) n (fun j => am_tr K (f j))) := by
  have hat : am_at K (am_ad K r) (hf r) H := hH.2.2.2.2 r hr hr2
  rw [hc] at hat
  exact hat
theorem am_alen (O : am_ok K X) {r n : Nat} {ty : FieldType} {f : Nat → Value} {v : Int32} (hd : decode M.2.1 pc = .ok (.arraylength, 1)) (hc : hf r = .inl (ty, n, f)) (hr : 128 ≤ r) (hr2 : r < hn) (ht : ty ∈ am_tys) (hv : Int32.ofNat n = v) (kk : am_W K X M d kc ks uc us (pc + 1) lv (.int v :: st) (hn, hf) post) : am_W K X M d kc ks uc us pc lv (.ref r :: st) (hn, hf) post := by
  intro p l e R s m args below meth c H locs cells slots ls z hH hL hl h1 h2
  exact W.alen (n := v) z.1 z.2.1 (am_hat hH hc hr hr2) ((am_kn O z ht).1 n _) (by rw [arrV_size]; exact hv) rfl rfl hd (kk p l e R s m args below meth c H locs cells slots ls z hH hL hl h1 h2)

theorem am_iald (O : am_ok K X) {r n : Nat} {f : Nat → Value} {i : Int32} {v : Value} (ht : FieldType.int ∈ am_tys) (hd : decode M.2.1 pc = .ok (.iaload, 1)) (hc : hf r = .inl (.int, n, f)) (hr : 128 ≤ r) (hr2 : r < hn) (hin : vp_in i n) (hv : f i.toNatClampNeg = v) (kk : am_W K X M d kc ks uc us (pc + 1) lv (v :: st) (hn, hf) post) : am_W K X M d kc ks uc us pc lv (.int i :: .ref r :: st) (hn, hf) post := by
  intro p l e R s m args below meth c H locs cells slots ls z hH hL hl h1 h2
  have hlt : i.toNatClampNeg < n := Nat.not_le.mp fun q => hin (Or.inr q)
  exact W.iald (v := am_tr K v) z.1 z.2.1 (am_hat hH hc hr hr2) ((am_kn O z ht).1 n _) (fun q => by cases q) (by rw [arrV_size]; exact hin) (by rw [arrV_read _ _ hlt, hv]) rfl rfl hd (kk p l e R s m args below meth c H locs cells slots ls z hH hL hl h1 h2)
theorem am_lald (O : am_ok K X) {r n : Nat} {f : Nat → Value} {i : Int32} {v : Value} (ht : FieldType.long ∈ am_tys) (hd : decode M.2.1 pc = .ok (.laload, 1)) (hc : hf r = .inl (.long, n, f)) (hr : 128 ≤ r) (hr2 : r < hn) (hin : vp_in i n) (hv : f i.toNatClampNeg = v) (kk : am_W K X M d kc ks uc us (pc + 1) lv (v :: st) (hn, hf) post) : am_W K X M d kc ks uc us pc lv (.int i :: .ref r :: st) (hn, hf) post := by
  intro p l e R s m args below meth c H locs cells slots ls z hH hL hl h1 h2
  have hlt : i.toNatClampNeg < n := Nat.not_le.mp fun q => hin (Or.inr q)
  exact W.lald (v := am_tr K v) z.1 z.2.1 (am_hat hH hc hr hr2) ((am_kn O z ht).1 n _) (fun q => by cases q) (by rw [arrV_size]; exact hin) (by rw [arrV_read _ _ hlt, hv]) rfl rfl hd (kk p l e R s m args below meth c H locs cells slots ls z hH hL hl h1 h2)
theorem am_bald (O : am_ok K X) {r n : Nat} {f : Nat → Value} {i : Int32} {v : Value} (ht : FieldType.byte ∈ am_tys) (hd : decode M.2.1 pc = .ok (.baload, 1)) (hc : hf r = .inl (.byte, n, f)) (hr : 128 ≤ r) (hr2 : r < hn) (hin : vp_in i n) (hv : f i.toNatClampNeg = v) (kk : am_W K X M d kc ks uc us (pc + 1) lv (v :: st) (hn, hf) post) : am_W K X M d kc ks uc us pc lv (.int i :: .ref r :: st) (hn, hf) post := by
  intro p l e R s m args below meth c H locs cells slots ls z hH hL hl h1 h2
  have hlt : i.toNatClampNeg < n := Nat.not_le.mp fun q => hin (Or.inr q)
  exact W.bald (v := am_tr K v) z.1 z.2.1 (am_hat hH hc hr hr2) ((am_kn O z ht).1 n _) (fun q => by cases q) (by rw [arrV_size]; exact hin) (by rw [arrV_read _ _ hlt, hv]) rfl rfl hd (kk p l e R s m args below meth c H locs cells slots ls z hH hL hl h1 h2)
theorem am_zald (O : am_ok K X) {r n : Nat} {f : Nat → Value} {i : Int32} {v : Value} (ht : FieldType.boolean ∈ am_tys) (hd : decode M.2.1 pc = .ok (.baload, 1)) (hc : hf r = .inl (.boolean, n, f)) (hr : 128 ≤ r) (hr2 : r < hn) (hin : vp_in i n) (hv : f i.toNatClampNeg = v) (kk : am_W K X M d kc ks uc us (pc + 1) lv (v :: st) (hn, hf) post) : am_W K X M d kc ks uc us pc lv (.int i :: .ref r :: st) (hn, hf) post := by
  intro p l e R s m args below meth c H locs cells slots ls z hH hL hl h1 h2
  have hlt : i.toNatClampNeg < n := Nat.not_le.mp fun q => hin (Or.inr q)
  exact W.zald (v := am_tr K v) z.1 z.2.1 (am_hat hH hc hr hr2) ((am_kn O z ht).1 n _) (fun q => by cases q) (by rw [arrV_size]; exact hin) (by rw [arrV_read _ _ hlt, hv]) rfl rfl hd (kk p l e R s m args below meth c H locs cells slots ls z hH hL hl h1 h2)
theorem am_cald (O : am_ok K X) {r n : Nat} {f : Nat → Value} {i : Int32} {v : Value} (ht : FieldType.char ∈ am_tys) (hd : decode M.2.1 pc = .ok (.caload, 1)) (hc : hf r = .inl (.char, n, f)) (hr : 128 ≤ r) (hr2 : r < hn) (hin : vp_in i n) (hv : f i.toNatClampNeg = v) (kk : am_W K X M d kc ks uc us (pc + 1) lv (v :: st) (hn, hf) post) : am_W K X M d kc ks uc us pc lv (.int i :: .ref r :: st) (hn, hf) post := by
  intro p l e R s m args below meth c H locs cells slots ls z hH hL hl h1 h2
  have hlt : i.toNatClampNeg < n := Nat.not_le.mp fun q => hin (Or.inr q)
  exact W.cald (v := am_tr K v) z.1 z.2.1 (am_hat hH hc hr hr2) ((am_kn O z ht).1 n _) (fun q => by cases q) (by rw [arrV_size]; exact hin) (by rw [arrV_read _ _ hlt, hv]) rfl rfl hd (kk p l e R s m args below meth c H locs cells slots ls z hH hL hl h1 h2)
theorem am_aald (O : am_ok K X) {r n : Nat} {ty : FieldType} {f : Nat → Value} {i : Int32} {v : Value} (hd : decode M.2.1 pc = .ok (.aaload, 1)) (hc : hf r = .inl (ty, n, f)) (hr : 128 ≤ r) (hr2 : r < hn) (ht : ty ∈ am_tys) (href : ty.isReference = true) (hin : vp_in i n) (hv : f i.toNatClampNeg = v) (kk : am_W K X M d kc ks uc us (pc + 1) lv (v :: st) (hn, hf) post) : am_W K X M d kc ks uc us pc lv (.int i :: .ref r :: st) (hn, hf) post := by
  intro p l e R s m args below meth c H locs cells slots ls z hH hL hl h1 h2
  have hlt : i.toNatClampNeg < n := Nat.not_le.mp fun q => hin (Or.inr q)
  exact W.aald (v := am_tr K v) z.1 z.2.1 (am_hat hH hc hr hr2) ((am_kn O z ht).1 n _) href (fun q => by cases q) (by rw [arrV_size]; exact hin) (by rw [arrV_read _ _ hlt, hv]) rfl rfl hd (kk p l e R s m args below meth c H locs cells slots ls z hH hL hl h1 h2)
theorem am_iast (O : am_ok K X) {r n : Nat} {f : Nat → Value} {i : Int32} {x : Int32} (ht : FieldType.int ∈ am_tys) (hd : decode M.2.1 pc = .ok (.iastore, 1)) (hc : hf r = .inl (.int, n, f)) (hr : 128 ≤ r) (hr2 : r < hn) (hin : vp_in i n) (kk : am_W K X M d kc ks uc us (pc + 1) lv st (hn, va_up hf r (.inl (.int, n, updV f i.toNatClampNeg (.int x)))) post) : am_W K X M d kc ks uc us pc lv (.int x :: .int i :: .ref r :: st) (hn, hf) post := by
  intro p l e R s m args below meth c H locs cells slots ls z hH hL hl h1 h2
  refine W.iast z.1 z.2.1 (am_hat hH hc hr hr2) ((am_kn O z ht).1 n _) (fun q => by cases q) (by rw [arrV_size]; exact hin) rfl rfl hd fun H' w1 w2 w3 => ?_
  refine kk p l e R s m args below meth c H' _ cells slots ls z (hH.set hr hr2 w2 w3 ?_) (am_locs2 hL hr) hl h1 h2
  show H'[am_ad K r]? = some (arrV _ n _)
  rw [w1, arrV_store]
  exact congrArg (fun g => some (arrV _ n g)) (am_updV K f i.toNatClampNeg (.int x))
theorem am_last (O : am_ok K X) {r n : Nat} {f : Nat → Value} {i : Int32} {x : Int64} (ht : FieldType.long ∈ am_tys) (hd : decode M.2.1 pc = .ok (.lastore, 1)) (hc : hf r = .inl (.long, n, f)) (hr : 128 ≤ r) (hr2 : r < hn) (hin : vp_in i n) (kk : am_W K X M d kc ks uc us (pc + 1) lv st (hn, va_up hf r (.inl (.long, n, updV f i.toNatClampNeg (.long x)))) post) : am_W K X M d kc ks uc us pc lv (.long x :: .int i :: .ref r :: st) (hn, hf) post := by
  intro p l e R s m args below meth c H locs cells slots ls z hH hL hl h1 h2
  refine W.last z.1 z.2.1 (am_hat hH hc hr hr2) ((am_kn O z ht).1 n _) (fun q => by cases q) (by rw [arrV_size]; exact hin) rfl rfl hd fun H' w1 w2 w3 => ?_
  refine kk p l e R s m args below meth c H' _ cells slots ls z (hH.set hr hr2 w2 w3 ?_) (am_locs2 hL hr) hl h1 h2
  show H'[am_ad K r]? = some (arrV _ n _)
  rw [w1, arrV_store]
  exact congrArg (fun g => some (arrV _ n g)) (am_updV K f i.toNatClampNeg (.long x))
theorem am_bast (O : am_ok K X) {r n : Nat} {f : Nat → Value} {i : Int32} {x : Int32} (ht : FieldType.byte ∈ am_tys) (hd : decode M.2.1 pc = .ok (.bastore, 1)) (hc : hf r = .inl (.byte, n, f)) (hr : 128 ≤ r) (hr2 : r < hn) (hin : vp_in i n) (kk : am_W K X M d kc ks uc us (pc + 1) lv st (hn, va_up hf r (.inl (.byte, n, updV f i.toNatClampNeg (.int x.toInt8.toInt32)))) post) : am_W K X M d kc ks uc us pc lv (.int x :: .int i :: .ref r :: st) (hn, hf) post := by
  intro p l e R s m args below meth c H locs cells slots ls z hH hL hl h1 h2
  refine W.bast z.1 z.2.1 (am_hat hH hc hr hr2) ((am_kn O z ht).1 n _) (fun q => by cases q) (by rw [arrV_size]; exact hin) rfl rfl hd fun H' w1 w2 w3 => ?_
  refine kk p l e R s m args below meth c H' _ cells slots ls z (hH.set hr hr2 w2 w3 ?_) (am_locs2 hL hr) hl h1 h2
  show H'[am_ad K r]? = some (arrV _ n _)
  rw [w1, arrV_store]
  exact congrArg (fun g => some (arrV _ n g)) (am_updV K f i.toNatClampNeg (.int x.toInt8.toInt32))
theorem am_zast (O : am_ok K X) {r n : Nat} {f : Nat → Value} {i : Int32} {x : Int32} (ht : FieldType.boolean ∈ am_tys) (hd : decode M.2.1 pc = .ok (.bastore, 1)) (hc : hf r = .inl (.boolean, n, f)) (hr : 128 ≤ r) (hr2 : r < hn) (hin : vp_in i n) (kk : am_W K X M d kc ks uc us (pc + 1) lv st (hn, va_up hf r (.inl (.boolean, n, updV f i.toNatClampNeg (narrow .boolean (.int x))))) post) : am_W K X M d kc ks uc us pc lv (.int x :: .int i :: .ref r :: st) (hn, hf) post := by
  intro p l e R s m args below meth c H locs cells slots ls z hH hL hl h1 h2
  refine W.zast z.1 z.2.1 (am_hat hH hc hr hr2) ((am_kn O z ht).1 n _) (fun q => by cases q) (by rw [arrV_size]; exact hin) rfl rfl hd fun H' w1 w2 w3 => ?_
  refine kk p l e R s m args below meth c H' _ cells slots ls z (hH.set hr hr2 w2 w3 ?_) (am_locs2 hL hr) hl h1 h2
  show H'[am_ad K r]? = some (arrV _ n _)
  rw [w1, arrV_store]
  exact congrArg (fun g => some (arrV _ n g)) (am_updV K f i.toNatClampNeg (narrow .boolean (.int x)))
theorem am_cast (O : am_ok K X) {r n : Nat} {f : Nat → Value} {i : Int32} {x : Int32} (ht : FieldType.char ∈ am_tys) (hd : decode M.2.1 pc = .ok (.castore, 1)) (hc : hf r = .inl (.char, n, f)) (hr : 128 ≤ r) (hr2 : r < hn) (hin : vp_in i n) (kk : am_W K X M d kc ks uc us (pc + 1) lv st (hn, va_up hf r (.inl (.char, n, updV f i.toNatClampNeg (narrow .char (.int x))))) post) : am_W K X M d kc ks uc us pc lv (.int x :: .int i :: .ref r :: st) (hn, hf) post := by
  intro p l e R s m args below meth c H locs cells slots ls z hH hL hl h1 h2
  refine W.cast z.1 z.2.1 (am_hat hH hc hr hr2) ((am_kn O z ht).1 n _) (fun q => by cases q) (by rw [arrV_size]; exact hin) rfl rfl hd fun H' w1 w2 w3 => ?_
  refine kk p l e R s m args below meth c H' _ cells slots ls z (hH.set hr hr2 w2 w3 ?_) (am_locs2 hL hr) hl h1 h2
  show H'[am_ad K r]? = some (arrV _ n _)
  rw [w1, arrV_store]
  exact congrArg (fun g => some (arrV _ n g)) (am_updV K f i.toNatClampNeg (narrow .char (.int x)))
/-- what a new object's fields hold -/
def am_df (q : vw_C) : List Value := (List.range q.2.2).map (fun j => defaultValue ((parseFieldDescriptor (q.2.1 j).2.2.1).getD .int))
theorem am_tr_df (K : am_K) (ty : FieldType) : am_tr K (defaultValue ty) = defaultValue ty := by cases ty <;> rfl
def am_N (own : String) (ix ci N : Nat) (fs : List Value) : Prop := ∃ q : vw_C, am_cl[ci]? = some q ∧ am_Cl q ∧ q.2.2 = N ∧ am_df q = fs ∧ Cond.classLink own ix q.1 ∈ am_tbl ∧ Cond.instantiable q.1 q.2.2 ∈ am_tbl ∧ Cond.initialized q.1 ∈ am_tbl
theorem am_new (O : am_ok K X) {ix ci N : Nat} {fs : List Value} (hN : am_N M.1.cls ix ci N fs) (hd : decode M.2.1 pc = .ok (.new ix, 3)) (hk : uc + 1 ≤ kc) (hk2 : us + N ≤ ks) (kk : am_W K X M d kc ks (uc + 1) (us + N) (pc + 3) lv (.ref hn :: st) (hn + 1, va_up hf hn (.inr (ci, fs))) post) : am_W K X M d kc ks uc us pc lv st (hn, hf) post := by
  intro p l e R s m args below meth c H locs cells slots ls z hH hL hl h1 h2
  obtain ⟨q, e1, e2, rfl, rfl, w1, w2, w3⟩ := hN
  have hKn := (am_kc O z).1 ci q e1
  refine W.newcK z.1 z.2.1 z.2.2.2.1 (z.2.2.2.2.1 _ w1) (z.2.2.2.2.1 _ w2) (z.2.2.2.2.1 _ w3) rfl hd (by omega) (by omega) hKn.2.1 rfl fun H' kC hkC c1 c2 c3 => ?_
  obtain ⟨g1, g2⟩ := hH.push (c := .inr (ci, am_df q)) c2 c3 ⟨q, e1, (u_born _ z.2.2.2.2.1 e2.1 hKn hkC c1 e2.2.2).to (fun j hj => by
    simp [vp_V, am_df, hj, am_tr_df])⟩
  have := kk p l e R s m args below meth c H' locs (cells + 1) (slots + q.2.2) ls z g1 hL hl (by omega) (by omega)
  rw [List.map_cons, show am_tr K (.ref hn) = .ref H.size from congrArg Value.ref g2] at this
  exact this
theorem am_RA {U : State} {cA : ClassId} {ty : FieldType} (h : va_RA U cA ty) : U.vm.findClass ("[" ++ ty.toString) = some cA := by
  cases ty with
  | object C =>
    obtain ⟨_, _, _, _, _, h4⟩ := h
    exact h4
  | _ => exact h
theorem am_newa (O : am_ok K X) {at_ : ArrayType} {ty : FieldType} {n : Int32} {N : Nat} (hty : newarray.typeOf at_ = ty) (ht : ty ∈ am_tys) (hw : Cond.arrayClass ty ∈ am_tbl) (hd : decode M.2.1 pc = .ok (.newarray at_, 2)) (hng : ¬ n < 0) (hN : n.toNatClampNeg = N) (hb : N * componentBytes ty ≤ 536870912) (hk : uc + 1 ≤ kc) (hk2 : us + N ≤ ks) (kk : am_W K X M d kc ks (uc + 1) (us + N) (pc + 2) lv (.ref hn :: st) (hn + 1, va_up hf hn (.inl (ty, N, fun _ => defaultValue ty))) post) : am_W K X M d kc ks uc us pc lv (.int n :: st) (hn, hf) post := by
  intro p l e R s m args below meth c H locs cells slots ls z hH hL hl h1 h2
  subst hty
  refine va_newaK z.1 z.2.1 (z.2.2.2.2.1 _ hw) rfl hd rfl hng hN hb (by omega) (by omega) rfl fun H' cA c1 c2 c3 _ c5 => ?_
  have hA : K.2.2.1 (newarray.typeOf at_) = cA := Option.some.inj ((am_RA (am_kn O z ht).2).symm.trans c5)
  obtain ⟨g1, g2⟩ := hH.push (c := .inl (newarray.typeOf at_, N, fun _ => defaultValue (newarray.typeOf at_))) c2 c3 (by
    show H'[H.size]? = some (arrV _ N _)
    rw [c1, hA]
    simp only [am_tr_df])
  have := kk p l e R s m args below meth c H' locs (cells + 1) (slots + N) ls z g1 hL hl (by omega) (by omega)
  rw [List.map_cons, show am_tr K (.ref hn) = .ref H.size from congrArg Value.ref g2] at this
  exact this
theorem am_anew (O : am_ok K X) {C : String} {ix : Nat} {n : Int32} {N : Nat} (ht : FieldType.object C ∈ am_tys) (hw : Cond.classLink M.1.cls ix C ∈ am_tbl) (hw2 : Cond.arrayOver (.object C) ∈ lw_tbl) (hd : decode M.2.1 pc = .ok (.anewarray ix, 3)) (hng : ¬ n < 0) (hN : n.toNatClampNeg = N) (hb : N * 4 ≤ 536870912) (hk : uc + 1 ≤ kc) (hk2 : us + N ≤ ks) (kk : am_W K X M d kc ks (uc + 1) (us + N) (pc + 3) lv (.ref hn :: st) (hn + 1, va_up hf hn (.inl (.object C, N, fun _ => .null))) post) : am_W K X M d kc ks uc us pc lv (.int n :: st) (hn, hf) post := by
  intro p l e R s m args below meth c H locs cells slots ls z hH hL hl h1 h2
  subst hN
  obtain ⟨A, hA⟩ := O.2.2 _ hw2
  refine W.anew z.1 z.2.1 z.2.2.2.1 (z.2.2.2.2.1 _ hw) (va_AO.use (va_AO.moved z.2.2.2.2.2.2.2.2.1.alike (va_AO.of hA))) rfl hd rfl hng hb (by omega) (by omega) fun cA kA comp c1 _ _ _ => ?_
  have hA : K.2.2.1 (.object C) = cA := Option.some.inj ((am_RA (am_kn O z ht).2).symm.trans c1)
  obtain ⟨g1, g2⟩ := hH.push (c := .inl (.object C, n.toNatClampNeg, fun _ => .null)) (H1 := H.push { cls := cA, slots := Array.replicate n.toNatClampNeg .null, vm := .none }) (by simp) (fun q hq => by rw [Array.getElem?_push, if_neg (Nat.ne_of_lt hq)]) (by
    show _ = some (arrV _ _ _)
    rw [hA, arrV_new]
    simp [am_tr])
  have := kk p l e R s m args below meth c _ locs (cells + 1) (slots + n.toNatClampNeg) ls z g1 hL hl (by omega) (by omega)
  rw [List.map_cons, show am_tr K (.ref hn) = .ref H.size from congrArg Value.ref g2] at this
  exact this
theorem am_rcv {H : Heap} {r ci : Nat} {q : vw_C} {fs : List Value} (hH : am_HR K X (hn, hf) H) (hc : hf r = .inr (ci, fs)) (hr : 128 ≤ r) (hr2 : r < hn) (hq : am_cl[ci]? = some q) : ∃ cell : Cell, H[am_ad K r]? = some cell ∧ cell.vm = .none ∧ cell.cls = K.2.1.1 ci := by
  have hat : am_at K (am_ad K r) (hf r) H := hH.2.2.2.2 r hr hr2
  rw [hc] at hat
  obtain ⟨q', f1, cell, g1, g2, g3, g4⟩ := hat
  exact ⟨cell, g1, g3, g2⟩
/-- an object into an array of its own class -/
theorem am_aast (O : am_ok K X) {r n rv ci : Nat} {q : vw_C} {C : String} {vs : List Value} {f : Nat → Value} {i : Int32} (hd : decode M.2.1 pc = .ok (.aastore, 1)) (hc : hf r = .inl (.object C, n, f)) (hr : 128 ≤ r) (hr2 : r < hn) (hv : hf rv = .inr (ci, vs)) (hv1 : 128 ≤ rv) (hv2 : rv < hn) (hq : am_cl[ci]? = some q) (hC : q.1 = C) (ht : FieldType.object C ∈ am_tys) (hin : vp_in i n) (kk : am_W K X M d kc ks uc us (pc + 1) lv st (hn, va_up hf r (.inl (.object C, n, updV f i.toNatClampNeg (.ref rv)))) post) : am_W K X M d kc ks uc us pc lv (.ref rv :: .int i :: .ref r :: st) (hn, hf) post := by
  intro p l e R s m args below meth c H locs cells slots ls z hH hL hl h1 h2
  subst hC
  have hlt : i.toNatClampNeg < n := Nat.not_le.mp fun q => hin (Or.inr q)
  have h0 : ¬ i < 0 := fun q => hin (Or.inl q)
  obtain ⟨cellV, g1, g3, g2⟩ := am_rcv hH hv hv1 hv2 hq
  have hcls := ((am_kc O z).1 ci q hq).2
  obtain ⟨kA, comp, k1, k2, k3, -⟩ := (am_kn O z ht).2
  have hcomp : comp = K.2.1.1 ci := Option.some.inj (k3.symm.trans hcls.1)
  subst hcomp
  obtain ⟨kC, hkC, hkk⟩ := hcls.2
  refine W.aast z.1 z.2.1 (am_hat hH hc hr hr2) (fun q h => by cases h) (fun h => by cases h) k1 k2 rfl hkC ⟨h0, by rw [arrV_size]; exact hlt⟩ g1 (fun q h => by rw [g3] at h; cases h) (by rw [g2]; exact hkC) (by rw [g2]; exact va_assign hcls) rfl rfl hd fun H' w1 w2 w3 => ?_
  refine kk p l e R s m args below meth c H' _ cells slots ls z (hH.set hr hr2 w2 w3 ?_) (am_locs2 hL hr) hl h1 h2
  show H'[am_ad K r]? = some (arrV _ n _)
  rw [w1, arrV_store]
  exact congrArg (fun g => some (arrV _ n g)) (am_updV K f i.toNatClampNeg (.ref rv))
theorem am_aastN (O : am_ok K X) {r n : Nat} {C : String} {f : Nat → Value} {i : Int32} (ht : FieldType.object C ∈ am_tys) (hd : decode M.2.1 pc = .ok (.aastore, 1)) (hc : hf r = .inl (.object C, n, f)) (hr : 128 ≤ r) (hr2 : r < hn) (hin : vp_in i n) (kk : am_W K X M d kc ks uc us (pc + 1) lv st (hn, va_up hf r (.inl (.object C, n, updV f i.toNatClampNeg .null))) post) : am_W K X M d kc ks uc us pc lv (.null :: .int i :: .ref r :: st) (hn, hf) post := by
  intro p l e R s m args below meth c H locs cells slots ls z hH hL hl h1 h2
  refine va_WaastN (C := C) z.1 z.2.1 (am_hat hH hc hr hr2) ((am_kn O z ht).1 n _) (fun h => by cases h) (by rw [arrV_size]; exact hin) rfl rfl hd fun H' w1 w2 w3 => ?_
  refine kk p l e R s m args below meth c H' _ cells slots ls z (hH.set hr hr2 w2 w3 ?_) (am_locs2 hL hr) hl h1 h2
  show H'[am_ad K r]? = some (arrV _ n _)
  rw [w1, arrV_store]
  exact congrArg (fun g => some (arrV _ n g)) (am_updV K f i.toNatClampNeg .null)
/-- Object.<init> -/
theorem am_obj {ix r : Nat} (hw : Cond.methodLink M.1.cls ix objectInit ∈ am_tbl) (hw2 : Cond.instanceMethod objectInit ∈ am_tbl) (hw3 : Cond.code objectInit ⟨#[0xb1]⟩ 1 none ∈ am_tbl) (hd : decode M.2.1 pc = .ok (.invokespecial ix, 3)) (hd1 : 1 ≤ d) (hst : (st.map fun v => v.category).sum ≤ 8) (kk : am_W K X M d kc ks uc us (pc + 3) lv st (hn, hf) post) : am_W K X M d kc ks uc us pc lv (.ref r :: st) (hn, hf) post := by
  intro p l e R s m args below meth c H locs cells slots ls z hH hL hl h1 h2
  have hs : ((st.map (am_tr K)).map fun v => v.category).sum ≤ 8 := by
    rw [List.map_map, show ((fun v : Value => v.category) ∘ am_tr K) = fun v => v.category from funext (am_cat K)]
    exact hst
  obtain ⟨z1, z2, z3, z4, z5, z6, z7, z8, z9, z10, z11⟩ := id z
  exact W.objInit z.1 z.2.1 z.2.2.2.1 (z.2.2.2.2.1 _ hw) (z.2.2.2.2.1 _ hw2) (z.2.2.2.2.1 _ hw3) rfl (by rw [z3]; exact hl.1) rfl hd (by omega) (by show 2 * 0 + _ + 12 ≤ _; omega) (kk p l e R s m args below meth c H locs cells slots ls z hH hL hl h1 h2)
end AMH
end
section
/-! THE ABSTRACT MACHINE'S CALLS: a method's contract is am_Mt; am_enter proves one by its body -/
def am_P (K : am_K) (X : Nat → am_C) (vs : List Value) (h : am_H) : Array Value → State → Prop := fun a U => a = (vs.map (am_tr K)).toArray ∧ am_HR K X h U.heap ∧ K.1.WarmedH U.vm
def am_ws (M : am_M) : List Cond := Cond.code M.1 M.2.1 M.2.2.1 M.2.2.2 :: am_tbl
def am_rm (d kc ks : Nat) : Room := { frames := d, cells := kc, slots := ks, locals := 64 * d }
def am_Mt (K : am_K) (X : Nat → am_C) (M : am_M) (d kc ks : Nat) (vs : List Value) (h : am_H) (post : Option Value → am_H → Prop) : Prop :=
  ∀ l : Launch, Met l M.1 (am_ws M) (am_rm d kc ks) (am_P K X vs h) (am_Q K X post) kc ks (fun q => K.1.heap.size ≤ q)
theorem am_args (K : am_K) : ∀ (vs : List Value) (i : Nat), lv_args i (vs.map (am_tr K)) = (lv_args i vs).map (am_tl K)
  | [], _ => rfl
  | v :: vs, i => by
    show (i, am_tr K v) :: lv_args _ (vs.map (am_tr K)) = am_tl K (i, v) :: (lv_args _ vs).map (am_tl K)
    rw [am_cat, am_args K vs]
    rfl
theorem am_sl (K : am_K) : ∀ vs : List Value, (lg_sl (vs.map (am_tr K))).length = (lg_sl vs).length
  | [] => rfl
  | v :: vs => by
    have ih := am_sl K vs
    simp only [lg_sl, List.map_cons, List.flatMap_cons, List.length_append, am_cat] at ih ⊢
    rw [ih]
    by_cases hc : v.category = 2 <;> simp [hc]
section AMC
variable {K : am_K} {X : Nat → am_C} {M M2 : am_M} {d d2 kc ks uc us kc1 ks1 pc : Nat} {lv : List (Nat × Value)} {st stk : List Value} {h : am_H} {post post1 : Option Value → am_H → Prop} {vs As : List Value}
theorem am_enter (hy : plainName M.1.cls = true) (hn : (lg_sl vs).length ≤ M.2.2.1) (k : am_W K X M d kc ks 0 0 0 (lv_args 0 vs) [] h post) : am_Mt K X M d kc ks vs h post := by
  intro l
  refine Met.ofW (cc := M.2.1) (maxL := M.2.2.1) (ret := M.2.2.2) hy rfl ?_
  intro p e s m args below meth c s₁ B hml hv
  obtain ⟨rfl, hH, hW⟩ := hv
  have hl := lv_entry (vs.map (am_tr K)) (n := M.2.2.1) (by rw [am_sl]; exact hn)
  rw [am_args] at hl
  rw [lg_entry_eq]
  have z : am_Z K p (headSpec (am_ws M) (am_rm d kc ks)).room s m (vs.map (am_tr K)).toArray meth c M d :=
    ⟨B.exec, B.bytes, hml, findClass_of_methodNamed B.named, fun w hw => atoms_spec (ws := am_ws M) B.pre w (List.mem_cons_of_mem _ hw), B.returns, B.notSynchronized, (name_of_methodNamed B.named B.method).1, hW, Nat.le_refl _, Nat.le_refl _⟩
  exact k p l e _ s m _ below meth c s.heap [] 0 0 _ z hH (fun q h => by cases h) hl (by show 0 + (kc - 0) ≤ kc; omega) (by show 0 + (ks - 0) ≤ ks; omega)
/-- what a call's link says -/
def am_L (own : String) (ix n : Nat) (M2 : am_M) : Prop :=
  (Cond.methodLink own ix M2.1 ∈ am_tbl ∨ ∃ host, Cond.methodLinkNest own ix M2.1 host ∈ lw_tbl) ∧ Cond.initialized M2.1.cls ∈ am_tbl ∧ Cond.code M2.1 M2.2.1 M2.2.2.1 M2.2.2.2 ∈ am_tbl ∧ (M2.1.cls ≠ "java/lang/invoke/MethodHandle" ∧ M2.1.cls ≠ "java/lang/invoke/VarHandle") ∧ (parseMethodDescriptor M2.1.desc).map (fun d => d.parameters.length) = some n ∧ M2.2.2.1 ≤ 45
theorem am_blind : FrameBlind (am_P K X vs h) := fun _ _ _ _ q => q
theorem am_words {p : Program} {R : Room} {s : State} {m : MethodId} {args : Array Value} {meth : Method} {c : Code} (z : am_Z K p R s m args meth c M d) {own : String} {ix n : Nat} (L : am_L own ix n M2) : ∀ w ∈ am_ws M2, ∀ (a' : Array Value) (U : State), s.WarmedH U.vm → w.before a' U = true := by
  intro w hw a' U hW
  have hw : w ∈ am_tbl := by
    rcases List.mem_cons.mp hw with e | e
    · rw [e]; exact L.2.2.1
    · exact e
  exact word_at hW (good_of_word (List.mem_filter.mp hw).2) (z.2.2.2.2.1 w hw)
theorem am_len {own : String} {ix n : Nat} (L : am_L own ix n M2) : ∀ sig, parseMethodDescriptor M2.1.desc = some sig → n = sig.parameters.length := by
  intro sig hs
  have e := L.2.2.2.2.1
  rw [hs] at e
  exact (Option.some.inj e).symm
theorem am_back {p : Program} {l : Launch} {e : Env} {R : Room} {s : State} {m : MethodId} {args : Array Value} {below : List Frame} {meth : Method} {c : Code} {H : Heap} {locs : List Loc} {cells slots : Nat} {ls : Array Slot}
    (z : am_Z K p R s m args meth c M d) (hL : ∀ q ∈ locs, K.1.heap.size ≤ q.base) (hl : lv_has ls M.2.2.1 (lv.map (am_tl K))) (hk : uc + kc1 ≤ kc) (hk2 : us + ks1 ≤ ks) (h1 : cells + (kc - uc) ≤ R.cells) (h2 : slots + (ks - us) ≤ R.slots)
    {a : Array Value} (hr : va_Run p l e R s m args below meth c H locs cells slots kc1 ks1 (F0 m pc ls (stk.map (am_tr K))) (st.map (am_tr K)) (am_Q K X post1 a) (fun q => K.1.heap.size ≤ q))
    (kk : ∀ v h', post1 v h' → am_W K X M d kc ks (uc + kc1) (us + ks1) (pc + 3) lv (v.toList ++ st) h' post) :
    W p l e R s m args below meth c H locs cells slots (MQ below (am_Q K X post) args s R.cells R.slots (fun q => K.1.heap.size ≤ q)) (F0 m pc ls (stk.map (am_tr K))) := by
  intro T hT X1
  obtain ⟨v, st₀, t, T', L, -, X', hL', e1, -, ⟨v0, h', hv, hH', hp⟩, go⟩ := hr T hT X1
  have hv : v = v0.map (am_tr K) := by cases hv; rfl
  subst hv
  obtain ⟨t2, a1, b1⟩ := kk v0 h' hp p l e R s m args below meth c t.heap (locs ++ L) (cells + kc1) (slots + ks1) ls z hH' (fun q hq => (List.mem_append.mp hq).elim (hL q) (hL' q)) hl (by omega) (by omega) T' e1 X'
  refine ⟨t2, go t2 ?_, b1⟩
  have e3 : (v0.toList ++ st).map (am_tr K) = (v0.map (am_tr K)).toList ++ st.map (am_tr K) := by cases v0 <;> simp
  rw [e3] at a1
  exact a1
theorem am_callV (O : am_ok K X) {ix r ci n hn : Nat} {hf : Nat → am_C} {q : vw_C} {fs : List Value} (hM : am_Mt K X M2 d2 kc1 ks1 (.ref r :: As) (hn, hf) post1) (hs : stk = As.reverse ++ .ref r :: st) (hc : hf r = .inr (ci, fs)) (hr : 128 ≤ r) (hr2 : r < hn) (hq : am_cl[ci]? = some q) (hy : M2.1.cls = q.1) (L : am_L M.1.cls ix n M2) (L2 : Cond.instanceMethod M2.1 ∈ am_tbl ∧ Cond.selects M2.1.cls M2.1 M2.1 ∈ am_tbl) (hlen : As.length = n) (hst : (st.map fun v => v.category).sum ≤ 8) (hd : decode M.2.1 pc = .ok (.invokevirtual ix, 3)) (hdd : d2 + 1 ≤ d) (hk : uc + kc1 ≤ kc) (hk2 : us + ks1 ≤ ks)
    (kk : ∀ v h', post1 v h' → am_W K X M d kc ks (uc + kc1) (us + ks1) (pc + 3) lv (v.toList ++ st) h' post) : am_W K X M d kc ks uc us pc lv stk (hn, hf) post := by
  intro p l e R s m args below meth c H locs cells slots ls z hH hL hl h1 h2
  have hcat : ((st.map (am_tr K)).map fun v => v.category).sum ≤ 8 := by
    rw [List.map_map, show ((fun v : Value => v.category) ∘ am_tr K) = fun v => v.category from funext (am_cat K)]
    exact hst
  obtain ⟨z1, z2, z3, z4, z5, z6, z7, z8, z9, z10, z11⟩ := id z
  obtain ⟨hlk, w1, w2, w3, w4, w5⟩ := id L
  obtain ⟨cell, g1, g2, g3⟩ := am_rcv hH hc hr hr2 hq
  have hfc := ((am_kc O z).1 ci q hq).2.1
  have hstk : stk.map (am_tr K) = (As.map (am_tr K)).reverse ++ .ref (am_ad K r) :: st.map (am_tr K) := by rw [hs]; simp [am_tr]
  have hp : PreV s H q.1 (am_ad K r) (am_P K X (.ref r :: As) (hn, hf)) (As.map (am_tr K)) := ⟨am_blind, ⟨cell, g1, by rw [g2]; rfl, by rw [g3]; exact hfc⟩, fun U hU hW => ⟨rfl, by rw [hU]; exact hH, State.WarmedH.trans z9 hW⟩⟩
  refine am_back z hL hl hk hk2 h1 h2 (a := (Value.ref (am_ad K r) :: As.map (am_tr K)).toArray) (stk := stk) ?_ kk
  rcases hlk with hlk | ⟨host, hlk⟩
  · exact va_runV (As := As.map (am_tr K)) (C := q.1) ⟨z1, z2, z3, z4, z5⟩ (hM l) ⟨⟨rfl, rfl, by show d2 + 1 ≤ _; omega, by show _ + _ + 64 * d2 ≤ _; omega, am_words z L, List.mem_cons_self, z5 _ w2, z5 _ w1, w3, am_len L, z5 _ hlk⟩, z5 _ L2.1, by rw [← hy]; exact z5 _ L2.2⟩ hp rfl (by rw [List.length_map]; exact hlen) hl.1 hstk (by show 2 * 0 + _ ≤ 8; omega) hd ⟨by omega, by omega⟩
  · obtain ⟨A, hA⟩ := O.2.2 _ hlk
    exact va_runVN (As := As.map (am_tr K)) (C := q.1) (host := host) ⟨z1, z2, z3, z4, z5⟩ (hM l) ⟨⟨⟨rfl, rfl, by show d2 + 1 ≤ _; omega, by show _ + _ + 64 * d2 ≤ _; omega, am_words z L, List.mem_cons_self⟩, z5 _ w2, z5 _ w1, w3, am_len L, va_Nw.use rfl (va_Nw.warmM z9 (va_Nw.of rfl hA))⟩, z5 _ L2.1, by rw [← hy]; exact z5 _ L2.2⟩ hp rfl (by rw [List.length_map]; exact hlen) hl.1 hstk (by show 2 * 0 + _ ≤ 8; omega) hd ⟨by omega, by omega⟩
theorem am_callS (O : am_ok K X) {ix n : Nat} (hM : am_Mt K X M2 d2 kc1 ks1 As h post1) (hs : stk = As.reverse ++ st) (L : am_L M.1.cls ix n M2) (L2 : Cond.static M2.1 ∈ am_tbl) (hlen : As.length = n) (hst : (st.map fun v => v.category).sum ≤ 8) (hd : decode M.2.1 pc = .ok (.invokestatic ix, 3)) (hdd : d2 + 1 ≤ d) (hk : uc + kc1 ≤ kc) (hk2 : us + ks1 ≤ ks)
    (kk : ∀ v h', post1 v h' → am_W K X M d kc ks (uc + kc1) (us + ks1) (pc + 3) lv (v.toList ++ st) h' post) : am_W K X M d kc ks uc us pc lv stk h post := by
  intro p l e R s m args below meth c H locs cells slots ls z hH hL hl h1 h2
  have hcat : ((st.map (am_tr K)).map fun v => v.category).sum ≤ 8 := by
    rw [List.map_map, show ((fun v : Value => v.category) ∘ am_tr K) = fun v => v.category from funext (am_cat K)]
    exact hst
  obtain ⟨z1, z2, z3, z4, z5, z6, z7, z8, z9, z10, z11⟩ := id z
  obtain ⟨hlk, w1, w2, w3, w4, w5⟩ := id L
  have hstk : stk.map (am_tr K) = (As.map (am_tr K)).reverse ++ st.map (am_tr K) := by rw [hs]; simp
  have hp : PreS s H (am_P K X As h) (As.map (am_tr K)) := ⟨am_blind, fun U hU hW => ⟨rfl, by rw [hU]; exact hH, State.WarmedH.trans z9 hW⟩⟩
  refine am_back z hL hl hk hk2 h1 h2 (a := (As.map (am_tr K)).toArray) (stk := stk) ?_ kk
  rcases hlk with hlk | ⟨host, hlk⟩
  · exact va_runS (As := As.map (am_tr K)) ⟨z1, z2, z3, z4, z5⟩ (hM l) ⟨⟨rfl, rfl, by show d2 + 1 ≤ _; omega, by show _ + _ + 64 * d2 ≤ _; omega, am_words z L, List.mem_cons_self, z5 _ w2, z5 _ w1, w3, am_len L, z5 _ hlk⟩, z5 _ L2⟩ hp rfl (by rw [List.length_map]; exact hlen) hl.1 hstk (by show 2 * 0 + _ ≤ 8; omega) hd ⟨by omega, by omega⟩
  · obtain ⟨A, hA⟩ := O.2.2 _ hlk
    exact va_runSN (As := As.map (am_tr K)) (host := host) ⟨z1, z2, z3, z4, z5⟩ (hM l) ⟨⟨⟨rfl, rfl, by show d2 + 1 ≤ _; omega, by show _ + _ + 64 * d2 ≤ _; omega, am_words z L, List.mem_cons_self⟩, z5 _ w2, z5 _ w1, w3, am_len L, va_Nw.use rfl (va_Nw.warmM z9 (va_Nw.of rfl hA))⟩, z5 _ L2, trivial⟩ hp rfl (by rw [List.length_map]; exact hlen) hl.1 hstk (by show 2 * 0 + _ ≤ 8; omega) hd ⟨by omega, by omega⟩
theorem am_callI (O : am_ok K X) {ix r n : Nat} (hM : am_Mt K X M2 d2 kc1 ks1 (.ref r :: As) h post1) (hs : stk = As.reverse ++ .ref r :: st) (L : am_L M.1.cls ix n M2) (L2 : Cond.instanceMethod M2.1 ∈ am_tbl) (hi : M2.1.name = "<init>") (hret : M2.2.2.2 = none) (hlen : As.length = n) (hst : (st.map fun v => v.category).sum ≤ 8) (hd : decode M.2.1 pc = .ok (.invokespecial ix, 3)) (hdd : d2 + 1 ≤ d) (hk : uc + kc1 ≤ kc) (hk2 : us + ks1 ≤ ks)
    (kk : ∀ v h', post1 v h' → am_W K X M d kc ks (uc + kc1) (us + ks1) (pc + 3) lv (v.toList ++ st) h' post) : am_W K X M d kc ks uc us pc lv stk h post := by
  intro p l e R s m args below meth c H locs cells slots ls z hH hL hl h1 h2
  have hcat : ((st.map (am_tr K)).map fun v => v.category).sum ≤ 8 := by
    rw [List.map_map, show ((fun v : Value => v.category) ∘ am_tr K) = fun v => v.category from funext (am_cat K)]
    exact hst
  obtain ⟨z1, z2, z3, z4, z5, z6, z7, z8, z9, z10, z11⟩ := id z
  obtain ⟨hlk, w1, w2, w3, w4, w5⟩ := id L
  have hstk : stk.map (am_tr K) = (As.map (am_tr K)).reverse ++ .ref (am_ad K r) :: st.map (am_tr K) := by rw [hs]; simp [am_tr]
  have hp : PreS s H (am_P K X (.ref r :: As) h) (.ref (am_ad K r) :: As.map (am_tr K)) := ⟨am_blind, fun U hU hW => ⟨rfl, by rw [hU]; exact hH, State.WarmedH.trans z9 hW⟩⟩
  have hws : am_ws M2 = Cond.code M2.1 M2.2.1 M2.2.2.1 none :: am_tbl := by rw [am_ws, hret]
  rw [hret] at w2
  refine am_back z hL hl hk hk2 h1 h2 (a := (Value.ref (am_ad K r) :: As.map (am_tr K)).toArray) (stk := stk) ?_ kk
  rcases hlk with hlk | ⟨host, hlk⟩
  · exact va_runI (As := As.map (am_tr K)) (bytes := M2.2.1) (maxL := M2.2.2.1) ⟨z1, z2, z3, z4, z5⟩ (hM l) ⟨⟨rfl, rfl, by show d2 + 1 ≤ _; omega, by show _ + _ + 64 * d2 ≤ _; omega, am_words z L, by rw [hws]; exact List.mem_cons_self, z5 _ w2, z5 _ w1, w3, am_len L, z5 _ hlk⟩, hi, z5 _ L2⟩ hp rfl (by rw [List.length_map]; exact hlen) hl.1 hstk (by show 2 * 0 + _ ≤ 8; omega) hd ⟨by omega, by omega⟩
  · obtain ⟨A, hA⟩ := O.2.2 _ hlk
    exact va_runIN (As := As.map (am_tr K)) (host := host) (bytes := M2.2.1) (maxL := M2.2.2.1) ⟨z1, z2, z3, z4, z5⟩ (hM l) ⟨⟨⟨rfl, rfl, by show d2 + 1 ≤ _; omega, by show _ + _ + 64 * d2 ≤ _; omega, am_words z L, by rw [hws]; exact List.mem_cons_self⟩, z5 _ w2, z5 _ w1, w3, am_len L, va_Nw.use rfl (va_Nw.warmM z9 (va_Nw.of rfl hA))⟩, hi, z5 _ L2⟩ hp rfl (by rw [List.length_map]; exact hlen) hl.1 hstk (by show 2 * 0 + _ ≤ 8; omega) hd ⟨by omega, by omega⟩
end AMC
end
section
/-! ROWS ON CELLS OF THE START -/
def am_A (K : am_K) : Nat → Prop := fun q => K.1.heap.size ≤ q
section AME
variable {K : am_K} {X : Nat → am_C} {M M2 : am_M} {d d2 kc ks uc us kc1 ks1 pc : Nat} {lv : List (Nat × Value)} {st stk : List Value} {h : am_H} {post post1 : Option Value → am_H → Prop} {As : List Value}
theorem am_old {H : Heap} (hH : am_HR K X h H) : ∀ a : Nat, a < K.1.heap.size → ¬ am_A K a → H[a]? = K.1.heap[a]? := fun a ha _ => hH.2.2.1 a ha
theorem am_getE {ix r : Nat} {o n ds : String} {v : Value} (hE : va_OF o n ds (am_tr K v) (am_ad K r) (am_A K) K.1 K.1.heap) (hw : Cond.fieldLink M.1.cls ix o n ds ∈ am_tbl) (hd : decode M.2.1 pc = .ok (.getfield ix, 3)) (kk : am_W K X M d kc ks uc us (pc + 3) lv (v :: st) h post) : am_W K X M d kc ks uc us pc lv (.ref r :: st) h post := by
  intro p l e R s m args below meth c H locs cells slots ls z hH hL hl h1 h2
  obtain ⟨cf, k, fi, f, cell, g1, g2, g3, g4, g5, g6⟩ := (va_OF.moved z.2.2.2.2.2.2.2.2.1.alike hE).kept (am_old hH)
  exact W.getf z.1 z.2.1 z.2.2.2.1 (z.2.2.2.2.1 _ hw) g1 g2 g3 g4 g5 rfl rfl hd (kk p l e R s m args below meth c H locs cells slots ls z hH hL hl h1 h2)
theorem am_gets {ix : Nat} {C n ds : String} {v : Value} (hE : va_Z C n ds (am_tr K v) (am_A K) K.1 K.1.heap) (hw : Cond.fieldLink M.1.cls ix C n ds ∈ am_tbl) (hd : decode M.2.1 pc = .ok (.getstatic ix, 3)) (kk : am_W K X M d kc ks uc us (pc + 3) lv (v :: st) h post) : am_W K X M d kc ks uc us pc lv st h post := by
  intro p l e R s m args below meth c H locs cells slots ls z hH hL hl h1 h2
  obtain ⟨cf, kf, fi, f, a, cell, g1, g2, g3, g4, g5, g6, g7, g8⟩ := (va_Z.moved z.2.2.2.2.2.2.2.2.1.alike hE).kept (am_old hH)
  exact W.gets z.1 z.2.1 z.2.2.2.1 (z.2.2.2.2.1 _ hw) g1 g2 g3 g4 g5 (fun e => by rw [e] at g6; cases g6) g7 rfl hd (kk p l e R s m args below meth c H locs cells slots ls z hH hL hl h1 h2)
theorem am_ldcS {ix r : Nat} {tx : String} (hE : vk_R M.1.cls ix tx (am_ad K r) K.1) (hd : decode M.2.1 pc = .ok (.ldc ix, 2)) (kk : am_W K X M d kc ks uc us (pc + 2) lv (.ref r :: st) h post) : am_W K X M d kc ks uc us pc lv st h post := by
  intro p l e R s m args below meth c H locs cells slots ls z hH hL hl h1 h2
  exact va_ldcS z.1 z.2.1 z.2.2.2.1 (vk_R.warm z.2.2.2.2.2.2.2.2.1 hE) hd (kk p l e R s m args below meth c H locs cells slots ls z hH hL hl h1 h2)
theorem am_alenE {r N : Nat} {ty : FieldType} {f : Nat → Value} (hE : va_T ty (am_ad K r) N f (am_A K) K.1 K.1.heap) (hd : decode M.2.1 pc = .ok (.arraylength, 1)) (kk : am_W K X M d kc ks uc us (pc + 1) lv (.int (Int32.ofNat N) :: st) h post) : am_W K X M d kc ks uc us pc lv (.ref r :: st) h post := by
  intro p l e R s m args below meth c H locs cells slots ls z hH hL hl h1 h2
  obtain ⟨cell, g1, g2, g3, g4, g5, g6, g7⟩ := (va_T.moved z.2.2.2.2.2.2.2.2.1.alike hE).kept (am_old hH)
  exact W.alen (n := Int32.ofNat N) z.1 z.2.1 g1 g2 g5 rfl rfl hd (kk p l e R s m args below meth c H locs cells slots ls z hH hL hl h1 h2)

theorem am_ialdE {r N : Nat} {f : Nat → Value} {i : Int32} {v : Value} (hE : va_T .int (am_ad K r) N (fun j => am_tr K (f j)) (am_A K) K.1 K.1.heap) (hd : decode M.2.1 pc = .ok (.iaload, 1)) (hin : vp_in i N) (hv : f i.toNatClampNeg = v) (kk : am_W K X M d kc ks uc us (pc + 1) lv (v :: st) h post) : am_W K X M d kc ks uc us pc lv (.int i :: .ref r :: st) h post := by
  intro p l e R s m args below meth c H locs cells slots ls z hH hL hl h1 h2
  obtain ⟨cell, g1, g2, g3, g4, g5, g6, g7⟩ := (va_T.moved z.2.2.2.2.2.2.2.2.1.alike hE).kept (am_old hH)
  have hlt : i.toNatClampNeg < N := Nat.not_le.mp fun q => hin (Or.inr q)
  subst hv
  exact W.iald (v := am_tr K (f i.toNatClampNeg)) z.1 z.2.1 g1 g2 g3 (fun q => q.elim (fun q => hin (Or.inl q)) (fun q => by omega)) (g6 _ hlt) rfl rfl hd (kk p l e R s m args below meth c H locs cells slots ls z hH hL hl h1 h2)
theorem am_baldE {r N : Nat} {f : Nat → Value} {i : Int32} {v : Value} (hE : va_T .byte (am_ad K r) N (fun j => am_tr K (f j)) (am_A K) K.1 K.1.heap) (hd : decode M.2.1 pc = .ok (.baload, 1)) (hin : vp_in i N) (hv : f i.toNatClampNeg = v) (kk : am_W K X M d kc ks uc us (pc + 1) lv (v :: st) h post) : am_W K X M d kc ks uc us pc lv (.int i :: .ref r :: st) h post := by
  intro p l e R s m args below meth c H locs cells slots ls z hH hL hl h1 h2
  obtain ⟨cell, g1, g2, g3, g4, g5, g6, g7⟩ := (va_T.moved z.2.2.2.2.2.2.2.2.1.alike hE).kept (am_old hH)
  have hlt : i.toNatClampNeg < N := Nat.not_le.mp fun q => hin (Or.inr q)
  subst hv
  exact W.bald (v := am_tr K (f i.toNatClampNeg)) z.1 z.2.1 g1 g2 g3 (fun q => q.elim (fun q => hin (Or.inl q)) (fun q => by omega)) (g6 _ hlt) rfl rfl hd (kk p l e R s m args below meth c H locs cells slots ls z hH hL hl h1 h2)
/-- a call on an object of the start -/
theorem am_callVE (O : am_ok K X) {ix r n : Nat} (hM : am_Mt K X M2 d2 kc1 ks1 (.ref r :: As) h post1) (hs : stk = As.reverse ++ .ref r :: st) (hE : va_O M2.1.cls (am_ad K r) (am_A K) K.1 K.1.heap) (L : am_L M.1.cls ix n M2) (L2 : Cond.instanceMethod M2.1 ∈ am_tbl ∧ Cond.selects M2.1.cls M2.1 M2.1 ∈ am_tbl) (hlen : As.length = n) (hst : (st.map fun v => v.category).sum ≤ 8) (hd : decode M.2.1 pc = .ok (.invokevirtual ix, 3)) (hdd : d2 + 1 ≤ d) (hk : uc + kc1 ≤ kc) (hk2 : us + ks1 ≤ ks)
    (kk : ∀ v h', post1 v h' → am_W K X M d kc ks (uc + kc1) (us + ks1) (pc + 3) lv (v.toList ++ st) h' post) : am_W K X M d kc ks uc us pc lv stk h post := by
  intro p l e R s m args below meth c H locs cells slots ls z hH hL hl h1 h2
  have hcat : ((st.map (am_tr K)).map fun v => v.category).sum ≤ 8 := by
    rw [List.map_map, show ((fun v : Value => v.category) ∘ am_tr K) = fun v => v.category from funext (am_cat K)]
    exact hst
  obtain ⟨z1, z2, z3, z4, z5, z6, z7, z8, z9, z10, z11⟩ := id z
  obtain ⟨hlk, w1, w2, w3, w4, w5⟩ := id L
  obtain ⟨cell, g1, g2, g3, -⟩ := (va_O.moved z9.alike hE).kept (am_old hH)
  have hstk : stk.map (am_tr K) = (As.map (am_tr K)).reverse ++ .ref (am_ad K r) :: st.map (am_tr K) := by rw [hs]; simp [am_tr]
  have hp : PreV s H M2.1.cls (am_ad K r) (am_P K X (.ref r :: As) h) (As.map (am_tr K)) := ⟨am_blind, ⟨cell, g1, g2, g3⟩, fun U hU hW => ⟨rfl, by rw [hU]; exact hH, State.WarmedH.trans z9 hW⟩⟩
  refine am_back z hL hl hk hk2 h1 h2 (a := (Value.ref (am_ad K r) :: As.map (am_tr K)).toArray) (stk := stk) ?_ kk
  rcases hlk with hlk | ⟨host, hlk⟩
  · exact va_runV (As := As.map (am_tr K)) (C := M2.1.cls) ⟨z1, z2, z3, z4, z5⟩ (hM l) ⟨⟨rfl, rfl, by show d2 + 1 ≤ _; omega, by show _ + _ + 64 * d2 ≤ _; omega, am_words z L, List.mem_cons_self, z5 _ w2, z5 _ w1, w3, am_len L, z5 _ hlk⟩, z5 _ L2.1, z5 _ L2.2⟩ hp rfl (by rw [List.length_map]; exact hlen) hl.1 hstk (by show 2 * 0 + _ ≤ 8; omega) hd ⟨by omega, by omega⟩
  · obtain ⟨A, hA⟩ := O.2.2 _ hlk
    exact va_runVN (As := As.map (am_tr K)) (C := M2.1.cls) (host := host) ⟨z1, z2, z3, z4, z5⟩ (hM l) ⟨⟨⟨rfl, rfl, by show d2 + 1 ≤ _; omega, by show _ + _ + 64 * d2 ≤ _; omega, am_words z L, List.mem_cons_self⟩, z5 _ w2, z5 _ w1, w3, am_len L, va_Nw.use rfl (va_Nw.warmM z9 (va_Nw.of rfl hA))⟩, z5 _ L2.1, z5 _ L2.2⟩ hp rfl (by rw [List.length_map]; exact hlen) hl.1 hstk (by show 2 * 0 + _ ≤ 8; omega) hd ⟨by omega, by omega⟩
end AME
end
section
abbrev m_Vals_init : am_M := (⟨"StowTongueModel$Values", "<init>", "(I)V"⟩, prog_16_method_1_code, 2, none)
theorem d_Vals_init_32 : decode prog_16_method_1_code 32 = .ok (.return_, 1) := by decide +kernel
theorem d_Vals_init_0 : decode prog_16_method_1_code 0 = .ok (.aload_n 0, 1) := by decide +kernel
theorem d_Vals_init_1 : decode prog_16_method_1_code 1 = .ok (.invokespecial 1, 3) := by decide +kernel
theorem w_1500 : (Cond.methodLink "StowTongueModel$Values" 1 ⟨"java/lang/Object", "<init>", "()V"⟩ : Cond) ∈ am_tbl := am_w 1500 (by decide +kernel) (by decide +kernel)
theorem w_177 : (Cond.instanceMethod ⟨"java/lang/Object", "<init>", "()V"⟩ : Cond) ∈ am_tbl := am_w 177 (by decide +kernel) (by decide +kernel)
theorem w_178 : (Cond.code ⟨"java/lang/Object", "<init>", "()V"⟩ object_method_1_code 1 none : Cond) ∈ am_tbl := am_w 178 (by decide +kernel) (by decide +kernel)
theorem d_Vals_init_4 : decode prog_16_method_1_code 4 = .ok (.aload_n 0, 1) := by decide +kernel
theorem d_Vals_init_5 : decode prog_16_method_1_code 5 = .ok (.iload_n 1, 1) := by decide +kernel
theorem d_Vals_init_6 : decode prog_16_method_1_code 6 = .ok (.newarray .int, 2) := by decide +kernel
theorem w_317 : (Cond.arrayClass FieldType.int : Cond) ∈ am_tbl := am_w 317 (by decide +kernel) (by decide +kernel)
theorem d_Vals_init_8 : decode prog_16_method_1_code 8 = .ok (.putfield 7, 3) := by decide +kernel
theorem cl_11 : am_Cl ("StowTongueModel$Values", TC11, 4) := ⟨am_in_r [1512, 1514, 1516, 1518] (by decide +kernel) (by decide +kernel), by decide +kernel, by decide +kernel⟩
theorem w_1501 : (Cond.fieldLink "StowTongueModel$Values" 7 "StowTongueModel$Values" "kind" "[I" : Cond) ∈ am_tbl := am_w 1501 (by decide +kernel) (by decide +kernel)
theorem f_Vals_7 : am_F "StowTongueModel$Values" 7 11 0 := ⟨_, rfl, cl_11, by decide, Or.inl w_1501⟩
theorem d_Vals_init_11 : decode prog_16_method_1_code 11 = .ok (.aload_n 0, 1) := by decide +kernel
theorem d_Vals_init_12 : decode prog_16_method_1_code 12 = .ok (.iload_n 1, 1) := by decide +kernel
theorem d_Vals_init_13 : decode prog_16_method_1_code 13 = .ok (.newarray .int, 2) := by decide +kernel
theorem d_Vals_init_15 : decode prog_16_method_1_code 15 = .ok (.putfield 13, 3) := by decide +kernel
theorem w_1504 : (Cond.fieldLink "StowTongueModel$Values" 13 "StowTongueModel$Values" "size" "[I" : Cond) ∈ am_tbl := am_w 1504 (by decide +kernel) (by decide +kernel)
theorem f_Vals_13 : am_F "StowTongueModel$Values" 13 11 1 := ⟨_, rfl, cl_11, by decide, Or.inl w_1504⟩
theorem d_Vals_init_18 : decode prog_16_method_1_code 18 = .ok (.aload_n 0, 1) := by decide +kernel
theorem d_Vals_init_19 : decode prog_16_method_1_code 19 = .ok (.iload_n 1, 1) := by decide +kernel
theorem d_Vals_init_20 : decode prog_16_method_1_code 20 = .ok (.newarray .long, 2) := by decide +kernel
theorem w_291 : (Cond.arrayClass FieldType.long : Cond) ∈ am_tbl := am_w 291 (by decide +kernel) (by decide +kernel)
theorem d_Vals_init_22 : decode prog_16_method_1_code 22 = .ok (.putfield 16, 3) := by decide +kernel
theorem w_1507 : (Cond.fieldLink "StowTongueModel$Values" 16 "StowTongueModel$Values" "one" "[J" : Cond) ∈ am_tbl := am_w 1507 (by decide +kernel) (by decide +kernel)
theorem f_Vals_16 : am_F "StowTongueModel$Values" 16 11 2 := ⟨_, rfl, cl_11, by decide, Or.inl w_1507⟩
theorem d_Vals_init_25 : decode prog_16_method_1_code 25 = .ok (.aload_n 0, 1) := by decide +kernel
theorem d_Vals_init_26 : decode prog_16_method_1_code 26 = .ok (.iload_n 1, 1) := by decide +kernel
theorem d_Vals_init_27 : decode prog_16_method_1_code 27 = .ok (.newarray .long, 2) := by decide +kernel
theorem d_Vals_init_29 : decode prog_16_method_1_code 29 = .ok (.putfield 20, 3) := by decide +kernel
theorem w_1510 : (Cond.fieldLink "StowTongueModel$Values" 20 "StowTongueModel$Values" "two" "[J" : Cond) ∈ am_tbl := am_w 1510 (by decide +kernel) (by decide +kernel)
theorem f_Vals_20 : am_F "StowTongueModel$Values" 20 11 3 := ⟨_, rfl, cl_11, by decide, Or.inl w_1510⟩
abbrev m_Code_init : am_M := (⟨"StowTongueModel$Code", "<init>", "(I)V"⟩, prog_14_method_1_code, 2, none)
theorem d_Code_init_0 : decode prog_14_method_1_code 0 = .ok (.aload_n 0, 1) := by decide +kernel
theorem d_Code_init_1 : decode prog_14_method_1_code 1 = .ok (.invokespecial 1, 3) := by decide +kernel
theorem w_1494 : (Cond.methodLink "StowTongueModel$Code" 1 ⟨"java/lang/Object", "<init>", "()V"⟩ : Cond) ∈ am_tbl := am_w 1494 (by decide +kernel) (by decide +kernel)
theorem d_Code_init_4 : decode prog_14_method_1_code 4 = .ok (.aload_n 0, 1) := by decide +kernel
theorem d_Code_init_5 : decode prog_14_method_1_code 5 = .ok (.iconst 4, 1) := by decide +kernel
theorem d_Code_init_6 : decode prog_14_method_1_code 6 = .ok (.iload_n 1, 1) := by decide +kernel
theorem d_Code_init_7 : decode prog_14_method_1_code 7 = .ok (.imul, 1) := by decide +kernel
theorem d_Code_init_8 : decode prog_14_method_1_code 8 = .ok (.newarray .int, 2) := by decide +kernel
theorem cl_12 : am_Cl ("StowTongueModel$Code", TC12, 10) := ⟨am_in_r [1540, 1542, 1544, 1546, 1548, 1550, 1552, 1554, 1556, 1558] (by decide +kernel) (by decide +kernel), by decide +kernel, by decide +kernel⟩
theorem w_1521 : (Cond.fieldLink "StowTongueModel$Code" 7 "StowTongueModel$Code" "step" "[I" : Cond) ∈ am_tbl := am_w 1521 (by decide +kernel) (by decide +kernel)
theorem f_Code_7 : am_F "StowTongueModel$Code" 7 12 0 := ⟨_, rfl, cl_12, by decide, Or.inl w_1521⟩
theorem d_Code_init_10 : decode prog_14_method_1_code 10 = .ok (.putfield 7, 3) := by decide +kernel
theorem d_Code_init_13 : decode prog_14_method_1_code 13 = .ok (.aload_n 0, 1) := by decide +kernel
theorem d_Code_init_14 : decode prog_14_method_1_code 14 = .ok (.new 13, 3) := by decide +kernel
theorem w_1495 : (Cond.classLink "StowTongueModel$Code" 13 "StowTongueModel$Values" : Cond) ∈ am_tbl := am_w 1495 (by decide +kernel) (by decide +kernel)
theorem w_1496 : (Cond.instantiable "StowTongueModel$Values" 4 : Cond) ∈ am_tbl := am_w 1496 (by decide +kernel) (by decide +kernel)
theorem w_162 : (Cond.initialized "StowTongueModel$Values" : Cond) ∈ am_tbl := am_w 162 (by decide +kernel) (by decide +kernel)
theorem n_Code_13 : am_N "StowTongueModel$Code" 13 11 4 [.null, .null, .null, .null] := ⟨_, rfl, cl_11, rfl, by decide +kernel, w_1495, w_1496, w_162⟩
theorem d_Code_init_17 : decode prog_14_method_1_code 17 = .ok (.dup, 1) := by decide +kernel
theorem d_Code_init_18 : decode prog_14_method_1_code 18 = .ok (.iload_n 1, 1) := by decide +kernel
theorem d_Code_init_19 : decode prog_14_method_1_code 19 = .ok (.invokespecial 15, 3) := by decide +kernel
theorem w_1497 : (Cond.methodLink "StowTongueModel$Code" 15 ⟨"StowTongueModel$Values", "<init>", "(I)V"⟩ : Cond) ∈ am_tbl := am_w 1497 (by decide +kernel) (by decide +kernel)
theorem w_1499 : (Cond.code ⟨"StowTongueModel$Values", "<init>", "(I)V"⟩ prog_16_method_1_code 2 none : Cond) ∈ am_tbl := am_w 1499 (by decide +kernel) (by decide +kernel)
theorem l_Code_15 : am_L "StowTongueModel$Code" 15 1 m_Vals_init := ⟨Or.inl w_1497, w_162, w_1499, ⟨by decide, by decide⟩, by decide +kernel, by decide⟩
theorem w_1498 : (Cond.instanceMethod ⟨"StowTongueModel$Values", "<init>", "(I)V"⟩ : Cond) ∈ am_tbl := am_w 1498 (by decide +kernel) (by decide +kernel)
theorem w_1523 : (Cond.fieldLink "StowTongueModel$Code" 18 "StowTongueModel$Code" "value" "LStowTongueModel$Values;" : Cond) ∈ am_tbl := am_w 1523 (by decide +kernel) (by decide +kernel)
theorem f_Code_18 : am_F "StowTongueModel$Code" 18 12 1 := ⟨_, rfl, cl_12, by decide, Or.inl w_1523⟩
theorem d_Code_init_22 : decode prog_14_method_1_code 22 = .ok (.putfield 18, 3) := by decide +kernel
theorem d_Code_init_25 : decode prog_14_method_1_code 25 = .ok (.return_, 1) := by decide +kernel
abbrev m_State_init : am_M := (⟨"StowTongueModel$State", "<init>", "()V"⟩, prog_15_method_1_code, 1, none)
theorem d_State_init_0 : decode prog_15_method_1_code 0 = .ok (.aload_n 0, 1) := by decide +kernel
theorem d_State_init_1 : decode prog_15_method_1_code 1 = .ok (.invokespecial 3, 3) := by decide +kernel
theorem w_1566 : (Cond.methodLink "StowTongueModel$State" 3 ⟨"java/lang/Object", "<init>", "()V"⟩ : Cond) ∈ am_tbl := am_w 1566 (by decide +kernel) (by decide +kernel)
theorem d_State_init_4 : decode prog_15_method_1_code 4 = .ok (.aload_n 0, 1) := by decide +kernel
theorem d_State_init_5 : decode prog_15_method_1_code 5 = .ok (.bipush 100, 2) := by decide +kernel
theorem d_State_init_7 : decode prog_15_method_1_code 7 = .ok (.newarray .int, 2) := by decide +kernel
theorem cl_13 : am_Cl ("StowTongueModel$State", TC13, 12) := ⟨am_in_r [1594, 1596, 1598, 1600, 1602, 1604, 1606, 1608, 1610, 1612, 1614, 1616] (by decide +kernel) (by decide +kernel), by decide +kernel, by decide +kernel⟩
theorem w_1571 : (Cond.fieldLink "StowTongueModel$State" 9 "StowTongueModel$State" "kind" "[I" : Cond) ∈ am_tbl := am_w 1571 (by decide +kernel) (by decide +kernel)
theorem f_State_9 : am_F "StowTongueModel$State" 9 13 0 := ⟨_, rfl, cl_13, by decide, Or.inl w_1571⟩
theorem d_State_init_9 : decode prog_15_method_1_code 9 = .ok (.putfield 9, 3) := by decide +kernel
theorem d_State_init_12 : decode prog_15_method_1_code 12 = .ok (.aload_n 0, 1) := by decide +kernel
theorem d_State_init_13 : decode prog_15_method_1_code 13 = .ok (.bipush 100, 2) := by decide +kernel
theorem d_State_init_15 : decode prog_15_method_1_code 15 = .ok (.newarray .int, 2) := by decide +kernel
theorem w_1573 : (Cond.fieldLink "StowTongueModel$State" 15 "StowTongueModel$State" "size" "[I" : Cond) ∈ am_tbl := am_w 1573 (by decide +kernel) (by decide +kernel)
theorem f_State_15 : am_F "StowTongueModel$State" 15 13 1 := ⟨_, rfl, cl_13, by decide, Or.inl w_1573⟩
theorem d_State_init_17 : decode prog_15_method_1_code 17 = .ok (.putfield 15, 3) := by decide +kernel
theorem d_State_init_20 : decode prog_15_method_1_code 20 = .ok (.aload_n 0, 1) := by decide +kernel
theorem d_State_init_21 : decode prog_15_method_1_code 21 = .ok (.sipush 800, 3) := by decide +kernel
theorem d_State_init_24 : decode prog_15_method_1_code 24 = .ok (.newarray .long, 2) := by decide +kernel
theorem w_1575 : (Cond.fieldLink "StowTongueModel$State" 18 "StowTongueModel$State" "name" "[J" : Cond) ∈ am_tbl := am_w 1575 (by decide +kernel) (by decide +kernel)
theorem f_State_18 : am_F "StowTongueModel$State" 18 13 2 := ⟨_, rfl, cl_13, by decide, Or.inl w_1575⟩
theorem d_State_init_26 : decode prog_15_method_1_code 26 = .ok (.putfield 18, 3) := by decide +kernel
theorem d_State_init_29 : decode prog_15_method_1_code 29 = .ok (.aload_n 0, 1) := by decide +kernel
theorem d_State_init_30 : decode prog_15_method_1_code 30 = .ok (.bipush 12, 2) := by decide +kernel
theorem d_State_init_32 : decode prog_15_method_1_code 32 = .ok (.newarray .long, 2) := by decide +kernel
theorem w_1577 : (Cond.fieldLink "StowTongueModel$State" 22 "StowTongueModel$State" "root" "[J" : Cond) ∈ am_tbl := am_w 1577 (by decide +kernel) (by decide +kernel)
theorem f_State_22 : am_F "StowTongueModel$State" 22 13 3 := ⟨_, rfl, cl_13, by decide, Or.inl w_1577⟩
theorem d_State_init_34 : decode prog_15_method_1_code 34 = .ok (.putfield 22, 3) := by decide +kernel
theorem d_State_init_37 : decode prog_15_method_1_code 37 = .ok (.aload_n 0, 1) := by decide +kernel
theorem d_State_init_38 : decode prog_15_method_1_code 38 = .ok (.bipush 10, 2) := by decide +kernel
theorem d_State_init_40 : decode prog_15_method_1_code 40 = .ok (.newarray .long, 2) := by decide +kernel
theorem w_1579 : (Cond.fieldLink "StowTongueModel$State" 25 "StowTongueModel$State" "function" "[J" : Cond) ∈ am_tbl := am_w 1579 (by decide +kernel) (by decide +kernel)
theorem f_State_25 : am_F "StowTongueModel$State" 25 13 4 := ⟨_, rfl, cl_13, by decide, Or.inl w_1579⟩
theorem d_State_init_42 : decode prog_15_method_1_code 42 = .ok (.putfield 25, 3) := by decide +kernel
theorem d_State_init_45 : decode prog_15_method_1_code 45 = .ok (.aload_n 0, 1) := by decide +kernel
theorem d_State_init_46 : decode prog_15_method_1_code 46 = .ok (.new 28, 3) := by decide +kernel
theorem w_1567 : (Cond.classLink "StowTongueModel$State" 28 "StowTongueModel$Values" : Cond) ∈ am_tbl := am_w 1567 (by decide +kernel) (by decide +kernel)
theorem n_State_28 : am_N "StowTongueModel$State" 28 11 4 [.null, .null, .null, .null] := ⟨_, rfl, cl_11, rfl, by decide +kernel, w_1567, w_1496, w_162⟩
theorem d_State_init_49 : decode prog_15_method_1_code 49 = .ok (.dup, 1) := by decide +kernel
theorem d_State_init_50 : decode prog_15_method_1_code 50 = .ok (.sipush 2000, 3) := by decide +kernel
theorem d_State_init_53 : decode prog_15_method_1_code 53 = .ok (.invokespecial 30, 3) := by decide +kernel
theorem w_1568 : (Cond.methodLink "StowTongueModel$State" 30 ⟨"StowTongueModel$Values", "<init>", "(I)V"⟩ : Cond) ∈ am_tbl := am_w 1568 (by decide +kernel) (by decide +kernel)
theorem l_State_30 : am_L "StowTongueModel$State" 30 1 m_Vals_init := ⟨Or.inl w_1568, w_162, w_1499, ⟨by decide, by decide⟩, by decide +kernel, by decide⟩
theorem w_1581 : (Cond.fieldLink "StowTongueModel$State" 33 "StowTongueModel$State" "item" "LStowTongueModel$Values;" : Cond) ∈ am_tbl := am_w 1581 (by decide +kernel) (by decide +kernel)
theorem f_State_33 : am_F "StowTongueModel$State" 33 13 5 := ⟨_, rfl, cl_13, by decide, Or.inl w_1581⟩
theorem d_State_init_56 : decode prog_15_method_1_code 56 = .ok (.putfield 33, 3) := by decide +kernel
theorem d_State_init_59 : decode prog_15_method_1_code 59 = .ok (.aload_n 0, 1) := by decide +kernel
theorem d_State_init_60 : decode prog_15_method_1_code 60 = .ok (.new 28, 3) := by decide +kernel
theorem d_State_init_63 : decode prog_15_method_1_code 63 = .ok (.dup, 1) := by decide +kernel
theorem d_State_init_64 : decode prog_15_method_1_code 64 = .ok (.bipush 12, 2) := by decide +kernel
theorem d_State_init_66 : decode prog_15_method_1_code 66 = .ok (.invokespecial 30, 3) := by decide +kernel
theorem w_1583 : (Cond.fieldLink "StowTongueModel$State" 37 "StowTongueModel$State" "value" "LStowTongueModel$Values;" : Cond) ∈ am_tbl := am_w 1583 (by decide +kernel) (by decide +kernel)
theorem f_State_37 : am_F "StowTongueModel$State" 37 13 6 := ⟨_, rfl, cl_13, by decide, Or.inl w_1583⟩
theorem d_State_init_69 : decode prog_15_method_1_code 69 = .ok (.putfield 37, 3) := by decide +kernel
theorem d_State_init_72 : decode prog_15_method_1_code 72 = .ok (.aload_n 0, 1) := by decide +kernel
theorem d_State_init_73 : decode prog_15_method_1_code 73 = .ok (.bipush 10, 2) := by decide +kernel
theorem d_State_init_75 : decode prog_15_method_1_code 75 = .ok (.anewarray 40, 3) := by decide +kernel
theorem w_1569 : (Cond.classLink "StowTongueModel$State" 40 "StowTongueModel$Code" : Cond) ∈ am_tbl := am_w 1569 (by decide +kernel) (by decide +kernel)
theorem x_1570 : (Cond.arrayOver (FieldType.object "StowTongueModel$Code") : Cond) ∈ lw_tbl := List.mem_of_getElem? (i := 1570) (by decide +kernel)
theorem w_1585 : (Cond.fieldLink "StowTongueModel$State" 42 "StowTongueModel$State" "code" "[LStowTongueModel$Code;" : Cond) ∈ am_tbl := am_w 1585 (by decide +kernel) (by decide +kernel)
theorem f_State_42 : am_F "StowTongueModel$State" 42 13 7 := ⟨_, rfl, cl_13, by decide, Or.inl w_1585⟩
theorem d_State_init_78 : decode prog_15_method_1_code 78 = .ok (.putfield 42, 3) := by decide +kernel
theorem d_State_init_81 : decode prog_15_method_1_code 81 = .ok (.return_, 1) := by decide +kernel
abbrev m_Out_init : am_M := (⟨"StowTongue$Out", "<init>", "()V"⟩, prog_7_method_1_code, 1, none)
theorem d_Out_init_0 : decode prog_7_method_1_code 0 = .ok (.aload_n 0, 1) := by decide +kernel
theorem d_Out_init_1 : decode prog_7_method_1_code 1 = .ok (.invokespecial 3, 3) := by decide +kernel
theorem w_184 : (Cond.methodLink "StowTongue$Out" 3 ⟨"java/lang/Object", "<init>", "()V"⟩ : Cond) ∈ am_tbl := am_w 184 (by decide +kernel) (by decide +kernel)
theorem d_Out_init_4 : decode prog_7_method_1_code 4 = .ok (.aload_n 0, 1) := by decide +kernel
theorem d_Out_init_5 : decode prog_7_method_1_code 5 = .ok (.sipush 600, 3) := by decide +kernel
theorem d_Out_init_8 : decode prog_7_method_1_code 8 = .ok (.newarray .byte, 2) := by decide +kernel
theorem w_195 : (Cond.arrayClass FieldType.byte : Cond) ∈ am_tbl := am_w 195 (by decide +kernel) (by decide +kernel)
theorem cl_0 : am_Cl ("StowTongue$Out", TC0, 3) := ⟨am_in_r [188, 190, 192] (by decide +kernel) (by decide +kernel), by decide +kernel, by decide +kernel⟩
theorem w_185 : (Cond.fieldLink "StowTongue$Out" 11 "StowTongue$Out" "bytes" "[B" : Cond) ∈ am_tbl := am_w 185 (by decide +kernel) (by decide +kernel)
theorem f_Out_11 : am_F "StowTongue$Out" 11 0 0 := ⟨_, rfl, cl_0, by decide, Or.inl w_185⟩
theorem d_Out_init_10 : decode prog_7_method_1_code 10 = .ok (.putfield 11, 3) := by decide +kernel
theorem d_Out_init_13 : decode prog_7_method_1_code 13 = .ok (.return_, 1) := by decide +kernel
abbrev m_Draft_init : am_M := (⟨"StowTongue$Draft", "<init>", "()V"⟩, prog_3_method_1_code, 1, none)
theorem d_Draft_init_0 : decode prog_3_method_1_code 0 = .ok (.aload_n 0, 1) := by decide +kernel
theorem d_Draft_init_1 : decode prog_3_method_1_code 1 = .ok (.invokespecial 1, 3) := by decide +kernel
theorem w_297 : (Cond.methodLink "StowTongue$Draft" 1 ⟨"java/lang/Object", "<init>", "()V"⟩ : Cond) ∈ am_tbl := am_w 297 (by decide +kernel) (by decide +kernel)
theorem d_Draft_init_4 : decode prog_3_method_1_code 4 = .ok (.aload_n 0, 1) := by decide +kernel
theorem d_Draft_init_5 : decode prog_3_method_1_code 5 = .ok (.sipush 128, 3) := by decide +kernel
theorem d_Draft_init_8 : decode prog_3_method_1_code 8 = .ok (.newarray .int, 2) := by decide +kernel
theorem cl_2 : am_Cl ("StowTongue$Draft", TC2, 6) := ⟨am_in_r [304, 306, 308, 310, 312, 314] (by decide +kernel) (by decide +kernel), by decide +kernel, by decide +kernel⟩
theorem w_298 : (Cond.fieldLink "StowTongue$Draft" 7 "StowTongue$Draft" "code" "[I" : Cond) ∈ am_tbl := am_w 298 (by decide +kernel) (by decide +kernel)
theorem f_Draft_7 : am_F "StowTongue$Draft" 7 2 0 := ⟨_, rfl, cl_2, by decide, Or.inl w_298⟩
theorem d_Draft_init_10 : decode prog_3_method_1_code 10 = .ok (.putfield 7, 3) := by decide +kernel
theorem d_Draft_init_13 : decode prog_3_method_1_code 13 = .ok (.aload_n 0, 1) := by decide +kernel
theorem d_Draft_init_14 : decode prog_3_method_1_code 14 = .ok (.bipush 32, 2) := by decide +kernel
theorem d_Draft_init_16 : decode prog_3_method_1_code 16 = .ok (.newarray .long, 2) := by decide +kernel
theorem w_300 : (Cond.fieldLink "StowTongue$Draft" 13 "StowTongue$Draft" "pool" "[J" : Cond) ∈ am_tbl := am_w 300 (by decide +kernel) (by decide +kernel)
theorem f_Draft_13 : am_F "StowTongue$Draft" 13 2 2 := ⟨_, rfl, cl_2, by decide, Or.inl w_300⟩
theorem d_Draft_init_18 : decode prog_3_method_1_code 18 = .ok (.putfield 13, 3) := by decide +kernel
theorem d_Draft_init_21 : decode prog_3_method_1_code 21 = .ok (.aload_n 0, 1) := by decide +kernel
theorem d_Draft_init_22 : decode prog_3_method_1_code 22 = .ok (.bipush 16, 2) := by decide +kernel
theorem d_Draft_init_24 : decode prog_3_method_1_code 24 = .ok (.newarray .long, 2) := by decide +kernel
theorem w_302 : (Cond.fieldLink "StowTongue$Draft" 17 "StowTongue$Draft" "locals" "[J" : Cond) ∈ am_tbl := am_w 302 (by decide +kernel) (by decide +kernel)
theorem f_Draft_17 : am_F "StowTongue$Draft" 17 2 4 := ⟨_, rfl, cl_2, by decide, Or.inl w_302⟩
theorem d_Draft_init_26 : decode prog_3_method_1_code 26 = .ok (.putfield 17, 3) := by decide +kernel
theorem d_Draft_init_29 : decode prog_3_method_1_code 29 = .ok (.return_, 1) := by decide +kernel
abbrev m_Sweep_init : am_M := (⟨"StowTongue$Sweeper", "<init>", "()V"⟩, prog_10_method_1_code, 1, none)
theorem d_Sweep_init_0 : decode prog_10_method_1_code 0 = .ok (.aload_n 0, 1) := by decide +kernel
theorem d_Sweep_init_1 : decode prog_10_method_1_code 1 = .ok (.invokespecial 1, 3) := by decide +kernel
theorem w_483 : (Cond.methodLink "StowTongue$Sweeper" 1 ⟨"java/lang/Object", "<init>", "()V"⟩ : Cond) ∈ am_tbl := am_w 483 (by decide +kernel) (by decide +kernel)
theorem d_Sweep_init_4 : decode prog_10_method_1_code 4 = .ok (.aload_n 0, 1) := by decide +kernel
theorem d_Sweep_init_5 : decode prog_10_method_1_code 5 = .ok (.bipush 100, 2) := by decide +kernel
theorem d_Sweep_init_7 : decode prog_10_method_1_code 7 = .ok (.newarray .boolean, 2) := by decide +kernel
theorem w_494 : (Cond.arrayClass FieldType.boolean : Cond) ∈ am_tbl := am_w 494 (by decide +kernel) (by decide +kernel)
theorem cl_8 : am_Cl ("StowTongue$Sweeper", TC8, 3) := ⟨am_in_r [487, 489, 491] (by decide +kernel) (by decide +kernel), by decide +kernel, by decide +kernel⟩
theorem w_484 : (Cond.fieldLink "StowTongue$Sweeper" 9 "StowTongue$Sweeper" "reached" "[Z" : Cond) ∈ am_tbl := am_w 484 (by decide +kernel) (by decide +kernel)
theorem f_Sweep_9 : am_F "StowTongue$Sweeper" 9 8 0 := ⟨_, rfl, cl_8, by decide, Or.inl w_484⟩
theorem d_Sweep_init_9 : decode prog_10_method_1_code 9 = .ok (.putfield 9, 3) := by decide +kernel
theorem d_Sweep_init_12 : decode prog_10_method_1_code 12 = .ok (.aload_n 0, 1) := by decide +kernel
theorem d_Sweep_init_13 : decode prog_10_method_1_code 13 = .ok (.bipush 100, 2) := by decide +kernel
theorem d_Sweep_init_15 : decode prog_10_method_1_code 15 = .ok (.newarray .int, 2) := by decide +kernel
theorem w_485 : (Cond.fieldLink "StowTongue$Sweeper" 15 "StowTongue$Sweeper" "queue" "[I" : Cond) ∈ am_tbl := am_w 485 (by decide +kernel) (by decide +kernel)
theorem f_Sweep_15 : am_F "StowTongue$Sweeper" 15 8 1 := ⟨_, rfl, cl_8, by decide, Or.inl w_485⟩
theorem d_Sweep_init_17 : decode prog_10_method_1_code 17 = .ok (.putfield 15, 3) := by decide +kernel
theorem d_Sweep_init_20 : decode prog_10_method_1_code 20 = .ok (.return_, 1) := by decide +kernel
abbrev m_Log_init : am_M := (⟨"StowTongue$Log", "<init>", "()V"⟩, prog_5_method_1_code, 1, none)
theorem d_Log_init_0 : decode prog_5_method_1_code 0 = .ok (.aload_n 0, 1) := by decide +kernel
theorem d_Log_init_1 : decode prog_5_method_1_code 1 = .ok (.invokespecial 3, 3) := by decide +kernel
theorem w_462 : (Cond.methodLink "StowTongue$Log" 3 ⟨"java/lang/Object", "<init>", "()V"⟩ : Cond) ∈ am_tbl := am_w 462 (by decide +kernel) (by decide +kernel)
theorem d_Log_init_4 : decode prog_5_method_1_code 4 = .ok (.aload_n 0, 1) := by decide +kernel
theorem d_Log_init_5 : decode prog_5_method_1_code 5 = .ok (.bipush 10, 2) := by decide +kernel
theorem d_Log_init_7 : decode prog_5_method_1_code 7 = .ok (.anewarray 9, 3) := by decide +kernel
theorem w_463 : (Cond.classLink "StowTongue$Log" 9 "StowTongue$Store" : Cond) ∈ am_tbl := am_w 463 (by decide +kernel) (by decide +kernel)
theorem x_464 : (Cond.arrayOver (FieldType.object "StowTongue$Store") : Cond) ∈ lw_tbl := List.mem_of_getElem? (i := 464) (by decide +kernel)
theorem cl_7 : am_Cl ("StowTongue$Log", TC7, 4) := ⟨am_in_r [469, 471, 473, 475] (by decide +kernel) (by decide +kernel), by decide +kernel, by decide +kernel⟩
theorem w_465 : (Cond.fieldLink "StowTongue$Log" 11 "StowTongue$Log" "stores" "[LStowTongue$Store;" : Cond) ∈ am_tbl := am_w 465 (by decide +kernel) (by decide +kernel)
theorem f_Log_11 : am_F "StowTongue$Log" 11 7 0 := ⟨_, rfl, cl_7, by decide, Or.inl w_465⟩
theorem d_Log_init_10 : decode prog_5_method_1_code 10 = .ok (.putfield 11, 3) := by decide +kernel
theorem d_Log_init_13 : decode prog_5_method_1_code 13 = .ok (.aload_n 0, 1) := by decide +kernel
theorem d_Log_init_14 : decode prog_5_method_1_code 14 = .ok (.bipush 10, 2) := by decide +kernel
theorem d_Log_init_16 : decode prog_5_method_1_code 16 = .ok (.newarray .int, 2) := by decide +kernel
theorem w_466 : (Cond.fieldLink "StowTongue$Log" 15 "StowTongue$Log" "bytes" "[I" : Cond) ∈ am_tbl := am_w 466 (by decide +kernel) (by decide +kernel)
theorem f_Log_15 : am_F "StowTongue$Log" 15 7 1 := ⟨_, rfl, cl_7, by decide, Or.inl w_466⟩
theorem d_Log_init_18 : decode prog_5_method_1_code 18 = .ok (.putfield 15, 3) := by decide +kernel
theorem d_Log_init_21 : decode prog_5_method_1_code 21 = .ok (.return_, 1) := by decide +kernel
abbrev m_Mach_init : am_M := (⟨"StowTongue$Machine", "<init>", "()V"⟩, prog_6_method_1_code, 1, none)
theorem d_Mach_init_0 : decode prog_6_method_1_code 0 = .ok (.aload_n 0, 1) := by decide +kernel
theorem d_Mach_init_1 : decode prog_6_method_1_code 1 = .ok (.invokespecial 1, 3) := by decide +kernel
theorem w_399 : (Cond.methodLink "StowTongue$Machine" 1 ⟨"java/lang/Object", "<init>", "()V"⟩ : Cond) ∈ am_tbl := am_w 399 (by decide +kernel) (by decide +kernel)
theorem d_Mach_init_4 : decode prog_6_method_1_code 4 = .ok (.aload_n 0, 1) := by decide +kernel
theorem d_Mach_init_5 : decode prog_6_method_1_code 5 = .ok (.bipush 64, 2) := by decide +kernel
theorem d_Mach_init_7 : decode prog_6_method_1_code 7 = .ok (.newarray .long, 2) := by decide +kernel
theorem cl_6 : am_Cl ("StowTongue$Machine", TC6, 18) := ⟨am_in_r [420, 422, 424, 426, 428, 430, 432, 434, 436, 438, 440, 442, 444, 446, 448, 450, 452, 454] (by decide +kernel) (by decide +kernel), by decide +kernel, by decide +kernel⟩
theorem w_402 : (Cond.fieldLink "StowTongue$Machine" 7 "StowTongue$Machine" "head" "[J" : Cond) ∈ am_tbl := am_w 402 (by decide +kernel) (by decide +kernel)
theorem f_Mach_7 : am_F "StowTongue$Machine" 7 6 0 := ⟨_, rfl, cl_6, by decide, Or.inl w_402⟩
theorem d_Mach_init_9 : decode prog_6_method_1_code 9 = .ok (.putfield 7, 3) := by decide +kernel
theorem d_Mach_init_12 : decode prog_6_method_1_code 12 = .ok (.aload_n 0, 1) := by decide +kernel
theorem d_Mach_init_13 : decode prog_6_method_1_code 13 = .ok (.bipush 64, 2) := by decide +kernel
theorem d_Mach_init_15 : decode prog_6_method_1_code 15 = .ok (.newarray .long, 2) := by decide +kernel
theorem w_403 : (Cond.fieldLink "StowTongue$Machine" 13 "StowTongue$Machine" "tail" "[J" : Cond) ∈ am_tbl := am_w 403 (by decide +kernel) (by decide +kernel)
theorem f_Mach_13 : am_F "StowTongue$Machine" 13 6 1 := ⟨_, rfl, cl_6, by decide, Or.inl w_403⟩
theorem d_Mach_init_17 : decode prog_6_method_1_code 17 = .ok (.putfield 13, 3) := by decide +kernel
theorem d_Mach_init_20 : decode prog_6_method_1_code 20 = .ok (.aload_n 0, 1) := by decide +kernel
theorem d_Mach_init_21 : decode prog_6_method_1_code 21 = .ok (.bipush 8, 2) := by decide +kernel
theorem d_Mach_init_23 : decode prog_6_method_1_code 23 = .ok (.anewarray 16, 3) := by decide +kernel
theorem w_400 : (Cond.classLink "StowTongue$Machine" 16 "StowTongue$Unit" : Cond) ∈ am_tbl := am_w 400 (by decide +kernel) (by decide +kernel)
theorem x_401 : (Cond.arrayOver (FieldType.object "StowTongue$Unit") : Cond) ∈ lw_tbl := List.mem_of_getElem? (i := 401) (by decide +kernel)
theorem w_408 : (Cond.fieldLink "StowTongue$Machine" 18 "StowTongue$Machine" "callers" "[LStowTongue$Unit;" : Cond) ∈ am_tbl := am_w 408 (by decide +kernel) (by decide +kernel)
theorem f_Mach_18 : am_F "StowTongue$Machine" 18 6 6 := ⟨_, rfl, cl_6, by decide, Or.inl w_408⟩
theorem d_Mach_init_26 : decode prog_6_method_1_code 26 = .ok (.putfield 18, 3) := by decide +kernel
theorem d_Mach_init_29 : decode prog_6_method_1_code 29 = .ok (.aload_n 0, 1) := by decide +kernel
theorem d_Mach_init_30 : decode prog_6_method_1_code 30 = .ok (.bipush 8, 2) := by decide +kernel
theorem d_Mach_init_32 : decode prog_6_method_1_code 32 = .ok (.newarray .int, 2) := by decide +kernel
theorem w_409 : (Cond.fieldLink "StowTongue$Machine" 22 "StowTongue$Machine" "callerNext" "[I" : Cond) ∈ am_tbl := am_w 409 (by decide +kernel) (by decide +kernel)
theorem f_Mach_22 : am_F "StowTongue$Machine" 22 6 7 := ⟨_, rfl, cl_6, by decide, Or.inl w_409⟩
theorem d_Mach_init_34 : decode prog_6_method_1_code 34 = .ok (.putfield 22, 3) := by decide +kernel
theorem d_Mach_init_37 : decode prog_6_method_1_code 37 = .ok (.aload_n 0, 1) := by decide +kernel
theorem d_Mach_init_38 : decode prog_6_method_1_code 38 = .ok (.bipush 8, 2) := by decide +kernel
theorem d_Mach_init_40 : decode prog_6_method_1_code 40 = .ok (.newarray .int, 2) := by decide +kernel
theorem w_410 : (Cond.fieldLink "StowTongue$Machine" 26 "StowTongue$Machine" "callerBase" "[I" : Cond) ∈ am_tbl := am_w 410 (by decide +kernel) (by decide +kernel)
theorem f_Mach_26 : am_F "StowTongue$Machine" 26 6 8 := ⟨_, rfl, cl_6, by decide, Or.inl w_410⟩
theorem d_Mach_init_42 : decode prog_6_method_1_code 42 = .ok (.putfield 26, 3) := by decide +kernel
theorem d_Mach_init_45 : decode prog_6_method_1_code 45 = .ok (.return_, 1) := by decide +kernel
abbrev m_Str_coder : am_M := (⟨"java/lang/String", "coder", "()B"⟩, prog_22_method_152_code, 1, (some FieldType.byte))
theorem w_217 : (Cond.fieldLink "java/lang/String" 38 "java/lang/String" "COMPACT_STRINGS" "Z" : Cond) ∈ am_tbl := am_w 217 (by decide +kernel) (by decide +kernel)
theorem d_Str_coder_0 : decode prog_22_method_152_code 0 = .ok (.getstatic 38, 3) := by decide +kernel
theorem d_Str_coder_3 : decode prog_22_method_152_code 3 = .ok (.ifCond .eq 10, 3) := by decide +kernel
theorem d_Str_coder_6 : decode prog_22_method_152_code 6 = .ok (.aload_n 0, 1) := by decide +kernel
theorem w_2201 : (Cond.fieldLink "java/lang/String" 15 "java/lang/String" "coder" "B" : Cond) ∈ am_tbl := am_w 2201 (by decide +kernel) (by decide +kernel)
theorem d_Str_coder_7 : decode prog_22_method_152_code 7 = .ok (.getfield 15, 3) := by decide +kernel
theorem d_Str_coder_10 : decode prog_22_method_152_code 10 = .ok (.goto 4, 3) := by decide +kernel
theorem d_Str_coder_14 : decode prog_22_method_152_code 14 = .ok (.ireturn, 1) := by decide +kernel
abbrev m_Str_isLatin1 : am_M := (⟨"java/lang/String", "isLatin1", "()Z"⟩, prog_22_method_154_code, 1, (some FieldType.boolean))
theorem d_Str_isLatin1_0 : decode prog_22_method_154_code 0 = .ok (.getstatic 38, 3) := by decide +kernel
theorem d_Str_isLatin1_3 : decode prog_22_method_154_code 3 = .ok (.ifCond .eq 14, 3) := by decide +kernel
theorem d_Str_isLatin1_6 : decode prog_22_method_154_code 6 = .ok (.aload_n 0, 1) := by decide +kernel
theorem d_Str_isLatin1_7 : decode prog_22_method_154_code 7 = .ok (.getfield 15, 3) := by decide +kernel
theorem d_Str_isLatin1_10 : decode prog_22_method_154_code 10 = .ok (.ifCond .ne 7, 3) := by decide +kernel
theorem d_Str_isLatin1_13 : decode prog_22_method_154_code 13 = .ok (.iconst 1, 1) := by decide +kernel
theorem d_Str_isLatin1_14 : decode prog_22_method_154_code 14 = .ok (.goto 4, 3) := by decide +kernel
theorem d_Str_isLatin1_18 : decode prog_22_method_154_code 18 = .ok (.ireturn, 1) := by decide +kernel
abbrev m_Str_length : am_M := (⟨"java/lang/String", "length", "()I"⟩, prog_22_method_54_code, 1, (some FieldType.int))
theorem d_Str_length_0 : decode prog_22_method_54_code 0 = .ok (.aload_n 0, 1) := by decide +kernel
theorem w_2200 : (Cond.fieldLink "java/lang/String" 9 "java/lang/String" "value" "[B" : Cond) ∈ am_tbl := am_w 2200 (by decide +kernel) (by decide +kernel)
theorem d_Str_length_1 : decode prog_22_method_54_code 1 = .ok (.getfield 9, 3) := by decide +kernel
theorem d_Str_length_4 : decode prog_22_method_54_code 4 = .ok (.arraylength, 1) := by decide +kernel
theorem d_Str_length_5 : decode prog_22_method_54_code 5 = .ok (.aload_n 0, 1) := by decide +kernel
theorem w_213 : (Cond.methodLink "java/lang/String" 335 ⟨"java/lang/String", "coder", "()B"⟩ : Cond) ∈ am_tbl := am_w 213 (by decide +kernel) (by decide +kernel)
theorem w_147 : (Cond.initialized "java/lang/String" : Cond) ∈ am_tbl := am_w 147 (by decide +kernel) (by decide +kernel)
theorem w_216 : (Cond.code ⟨"java/lang/String", "coder", "()B"⟩ prog_22_method_152_code 1 (some FieldType.byte) : Cond) ∈ am_tbl := am_w 216 (by decide +kernel) (by decide +kernel)
theorem l_Str_335 : am_L "java/lang/String" 335 0 m_Str_coder := ⟨Or.inl w_213, w_147, w_216, ⟨by decide, by decide⟩, by decide +kernel, by decide⟩
theorem w_214 : (Cond.instanceMethod ⟨"java/lang/String", "coder", "()B"⟩ : Cond) ∈ am_tbl := am_w 214 (by decide +kernel) (by decide +kernel)
theorem w_215 : (Cond.selects "java/lang/String" ⟨"java/lang/String", "coder", "()B"⟩ ⟨"java/lang/String", "coder", "()B"⟩ : Cond) ∈ am_tbl := am_w 215 (by decide +kernel) (by decide +kernel)
theorem d_Str_length_6 : decode prog_22_method_54_code 6 = .ok (.invokevirtual 335, 3) := by decide +kernel
theorem d_Str_length_9 : decode prog_22_method_54_code 9 = .ok (.ishr, 1) := by decide +kernel
theorem d_Str_length_10 : decode prog_22_method_54_code 10 = .ok (.ireturn, 1) := by decide +kernel
abbrev m_Pre_checkIndex : am_M := (⟨"jdk/internal/util/Preconditions", "checkIndex", "(IILjava/util/function/BiFunction;)I"⟩, prog_36_method_11_code, 3, (some FieldType.int))
theorem d_Pre_checkIndex_0 : decode prog_36_method_11_code 0 = .ok (.iload_n 0, 1) := by decide +kernel
theorem d_Pre_checkIndex_1 : decode prog_36_method_11_code 1 = .ok (.ifCond .lt 8, 3) := by decide +kernel
theorem d_Pre_checkIndex_4 : decode prog_36_method_11_code 4 = .ok (.iload_n 0, 1) := by decide +kernel
theorem d_Pre_checkIndex_5 : decode prog_36_method_11_code 5 = .ok (.iload_n 1, 1) := by decide +kernel
theorem d_Pre_checkIndex_6 : decode prog_36_method_11_code 6 = .ok (.if_icmp .lt 10, 3) := by decide +kernel
theorem d_Pre_checkIndex_16 : decode prog_36_method_11_code 16 = .ok (.iload_n 0, 1) := by decide +kernel
theorem d_Pre_checkIndex_17 : decode prog_36_method_11_code 17 = .ok (.ireturn, 1) := by decide +kernel
abbrev m_Str_checkIndex : am_M := (⟨"java/lang/String", "checkIndex", "(II)V"⟩, prog_22_method_155_code, 2, none)
theorem d_Str_checkIndex_0 : decode prog_22_method_155_code 0 = .ok (.iload_n 0, 1) := by decide +kernel
theorem d_Str_checkIndex_1 : decode prog_22_method_155_code 1 = .ok (.iload_n 1, 1) := by decide +kernel
theorem w_233 : (Cond.fieldLink "java/lang/String" 1053 "jdk/internal/util/Preconditions" "SIOOBE_FORMATTER" "Ljava/util/function/BiFunction;" : Cond) ∈ am_tbl := am_w 233 (by decide +kernel) (by decide +kernel)
theorem d_Str_checkIndex_2 : decode prog_22_method_155_code 2 = .ok (.getstatic 1053, 3) := by decide +kernel
theorem d_Str_checkIndex_5 : decode prog_22_method_155_code 5 = .ok (.invokestatic 1059, 3) := by decide +kernel
theorem w_235 : (Cond.methodLink "java/lang/String" 1059 ⟨"jdk/internal/util/Preconditions", "checkIndex", "(IILjava/util/function/BiFunction;)I"⟩ : Cond) ∈ am_tbl := am_w 235 (by decide +kernel) (by decide +kernel)
theorem w_149 : (Cond.initialized "jdk/internal/util/Preconditions" : Cond) ∈ am_tbl := am_w 149 (by decide +kernel) (by decide +kernel)
theorem w_237 : (Cond.code ⟨"jdk/internal/util/Preconditions", "checkIndex", "(IILjava/util/function/BiFunction;)I"⟩ prog_36_method_11_code 3 (some FieldType.int) : Cond) ∈ am_tbl := am_w 237 (by decide +kernel) (by decide +kernel)
theorem l_Str_1059 : am_L "java/lang/String" 1059 3 m_Pre_checkIndex := ⟨Or.inl w_235, w_149, w_237, ⟨by decide, by decide⟩, by decide +kernel, by decide⟩
theorem w_236 : (Cond.static ⟨"jdk/internal/util/Preconditions", "checkIndex", "(IILjava/util/function/BiFunction;)I"⟩ : Cond) ∈ am_tbl := am_w 236 (by decide +kernel) (by decide +kernel)
theorem d_Str_checkIndex_8 : decode prog_22_method_155_code 8 = .ok (.pop, 1) := by decide +kernel
theorem d_Str_checkIndex_9 : decode prog_22_method_155_code 9 = .ok (.return_, 1) := by decide +kernel
abbrev m_SL1_charAt : am_M := (⟨"java/lang/StringLatin1", "charAt", "([BI)C"⟩, prog_23_method_2_code, 2, (some FieldType.char))
theorem d_SL1_charAt_0 : decode prog_23_method_2_code 0 = .ok (.iload_n 1, 1) := by decide +kernel
theorem d_SL1_charAt_1 : decode prog_23_method_2_code 1 = .ok (.aload_n 0, 1) := by decide +kernel
theorem d_SL1_charAt_2 : decode prog_23_method_2_code 2 = .ok (.arraylength, 1) := by decide +kernel
theorem d_SL1_charAt_3 : decode prog_23_method_2_code 3 = .ok (.invokestatic 9, 3) := by decide +kernel
theorem w_230 : (Cond.methodLink "java/lang/StringLatin1" 9 ⟨"java/lang/String", "checkIndex", "(II)V"⟩ : Cond) ∈ am_tbl := am_w 230 (by decide +kernel) (by decide +kernel)
theorem w_232 : (Cond.code ⟨"java/lang/String", "checkIndex", "(II)V"⟩ prog_22_method_155_code 2 none : Cond) ∈ am_tbl := am_w 232 (by decide +kernel) (by decide +kernel)
theorem l_SL1_9 : am_L "java/lang/StringLatin1" 9 2 m_Str_checkIndex := ⟨Or.inl w_230, w_147, w_232, ⟨by decide, by decide⟩, by decide +kernel, by decide⟩
theorem w_231 : (Cond.static ⟨"java/lang/String", "checkIndex", "(II)V"⟩ : Cond) ∈ am_tbl := am_w 231 (by decide +kernel) (by decide +kernel)
theorem d_SL1_charAt_6 : decode prog_23_method_2_code 6 = .ok (.aload_n 0, 1) := by decide +kernel
theorem d_SL1_charAt_7 : decode prog_23_method_2_code 7 = .ok (.iload_n 1, 1) := by decide +kernel
theorem d_SL1_charAt_8 : decode prog_23_method_2_code 8 = .ok (.baload, 1) := by decide +kernel
theorem d_SL1_charAt_9 : decode prog_23_method_2_code 9 = .ok (.sipush 255, 3) := by decide +kernel
theorem d_SL1_charAt_12 : decode prog_23_method_2_code 12 = .ok (.iand, 1) := by decide +kernel
theorem d_SL1_charAt_13 : decode prog_23_method_2_code 13 = .ok (.i2c, 1) := by decide +kernel
theorem d_SL1_charAt_14 : decode prog_23_method_2_code 14 = .ok (.ireturn, 1) := by decide +kernel
abbrev m_Str_charAt : am_M := (⟨"java/lang/String", "charAt", "(I)C"⟩, prog_22_method_56_code, 2, (some FieldType.char))
theorem d_Str_charAt_0 : decode prog_22_method_56_code 0 = .ok (.aload_n 0, 1) := by decide +kernel
theorem w_223 : (Cond.methodLink "java/lang/String" 492 ⟨"java/lang/String", "isLatin1", "()Z"⟩ : Cond) ∈ am_tbl := am_w 223 (by decide +kernel) (by decide +kernel)
theorem w_226 : (Cond.code ⟨"java/lang/String", "isLatin1", "()Z"⟩ prog_22_method_154_code 1 (some FieldType.boolean) : Cond) ∈ am_tbl := am_w 226 (by decide +kernel) (by decide +kernel)
theorem l_Str_492 : am_L "java/lang/String" 492 0 m_Str_isLatin1 := ⟨Or.inl w_223, w_147, w_226, ⟨by decide, by decide⟩, by decide +kernel, by decide⟩
theorem w_224 : (Cond.instanceMethod ⟨"java/lang/String", "isLatin1", "()Z"⟩ : Cond) ∈ am_tbl := am_w 224 (by decide +kernel) (by decide +kernel)
theorem w_225 : (Cond.selects "java/lang/String" ⟨"java/lang/String", "isLatin1", "()Z"⟩ ⟨"java/lang/String", "isLatin1", "()Z"⟩ : Cond) ∈ am_tbl := am_w 225 (by decide +kernel) (by decide +kernel)
theorem d_Str_charAt_1 : decode prog_22_method_56_code 1 = .ok (.invokevirtual 492, 3) := by decide +kernel
theorem d_Str_charAt_4 : decode prog_22_method_56_code 4 = .ok (.ifCond .eq 12, 3) := by decide +kernel
theorem d_Str_charAt_7 : decode prog_22_method_56_code 7 = .ok (.aload_n 0, 1) := by decide +kernel
theorem d_Str_charAt_8 : decode prog_22_method_56_code 8 = .ok (.getfield 9, 3) := by decide +kernel
theorem d_Str_charAt_11 : decode prog_22_method_56_code 11 = .ok (.iload_n 1, 1) := by decide +kernel
theorem d_Str_charAt_12 : decode prog_22_method_56_code 12 = .ok (.invokestatic 495, 3) := by decide +kernel
theorem w_227 : (Cond.methodLink "java/lang/String" 495 ⟨"java/lang/StringLatin1", "charAt", "([BI)C"⟩ : Cond) ∈ am_tbl := am_w 227 (by decide +kernel) (by decide +kernel)
theorem w_148 : (Cond.initialized "java/lang/StringLatin1" : Cond) ∈ am_tbl := am_w 148 (by decide +kernel) (by decide +kernel)
theorem w_229 : (Cond.code ⟨"java/lang/StringLatin1", "charAt", "([BI)C"⟩ prog_23_method_2_code 2 (some FieldType.char) : Cond) ∈ am_tbl := am_w 229 (by decide +kernel) (by decide +kernel)
theorem l_Str_495 : am_L "java/lang/String" 495 2 m_SL1_charAt := ⟨Or.inl w_227, w_148, w_229, ⟨by decide, by decide⟩, by decide +kernel, by decide⟩
theorem w_228 : (Cond.static ⟨"java/lang/StringLatin1", "charAt", "([BI)C"⟩ : Cond) ∈ am_tbl := am_w 228 (by decide +kernel) (by decide +kernel)
theorem d_Str_charAt_15 : decode prog_22_method_56_code 15 = .ok (.ireturn, 1) := by decide +kernel
abbrev m_Cell_placed : am_M := (⟨"StowTongue$Cell", "placed", "(II)J"⟩, prog_2_method_6_code, 2, (some FieldType.long))
theorem d_Cell_placed_0 : decode prog_2_method_6_code 0 = .ok (.iload_n 0, 1) := by decide +kernel
theorem d_Cell_placed_1 : decode prog_2_method_6_code 1 = .ok (.i2l, 1) := by decide +kernel
theorem d_Cell_placed_2 : decode prog_2_method_6_code 2 = .ok (.bipush 7, 2) := by decide +kernel
theorem d_Cell_placed_4 : decode prog_2_method_6_code 4 = .ok (.bipush 7, 2) := by decide +kernel
theorem d_Cell_placed_6 : decode prog_2_method_6_code 6 = .ok (.iload_n 1, 1) := by decide +kernel
theorem d_Cell_placed_7 : decode prog_2_method_6_code 7 = .ok (.bipush 7, 2) := by decide +kernel
theorem d_Cell_placed_9 : decode prog_2_method_6_code 9 = .ok (.iand, 1) := by decide +kernel
theorem d_Cell_placed_10 : decode prog_2_method_6_code 10 = .ok (.isub, 1) := by decide +kernel
theorem d_Cell_placed_11 : decode prog_2_method_6_code 11 = .ok (.imul, 1) := by decide +kernel
theorem d_Cell_placed_12 : decode prog_2_method_6_code 12 = .ok (.lshl, 1) := by decide +kernel
theorem d_Cell_placed_13 : decode prog_2_method_6_code 13 = .ok (.lreturn, 1) := by decide +kernel
abbrev m_ACo_init : am_M := (⟨"java/util/AbstractCollection", "<init>", "()V"⟩, prog_26_method_1_code, 1, none)
theorem d_ACo_init_0 : decode prog_26_method_1_code 0 = .ok (.aload_n 0, 1) := by decide +kernel
theorem d_ACo_init_1 : decode prog_26_method_1_code 1 = .ok (.invokespecial 1, 3) := by decide +kernel
theorem w_329 : (Cond.methodLink "java/util/AbstractCollection" 1 ⟨"java/lang/Object", "<init>", "()V"⟩ : Cond) ∈ am_tbl := am_w 329 (by decide +kernel) (by decide +kernel)
theorem d_ACo_init_4 : decode prog_26_method_1_code 4 = .ok (.return_, 1) := by decide +kernel
abbrev m_ALs_init : am_M := (⟨"java/util/AbstractList", "<init>", "()V"⟩, prog_27_method_1_code, 1, none)
theorem d_ALs_init_0 : decode prog_27_method_1_code 0 = .ok (.aload_n 0, 1) := by decide +kernel
theorem d_ALs_init_1 : decode prog_27_method_1_code 1 = .ok (.invokespecial 1, 3) := by decide +kernel
theorem w_326 : (Cond.methodLink "java/util/AbstractList" 1 ⟨"java/util/AbstractCollection", "<init>", "()V"⟩ : Cond) ∈ am_tbl := am_w 326 (by decide +kernel) (by decide +kernel)
theorem w_153 : (Cond.initialized "java/util/AbstractCollection" : Cond) ∈ am_tbl := am_w 153 (by decide +kernel) (by decide +kernel)
theorem w_328 : (Cond.code ⟨"java/util/AbstractCollection", "<init>", "()V"⟩ prog_26_method_1_code 1 none : Cond) ∈ am_tbl := am_w 328 (by decide +kernel) (by decide +kernel)
theorem l_ALs_1 : am_L "java/util/AbstractList" 1 0 m_ACo_init := ⟨Or.inl w_326, w_153, w_328, ⟨by decide, by decide⟩, by decide +kernel, by decide⟩
theorem w_327 : (Cond.instanceMethod ⟨"java/util/AbstractCollection", "<init>", "()V"⟩ : Cond) ∈ am_tbl := am_w 327 (by decide +kernel) (by decide +kernel)
theorem d_ALs_init_4 : decode prog_27_method_1_code 4 = .ok (.aload_n 0, 1) := by decide +kernel
theorem d_ALs_init_5 : decode prog_27_method_1_code 5 = .ok (.iconst 0, 1) := by decide +kernel
theorem d_ALs_init_6 : decode prog_27_method_1_code 6 = .ok (.putfield 7, 3) := by decide +kernel
theorem cl_3 : am_Cl ("java/util/ArrayList", TC3, 3) := ⟨am_in_r [337, 339, 341] (by decide +kernel) (by decide +kernel), by decide +kernel, by decide +kernel⟩
theorem w_334 : (Cond.fieldLink "java/util/AbstractList" 7 "java/util/AbstractList" "modCount" "I" : Cond) ∈ am_tbl := am_w 334 (by decide +kernel) (by decide +kernel)
theorem f_ALs_7 : am_F "java/util/AbstractList" 7 3 2 := ⟨_, rfl, cl_3, by decide, Or.inl w_334⟩
theorem d_ALs_init_9 : decode prog_27_method_1_code 9 = .ok (.return_, 1) := by decide +kernel
abbrev m_AL_init : am_M := (⟨"java/util/ArrayList", "<init>", "()V"⟩, prog_28_method_2_code, 1, none)
theorem d_AL_init_0 : decode prog_28_method_2_code 0 = .ok (.aload_n 0, 1) := by decide +kernel
theorem d_AL_init_1 : decode prog_28_method_2_code 1 = .ok (.invokespecial 1, 3) := by decide +kernel
theorem w_323 : (Cond.methodLink "java/util/ArrayList" 1 ⟨"java/util/AbstractList", "<init>", "()V"⟩ : Cond) ∈ am_tbl := am_w 323 (by decide +kernel) (by decide +kernel)
theorem w_154 : (Cond.initialized "java/util/AbstractList" : Cond) ∈ am_tbl := am_w 154 (by decide +kernel) (by decide +kernel)
theorem w_325 : (Cond.code ⟨"java/util/AbstractList", "<init>", "()V"⟩ prog_27_method_1_code 1 none : Cond) ∈ am_tbl := am_w 325 (by decide +kernel) (by decide +kernel)
theorem l_AL_1 : am_L "java/util/ArrayList" 1 0 m_ALs_init := ⟨Or.inl w_323, w_154, w_325, ⟨by decide, by decide⟩, by decide +kernel, by decide⟩
theorem w_324 : (Cond.instanceMethod ⟨"java/util/AbstractList", "<init>", "()V"⟩ : Cond) ∈ am_tbl := am_w 324 (by decide +kernel) (by decide +kernel)
theorem d_AL_init_4 : decode prog_28_method_2_code 4 = .ok (.aload_n 0, 1) := by decide +kernel
theorem w_330 : (Cond.fieldLink "java/util/ArrayList" 39 "java/util/ArrayList" "DEFAULTCAPACITY_EMPTY_ELEMENTDATA" "[Ljava/lang/Object;" : Cond) ∈ am_tbl := am_w 330 (by decide +kernel) (by decide +kernel)
theorem d_AL_init_5 : decode prog_28_method_2_code 5 = .ok (.getstatic 39, 3) := by decide +kernel
theorem d_AL_init_8 : decode prog_28_method_2_code 8 = .ok (.putfield 9, 3) := by decide +kernel
theorem w_332 : (Cond.fieldLink "java/util/ArrayList" 9 "java/util/ArrayList" "elementData" "[Ljava/lang/Object;" : Cond) ∈ am_tbl := am_w 332 (by decide +kernel) (by decide +kernel)
theorem f_AL_9 : am_F "java/util/ArrayList" 9 3 0 := ⟨_, rfl, cl_3, by decide, Or.inl w_332⟩
theorem d_AL_init_11 : decode prog_28_method_2_code 11 = .ok (.return_, 1) := by decide +kernel
abbrev m_Unit_init : am_M := (⟨"StowTongue$Unit", "<init>", "(JIII[I[J)V"⟩, prog_11_method_1_code, 8, none)
theorem d_Unit_init_0 : decode prog_11_method_1_code 0 = .ok (.aload_n 0, 1) := by decide +kernel
theorem d_Unit_init_1 : decode prog_11_method_1_code 1 = .ok (.invokespecial 1, 3) := by decide +kernel
theorem w_349 : (Cond.methodLink "StowTongue$Unit" 1 ⟨"java/lang/Object", "<init>", "()V"⟩ : Cond) ∈ am_tbl := am_w 349 (by decide +kernel) (by decide +kernel)
theorem d_Unit_init_4 : decode prog_11_method_1_code 4 = .ok (.aload_n 0, 1) := by decide +kernel
theorem d_Unit_init_5 : decode prog_11_method_1_code 5 = .ok (.lload_n 1, 1) := by decide +kernel
theorem d_Unit_init_6 : decode prog_11_method_1_code 6 = .ok (.putfield 7, 3) := by decide +kernel
theorem cl_4 : am_Cl ("StowTongue$Unit", TC4, 6) := ⟨am_in_r [356, 358, 360, 362, 364, 366] (by decide +kernel) (by decide +kernel), by decide +kernel, by decide +kernel⟩
theorem w_350 : (Cond.fieldLink "StowTongue$Unit" 7 "StowTongue$Unit" "name" "J" : Cond) ∈ am_tbl := am_w 350 (by decide +kernel) (by decide +kernel)
theorem f_Unit_7 : am_F "StowTongue$Unit" 7 4 0 := ⟨_, rfl, cl_4, by decide, Or.inl w_350⟩
theorem d_Unit_init_9 : decode prog_11_method_1_code 9 = .ok (.aload_n 0, 1) := by decide +kernel
theorem d_Unit_init_10 : decode prog_11_method_1_code 10 = .ok (.iload_n 3, 1) := by decide +kernel
theorem d_Unit_init_11 : decode prog_11_method_1_code 11 = .ok (.putfield 13, 3) := by decide +kernel
theorem w_351 : (Cond.fieldLink "StowTongue$Unit" 13 "StowTongue$Unit" "names" "I" : Cond) ∈ am_tbl := am_w 351 (by decide +kernel) (by decide +kernel)
theorem f_Unit_13 : am_F "StowTongue$Unit" 13 4 1 := ⟨_, rfl, cl_4, by decide, Or.inl w_351⟩
theorem d_Unit_init_14 : decode prog_11_method_1_code 14 = .ok (.aload_n 0, 1) := by decide +kernel
theorem d_Unit_init_15 : decode prog_11_method_1_code 15 = .ok (.iload 4, 2) := by decide +kernel
theorem d_Unit_init_17 : decode prog_11_method_1_code 17 = .ok (.putfield 17, 3) := by decide +kernel
theorem w_352 : (Cond.fieldLink "StowTongue$Unit" 17 "StowTongue$Unit" "locals" "I" : Cond) ∈ am_tbl := am_w 352 (by decide +kernel) (by decide +kernel)
theorem f_Unit_17 : am_F "StowTongue$Unit" 17 4 2 := ⟨_, rfl, cl_4, by decide, Or.inl w_352⟩
theorem d_Unit_init_20 : decode prog_11_method_1_code 20 = .ok (.aload_n 0, 1) := by decide +kernel
theorem d_Unit_init_21 : decode prog_11_method_1_code 21 = .ok (.iload 5, 2) := by decide +kernel
theorem d_Unit_init_23 : decode prog_11_method_1_code 23 = .ok (.putfield 20, 3) := by decide +kernel
theorem w_353 : (Cond.fieldLink "StowTongue$Unit" 20 "StowTongue$Unit" "tokens" "I" : Cond) ∈ am_tbl := am_w 353 (by decide +kernel) (by decide +kernel)
theorem f_Unit_20 : am_F "StowTongue$Unit" 20 4 3 := ⟨_, rfl, cl_4, by decide, Or.inl w_353⟩
theorem d_Unit_init_26 : decode prog_11_method_1_code 26 = .ok (.aload_n 0, 1) := by decide +kernel
theorem d_Unit_init_27 : decode prog_11_method_1_code 27 = .ok (.aload 6, 2) := by decide +kernel
theorem d_Unit_init_29 : decode prog_11_method_1_code 29 = .ok (.putfield 23, 3) := by decide +kernel
theorem w_354 : (Cond.fieldLink "StowTongue$Unit" 23 "StowTongue$Unit" "code" "[I" : Cond) ∈ am_tbl := am_w 354 (by decide +kernel) (by decide +kernel)
theorem f_Unit_23 : am_F "StowTongue$Unit" 23 4 4 := ⟨_, rfl, cl_4, by decide, Or.inl w_354⟩
theorem d_Unit_init_32 : decode prog_11_method_1_code 32 = .ok (.aload_n 0, 1) := by decide +kernel
theorem d_Unit_init_33 : decode prog_11_method_1_code 33 = .ok (.aload 7, 2) := by decide +kernel
theorem d_Unit_init_35 : decode prog_11_method_1_code 35 = .ok (.putfield 27, 3) := by decide +kernel
theorem w_355 : (Cond.fieldLink "StowTongue$Unit" 27 "StowTongue$Unit" "pool" "[J" : Cond) ∈ am_tbl := am_w 355 (by decide +kernel) (by decide +kernel)
theorem f_Unit_27 : am_F "StowTongue$Unit" 27 4 5 := ⟨_, rfl, cl_4, by decide, Or.inl w_355⟩
theorem d_Unit_init_38 : decode prog_11_method_1_code 38 = .ok (.return_, 1) := by decide +kernel
abbrev m_Lexer_init : am_M := (⟨"StowTongue$Lexer", "<init>", "()V"⟩, prog_4_method_1_code, 5, none)
theorem d_Lexer_init_87 : decode prog_4_method_1_code 87 = .ok (.return_, 1) := by decide +kernel
theorem d_Lexer_init_25 : decode prog_4_method_1_code 25 = .ok (.iload_n 3, 1) := by decide +kernel
theorem d_Lexer_init_26 : decode prog_4_method_1_code 26 = .ok (.ldc 19, 2) := by decide +kernel
theorem w_209 : (Cond.methodLink "StowTongue$Lexer" 21 ⟨"java/lang/String", "length", "()I"⟩ : Cond) ∈ am_tbl := am_w 209 (by decide +kernel) (by decide +kernel)
theorem w_212 : (Cond.code ⟨"java/lang/String", "length", "()I"⟩ prog_22_method_54_code 1 (some FieldType.int) : Cond) ∈ am_tbl := am_w 212 (by decide +kernel) (by decide +kernel)
theorem l_Lexer_21 : am_L "StowTongue$Lexer" 21 0 m_Str_length := ⟨Or.inl w_209, w_147, w_212, ⟨by decide, by decide⟩, by decide +kernel, by decide⟩
theorem w_210 : (Cond.instanceMethod ⟨"java/lang/String", "length", "()I"⟩ : Cond) ∈ am_tbl := am_w 210 (by decide +kernel) (by decide +kernel)
theorem w_211 : (Cond.selects "java/lang/String" ⟨"java/lang/String", "length", "()I"⟩ ⟨"java/lang/String", "length", "()I"⟩ : Cond) ∈ am_tbl := am_w 211 (by decide +kernel) (by decide +kernel)
theorem d_Lexer_init_28 : decode prog_4_method_1_code 28 = .ok (.invokevirtual 21, 3) := by decide +kernel
theorem d_Lexer_init_31 : decode prog_4_method_1_code 31 = .ok (.if_icmp .ge 56, 3) := by decide +kernel
theorem d_Lexer_init_34 : decode prog_4_method_1_code 34 = .ok (.iload_n 1, 1) := by decide +kernel
theorem d_Lexer_init_35 : decode prog_4_method_1_code 35 = .ok (.bipush 12, 2) := by decide +kernel
theorem d_Lexer_init_37 : decode prog_4_method_1_code 37 = .ok (.if_icmp .ge 50, 3) := by decide +kernel
theorem d_Lexer_init_40 : decode prog_4_method_1_code 40 = .ok (.ldc 19, 2) := by decide +kernel
theorem d_Lexer_init_42 : decode prog_4_method_1_code 42 = .ok (.iload_n 3, 1) := by decide +kernel
theorem w_219 : (Cond.methodLink "StowTongue$Lexer" 27 ⟨"java/lang/String", "charAt", "(I)C"⟩ : Cond) ∈ am_tbl := am_w 219 (by decide +kernel) (by decide +kernel)
theorem w_222 : (Cond.code ⟨"java/lang/String", "charAt", "(I)C"⟩ prog_22_method_56_code 2 (some FieldType.char) : Cond) ∈ am_tbl := am_w 222 (by decide +kernel) (by decide +kernel)
theorem l_Lexer_27 : am_L "StowTongue$Lexer" 27 1 m_Str_charAt := ⟨Or.inl w_219, w_147, w_222, ⟨by decide, by decide⟩, by decide +kernel, by decide⟩
theorem w_220 : (Cond.instanceMethod ⟨"java/lang/String", "charAt", "(I)C"⟩ : Cond) ∈ am_tbl := am_w 220 (by decide +kernel) (by decide +kernel)
theorem w_221 : (Cond.selects "java/lang/String" ⟨"java/lang/String", "charAt", "(I)C"⟩ ⟨"java/lang/String", "charAt", "(I)C"⟩ : Cond) ∈ am_tbl := am_w 221 (by decide +kernel) (by decide +kernel)
theorem d_Lexer_init_43 : decode prog_4_method_1_code 43 = .ok (.invokevirtual 27, 3) := by decide +kernel
theorem d_Lexer_init_46 : decode prog_4_method_1_code 46 = .ok (.istore 4, 2) := by decide +kernel
theorem d_Lexer_init_48 : decode prog_4_method_1_code 48 = .ok (.iload 4, 2) := by decide +kernel
theorem d_Lexer_init_50 : decode prog_4_method_1_code 50 = .ok (.bipush 32, 2) := by decide +kernel
theorem d_Lexer_init_52 : decode prog_4_method_1_code 52 = .ok (.if_icmp .ne 11, 3) := by decide +kernel
theorem d_Lexer_init_63 : decode prog_4_method_1_code 63 = .ok (.aload_n 0, 1) := by decide +kernel
theorem d_Lexer_init_64 : decode prog_4_method_1_code 64 = .ok (.getfield 11, 3) := by decide +kernel
theorem cl_1 : am_Cl ("StowTongue$Lexer", TC1, 10) := ⟨am_in_r [270, 272, 274, 276, 278, 280, 282, 284, 286, 288] (by decide +kernel) (by decide +kernel), by decide +kernel, by decide +kernel⟩
theorem w_260 : (Cond.fieldLink "StowTongue$Lexer" 11 "StowTongue$Lexer" "words" "[J" : Cond) ∈ am_tbl := am_w 260 (by decide +kernel) (by decide +kernel)
theorem f_Lexer_11 : am_F "StowTongue$Lexer" 11 1 0 := ⟨_, rfl, cl_1, by decide, Or.inl w_260⟩
theorem d_Lexer_init_67 : decode prog_4_method_1_code 67 = .ok (.iload_n 1, 1) := by decide +kernel
theorem d_Lexer_init_68 : decode prog_4_method_1_code 68 = .ok (.dup2, 1) := by decide +kernel
theorem d_Lexer_init_69 : decode prog_4_method_1_code 69 = .ok (.laload, 1) := by decide +kernel
theorem d_Lexer_init_70 : decode prog_4_method_1_code 70 = .ok (.iload 4, 2) := by decide +kernel
theorem d_Lexer_init_72 : decode prog_4_method_1_code 72 = .ok (.iload_n 2, 1) := by decide +kernel
theorem d_Lexer_init_73 : decode prog_4_method_1_code 73 = .ok (.invokestatic 31, 3) := by decide +kernel
theorem w_257 : (Cond.methodLink "StowTongue$Lexer" 31 ⟨"StowTongue$Cell", "placed", "(II)J"⟩ : Cond) ∈ am_tbl := am_w 257 (by decide +kernel) (by decide +kernel)
theorem w_151 : (Cond.initialized "StowTongue$Cell" : Cond) ∈ am_tbl := am_w 151 (by decide +kernel) (by decide +kernel)
theorem w_259 : (Cond.code ⟨"StowTongue$Cell", "placed", "(II)J"⟩ prog_2_method_6_code 2 (some FieldType.long) : Cond) ∈ am_tbl := am_w 259 (by decide +kernel) (by decide +kernel)
theorem l_Lexer_31 : am_L "StowTongue$Lexer" 31 2 m_Cell_placed := ⟨Or.inl w_257, w_151, w_259, ⟨by decide, by decide⟩, by decide +kernel, by decide⟩
theorem w_258 : (Cond.static ⟨"StowTongue$Cell", "placed", "(II)J"⟩ : Cond) ∈ am_tbl := am_w 258 (by decide +kernel) (by decide +kernel)
theorem d_Lexer_init_76 : decode prog_4_method_1_code 76 = .ok (.lor, 1) := by decide +kernel
theorem d_Lexer_init_77 : decode prog_4_method_1_code 77 = .ok (.lastore, 1) := by decide +kernel
theorem d_Lexer_init_78 : decode prog_4_method_1_code 78 = .ok (.iinc 2 1, 3) := by decide +kernel
theorem d_Lexer_init_81 : decode prog_4_method_1_code 81 = .ok (.iinc 3 1, 3) := by decide +kernel
theorem d_Lexer_init_84 : decode prog_4_method_1_code 84 = .ok (.goto (-59), 3) := by decide +kernel
theorem d_Lexer_init_55 : decode prog_4_method_1_code 55 = .ok (.iinc 1 1, 3) := by decide +kernel
theorem d_Lexer_init_58 : decode prog_4_method_1_code 58 = .ok (.iconst 0, 1) := by decide +kernel
theorem d_Lexer_init_59 : decode prog_4_method_1_code 59 = .ok (.istore_n 2, 1) := by decide +kernel
theorem d_Lexer_init_60 : decode prog_4_method_1_code 60 = .ok (.goto 21, 3) := by decide +kernel
theorem d_Lexer_init_0 : decode prog_4_method_1_code 0 = .ok (.aload_n 0, 1) := by decide +kernel
theorem d_Lexer_init_1 : decode prog_4_method_1_code 1 = .ok (.invokespecial 3, 3) := by decide +kernel
theorem w_207 : (Cond.methodLink "StowTongue$Lexer" 3 ⟨"java/lang/Object", "<init>", "()V"⟩ : Cond) ∈ am_tbl := am_w 207 (by decide +kernel) (by decide +kernel)
theorem d_Lexer_init_4 : decode prog_4_method_1_code 4 = .ok (.aload_n 0, 1) := by decide +kernel
theorem d_Lexer_init_5 : decode prog_4_method_1_code 5 = .ok (.bipush 12, 2) := by decide +kernel
theorem d_Lexer_init_7 : decode prog_4_method_1_code 7 = .ok (.newarray .long, 2) := by decide +kernel
theorem d_Lexer_init_9 : decode prog_4_method_1_code 9 = .ok (.putfield 11, 3) := by decide +kernel
theorem d_Lexer_init_12 : decode prog_4_method_1_code 12 = .ok (.aload_n 0, 1) := by decide +kernel
theorem d_Lexer_init_13 : decode prog_4_method_1_code 13 = .ok (.iconst 0, 1) := by decide +kernel
theorem d_Lexer_init_14 : decode prog_4_method_1_code 14 = .ok (.newarray .byte, 2) := by decide +kernel
theorem d_Lexer_init_16 : decode prog_4_method_1_code 16 = .ok (.putfield 15, 3) := by decide +kernel
theorem w_261 : (Cond.fieldLink "StowTongue$Lexer" 15 "StowTongue$Lexer" "text" "[B" : Cond) ∈ am_tbl := am_w 261 (by decide +kernel) (by decide +kernel)
theorem f_Lexer_15 : am_F "StowTongue$Lexer" 15 1 1 := ⟨_, rfl, cl_1, by decide, Or.inl w_261⟩
theorem d_Lexer_init_19 : decode prog_4_method_1_code 19 = .ok (.iconst 0, 1) := by decide +kernel
theorem d_Lexer_init_20 : decode prog_4_method_1_code 20 = .ok (.istore_n 1, 1) := by decide +kernel
theorem d_Lexer_init_21 : decode prog_4_method_1_code 21 = .ok (.iconst 0, 1) := by decide +kernel
theorem d_Lexer_init_22 : decode prog_4_method_1_code 22 = .ok (.istore_n 2, 1) := by decide +kernel
theorem d_Lexer_init_23 : decode prog_4_method_1_code 23 = .ok (.iconst 0, 1) := by decide +kernel
theorem d_Lexer_init_24 : decode prog_4_method_1_code 24 = .ok (.istore_n 3, 1) := by decide +kernel
abbrev m_Pars_init : am_M := (⟨"StowTongue$Parser", "<init>", "()V"⟩, prog_8_method_1_code, 1, none)
theorem d_Pars_init_0 : decode prog_8_method_1_code 0 = .ok (.aload_n 0, 1) := by decide +kernel
theorem d_Pars_init_1 : decode prog_8_method_1_code 1 = .ok (.invokespecial 3, 3) := by decide +kernel
theorem w_201 : (Cond.methodLink "StowTongue$Parser" 3 ⟨"java/lang/Object", "<init>", "()V"⟩ : Cond) ∈ am_tbl := am_w 201 (by decide +kernel) (by decide +kernel)
theorem d_Pars_init_4 : decode prog_8_method_1_code 4 = .ok (.aload_n 0, 1) := by decide +kernel
theorem d_Pars_init_5 : decode prog_8_method_1_code 5 = .ok (.new 9, 3) := by decide +kernel
theorem w_202 : (Cond.classLink "StowTongue$Parser" 9 "StowTongue$Lexer" : Cond) ∈ am_tbl := am_w 202 (by decide +kernel) (by decide +kernel)
theorem w_203 : (Cond.instantiable "StowTongue$Lexer" 10 : Cond) ∈ am_tbl := am_w 203 (by decide +kernel) (by decide +kernel)
theorem w_146 : (Cond.initialized "StowTongue$Lexer" : Cond) ∈ am_tbl := am_w 146 (by decide +kernel) (by decide +kernel)
theorem n_Pars_9 : am_N "StowTongue$Parser" 9 1 10 [.null, .null, .int 0, .int 0, .int 0, .int 0, .int 0, .int 0, .long 0, .long 0] := ⟨_, rfl, cl_1, rfl, by decide +kernel, w_202, w_203, w_146⟩
theorem d_Pars_init_8 : decode prog_8_method_1_code 8 = .ok (.dup, 1) := by decide +kernel
theorem d_Pars_init_9 : decode prog_8_method_1_code 9 = .ok (.invokespecial 11, 3) := by decide +kernel
theorem w_204 : (Cond.methodLink "StowTongue$Parser" 11 ⟨"StowTongue$Lexer", "<init>", "()V"⟩ : Cond) ∈ am_tbl := am_w 204 (by decide +kernel) (by decide +kernel)
theorem w_206 : (Cond.code ⟨"StowTongue$Lexer", "<init>", "()V"⟩ prog_4_method_1_code 5 none : Cond) ∈ am_tbl := am_w 206 (by decide +kernel) (by decide +kernel)
theorem l_Pars_11 : am_L "StowTongue$Parser" 11 0 m_Lexer_init := ⟨Or.inl w_204, w_146, w_206, ⟨by decide, by decide⟩, by decide +kernel, by decide⟩
theorem w_205 : (Cond.instanceMethod ⟨"StowTongue$Lexer", "<init>", "()V"⟩ : Cond) ∈ am_tbl := am_w 205 (by decide +kernel) (by decide +kernel)
theorem cl_5 : am_Cl ("StowTongue$Parser", TC5, 8) := ⟨am_in_r [377, 379, 381, 383, 385, 387, 389, 391] (by decide +kernel) (by decide +kernel), by decide +kernel, by decide +kernel⟩
theorem w_369 : (Cond.fieldLink "StowTongue$Parser" 12 "StowTongue$Parser" "lexer" "LStowTongue$Lexer;" : Cond) ∈ am_tbl := am_w 369 (by decide +kernel) (by decide +kernel)
theorem f_Pars_12 : am_F "StowTongue$Parser" 12 5 0 := ⟨_, rfl, cl_5, by decide, Or.inl w_369⟩
theorem d_Pars_init_12 : decode prog_8_method_1_code 12 = .ok (.putfield 12, 3) := by decide +kernel
theorem d_Pars_init_15 : decode prog_8_method_1_code 15 = .ok (.aload_n 0, 1) := by decide +kernel
theorem d_Pars_init_16 : decode prog_8_method_1_code 16 = .ok (.new 18, 3) := by decide +kernel
theorem w_292 : (Cond.classLink "StowTongue$Parser" 18 "StowTongue$Draft" : Cond) ∈ am_tbl := am_w 292 (by decide +kernel) (by decide +kernel)
theorem w_293 : (Cond.instantiable "StowTongue$Draft" 6 : Cond) ∈ am_tbl := am_w 293 (by decide +kernel) (by decide +kernel)
theorem w_152 : (Cond.initialized "StowTongue$Draft" : Cond) ∈ am_tbl := am_w 152 (by decide +kernel) (by decide +kernel)
theorem n_Pars_18 : am_N "StowTongue$Parser" 18 2 6 [.null, .int 0, .null, .int 0, .null, .int 0] := ⟨_, rfl, cl_2, rfl, by decide +kernel, w_292, w_293, w_152⟩
theorem d_Pars_init_19 : decode prog_8_method_1_code 19 = .ok (.dup, 1) := by decide +kernel
theorem d_Pars_init_20 : decode prog_8_method_1_code 20 = .ok (.invokespecial 20, 3) := by decide +kernel
theorem w_296 : (Cond.code ⟨"StowTongue$Draft", "<init>", "()V"⟩ prog_3_method_1_code 1 none : Cond) ∈ am_tbl := am_w 296 (by decide +kernel) (by decide +kernel)
theorem l_Pars_20 : am_L "StowTongue$Parser" 20 0 m_Draft_init := ⟨Or.inr ⟨"StowTongue", List.mem_of_getElem? (i := 294) (by decide +kernel)⟩, w_152, w_296, ⟨by decide, by decide⟩, by decide +kernel, by decide⟩
theorem w_295 : (Cond.instanceMethod ⟨"StowTongue$Draft", "<init>", "()V"⟩ : Cond) ∈ am_tbl := am_w 295 (by decide +kernel) (by decide +kernel)
theorem w_370 : (Cond.fieldLink "StowTongue$Parser" 21 "StowTongue$Parser" "main" "LStowTongue$Draft;" : Cond) ∈ am_tbl := am_w 370 (by decide +kernel) (by decide +kernel)
theorem f_Pars_21 : am_F "StowTongue$Parser" 21 5 1 := ⟨_, rfl, cl_5, by decide, Or.inl w_370⟩
theorem d_Pars_init_23 : decode prog_8_method_1_code 23 = .ok (.putfield 21, 3) := by decide +kernel
theorem d_Pars_init_26 : decode prog_8_method_1_code 26 = .ok (.aload_n 0, 1) := by decide +kernel
theorem d_Pars_init_27 : decode prog_8_method_1_code 27 = .ok (.new 18, 3) := by decide +kernel
theorem d_Pars_init_30 : decode prog_8_method_1_code 30 = .ok (.dup, 1) := by decide +kernel
theorem d_Pars_init_31 : decode prog_8_method_1_code 31 = .ok (.invokespecial 20, 3) := by decide +kernel
theorem w_371 : (Cond.fieldLink "StowTongue$Parser" 25 "StowTongue$Parser" "body" "LStowTongue$Draft;" : Cond) ∈ am_tbl := am_w 371 (by decide +kernel) (by decide +kernel)
theorem f_Pars_25 : am_F "StowTongue$Parser" 25 5 2 := ⟨_, rfl, cl_5, by decide, Or.inl w_371⟩
theorem d_Pars_init_34 : decode prog_8_method_1_code 34 = .ok (.putfield 25, 3) := by decide +kernel
theorem d_Pars_init_37 : decode prog_8_method_1_code 37 = .ok (.aload_n 0, 1) := by decide +kernel
theorem d_Pars_init_38 : decode prog_8_method_1_code 38 = .ok (.aload_n 0, 1) := by decide +kernel
theorem d_Pars_init_39 : decode prog_8_method_1_code 39 = .ok (.getfield 21, 3) := by decide +kernel
theorem w_372 : (Cond.fieldLink "StowTongue$Parser" 28 "StowTongue$Parser" "draft" "LStowTongue$Draft;" : Cond) ∈ am_tbl := am_w 372 (by decide +kernel) (by decide +kernel)
theorem f_Pars_28 : am_F "StowTongue$Parser" 28 5 3 := ⟨_, rfl, cl_5, by decide, Or.inl w_372⟩
theorem d_Pars_init_42 : decode prog_8_method_1_code 42 = .ok (.putfield 28, 3) := by decide +kernel
theorem d_Pars_init_45 : decode prog_8_method_1_code 45 = .ok (.aload_n 0, 1) := by decide +kernel
theorem d_Pars_init_46 : decode prog_8_method_1_code 46 = .ok (.new 31, 3) := by decide +kernel
theorem w_318 : (Cond.classLink "StowTongue$Parser" 31 "java/util/ArrayList" : Cond) ∈ am_tbl := am_w 318 (by decide +kernel) (by decide +kernel)
theorem w_319 : (Cond.instantiable "java/util/ArrayList" 3 : Cond) ∈ am_tbl := am_w 319 (by decide +kernel) (by decide +kernel)
theorem w_155 : (Cond.initialized "java/util/ArrayList" : Cond) ∈ am_tbl := am_w 155 (by decide +kernel) (by decide +kernel)
theorem n_Pars_31 : am_N "StowTongue$Parser" 31 3 3 [.null, .int 0, .int 0] := ⟨_, rfl, cl_3, rfl, by decide +kernel, w_318, w_319, w_155⟩
theorem d_Pars_init_49 : decode prog_8_method_1_code 49 = .ok (.dup, 1) := by decide +kernel
theorem d_Pars_init_50 : decode prog_8_method_1_code 50 = .ok (.invokespecial 33, 3) := by decide +kernel
theorem w_320 : (Cond.methodLink "StowTongue$Parser" 33 ⟨"java/util/ArrayList", "<init>", "()V"⟩ : Cond) ∈ am_tbl := am_w 320 (by decide +kernel) (by decide +kernel)
theorem w_322 : (Cond.code ⟨"java/util/ArrayList", "<init>", "()V"⟩ prog_28_method_2_code 1 none : Cond) ∈ am_tbl := am_w 322 (by decide +kernel) (by decide +kernel)
theorem l_Pars_33 : am_L "StowTongue$Parser" 33 0 m_AL_init := ⟨Or.inl w_320, w_155, w_322, ⟨by decide, by decide⟩, by decide +kernel, by decide⟩
theorem w_321 : (Cond.instanceMethod ⟨"java/util/ArrayList", "<init>", "()V"⟩ : Cond) ∈ am_tbl := am_w 321 (by decide +kernel) (by decide +kernel)
theorem w_373 : (Cond.fieldLink "StowTongue$Parser" 34 "StowTongue$Parser" "told" "Ljava/util/ArrayList;" : Cond) ∈ am_tbl := am_w 373 (by decide +kernel) (by decide +kernel)
theorem f_Pars_34 : am_F "StowTongue$Parser" 34 5 4 := ⟨_, rfl, cl_5, by decide, Or.inl w_373⟩
theorem d_Pars_init_53 : decode prog_8_method_1_code 53 = .ok (.putfield 34, 3) := by decide +kernel
theorem d_Pars_init_56 : decode prog_8_method_1_code 56 = .ok (.aload_n 0, 1) := by decide +kernel
theorem d_Pars_init_57 : decode prog_8_method_1_code 57 = .ok (.new 38, 3) := by decide +kernel
theorem w_344 : (Cond.classLink "StowTongue$Parser" 38 "StowTongue$Unit" : Cond) ∈ am_tbl := am_w 344 (by decide +kernel) (by decide +kernel)
theorem w_345 : (Cond.instantiable "StowTongue$Unit" 6 : Cond) ∈ am_tbl := am_w 345 (by decide +kernel) (by decide +kernel)
theorem w_156 : (Cond.initialized "StowTongue$Unit" : Cond) ∈ am_tbl := am_w 156 (by decide +kernel) (by decide +kernel)
theorem n_Pars_38 : am_N "StowTongue$Parser" 38 4 6 [.long 0, .int 0, .int 0, .int 0, .null, .null] := ⟨_, rfl, cl_4, rfl, by decide +kernel, w_344, w_345, w_156⟩
theorem d_Pars_init_60 : decode prog_8_method_1_code 60 = .ok (.dup, 1) := by decide +kernel
theorem d_Pars_init_61 : decode prog_8_method_1_code 61 = .ok (.lconst 0, 1) := by decide +kernel
theorem d_Pars_init_62 : decode prog_8_method_1_code 62 = .ok (.iconst 0, 1) := by decide +kernel
theorem d_Pars_init_63 : decode prog_8_method_1_code 63 = .ok (.iconst 0, 1) := by decide +kernel
theorem d_Pars_init_64 : decode prog_8_method_1_code 64 = .ok (.iconst 0, 1) := by decide +kernel
theorem d_Pars_init_65 : decode prog_8_method_1_code 65 = .ok (.iconst 0, 1) := by decide +kernel
theorem d_Pars_init_66 : decode prog_8_method_1_code 66 = .ok (.newarray .int, 2) := by decide +kernel
theorem d_Pars_init_68 : decode prog_8_method_1_code 68 = .ok (.iconst 0, 1) := by decide +kernel
theorem d_Pars_init_69 : decode prog_8_method_1_code 69 = .ok (.newarray .long, 2) := by decide +kernel
theorem d_Pars_init_71 : decode prog_8_method_1_code 71 = .ok (.invokespecial 40, 3) := by decide +kernel
theorem w_346 : (Cond.methodLink "StowTongue$Parser" 40 ⟨"StowTongue$Unit", "<init>", "(JIII[I[J)V"⟩ : Cond) ∈ am_tbl := am_w 346 (by decide +kernel) (by decide +kernel)
theorem w_348 : (Cond.code ⟨"StowTongue$Unit", "<init>", "(JIII[I[J)V"⟩ prog_11_method_1_code 8 none : Cond) ∈ am_tbl := am_w 348 (by decide +kernel) (by decide +kernel)
theorem l_Pars_40 : am_L "StowTongue$Parser" 40 6 m_Unit_init := ⟨Or.inl w_346, w_156, w_348, ⟨by decide, by decide⟩, by decide +kernel, by decide⟩
theorem w_347 : (Cond.instanceMethod ⟨"StowTongue$Unit", "<init>", "(JIII[I[J)V"⟩ : Cond) ∈ am_tbl := am_w 347 (by decide +kernel) (by decide +kernel)
theorem w_374 : (Cond.fieldLink "StowTongue$Parser" 43 "StowTongue$Parser" "program" "LStowTongue$Unit;" : Cond) ∈ am_tbl := am_w 374 (by decide +kernel) (by decide +kernel)
theorem f_Pars_43 : am_F "StowTongue$Parser" 43 5 5 := ⟨_, rfl, cl_5, by decide, Or.inl w_374⟩
theorem d_Pars_init_74 : decode prog_8_method_1_code 74 = .ok (.putfield 43, 3) := by decide +kernel
theorem d_Pars_init_77 : decode prog_8_method_1_code 77 = .ok (.return_, 1) := by decide +kernel
abbrev m_Stow_init : am_M := (⟨"StowTongue", "<init>", "()V"⟩, prog_1_method_1_code, 1, none)
theorem d_Stow_init_0 : decode prog_1_method_1_code 0 = .ok (.aload_n 0, 1) := by decide +kernel
theorem d_Stow_init_1 : decode prog_1_method_1_code 1 = .ok (.invokespecial 1, 3) := by decide +kernel
theorem w_176 : (Cond.methodLink "StowTongue" 1 ⟨"java/lang/Object", "<init>", "()V"⟩ : Cond) ∈ am_tbl := am_w 176 (by decide +kernel) (by decide +kernel)
theorem d_Stow_init_4 : decode prog_1_method_1_code 4 = .ok (.aload_n 0, 1) := by decide +kernel
theorem d_Stow_init_5 : decode prog_1_method_1_code 5 = .ok (.sipush 1500, 3) := by decide +kernel
theorem d_Stow_init_8 : decode prog_1_method_1_code 8 = .ok (.newarray .byte, 2) := by decide +kernel
theorem cl_9 : am_Cl ("StowTongue", TC9, 10) := ⟨am_in_r [505, 507, 509, 511, 513, 515, 517, 519, 521, 523] (by decide +kernel) (by decide +kernel), by decide +kernel, by decide +kernel⟩
theorem w_495 : (Cond.fieldLink "StowTongue" 9 "StowTongue" "tape" "[B" : Cond) ∈ am_tbl := am_w 495 (by decide +kernel) (by decide +kernel)
theorem f_Stow_9 : am_F "StowTongue" 9 9 0 := ⟨_, rfl, cl_9, by decide, Or.inl w_495⟩
theorem d_Stow_init_10 : decode prog_1_method_1_code 10 = .ok (.putfield 9, 3) := by decide +kernel
theorem d_Stow_init_13 : decode prog_1_method_1_code 13 = .ok (.aload_n 0, 1) := by decide +kernel
theorem d_Stow_init_14 : decode prog_1_method_1_code 14 = .ok (.new 13, 3) := by decide +kernel
theorem w_179 : (Cond.classLink "StowTongue" 13 "StowTongue$Out" : Cond) ∈ am_tbl := am_w 179 (by decide +kernel) (by decide +kernel)
theorem w_180 : (Cond.instantiable "StowTongue$Out" 3 : Cond) ∈ am_tbl := am_w 180 (by decide +kernel) (by decide +kernel)
theorem w_144 : (Cond.initialized "StowTongue$Out" : Cond) ∈ am_tbl := am_w 144 (by decide +kernel) (by decide +kernel)
theorem n_Stow_13 : am_N "StowTongue" 13 0 3 [.null, .int 0, .int 0] := ⟨_, rfl, cl_0, rfl, by decide +kernel, w_179, w_180, w_144⟩
theorem d_Stow_init_17 : decode prog_1_method_1_code 17 = .ok (.dup, 1) := by decide +kernel
theorem d_Stow_init_18 : decode prog_1_method_1_code 18 = .ok (.invokespecial 15, 3) := by decide +kernel
theorem w_183 : (Cond.code ⟨"StowTongue$Out", "<init>", "()V"⟩ prog_7_method_1_code 1 none : Cond) ∈ am_tbl := am_w 183 (by decide +kernel) (by decide +kernel)
theorem l_Stow_15 : am_L "StowTongue" 15 0 m_Out_init := ⟨Or.inr ⟨"StowTongue", List.mem_of_getElem? (i := 181) (by decide +kernel)⟩, w_144, w_183, ⟨by decide, by decide⟩, by decide +kernel, by decide⟩
theorem w_182 : (Cond.instanceMethod ⟨"StowTongue$Out", "<init>", "()V"⟩ : Cond) ∈ am_tbl := am_w 182 (by decide +kernel) (by decide +kernel)
theorem w_497 : (Cond.fieldLink "StowTongue" 16 "StowTongue" "out" "LStowTongue$Out;" : Cond) ∈ am_tbl := am_w 497 (by decide +kernel) (by decide +kernel)
theorem f_Stow_16 : am_F "StowTongue" 16 9 2 := ⟨_, rfl, cl_9, by decide, Or.inl w_497⟩
theorem d_Stow_init_21 : decode prog_1_method_1_code 21 = .ok (.putfield 16, 3) := by decide +kernel
theorem d_Stow_init_24 : decode prog_1_method_1_code 24 = .ok (.aload_n 0, 1) := by decide +kernel
theorem d_Stow_init_25 : decode prog_1_method_1_code 25 = .ok (.new 20, 3) := by decide +kernel
theorem w_196 : (Cond.classLink "StowTongue" 20 "StowTongue$Parser" : Cond) ∈ am_tbl := am_w 196 (by decide +kernel) (by decide +kernel)
theorem w_197 : (Cond.instantiable "StowTongue$Parser" 8 : Cond) ∈ am_tbl := am_w 197 (by decide +kernel) (by decide +kernel)
theorem w_145 : (Cond.initialized "StowTongue$Parser" : Cond) ∈ am_tbl := am_w 145 (by decide +kernel) (by decide +kernel)
theorem n_Stow_20 : am_N "StowTongue" 20 5 8 [.null, .null, .null, .null, .null, .null, .int 0, .int 0] := ⟨_, rfl, cl_5, rfl, by decide +kernel, w_196, w_197, w_145⟩
theorem d_Stow_init_28 : decode prog_1_method_1_code 28 = .ok (.dup, 1) := by decide +kernel
theorem d_Stow_init_29 : decode prog_1_method_1_code 29 = .ok (.invokespecial 22, 3) := by decide +kernel
theorem w_200 : (Cond.code ⟨"StowTongue$Parser", "<init>", "()V"⟩ prog_8_method_1_code 1 none : Cond) ∈ am_tbl := am_w 200 (by decide +kernel) (by decide +kernel)
theorem l_Stow_22 : am_L "StowTongue" 22 0 m_Pars_init := ⟨Or.inr ⟨"StowTongue", List.mem_of_getElem? (i := 198) (by decide +kernel)⟩, w_145, w_200, ⟨by decide, by decide⟩, by decide +kernel, by decide⟩
theorem w_199 : (Cond.instanceMethod ⟨"StowTongue$Parser", "<init>", "()V"⟩ : Cond) ∈ am_tbl := am_w 199 (by decide +kernel) (by decide +kernel)
theorem w_498 : (Cond.fieldLink "StowTongue" 23 "StowTongue" "parser" "LStowTongue$Parser;" : Cond) ∈ am_tbl := am_w 498 (by decide +kernel) (by decide +kernel)
theorem f_Stow_23 : am_F "StowTongue" 23 9 3 := ⟨_, rfl, cl_9, by decide, Or.inl w_498⟩
theorem d_Stow_init_32 : decode prog_1_method_1_code 32 = .ok (.putfield 23, 3) := by decide +kernel
theorem d_Stow_init_35 : decode prog_1_method_1_code 35 = .ok (.aload_n 0, 1) := by decide +kernel
theorem d_Stow_init_36 : decode prog_1_method_1_code 36 = .ok (.new 27, 3) := by decide +kernel
theorem w_394 : (Cond.classLink "StowTongue" 27 "StowTongue$Machine" : Cond) ∈ am_tbl := am_w 394 (by decide +kernel) (by decide +kernel)
theorem w_395 : (Cond.instantiable "StowTongue$Machine" 18 : Cond) ∈ am_tbl := am_w 395 (by decide +kernel) (by decide +kernel)
theorem w_157 : (Cond.initialized "StowTongue$Machine" : Cond) ∈ am_tbl := am_w 157 (by decide +kernel) (by decide +kernel)
theorem n_Stow_27 : am_N "StowTongue" 27 6 18 [.null, .null, .int 0, .int 0, .null, .int 0, .null, .null, .null, .int 0, .null, .null, .int 0, .int 0, .int 0, .int 0, .long 0, .long 0] := ⟨_, rfl, cl_6, rfl, by decide +kernel, w_394, w_395, w_157⟩
theorem d_Stow_init_39 : decode prog_1_method_1_code 39 = .ok (.dup, 1) := by decide +kernel
theorem d_Stow_init_40 : decode prog_1_method_1_code 40 = .ok (.invokespecial 29, 3) := by decide +kernel
theorem w_398 : (Cond.code ⟨"StowTongue$Machine", "<init>", "()V"⟩ prog_6_method_1_code 1 none : Cond) ∈ am_tbl := am_w 398 (by decide +kernel) (by decide +kernel)
theorem l_Stow_29 : am_L "StowTongue" 29 0 m_Mach_init := ⟨Or.inr ⟨"StowTongue", List.mem_of_getElem? (i := 396) (by decide +kernel)⟩, w_157, w_398, ⟨by decide, by decide⟩, by decide +kernel, by decide⟩
theorem w_397 : (Cond.instanceMethod ⟨"StowTongue$Machine", "<init>", "()V"⟩ : Cond) ∈ am_tbl := am_w 397 (by decide +kernel) (by decide +kernel)
theorem w_499 : (Cond.fieldLink "StowTongue" 30 "StowTongue" "machine" "LStowTongue$Machine;" : Cond) ∈ am_tbl := am_w 499 (by decide +kernel) (by decide +kernel)
theorem f_Stow_30 : am_F "StowTongue" 30 9 4 := ⟨_, rfl, cl_9, by decide, Or.inl w_499⟩
theorem d_Stow_init_43 : decode prog_1_method_1_code 43 = .ok (.putfield 30, 3) := by decide +kernel
theorem d_Stow_init_46 : decode prog_1_method_1_code 46 = .ok (.aload_n 0, 1) := by decide +kernel
theorem d_Stow_init_47 : decode prog_1_method_1_code 47 = .ok (.new 34, 3) := by decide +kernel
theorem w_457 : (Cond.classLink "StowTongue" 34 "StowTongue$Log" : Cond) ∈ am_tbl := am_w 457 (by decide +kernel) (by decide +kernel)
theorem w_458 : (Cond.instantiable "StowTongue$Log" 4 : Cond) ∈ am_tbl := am_w 458 (by decide +kernel) (by decide +kernel)
theorem w_158 : (Cond.initialized "StowTongue$Log" : Cond) ∈ am_tbl := am_w 158 (by decide +kernel) (by decide +kernel)
theorem n_Stow_34 : am_N "StowTongue" 34 7 4 [.null, .null, .int 0, .int 0] := ⟨_, rfl, cl_7, rfl, by decide +kernel, w_457, w_458, w_158⟩
theorem d_Stow_init_50 : decode prog_1_method_1_code 50 = .ok (.dup, 1) := by decide +kernel
theorem d_Stow_init_51 : decode prog_1_method_1_code 51 = .ok (.invokespecial 36, 3) := by decide +kernel
theorem w_461 : (Cond.code ⟨"StowTongue$Log", "<init>", "()V"⟩ prog_5_method_1_code 1 none : Cond) ∈ am_tbl := am_w 461 (by decide +kernel) (by decide +kernel)
theorem l_Stow_36 : am_L "StowTongue" 36 0 m_Log_init := ⟨Or.inr ⟨"StowTongue", List.mem_of_getElem? (i := 459) (by decide +kernel)⟩, w_158, w_461, ⟨by decide, by decide⟩, by decide +kernel, by decide⟩
theorem w_460 : (Cond.instanceMethod ⟨"StowTongue$Log", "<init>", "()V"⟩ : Cond) ∈ am_tbl := am_w 460 (by decide +kernel) (by decide +kernel)
theorem w_500 : (Cond.fieldLink "StowTongue" 37 "StowTongue" "log" "LStowTongue$Log;" : Cond) ∈ am_tbl := am_w 500 (by decide +kernel) (by decide +kernel)
theorem f_Stow_37 : am_F "StowTongue" 37 9 5 := ⟨_, rfl, cl_9, by decide, Or.inl w_500⟩
theorem d_Stow_init_54 : decode prog_1_method_1_code 54 = .ok (.putfield 37, 3) := by decide +kernel
theorem d_Stow_init_57 : decode prog_1_method_1_code 57 = .ok (.aload_n 0, 1) := by decide +kernel
theorem d_Stow_init_58 : decode prog_1_method_1_code 58 = .ok (.new 41, 3) := by decide +kernel
theorem w_478 : (Cond.classLink "StowTongue" 41 "StowTongue$Sweeper" : Cond) ∈ am_tbl := am_w 478 (by decide +kernel) (by decide +kernel)
theorem w_479 : (Cond.instantiable "StowTongue$Sweeper" 3 : Cond) ∈ am_tbl := am_w 479 (by decide +kernel) (by decide +kernel)
theorem w_159 : (Cond.initialized "StowTongue$Sweeper" : Cond) ∈ am_tbl := am_w 159 (by decide +kernel) (by decide +kernel)
theorem n_Stow_41 : am_N "StowTongue" 41 8 3 [.null, .null, .int 0] := ⟨_, rfl, cl_8, rfl, by decide +kernel, w_478, w_479, w_159⟩
theorem d_Stow_init_61 : decode prog_1_method_1_code 61 = .ok (.dup, 1) := by decide +kernel
theorem d_Stow_init_62 : decode prog_1_method_1_code 62 = .ok (.invokespecial 43, 3) := by decide +kernel
theorem w_482 : (Cond.code ⟨"StowTongue$Sweeper", "<init>", "()V"⟩ prog_10_method_1_code 1 none : Cond) ∈ am_tbl := am_w 482 (by decide +kernel) (by decide +kernel)
theorem l_Stow_43 : am_L "StowTongue" 43 0 m_Sweep_init := ⟨Or.inr ⟨"StowTongue", List.mem_of_getElem? (i := 480) (by decide +kernel)⟩, w_159, w_482, ⟨by decide, by decide⟩, by decide +kernel, by decide⟩
theorem w_481 : (Cond.instanceMethod ⟨"StowTongue$Sweeper", "<init>", "()V"⟩ : Cond) ∈ am_tbl := am_w 481 (by decide +kernel) (by decide +kernel)
theorem w_501 : (Cond.fieldLink "StowTongue" 44 "StowTongue" "sweeper" "LStowTongue$Sweeper;" : Cond) ∈ am_tbl := am_w 501 (by decide +kernel) (by decide +kernel)
theorem f_Stow_44 : am_F "StowTongue" 44 9 6 := ⟨_, rfl, cl_9, by decide, Or.inl w_501⟩
theorem d_Stow_init_65 : decode prog_1_method_1_code 65 = .ok (.putfield 44, 3) := by decide +kernel
theorem d_Stow_init_68 : decode prog_1_method_1_code 68 = .ok (.return_, 1) := by decide +kernel
end
section
section
variable {K : am_K} {X : Nat → am_C}
def F_Vals (n : Nat) (f : Nat → am_C) (r N : Nat) : Nat → am_C := va_up (va_up (va_up (va_up (va_up f n (.inl (.int, N, fun _ => .int 0))) (n + 1) (.inl (.int, N, fun _ => .int 0))) (n + 2) (.inl (.long, N, fun _ => .long 0))) (n + 3) (.inl (.long, N, fun _ => .long 0))) r (.inr (11, [.ref n, .ref (n + 1), .ref (n + 2), .ref (n + 3)]))

set_option maxRecDepth 100000 in
set_option maxHeartbeats 4000000 in
/-- Values(n): four rows of n noughts -/
theorem c_Vals_init (O : am_ok K X) {n r N : Nat} {f : Nat → am_C} {x : Int32} (h0 : f r = .inr (11, [.null, .null, .null, .null])) (h1 : 128 ≤ r) (h2 : r < n) (hx : ¬ x < 0) (hN : x.toNatClampNeg = N) (hb : N ≤ 60000) : am_Mt K X m_Vals_init 1 4 (4 * N) [.ref r, .int x] (n, f) (fun v h' => v = none ∧ h' = (n + 4, F_Vals n f r N)) := by
  refine am_enter (by decide +kernel) (Nat.le_of_ble_eq_true rfl) ?_
  refine am_aload_n d_Vals_init_0 rfl rfl ?_
  refine am_obj w_1500 w_177 w_178 d_Vals_init_1 (by omega) (Nat.le_of_ble_eq_true rfl) ?_
  refine am_aload_n d_Vals_init_4 rfl rfl ?_
  refine am_iload_n d_Vals_init_5 rfl rfl ?_
  refine am_newa (at_ := .int) (ty := .int) O rfl (by decide) w_317 d_Vals_init_6 hx hN (by show N * 4 ≤ _; omega) (by omega) (by omega) ?_
  refine am_putF O f_Vals_7 (fun q hq => by cases hq; exact ⟨w_1501, rfl⟩) rfl d_Vals_init_8 (by (repeat (first | rw [va_up_self] | rw [va_up_ne _ _ (by omega)])); first | done | rfl | assumption) (by omega) (by omega) (Nat.le_of_ble_eq_true rfl) (fun q hq => by cases hq; exact ⟨rfl, rfl, rfl⟩) ?_
  refine am_aload_n d_Vals_init_11 rfl rfl ?_
  refine am_iload_n d_Vals_init_12 rfl rfl ?_
  refine am_newa (at_ := .int) (ty := .int) O rfl (by decide) w_317 d_Vals_init_13 hx hN (by show N * 4 ≤ _; omega) (by omega) (by omega) ?_
  refine am_putF O f_Vals_13 (fun q hq => by cases hq; exact ⟨w_1504, rfl⟩) rfl d_Vals_init_15 (by (repeat (first | rw [va_up_self] | rw [va_up_ne _ _ (by omega)])); first | done | rfl | assumption) (by omega) (by omega) (Nat.le_of_ble_eq_true rfl) (fun q hq => by cases hq; exact ⟨rfl, rfl, rfl⟩) ?_
  refine am_aload_n d_Vals_init_18 rfl rfl ?_
  refine am_iload_n d_Vals_init_19 rfl rfl ?_
  refine am_newa (at_ := .long) (ty := .long) O rfl (by decide) w_291 d_Vals_init_20 hx hN (by show N * 8 ≤ _; omega) (by omega) (by omega) ?_
  refine am_putF O f_Vals_16 (fun q hq => by cases hq; exact ⟨w_1507, rfl⟩) rfl d_Vals_init_22 (by (repeat (first | rw [va_up_self] | rw [va_up_ne _ _ (by omega)])); first | done | rfl | assumption) (by omega) (by omega) (Nat.le_of_ble_eq_true rfl) (fun q hq => by cases hq; exact ⟨rfl, rfl, rfl⟩) ?_
  refine am_aload_n d_Vals_init_25 rfl rfl ?_
  refine am_iload_n d_Vals_init_26 rfl rfl ?_
  refine am_newa (at_ := .long) (ty := .long) O rfl (by decide) w_291 d_Vals_init_27 hx hN (by show N * 8 ≤ _; omega) (by omega) (by omega) ?_
  refine am_putF O f_Vals_20 (fun q hq => by cases hq; exact ⟨w_1510, rfl⟩) rfl d_Vals_init_29 (by (repeat (first | rw [va_up_self] | rw [va_up_ne _ _ (by omega)])); first | done | rfl | assumption) (by omega) (by omega) (Nat.le_of_ble_eq_true rfl) (fun q hq => by cases hq; exact ⟨rfl, rfl, rfl⟩) ?_
  refine am_vret rfl d_Vals_init_32 ⟨rfl, ?_⟩
  refine Prod.ext rfl (funext fun x => ?_)
  show va_up _ _ _ x = F_Vals n f r N x
  simp only [F_Vals, va_up]
  repeat' split
  all_goals first | rfl | omega

theorem F_Vals_lt {n : Nat} {f : Nat → am_C} {r N x : Nat} (hx : x < n) (hr : x ≠ r) : F_Vals n f r N x = f x := by
  unfold F_Vals
  (repeat rw [va_up_ne _ _ (by omega)])
theorem F_Vals_self {n : Nat} {f : Nat → am_C} {r N : Nat} : F_Vals n f r N r = .inr (11, [.ref n, .ref (n + 1), .ref (n + 2), .ref (n + 3)]) := by
  unfold F_Vals
  rw [va_up_self]

def F_Code_init_1500 (n : Nat) (f : Nat → am_C) (r : Nat) : Nat → am_C := va_up (F_Vals (n + 2) (va_up (va_up (va_up f n (.inl (.int, 6000, fun _ => .int 0))) r (.inr (12, [.ref n, .null, .int 0, .int 0, .int 0, .int 0, .int 0, .int 0, .int 0, .int 0]))) (n + 1) (.inr (11, [.null, .null, .null, .null]))) (n + 1) 1500) r (.inr (12, [.ref n, .ref (n + 1), .int 0, .int 0, .int 0, .int 0, .int 0, .int 0, .int 0, .int 0]))
theorem F_Code_init_1500_lt {n : Nat} {f : Nat → am_C} {r x : Nat} (hx : x < n) (hr : x ≠ r) : F_Code_init_1500 n f r x = f x := by
  unfold F_Code_init_1500
  (repeat (first | rw [va_up_ne _ _ (by omega)] | rw [F_Vals_lt (by omega) (by omega)]))
theorem F_Code_init_1500_self {n : Nat} {f : Nat → am_C} {r : Nat} (hr : r < n) : F_Code_init_1500 n f r r = .inr (12, [.ref n, .ref (n + 1), .int 0, .int 0, .int 0, .int 0, .int 0, .int 0, .int 0, .int 0]) := by
  unfold F_Code_init_1500
  (repeat (first | rw [va_up_self] | rw [va_up_ne _ _ (by omega)] | rw [F_Vals_lt (by omega) (by omega)]))

set_option maxRecDepth 100000 in
set_option maxHeartbeats 4000000 in
theorem c_Code_init_1500 (O : am_ok K X)  {n r : Nat} {f : Nat → am_C} (h0 : f r = .inr (12, [.null, .null, .int 0, .int 0, .int 0, .int 0, .int 0, .int 0, .int 0, .int 0])) (h1 : 128 ≤ r) (h2 : r < n) : am_Mt K X m_Code_init 2 6 12004 [.ref r, .int 1500] (n, f) (fun v h' => v = none ∧ h' = (n + 6, F_Code_init_1500 n f r)) := by
  refine am_enter (by decide +kernel) (Nat.le_of_ble_eq_true rfl) ?_
  refine am_aload_n d_Code_init_0 rfl rfl ?_
  refine am_obj w_1494 w_177 w_178 d_Code_init_1 (by omega) (Nat.le_of_ble_eq_true rfl) ?_
  refine am_aload_n d_Code_init_4 rfl rfl ?_
  refine am_iconst (v := 4) d_Code_init_5 (by decide) ?_
  refine am_iload_n d_Code_init_6 rfl rfl ?_
  refine am_imul d_Code_init_7 ?_
  refine am_newa (at_ := .int) (ty := .int) (N := 6000) O rfl (by decide) w_317 d_Code_init_8 (by decide) (by decide) (by decide) (by omega) (by omega) ?_
  refine am_putF O f_Code_7 (fun q hq => by cases hq; exact ⟨w_1521, rfl⟩) rfl d_Code_init_10 (by (repeat (first | rw [va_up_self] | rw [va_up_ne _ _ (by omega)] | rw [F_Vals_lt (by omega) (by omega)])); first | done | rfl | assumption) (by omega) (by omega) (Nat.le_of_ble_eq_true rfl) (fun q hq => by cases hq; exact ⟨rfl, rfl, rfl⟩) ?_
  refine am_aload_n d_Code_init_13 rfl rfl ?_
  refine am_new O n_Code_13 d_Code_init_14 (by omega) (by omega) ?_
  refine am_dup d_Code_init_17 rfl ?_
  refine am_iload_n d_Code_init_18 rfl rfl ?_
  refine am_callI O (c_Vals_init (N := 1500) O (by (repeat (first | rw [va_up_self] | rw [va_up_ne _ _ (by omega)] | rw [F_Vals_lt (by omega) (by omega)])); first | done | rfl | assumption) (by omega) (by omega) (by decide) (by decide) (by omega)) rfl l_Code_15 w_1498 rfl rfl rfl (Nat.le_of_ble_eq_true rfl) d_Code_init_19 (by omega) (by omega) (by omega) (fun v h' hp => ?_)
  obtain ⟨rfl, rfl⟩ := hp
  refine am_putF O f_Code_18 (fun q hq => by cases hq; exact ⟨w_1523, rfl⟩) rfl d_Code_init_22 (by (repeat (first | rw [va_up_self] | rw [va_up_ne _ _ (by omega)] | rw [F_Vals_lt (by omega) (by omega)])); first | done | rfl | assumption) (by omega) (by omega) (Nat.le_of_ble_eq_true rfl) (fun q hq => by cases hq; exact ⟨rfl, rfl, rfl⟩) ?_
  exact am_vret rfl d_Code_init_25 ⟨rfl, rfl⟩

def F_Code_init_400 (n : Nat) (f : Nat → am_C) (r : Nat) : Nat → am_C := va_up (F_Vals (n + 2) (va_up (va_up (va_up f n (.inl (.int, 1600, fun _ => .int 0))) r (.inr (12, [.ref n, .null, .int 0, .int 0, .int 0, .int 0, .int 0, .int 0, .int 0, .int 0]))) (n + 1) (.inr (11, [.null, .null, .null, .null]))) (n + 1) 400) r (.inr (12, [.ref n, .ref (n + 1), .int 0, .int 0, .int 0, .int 0, .int 0, .int 0, .int 0, .int 0]))
theorem F_Code_init_400_lt {n : Nat} {f : Nat → am_C} {r x : Nat} (hx : x < n) (hr : x ≠ r) : F_Code_init_400 n f r x = f x := by
  unfold F_Code_init_400
  (repeat (first | rw [va_up_ne _ _ (by omega)] | rw [F_Vals_lt (by omega) (by omega)] | rw [F_Code_init_1500_lt (by omega) (by omega)]))
theorem F_Code_init_400_self {n : Nat} {f : Nat → am_C} {r : Nat} (hr : r < n) : F_Code_init_400 n f r r = .inr (12, [.ref n, .ref (n + 1), .int 0, .int 0, .int 0, .int 0, .int 0, .int 0, .int 0, .int 0]) := by
  unfold F_Code_init_400
  (repeat (first | rw [va_up_self] | rw [va_up_ne _ _ (by omega)] | rw [F_Vals_lt (by omega) (by omega)] | rw [F_Code_init_1500_lt (by omega) (by omega)]))

set_option maxRecDepth 100000 in
set_option maxHeartbeats 4000000 in
theorem c_Code_init_400 (O : am_ok K X)  {n r : Nat} {f : Nat → am_C} (h0 : f r = .inr (12, [.null, .null, .int 0, .int 0, .int 0, .int 0, .int 0, .int 0, .int 0, .int 0])) (h1 : 128 ≤ r) (h2 : r < n) : am_Mt K X m_Code_init 2 6 3204 [.ref r, .int 400] (n, f) (fun v h' => v = none ∧ h' = (n + 6, F_Code_init_400 n f r)) := by
  refine am_enter (by decide +kernel) (Nat.le_of_ble_eq_true rfl) ?_
  refine am_aload_n d_Code_init_0 rfl rfl ?_
  refine am_obj w_1494 w_177 w_178 d_Code_init_1 (by omega) (Nat.le_of_ble_eq_true rfl) ?_
  refine am_aload_n d_Code_init_4 rfl rfl ?_
  refine am_iconst (v := 4) d_Code_init_5 (by decide) ?_
  refine am_iload_n d_Code_init_6 rfl rfl ?_
  refine am_imul d_Code_init_7 ?_
  refine am_newa (at_ := .int) (ty := .int) (N := 1600) O rfl (by decide) w_317 d_Code_init_8 (by decide) (by decide) (by decide) (by omega) (by omega) ?_
  refine am_putF O f_Code_7 (fun q hq => by cases hq; exact ⟨w_1521, rfl⟩) rfl d_Code_init_10 (by (repeat (first | rw [va_up_self] | rw [va_up_ne _ _ (by omega)] | rw [F_Vals_lt (by omega) (by omega)] | rw [F_Code_init_1500_lt (by omega) (by omega)])); first | done | rfl | assumption) (by omega) (by omega) (Nat.le_of_ble_eq_true rfl) (fun q hq => by cases hq; exact ⟨rfl, rfl, rfl⟩) ?_
  refine am_aload_n d_Code_init_13 rfl rfl ?_
  refine am_new O n_Code_13 d_Code_init_14 (by omega) (by omega) ?_
  refine am_dup d_Code_init_17 rfl ?_
  refine am_iload_n d_Code_init_18 rfl rfl ?_
  refine am_callI O (c_Vals_init (N := 400) O (by (repeat (first | rw [va_up_self] | rw [va_up_ne _ _ (by omega)] | rw [F_Vals_lt (by omega) (by omega)] | rw [F_Code_init_1500_lt (by omega) (by omega)])); first | done | rfl | assumption) (by omega) (by omega) (by decide) (by decide) (by omega)) rfl l_Code_15 w_1498 rfl rfl rfl (Nat.le_of_ble_eq_true rfl) d_Code_init_19 (by omega) (by omega) (by omega) (fun v h' hp => ?_)
  obtain ⟨rfl, rfl⟩ := hp
  refine am_putF O f_Code_18 (fun q hq => by cases hq; exact ⟨w_1523, rfl⟩) rfl d_Code_init_22 (by (repeat (first | rw [va_up_self] | rw [va_up_ne _ _ (by omega)] | rw [F_Vals_lt (by omega) (by omega)] | rw [F_Code_init_1500_lt (by omega) (by omega)])); first | done | rfl | assumption) (by omega) (by omega) (Nat.le_of_ble_eq_true rfl) (fun q hq => by cases hq; exact ⟨rfl, rfl, rfl⟩) ?_
  exact am_vret rfl d_Code_init_25 ⟨rfl, rfl⟩

def F_State_init (n : Nat) (f : Nat → am_C) (r : Nat) : Nat → am_C := va_up (va_up (va_up (F_Vals (n + 11) (va_up (va_up (F_Vals (n + 6) (va_up (va_up (va_up (va_up (va_up (va_up (va_up (va_up (va_up (va_up (va_up f n (.inl (.int, 100, fun _ => .int 0))) r (.inr (13, [.ref n, .null, .null, .null, .null, .null, .null, .null, .int 0, .int 0, .int 0, .int 0]))) (n + 1) (.inl (.int, 100, fun _ => .int 0))) r (.inr (13, [.ref n, .ref (n + 1), .null, .null, .null, .null, .null, .null, .int 0, .int 0, .int 0, .int 0]))) (n + 2) (.inl (.long, 800, fun _ => .long 0))) r (.inr (13, [.ref n, .ref (n + 1), .ref (n + 2), .null, .null, .null, .null, .null, .int 0, .int 0, .int 0, .int 0]))) (n + 3) (.inl (.long, 12, fun _ => .long 0))) r (.inr (13, [.ref n, .ref (n + 1), .ref (n + 2), .ref (n + 3), .null, .null, .null, .null, .int 0, .int 0, .int 0, .int 0]))) (n + 4) (.inl (.long, 10, fun _ => .long 0))) r (.inr (13, [.ref n, .ref (n + 1), .ref (n + 2), .ref (n + 3), .ref (n + 4), .null, .null, .null, .int 0, .int 0, .int 0, .int 0]))) (n + 5) (.inr (11, [.null, .null, .null, .null]))) (n + 5) 2000) r (.inr (13, [.ref n, .ref (n + 1), .ref (n + 2), .ref (n + 3), .ref (n + 4), .ref (n + 5), .null, .null, .int 0, .int 0, .int 0, .int 0]))) (n + 10) (.inr (11, [.null, .null, .null, .null]))) (n + 10) 12) r (.inr (13, [.ref n, .ref (n + 1), .ref (n + 2), .ref (n + 3), .ref (n + 4), .ref (n + 5), .ref (n + 10), .null, .int 0, .int 0, .int 0, .int 0]))) (n + 15) (.inl (.object "StowTongueModel$Code", 10, fun _ => .null))) r (.inr (13, [.ref n, .ref (n + 1), .ref (n + 2), .ref (n + 3), .ref (n + 4), .ref (n + 5), .ref (n + 10), .ref (n + 15), .int 0, .int 0, .int 0, .int 0]))
theorem F_State_init_lt {n : Nat} {f : Nat → am_C} {r x : Nat} (hx : x < n) (hr : x ≠ r) : F_State_init n f r x = f x := by
  unfold F_State_init
  (repeat (first | rw [va_up_ne _ _ (by omega)] | rw [F_Vals_lt (by omega) (by omega)] | rw [F_Code_init_1500_lt (by omega) (by omega)] | rw [F_Code_init_400_lt (by omega) (by omega)]))
theorem F_State_init_self {n : Nat} {f : Nat → am_C} {r : Nat} (hr : r < n) : F_State_init n f r r = .inr (13, [.ref n, .ref (n + 1), .ref (n + 2), .ref (n + 3), .ref (n + 4), .ref (n + 5), .ref (n + 10), .ref (n + 15), .int 0, .int 0, .int 0, .int 0]) := by
  unfold F_State_init
  (repeat (first | rw [va_up_self] | rw [va_up_ne _ _ (by omega)] | rw [F_Vals_lt (by omega) (by omega)] | rw [F_Code_init_1500_lt (by omega) (by omega)] | rw [F_Code_init_400_lt (by omega) (by omega)]))

set_option maxRecDepth 100000 in
set_option maxHeartbeats 4000000 in
theorem c_State_init (O : am_ok K X)  {n r : Nat} {f : Nat → am_C} (h0 : f r = .inr (13, [.null, .null, .null, .null, .null, .null, .null, .null, .int 0, .int 0, .int 0, .int 0])) (h1 : 128 ≤ r) (h2 : r < n) : am_Mt K X m_State_init 2 16 9088 [.ref r] (n, f) (fun v h' => v = none ∧ h' = (n + 16, F_State_init n f r)) := by
  refine am_enter (by decide +kernel) (Nat.le_of_ble_eq_true rfl) ?_
  refine am_aload_n d_State_init_0 rfl rfl ?_
  refine am_obj w_1566 w_177 w_178 d_State_init_1 (by omega) (Nat.le_of_ble_eq_true rfl) ?_
  refine am_aload_n d_State_init_4 rfl rfl ?_
  refine am_bipush (v := 100) d_State_init_5 (by decide) ?_
  refine am_newa (at_ := .int) (ty := .int) (N := 100) O rfl (by decide) w_317 d_State_init_7 (by decide) (by decide) (by decide) (by omega) (by omega) ?_
  refine am_putF O f_State_9 (fun q hq => by cases hq; exact ⟨w_1571, rfl⟩) rfl d_State_init_9 (by (repeat (first | rw [va_up_self] | rw [va_up_ne _ _ (by omega)] | rw [F_Vals_lt (by omega) (by omega)] | rw [F_Code_init_1500_lt (by omega) (by omega)] | rw [F_Code_init_400_lt (by omega) (by omega)])); first | done | rfl | assumption) (by omega) (by omega) (Nat.le_of_ble_eq_true rfl) (fun q hq => by cases hq; exact ⟨rfl, rfl, rfl⟩) ?_
  refine am_aload_n d_State_init_12 rfl rfl ?_
  refine am_bipush (v := 100) d_State_init_13 (by decide) ?_
  refine am_newa (at_ := .int) (ty := .int) (N := 100) O rfl (by decide) w_317 d_State_init_15 (by decide) (by decide) (by decide) (by omega) (by omega) ?_
  refine am_putF O f_State_15 (fun q hq => by cases hq; exact ⟨w_1573, rfl⟩) rfl d_State_init_17 (by (repeat (first | rw [va_up_self] | rw [va_up_ne _ _ (by omega)] | rw [F_Vals_lt (by omega) (by omega)] | rw [F_Code_init_1500_lt (by omega) (by omega)] | rw [F_Code_init_400_lt (by omega) (by omega)])); first | done | rfl | assumption) (by omega) (by omega) (Nat.le_of_ble_eq_true rfl) (fun q hq => by cases hq; exact ⟨rfl, rfl, rfl⟩) ?_
  refine am_aload_n d_State_init_20 rfl rfl ?_
  refine am_sipush (v := 800) d_State_init_21 (by decide) ?_
  refine am_newa (at_ := .long) (ty := .long) (N := 800) O rfl (by decide) w_291 d_State_init_24 (by decide) (by decide) (by decide) (by omega) (by omega) ?_
  refine am_putF O f_State_18 (fun q hq => by cases hq; exact ⟨w_1575, rfl⟩) rfl d_State_init_26 (by (repeat (first | rw [va_up_self] | rw [va_up_ne _ _ (by omega)] | rw [F_Vals_lt (by omega) (by omega)] | rw [F_Code_init_1500_lt (by omega) (by omega)] | rw [F_Code_init_400_lt (by omega) (by omega)])); first | done | rfl | assumption) (by omega) (by omega) (Nat.le_of_ble_eq_true rfl) (fun q hq => by cases hq; exact ⟨rfl, rfl, rfl⟩) ?_
  refine am_aload_n d_State_init_29 rfl rfl ?_
  refine am_bipush (v := 12) d_State_init_30 (by decide) ?_
  refine am_newa (at_ := .long) (ty := .long) (N := 12) O rfl (by decide) w_291 d_State_init_32 (by decide) (by decide) (by decide) (by omega) (by omega) ?_
  refine am_putF O f_State_22 (fun q hq => by cases hq; exact ⟨w_1577, rfl⟩) rfl d_State_init_34 (by (repeat (first | rw [va_up_self] | rw [va_up_ne _ _ (by omega)] | rw [F_Vals_lt (by omega) (by omega)] | rw [F_Code_init_1500_lt (by omega) (by omega)] | rw [F_Code_init_400_lt (by omega) (by omega)])); first | done | rfl | assumption) (by omega) (by omega) (Nat.le_of_ble_eq_true rfl) (fun q hq => by cases hq; exact ⟨rfl, rfl, rfl⟩) ?_
  refine am_aload_n d_State_init_37 rfl rfl ?_
  refine am_bipush (v := 10) d_State_init_38 (by decide) ?_
  refine am_newa (at_ := .long) (ty := .long) (N := 10) O rfl (by decide) w_291 d_State_init_40 (by decide) (by decide) (by decide) (by omega) (by omega) ?_
  refine am_putF O f_State_25 (fun q hq => by cases hq; exact ⟨w_1579, rfl⟩) rfl d_State_init_42 (by (repeat (first | rw [va_up_self] | rw [va_up_ne _ _ (by omega)] | rw [F_Vals_lt (by omega) (by omega)] | rw [F_Code_init_1500_lt (by omega) (by omega)] | rw [F_Code_init_400_lt (by omega) (by omega)])); first | done | rfl | assumption) (by omega) (by omega) (Nat.le_of_ble_eq_true rfl) (fun q hq => by cases hq; exact ⟨rfl, rfl, rfl⟩) ?_
  refine am_aload_n d_State_init_45 rfl rfl ?_
  refine am_new O n_State_28 d_State_init_46 (by omega) (by omega) ?_
  refine am_dup d_State_init_49 rfl ?_
  refine am_sipush (v := 2000) d_State_init_50 (by decide) ?_
  refine am_callI O (c_Vals_init (N := 2000) O (by (repeat (first | rw [va_up_self] | rw [va_up_ne _ _ (by omega)] | rw [F_Vals_lt (by omega) (by omega)] | rw [F_Code_init_1500_lt (by omega) (by omega)] | rw [F_Code_init_400_lt (by omega) (by omega)])); first | done | rfl | assumption) (by omega) (by omega) (by decide) (by decide) (by omega)) rfl l_State_30 w_1498 rfl rfl rfl (Nat.le_of_ble_eq_true rfl) d_State_init_53 (by omega) (by omega) (by omega) (fun v h' hp => ?_)
  obtain ⟨rfl, rfl⟩ := hp
  refine am_putF O f_State_33 (fun q hq => by cases hq; exact ⟨w_1581, rfl⟩) rfl d_State_init_56 (by (repeat (first | rw [va_up_self] | rw [va_up_ne _ _ (by omega)] | rw [F_Vals_lt (by omega) (by omega)] | rw [F_Code_init_1500_lt (by omega) (by omega)] | rw [F_Code_init_400_lt (by omega) (by omega)])); first | done | rfl | assumption) (by omega) (by omega) (Nat.le_of_ble_eq_true rfl) (fun q hq => by cases hq; exact ⟨rfl, rfl, rfl⟩) ?_
  refine am_aload_n d_State_init_59 rfl rfl ?_
  refine am_new O n_State_28 d_State_init_60 (by omega) (by omega) ?_
  refine am_dup d_State_init_63 rfl ?_
  refine am_bipush (v := 12) d_State_init_64 (by decide) ?_
  refine am_callI O (c_Vals_init (N := 12) O (by (repeat (first | rw [va_up_self] | rw [va_up_ne _ _ (by omega)] | rw [F_Vals_lt (by omega) (by omega)] | rw [F_Code_init_1500_lt (by omega) (by omega)] | rw [F_Code_init_400_lt (by omega) (by omega)])); first | done | rfl | assumption) (by omega) (by omega) (by decide) (by decide) (by omega)) rfl l_State_30 w_1498 rfl rfl rfl (Nat.le_of_ble_eq_true rfl) d_State_init_66 (by omega) (by omega) (by omega) (fun v h' hp => ?_)
  obtain ⟨rfl, rfl⟩ := hp
  refine am_putF O f_State_37 (fun q hq => by cases hq; exact ⟨w_1583, rfl⟩) rfl d_State_init_69 (by (repeat (first | rw [va_up_self] | rw [va_up_ne _ _ (by omega)] | rw [F_Vals_lt (by omega) (by omega)] | rw [F_Code_init_1500_lt (by omega) (by omega)] | rw [F_Code_init_400_lt (by omega) (by omega)])); first | done | rfl | assumption) (by omega) (by omega) (Nat.le_of_ble_eq_true rfl) (fun q hq => by cases hq; exact ⟨rfl, rfl, rfl⟩) ?_
  refine am_aload_n d_State_init_72 rfl rfl ?_
  refine am_bipush (v := 10) d_State_init_73 (by decide) ?_
  refine am_anew (N := 10) O (by decide) w_1569 x_1570 d_State_init_75 (by decide) (by decide) (by decide) (by omega) (by omega) ?_
  refine am_putF O f_State_42 (fun q hq => by cases hq; exact ⟨w_1585, rfl⟩) rfl d_State_init_78 (by (repeat (first | rw [va_up_self] | rw [va_up_ne _ _ (by omega)] | rw [F_Vals_lt (by omega) (by omega)] | rw [F_Code_init_1500_lt (by omega) (by omega)] | rw [F_Code_init_400_lt (by omega) (by omega)])); first | done | rfl | assumption) (by omega) (by omega) (Nat.le_of_ble_eq_true rfl) (fun q hq => by cases hq; exact ⟨rfl, rfl, rfl⟩) ?_
  exact am_vret rfl d_State_init_81 ⟨rfl, rfl⟩
end
end
section
section
variable {K : am_K} {X : Nat → am_C}
def F_Out_init (n : Nat) (f : Nat → am_C) (r : Nat) : Nat → am_C := va_up (va_up f n (.inl (.byte, 600, fun _ => .int 0))) r (.inr (0, [.ref n, .int 0, .int 0]))
theorem F_Out_init_lt {n : Nat} {f : Nat → am_C} {r x : Nat} (hx : x < n) (hr : x ≠ r) : F_Out_init n f r x = f x := by
  unfold F_Out_init
  (repeat (first | rw [va_up_ne _ _ (by omega)] | rw [F_Vals_lt (by omega) (by omega)] | rw [F_Code_init_1500_lt (by omega) (by omega)] | rw [F_Code_init_400_lt (by omega) (by omega)] | rw [F_State_init_lt (by omega) (by omega)]))
theorem F_Out_init_self {n : Nat} {f : Nat → am_C} {r : Nat} (hr : r < n) : F_Out_init n f r r = .inr (0, [.ref n, .int 0, .int 0]) := by
  unfold F_Out_init
  (repeat (first | rw [va_up_self] | rw [va_up_ne _ _ (by omega)] | rw [F_Vals_lt (by omega) (by omega)] | rw [F_Code_init_1500_lt (by omega) (by omega)] | rw [F_Code_init_400_lt (by omega) (by omega)] | rw [F_State_init_lt (by omega) (by omega)]))

set_option maxRecDepth 100000 in
set_option maxHeartbeats 4000000 in
theorem c_Out_init (O : am_ok K X)  {n r : Nat} {f : Nat → am_C} (h0 : f r = .inr (0, [.null, .int 0, .int 0])) (h1 : 128 ≤ r) (h2 : r < n) : am_Mt K X m_Out_init 1 1 600 [.ref r] (n, f) (fun v h' => v = none ∧ h' = (n + 1, F_Out_init n f r)) := by
  refine am_enter (by decide +kernel) (Nat.le_of_ble_eq_true rfl) ?_
  refine am_aload_n d_Out_init_0 rfl rfl ?_
  refine am_obj w_184 w_177 w_178 d_Out_init_1 (by omega) (Nat.le_of_ble_eq_true rfl) ?_
  refine am_aload_n d_Out_init_4 rfl rfl ?_
  refine am_sipush (v := 600) d_Out_init_5 (by decide) ?_
  refine am_newa (at_ := .byte) (ty := .byte) (N := 600) O rfl (by decide) w_195 d_Out_init_8 (by decide) (by decide) (by decide) (by omega) (by omega) ?_
  refine am_putF O f_Out_11 (fun q hq => by cases hq; exact ⟨w_185, rfl⟩) rfl d_Out_init_10 (by (repeat (first | rw [va_up_self] | rw [va_up_ne _ _ (by omega)] | rw [F_Vals_lt (by omega) (by omega)] | rw [F_Code_init_1500_lt (by omega) (by omega)] | rw [F_Code_init_400_lt (by omega) (by omega)] | rw [F_State_init_lt (by omega) (by omega)])); first | done | rfl | assumption) (by omega) (by omega) (Nat.le_of_ble_eq_true rfl) (fun q hq => by cases hq; exact ⟨rfl, rfl, rfl⟩) ?_
  exact am_vret rfl d_Out_init_13 ⟨rfl, rfl⟩

def F_Draft_init (n : Nat) (f : Nat → am_C) (r : Nat) : Nat → am_C := va_up (va_up (va_up (va_up (va_up (va_up f n (.inl (.int, 128, fun _ => .int 0))) r (.inr (2, [.ref n, .int 0, .null, .int 0, .null, .int 0]))) (n + 1) (.inl (.long, 32, fun _ => .long 0))) r (.inr (2, [.ref n, .int 0, .ref (n + 1), .int 0, .null, .int 0]))) (n + 2) (.inl (.long, 16, fun _ => .long 0))) r (.inr (2, [.ref n, .int 0, .ref (n + 1), .int 0, .ref (n + 2), .int 0]))
theorem F_Draft_init_lt {n : Nat} {f : Nat → am_C} {r x : Nat} (hx : x < n) (hr : x ≠ r) : F_Draft_init n f r x = f x := by
  unfold F_Draft_init
  (repeat (first | rw [va_up_ne _ _ (by omega)] | rw [F_Vals_lt (by omega) (by omega)] | rw [F_Code_init_1500_lt (by omega) (by omega)] | rw [F_Code_init_400_lt (by omega) (by omega)] | rw [F_State_init_lt (by omega) (by omega)] | rw [F_Out_init_lt (by omega) (by omega)]))
theorem F_Draft_init_self {n : Nat} {f : Nat → am_C} {r : Nat} (hr : r < n) : F_Draft_init n f r r = .inr (2, [.ref n, .int 0, .ref (n + 1), .int 0, .ref (n + 2), .int 0]) := by
  unfold F_Draft_init
  (repeat (first | rw [va_up_self] | rw [va_up_ne _ _ (by omega)] | rw [F_Vals_lt (by omega) (by omega)] | rw [F_Code_init_1500_lt (by omega) (by omega)] | rw [F_Code_init_400_lt (by omega) (by omega)] | rw [F_State_init_lt (by omega) (by omega)] | rw [F_Out_init_lt (by omega) (by omega)]))

set_option maxRecDepth 100000 in
set_option maxHeartbeats 4000000 in
theorem c_Draft_init (O : am_ok K X)  {n r : Nat} {f : Nat → am_C} (h0 : f r = .inr (2, [.null, .int 0, .null, .int 0, .null, .int 0])) (h1 : 128 ≤ r) (h2 : r < n) : am_Mt K X m_Draft_init 1 3 176 [.ref r] (n, f) (fun v h' => v = none ∧ h' = (n + 3, F_Draft_init n f r)) := by
  refine am_enter (by decide +kernel) (Nat.le_of_ble_eq_true rfl) ?_
  refine am_aload_n d_Draft_init_0 rfl rfl ?_
  refine am_obj w_297 w_177 w_178 d_Draft_init_1 (by omega) (Nat.le_of_ble_eq_true rfl) ?_
  refine am_aload_n d_Draft_init_4 rfl rfl ?_
  refine am_sipush (v := 128) d_Draft_init_5 (by decide) ?_
  refine am_newa (at_ := .int) (ty := .int) (N := 128) O rfl (by decide) w_317 d_Draft_init_8 (by decide) (by decide) (by decide) (by omega) (by omega) ?_
  refine am_put O f_Draft_7 d_Draft_init_10 (by (repeat (first | rw [va_up_self] | rw [va_up_ne _ _ (by omega)] | rw [F_Vals_lt (by omega) (by omega)] | rw [F_Code_init_1500_lt (by omega) (by omega)] | rw [F_Code_init_400_lt (by omega) (by omega)] | rw [F_State_init_lt (by omega) (by omega)] | rw [F_Out_init_lt (by omega) (by omega)])); first | done | rfl | assumption) (by omega) (by omega) (Nat.le_of_ble_eq_true rfl) (fun q hq => by cases hq; exact ⟨rfl, rfl, rfl⟩) ?_
  refine am_aload_n d_Draft_init_13 rfl rfl ?_
  refine am_bipush (v := 32) d_Draft_init_14 (by decide) ?_
  refine am_newa (at_ := .long) (ty := .long) (N := 32) O rfl (by decide) w_291 d_Draft_init_16 (by decide) (by decide) (by decide) (by omega) (by omega) ?_
  refine am_put O f_Draft_13 d_Draft_init_18 (by (repeat (first | rw [va_up_self] | rw [va_up_ne _ _ (by omega)] | rw [F_Vals_lt (by omega) (by omega)] | rw [F_Code_init_1500_lt (by omega) (by omega)] | rw [F_Code_init_400_lt (by omega) (by omega)] | rw [F_State_init_lt (by omega) (by omega)] | rw [F_Out_init_lt (by omega) (by omega)])); first | done | rfl | assumption) (by omega) (by omega) (Nat.le_of_ble_eq_true rfl) (fun q hq => by cases hq; exact ⟨rfl, rfl, rfl⟩) ?_
  refine am_aload_n d_Draft_init_21 rfl rfl ?_
  refine am_bipush (v := 16) d_Draft_init_22 (by decide) ?_
  refine am_newa (at_ := .long) (ty := .long) (N := 16) O rfl (by decide) w_291 d_Draft_init_24 (by decide) (by decide) (by decide) (by omega) (by omega) ?_
  refine am_put O f_Draft_17 d_Draft_init_26 (by (repeat (first | rw [va_up_self] | rw [va_up_ne _ _ (by omega)] | rw [F_Vals_lt (by omega) (by omega)] | rw [F_Code_init_1500_lt (by omega) (by omega)] | rw [F_Code_init_400_lt (by omega) (by omega)] | rw [F_State_init_lt (by omega) (by omega)] | rw [F_Out_init_lt (by omega) (by omega)])); first | done | rfl | assumption) (by omega) (by omega) (Nat.le_of_ble_eq_true rfl) (fun q hq => by cases hq; exact ⟨rfl, rfl, rfl⟩) ?_
  exact am_vret rfl d_Draft_init_29 ⟨rfl, rfl⟩

def F_Sweep_init (n : Nat) (f : Nat → am_C) (r : Nat) : Nat → am_C := va_up (va_up (va_up (va_up f n (.inl (.boolean, 100, fun _ => .int 0))) r (.inr (8, [.ref n, .null, .int 0]))) (n + 1) (.inl (.int, 100, fun _ => .int 0))) r (.inr (8, [.ref n, .ref (n + 1), .int 0]))
theorem F_Sweep_init_lt {n : Nat} {f : Nat → am_C} {r x : Nat} (hx : x < n) (hr : x ≠ r) : F_Sweep_init n f r x = f x := by
  unfold F_Sweep_init
  (repeat (first | rw [va_up_ne _ _ (by omega)] | rw [F_Vals_lt (by omega) (by omega)] | rw [F_Code_init_1500_lt (by omega) (by omega)] | rw [F_Code_init_400_lt (by omega) (by omega)] | rw [F_State_init_lt (by omega) (by omega)] | rw [F_Out_init_lt (by omega) (by omega)] | rw [F_Draft_init_lt (by omega) (by omega)]))
theorem F_Sweep_init_self {n : Nat} {f : Nat → am_C} {r : Nat} (hr : r < n) : F_Sweep_init n f r r = .inr (8, [.ref n, .ref (n + 1), .int 0]) := by
  unfold F_Sweep_init
  (repeat (first | rw [va_up_self] | rw [va_up_ne _ _ (by omega)] | rw [F_Vals_lt (by omega) (by omega)] | rw [F_Code_init_1500_lt (by omega) (by omega)] | rw [F_Code_init_400_lt (by omega) (by omega)] | rw [F_State_init_lt (by omega) (by omega)] | rw [F_Out_init_lt (by omega) (by omega)] | rw [F_Draft_init_lt (by omega) (by omega)]))

set_option maxRecDepth 100000 in
set_option maxHeartbeats 4000000 in
theorem c_Sweep_init (O : am_ok K X)  {n r : Nat} {f : Nat → am_C} (h0 : f r = .inr (8, [.null, .null, .int 0])) (h1 : 128 ≤ r) (h2 : r < n) : am_Mt K X m_Sweep_init 1 2 200 [.ref r] (n, f) (fun v h' => v = none ∧ h' = (n + 2, F_Sweep_init n f r)) := by
  refine am_enter (by decide +kernel) (Nat.le_of_ble_eq_true rfl) ?_
  refine am_aload_n d_Sweep_init_0 rfl rfl ?_
  refine am_obj w_483 w_177 w_178 d_Sweep_init_1 (by omega) (Nat.le_of_ble_eq_true rfl) ?_
  refine am_aload_n d_Sweep_init_4 rfl rfl ?_
  refine am_bipush (v := 100) d_Sweep_init_5 (by decide) ?_
  refine am_newa (at_ := .boolean) (ty := .boolean) (N := 100) O rfl (by decide) w_494 d_Sweep_init_7 (by decide) (by decide) (by decide) (by omega) (by omega) ?_
  refine am_putF O f_Sweep_9 (fun q hq => by cases hq; exact ⟨w_484, rfl⟩) rfl d_Sweep_init_9 (by (repeat (first | rw [va_up_self] | rw [va_up_ne _ _ (by omega)] | rw [F_Vals_lt (by omega) (by omega)] | rw [F_Code_init_1500_lt (by omega) (by omega)] | rw [F_Code_init_400_lt (by omega) (by omega)] | rw [F_State_init_lt (by omega) (by omega)] | rw [F_Out_init_lt (by omega) (by omega)] | rw [F_Draft_init_lt (by omega) (by omega)])); first | done | rfl | assumption) (by omega) (by omega) (Nat.le_of_ble_eq_true rfl) (fun q hq => by cases hq; exact ⟨rfl, rfl, rfl⟩) ?_
  refine am_aload_n d_Sweep_init_12 rfl rfl ?_
  refine am_bipush (v := 100) d_Sweep_init_13 (by decide) ?_
  refine am_newa (at_ := .int) (ty := .int) (N := 100) O rfl (by decide) w_317 d_Sweep_init_15 (by decide) (by decide) (by decide) (by omega) (by omega) ?_
  refine am_putF O f_Sweep_15 (fun q hq => by cases hq; exact ⟨w_485, rfl⟩) rfl d_Sweep_init_17 (by (repeat (first | rw [va_up_self] | rw [va_up_ne _ _ (by omega)] | rw [F_Vals_lt (by omega) (by omega)] | rw [F_Code_init_1500_lt (by omega) (by omega)] | rw [F_Code_init_400_lt (by omega) (by omega)] | rw [F_State_init_lt (by omega) (by omega)] | rw [F_Out_init_lt (by omega) (by omega)] | rw [F_Draft_init_lt (by omega) (by omega)])); first | done | rfl | assumption) (by omega) (by omega) (Nat.le_of_ble_eq_true rfl) (fun q hq => by cases hq; exact ⟨rfl, rfl, rfl⟩) ?_
  exact am_vret rfl d_Sweep_init_20 ⟨rfl, rfl⟩

def F_Log_init (n : Nat) (f : Nat → am_C) (r : Nat) : Nat → am_C := va_up (va_up (va_up (va_up f n (.inl (.object "StowTongue$Store", 10, fun _ => .null))) r (.inr (7, [.ref n, .null, .int 0, .int 0]))) (n + 1) (.inl (.int, 10, fun _ => .int 0))) r (.inr (7, [.ref n, .ref (n + 1), .int 0, .int 0]))
theorem F_Log_init_lt {n : Nat} {f : Nat → am_C} {r x : Nat} (hx : x < n) (hr : x ≠ r) : F_Log_init n f r x = f x := by
  unfold F_Log_init
  (repeat (first | rw [va_up_ne _ _ (by omega)] | rw [F_Vals_lt (by omega) (by omega)] | rw [F_Code_init_1500_lt (by omega) (by omega)] | rw [F_Code_init_400_lt (by omega) (by omega)] | rw [F_State_init_lt (by omega) (by omega)] | rw [F_Out_init_lt (by omega) (by omega)] | rw [F_Draft_init_lt (by omega) (by omega)] | rw [F_Sweep_init_lt (by omega) (by omega)]))
theorem F_Log_init_self {n : Nat} {f : Nat → am_C} {r : Nat} (hr : r < n) : F_Log_init n f r r = .inr (7, [.ref n, .ref (n + 1), .int 0, .int 0]) := by
  unfold F_Log_init
  (repeat (first | rw [va_up_self] | rw [va_up_ne _ _ (by omega)] | rw [F_Vals_lt (by omega) (by omega)] | rw [F_Code_init_1500_lt (by omega) (by omega)] | rw [F_Code_init_400_lt (by omega) (by omega)] | rw [F_State_init_lt (by omega) (by omega)] | rw [F_Out_init_lt (by omega) (by omega)] | rw [F_Draft_init_lt (by omega) (by omega)] | rw [F_Sweep_init_lt (by omega) (by omega)]))

set_option maxRecDepth 100000 in
set_option maxHeartbeats 4000000 in
theorem c_Log_init (O : am_ok K X)  {n r : Nat} {f : Nat → am_C} (h0 : f r = .inr (7, [.null, .null, .int 0, .int 0])) (h1 : 128 ≤ r) (h2 : r < n) : am_Mt K X m_Log_init 1 2 20 [.ref r] (n, f) (fun v h' => v = none ∧ h' = (n + 2, F_Log_init n f r)) := by
  refine am_enter (by decide +kernel) (Nat.le_of_ble_eq_true rfl) ?_
  refine am_aload_n d_Log_init_0 rfl rfl ?_
  refine am_obj w_462 w_177 w_178 d_Log_init_1 (by omega) (Nat.le_of_ble_eq_true rfl) ?_
  refine am_aload_n d_Log_init_4 rfl rfl ?_
  refine am_bipush (v := 10) d_Log_init_5 (by decide) ?_
  refine am_anew (N := 10) O (by decide) w_463 x_464 d_Log_init_7 (by decide) (by decide) (by decide) (by omega) (by omega) ?_
  refine am_putF O f_Log_11 (fun q hq => by cases hq; exact ⟨w_465, rfl⟩) rfl d_Log_init_10 (by (repeat (first | rw [va_up_self] | rw [va_up_ne _ _ (by omega)] | rw [F_Vals_lt (by omega) (by omega)] | rw [F_Code_init_1500_lt (by omega) (by omega)] | rw [F_Code_init_400_lt (by omega) (by omega)] | rw [F_State_init_lt (by omega) (by omega)] | rw [F_Out_init_lt (by omega) (by omega)] | rw [F_Draft_init_lt (by omega) (by omega)] | rw [F_Sweep_init_lt (by omega) (by omega)])); first | done | rfl | assumption) (by omega) (by omega) (Nat.le_of_ble_eq_true rfl) (fun q hq => by cases hq; exact ⟨rfl, rfl, rfl⟩) ?_
  refine am_aload_n d_Log_init_13 rfl rfl ?_
  refine am_bipush (v := 10) d_Log_init_14 (by decide) ?_
  refine am_newa (at_ := .int) (ty := .int) (N := 10) O rfl (by decide) w_317 d_Log_init_16 (by decide) (by decide) (by decide) (by omega) (by omega) ?_
  refine am_putF O f_Log_15 (fun q hq => by cases hq; exact ⟨w_466, rfl⟩) rfl d_Log_init_18 (by (repeat (first | rw [va_up_self] | rw [va_up_ne _ _ (by omega)] | rw [F_Vals_lt (by omega) (by omega)] | rw [F_Code_init_1500_lt (by omega) (by omega)] | rw [F_Code_init_400_lt (by omega) (by omega)] | rw [F_State_init_lt (by omega) (by omega)] | rw [F_Out_init_lt (by omega) (by omega)] | rw [F_Draft_init_lt (by omega) (by omega)] | rw [F_Sweep_init_lt (by omega) (by omega)])); first | done | rfl | assumption) (by omega) (by omega) (Nat.le_of_ble_eq_true rfl) (fun q hq => by cases hq; exact ⟨rfl, rfl, rfl⟩) ?_
  exact am_vret rfl d_Log_init_21 ⟨rfl, rfl⟩

def F_Mach_init (n : Nat) (f : Nat → am_C) (r : Nat) : Nat → am_C := va_up (va_up (va_up (va_up (va_up (va_up (va_up (va_up (va_up (va_up f n (.inl (.long, 64, fun _ => .long 0))) r (.inr (6, [.ref n, .null, .int 0, .int 0, .null, .int 0, .null, .null, .null, .int 0, .null, .null, .int 0, .int 0, .int 0, .int 0, .long 0, .long 0]))) (n + 1) (.inl (.long, 64, fun _ => .long 0))) r (.inr (6, [.ref n, .ref (n + 1), .int 0, .int 0, .null, .int 0, .null, .null, .null, .int 0, .null, .null, .int 0, .int 0, .int 0, .int 0, .long 0, .long 0]))) (n + 2) (.inl (.object "StowTongue$Unit", 8, fun _ => .null))) r (.inr (6, [.ref n, .ref (n + 1), .int 0, .int 0, .null, .int 0, .ref (n + 2), .null, .null, .int 0, .null, .null, .int 0, .int 0, .int 0, .int 0, .long 0, .long 0]))) (n + 3) (.inl (.int, 8, fun _ => .int 0))) r (.inr (6, [.ref n, .ref (n + 1), .int 0, .int 0, .null, .int 0, .ref (n + 2), .ref (n + 3), .null, .int 0, .null, .null, .int 0, .int 0, .int 0, .int 0, .long 0, .long 0]))) (n + 4) (.inl (.int, 8, fun _ => .int 0))) r (.inr (6, [.ref n, .ref (n + 1), .int 0, .int 0, .null, .int 0, .ref (n + 2), .ref (n + 3), .ref (n + 4), .int 0, .null, .null, .int 0, .int 0, .int 0, .int 0, .long 0, .long 0]))
theorem F_Mach_init_lt {n : Nat} {f : Nat → am_C} {r x : Nat} (hx : x < n) (hr : x ≠ r) : F_Mach_init n f r x = f x := by
  unfold F_Mach_init
  (repeat (first | rw [va_up_ne _ _ (by omega)] | rw [F_Vals_lt (by omega) (by omega)] | rw [F_Code_init_1500_lt (by omega) (by omega)] | rw [F_Code_init_400_lt (by omega) (by omega)] | rw [F_State_init_lt (by omega) (by omega)] | rw [F_Out_init_lt (by omega) (by omega)] | rw [F_Draft_init_lt (by omega) (by omega)] | rw [F_Sweep_init_lt (by omega) (by omega)] | rw [F_Log_init_lt (by omega) (by omega)]))
theorem F_Mach_init_self {n : Nat} {f : Nat → am_C} {r : Nat} (hr : r < n) : F_Mach_init n f r r = .inr (6, [.ref n, .ref (n + 1), .int 0, .int 0, .null, .int 0, .ref (n + 2), .ref (n + 3), .ref (n + 4), .int 0, .null, .null, .int 0, .int 0, .int 0, .int 0, .long 0, .long 0]) := by
  unfold F_Mach_init
  (repeat (first | rw [va_up_self] | rw [va_up_ne _ _ (by omega)] | rw [F_Vals_lt (by omega) (by omega)] | rw [F_Code_init_1500_lt (by omega) (by omega)] | rw [F_Code_init_400_lt (by omega) (by omega)] | rw [F_State_init_lt (by omega) (by omega)] | rw [F_Out_init_lt (by omega) (by omega)] | rw [F_Draft_init_lt (by omega) (by omega)] | rw [F_Sweep_init_lt (by omega) (by omega)] | rw [F_Log_init_lt (by omega) (by omega)]))

set_option maxRecDepth 100000 in
set_option maxHeartbeats 4000000 in
theorem c_Mach_init (O : am_ok K X)  {n r : Nat} {f : Nat → am_C} (h0 : f r = .inr (6, [.null, .null, .int 0, .int 0, .null, .int 0, .null, .null, .null, .int 0, .null, .null, .int 0, .int 0, .int 0, .int 0, .long 0, .long 0])) (h1 : 128 ≤ r) (h2 : r < n) : am_Mt K X m_Mach_init 1 5 152 [.ref r] (n, f) (fun v h' => v = none ∧ h' = (n + 5, F_Mach_init n f r)) := by
  refine am_enter (by decide +kernel) (Nat.le_of_ble_eq_true rfl) ?_
  refine am_aload_n d_Mach_init_0 rfl rfl ?_
  refine am_obj w_399 w_177 w_178 d_Mach_init_1 (by omega) (Nat.le_of_ble_eq_true rfl) ?_
  refine am_aload_n d_Mach_init_4 rfl rfl ?_
  refine am_bipush (v := 64) d_Mach_init_5 (by decide) ?_
  refine am_newa (at_ := .long) (ty := .long) (N := 64) O rfl (by decide) w_291 d_Mach_init_7 (by decide) (by decide) (by decide) (by omega) (by omega) ?_
  refine am_put O f_Mach_7 d_Mach_init_9 (by (repeat (first | rw [va_up_self] | rw [va_up_ne _ _ (by omega)] | rw [F_Vals_lt (by omega) (by omega)] | rw [F_Code_init_1500_lt (by omega) (by omega)] | rw [F_Code_init_400_lt (by omega) (by omega)] | rw [F_State_init_lt (by omega) (by omega)] | rw [F_Out_init_lt (by omega) (by omega)] | rw [F_Draft_init_lt (by omega) (by omega)] | rw [F_Sweep_init_lt (by omega) (by omega)] | rw [F_Log_init_lt (by omega) (by omega)])); first | done | rfl | assumption) (by omega) (by omega) (Nat.le_of_ble_eq_true rfl) (fun q hq => by cases hq; exact ⟨rfl, rfl, rfl⟩) ?_
  refine am_aload_n d_Mach_init_12 rfl rfl ?_
  refine am_bipush (v := 64) d_Mach_init_13 (by decide) ?_
  refine am_newa (at_ := .long) (ty := .long) (N := 64) O rfl (by decide) w_291 d_Mach_init_15 (by decide) (by decide) (by decide) (by omega) (by omega) ?_
  refine am_put O f_Mach_13 d_Mach_init_17 (by (repeat (first | rw [va_up_self] | rw [va_up_ne _ _ (by omega)] | rw [F_Vals_lt (by omega) (by omega)] | rw [F_Code_init_1500_lt (by omega) (by omega)] | rw [F_Code_init_400_lt (by omega) (by omega)] | rw [F_State_init_lt (by omega) (by omega)] | rw [F_Out_init_lt (by omega) (by omega)] | rw [F_Draft_init_lt (by omega) (by omega)] | rw [F_Sweep_init_lt (by omega) (by omega)] | rw [F_Log_init_lt (by omega) (by omega)])); first | done | rfl | assumption) (by omega) (by omega) (Nat.le_of_ble_eq_true rfl) (fun q hq => by cases hq; exact ⟨rfl, rfl, rfl⟩) ?_
  refine am_aload_n d_Mach_init_20 rfl rfl ?_
  refine am_bipush (v := 8) d_Mach_init_21 (by decide) ?_
  refine am_anew (N := 8) O (by decide) w_400 x_401 d_Mach_init_23 (by decide) (by decide) (by decide) (by omega) (by omega) ?_
  refine am_putF O f_Mach_18 (fun q hq => by cases hq; exact ⟨w_408, rfl⟩) rfl d_Mach_init_26 (by (repeat (first | rw [va_up_self] | rw [va_up_ne _ _ (by omega)] | rw [F_Vals_lt (by omega) (by omega)] | rw [F_Code_init_1500_lt (by omega) (by omega)] | rw [F_Code_init_400_lt (by omega) (by omega)] | rw [F_State_init_lt (by omega) (by omega)] | rw [F_Out_init_lt (by omega) (by omega)] | rw [F_Draft_init_lt (by omega) (by omega)] | rw [F_Sweep_init_lt (by omega) (by omega)] | rw [F_Log_init_lt (by omega) (by omega)])); first | done | rfl | assumption) (by omega) (by omega) (Nat.le_of_ble_eq_true rfl) (fun q hq => by cases hq; exact ⟨rfl, rfl, rfl⟩) ?_
  refine am_aload_n d_Mach_init_29 rfl rfl ?_
  refine am_bipush (v := 8) d_Mach_init_30 (by decide) ?_
  refine am_newa (at_ := .int) (ty := .int) (N := 8) O rfl (by decide) w_317 d_Mach_init_32 (by decide) (by decide) (by decide) (by omega) (by omega) ?_
  refine am_putF O f_Mach_22 (fun q hq => by cases hq; exact ⟨w_409, rfl⟩) rfl d_Mach_init_34 (by (repeat (first | rw [va_up_self] | rw [va_up_ne _ _ (by omega)] | rw [F_Vals_lt (by omega) (by omega)] | rw [F_Code_init_1500_lt (by omega) (by omega)] | rw [F_Code_init_400_lt (by omega) (by omega)] | rw [F_State_init_lt (by omega) (by omega)] | rw [F_Out_init_lt (by omega) (by omega)] | rw [F_Draft_init_lt (by omega) (by omega)] | rw [F_Sweep_init_lt (by omega) (by omega)] | rw [F_Log_init_lt (by omega) (by omega)])); first | done | rfl | assumption) (by omega) (by omega) (Nat.le_of_ble_eq_true rfl) (fun q hq => by cases hq; exact ⟨rfl, rfl, rfl⟩) ?_
  refine am_aload_n d_Mach_init_37 rfl rfl ?_
  refine am_bipush (v := 8) d_Mach_init_38 (by decide) ?_
  refine am_newa (at_ := .int) (ty := .int) (N := 8) O rfl (by decide) w_317 d_Mach_init_40 (by decide) (by decide) (by decide) (by omega) (by omega) ?_
  refine am_putF O f_Mach_26 (fun q hq => by cases hq; exact ⟨w_410, rfl⟩) rfl d_Mach_init_42 (by (repeat (first | rw [va_up_self] | rw [va_up_ne _ _ (by omega)] | rw [F_Vals_lt (by omega) (by omega)] | rw [F_Code_init_1500_lt (by omega) (by omega)] | rw [F_Code_init_400_lt (by omega) (by omega)] | rw [F_State_init_lt (by omega) (by omega)] | rw [F_Out_init_lt (by omega) (by omega)] | rw [F_Draft_init_lt (by omega) (by omega)] | rw [F_Sweep_init_lt (by omega) (by omega)] | rw [F_Log_init_lt (by omega) (by omega)])); first | done | rfl | assumption) (by omega) (by omega) (Nat.le_of_ble_eq_true rfl) (fun q hq => by cases hq; exact ⟨rfl, rfl, rfl⟩) ?_
  exact am_vret rfl d_Mach_init_45 ⟨rfl, rfl⟩
end
end
section
section
variable {K : am_K} {X : Nat → am_C}
def am_str (K : am_K) (r N : Nat) (by_ : Nat → Int32) : Prop := va_O "java/lang/String" (am_ad K r) (am_A K) K.1 K.1.heap ∧ va_OF "java/lang/String" "coder" "B" (.int 0) (am_ad K r) (am_A K) K.1 K.1.heap ∧ va_OF "java/lang/String" "value" "[B" (.ref (am_ad K (r + 1))) (am_ad K r) (am_A K) K.1 K.1.heap ∧ va_T .byte (am_ad K (r + 1)) N (fun j => .int (by_ j)) (am_A K) K.1 K.1.heap ∧ N < 2 ^ 31
def am_E0 (K : am_K) : Prop := va_Z "java/lang/String" "COMPACT_STRINGS" "Z" (.int 1) (am_A K) K.1 K.1.heap ∧ (∃ v : Value, (v = .null ∨ v = .ref 4) ∧ va_Z "jdk/internal/util/Preconditions" "SIOOBE_FORMATTER" "Ljava/util/function/BiFunction;" (am_tr K v) (am_A K) K.1 K.1.heap) ∧ va_Z "java/util/ArrayList" "DEFAULTCAPACITY_EMPTY_ELEMENTDATA" "[Ljava/lang/Object;" (.ref (am_ad K 1)) (am_A K) K.1 K.1.heap

set_option maxRecDepth 100000 in
set_option maxHeartbeats 4000000 in
theorem c_Str_coder (E : am_E0 K) {r N : Nat} {g : Nat → Int32} (S : am_str K r N g) {h : am_H} : am_Mt K X m_Str_coder 0 0 0 [.ref r] h (fun v h' => v = some (.int 0) ∧ h' = h) := by
  refine am_enter (by decide +kernel) (Nat.le_of_ble_eq_true rfl) ?_
  refine am_gets (v := .int 1) E.1 w_217 d_Str_coder_0 ?_
  refine am_if_eq (tgt := 13) d_Str_coder_3 (by decide) (fun c_3 => ?_) (fun c_3 => ?_)
  · exact absurd c_3 (by decide)
  · refine am_aload_n d_Str_coder_6 rfl rfl ?_
    refine am_getE (v := .int 0) S.2.1 w_2201 d_Str_coder_7 ?_
    refine am_goto (tgt := 14) d_Str_coder_10 (by decide) ?_
    exact am_zret rfl rfl d_Str_coder_14 ⟨rfl, rfl⟩

set_option maxRecDepth 100000 in
set_option maxHeartbeats 4000000 in
theorem c_Str_isLatin1 (E : am_E0 K) {r N : Nat} {g : Nat → Int32} (S : am_str K r N g) {h : am_H} : am_Mt K X m_Str_isLatin1 0 0 0 [.ref r] h (fun v h' => v = some (.int 1) ∧ h' = h) := by
  refine am_enter (by decide +kernel) (Nat.le_of_ble_eq_true rfl) ?_
  refine am_gets (v := .int 1) E.1 w_217 d_Str_isLatin1_0 ?_
  refine am_if_eq (tgt := 17) d_Str_isLatin1_3 (by decide) (fun c_3 => ?_) (fun c_3 => ?_)
  · exact absurd c_3 (by decide)
  · refine am_aload_n d_Str_isLatin1_6 rfl rfl ?_
    refine am_getE (v := .int 0) S.2.1 w_2201 d_Str_isLatin1_7 ?_
    refine am_if_ne (tgt := 17) d_Str_isLatin1_10 (by decide) (fun c_10 => ?_) (fun c_10 => ?_)
    · exact absurd rfl c_10
    · refine am_iconst (v := 1) d_Str_isLatin1_13 (by decide) ?_
      refine am_goto (tgt := 18) d_Str_isLatin1_14 (by decide) ?_
      exact am_zret rfl rfl d_Str_isLatin1_18 ⟨rfl, rfl⟩

set_option maxRecDepth 100000 in
set_option maxHeartbeats 4000000 in
theorem c_Str_length (O : am_ok K X) (E : am_E0 K) {r N : Nat} {g : Nat → Int32} (S : am_str K r N g) {h : am_H} : am_Mt K X m_Str_length 1 0 0 [.ref r] h (fun v h' => v = some (.int (nI N)) ∧ h' = h) := by
  refine am_enter (by decide +kernel) (Nat.le_of_ble_eq_true rfl) ?_
  refine am_aload_n d_Str_length_0 rfl rfl ?_
  refine am_getE (v := .ref (r + 1)) S.2.2.1 w_2200 d_Str_length_1 ?_
  refine am_alenE S.2.2.2.1 d_Str_length_4 ?_
  refine am_aload_n d_Str_length_5 rfl rfl ?_
  refine am_callVE O (c_Str_coder E S) rfl S.1 l_Str_335 ⟨w_214, w_215⟩ rfl (Nat.le_of_ble_eq_true rfl) d_Str_length_6 (by omega) (by omega) (by omega) (fun v h' hp => ?_)
  obtain ⟨rfl, rfl⟩ := hp
  refine am_ishr d_Str_length_9 ?_
  refine am_iret rfl d_Str_length_10 ⟨?_, rfl⟩
  exact congrArg (fun x => some (Value.int x)) (sb_shr0 (nI N))

set_option maxRecDepth 100000 in
set_option maxHeartbeats 4000000 in
theorem c_Pre_checkIndex {k n : Nat} {v : Value} (hv : v = .null ∨ v = .ref 4) (hk : k < n) (hn : n < 2 ^ 31) {h : am_H} : am_Mt K X m_Pre_checkIndex 0 0 0 [.int (nI k), .int (nI n), v] h (fun v h' => v = some (.int (nI k)) ∧ h' = h) := by
  rcases hv with rfl | rfl
  · refine am_enter (by decide +kernel) (Nat.le_of_ble_eq_true rfl) ?_
    refine am_iload_n d_Pre_checkIndex_0 rfl rfl ?_
    refine am_if_lt (tgt := 9) d_Pre_checkIndex_1 (by decide) (fun c_1 => ?_) (fun c_1 => ?_)
    · exact absurd c_1 (nI_pos (by omega))
    · refine am_iload_n d_Pre_checkIndex_4 rfl rfl ?_
      refine am_iload_n d_Pre_checkIndex_5 rfl rfl ?_
      refine am_icmp_lt (tgt := 16) d_Pre_checkIndex_6 (by decide) (fun c_6 => ?_) (fun c_6 => ?_)
      · refine am_iload_n d_Pre_checkIndex_16 rfl rfl ?_
        exact am_iret rfl d_Pre_checkIndex_17 ⟨rfl, rfl⟩
      · exact absurd (nI_lt hk hn) c_6
  · refine am_enter (by decide +kernel) (Nat.le_of_ble_eq_true rfl) ?_
    refine am_iload_n d_Pre_checkIndex_0 rfl rfl ?_
    refine am_if_lt (tgt := 9) d_Pre_checkIndex_1 (by decide) (fun c_1 => ?_) (fun c_1 => ?_)
    · exact absurd c_1 (nI_pos (by omega))
    · refine am_iload_n d_Pre_checkIndex_4 rfl rfl ?_
      refine am_iload_n d_Pre_checkIndex_5 rfl rfl ?_
      refine am_icmp_lt (tgt := 16) d_Pre_checkIndex_6 (by decide) (fun c_6 => ?_) (fun c_6 => ?_)
      · refine am_iload_n d_Pre_checkIndex_16 rfl rfl ?_
        exact am_iret rfl d_Pre_checkIndex_17 ⟨rfl, rfl⟩
      · exact absurd (nI_lt hk hn) c_6

set_option maxRecDepth 100000 in
set_option maxHeartbeats 4000000 in
theorem c_Str_checkIndex (O : am_ok K X) (E : am_E0 K) {k n : Nat} (hk : k < n) (hn : n < 2 ^ 31) {h : am_H} : am_Mt K X m_Str_checkIndex 1 0 0 [.int (nI k), .int (nI n)] h (fun v h' => v = none ∧ h' = h) := by
  obtain ⟨fv, hfv, hZ⟩ := E.2.1
  refine am_enter (by decide +kernel) (Nat.le_of_ble_eq_true rfl) ?_
  refine am_iload_n d_Str_checkIndex_0 rfl rfl ?_
  refine am_iload_n d_Str_checkIndex_1 rfl rfl ?_
  refine am_gets (v := fv) hZ w_233 d_Str_checkIndex_2 ?_
  refine am_callS O (c_Pre_checkIndex hfv hk hn) rfl l_Str_1059 w_236 rfl (Nat.le_of_ble_eq_true rfl) d_Str_checkIndex_5 (by omega) (by omega) (by omega) (fun v h' hp => ?_)
  obtain ⟨rfl, rfl⟩ := hp
  refine am_pop d_Str_checkIndex_8 rfl ?_
  exact am_vret rfl d_Str_checkIndex_9 ⟨rfl, rfl⟩

set_option maxRecDepth 100000 in
set_option maxHeartbeats 4000000 in
theorem c_SL1_charAt (O : am_ok K X) (E : am_E0 K) {r N k : Nat} {g : Nat → Int32} (S : va_T .byte (am_ad K r) N (fun j => .int (g j)) (am_A K) K.1 K.1.heap) (hN : N < 2 ^ 31) (hk : k < N) {h : am_H} : am_Mt K X m_SL1_charAt 2 0 0 [.ref r, .int (nI k)] h (fun v h' => v = some (.int (((g k &&& 255).toUInt32 % 65536).toInt32)) ∧ h' = h) := by
  refine am_enter (by decide +kernel) (Nat.le_of_ble_eq_true rfl) ?_
  refine am_iload_n d_SL1_charAt_0 rfl rfl ?_
  refine am_aload_n d_SL1_charAt_1 rfl rfl ?_
  refine am_alenE S d_SL1_charAt_2 ?_
  refine am_callS O (c_Str_checkIndex O E hk hN) rfl l_SL1_9 w_231 rfl (Nat.le_of_ble_eq_true rfl) d_SL1_charAt_3 (by omega) (by omega) (by omega) (fun v h' hp => ?_)
  obtain ⟨rfl, rfl⟩ := hp
  refine am_aload_n d_SL1_charAt_6 rfl rfl ?_
  refine am_iload_n d_SL1_charAt_7 rfl rfl ?_
  refine am_baldE (f := fun j => .int (g j)) (v := .int (g k)) S d_SL1_charAt_8 (vp_in_nI hk hN) (by show Value.int (g (nI k).toNatClampNeg) = _; rw [nI_clamp (by omega)]) ?_
  refine am_sipush (v := 255) d_SL1_charAt_9 (by decide) ?_
  refine am_iand d_SL1_charAt_12 ?_
  refine am_i2c d_SL1_charAt_13 rfl ?_
  exact am_zret rfl (pk_nc _) d_SL1_charAt_14 ⟨rfl, rfl⟩

set_option maxRecDepth 100000 in
set_option maxHeartbeats 4000000 in
theorem c_Str_charAt (O : am_ok K X) (E : am_E0 K) {r N k : Nat} {g : Nat → Int32} (S : am_str K r N g) (hk : k < N) {h : am_H} : am_Mt K X m_Str_charAt 3 0 0 [.ref r, .int (nI k)] h (fun v h' => v = some (.int (((g k &&& 255).toUInt32 % 65536).toInt32)) ∧ h' = h) := by
  refine am_enter (by decide +kernel) (Nat.le_of_ble_eq_true rfl) ?_
  refine am_aload_n d_Str_charAt_0 rfl rfl ?_
  refine am_callVE O (c_Str_isLatin1 E S) rfl S.1 l_Str_492 ⟨w_224, w_225⟩ rfl (Nat.le_of_ble_eq_true rfl) d_Str_charAt_1 (by omega) (by omega) (by omega) (fun v h' hp => ?_)
  obtain ⟨rfl, rfl⟩ := hp
  refine am_if_eq (tgt := 16) d_Str_charAt_4 (by decide) (fun c_4 => ?_) (fun c_4 => ?_)
  · exact absurd c_4 (by decide)
  · refine am_aload_n d_Str_charAt_7 rfl rfl ?_
    refine am_getE (v := .ref (r + 1)) S.2.2.1 w_2200 d_Str_charAt_8 ?_
    refine am_iload_n d_Str_charAt_11 rfl rfl ?_
    refine am_callS O (c_SL1_charAt O E S.2.2.2.1 S.2.2.2.2 hk) rfl l_Str_495 w_228 rfl (Nat.le_of_ble_eq_true rfl) d_Str_charAt_12 (by omega) (by omega) (by omega) (fun v h' hp => ?_)
    obtain ⟨rfl, rfl⟩ := hp
    exact am_zret rfl (pk_nc _) d_Str_charAt_15 ⟨rfl, rfl⟩

def ce_placed (s a : Int32) : Int64 := s.toInt64 <<< ((7 * (7 - (a &&& 7)) : Int32).toInt64 &&& 63)

set_option maxRecDepth 100000 in
set_option maxHeartbeats 4000000 in
theorem c_Cell_placed {s a : Int32} {h : am_H} : am_Mt K X m_Cell_placed 0 0 0 [.int s, .int a] h (fun v h' => v = some (.long (ce_placed s a)) ∧ h' = h) := by
  refine am_enter (by decide +kernel) (Nat.le_of_ble_eq_true rfl) ?_
  refine am_iload_n d_Cell_placed_0 rfl rfl ?_
  refine am_i2l d_Cell_placed_1 rfl ?_
  refine am_bipush (v := 7) d_Cell_placed_2 (by decide) ?_
  refine am_bipush (v := 7) d_Cell_placed_4 (by decide) ?_
  refine am_iload_n d_Cell_placed_6 rfl rfl ?_
  refine am_bipush (v := 7) d_Cell_placed_7 (by decide) ?_
  refine am_iand d_Cell_placed_9 ?_
  refine am_isub d_Cell_placed_10 ?_
  refine am_imul d_Cell_placed_11 ?_
  refine am_lshl d_Cell_placed_12 rfl ?_
  exact am_lret rfl d_Cell_placed_13 ⟨rfl, rfl⟩
end
end
section
section
variable {K : am_K} {X : Nat → am_C}
def F_AL (n : Nat) (f : Nat → am_C) (r : Nat) : Nat → am_C := va_up f r (.inr (3, [.ref 1, .int 0, .int 0]))
theorem F_AL_lt {n : Nat} {f : Nat → am_C} {r x : Nat} (_ : x < n) (hr : x ≠ r) : F_AL n f r x = f x := va_up_ne _ _ hr

set_option maxRecDepth 100000 in
set_option maxHeartbeats 4000000 in
theorem c_ACo_init {r : Nat} {h : am_H} : am_Mt K X m_ACo_init 1 0 0 [.ref r] h (fun v h' => v = none ∧ h' = h) := by
  refine am_enter (by decide +kernel) (Nat.le_of_ble_eq_true rfl) ?_
  refine am_aload_n d_ACo_init_0 rfl rfl ?_
  refine am_obj w_329 w_177 w_178 d_ACo_init_1 (by omega) (Nat.le_of_ble_eq_true rfl) ?_
  exact am_vret rfl d_ACo_init_4 ⟨rfl, rfl⟩

set_option maxRecDepth 100000 in
set_option maxHeartbeats 4000000 in
theorem c_ALs_init (O : am_ok K X) {n r : Nat} {f : Nat → am_C} {e : Value} {z x : Int32} (h0 : f r = .inr (3, [e, .int z, .int x])) (h1 : 128 ≤ r) (h2 : r < n) : am_Mt K X m_ALs_init 2 0 0 [.ref r] (n, f) (fun v h' => v = none ∧ h' = (n, va_up f r (.inr (3, [e, .int z, .int 0])))) := by
  refine am_enter (by decide +kernel) (Nat.le_of_ble_eq_true rfl) ?_
  refine am_aload_n d_ALs_init_0 rfl rfl ?_
  refine am_callI O c_ACo_init rfl l_ALs_1 w_327 rfl rfl rfl (Nat.le_of_ble_eq_true rfl) d_ALs_init_1 (by omega) (by omega) (by omega) (fun v h' hp => ?_)
  obtain ⟨rfl, rfl⟩ := hp
  refine am_aload_n d_ALs_init_4 rfl rfl ?_
  refine am_iconst (v := 0) d_ALs_init_5 (by decide) ?_
  refine am_put O f_ALs_7 d_ALs_init_6 (by (repeat (first | rw [va_up_self] | rw [va_up_ne _ _ (by omega)])); first | done | rfl | assumption) (by omega) (by omega) (Nat.le_of_ble_eq_true rfl) (fun q hq => by cases hq; exact ⟨rfl, rfl, rfl⟩) ?_
  exact am_vret rfl d_ALs_init_9 ⟨rfl, rfl⟩

set_option maxRecDepth 100000 in
set_option maxHeartbeats 4000000 in
theorem c_AL_init (O : am_ok K X) (E : am_E0 K) {n r : Nat} {f : Nat → am_C} (h0 : f r = .inr (3, [.null, .int 0, .int 0])) (h1 : 128 ≤ r) (h2 : r < n) : am_Mt K X m_AL_init 3 0 0 [.ref r] (n, f) (fun v h' => v = none ∧ h' = (n + 0, F_AL n f r)) := by
  refine am_enter (by decide +kernel) (Nat.le_of_ble_eq_true rfl) ?_
  refine am_aload_n d_AL_init_0 rfl rfl ?_
  refine am_callI O (c_ALs_init O h0 h1 h2) rfl l_AL_1 w_324 rfl rfl rfl (Nat.le_of_ble_eq_true rfl) d_AL_init_1 (by omega) (by omega) (by omega) (fun v h' hp => ?_)
  obtain ⟨rfl, rfl⟩ := hp
  refine am_aload_n d_AL_init_4 rfl rfl ?_
  refine am_gets (v := .ref 1) E.2.2 w_330 d_AL_init_5 ?_
  refine am_put O f_AL_9 d_AL_init_8 (by (repeat (first | rw [va_up_self] | rw [va_up_ne _ _ (by omega)])); first | done | rfl | assumption) (by omega) (by omega) (Nat.le_of_ble_eq_true rfl) (fun q hq => by cases hq; exact ⟨rfl, rfl, rfl⟩) ?_
  refine am_vret rfl d_AL_init_11 ⟨rfl, ?_⟩
  exact Prod.ext rfl (bx_uu f r _ _)


set_option maxRecDepth 100000 in
set_option maxHeartbeats 4000000 in
theorem c_Unit_init (O : am_ok K X) {n r p q : Nat} {f : Nat → am_C} {a : Int64} {x y z : Int32} (h0 : f r = .inr (4, [.long 0, .int 0, .int 0, .int 0, .null, .null])) (h1 : 128 ≤ r) (h2 : r < n) : am_Mt K X m_Unit_init 1 0 0 [.ref r, .long a, .int x, .int y, .int z, .ref p, .ref q] (n, f) (fun v h' => v = none ∧ h' = (n + 0, va_up f r (.inr (4, [.long a, .int x, .int y, .int z, .ref p, .ref q])))) := by
  refine am_enter (by decide +kernel) (Nat.le_of_ble_eq_true rfl) ?_
  refine am_aload_n d_Unit_init_0 rfl rfl ?_
  refine am_obj w_349 w_177 w_178 d_Unit_init_1 (by omega) (Nat.le_of_ble_eq_true rfl) ?_
  refine am_aload_n d_Unit_init_4 rfl rfl ?_
  refine am_lload_n d_Unit_init_5 rfl rfl ?_
  refine am_putF O f_Unit_7 (fun q hq => by cases hq; exact ⟨w_350, rfl⟩) rfl d_Unit_init_6 (by (repeat (first | rw [va_up_self] | rw [va_up_ne _ _ (by omega)])); first | done | rfl | assumption) (by omega) (by omega) (Nat.le_of_ble_eq_true rfl) (fun q hq => by cases hq; exact ⟨rfl, rfl, rfl⟩) ?_
  refine am_aload_n d_Unit_init_9 rfl rfl ?_
  refine am_iload_n d_Unit_init_10 rfl rfl ?_
  refine am_putF O f_Unit_13 (fun q hq => by cases hq; exact ⟨w_351, rfl⟩) rfl d_Unit_init_11 (by (repeat (first | rw [va_up_self] | rw [va_up_ne _ _ (by omega)])); first | done | rfl | assumption) (by omega) (by omega) (Nat.le_of_ble_eq_true rfl) (fun q hq => by cases hq; exact ⟨rfl, rfl, rfl⟩) ?_
  refine am_aload_n d_Unit_init_14 rfl rfl ?_
  refine am_iload d_Unit_init_15 rfl ?_
  refine am_putF O f_Unit_17 (fun q hq => by cases hq; exact ⟨w_352, rfl⟩) rfl d_Unit_init_17 (by (repeat (first | rw [va_up_self] | rw [va_up_ne _ _ (by omega)])); first | done | rfl | assumption) (by omega) (by omega) (Nat.le_of_ble_eq_true rfl) (fun q hq => by cases hq; exact ⟨rfl, rfl, rfl⟩) ?_
  refine am_aload_n d_Unit_init_20 rfl rfl ?_
  refine am_iload d_Unit_init_21 rfl ?_
  refine am_putF O f_Unit_20 (fun q hq => by cases hq; exact ⟨w_353, rfl⟩) rfl d_Unit_init_23 (by (repeat (first | rw [va_up_self] | rw [va_up_ne _ _ (by omega)])); first | done | rfl | assumption) (by omega) (by omega) (Nat.le_of_ble_eq_true rfl) (fun q hq => by cases hq; exact ⟨rfl, rfl, rfl⟩) ?_
  refine am_aload_n d_Unit_init_26 rfl rfl ?_
  refine am_aload d_Unit_init_27 rfl ?_
  refine am_putF O f_Unit_23 (fun q hq => by cases hq; exact ⟨w_354, rfl⟩) rfl d_Unit_init_29 (by (repeat (first | rw [va_up_self] | rw [va_up_ne _ _ (by omega)])); first | done | rfl | assumption) (by omega) (by omega) (Nat.le_of_ble_eq_true rfl) (fun q hq => by cases hq; exact ⟨rfl, rfl, rfl⟩) ?_
  refine am_aload_n d_Unit_init_32 rfl rfl ?_
  refine am_aload d_Unit_init_33 rfl ?_
  refine am_putF O f_Unit_27 (fun q hq => by cases hq; exact ⟨w_355, rfl⟩) rfl d_Unit_init_35 (by (repeat (first | rw [va_up_self] | rw [va_up_ne _ _ (by omega)])); first | done | rfl | assumption) (by omega) (by omega) (Nat.le_of_ble_eq_true rfl) (fun q hq => by cases hq; exact ⟨rfl, rfl, rfl⟩) ?_
  refine am_vret rfl d_Unit_init_38 ⟨rfl, ?_⟩
  refine Prod.ext rfl ?_
  show va_up _ _ _ = va_up _ _ _
  simp only [bx_uu]
  rfl
end
end
section
section
variable {K : am_K} {X : Nat → am_C}
theorem lx_upd (a : Nat → Int64) (k : Nat) (x : Int64) : updV (fun j => .long (a j)) k (.long x) = fun j => Value.long (vp_updL a k x j) := by
  funext j
  by_cases h : j = k
  · simp [updV, vp_updL, h]
  · simp [updV, vp_updL, h]

set_option maxRecDepth 100000 in
set_option maxHeartbeats 4000000 in
theorem lx_loop (O : am_ok K X) (E : am_E0 K) {tx : String} (Z : vk_R "StowTongue$Lexer" 19 tx (am_ad K 2) K.1) {L : Nat} {g : Nat → Int32} (S : am_str K 2 L g) {n r q kc ks uc us : Nat} {f : Nat → am_C} {tl : List Value} (h0 : f r = .inr (1, .ref q :: tl)) (hr : 128 ≤ r) (hr2 : r < n) (hq : 128 ≤ q) (hq2 : q < n) (hrq : r ≠ q) (hkc : uc ≤ kc) (hks : us ≤ ks) : ∀ (m k w : Nat) (x2 : Int32) (a : Nat → Int64), k ≤ L → w ≤ 12 → L - k < m → am_W K X m_Lexer_init 4 kc ks uc us 25 [(0, .ref r), (1, .int (nI w)), (2, .int x2), (3, .int (nI k))] [] (n, va_up f q (.inl (.long, 12, fun j => .long (a j)))) (fun v h' => v = none ∧ ∃ a : Nat → Int64, h' = (n, va_up f q (.inl (.long, 12, fun j => .long (a j))))) := by
  have hL := S.2.2.2.2
  intro m
  induction m with
  | zero => intro k w x2 a h1 h2 h3; omega
  | succ m ih =>
    intro k w x2 a hk hw hm
    refine am_iload_n d_Lexer_init_25 rfl rfl ?_
    refine am_ldcS Z d_Lexer_init_26 ?_
    refine am_callVE O (c_Str_length O E S) rfl S.1 l_Lexer_21 ⟨w_210, w_211⟩ rfl (Nat.le_of_ble_eq_true rfl) d_Lexer_init_28 (by omega) (by omega) (by omega) (fun v h' hp => ?_)
    obtain ⟨rfl, rfl⟩ := hp
    refine am_icmp_ge (tgt := 87) d_Lexer_init_31 (by decide) (fun c_31 => ?_) (fun c_31 => ?_)
    · exact am_vret rfl d_Lexer_init_87 ⟨rfl, a, rfl⟩
    · have hkL : k < L := by
        rcases Nat.lt_or_ge k L with q | q
        · exact q
        · exact absurd (nI_le q (by omega)) c_31
      refine am_iload_n d_Lexer_init_34 rfl rfl ?_
      refine am_bipush (v := 12) d_Lexer_init_35 (by decide) ?_
      refine am_icmp_ge (tgt := 87) d_Lexer_init_37 (by decide) (fun c_37 => ?_) (fun c_37 => ?_)
      · exact am_vret rfl d_Lexer_init_87 ⟨rfl, a, rfl⟩
      · have hw12 : w < 12 := by
          rcases Nat.lt_or_ge w 12 with q | q
          · exact q
          · exact absurd (nI_le q (by omega)) c_37
        refine am_ldcS Z d_Lexer_init_40 ?_
        refine am_iload_n d_Lexer_init_42 rfl rfl ?_
        refine am_callVE O (c_Str_charAt O E S hkL) rfl S.1 l_Lexer_27 ⟨w_220, w_221⟩ rfl (Nat.le_of_ble_eq_true rfl) d_Lexer_init_43 (by omega) (by omega) (by omega) (fun v h' hp => ?_)
        obtain ⟨rfl, rfl⟩ := hp
        refine am_istore d_Lexer_init_46 (by decide) ?_
        refine am_iload d_Lexer_init_48 rfl ?_
        refine am_bipush (v := 32) d_Lexer_init_50 (by decide) ?_
        refine am_icmp_ne (tgt := 63) d_Lexer_init_52 (by decide) (fun c_52 => ?_) (fun c_52 => ?_)
        · refine am_aload_n d_Lexer_init_63 rfl rfl ?_
          refine am_get O f_Lexer_11 d_Lexer_init_64 (by (repeat (first | rw [va_up_self] | rw [va_up_ne _ _ (by omega)])); first | done | rfl | assumption) (by omega) (by omega) rfl ?_
          refine am_iload_n d_Lexer_init_67 rfl rfl ?_
          refine am_dup2 d_Lexer_init_68 rfl rfl ?_
          refine am_lald O (by decide) d_Lexer_init_69 (by (repeat (first | rw [va_up_self] | rw [va_up_ne _ _ (by omega)])); first | done | rfl | assumption) (by omega) (by omega) (vp_in_nI hw12 (by omega)) rfl ?_
          refine am_iload d_Lexer_init_70 rfl ?_
          refine am_iload_n d_Lexer_init_72 rfl rfl ?_
          refine am_callS O c_Cell_placed rfl l_Lexer_31 w_258 rfl (Nat.le_of_ble_eq_true rfl) d_Lexer_init_73 (by omega) (by omega) (by omega) (fun v h' hp => ?_)
          obtain ⟨rfl, rfl⟩ := hp
          refine am_lor d_Lexer_init_76 ?_
          refine am_last O (by decide) d_Lexer_init_77 (by (repeat (first | rw [va_up_self] | rw [va_up_ne _ _ (by omega)])); first | done | rfl | assumption) (by omega) (by omega) (vp_in_nI hw12 (by omega)) ?_
          refine am_iinc (v := 1) d_Lexer_init_78 rfl (by decide) (by decide) ?_
          refine am_iinc (v := 1) d_Lexer_init_81 rfl (by decide) (by decide) ?_
          refine am_goto (tgt := 25) d_Lexer_init_84 (by decide) ?_
          rw [bx_uu, lx_upd]
          refine am_locs (lv' := [(0, .ref r), (1, .int (nI w)), (2, .int (x2 + 1)), (3, .int (nI (k + 1)))]) (by rw [← nI_1]; rfl) ?_
          exact ih (k + 1) w (x2 + 1) _ (by omega) hw (by omega)
        · refine am_iinc (v := 1) d_Lexer_init_55 rfl (by decide) (by decide) ?_
          refine am_iconst (v := 0) d_Lexer_init_58 (by decide) ?_
          refine am_istore_n d_Lexer_init_59 rfl (by decide) ?_
          refine am_goto (tgt := 81) d_Lexer_init_60 (by decide) ?_
          refine am_iinc (v := 1) d_Lexer_init_81 rfl (by decide) (by decide) ?_
          refine am_goto (tgt := 25) d_Lexer_init_84 (by decide) ?_
          refine am_locs (lv' := [(0, .ref r), (1, .int (nI (w + 1))), (2, .int 0), (3, .int (nI (k + 1)))]) (by rw [← nI_1, ← nI_1]; rfl) ?_
          exact ih (k + 1) (w + 1) 0 a (by omega) (by omega) (by omega)

theorem am_up_same {f : Nat → am_C} {q : Nat} {c : am_C} (h : f q = c) : va_up f q c = f := by
  funext x
  by_cases hx : x = q
  · subst hx
    rw [va_up_self, h]
  · rw [va_up_ne _ _ hx]
theorem am_self {M : am_M} {d kc ks uc us pc n q : Nat} {lv : List (Nat × Value)} {st : List Value} {f : Nat → am_C} {post : Option Value → am_H → Prop} (c : am_C) (hc : f q = c) (k : am_W K X M d kc ks uc us pc lv st (n, va_up f q c) post) : am_W K X M d kc ks uc us pc lv st (n, f) post := by
  rw [am_up_same hc] at k
  exact k

def F_Lexer (n : Nat) (f : Nat → am_C) (r : Nat) (a : Nat → Int64) : Nat → am_C := va_up (va_up (va_up (va_up (va_up f n (.inl (.long, 12, fun _ => .long 0))) r (.inr (1, [.ref n, .null, .int 0, .int 0, .int 0, .int 0, .int 0, .int 0, .long 0, .long 0]))) (n + 1) (.inl (.byte, 0, fun _ => .int 0))) r (.inr (1, [.ref n, .ref (n + 1), .int 0, .int 0, .int 0, .int 0, .int 0, .int 0, .long 0, .long 0]))) n (.inl (.long, 12, fun j => .long (a j)))
theorem F_Lexer_lt {n : Nat} {f : Nat → am_C} {r x : Nat} {a : Nat → Int64} (hx : x < n) (hr : x ≠ r) : F_Lexer n f r a x = f x := by
  unfold F_Lexer
  (repeat rw [va_up_ne _ _ (by omega)])

set_option maxRecDepth 100000 in
set_option maxHeartbeats 4000000 in
theorem c_Lexer_init (O : am_ok K X) (E : am_E0 K) {tx : String} (Z : vk_R "StowTongue$Lexer" 19 tx (am_ad K 2) K.1) {L : Nat} {g : Nat → Int32} (S : am_str K 2 L g) {n r : Nat} {f : Nat → am_C} (h0 : f r = .inr (1, [.null, .null, .int 0, .int 0, .int 0, .int 0, .int 0, .int 0, .long 0, .long 0])) (h1 : 128 ≤ r) (h2 : r < n) : am_Mt K X m_Lexer_init 4 2 12 [.ref r] (n, f) (fun v h' => v = none ∧ ∃ a : Nat → Int64, h' = (n + 2, F_Lexer n f r a)) := by
  refine am_enter (by decide +kernel) (Nat.le_of_ble_eq_true rfl) ?_
  refine am_aload_n d_Lexer_init_0 rfl rfl ?_
  refine am_obj w_207 w_177 w_178 d_Lexer_init_1 (by omega) (Nat.le_of_ble_eq_true rfl) ?_
  refine am_aload_n d_Lexer_init_4 rfl rfl ?_
  refine am_bipush (v := 12) d_Lexer_init_5 (by decide) ?_
  refine am_newa (at_ := .long) (ty := .long) (N := 12) O rfl (by decide) w_291 d_Lexer_init_7 (by decide) (by decide) (by decide) (by omega) (by omega) ?_
  refine am_putF O f_Lexer_11 (fun q hq => by cases hq; exact ⟨w_260, rfl⟩) rfl d_Lexer_init_9 (by (repeat (first | rw [va_up_self] | rw [va_up_ne _ _ (by omega)] | rw [F_Vals_lt (by omega) (by omega)] | rw [F_Code_init_1500_lt (by omega) (by omega)] | rw [F_Code_init_400_lt (by omega) (by omega)] | rw [F_State_init_lt (by omega) (by omega)] | rw [F_Out_init_lt (by omega) (by omega)] | rw [F_Draft_init_lt (by omega) (by omega)] | rw [F_Sweep_init_lt (by omega) (by omega)] | rw [F_Log_init_lt (by omega) (by omega)] | rw [F_Mach_init_lt (by omega) (by omega)] | rw [F_AL_lt (by omega) (by omega)])); first | done | rfl | assumption) (by omega) (by omega) (Nat.le_of_ble_eq_true rfl) (fun q hq => by cases hq; exact ⟨rfl, rfl, rfl⟩) ?_
  refine am_aload_n d_Lexer_init_12 rfl rfl ?_
  refine am_iconst (v := 0) d_Lexer_init_13 (by decide) ?_
  refine am_newa (at_ := .byte) (ty := .byte) (N := 0) O rfl (by decide) w_195 d_Lexer_init_14 (by decide) (by decide) (by decide) (by omega) (by omega) ?_
  refine am_put O f_Lexer_15 d_Lexer_init_16 (by (repeat (first | rw [va_up_self] | rw [va_up_ne _ _ (by omega)] | rw [F_Vals_lt (by omega) (by omega)] | rw [F_Code_init_1500_lt (by omega) (by omega)] | rw [F_Code_init_400_lt (by omega) (by omega)] | rw [F_State_init_lt (by omega) (by omega)] | rw [F_Out_init_lt (by omega) (by omega)] | rw [F_Draft_init_lt (by omega) (by omega)] | rw [F_Sweep_init_lt (by omega) (by omega)] | rw [F_Log_init_lt (by omega) (by omega)] | rw [F_Mach_init_lt (by omega) (by omega)] | rw [F_AL_lt (by omega) (by omega)])); first | done | rfl | assumption) (by omega) (by omega) (Nat.le_of_ble_eq_true rfl) (fun q hq => by cases hq; exact ⟨rfl, rfl, rfl⟩) ?_
  refine am_iconst (v := 0) d_Lexer_init_19 (by decide) ?_
  refine am_istore_n d_Lexer_init_20 rfl (by decide) ?_
  refine am_iconst (v := 0) d_Lexer_init_21 (by decide) ?_
  refine am_istore_n d_Lexer_init_22 rfl (by decide) ?_
  refine am_iconst (v := 0) d_Lexer_init_23 (by decide) ?_
  refine am_istore_n d_Lexer_init_24 rfl (by decide) ?_
  refine am_self (q := n) (.inl (.long, 12, fun j => .long ((fun _ => 0) j))) (by (repeat (first | rw [va_up_self] | rw [va_up_ne _ _ (by omega)] | rw [F_Vals_lt (by omega) (by omega)] | rw [F_Code_init_1500_lt (by omega) (by omega)] | rw [F_Code_init_400_lt (by omega) (by omega)] | rw [F_State_init_lt (by omega) (by omega)] | rw [F_Out_init_lt (by omega) (by omega)] | rw [F_Draft_init_lt (by omega) (by omega)] | rw [F_Sweep_init_lt (by omega) (by omega)] | rw [F_Log_init_lt (by omega) (by omega)] | rw [F_Mach_init_lt (by omega) (by omega)] | rw [F_AL_lt (by omega) (by omega)])); first | done | rfl | assumption) ?_
  refine am_locs (lv' := [(0, .ref r), (1, .int (nI 0)), (2, .int 0), (3, .int (nI 0))]) rfl ?_
  exact lx_loop O E Z S (tl := _) (by (repeat (first | rw [va_up_self] | rw [va_up_ne _ _ (by omega)] | rw [F_Vals_lt (by omega) (by omega)] | rw [F_Code_init_1500_lt (by omega) (by omega)] | rw [F_Code_init_400_lt (by omega) (by omega)] | rw [F_State_init_lt (by omega) (by omega)] | rw [F_Out_init_lt (by omega) (by omega)] | rw [F_Draft_init_lt (by omega) (by omega)] | rw [F_Sweep_init_lt (by omega) (by omega)] | rw [F_Log_init_lt (by omega) (by omega)] | rw [F_Mach_init_lt (by omega) (by omega)] | rw [F_AL_lt (by omega) (by omega)])); first | done | rfl | assumption) (by omega) (by omega) (by omega) (by omega) (by omega) (by omega) (by omega) (L + 1) 0 0 0 (fun _ => 0) (by omega) (by omega) (by omega)
end
end
section
section
variable {K : am_K} {X : Nat → am_C}
def F_Pars_init (n : Nat) (f : Nat → am_C) (r : Nat) (aL : Nat → Int64) : Nat → am_C := va_up (va_up (va_up (va_up (va_up (va_up (F_AL (n + 12) (va_up (va_up (va_up (F_Draft_init (n + 8) (va_up (va_up (F_Draft_init (n + 4) (va_up (va_up (F_Lexer (n + 1) (va_up f n (.inr (1, [.null, .null, .int 0, .int 0, .int 0, .int 0, .int 0, .int 0, .long 0, .long 0]))) n aL) r (.inr (5, [.ref n, .null, .null, .null, .null, .null, .int 0, .int 0]))) (n + 3) (.inr (2, [.null, .int 0, .null, .int 0, .null, .int 0]))) (n + 3)) r (.inr (5, [.ref n, .ref (n + 3), .null, .null, .null, .null, .int 0, .int 0]))) (n + 7) (.inr (2, [.null, .int 0, .null, .int 0, .null, .int 0]))) (n + 7)) r (.inr (5, [.ref n, .ref (n + 3), .ref (n + 7), .null, .null, .null, .int 0, .int 0]))) r (.inr (5, [.ref n, .ref (n + 3), .ref (n + 7), .ref (n + 3), .null, .null, .int 0, .int 0]))) (n + 11) (.inr (3, [.null, .int 0, .int 0]))) (n + 11)) r (.inr (5, [.ref n, .ref (n + 3), .ref (n + 7), .ref (n + 3), .ref (n + 11), .null, .int 0, .int 0]))) (n + 12) (.inr (4, [.long 0, .int 0, .int 0, .int 0, .null, .null]))) (n + 13) (.inl (.int, 0, fun _ => .int 0))) (n + 14) (.inl (.long, 0, fun _ => .long 0))) (n + 12) (.inr (4, [.long 0, .int 0, .int 0, .int 0, .ref (n + 13), .ref (n + 14)]))) r (.inr (5, [.ref n, .ref (n + 3), .ref (n + 7), .ref (n + 3), .ref (n + 11), .ref (n + 12), .int 0, .int 0]))
theorem F_Pars_init_lt {n : Nat} {f : Nat → am_C} {r x : Nat} {aL : Nat → Int64} (hx : x < n) (hr : x ≠ r) : F_Pars_init n f r aL x = f x := by
  unfold F_Pars_init
  (repeat (first | rw [va_up_ne _ _ (by omega)] | rw [F_Vals_lt (by omega) (by omega)] | rw [F_Code_init_1500_lt (by omega) (by omega)] | rw [F_Code_init_400_lt (by omega) (by omega)] | rw [F_State_init_lt (by omega) (by omega)] | rw [F_Out_init_lt (by omega) (by omega)] | rw [F_Draft_init_lt (by omega) (by omega)] | rw [F_Sweep_init_lt (by omega) (by omega)] | rw [F_Log_init_lt (by omega) (by omega)] | rw [F_Mach_init_lt (by omega) (by omega)] | rw [F_AL_lt (by omega) (by omega)] | rw [F_Lexer_lt (by omega) (by omega)]))
theorem F_Pars_init_self {n : Nat} {f : Nat → am_C} {r : Nat} {aL : Nat → Int64} (hr : r < n) : F_Pars_init n f r aL r = .inr (5, [.ref n, .ref (n + 3), .ref (n + 7), .ref (n + 3), .ref (n + 11), .ref (n + 12), .int 0, .int 0]) := by
  unfold F_Pars_init
  (repeat (first | rw [va_up_self] | rw [va_up_ne _ _ (by omega)] | rw [F_Vals_lt (by omega) (by omega)] | rw [F_Code_init_1500_lt (by omega) (by omega)] | rw [F_Code_init_400_lt (by omega) (by omega)] | rw [F_State_init_lt (by omega) (by omega)] | rw [F_Out_init_lt (by omega) (by omega)] | rw [F_Draft_init_lt (by omega) (by omega)] | rw [F_Sweep_init_lt (by omega) (by omega)] | rw [F_Log_init_lt (by omega) (by omega)] | rw [F_Mach_init_lt (by omega) (by omega)] | rw [F_AL_lt (by omega) (by omega)] | rw [F_Lexer_lt (by omega) (by omega)]))

set_option maxRecDepth 100000 in
set_option maxHeartbeats 4000000 in
theorem c_Pars_init (O : am_ok K X) (E : am_E0 K) {tx : String} (Z : vk_R "StowTongue$Lexer" 19 tx (am_ad K 2) K.1) {L : Nat} {g : Nat → Int32} (S : am_str K 2 L g) {n r : Nat} {f : Nat → am_C} (h0 : f r = .inr (5, [.null, .null, .null, .null, .null, .null, .int 0, .int 0])) (h1 : 128 ≤ r) (h2 : r < n) : am_Mt K X m_Pars_init 5 15 395 [.ref r] (n, f) (fun v h' => v = none ∧ ∃ aL : Nat → Int64, h' = (n + 15, F_Pars_init n f r aL)) := by
  refine am_enter (by decide +kernel) (Nat.le_of_ble_eq_true rfl) ?_
  refine am_aload_n d_Pars_init_0 rfl rfl ?_
  refine am_obj w_201 w_177 w_178 d_Pars_init_1 (by omega) (Nat.le_of_ble_eq_true rfl) ?_
  refine am_aload_n d_Pars_init_4 rfl rfl ?_
  refine am_new O n_Pars_9 d_Pars_init_5 (by omega) (by omega) ?_
  refine am_dup d_Pars_init_8 rfl ?_
  refine am_callI O (c_Lexer_init O E Z S (by (repeat (first | rw [va_up_self] | rw [va_up_ne _ _ (by omega)] | rw [F_Vals_lt (by omega) (by omega)] | rw [F_Code_init_1500_lt (by omega) (by omega)] | rw [F_Code_init_400_lt (by omega) (by omega)] | rw [F_State_init_lt (by omega) (by omega)] | rw [F_Out_init_lt (by omega) (by omega)] | rw [F_Draft_init_lt (by omega) (by omega)] | rw [F_Sweep_init_lt (by omega) (by omega)] | rw [F_Log_init_lt (by omega) (by omega)] | rw [F_Mach_init_lt (by omega) (by omega)] | rw [F_AL_lt (by omega) (by omega)] | rw [F_Lexer_lt (by omega) (by omega)])); first | done | rfl | assumption) (by omega) (by omega)) rfl l_Pars_11 w_205 rfl rfl rfl (Nat.le_of_ble_eq_true rfl) d_Pars_init_9 (by omega) (by omega) (by omega) (fun v h' hp => ?_)
  obtain ⟨rfl, aL, rfl⟩ := hp
  refine am_putF O f_Pars_12 (fun q hq => by cases hq; exact ⟨w_369, rfl⟩) rfl d_Pars_init_12 (by (repeat (first | rw [va_up_self] | rw [va_up_ne _ _ (by omega)] | rw [F_Vals_lt (by omega) (by omega)] | rw [F_Code_init_1500_lt (by omega) (by omega)] | rw [F_Code_init_400_lt (by omega) (by omega)] | rw [F_State_init_lt (by omega) (by omega)] | rw [F_Out_init_lt (by omega) (by omega)] | rw [F_Draft_init_lt (by omega) (by omega)] | rw [F_Sweep_init_lt (by omega) (by omega)] | rw [F_Log_init_lt (by omega) (by omega)] | rw [F_Mach_init_lt (by omega) (by omega)] | rw [F_AL_lt (by omega) (by omega)] | rw [F_Lexer_lt (by omega) (by omega)])); first | done | rfl | assumption) (by omega) (by omega) (Nat.le_of_ble_eq_true rfl) (fun q hq => by cases hq; exact ⟨rfl, rfl, rfl⟩) ?_
  refine am_aload_n d_Pars_init_15 rfl rfl ?_
  refine am_new O n_Pars_18 d_Pars_init_16 (by omega) (by omega) ?_
  refine am_dup d_Pars_init_19 rfl ?_
  refine am_callI O (c_Draft_init O (by (repeat (first | rw [va_up_self] | rw [va_up_ne _ _ (by omega)] | rw [F_Vals_lt (by omega) (by omega)] | rw [F_Code_init_1500_lt (by omega) (by omega)] | rw [F_Code_init_400_lt (by omega) (by omega)] | rw [F_State_init_lt (by omega) (by omega)] | rw [F_Out_init_lt (by omega) (by omega)] | rw [F_Draft_init_lt (by omega) (by omega)] | rw [F_Sweep_init_lt (by omega) (by omega)] | rw [F_Log_init_lt (by omega) (by omega)] | rw [F_Mach_init_lt (by omega) (by omega)] | rw [F_AL_lt (by omega) (by omega)] | rw [F_Lexer_lt (by omega) (by omega)])); first | done | rfl | assumption) (by omega) (by omega)) rfl l_Pars_20 w_295 rfl rfl rfl (Nat.le_of_ble_eq_true rfl) d_Pars_init_20 (by omega) (by omega) (by omega) (fun v h' hp => ?_)
  obtain ⟨rfl, rfl⟩ := hp
  refine am_putF O f_Pars_21 (fun q hq => by cases hq; exact ⟨w_370, rfl⟩) rfl d_Pars_init_23 (by (repeat (first | rw [va_up_self] | rw [va_up_ne _ _ (by omega)] | rw [F_Vals_lt (by omega) (by omega)] | rw [F_Code_init_1500_lt (by omega) (by omega)] | rw [F_Code_init_400_lt (by omega) (by omega)] | rw [F_State_init_lt (by omega) (by omega)] | rw [F_Out_init_lt (by omega) (by omega)] | rw [F_Draft_init_lt (by omega) (by omega)] | rw [F_Sweep_init_lt (by omega) (by omega)] | rw [F_Log_init_lt (by omega) (by omega)] | rw [F_Mach_init_lt (by omega) (by omega)] | rw [F_AL_lt (by omega) (by omega)] | rw [F_Lexer_lt (by omega) (by omega)])); first | done | rfl | assumption) (by omega) (by omega) (Nat.le_of_ble_eq_true rfl) (fun q hq => by cases hq; exact ⟨rfl, rfl, rfl⟩) ?_
  refine am_aload_n d_Pars_init_26 rfl rfl ?_
  refine am_new O n_Pars_18 d_Pars_init_27 (by omega) (by omega) ?_
  refine am_dup d_Pars_init_30 rfl ?_
  refine am_callI O (c_Draft_init O (by (repeat (first | rw [va_up_self] | rw [va_up_ne _ _ (by omega)] | rw [F_Vals_lt (by omega) (by omega)] | rw [F_Code_init_1500_lt (by omega) (by omega)] | rw [F_Code_init_400_lt (by omega) (by omega)] | rw [F_State_init_lt (by omega) (by omega)] | rw [F_Out_init_lt (by omega) (by omega)] | rw [F_Draft_init_lt (by omega) (by omega)] | rw [F_Sweep_init_lt (by omega) (by omega)] | rw [F_Log_init_lt (by omega) (by omega)] | rw [F_Mach_init_lt (by omega) (by omega)] | rw [F_AL_lt (by omega) (by omega)] | rw [F_Lexer_lt (by omega) (by omega)])); first | done | rfl | assumption) (by omega) (by omega)) rfl l_Pars_20 w_295 rfl rfl rfl (Nat.le_of_ble_eq_true rfl) d_Pars_init_31 (by omega) (by omega) (by omega) (fun v h' hp => ?_)
  obtain ⟨rfl, rfl⟩ := hp
  refine am_putF O f_Pars_25 (fun q hq => by cases hq; exact ⟨w_371, rfl⟩) rfl d_Pars_init_34 (by (repeat (first | rw [va_up_self] | rw [va_up_ne _ _ (by omega)] | rw [F_Vals_lt (by omega) (by omega)] | rw [F_Code_init_1500_lt (by omega) (by omega)] | rw [F_Code_init_400_lt (by omega) (by omega)] | rw [F_State_init_lt (by omega) (by omega)] | rw [F_Out_init_lt (by omega) (by omega)] | rw [F_Draft_init_lt (by omega) (by omega)] | rw [F_Sweep_init_lt (by omega) (by omega)] | rw [F_Log_init_lt (by omega) (by omega)] | rw [F_Mach_init_lt (by omega) (by omega)] | rw [F_AL_lt (by omega) (by omega)] | rw [F_Lexer_lt (by omega) (by omega)])); first | done | rfl | assumption) (by omega) (by omega) (Nat.le_of_ble_eq_true rfl) (fun q hq => by cases hq; exact ⟨rfl, rfl, rfl⟩) ?_
  refine am_aload_n d_Pars_init_37 rfl rfl ?_
  refine am_aload_n d_Pars_init_38 rfl rfl ?_
  refine am_get O f_Pars_21 d_Pars_init_39 (by (repeat (first | rw [va_up_self] | rw [va_up_ne _ _ (by omega)] | rw [F_Vals_lt (by omega) (by omega)] | rw [F_Code_init_1500_lt (by omega) (by omega)] | rw [F_Code_init_400_lt (by omega) (by omega)] | rw [F_State_init_lt (by omega) (by omega)] | rw [F_Out_init_lt (by omega) (by omega)] | rw [F_Draft_init_lt (by omega) (by omega)] | rw [F_Sweep_init_lt (by omega) (by omega)] | rw [F_Log_init_lt (by omega) (by omega)] | rw [F_Mach_init_lt (by omega) (by omega)] | rw [F_AL_lt (by omega) (by omega)] | rw [F_Lexer_lt (by omega) (by omega)])); first | done | rfl | assumption) (by omega) (by omega) rfl ?_
  refine am_put O f_Pars_28 d_Pars_init_42 (by (repeat (first | rw [va_up_self] | rw [va_up_ne _ _ (by omega)] | rw [F_Vals_lt (by omega) (by omega)] | rw [F_Code_init_1500_lt (by omega) (by omega)] | rw [F_Code_init_400_lt (by omega) (by omega)] | rw [F_State_init_lt (by omega) (by omega)] | rw [F_Out_init_lt (by omega) (by omega)] | rw [F_Draft_init_lt (by omega) (by omega)] | rw [F_Sweep_init_lt (by omega) (by omega)] | rw [F_Log_init_lt (by omega) (by omega)] | rw [F_Mach_init_lt (by omega) (by omega)] | rw [F_AL_lt (by omega) (by omega)] | rw [F_Lexer_lt (by omega) (by omega)])); first | done | rfl | assumption) (by omega) (by omega) (Nat.le_of_ble_eq_true rfl) (fun q hq => by cases hq; exact ⟨rfl, rfl, rfl⟩) ?_
  refine am_aload_n d_Pars_init_45 rfl rfl ?_
  refine am_new O n_Pars_31 d_Pars_init_46 (by omega) (by omega) ?_
  refine am_dup d_Pars_init_49 rfl ?_
  refine am_callI O (c_AL_init O E (by (repeat (first | rw [va_up_self] | rw [va_up_ne _ _ (by omega)] | rw [F_Vals_lt (by omega) (by omega)] | rw [F_Code_init_1500_lt (by omega) (by omega)] | rw [F_Code_init_400_lt (by omega) (by omega)] | rw [F_State_init_lt (by omega) (by omega)] | rw [F_Out_init_lt (by omega) (by omega)] | rw [F_Draft_init_lt (by omega) (by omega)] | rw [F_Sweep_init_lt (by omega) (by omega)] | rw [F_Log_init_lt (by omega) (by omega)] | rw [F_Mach_init_lt (by omega) (by omega)] | rw [F_AL_lt (by omega) (by omega)] | rw [F_Lexer_lt (by omega) (by omega)])); first | done | rfl | assumption) (by omega) (by omega)) rfl l_Pars_33 w_321 rfl rfl rfl (Nat.le_of_ble_eq_true rfl) d_Pars_init_50 (by omega) (by omega) (by omega) (fun v h' hp => ?_)
  obtain ⟨rfl, rfl⟩ := hp
  refine am_putF O f_Pars_34 (fun q hq => by cases hq; exact ⟨w_373, rfl⟩) rfl d_Pars_init_53 (by (repeat (first | rw [va_up_self] | rw [va_up_ne _ _ (by omega)] | rw [F_Vals_lt (by omega) (by omega)] | rw [F_Code_init_1500_lt (by omega) (by omega)] | rw [F_Code_init_400_lt (by omega) (by omega)] | rw [F_State_init_lt (by omega) (by omega)] | rw [F_Out_init_lt (by omega) (by omega)] | rw [F_Draft_init_lt (by omega) (by omega)] | rw [F_Sweep_init_lt (by omega) (by omega)] | rw [F_Log_init_lt (by omega) (by omega)] | rw [F_Mach_init_lt (by omega) (by omega)] | rw [F_AL_lt (by omega) (by omega)] | rw [F_Lexer_lt (by omega) (by omega)])); first | done | rfl | assumption) (by omega) (by omega) (Nat.le_of_ble_eq_true rfl) (fun q hq => by cases hq; exact ⟨rfl, rfl, rfl⟩) ?_
  refine am_aload_n d_Pars_init_56 rfl rfl ?_
  refine am_new O n_Pars_38 d_Pars_init_57 (by omega) (by omega) ?_
  refine am_dup d_Pars_init_60 rfl ?_
  refine am_lconst (v := 0) d_Pars_init_61 (by decide) ?_
  refine am_iconst (v := 0) d_Pars_init_62 (by decide) ?_
  refine am_iconst (v := 0) d_Pars_init_63 (by decide) ?_
  refine am_iconst (v := 0) d_Pars_init_64 (by decide) ?_
  refine am_iconst (v := 0) d_Pars_init_65 (by decide) ?_
  refine am_newa (at_ := .int) (ty := .int) (N := 0) O rfl (by decide) w_317 d_Pars_init_66 (by decide) (by decide) (by decide) (by omega) (by omega) ?_
  refine am_iconst (v := 0) d_Pars_init_68 (by decide) ?_
  refine am_newa (at_ := .long) (ty := .long) (N := 0) O rfl (by decide) w_291 d_Pars_init_69 (by decide) (by decide) (by decide) (by omega) (by omega) ?_
  refine am_callI O (c_Unit_init O (by (repeat (first | rw [va_up_self] | rw [va_up_ne _ _ (by omega)] | rw [F_Vals_lt (by omega) (by omega)] | rw [F_Code_init_1500_lt (by omega) (by omega)] | rw [F_Code_init_400_lt (by omega) (by omega)] | rw [F_State_init_lt (by omega) (by omega)] | rw [F_Out_init_lt (by omega) (by omega)] | rw [F_Draft_init_lt (by omega) (by omega)] | rw [F_Sweep_init_lt (by omega) (by omega)] | rw [F_Log_init_lt (by omega) (by omega)] | rw [F_Mach_init_lt (by omega) (by omega)] | rw [F_AL_lt (by omega) (by omega)] | rw [F_Lexer_lt (by omega) (by omega)])); first | done | rfl | assumption) (by omega) (by omega)) rfl l_Pars_40 w_347 rfl rfl rfl (Nat.le_of_ble_eq_true rfl) d_Pars_init_71 (by omega) (by omega) (by omega) (fun v h' hp => ?_)
  obtain ⟨rfl, rfl⟩ := hp
  refine am_put O f_Pars_43 d_Pars_init_74 (by (repeat (first | rw [va_up_self] | rw [va_up_ne _ _ (by omega)] | rw [F_Vals_lt (by omega) (by omega)] | rw [F_Code_init_1500_lt (by omega) (by omega)] | rw [F_Code_init_400_lt (by omega) (by omega)] | rw [F_State_init_lt (by omega) (by omega)] | rw [F_Out_init_lt (by omega) (by omega)] | rw [F_Draft_init_lt (by omega) (by omega)] | rw [F_Sweep_init_lt (by omega) (by omega)] | rw [F_Log_init_lt (by omega) (by omega)] | rw [F_Mach_init_lt (by omega) (by omega)] | rw [F_AL_lt (by omega) (by omega)] | rw [F_Lexer_lt (by omega) (by omega)])); first | done | rfl | assumption) (by omega) (by omega) (Nat.le_of_ble_eq_true rfl) (fun q hq => by cases hq; exact ⟨rfl, rfl, rfl⟩) ?_
  exact am_vret rfl d_Pars_init_77 ⟨rfl, aL, rfl⟩

def F_Stow_init (n : Nat) (f : Nat → am_C) (r : Nat) (aL : Nat → Int64) : Nat → am_C := va_up (F_Sweep_init (n + 29) (va_up (va_up (F_Log_init (n + 26) (va_up (va_up (F_Mach_init (n + 20) (va_up (va_up (F_Pars_init (n + 4) (va_up (va_up (F_Out_init (n + 2) (va_up (va_up (va_up f n (.inl (.byte, 1500, fun _ => .int 0))) r (.inr (9, [.ref n, .int 0, .null, .null, .null, .null, .null, .long 0, .long 0, .int 0]))) (n + 1) (.inr (0, [.null, .int 0, .int 0]))) (n + 1)) r (.inr (9, [.ref n, .int 0, .ref (n + 1), .null, .null, .null, .null, .long 0, .long 0, .int 0]))) (n + 3) (.inr (5, [.null, .null, .null, .null, .null, .null, .int 0, .int 0]))) (n + 3) aL) r (.inr (9, [.ref n, .int 0, .ref (n + 1), .ref (n + 3), .null, .null, .null, .long 0, .long 0, .int 0]))) (n + 19) (.inr (6, [.null, .null, .int 0, .int 0, .null, .int 0, .null, .null, .null, .int 0, .null, .null, .int 0, .int 0, .int 0, .int 0, .long 0, .long 0]))) (n + 19)) r (.inr (9, [.ref n, .int 0, .ref (n + 1), .ref (n + 3), .ref (n + 19), .null, .null, .long 0, .long 0, .int 0]))) (n + 25) (.inr (7, [.null, .null, .int 0, .int 0]))) (n + 25)) r (.inr (9, [.ref n, .int 0, .ref (n + 1), .ref (n + 3), .ref (n + 19), .ref (n + 25), .null, .long 0, .long 0, .int 0]))) (n + 28) (.inr (8, [.null, .null, .int 0]))) (n + 28)) r (.inr (9, [.ref n, .int 0, .ref (n + 1), .ref (n + 3), .ref (n + 19), .ref (n + 25), .ref (n + 28), .long 0, .long 0, .int 0]))
theorem F_Stow_init_lt {n : Nat} {f : Nat → am_C} {r x : Nat} {aL : Nat → Int64} (hx : x < n) (hr : x ≠ r) : F_Stow_init n f r aL x = f x := by
  unfold F_Stow_init
  (repeat (first | rw [va_up_ne _ _ (by omega)] | rw [F_Vals_lt (by omega) (by omega)] | rw [F_Code_init_1500_lt (by omega) (by omega)] | rw [F_Code_init_400_lt (by omega) (by omega)] | rw [F_State_init_lt (by omega) (by omega)] | rw [F_Out_init_lt (by omega) (by omega)] | rw [F_Draft_init_lt (by omega) (by omega)] | rw [F_Sweep_init_lt (by omega) (by omega)] | rw [F_Log_init_lt (by omega) (by omega)] | rw [F_Mach_init_lt (by omega) (by omega)] | rw [F_AL_lt (by omega) (by omega)] | rw [F_Lexer_lt (by omega) (by omega)] | rw [F_Pars_init_lt (by omega) (by omega)]))
theorem F_Stow_init_self {n : Nat} {f : Nat → am_C} {r : Nat} {aL : Nat → Int64} (hr : r < n) : F_Stow_init n f r aL r = .inr (9, [.ref n, .int 0, .ref (n + 1), .ref (n + 3), .ref (n + 19), .ref (n + 25), .ref (n + 28), .long 0, .long 0, .int 0]) := by
  unfold F_Stow_init
  (repeat (first | rw [va_up_self] | rw [va_up_ne _ _ (by omega)] | rw [F_Vals_lt (by omega) (by omega)] | rw [F_Code_init_1500_lt (by omega) (by omega)] | rw [F_Code_init_400_lt (by omega) (by omega)] | rw [F_State_init_lt (by omega) (by omega)] | rw [F_Out_init_lt (by omega) (by omega)] | rw [F_Draft_init_lt (by omega) (by omega)] | rw [F_Sweep_init_lt (by omega) (by omega)] | rw [F_Log_init_lt (by omega) (by omega)] | rw [F_Mach_init_lt (by omega) (by omega)] | rw [F_AL_lt (by omega) (by omega)] | rw [F_Lexer_lt (by omega) (by omega)] | rw [F_Pars_init_lt (by omega) (by omega)]))

set_option maxRecDepth 100000 in
set_option maxHeartbeats 4000000 in
theorem c_Stow_init (O : am_ok K X) (E : am_E0 K) {tx : String} (Z : vk_R "StowTongue$Lexer" 19 tx (am_ad K 2) K.1) {L : Nat} {g : Nat → Int32} (S : am_str K 2 L g) {n r : Nat} {f : Nat → am_C} (h0 : f r = .inr (9, [.null, .int 0, .null, .null, .null, .null, .null, .long 0, .long 0, .int 0])) (h1 : 128 ≤ r) (h2 : r < n) : am_Mt K X m_Stow_init 6 31 2903 [.ref r] (n, f) (fun v h' => v = none ∧ ∃ aL : Nat → Int64, h' = (n + 31, F_Stow_init n f r aL)) := by
  refine am_enter (by decide +kernel) (Nat.le_of_ble_eq_true rfl) ?_
  refine am_aload_n d_Stow_init_0 rfl rfl ?_
  refine am_obj w_176 w_177 w_178 d_Stow_init_1 (by omega) (Nat.le_of_ble_eq_true rfl) ?_
  refine am_aload_n d_Stow_init_4 rfl rfl ?_
  refine am_sipush (v := 1500) d_Stow_init_5 (by decide) ?_
  refine am_newa (at_ := .byte) (ty := .byte) (N := 1500) O rfl (by decide) w_195 d_Stow_init_8 (by decide) (by decide) (by decide) (by omega) (by omega) ?_
  refine am_putF O f_Stow_9 (fun q hq => by cases hq; exact ⟨w_495, rfl⟩) rfl d_Stow_init_10 (by (repeat (first | rw [va_up_self] | rw [va_up_ne _ _ (by omega)] | rw [F_Vals_lt (by omega) (by omega)] | rw [F_Code_init_1500_lt (by omega) (by omega)] | rw [F_Code_init_400_lt (by omega) (by omega)] | rw [F_State_init_lt (by omega) (by omega)] | rw [F_Out_init_lt (by omega) (by omega)] | rw [F_Draft_init_lt (by omega) (by omega)] | rw [F_Sweep_init_lt (by omega) (by omega)] | rw [F_Log_init_lt (by omega) (by omega)] | rw [F_Mach_init_lt (by omega) (by omega)] | rw [F_AL_lt (by omega) (by omega)] | rw [F_Lexer_lt (by omega) (by omega)] | rw [F_Pars_init_lt (by omega) (by omega)])); first | done | rfl | assumption) (by omega) (by omega) (Nat.le_of_ble_eq_true rfl) (fun q hq => by cases hq; exact ⟨rfl, rfl, rfl⟩) ?_
  refine am_aload_n d_Stow_init_13 rfl rfl ?_
  refine am_new O n_Stow_13 d_Stow_init_14 (by omega) (by omega) ?_
  refine am_dup d_Stow_init_17 rfl ?_
  refine am_callI O (c_Out_init O (by (repeat (first | rw [va_up_self] | rw [va_up_ne _ _ (by omega)] | rw [F_Vals_lt (by omega) (by omega)] | rw [F_Code_init_1500_lt (by omega) (by omega)] | rw [F_Code_init_400_lt (by omega) (by omega)] | rw [F_State_init_lt (by omega) (by omega)] | rw [F_Out_init_lt (by omega) (by omega)] | rw [F_Draft_init_lt (by omega) (by omega)] | rw [F_Sweep_init_lt (by omega) (by omega)] | rw [F_Log_init_lt (by omega) (by omega)] | rw [F_Mach_init_lt (by omega) (by omega)] | rw [F_AL_lt (by omega) (by omega)] | rw [F_Lexer_lt (by omega) (by omega)] | rw [F_Pars_init_lt (by omega) (by omega)])); first | done | rfl | assumption) (by omega) (by omega)) rfl l_Stow_15 w_182 rfl rfl rfl (Nat.le_of_ble_eq_true rfl) d_Stow_init_18 (by omega) (by omega) (by omega) (fun v h' hp => ?_)
  obtain ⟨rfl, rfl⟩ := hp
  refine am_putF O f_Stow_16 (fun q hq => by cases hq; exact ⟨w_497, rfl⟩) rfl d_Stow_init_21 (by (repeat (first | rw [va_up_self] | rw [va_up_ne _ _ (by omega)] | rw [F_Vals_lt (by omega) (by omega)] | rw [F_Code_init_1500_lt (by omega) (by omega)] | rw [F_Code_init_400_lt (by omega) (by omega)] | rw [F_State_init_lt (by omega) (by omega)] | rw [F_Out_init_lt (by omega) (by omega)] | rw [F_Draft_init_lt (by omega) (by omega)] | rw [F_Sweep_init_lt (by omega) (by omega)] | rw [F_Log_init_lt (by omega) (by omega)] | rw [F_Mach_init_lt (by omega) (by omega)] | rw [F_AL_lt (by omega) (by omega)] | rw [F_Lexer_lt (by omega) (by omega)] | rw [F_Pars_init_lt (by omega) (by omega)])); first | done | rfl | assumption) (by omega) (by omega) (Nat.le_of_ble_eq_true rfl) (fun q hq => by cases hq; exact ⟨rfl, rfl, rfl⟩) ?_
  refine am_aload_n d_Stow_init_24 rfl rfl ?_
  refine am_new O n_Stow_20 d_Stow_init_25 (by omega) (by omega) ?_
  refine am_dup d_Stow_init_28 rfl ?_
  refine am_callI O (c_Pars_init O E Z S (by (repeat (first | rw [va_up_self] | rw [va_up_ne _ _ (by omega)] | rw [F_Vals_lt (by omega) (by omega)] | rw [F_Code_init_1500_lt (by omega) (by omega)] | rw [F_Code_init_400_lt (by omega) (by omega)] | rw [F_State_init_lt (by omega) (by omega)] | rw [F_Out_init_lt (by omega) (by omega)] | rw [F_Draft_init_lt (by omega) (by omega)] | rw [F_Sweep_init_lt (by omega) (by omega)] | rw [F_Log_init_lt (by omega) (by omega)] | rw [F_Mach_init_lt (by omega) (by omega)] | rw [F_AL_lt (by omega) (by omega)] | rw [F_Lexer_lt (by omega) (by omega)] | rw [F_Pars_init_lt (by omega) (by omega)])); first | done | rfl | assumption) (by omega) (by omega)) rfl l_Stow_22 w_199 rfl rfl rfl (Nat.le_of_ble_eq_true rfl) d_Stow_init_29 (by omega) (by omega) (by omega) (fun v h' hp => ?_)
  obtain ⟨rfl, aL, rfl⟩ := hp
  refine am_putF O f_Stow_23 (fun q hq => by cases hq; exact ⟨w_498, rfl⟩) rfl d_Stow_init_32 (by (repeat (first | rw [va_up_self] | rw [va_up_ne _ _ (by omega)] | rw [F_Vals_lt (by omega) (by omega)] | rw [F_Code_init_1500_lt (by omega) (by omega)] | rw [F_Code_init_400_lt (by omega) (by omega)] | rw [F_State_init_lt (by omega) (by omega)] | rw [F_Out_init_lt (by omega) (by omega)] | rw [F_Draft_init_lt (by omega) (by omega)] | rw [F_Sweep_init_lt (by omega) (by omega)] | rw [F_Log_init_lt (by omega) (by omega)] | rw [F_Mach_init_lt (by omega) (by omega)] | rw [F_AL_lt (by omega) (by omega)] | rw [F_Lexer_lt (by omega) (by omega)] | rw [F_Pars_init_lt (by omega) (by omega)])); first | done | rfl | assumption) (by omega) (by omega) (Nat.le_of_ble_eq_true rfl) (fun q hq => by cases hq; exact ⟨rfl, rfl, rfl⟩) ?_
  refine am_aload_n d_Stow_init_35 rfl rfl ?_
  refine am_new O n_Stow_27 d_Stow_init_36 (by omega) (by omega) ?_
  refine am_dup d_Stow_init_39 rfl ?_
  refine am_callI O (c_Mach_init O (by (repeat (first | rw [va_up_self] | rw [va_up_ne _ _ (by omega)] | rw [F_Vals_lt (by omega) (by omega)] | rw [F_Code_init_1500_lt (by omega) (by omega)] | rw [F_Code_init_400_lt (by omega) (by omega)] | rw [F_State_init_lt (by omega) (by omega)] | rw [F_Out_init_lt (by omega) (by omega)] | rw [F_Draft_init_lt (by omega) (by omega)] | rw [F_Sweep_init_lt (by omega) (by omega)] | rw [F_Log_init_lt (by omega) (by omega)] | rw [F_Mach_init_lt (by omega) (by omega)] | rw [F_AL_lt (by omega) (by omega)] | rw [F_Lexer_lt (by omega) (by omega)] | rw [F_Pars_init_lt (by omega) (by omega)])); first | done | rfl | assumption) (by omega) (by omega)) rfl l_Stow_29 w_397 rfl rfl rfl (Nat.le_of_ble_eq_true rfl) d_Stow_init_40 (by omega) (by omega) (by omega) (fun v h' hp => ?_)
  obtain ⟨rfl, rfl⟩ := hp
  refine am_putF O f_Stow_30 (fun q hq => by cases hq; exact ⟨w_499, rfl⟩) rfl d_Stow_init_43 (by (repeat (first | rw [va_up_self] | rw [va_up_ne _ _ (by omega)] | rw [F_Vals_lt (by omega) (by omega)] | rw [F_Code_init_1500_lt (by omega) (by omega)] | rw [F_Code_init_400_lt (by omega) (by omega)] | rw [F_State_init_lt (by omega) (by omega)] | rw [F_Out_init_lt (by omega) (by omega)] | rw [F_Draft_init_lt (by omega) (by omega)] | rw [F_Sweep_init_lt (by omega) (by omega)] | rw [F_Log_init_lt (by omega) (by omega)] | rw [F_Mach_init_lt (by omega) (by omega)] | rw [F_AL_lt (by omega) (by omega)] | rw [F_Lexer_lt (by omega) (by omega)] | rw [F_Pars_init_lt (by omega) (by omega)])); first | done | rfl | assumption) (by omega) (by omega) (Nat.le_of_ble_eq_true rfl) (fun q hq => by cases hq; exact ⟨rfl, rfl, rfl⟩) ?_
  refine am_aload_n d_Stow_init_46 rfl rfl ?_
  refine am_new O n_Stow_34 d_Stow_init_47 (by omega) (by omega) ?_
  refine am_dup d_Stow_init_50 rfl ?_
  refine am_callI O (c_Log_init O (by (repeat (first | rw [va_up_self] | rw [va_up_ne _ _ (by omega)] | rw [F_Vals_lt (by omega) (by omega)] | rw [F_Code_init_1500_lt (by omega) (by omega)] | rw [F_Code_init_400_lt (by omega) (by omega)] | rw [F_State_init_lt (by omega) (by omega)] | rw [F_Out_init_lt (by omega) (by omega)] | rw [F_Draft_init_lt (by omega) (by omega)] | rw [F_Sweep_init_lt (by omega) (by omega)] | rw [F_Log_init_lt (by omega) (by omega)] | rw [F_Mach_init_lt (by omega) (by omega)] | rw [F_AL_lt (by omega) (by omega)] | rw [F_Lexer_lt (by omega) (by omega)] | rw [F_Pars_init_lt (by omega) (by omega)])); first | done | rfl | assumption) (by omega) (by omega)) rfl l_Stow_36 w_460 rfl rfl rfl (Nat.le_of_ble_eq_true rfl) d_Stow_init_51 (by omega) (by omega) (by omega) (fun v h' hp => ?_)
  obtain ⟨rfl, rfl⟩ := hp
  refine am_putF O f_Stow_37 (fun q hq => by cases hq; exact ⟨w_500, rfl⟩) rfl d_Stow_init_54 (by (repeat (first | rw [va_up_self] | rw [va_up_ne _ _ (by omega)] | rw [F_Vals_lt (by omega) (by omega)] | rw [F_Code_init_1500_lt (by omega) (by omega)] | rw [F_Code_init_400_lt (by omega) (by omega)] | rw [F_State_init_lt (by omega) (by omega)] | rw [F_Out_init_lt (by omega) (by omega)] | rw [F_Draft_init_lt (by omega) (by omega)] | rw [F_Sweep_init_lt (by omega) (by omega)] | rw [F_Log_init_lt (by omega) (by omega)] | rw [F_Mach_init_lt (by omega) (by omega)] | rw [F_AL_lt (by omega) (by omega)] | rw [F_Lexer_lt (by omega) (by omega)] | rw [F_Pars_init_lt (by omega) (by omega)])); first | done | rfl | assumption) (by omega) (by omega) (Nat.le_of_ble_eq_true rfl) (fun q hq => by cases hq; exact ⟨rfl, rfl, rfl⟩) ?_
  refine am_aload_n d_Stow_init_57 rfl rfl ?_
  refine am_new O n_Stow_41 d_Stow_init_58 (by omega) (by omega) ?_
  refine am_dup d_Stow_init_61 rfl ?_
  refine am_callI O (c_Sweep_init O (by (repeat (first | rw [va_up_self] | rw [va_up_ne _ _ (by omega)] | rw [F_Vals_lt (by omega) (by omega)] | rw [F_Code_init_1500_lt (by omega) (by omega)] | rw [F_Code_init_400_lt (by omega) (by omega)] | rw [F_State_init_lt (by omega) (by omega)] | rw [F_Out_init_lt (by omega) (by omega)] | rw [F_Draft_init_lt (by omega) (by omega)] | rw [F_Sweep_init_lt (by omega) (by omega)] | rw [F_Log_init_lt (by omega) (by omega)] | rw [F_Mach_init_lt (by omega) (by omega)] | rw [F_AL_lt (by omega) (by omega)] | rw [F_Lexer_lt (by omega) (by omega)] | rw [F_Pars_init_lt (by omega) (by omega)])); first | done | rfl | assumption) (by omega) (by omega)) rfl l_Stow_43 w_481 rfl rfl rfl (Nat.le_of_ble_eq_true rfl) d_Stow_init_62 (by omega) (by omega) (by omega) (fun v h' hp => ?_)
  obtain ⟨rfl, rfl⟩ := hp
  refine am_putF O f_Stow_44 (fun q hq => by cases hq; exact ⟨w_501, rfl⟩) rfl d_Stow_init_65 (by (repeat (first | rw [va_up_self] | rw [va_up_ne _ _ (by omega)] | rw [F_Vals_lt (by omega) (by omega)] | rw [F_Code_init_1500_lt (by omega) (by omega)] | rw [F_Code_init_400_lt (by omega) (by omega)] | rw [F_State_init_lt (by omega) (by omega)] | rw [F_Out_init_lt (by omega) (by omega)] | rw [F_Draft_init_lt (by omega) (by omega)] | rw [F_Sweep_init_lt (by omega) (by omega)] | rw [F_Log_init_lt (by omega) (by omega)] | rw [F_Mach_init_lt (by omega) (by omega)] | rw [F_AL_lt (by omega) (by omega)] | rw [F_Lexer_lt (by omega) (by omega)] | rw [F_Pars_init_lt (by omega) (by omega)])); first | done | rfl | assumption) (by omega) (by omega) (Nat.le_of_ble_eq_true rfl) (fun q hq => by cases hq; exact ⟨rfl, rfl, rfl⟩) ?_
  exact am_vret rfl d_Stow_init_68 ⟨rfl, aL, rfl⟩
end
end
section
abbrev m_Mod_init : am_M := (⟨"StowTongueModel", "<init>", "()V"⟩, prog_13_method_35_code, 2, none)
theorem d_Mod_init_287 : decode prog_13_method_35_code 287 = .ok (.iload_n 1, 1) := by decide +kernel
theorem d_Mod_init_288 : decode prog_13_method_35_code 288 = .ok (.bipush 8, 2) := by decide +kernel
theorem d_Mod_init_290 : decode prog_13_method_35_code 290 = .ok (.if_icmp .ge 22, 3) := by decide +kernel
theorem d_Mod_init_293 : decode prog_13_method_35_code 293 = .ok (.aload_n 0, 1) := by decide +kernel
theorem d_Mod_init_294 : decode prog_13_method_35_code 294 = .ok (.getfield 359, 3) := by decide +kernel
theorem cl_14 : am_Cl ("StowTongueModel", TC14, 53) := ⟨am_in_r [1675, 1677, 1679, 1681, 1683, 1685, 1687, 1689, 1691, 1693, 1695, 1697, 1699, 1701, 1703, 1705, 1707, 1709, 1711, 1713, 1715, 1717, 1719, 1721, 1723, 1725, 1727, 1729, 1731, 1733, 1735, 1737, 1739, 1741, 1743, 1745, 1747, 1749, 1751, 1753, 1755, 1757, 1759, 1761, 1763, 1765, 1767, 1769, 1771, 1773, 1775, 1777, 1779] (by decide +kernel) (by decide +kernel), by decide +kernel, by decide +kernel⟩
theorem w_1655 : (Cond.fieldLink "StowTongueModel" 359 "StowTongueModel" "waiting" "[LStowTongueModel$State;" : Cond) ∈ am_tbl := am_w 1655 (by decide +kernel) (by decide +kernel)
theorem f_Mod_359 : am_F "StowTongueModel" 359 14 33 := ⟨_, rfl, cl_14, by decide, Or.inl w_1655⟩
theorem d_Mod_init_297 : decode prog_13_method_35_code 297 = .ok (.iload_n 1, 1) := by decide +kernel
theorem d_Mod_init_298 : decode prog_13_method_35_code 298 = .ok (.new 346, 3) := by decide +kernel
theorem w_1561 : (Cond.classLink "StowTongueModel" 346 "StowTongueModel$State" : Cond) ∈ am_tbl := am_w 1561 (by decide +kernel) (by decide +kernel)
theorem w_1562 : (Cond.instantiable "StowTongueModel$State" 12 : Cond) ∈ am_tbl := am_w 1562 (by decide +kernel) (by decide +kernel)
theorem w_163 : (Cond.initialized "StowTongueModel$State" : Cond) ∈ am_tbl := am_w 163 (by decide +kernel) (by decide +kernel)
theorem n_Mod_346 : am_N "StowTongueModel" 346 13 12 [.null, .null, .null, .null, .null, .null, .null, .null, .int 0, .int 0, .int 0, .int 0] := ⟨_, rfl, cl_13, rfl, by decide +kernel, w_1561, w_1562, w_163⟩
theorem d_Mod_init_301 : decode prog_13_method_35_code 301 = .ok (.dup, 1) := by decide +kernel
theorem d_Mod_init_302 : decode prog_13_method_35_code 302 = .ok (.invokespecial 348, 3) := by decide +kernel
theorem w_1565 : (Cond.code ⟨"StowTongueModel$State", "<init>", "()V"⟩ prog_15_method_1_code 1 none : Cond) ∈ am_tbl := am_w 1565 (by decide +kernel) (by decide +kernel)
theorem l_Mod_348 : am_L "StowTongueModel" 348 0 m_State_init := ⟨Or.inr ⟨"StowTongueModel", List.mem_of_getElem? (i := 1563) (by decide +kernel)⟩, w_163, w_1565, ⟨by decide, by decide⟩, by decide +kernel, by decide⟩
theorem w_1564 : (Cond.instanceMethod ⟨"StowTongueModel$State", "<init>", "()V"⟩ : Cond) ∈ am_tbl := am_w 1564 (by decide +kernel) (by decide +kernel)
theorem d_Mod_init_305 : decode prog_13_method_35_code 305 = .ok (.aastore, 1) := by decide +kernel
theorem d_Mod_init_306 : decode prog_13_method_35_code 306 = .ok (.iinc 1 1, 3) := by decide +kernel
theorem d_Mod_init_309 : decode prog_13_method_35_code 309 = .ok (.goto (-22), 3) := by decide +kernel
theorem d_Mod_init_314 : decode prog_13_method_35_code 314 = .ok (.iload_n 1, 1) := by decide +kernel
theorem d_Mod_init_315 : decode prog_13_method_35_code 315 = .ok (.aload_n 0, 1) := by decide +kernel
theorem d_Mod_init_316 : decode prog_13_method_35_code 316 = .ok (.getfield 363, 3) := by decide +kernel
theorem w_1658 : (Cond.fieldLink "StowTongueModel" 363 "StowTongueModel" "pool" "[LStowTongueModel$Code;" : Cond) ∈ am_tbl := am_w 1658 (by decide +kernel) (by decide +kernel)
theorem f_Mod_363 : am_F "StowTongueModel" 363 14 36 := ⟨_, rfl, cl_14, by decide, Or.inl w_1658⟩
theorem d_Mod_init_319 : decode prog_13_method_35_code 319 = .ok (.arraylength, 1) := by decide +kernel
theorem d_Mod_init_320 : decode prog_13_method_35_code 320 = .ok (.if_icmp .ge 25, 3) := by decide +kernel
theorem d_Mod_init_323 : decode prog_13_method_35_code 323 = .ok (.aload_n 0, 1) := by decide +kernel
theorem d_Mod_init_324 : decode prog_13_method_35_code 324 = .ok (.getfield 363, 3) := by decide +kernel
theorem d_Mod_init_327 : decode prog_13_method_35_code 327 = .ok (.iload_n 1, 1) := by decide +kernel
theorem d_Mod_init_328 : decode prog_13_method_35_code 328 = .ok (.new 96, 3) := by decide +kernel
theorem w_1489 : (Cond.classLink "StowTongueModel" 96 "StowTongueModel$Code" : Cond) ∈ am_tbl := am_w 1489 (by decide +kernel) (by decide +kernel)
theorem w_1490 : (Cond.instantiable "StowTongueModel$Code" 10 : Cond) ∈ am_tbl := am_w 1490 (by decide +kernel) (by decide +kernel)
theorem w_161 : (Cond.initialized "StowTongueModel$Code" : Cond) ∈ am_tbl := am_w 161 (by decide +kernel) (by decide +kernel)
theorem n_Mod_96 : am_N "StowTongueModel" 96 12 10 [.null, .null, .int 0, .int 0, .int 0, .int 0, .int 0, .int 0, .int 0, .int 0] := ⟨_, rfl, cl_12, rfl, by decide +kernel, w_1489, w_1490, w_161⟩
theorem d_Mod_init_331 : decode prog_13_method_35_code 331 = .ok (.dup, 1) := by decide +kernel
theorem d_Mod_init_332 : decode prog_13_method_35_code 332 = .ok (.sipush 400, 3) := by decide +kernel
theorem d_Mod_init_335 : decode prog_13_method_35_code 335 = .ok (.invokespecial 343, 3) := by decide +kernel
theorem w_1491 : (Cond.methodLink "StowTongueModel" 343 ⟨"StowTongueModel$Code", "<init>", "(I)V"⟩ : Cond) ∈ am_tbl := am_w 1491 (by decide +kernel) (by decide +kernel)
theorem w_1493 : (Cond.code ⟨"StowTongueModel$Code", "<init>", "(I)V"⟩ prog_14_method_1_code 2 none : Cond) ∈ am_tbl := am_w 1493 (by decide +kernel) (by decide +kernel)
theorem l_Mod_343 : am_L "StowTongueModel" 343 1 m_Code_init := ⟨Or.inl w_1491, w_161, w_1493, ⟨by decide, by decide⟩, by decide +kernel, by decide⟩
theorem w_1492 : (Cond.instanceMethod ⟨"StowTongueModel$Code", "<init>", "(I)V"⟩ : Cond) ∈ am_tbl := am_w 1492 (by decide +kernel) (by decide +kernel)
theorem d_Mod_init_338 : decode prog_13_method_35_code 338 = .ok (.aastore, 1) := by decide +kernel
theorem d_Mod_init_339 : decode prog_13_method_35_code 339 = .ok (.iinc 1 1, 3) := by decide +kernel
theorem d_Mod_init_342 : decode prog_13_method_35_code 342 = .ok (.goto (-28), 3) := by decide +kernel
theorem d_Mod_init_0 : decode prog_13_method_35_code 0 = .ok (.aload_n 0, 1) := by decide +kernel
theorem d_Mod_init_1 : decode prog_13_method_35_code 1 = .ok (.invokespecial 335, 3) := by decide +kernel
theorem w_1488 : (Cond.methodLink "StowTongueModel" 335 ⟨"java/lang/Object", "<init>", "()V"⟩ : Cond) ∈ am_tbl := am_w 1488 (by decide +kernel) (by decide +kernel)
theorem d_Mod_init_4 : decode prog_13_method_35_code 4 = .ok (.aload_n 0, 1) := by decide +kernel
theorem d_Mod_init_5 : decode prog_13_method_35_code 5 = .ok (.sipush 1500, 3) := by decide +kernel
theorem d_Mod_init_8 : decode prog_13_method_35_code 8 = .ok (.newarray .byte, 2) := by decide +kernel
theorem w_1622 : (Cond.fieldLink "StowTongueModel" 22 "StowTongueModel" "tape" "[B" : Cond) ∈ am_tbl := am_w 1622 (by decide +kernel) (by decide +kernel)
theorem f_Mod_22 : am_F "StowTongueModel" 22 14 0 := ⟨_, rfl, cl_14, by decide, Or.inl w_1622⟩
theorem d_Mod_init_10 : decode prog_13_method_35_code 10 = .ok (.putfield 22, 3) := by decide +kernel
theorem d_Mod_init_13 : decode prog_13_method_35_code 13 = .ok (.aload_n 0, 1) := by decide +kernel
theorem d_Mod_init_14 : decode prog_13_method_35_code 14 = .ok (.sipush 600, 3) := by decide +kernel
theorem d_Mod_init_17 : decode prog_13_method_35_code 17 = .ok (.newarray .byte, 2) := by decide +kernel
theorem w_1623 : (Cond.fieldLink "StowTongueModel" 340 "StowTongueModel" "out" "[B" : Cond) ∈ am_tbl := am_w 1623 (by decide +kernel) (by decide +kernel)
theorem f_Mod_340 : am_F "StowTongueModel" 340 14 1 := ⟨_, rfl, cl_14, by decide, Or.inl w_1623⟩
theorem d_Mod_init_19 : decode prog_13_method_35_code 19 = .ok (.putfield 340, 3) := by decide +kernel
theorem d_Mod_init_22 : decode prog_13_method_35_code 22 = .ok (.aload_n 0, 1) := by decide +kernel
theorem d_Mod_init_23 : decode prog_13_method_35_code 23 = .ok (.new 96, 3) := by decide +kernel
theorem d_Mod_init_26 : decode prog_13_method_35_code 26 = .ok (.dup, 1) := by decide +kernel
theorem d_Mod_init_27 : decode prog_13_method_35_code 27 = .ok (.sipush 1500, 3) := by decide +kernel
theorem d_Mod_init_30 : decode prog_13_method_35_code 30 = .ok (.invokespecial 343, 3) := by decide +kernel
theorem w_1634 : (Cond.fieldLink "StowTongueModel" 143 "StowTongueModel" "program" "LStowTongueModel$Code;" : Cond) ∈ am_tbl := am_w 1634 (by decide +kernel) (by decide +kernel)
theorem f_Mod_143 : am_F "StowTongueModel" 143 14 12 := ⟨_, rfl, cl_14, by decide, Or.inl w_1634⟩
theorem d_Mod_init_33 : decode prog_13_method_35_code 33 = .ok (.putfield 143, 3) := by decide +kernel
theorem d_Mod_init_36 : decode prog_13_method_35_code 36 = .ok (.aload_n 0, 1) := by decide +kernel
theorem d_Mod_init_37 : decode prog_13_method_35_code 37 = .ok (.sipush 200, 3) := by decide +kernel
theorem d_Mod_init_40 : decode prog_13_method_35_code 40 = .ok (.newarray .long, 2) := by decide +kernel
theorem w_1635 : (Cond.fieldLink "StowTongueModel" 161 "StowTongueModel" "toldName" "[J" : Cond) ∈ am_tbl := am_w 1635 (by decide +kernel) (by decide +kernel)
theorem f_Mod_161 : am_F "StowTongueModel" 161 14 13 := ⟨_, rfl, cl_14, by decide, Or.inl w_1635⟩
theorem d_Mod_init_42 : decode prog_13_method_35_code 42 = .ok (.putfield 161, 3) := by decide +kernel
theorem d_Mod_init_45 : decode prog_13_method_35_code 45 = .ok (.aload_n 0, 1) := by decide +kernel
theorem d_Mod_init_46 : decode prog_13_method_35_code 46 = .ok (.sipush 200, 3) := by decide +kernel
theorem d_Mod_init_49 : decode prog_13_method_35_code 49 = .ok (.newarray .int, 2) := by decide +kernel
theorem w_1636 : (Cond.fieldLink "StowTongueModel" 192 "StowTongueModel" "toldFrom" "[I" : Cond) ∈ am_tbl := am_w 1636 (by decide +kernel) (by decide +kernel)
theorem f_Mod_192 : am_F "StowTongueModel" 192 14 14 := ⟨_, rfl, cl_14, by decide, Or.inl w_1636⟩
theorem d_Mod_init_51 : decode prog_13_method_35_code 51 = .ok (.putfield 192, 3) := by decide +kernel
theorem d_Mod_init_54 : decode prog_13_method_35_code 54 = .ok (.aload_n 0, 1) := by decide +kernel
theorem d_Mod_init_55 : decode prog_13_method_35_code 55 = .ok (.sipush 200, 3) := by decide +kernel
theorem d_Mod_init_58 : decode prog_13_method_35_code 58 = .ok (.newarray .int, 2) := by decide +kernel
theorem w_1637 : (Cond.fieldLink "StowTongueModel" 195 "StowTongueModel" "toldValue" "[I" : Cond) ∈ am_tbl := am_w 1637 (by decide +kernel) (by decide +kernel)
theorem f_Mod_195 : am_F "StowTongueModel" 195 14 15 := ⟨_, rfl, cl_14, by decide, Or.inl w_1637⟩
theorem d_Mod_init_60 : decode prog_13_method_35_code 60 = .ok (.putfield 195, 3) := by decide +kernel
theorem d_Mod_init_63 : decode prog_13_method_35_code 63 = .ok (.aload_n 0, 1) := by decide +kernel
theorem d_Mod_init_64 : decode prog_13_method_35_code 64 = .ok (.sipush 200, 3) := by decide +kernel
theorem d_Mod_init_67 : decode prog_13_method_35_code 67 = .ok (.newarray .int, 2) := by decide +kernel
theorem w_1638 : (Cond.fieldLink "StowTongueModel" 201 "StowTongueModel" "toldEnd" "[I" : Cond) ∈ am_tbl := am_w 1638 (by decide +kernel) (by decide +kernel)
theorem f_Mod_201 : am_F "StowTongueModel" 201 14 16 := ⟨_, rfl, cl_14, by decide, Or.inl w_1638⟩
theorem d_Mod_init_69 : decode prog_13_method_35_code 69 = .ok (.putfield 201, 3) := by decide +kernel
theorem d_Mod_init_72 : decode prog_13_method_35_code 72 = .ok (.aload_n 0, 1) := by decide +kernel
theorem d_Mod_init_73 : decode prog_13_method_35_code 73 = .ok (.sipush 200, 3) := by decide +kernel
theorem d_Mod_init_76 : decode prog_13_method_35_code 76 = .ok (.newarray .int, 2) := by decide +kernel
theorem w_1639 : (Cond.fieldLink "StowTongueModel" 204 "StowTongueModel" "toldTokens" "[I" : Cond) ∈ am_tbl := am_w 1639 (by decide +kernel) (by decide +kernel)
theorem f_Mod_204 : am_F "StowTongueModel" 204 14 17 := ⟨_, rfl, cl_14, by decide, Or.inl w_1639⟩
theorem d_Mod_init_78 : decode prog_13_method_35_code 78 = .ok (.putfield 204, 3) := by decide +kernel
theorem d_Mod_init_81 : decode prog_13_method_35_code 81 = .ok (.aload_n 0, 1) := by decide +kernel
theorem d_Mod_init_82 : decode prog_13_method_35_code 82 = .ok (.sipush 200, 3) := by decide +kernel
theorem d_Mod_init_85 : decode prog_13_method_35_code 85 = .ok (.newarray .int, 2) := by decide +kernel
theorem w_1640 : (Cond.fieldLink "StowTongueModel" 189 "StowTongueModel" "toldParameters" "[I" : Cond) ∈ am_tbl := am_w 1640 (by decide +kernel) (by decide +kernel)
theorem f_Mod_189 : am_F "StowTongueModel" 189 14 18 := ⟨_, rfl, cl_14, by decide, Or.inl w_1640⟩
theorem d_Mod_init_87 : decode prog_13_method_35_code 87 = .ok (.putfield 189, 3) := by decide +kernel
theorem d_Mod_init_90 : decode prog_13_method_35_code 90 = .ok (.aload_n 0, 1) := by decide +kernel
theorem d_Mod_init_91 : decode prog_13_method_35_code 91 = .ok (.sipush 200, 3) := by decide +kernel
theorem d_Mod_init_94 : decode prog_13_method_35_code 94 = .ok (.newarray .int, 2) := by decide +kernel
theorem w_1641 : (Cond.fieldLink "StowTongueModel" 207 "StowTongueModel" "toldLocals" "[I" : Cond) ∈ am_tbl := am_w 1641 (by decide +kernel) (by decide +kernel)
theorem f_Mod_207 : am_F "StowTongueModel" 207 14 19 := ⟨_, rfl, cl_14, by decide, Or.inl w_1641⟩
theorem d_Mod_init_96 : decode prog_13_method_35_code 96 = .ok (.putfield 207, 3) := by decide +kernel
theorem d_Mod_init_99 : decode prog_13_method_35_code 99 = .ok (.aload_n 0, 1) := by decide +kernel
theorem d_Mod_init_100 : decode prog_13_method_35_code 100 = .ok (.new 96, 3) := by decide +kernel
theorem d_Mod_init_103 : decode prog_13_method_35_code 103 = .ok (.dup, 1) := by decide +kernel
theorem d_Mod_init_104 : decode prog_13_method_35_code 104 = .ok (.sipush 1500, 3) := by decide +kernel
theorem d_Mod_init_107 : decode prog_13_method_35_code 107 = .ok (.invokespecial 343, 3) := by decide +kernel
theorem w_1643 : (Cond.fieldLink "StowTongueModel" 149 "StowTongueModel" "all" "LStowTongueModel$Code;" : Cond) ∈ am_tbl := am_w 1643 (by decide +kernel) (by decide +kernel)
theorem f_Mod_149 : am_F "StowTongueModel" 149 14 21 := ⟨_, rfl, cl_14, by decide, Or.inl w_1643⟩
theorem d_Mod_init_110 : decode prog_13_method_35_code 110 = .ok (.putfield 149, 3) := by decide +kernel
theorem d_Mod_init_113 : decode prog_13_method_35_code 113 = .ok (.aload_n 0, 1) := by decide +kernel
theorem d_Mod_init_114 : decode prog_13_method_35_code 114 = .ok (.sipush 1500, 3) := by decide +kernel
theorem d_Mod_init_117 : decode prog_13_method_35_code 117 = .ok (.newarray .long, 2) := by decide +kernel
theorem w_1645 : (Cond.fieldLink "StowTongueModel" 126 "StowTongueModel" "local" "[J" : Cond) ∈ am_tbl := am_w 1645 (by decide +kernel) (by decide +kernel)
theorem f_Mod_126 : am_F "StowTongueModel" 126 14 23 := ⟨_, rfl, cl_14, by decide, Or.inl w_1645⟩
theorem d_Mod_init_119 : decode prog_13_method_35_code 119 = .ok (.putfield 126, 3) := by decide +kernel
theorem d_Mod_init_122 : decode prog_13_method_35_code 122 = .ok (.aload_n 0, 1) := by decide +kernel
theorem d_Mod_init_123 : decode prog_13_method_35_code 123 = .ok (.sipush 1500, 3) := by decide +kernel
theorem d_Mod_init_126 : decode prog_13_method_35_code 126 = .ok (.newarray .long, 2) := by decide +kernel
theorem w_1648 : (Cond.fieldLink "StowTongueModel" 168 "StowTongueModel" "own" "[J" : Cond) ∈ am_tbl := am_w 1648 (by decide +kernel) (by decide +kernel)
theorem f_Mod_168 : am_F "StowTongueModel" 168 14 26 := ⟨_, rfl, cl_14, by decide, Or.inl w_1648⟩
theorem d_Mod_init_128 : decode prog_13_method_35_code 128 = .ok (.putfield 168, 3) := by decide +kernel
theorem d_Mod_init_131 : decode prog_13_method_35_code 131 = .ok (.aload_n 0, 1) := by decide +kernel
theorem d_Mod_init_132 : decode prog_13_method_35_code 132 = .ok (.sipush 1500, 3) := by decide +kernel
theorem d_Mod_init_135 : decode prog_13_method_35_code 135 = .ok (.newarray .int, 2) := by decide +kernel
theorem w_1650 : (Cond.fieldLink "StowTongueModel" 330 "StowTongueModel" "pile" "[I" : Cond) ∈ am_tbl := am_w 1650 (by decide +kernel) (by decide +kernel)
theorem f_Mod_330 : am_F "StowTongueModel" 330 14 28 := ⟨_, rfl, cl_14, by decide, Or.inl w_1650⟩
theorem d_Mod_init_137 : decode prog_13_method_35_code 137 = .ok (.putfield 330, 3) := by decide +kernel
theorem d_Mod_init_140 : decode prog_13_method_35_code 140 = .ok (.aload_n 0, 1) := by decide +kernel
theorem d_Mod_init_141 : decode prog_13_method_35_code 141 = .ok (.new 346, 3) := by decide +kernel
theorem d_Mod_init_144 : decode prog_13_method_35_code 144 = .ok (.dup, 1) := by decide +kernel
theorem d_Mod_init_145 : decode prog_13_method_35_code 145 = .ok (.invokespecial 348, 3) := by decide +kernel
theorem w_1652 : (Cond.fieldLink "StowTongueModel" 349 "StowTongueModel" "now" "LStowTongueModel$State;" : Cond) ∈ am_tbl := am_w 1652 (by decide +kernel) (by decide +kernel)
theorem f_Mod_349 : am_F "StowTongueModel" 349 14 30 := ⟨_, rfl, cl_14, by decide, Or.inl w_1652⟩
theorem d_Mod_init_148 : decode prog_13_method_35_code 148 = .ok (.putfield 349, 3) := by decide +kernel
theorem d_Mod_init_151 : decode prog_13_method_35_code 151 = .ok (.aload_n 0, 1) := by decide +kernel
theorem d_Mod_init_152 : decode prog_13_method_35_code 152 = .ok (.new 346, 3) := by decide +kernel
theorem d_Mod_init_155 : decode prog_13_method_35_code 155 = .ok (.dup, 1) := by decide +kernel
theorem d_Mod_init_156 : decode prog_13_method_35_code 156 = .ok (.invokespecial 348, 3) := by decide +kernel
theorem w_1653 : (Cond.fieldLink "StowTongueModel" 353 "StowTongueModel" "work" "LStowTongueModel$State;" : Cond) ∈ am_tbl := am_w 1653 (by decide +kernel) (by decide +kernel)
theorem f_Mod_353 : am_F "StowTongueModel" 353 14 31 := ⟨_, rfl, cl_14, by decide, Or.inl w_1653⟩
theorem d_Mod_init_159 : decode prog_13_method_35_code 159 = .ok (.putfield 353, 3) := by decide +kernel
theorem d_Mod_init_162 : decode prog_13_method_35_code 162 = .ok (.aload_n 0, 1) := by decide +kernel
theorem d_Mod_init_163 : decode prog_13_method_35_code 163 = .ok (.new 346, 3) := by decide +kernel
theorem d_Mod_init_166 : decode prog_13_method_35_code 166 = .ok (.dup, 1) := by decide +kernel
theorem d_Mod_init_167 : decode prog_13_method_35_code 167 = .ok (.invokespecial 348, 3) := by decide +kernel
theorem w_1654 : (Cond.fieldLink "StowTongueModel" 356 "StowTongueModel" "safe" "LStowTongueModel$State;" : Cond) ∈ am_tbl := am_w 1654 (by decide +kernel) (by decide +kernel)
theorem f_Mod_356 : am_F "StowTongueModel" 356 14 32 := ⟨_, rfl, cl_14, by decide, Or.inl w_1654⟩
theorem d_Mod_init_170 : decode prog_13_method_35_code 170 = .ok (.putfield 356, 3) := by decide +kernel
theorem d_Mod_init_173 : decode prog_13_method_35_code 173 = .ok (.aload_n 0, 1) := by decide +kernel
theorem d_Mod_init_174 : decode prog_13_method_35_code 174 = .ok (.bipush 8, 2) := by decide +kernel
theorem d_Mod_init_176 : decode prog_13_method_35_code 176 = .ok (.anewarray 346, 3) := by decide +kernel
theorem x_1619 : (Cond.arrayOver (FieldType.object "StowTongueModel$State") : Cond) ∈ lw_tbl := List.mem_of_getElem? (i := 1619) (by decide +kernel)
theorem d_Mod_init_179 : decode prog_13_method_35_code 179 = .ok (.putfield 359, 3) := by decide +kernel
theorem d_Mod_init_182 : decode prog_13_method_35_code 182 = .ok (.aload_n 0, 1) := by decide +kernel
theorem d_Mod_init_183 : decode prog_13_method_35_code 183 = .ok (.sipush 130, 3) := by decide +kernel
theorem d_Mod_init_186 : decode prog_13_method_35_code 186 = .ok (.anewarray 96, 3) := by decide +kernel
theorem d_Mod_init_189 : decode prog_13_method_35_code 189 = .ok (.putfield 363, 3) := by decide +kernel
theorem d_Mod_init_192 : decode prog_13_method_35_code 192 = .ok (.aload_n 0, 1) := by decide +kernel
theorem d_Mod_init_193 : decode prog_13_method_35_code 193 = .ok (.new 115, 3) := by decide +kernel
theorem w_1620 : (Cond.classLink "StowTongueModel" 115 "StowTongueModel$Values" : Cond) ∈ am_tbl := am_w 1620 (by decide +kernel) (by decide +kernel)
theorem n_Mod_115 : am_N "StowTongueModel" 115 11 4 [.null, .null, .null, .null] := ⟨_, rfl, cl_11, rfl, by decide +kernel, w_1620, w_1496, w_162⟩
theorem d_Mod_init_196 : decode prog_13_method_35_code 196 = .ok (.dup, 1) := by decide +kernel
theorem d_Mod_init_197 : decode prog_13_method_35_code 197 = .ok (.sipush 8000, 3) := by decide +kernel
theorem d_Mod_init_200 : decode prog_13_method_35_code 200 = .ok (.invokespecial 367, 3) := by decide +kernel
theorem w_1621 : (Cond.methodLink "StowTongueModel" 367 ⟨"StowTongueModel$Values", "<init>", "(I)V"⟩ : Cond) ∈ am_tbl := am_w 1621 (by decide +kernel) (by decide +kernel)
theorem l_Mod_367 : am_L "StowTongueModel" 367 1 m_Vals_init := ⟨Or.inl w_1621, w_162, w_1499, ⟨by decide, by decide⟩, by decide +kernel, by decide⟩
theorem w_1659 : (Cond.fieldLink "StowTongueModel" 368 "StowTongueModel" "stack" "LStowTongueModel$Values;" : Cond) ∈ am_tbl := am_w 1659 (by decide +kernel) (by decide +kernel)
theorem f_Mod_368 : am_F "StowTongueModel" 368 14 37 := ⟨_, rfl, cl_14, by decide, Or.inl w_1659⟩
theorem d_Mod_init_203 : decode prog_13_method_35_code 203 = .ok (.putfield 368, 3) := by decide +kernel
theorem d_Mod_init_206 : decode prog_13_method_35_code 206 = .ok (.aload_n 0, 1) := by decide +kernel
theorem d_Mod_init_207 : decode prog_13_method_35_code 207 = .ok (.new 115, 3) := by decide +kernel
theorem d_Mod_init_210 : decode prog_13_method_35_code 210 = .ok (.dup, 1) := by decide +kernel
theorem d_Mod_init_211 : decode prog_13_method_35_code 211 = .ok (.sipush 4000, 3) := by decide +kernel
theorem d_Mod_init_214 : decode prog_13_method_35_code 214 = .ok (.invokespecial 367, 3) := by decide +kernel
theorem w_1660 : (Cond.fieldLink "StowTongueModel" 371 "StowTongueModel" "place" "LStowTongueModel$Values;" : Cond) ∈ am_tbl := am_w 1660 (by decide +kernel) (by decide +kernel)
theorem f_Mod_371 : am_F "StowTongueModel" 371 14 38 := ⟨_, rfl, cl_14, by decide, Or.inl w_1660⟩
theorem d_Mod_init_217 : decode prog_13_method_35_code 217 = .ok (.putfield 371, 3) := by decide +kernel
theorem d_Mod_init_220 : decode prog_13_method_35_code 220 = .ok (.aload_n 0, 1) := by decide +kernel
theorem d_Mod_init_221 : decode prog_13_method_35_code 221 = .ok (.new 115, 3) := by decide +kernel
theorem d_Mod_init_224 : decode prog_13_method_35_code 224 = .ok (.dup, 1) := by decide +kernel
theorem d_Mod_init_225 : decode prog_13_method_35_code 225 = .ok (.iconst 1, 1) := by decide +kernel
theorem d_Mod_init_226 : decode prog_13_method_35_code 226 = .ok (.invokespecial 367, 3) := by decide +kernel
theorem w_1661 : (Cond.fieldLink "StowTongueModel" 374 "StowTongueModel" "given0" "LStowTongueModel$Values;" : Cond) ∈ am_tbl := am_w 1661 (by decide +kernel) (by decide +kernel)
theorem f_Mod_374 : am_F "StowTongueModel" 374 14 39 := ⟨_, rfl, cl_14, by decide, Or.inl w_1661⟩
theorem d_Mod_init_229 : decode prog_13_method_35_code 229 = .ok (.putfield 374, 3) := by decide +kernel
theorem d_Mod_init_232 : decode prog_13_method_35_code 232 = .ok (.aload_n 0, 1) := by decide +kernel
theorem d_Mod_init_233 : decode prog_13_method_35_code 233 = .ok (.new 115, 3) := by decide +kernel
theorem d_Mod_init_236 : decode prog_13_method_35_code 236 = .ok (.dup, 1) := by decide +kernel
theorem d_Mod_init_237 : decode prog_13_method_35_code 237 = .ok (.iconst 4, 1) := by decide +kernel
theorem d_Mod_init_238 : decode prog_13_method_35_code 238 = .ok (.invokespecial 367, 3) := by decide +kernel
theorem w_1662 : (Cond.fieldLink "StowTongueModel" 377 "StowTongueModel" "held" "LStowTongueModel$Values;" : Cond) ∈ am_tbl := am_w 1662 (by decide +kernel) (by decide +kernel)
theorem f_Mod_377 : am_F "StowTongueModel" 377 14 40 := ⟨_, rfl, cl_14, by decide, Or.inl w_1662⟩
theorem d_Mod_init_241 : decode prog_13_method_35_code 241 = .ok (.putfield 377, 3) := by decide +kernel
theorem d_Mod_init_244 : decode prog_13_method_35_code 244 = .ok (.aload_n 0, 1) := by decide +kernel
theorem d_Mod_init_245 : decode prog_13_method_35_code 245 = .ok (.bipush 9, 2) := by decide +kernel
theorem d_Mod_init_247 : decode prog_13_method_35_code 247 = .ok (.anewarray 96, 3) := by decide +kernel
theorem w_1669 : (Cond.fieldLink "StowTongueModel" 380 "StowTongueModel" "codes" "[LStowTongueModel$Code;" : Cond) ∈ am_tbl := am_w 1669 (by decide +kernel) (by decide +kernel)
theorem f_Mod_380 : am_F "StowTongueModel" 380 14 47 := ⟨_, rfl, cl_14, by decide, Or.inl w_1669⟩
theorem d_Mod_init_250 : decode prog_13_method_35_code 250 = .ok (.putfield 380, 3) := by decide +kernel
theorem d_Mod_init_253 : decode prog_13_method_35_code 253 = .ok (.aload_n 0, 1) := by decide +kernel
theorem d_Mod_init_254 : decode prog_13_method_35_code 254 = .ok (.bipush 9, 2) := by decide +kernel
theorem d_Mod_init_256 : decode prog_13_method_35_code 256 = .ok (.newarray .int, 2) := by decide +kernel
theorem w_1670 : (Cond.fieldLink "StowTongueModel" 383 "StowTongueModel" "back" "[I" : Cond) ∈ am_tbl := am_w 1670 (by decide +kernel) (by decide +kernel)
theorem f_Mod_383 : am_F "StowTongueModel" 383 14 48 := ⟨_, rfl, cl_14, by decide, Or.inl w_1670⟩
theorem d_Mod_init_258 : decode prog_13_method_35_code 258 = .ok (.putfield 383, 3) := by decide +kernel
theorem d_Mod_init_261 : decode prog_13_method_35_code 261 = .ok (.aload_n 0, 1) := by decide +kernel
theorem d_Mod_init_262 : decode prog_13_method_35_code 262 = .ok (.bipush 9, 2) := by decide +kernel
theorem d_Mod_init_264 : decode prog_13_method_35_code 264 = .ok (.newarray .int, 2) := by decide +kernel
theorem w_1671 : (Cond.fieldLink "StowTongueModel" 386 "StowTongueModel" "base" "[I" : Cond) ∈ am_tbl := am_w 1671 (by decide +kernel) (by decide +kernel)
theorem f_Mod_386 : am_F "StowTongueModel" 386 14 49 := ⟨_, rfl, cl_14, by decide, Or.inl w_1671⟩
theorem d_Mod_init_266 : decode prog_13_method_35_code 266 = .ok (.putfield 386, 3) := by decide +kernel
theorem d_Mod_init_269 : decode prog_13_method_35_code 269 = .ok (.aload_n 0, 1) := by decide +kernel
theorem d_Mod_init_270 : decode prog_13_method_35_code 270 = .ok (.bipush 100, 2) := by decide +kernel
theorem d_Mod_init_272 : decode prog_13_method_35_code 272 = .ok (.newarray .boolean, 2) := by decide +kernel
theorem w_1672 : (Cond.fieldLink "StowTongueModel" 389 "StowTongueModel" "reached" "[Z" : Cond) ∈ am_tbl := am_w 1672 (by decide +kernel) (by decide +kernel)
theorem f_Mod_389 : am_F "StowTongueModel" 389 14 50 := ⟨_, rfl, cl_14, by decide, Or.inl w_1672⟩
theorem d_Mod_init_274 : decode prog_13_method_35_code 274 = .ok (.putfield 389, 3) := by decide +kernel
theorem d_Mod_init_277 : decode prog_13_method_35_code 277 = .ok (.aload_n 0, 1) := by decide +kernel
theorem d_Mod_init_278 : decode prog_13_method_35_code 278 = .ok (.bipush 100, 2) := by decide +kernel
theorem d_Mod_init_280 : decode prog_13_method_35_code 280 = .ok (.newarray .int, 2) := by decide +kernel
theorem w_1673 : (Cond.fieldLink "StowTongueModel" 393 "StowTongueModel" "path" "[I" : Cond) ∈ am_tbl := am_w 1673 (by decide +kernel) (by decide +kernel)
theorem f_Mod_393 : am_F "StowTongueModel" 393 14 51 := ⟨_, rfl, cl_14, by decide, Or.inl w_1673⟩
theorem d_Mod_init_282 : decode prog_13_method_35_code 282 = .ok (.putfield 393, 3) := by decide +kernel
theorem d_Mod_init_285 : decode prog_13_method_35_code 285 = .ok (.iconst 0, 1) := by decide +kernel
theorem d_Mod_init_286 : decode prog_13_method_35_code 286 = .ok (.istore_n 1, 1) := by decide +kernel
theorem d_Mod_init_312 : decode prog_13_method_35_code 312 = .ok (.iconst 0, 1) := by decide +kernel
theorem d_Mod_init_313 : decode prog_13_method_35_code 313 = .ok (.istore_n 1, 1) := by decide +kernel
theorem d_Mod_init_345 : decode prog_13_method_35_code 345 = .ok (.return_, 1) := by decide +kernel
end
section
section
variable {K : am_K} {X : Nat → am_C}
def wl_f (N q : Nat) (f : Nat → am_C) : Nat → (Nat → am_C) × (Nat → Value)
  | 0 => (f, fun _ => .null)
  | k + 1 => (va_up (F_State_init (N + 17 * k + 1) (va_up (wl_f N q f k).1 (N + 17 * k) (.inr (13, [.null, .null, .null, .null, .null, .null, .null, .null, .int 0, .int 0, .int 0, .int 0]))) (N + 17 * k)) q (.inl (.object "StowTongueModel$State", 8, updV (wl_f N q f k).2 k (.ref (N + 17 * k)))), updV (wl_f N q f k).2 k (.ref (N + 17 * k)))
theorem wl_f_lt {N q : Nat} {f : Nat → am_C} {x : Nat} (hx : x < N) (hq : x ≠ q) : ∀ k, (wl_f N q f k).1 x = f x
  | 0 => rfl
  | k + 1 => by
    show va_up _ _ _ x = f x
    rw [va_up_ne _ _ hq, F_State_init_lt (by omega) (by omega), va_up_ne _ _ (by omega)]
    exact wl_f_lt hx hq k
theorem wl_f_q {N q : Nat} {f : Nat → am_C} (hf : f q = .inl (.object "StowTongueModel$State", 8, fun _ => .null)) : ∀ k, (wl_f N q f k).1 q = .inl (.object "StowTongueModel$State", 8, (wl_f N q f k).2)
  | 0 => hf
  | k + 1 => va_up_self _ _ _

def pl_f (N q : Nat) (f : Nat → am_C) : Nat → (Nat → am_C) × (Nat → Value)
  | 0 => (f, fun _ => .null)
  | k + 1 => (va_up (F_Code_init_400 (N + 7 * k + 1) (va_up (pl_f N q f k).1 (N + 7 * k) (.inr (12, [.null, .null, .int 0, .int 0, .int 0, .int 0, .int 0, .int 0, .int 0, .int 0]))) (N + 7 * k)) q (.inl (.object "StowTongueModel$Code", 130, updV (pl_f N q f k).2 k (.ref (N + 7 * k)))), updV (pl_f N q f k).2 k (.ref (N + 7 * k)))
theorem pl_f_lt {N q : Nat} {f : Nat → am_C} {x : Nat} (hx : x < N) (hq : x ≠ q) : ∀ k, (pl_f N q f k).1 x = f x
  | 0 => rfl
  | k + 1 => by
    show va_up _ _ _ x = f x
    rw [va_up_ne _ _ hq, F_Code_init_400_lt (by omega) (by omega), va_up_ne _ _ (by omega)]
    exact pl_f_lt hx hq k
theorem pl_f_q {N q : Nat} {f : Nat → am_C} (hf : f q = .inl (.object "StowTongueModel$Code", 130, fun _ => .null)) : ∀ k, (pl_f N q f k).1 q = .inl (.object "StowTongueModel$Code", 130, (pl_f N q f k).2)
  | 0 => hf
  | k + 1 => va_up_self _ _ _

set_option maxRecDepth 100000 in
set_option maxHeartbeats 4000000 in
theorem wl_loop (O : am_ok K X) {N r q kc ks uc us : Nat} {f : Nat → am_C} {fs : List Value} {post : Option Value → am_H → Prop} (h0 : f r = .inr (14, fs)) (hfs : fs[33]? = some (.ref q)) (hq0 : f q = .inl (.object "StowTongueModel$State", 8, fun _ => .null)) (hr : 128 ≤ r) (hr2 : r < N) (hq : 128 ≤ q) (hq2 : q < N) (hrq : r ≠ q) (hkc : uc + 136 ≤ kc) (hks : us + 72800 ≤ ks) (kk : am_W K X m_Mod_init 4 kc ks (uc + 136) (us + 72800) 312 [(0, .ref r), (1, .int (nI 8))] [] (N + 17 * 8, (wl_f N q f 8).1) post) : ∀ m k : Nat, k ≤ 8 → 8 - k < m → am_W K X m_Mod_init 4 kc ks (uc + 17 * k) (us + 9100 * k) 287 [(0, .ref r), (1, .int (nI k))] [] (N + 17 * k, (wl_f N q f k).1) post := by
  intro m
  induction m with
  | zero => intro k h1 h2; omega
  | succ m ih =>
    intro k hk hm
    refine am_iload_n d_Mod_init_287 rfl rfl ?_
    refine am_bipush (v := 8) d_Mod_init_288 (by decide) ?_
    refine am_icmp_ge (tgt := 312) d_Mod_init_290 (by decide) (fun c_290 => ?_) (fun c_290 => ?_)
    · have e : k = 8 := by
        rcases Nat.lt_or_ge k 8 with q | q
        · exact absurd c_290 (nI_ge (b := 8) q (by omega))
        · omega
      subst e
      exact kk
    · have hk8 : k < 8 := by
        rcases Nat.lt_or_ge k 8 with q | q
        · exact q
        · exact absurd (nI_le q (by omega)) c_290
      refine am_aload_n d_Mod_init_293 rfl rfl ?_
      refine am_get O f_Mod_359 d_Mod_init_294 (by (repeat (first | rw [va_up_self] | rw [va_up_ne _ _ (by omega)] | rw [F_State_init_lt (by omega) (by omega)] | rw [F_State_init_self (by omega)] | rw [wl_f_lt (by omega) (by omega)] | rw [wl_f_q hq0])); first | done | rfl | assumption) (by omega) (by omega) hfs ?_
      refine am_iload_n d_Mod_init_297 rfl rfl ?_
      refine am_new O n_Mod_346 d_Mod_init_298 (by omega) (by omega) ?_
      refine am_dup d_Mod_init_301 rfl ?_
      refine am_callI O (c_State_init O (by (repeat (first | rw [va_up_self] | rw [va_up_ne _ _ (by omega)] | rw [F_State_init_lt (by omega) (by omega)] | rw [F_State_init_self (by omega)] | rw [wl_f_lt (by omega) (by omega)] | rw [wl_f_q hq0])); first | done | rfl | assumption) (by omega) (by omega)) rfl l_Mod_348 w_1564 rfl rfl rfl (Nat.le_of_ble_eq_true rfl) d_Mod_init_302 (by omega) (by omega) (by omega) (fun v h' hp => ?_)
      obtain ⟨rfl, rfl⟩ := hp
      refine am_aast O d_Mod_init_305 (by (repeat (first | rw [va_up_self] | rw [va_up_ne _ _ (by omega)] | rw [F_State_init_lt (by omega) (by omega)] | rw [F_State_init_self (by omega)] | rw [wl_f_lt (by omega) (by omega)] | rw [wl_f_q hq0])); first | done | rfl | assumption) (by omega) (by omega) (by (repeat (first | rw [va_up_self] | rw [va_up_ne _ _ (by omega)] | rw [F_State_init_lt (by omega) (by omega)] | rw [F_State_init_self (by omega)] | rw [wl_f_lt (by omega) (by omega)] | rw [wl_f_q hq0])); first | done | rfl | assumption) (by omega) (by omega) (by rfl) (by rfl) (by decide) (vp_in_nI hk8 (by omega)) ?_
      refine am_iinc (v := 1) d_Mod_init_306 rfl (by decide) (by decide) ?_
      refine am_goto (tgt := 287) d_Mod_init_309 (by decide) ?_
      rw [nI_clamp (by omega), show N + 17 * k + 1 + 16 = N + 17 * (k + 1) by omega]
      refine am_locs (lv' := [(0, .ref r), (1, .int (nI (k + 1)))]) (by rw [← nI_1]; rfl) ?_
      refine am_less (Nat.le_refl _) ?_ ?_ (ih (k + 1) (by omega) (by omega))
      · omega
      · omega

set_option maxRecDepth 100000 in
set_option maxHeartbeats 4000000 in
theorem pl_loop (O : am_ok K X) {N r q kc ks uc us : Nat} {f : Nat → am_C} {fs : List Value} {post : Option Value → am_H → Prop} (h0 : f r = .inr (14, fs)) (hfs : fs[36]? = some (.ref q)) (hq0 : f q = .inl (.object "StowTongueModel$Code", 130, fun _ => .null)) (hr : 128 ≤ r) (hr2 : r < N) (hq : 128 ≤ q) (hq2 : q < N) (hrq : r ≠ q) (hkc : uc + 910 ≤ kc) (hks : us + 417820 ≤ ks) (kk : am_W K X m_Mod_init 4 kc ks (uc + 910) (us + 417820) 345 [(0, .ref r), (1, .int (nI 130))] [] (N + 7 * 130, (pl_f N q f 130).1) post) : ∀ m k : Nat, k ≤ 130 → 130 - k < m → am_W K X m_Mod_init 4 kc ks (uc + 7 * k) (us + 3214 * k) 314 [(0, .ref r), (1, .int (nI k))] [] (N + 7 * k, (pl_f N q f k).1) post := by
  intro m
  induction m with
  | zero => intro k h1 h2; omega
  | succ m ih =>
    intro k hk hm
    refine am_iload_n d_Mod_init_314 rfl rfl ?_
    refine am_aload_n d_Mod_init_315 rfl rfl ?_
    refine am_get O f_Mod_363 d_Mod_init_316 (by (repeat (first | rw [va_up_self] | rw [va_up_ne _ _ (by omega)] | rw [F_Code_init_400_lt (by omega) (by omega)] | rw [F_Code_init_400_self (by omega)] | rw [pl_f_lt (by omega) (by omega)] | rw [pl_f_q hq0])); first | done | rfl | assumption) (by omega) (by omega) hfs ?_
    refine am_alen O d_Mod_init_319 (by (repeat (first | rw [va_up_self] | rw [va_up_ne _ _ (by omega)] | rw [F_Code_init_400_lt (by omega) (by omega)] | rw [F_Code_init_400_self (by omega)] | rw [pl_f_lt (by omega) (by omega)] | rw [pl_f_q hq0])); first | done | rfl | assumption) (by omega) (by omega) (by decide) rfl ?_
    refine am_icmp_ge (tgt := 345) d_Mod_init_320 (by decide) (fun c_320 => ?_) (fun c_320 => ?_)
    · have e : k = 130 := by
        rcases Nat.lt_or_ge k 130 with q | q
        · exact absurd c_320 (nI_ge (b := 130) q (by omega))
        · omega
      subst e
      exact kk
    · have hk8 : k < 130 := by
        rcases Nat.lt_or_ge k 130 with q | q
        · exact q
        · exact absurd (nI_le q (by omega)) c_320
      refine am_aload_n d_Mod_init_323 rfl rfl ?_
      refine am_get O f_Mod_363 d_Mod_init_324 (by (repeat (first | rw [va_up_self] | rw [va_up_ne _ _ (by omega)] | rw [F_Code_init_400_lt (by omega) (by omega)] | rw [F_Code_init_400_self (by omega)] | rw [pl_f_lt (by omega) (by omega)] | rw [pl_f_q hq0])); first | done | rfl | assumption) (by omega) (by omega) hfs ?_
      refine am_iload_n d_Mod_init_327 rfl rfl ?_
      refine am_new O n_Mod_96 d_Mod_init_328 (by omega) (by omega) ?_
      refine am_dup d_Mod_init_331 rfl ?_
      refine am_sipush (v := 400) d_Mod_init_332 (by decide) ?_
      refine am_callI O (c_Code_init_400 O (by (repeat (first | rw [va_up_self] | rw [va_up_ne _ _ (by omega)] | rw [F_Code_init_400_lt (by omega) (by omega)] | rw [F_Code_init_400_self (by omega)] | rw [pl_f_lt (by omega) (by omega)] | rw [pl_f_q hq0])); first | done | rfl | assumption) (by omega) (by omega)) rfl l_Mod_343 w_1492 rfl rfl rfl (Nat.le_of_ble_eq_true rfl) d_Mod_init_335 (by omega) (by omega) (by omega) (fun v h' hp => ?_)
      obtain ⟨rfl, rfl⟩ := hp
      refine am_aast O d_Mod_init_338 (by (repeat (first | rw [va_up_self] | rw [va_up_ne _ _ (by omega)] | rw [F_Code_init_400_lt (by omega) (by omega)] | rw [F_Code_init_400_self (by omega)] | rw [pl_f_lt (by omega) (by omega)] | rw [pl_f_q hq0])); first | done | rfl | assumption) (by omega) (by omega) (by (repeat (first | rw [va_up_self] | rw [va_up_ne _ _ (by omega)] | rw [F_Code_init_400_lt (by omega) (by omega)] | rw [F_Code_init_400_self (by omega)] | rw [pl_f_lt (by omega) (by omega)] | rw [pl_f_q hq0])); first | done | rfl | assumption) (by omega) (by omega) (by rfl) (by rfl) (by decide) (vp_in_nI hk8 (by omega)) ?_
      refine am_iinc (v := 1) d_Mod_init_339 rfl (by decide) (by decide) ?_
      refine am_goto (tgt := 314) d_Mod_init_342 (by decide) ?_
      rw [nI_clamp (by omega), show N + 7 * k + 1 + 6 = N + 7 * (k + 1) by omega]
      refine am_locs (lv' := [(0, .ref r), (1, .int (nI (k + 1)))]) (by rw [← nI_1]; rfl) ?_
      refine am_less (Nat.le_refl _) ?_ ?_ (ih (k + 1) (by omega) (by omega))
      · omega
      · omega

set_option maxRecDepth 100000 in
set_option maxHeartbeats 4000000 in
theorem wl_start (O : am_ok K X) {N r q kc ks uc us : Nat} {f : Nat → am_C} {fs : List Value} {post : Option Value → am_H → Prop} (h0 : f r = .inr (14, fs)) (hfs : fs[33]? = some (.ref q)) (hq0 : f q = .inl (.object "StowTongueModel$State", 8, fun _ => .null)) (hr : 128 ≤ r) (hr2 : r < N) (hq : 128 ≤ q) (hq2 : q < N) (hrq : r ≠ q) (hkc : uc + 136 ≤ kc) (hks : us + 72800 ≤ ks) (kk : am_W K X m_Mod_init 4 kc ks (uc + 136) (us + 72800) 312 [(0, .ref r), (1, .int (nI 8))] [] (N + 136, (wl_f N q f 8).1) post) : am_W K X m_Mod_init 4 kc ks uc us 287 [(0, .ref r), (1, .int 0)] [] (N, f) post := by
  exact wl_loop O h0 hfs hq0 hr hr2 hq hq2 hrq hkc hks kk 9 0 (by omega) (by omega)

set_option maxRecDepth 100000 in
set_option maxHeartbeats 4000000 in
theorem pl_start (O : am_ok K X) {N r q kc ks uc us : Nat} {f : Nat → am_C} {fs : List Value} {post : Option Value → am_H → Prop} (h0 : f r = .inr (14, fs)) (hfs : fs[36]? = some (.ref q)) (hq0 : f q = .inl (.object "StowTongueModel$Code", 130, fun _ => .null)) (hr : 128 ≤ r) (hr2 : r < N) (hq : 128 ≤ q) (hq2 : q < N) (hrq : r ≠ q) (hkc : uc + 910 ≤ kc) (hks : us + 417820 ≤ ks) (kk : am_W K X m_Mod_init 4 kc ks (uc + 910) (us + 417820) 345 [(0, .ref r), (1, .int (nI 130))] [] (N + 910, (pl_f N q f 130).1) post) : am_W K X m_Mod_init 4 kc ks uc us 314 [(0, .ref r), (1, .int 0)] [] (N, f) post := by
  exact pl_loop O h0 hfs hq0 hr hr2 hq hq2 hrq hkc hks kk 131 0 (by omega) (by omega)
end
end
section
section
variable {K : am_K} {X : Nat → am_C}
def G0_Mod_init (n : Nat) (f : Nat → am_C) (r : Nat) : Nat → am_C := va_up (F_Code_init_1500 (n + 3) (va_up (va_up (va_up (va_up (va_up f n (.inl (.byte, 1500, fun _ => .int 0))) r (.inr (14, [.ref n, .null, .int 0, .int 0, .int 0, .int 0, .int 0, .int 0, .int 0, .int 0, .int 0, .long 0, .null, .null, .null, .null, .null, .null, .null, .null, .int 0, .null, .null, .null, .int 0, .int 0, .null, .int 0, .null, .int 0, .null, .null, .null, .null, .int 0, .int 0, .null, .null, .null, .null, .null, .int 0, .int 0, .int 0, .int 0, .int 0, .int 0, .null, .null, .null, .null, .null, .int 0]))) (n + 1) (.inl (.byte, 600, fun _ => .int 0))) r (.inr (14, [.ref n, .ref (n + 1), .int 0, .int 0, .int 0, .int 0, .int 0, .int 0, .int 0, .int 0, .int 0, .long 0, .null, .null, .null, .null, .null, .null, .null, .null, .int 0, .null, .null, .null, .int 0, .int 0, .null, .int 0, .null, .int 0, .null, .null, .null, .null, .int 0, .int 0, .null, .null, .null, .null, .null, .int 0, .int 0, .int 0, .int 0, .int 0, .int 0, .null, .null, .null, .null, .null, .int 0]))) (n + 2) (.inr (12, [.null, .null, .int 0, .int 0, .int 0, .int 0, .int 0, .int 0, .int 0, .int 0]))) (n + 2)) r (.inr (14, [.ref n, .ref (n + 1), .int 0, .int 0, .int 0, .int 0, .int 0, .int 0, .int 0, .int 0, .int 0, .long 0, .ref (n + 2), .null, .null, .null, .null, .null, .null, .null, .int 0, .null, .null, .null, .int 0, .int 0, .null, .int 0, .null, .int 0, .null, .null, .null, .null, .int 0, .int 0, .null, .null, .null, .null, .null, .int 0, .int 0, .int 0, .int 0, .int 0, .int 0, .null, .null, .null, .null, .null, .int 0]))
theorem G0_Mod_init_lt {n : Nat} {f : Nat → am_C} {r x : Nat} (hx : x < n) (hr : x ≠ r) : G0_Mod_init n f r x = f x := by
  unfold G0_Mod_init
  (repeat (first | rw [va_up_ne _ _ (by omega)] | rw [F_Vals_lt (by omega) (by omega)] | rw [F_Code_init_1500_lt (by omega) (by omega)] | rw [F_Code_init_400_lt (by omega) (by omega)] | rw [F_State_init_lt (by omega) (by omega)] | rw [F_Out_init_lt (by omega) (by omega)] | rw [F_Draft_init_lt (by omega) (by omega)] | rw [F_Sweep_init_lt (by omega) (by omega)] | rw [F_Log_init_lt (by omega) (by omega)] | rw [F_Mach_init_lt (by omega) (by omega)] | rw [F_AL_lt (by omega) (by omega)] | rw [F_Lexer_lt (by omega) (by omega)] | rw [F_Pars_init_lt (by omega) (by omega)] | rw [F_Stow_init_lt (by omega) (by omega)] | rw [wl_f_lt (by omega) (by omega)] | rw [pl_f_lt (by omega) (by omega)]))
theorem G0_Mod_init_self {n : Nat} {f : Nat → am_C} {r : Nat} (hr : r < n) : G0_Mod_init n f r r = .inr (14, [.ref n, .ref (n + 1), .int 0, .int 0, .int 0, .int 0, .int 0, .int 0, .int 0, .int 0, .int 0, .long 0, .ref (n + 2), .null, .null, .null, .null, .null, .null, .null, .int 0, .null, .null, .null, .int 0, .int 0, .null, .int 0, .null, .int 0, .null, .null, .null, .null, .int 0, .int 0, .null, .null, .null, .null, .null, .int 0, .int 0, .int 0, .int 0, .int 0, .int 0, .null, .null, .null, .null, .null, .int 0]) := by
  unfold G0_Mod_init
  (repeat (first | rw [va_up_self] | rw [va_up_ne _ _ (by omega)] | rw [F_Vals_lt (by omega) (by omega)] | rw [F_Code_init_1500_lt (by omega) (by omega)] | rw [F_Code_init_400_lt (by omega) (by omega)] | rw [F_State_init_lt (by omega) (by omega)] | rw [F_Out_init_lt (by omega) (by omega)] | rw [F_Draft_init_lt (by omega) (by omega)] | rw [F_Sweep_init_lt (by omega) (by omega)] | rw [F_Log_init_lt (by omega) (by omega)] | rw [F_Mach_init_lt (by omega) (by omega)] | rw [F_AL_lt (by omega) (by omega)] | rw [F_Lexer_lt (by omega) (by omega)] | rw [F_Pars_init_lt (by omega) (by omega)] | rw [F_Stow_init_lt (by omega) (by omega)] | rw [wl_f_lt (by omega) (by omega)] | rw [pl_f_lt (by omega) (by omega)]))

set_option maxRecDepth 100000 in
set_option maxHeartbeats 4000000 in
theorem s0_Mod_init (O : am_ok K X) {n r kc ks uc us : Nat} {f : Nat → am_C} {post : Option Value → am_H → Prop} (h0 : f r = .inr (14, [.null, .null, .int 0, .int 0, .int 0, .int 0, .int 0, .int 0, .int 0, .int 0, .int 0, .long 0, .null, .null, .null, .null, .null, .null, .null, .null, .int 0, .null, .null, .null, .int 0, .int 0, .null, .int 0, .null, .int 0, .null, .null, .null, .null, .int 0, .int 0, .null, .null, .null, .null, .null, .int 0, .int 0, .int 0, .int 0, .int 0, .int 0, .null, .null, .null, .null, .null, .int 0])) (h1 : 128 ≤ r) (h2 : r < n) (hkc : uc + 9 ≤ kc) (hks : us + 14114 ≤ ks) (kk : am_W K X m_Mod_init 4 kc ks (uc + 9) (us + 14114) 36 [(0, .ref r)] [] (n + 9, G0_Mod_init n f r) post) : am_W K X m_Mod_init 4 kc ks uc us 0 [(0, .ref r)] [] (n, f) post := by
  refine am_aload_n d_Mod_init_0 rfl rfl ?_
  refine am_obj w_1488 w_177 w_178 d_Mod_init_1 (by omega) (Nat.le_of_ble_eq_true rfl) ?_
  refine am_aload_n d_Mod_init_4 rfl rfl ?_
  refine am_sipush (v := 1500) d_Mod_init_5 (by decide) ?_
  refine am_newa (at_ := .byte) (ty := .byte) (N := 1500) O rfl (by decide) w_195 d_Mod_init_8 (by decide) (by decide) (by decide) (by omega) (by omega) ?_
  refine am_putF O f_Mod_22 (fun q hq => by cases hq; exact ⟨w_1622, rfl⟩) rfl d_Mod_init_10 (by (repeat (first | rw [va_up_self] | rw [va_up_ne _ _ (by omega)] | rw [F_Vals_lt (by omega) (by omega)] | rw [F_Code_init_1500_lt (by omega) (by omega)] | rw [F_Code_init_400_lt (by omega) (by omega)] | rw [F_State_init_lt (by omega) (by omega)] | rw [F_Out_init_lt (by omega) (by omega)] | rw [F_Draft_init_lt (by omega) (by omega)] | rw [F_Sweep_init_lt (by omega) (by omega)] | rw [F_Log_init_lt (by omega) (by omega)] | rw [F_Mach_init_lt (by omega) (by omega)] | rw [F_AL_lt (by omega) (by omega)] | rw [F_Lexer_lt (by omega) (by omega)] | rw [F_Pars_init_lt (by omega) (by omega)] | rw [F_Stow_init_lt (by omega) (by omega)] | rw [wl_f_lt (by omega) (by omega)] | rw [pl_f_lt (by omega) (by omega)])); first | done | rfl | assumption) (by omega) (by omega) (Nat.le_of_ble_eq_true rfl) (fun q hq => by cases hq; exact ⟨rfl, rfl, rfl⟩) ?_
  refine am_aload_n d_Mod_init_13 rfl rfl ?_
  refine am_sipush (v := 600) d_Mod_init_14 (by decide) ?_
  refine am_newa (at_ := .byte) (ty := .byte) (N := 600) O rfl (by decide) w_195 d_Mod_init_17 (by decide) (by decide) (by decide) (by omega) (by omega) ?_
  refine am_putF O f_Mod_340 (fun q hq => by cases hq; exact ⟨w_1623, rfl⟩) rfl d_Mod_init_19 (by (repeat (first | rw [va_up_self] | rw [va_up_ne _ _ (by omega)] | rw [F_Vals_lt (by omega) (by omega)] | rw [F_Code_init_1500_lt (by omega) (by omega)] | rw [F_Code_init_400_lt (by omega) (by omega)] | rw [F_State_init_lt (by omega) (by omega)] | rw [F_Out_init_lt (by omega) (by omega)] | rw [F_Draft_init_lt (by omega) (by omega)] | rw [F_Sweep_init_lt (by omega) (by omega)] | rw [F_Log_init_lt (by omega) (by omega)] | rw [F_Mach_init_lt (by omega) (by omega)] | rw [F_AL_lt (by omega) (by omega)] | rw [F_Lexer_lt (by omega) (by omega)] | rw [F_Pars_init_lt (by omega) (by omega)] | rw [F_Stow_init_lt (by omega) (by omega)] | rw [wl_f_lt (by omega) (by omega)] | rw [pl_f_lt (by omega) (by omega)])); first | done | rfl | assumption) (by omega) (by omega) (Nat.le_of_ble_eq_true rfl) (fun q hq => by cases hq; exact ⟨rfl, rfl, rfl⟩) ?_
  refine am_aload_n d_Mod_init_22 rfl rfl ?_
  refine am_new O n_Mod_96 d_Mod_init_23 (by omega) (by omega) ?_
  refine am_dup d_Mod_init_26 rfl ?_
  refine am_sipush (v := 1500) d_Mod_init_27 (by decide) ?_
  refine am_callI O (c_Code_init_1500 O (by (repeat (first | rw [va_up_self] | rw [va_up_ne _ _ (by omega)] | rw [F_Vals_lt (by omega) (by omega)] | rw [F_Code_init_1500_lt (by omega) (by omega)] | rw [F_Code_init_400_lt (by omega) (by omega)] | rw [F_State_init_lt (by omega) (by omega)] | rw [F_Out_init_lt (by omega) (by omega)] | rw [F_Draft_init_lt (by omega) (by omega)] | rw [F_Sweep_init_lt (by omega) (by omega)] | rw [F_Log_init_lt (by omega) (by omega)] | rw [F_Mach_init_lt (by omega) (by omega)] | rw [F_AL_lt (by omega) (by omega)] | rw [F_Lexer_lt (by omega) (by omega)] | rw [F_Pars_init_lt (by omega) (by omega)] | rw [F_Stow_init_lt (by omega) (by omega)] | rw [wl_f_lt (by omega) (by omega)] | rw [pl_f_lt (by omega) (by omega)])); first | done | rfl | assumption) (by omega) (by omega)) rfl l_Mod_343 w_1492 rfl rfl rfl (Nat.le_of_ble_eq_true rfl) d_Mod_init_30 (by omega) (by omega) (by omega) (fun v h' hp => ?_)
  obtain ⟨rfl, rfl⟩ := hp
  refine am_putF O f_Mod_143 (fun q hq => by cases hq; exact ⟨w_1634, rfl⟩) rfl d_Mod_init_33 (by (repeat (first | rw [va_up_self] | rw [va_up_ne _ _ (by omega)] | rw [F_Vals_lt (by omega) (by omega)] | rw [F_Code_init_1500_lt (by omega) (by omega)] | rw [F_Code_init_400_lt (by omega) (by omega)] | rw [F_State_init_lt (by omega) (by omega)] | rw [F_Out_init_lt (by omega) (by omega)] | rw [F_Draft_init_lt (by omega) (by omega)] | rw [F_Sweep_init_lt (by omega) (by omega)] | rw [F_Log_init_lt (by omega) (by omega)] | rw [F_Mach_init_lt (by omega) (by omega)] | rw [F_AL_lt (by omega) (by omega)] | rw [F_Lexer_lt (by omega) (by omega)] | rw [F_Pars_init_lt (by omega) (by omega)] | rw [F_Stow_init_lt (by omega) (by omega)] | rw [wl_f_lt (by omega) (by omega)] | rw [pl_f_lt (by omega) (by omega)])); first | done | rfl | assumption) (by omega) (by omega) (Nat.le_of_ble_eq_true rfl) (fun q hq => by cases hq; exact ⟨rfl, rfl, rfl⟩) ?_
  exact am_less (Nat.le_refl _) (by omega) (by omega) kk

def G1_Mod_init (n : Nat) (f : Nat → am_C) (r : Nat) (y0 y1 y12 : Nat) : Nat → am_C := va_up (va_up (va_up (va_up (va_up (va_up (va_up (va_up f n (.inl (.long, 200, fun _ => .long 0))) r (.inr (14, [.ref y0, .ref y1, .int 0, .int 0, .int 0, .int 0, .int 0, .int 0, .int 0, .int 0, .int 0, .long 0, .ref y12, .ref n, .null, .null, .null, .null, .null, .null, .int 0, .null, .null, .null, .int 0, .int 0, .null, .int 0, .null, .int 0, .null, .null, .null, .null, .int 0, .int 0, .null, .null, .null, .null, .null, .int 0, .int 0, .int 0, .int 0, .int 0, .int 0, .null, .null, .null, .null, .null, .int 0]))) (n + 1) (.inl (.int, 200, fun _ => .int 0))) r (.inr (14, [.ref y0, .ref y1, .int 0, .int 0, .int 0, .int 0, .int 0, .int 0, .int 0, .int 0, .int 0, .long 0, .ref y12, .ref n, .ref (n + 1), .null, .null, .null, .null, .null, .int 0, .null, .null, .null, .int 0, .int 0, .null, .int 0, .null, .int 0, .null, .null, .null, .null, .int 0, .int 0, .null, .null, .null, .null, .null, .int 0, .int 0, .int 0, .int 0, .int 0, .int 0, .null, .null, .null, .null, .null, .int 0]))) (n + 2) (.inl (.int, 200, fun _ => .int 0))) r (.inr (14, [.ref y0, .ref y1, .int 0, .int 0, .int 0, .int 0, .int 0, .int 0, .int 0, .int 0, .int 0, .long 0, .ref y12, .ref n, .ref (n + 1), .ref (n + 2), .null, .null, .null, .null, .int 0, .null, .null, .null, .int 0, .int 0, .null, .int 0, .null, .int 0, .null, .null, .null, .null, .int 0, .int 0, .null, .null, .null, .null, .null, .int 0, .int 0, .int 0, .int 0, .int 0, .int 0, .null, .null, .null, .null, .null, .int 0]))) (n + 3) (.inl (.int, 200, fun _ => .int 0))) r (.inr (14, [.ref y0, .ref y1, .int 0, .int 0, .int 0, .int 0, .int 0, .int 0, .int 0, .int 0, .int 0, .long 0, .ref y12, .ref n, .ref (n + 1), .ref (n + 2), .ref (n + 3), .null, .null, .null, .int 0, .null, .null, .null, .int 0, .int 0, .null, .int 0, .null, .int 0, .null, .null, .null, .null, .int 0, .int 0, .null, .null, .null, .null, .null, .int 0, .int 0, .int 0, .int 0, .int 0, .int 0, .null, .null, .null, .null, .null, .int 0]))
theorem G1_Mod_init_lt {n : Nat} {f : Nat → am_C} {r x : Nat} {y0 y1 y12 : Nat} (hx : x < n) (hr : x ≠ r) : G1_Mod_init n f r y0 y1 y12 x = f x := by
  unfold G1_Mod_init
  (repeat (first | rw [va_up_ne _ _ (by omega)] | rw [F_Vals_lt (by omega) (by omega)] | rw [F_Code_init_1500_lt (by omega) (by omega)] | rw [F_Code_init_400_lt (by omega) (by omega)] | rw [F_State_init_lt (by omega) (by omega)] | rw [F_Out_init_lt (by omega) (by omega)] | rw [F_Draft_init_lt (by omega) (by omega)] | rw [F_Sweep_init_lt (by omega) (by omega)] | rw [F_Log_init_lt (by omega) (by omega)] | rw [F_Mach_init_lt (by omega) (by omega)] | rw [F_AL_lt (by omega) (by omega)] | rw [F_Lexer_lt (by omega) (by omega)] | rw [F_Pars_init_lt (by omega) (by omega)] | rw [F_Stow_init_lt (by omega) (by omega)] | rw [wl_f_lt (by omega) (by omega)] | rw [pl_f_lt (by omega) (by omega)] | rw [G0_Mod_init_lt (by omega) (by omega)]))
theorem G1_Mod_init_self {n : Nat} {f : Nat → am_C} {r : Nat} {y0 y1 y12 : Nat} (hr : r < n) : G1_Mod_init n f r y0 y1 y12 r = .inr (14, [.ref y0, .ref y1, .int 0, .int 0, .int 0, .int 0, .int 0, .int 0, .int 0, .int 0, .int 0, .long 0, .ref y12, .ref n, .ref (n + 1), .ref (n + 2), .ref (n + 3), .null, .null, .null, .int 0, .null, .null, .null, .int 0, .int 0, .null, .int 0, .null, .int 0, .null, .null, .null, .null, .int 0, .int 0, .null, .null, .null, .null, .null, .int 0, .int 0, .int 0, .int 0, .int 0, .int 0, .null, .null, .null, .null, .null, .int 0]) := by
  unfold G1_Mod_init
  (repeat (first | rw [va_up_self] | rw [va_up_ne _ _ (by omega)] | rw [F_Vals_lt (by omega) (by omega)] | rw [F_Code_init_1500_lt (by omega) (by omega)] | rw [F_Code_init_400_lt (by omega) (by omega)] | rw [F_State_init_lt (by omega) (by omega)] | rw [F_Out_init_lt (by omega) (by omega)] | rw [F_Draft_init_lt (by omega) (by omega)] | rw [F_Sweep_init_lt (by omega) (by omega)] | rw [F_Log_init_lt (by omega) (by omega)] | rw [F_Mach_init_lt (by omega) (by omega)] | rw [F_AL_lt (by omega) (by omega)] | rw [F_Lexer_lt (by omega) (by omega)] | rw [F_Pars_init_lt (by omega) (by omega)] | rw [F_Stow_init_lt (by omega) (by omega)] | rw [wl_f_lt (by omega) (by omega)] | rw [pl_f_lt (by omega) (by omega)] | rw [G0_Mod_init_lt (by omega) (by omega)]))

set_option maxRecDepth 100000 in
set_option maxHeartbeats 4000000 in
theorem s1_Mod_init (O : am_ok K X) {n r kc ks uc us : Nat} {y0 y1 y12 : Nat} {f : Nat → am_C} {post : Option Value → am_H → Prop} (h0 : f r = .inr (14, [.ref y0, .ref y1, .int 0, .int 0, .int 0, .int 0, .int 0, .int 0, .int 0, .int 0, .int 0, .long 0, .ref y12, .null, .null, .null, .null, .null, .null, .null, .int 0, .null, .null, .null, .int 0, .int 0, .null, .int 0, .null, .int 0, .null, .null, .null, .null, .int 0, .int 0, .null, .null, .null, .null, .null, .int 0, .int 0, .int 0, .int 0, .int 0, .int 0, .null, .null, .null, .null, .null, .int 0])) (h1 : 128 ≤ r) (h2 : r < n) (hkc : uc + 4 ≤ kc) (hks : us + 800 ≤ ks) (kk : am_W K X m_Mod_init 4 kc ks (uc + 4) (us + 800) 72 [(0, .ref r)] [] (n + 4, G1_Mod_init n f r y0 y1 y12) post) : am_W K X m_Mod_init 4 kc ks uc us 36 [(0, .ref r)] [] (n, f) post := by
  refine am_aload_n d_Mod_init_36 rfl rfl ?_
  refine am_sipush (v := 200) d_Mod_init_37 (by decide) ?_
  refine am_newa (at_ := .long) (ty := .long) (N := 200) O rfl (by decide) w_291 d_Mod_init_40 (by decide) (by decide) (by decide) (by omega) (by omega) ?_
  refine am_putF O f_Mod_161 (fun q hq => by cases hq; exact ⟨w_1635, rfl⟩) rfl d_Mod_init_42 (by (repeat (first | rw [va_up_self] | rw [va_up_ne _ _ (by omega)] | rw [F_Vals_lt (by omega) (by omega)] | rw [F_Code_init_1500_lt (by omega) (by omega)] | rw [F_Code_init_400_lt (by omega) (by omega)] | rw [F_State_init_lt (by omega) (by omega)] | rw [F_Out_init_lt (by omega) (by omega)] | rw [F_Draft_init_lt (by omega) (by omega)] | rw [F_Sweep_init_lt (by omega) (by omega)] | rw [F_Log_init_lt (by omega) (by omega)] | rw [F_Mach_init_lt (by omega) (by omega)] | rw [F_AL_lt (by omega) (by omega)] | rw [F_Lexer_lt (by omega) (by omega)] | rw [F_Pars_init_lt (by omega) (by omega)] | rw [F_Stow_init_lt (by omega) (by omega)] | rw [wl_f_lt (by omega) (by omega)] | rw [pl_f_lt (by omega) (by omega)] | rw [G0_Mod_init_lt (by omega) (by omega)])); first | done | rfl | assumption) (by omega) (by omega) (Nat.le_of_ble_eq_true rfl) (fun q hq => by cases hq; exact ⟨rfl, rfl, rfl⟩) ?_
  refine am_aload_n d_Mod_init_45 rfl rfl ?_
  refine am_sipush (v := 200) d_Mod_init_46 (by decide) ?_
  refine am_newa (at_ := .int) (ty := .int) (N := 200) O rfl (by decide) w_317 d_Mod_init_49 (by decide) (by decide) (by decide) (by omega) (by omega) ?_
  refine am_putF O f_Mod_192 (fun q hq => by cases hq; exact ⟨w_1636, rfl⟩) rfl d_Mod_init_51 (by (repeat (first | rw [va_up_self] | rw [va_up_ne _ _ (by omega)] | rw [F_Vals_lt (by omega) (by omega)] | rw [F_Code_init_1500_lt (by omega) (by omega)] | rw [F_Code_init_400_lt (by omega) (by omega)] | rw [F_State_init_lt (by omega) (by omega)] | rw [F_Out_init_lt (by omega) (by omega)] | rw [F_Draft_init_lt (by omega) (by omega)] | rw [F_Sweep_init_lt (by omega) (by omega)] | rw [F_Log_init_lt (by omega) (by omega)] | rw [F_Mach_init_lt (by omega) (by omega)] | rw [F_AL_lt (by omega) (by omega)] | rw [F_Lexer_lt (by omega) (by omega)] | rw [F_Pars_init_lt (by omega) (by omega)] | rw [F_Stow_init_lt (by omega) (by omega)] | rw [wl_f_lt (by omega) (by omega)] | rw [pl_f_lt (by omega) (by omega)] | rw [G0_Mod_init_lt (by omega) (by omega)])); first | done | rfl | assumption) (by omega) (by omega) (Nat.le_of_ble_eq_true rfl) (fun q hq => by cases hq; exact ⟨rfl, rfl, rfl⟩) ?_
  refine am_aload_n d_Mod_init_54 rfl rfl ?_
  refine am_sipush (v := 200) d_Mod_init_55 (by decide) ?_
  refine am_newa (at_ := .int) (ty := .int) (N := 200) O rfl (by decide) w_317 d_Mod_init_58 (by decide) (by decide) (by decide) (by omega) (by omega) ?_
  refine am_putF O f_Mod_195 (fun q hq => by cases hq; exact ⟨w_1637, rfl⟩) rfl d_Mod_init_60 (by (repeat (first | rw [va_up_self] | rw [va_up_ne _ _ (by omega)] | rw [F_Vals_lt (by omega) (by omega)] | rw [F_Code_init_1500_lt (by omega) (by omega)] | rw [F_Code_init_400_lt (by omega) (by omega)] | rw [F_State_init_lt (by omega) (by omega)] | rw [F_Out_init_lt (by omega) (by omega)] | rw [F_Draft_init_lt (by omega) (by omega)] | rw [F_Sweep_init_lt (by omega) (by omega)] | rw [F_Log_init_lt (by omega) (by omega)] | rw [F_Mach_init_lt (by omega) (by omega)] | rw [F_AL_lt (by omega) (by omega)] | rw [F_Lexer_lt (by omega) (by omega)] | rw [F_Pars_init_lt (by omega) (by omega)] | rw [F_Stow_init_lt (by omega) (by omega)] | rw [wl_f_lt (by omega) (by omega)] | rw [pl_f_lt (by omega) (by omega)] | rw [G0_Mod_init_lt (by omega) (by omega)])); first | done | rfl | assumption) (by omega) (by omega) (Nat.le_of_ble_eq_true rfl) (fun q hq => by cases hq; exact ⟨rfl, rfl, rfl⟩) ?_
  refine am_aload_n d_Mod_init_63 rfl rfl ?_
  refine am_sipush (v := 200) d_Mod_init_64 (by decide) ?_
  refine am_newa (at_ := .int) (ty := .int) (N := 200) O rfl (by decide) w_317 d_Mod_init_67 (by decide) (by decide) (by decide) (by omega) (by omega) ?_
  refine am_putF O f_Mod_201 (fun q hq => by cases hq; exact ⟨w_1638, rfl⟩) rfl d_Mod_init_69 (by (repeat (first | rw [va_up_self] | rw [va_up_ne _ _ (by omega)] | rw [F_Vals_lt (by omega) (by omega)] | rw [F_Code_init_1500_lt (by omega) (by omega)] | rw [F_Code_init_400_lt (by omega) (by omega)] | rw [F_State_init_lt (by omega) (by omega)] | rw [F_Out_init_lt (by omega) (by omega)] | rw [F_Draft_init_lt (by omega) (by omega)] | rw [F_Sweep_init_lt (by omega) (by omega)] | rw [F_Log_init_lt (by omega) (by omega)] | rw [F_Mach_init_lt (by omega) (by omega)] | rw [F_AL_lt (by omega) (by omega)] | rw [F_Lexer_lt (by omega) (by omega)] | rw [F_Pars_init_lt (by omega) (by omega)] | rw [F_Stow_init_lt (by omega) (by omega)] | rw [wl_f_lt (by omega) (by omega)] | rw [pl_f_lt (by omega) (by omega)] | rw [G0_Mod_init_lt (by omega) (by omega)])); first | done | rfl | assumption) (by omega) (by omega) (Nat.le_of_ble_eq_true rfl) (fun q hq => by cases hq; exact ⟨rfl, rfl, rfl⟩) ?_
  exact am_less (Nat.le_refl _) (by omega) (by omega) kk

def G2_Mod_init (n : Nat) (f : Nat → am_C) (r : Nat) (y0 y1 y12 y13 y14 y15 y16 : Nat) : Nat → am_C := va_up (F_Code_init_1500 (n + 4) (va_up (va_up (va_up (va_up (va_up (va_up (va_up f n (.inl (.int, 200, fun _ => .int 0))) r (.inr (14, [.ref y0, .ref y1, .int 0, .int 0, .int 0, .int 0, .int 0, .int 0, .int 0, .int 0, .int 0, .long 0, .ref y12, .ref y13, .ref y14, .ref y15, .ref y16, .ref n, .null, .null, .int 0, .null, .null, .null, .int 0, .int 0, .null, .int 0, .null, .int 0, .null, .null, .null, .null, .int 0, .int 0, .null, .null, .null, .null, .null, .int 0, .int 0, .int 0, .int 0, .int 0, .int 0, .null, .null, .null, .null, .null, .int 0]))) (n + 1) (.inl (.int, 200, fun _ => .int 0))) r (.inr (14, [.ref y0, .ref y1, .int 0, .int 0, .int 0, .int 0, .int 0, .int 0, .int 0, .int 0, .int 0, .long 0, .ref y12, .ref y13, .ref y14, .ref y15, .ref y16, .ref n, .ref (n + 1), .null, .int 0, .null, .null, .null, .int 0, .int 0, .null, .int 0, .null, .int 0, .null, .null, .null, .null, .int 0, .int 0, .null, .null, .null, .null, .null, .int 0, .int 0, .int 0, .int 0, .int 0, .int 0, .null, .null, .null, .null, .null, .int 0]))) (n + 2) (.inl (.int, 200, fun _ => .int 0))) r (.inr (14, [.ref y0, .ref y1, .int 0, .int 0, .int 0, .int 0, .int 0, .int 0, .int 0, .int 0, .int 0, .long 0, .ref y12, .ref y13, .ref y14, .ref y15, .ref y16, .ref n, .ref (n + 1), .ref (n + 2), .int 0, .null, .null, .null, .int 0, .int 0, .null, .int 0, .null, .int 0, .null, .null, .null, .null, .int 0, .int 0, .null, .null, .null, .null, .null, .int 0, .int 0, .int 0, .int 0, .int 0, .int 0, .null, .null, .null, .null, .null, .int 0]))) (n + 3) (.inr (12, [.null, .null, .int 0, .int 0, .int 0, .int 0, .int 0, .int 0, .int 0, .int 0]))) (n + 3)) r (.inr (14, [.ref y0, .ref y1, .int 0, .int 0, .int 0, .int 0, .int 0, .int 0, .int 0, .int 0, .int 0, .long 0, .ref y12, .ref y13, .ref y14, .ref y15, .ref y16, .ref n, .ref (n + 1), .ref (n + 2), .int 0, .ref (n + 3), .null, .null, .int 0, .int 0, .null, .int 0, .null, .int 0, .null, .null, .null, .null, .int 0, .int 0, .null, .null, .null, .null, .null, .int 0, .int 0, .int 0, .int 0, .int 0, .int 0, .null, .null, .null, .null, .null, .int 0]))
theorem G2_Mod_init_lt {n : Nat} {f : Nat → am_C} {r x : Nat} {y0 y1 y12 y13 y14 y15 y16 : Nat} (hx : x < n) (hr : x ≠ r) : G2_Mod_init n f r y0 y1 y12 y13 y14 y15 y16 x = f x := by
  unfold G2_Mod_init
  (repeat (first | rw [va_up_ne _ _ (by omega)] | rw [F_Vals_lt (by omega) (by omega)] | rw [F_Code_init_1500_lt (by omega) (by omega)] | rw [F_Code_init_400_lt (by omega) (by omega)] | rw [F_State_init_lt (by omega) (by omega)] | rw [F_Out_init_lt (by omega) (by omega)] | rw [F_Draft_init_lt (by omega) (by omega)] | rw [F_Sweep_init_lt (by omega) (by omega)] | rw [F_Log_init_lt (by omega) (by omega)] | rw [F_Mach_init_lt (by omega) (by omega)] | rw [F_AL_lt (by omega) (by omega)] | rw [F_Lexer_lt (by omega) (by omega)] | rw [F_Pars_init_lt (by omega) (by omega)] | rw [F_Stow_init_lt (by omega) (by omega)] | rw [wl_f_lt (by omega) (by omega)] | rw [pl_f_lt (by omega) (by omega)] | rw [G0_Mod_init_lt (by omega) (by omega)] | rw [G1_Mod_init_lt (by omega) (by omega)]))
theorem G2_Mod_init_self {n : Nat} {f : Nat → am_C} {r : Nat} {y0 y1 y12 y13 y14 y15 y16 : Nat} (hr : r < n) : G2_Mod_init n f r y0 y1 y12 y13 y14 y15 y16 r = .inr (14, [.ref y0, .ref y1, .int 0, .int 0, .int 0, .int 0, .int 0, .int 0, .int 0, .int 0, .int 0, .long 0, .ref y12, .ref y13, .ref y14, .ref y15, .ref y16, .ref n, .ref (n + 1), .ref (n + 2), .int 0, .ref (n + 3), .null, .null, .int 0, .int 0, .null, .int 0, .null, .int 0, .null, .null, .null, .null, .int 0, .int 0, .null, .null, .null, .null, .null, .int 0, .int 0, .int 0, .int 0, .int 0, .int 0, .null, .null, .null, .null, .null, .int 0]) := by
  unfold G2_Mod_init
  (repeat (first | rw [va_up_self] | rw [va_up_ne _ _ (by omega)] | rw [F_Vals_lt (by omega) (by omega)] | rw [F_Code_init_1500_lt (by omega) (by omega)] | rw [F_Code_init_400_lt (by omega) (by omega)] | rw [F_State_init_lt (by omega) (by omega)] | rw [F_Out_init_lt (by omega) (by omega)] | rw [F_Draft_init_lt (by omega) (by omega)] | rw [F_Sweep_init_lt (by omega) (by omega)] | rw [F_Log_init_lt (by omega) (by omega)] | rw [F_Mach_init_lt (by omega) (by omega)] | rw [F_AL_lt (by omega) (by omega)] | rw [F_Lexer_lt (by omega) (by omega)] | rw [F_Pars_init_lt (by omega) (by omega)] | rw [F_Stow_init_lt (by omega) (by omega)] | rw [wl_f_lt (by omega) (by omega)] | rw [pl_f_lt (by omega) (by omega)] | rw [G0_Mod_init_lt (by omega) (by omega)] | rw [G1_Mod_init_lt (by omega) (by omega)]))

set_option maxRecDepth 100000 in
set_option maxHeartbeats 4000000 in
theorem s2_Mod_init (O : am_ok K X) {n r kc ks uc us : Nat} {y0 y1 y12 y13 y14 y15 y16 : Nat} {f : Nat → am_C} {post : Option Value → am_H → Prop} (h0 : f r = .inr (14, [.ref y0, .ref y1, .int 0, .int 0, .int 0, .int 0, .int 0, .int 0, .int 0, .int 0, .int 0, .long 0, .ref y12, .ref y13, .ref y14, .ref y15, .ref y16, .null, .null, .null, .int 0, .null, .null, .null, .int 0, .int 0, .null, .int 0, .null, .int 0, .null, .null, .null, .null, .int 0, .int 0, .null, .null, .null, .null, .null, .int 0, .int 0, .int 0, .int 0, .int 0, .int 0, .null, .null, .null, .null, .null, .int 0])) (h1 : 128 ≤ r) (h2 : r < n) (hkc : uc + 10 ≤ kc) (hks : us + 12614 ≤ ks) (kk : am_W K X m_Mod_init 4 kc ks (uc + 10) (us + 12614) 113 [(0, .ref r)] [] (n + 10, G2_Mod_init n f r y0 y1 y12 y13 y14 y15 y16) post) : am_W K X m_Mod_init 4 kc ks uc us 72 [(0, .ref r)] [] (n, f) post := by
  refine am_aload_n d_Mod_init_72 rfl rfl ?_
  refine am_sipush (v := 200) d_Mod_init_73 (by decide) ?_
  refine am_newa (at_ := .int) (ty := .int) (N := 200) O rfl (by decide) w_317 d_Mod_init_76 (by decide) (by decide) (by decide) (by omega) (by omega) ?_
  refine am_putF O f_Mod_204 (fun q hq => by cases hq; exact ⟨w_1639, rfl⟩) rfl d_Mod_init_78 (by (repeat (first | rw [va_up_self] | rw [va_up_ne _ _ (by omega)] | rw [F_Vals_lt (by omega) (by omega)] | rw [F_Code_init_1500_lt (by omega) (by omega)] | rw [F_Code_init_400_lt (by omega) (by omega)] | rw [F_State_init_lt (by omega) (by omega)] | rw [F_Out_init_lt (by omega) (by omega)] | rw [F_Draft_init_lt (by omega) (by omega)] | rw [F_Sweep_init_lt (by omega) (by omega)] | rw [F_Log_init_lt (by omega) (by omega)] | rw [F_Mach_init_lt (by omega) (by omega)] | rw [F_AL_lt (by omega) (by omega)] | rw [F_Lexer_lt (by omega) (by omega)] | rw [F_Pars_init_lt (by omega) (by omega)] | rw [F_Stow_init_lt (by omega) (by omega)] | rw [wl_f_lt (by omega) (by omega)] | rw [pl_f_lt (by omega) (by omega)] | rw [G0_Mod_init_lt (by omega) (by omega)] | rw [G1_Mod_init_lt (by omega) (by omega)])); first | done | rfl | assumption) (by omega) (by omega) (Nat.le_of_ble_eq_true rfl) (fun q hq => by cases hq; exact ⟨rfl, rfl, rfl⟩) ?_
  refine am_aload_n d_Mod_init_81 rfl rfl ?_
  refine am_sipush (v := 200) d_Mod_init_82 (by decide) ?_
  refine am_newa (at_ := .int) (ty := .int) (N := 200) O rfl (by decide) w_317 d_Mod_init_85 (by decide) (by decide) (by decide) (by omega) (by omega) ?_
  refine am_putF O f_Mod_189 (fun q hq => by cases hq; exact ⟨w_1640, rfl⟩) rfl d_Mod_init_87 (by (repeat (first | rw [va_up_self] | rw [va_up_ne _ _ (by omega)] | rw [F_Vals_lt (by omega) (by omega)] | rw [F_Code_init_1500_lt (by omega) (by omega)] | rw [F_Code_init_400_lt (by omega) (by omega)] | rw [F_State_init_lt (by omega) (by omega)] | rw [F_Out_init_lt (by omega) (by omega)] | rw [F_Draft_init_lt (by omega) (by omega)] | rw [F_Sweep_init_lt (by omega) (by omega)] | rw [F_Log_init_lt (by omega) (by omega)] | rw [F_Mach_init_lt (by omega) (by omega)] | rw [F_AL_lt (by omega) (by omega)] | rw [F_Lexer_lt (by omega) (by omega)] | rw [F_Pars_init_lt (by omega) (by omega)] | rw [F_Stow_init_lt (by omega) (by omega)] | rw [wl_f_lt (by omega) (by omega)] | rw [pl_f_lt (by omega) (by omega)] | rw [G0_Mod_init_lt (by omega) (by omega)] | rw [G1_Mod_init_lt (by omega) (by omega)])); first | done | rfl | assumption) (by omega) (by omega) (Nat.le_of_ble_eq_true rfl) (fun q hq => by cases hq; exact ⟨rfl, rfl, rfl⟩) ?_
  refine am_aload_n d_Mod_init_90 rfl rfl ?_
  refine am_sipush (v := 200) d_Mod_init_91 (by decide) ?_
  refine am_newa (at_ := .int) (ty := .int) (N := 200) O rfl (by decide) w_317 d_Mod_init_94 (by decide) (by decide) (by decide) (by omega) (by omega) ?_
  refine am_putF O f_Mod_207 (fun q hq => by cases hq; exact ⟨w_1641, rfl⟩) rfl d_Mod_init_96 (by (repeat (first | rw [va_up_self] | rw [va_up_ne _ _ (by omega)] | rw [F_Vals_lt (by omega) (by omega)] | rw [F_Code_init_1500_lt (by omega) (by omega)] | rw [F_Code_init_400_lt (by omega) (by omega)] | rw [F_State_init_lt (by omega) (by omega)] | rw [F_Out_init_lt (by omega) (by omega)] | rw [F_Draft_init_lt (by omega) (by omega)] | rw [F_Sweep_init_lt (by omega) (by omega)] | rw [F_Log_init_lt (by omega) (by omega)] | rw [F_Mach_init_lt (by omega) (by omega)] | rw [F_AL_lt (by omega) (by omega)] | rw [F_Lexer_lt (by omega) (by omega)] | rw [F_Pars_init_lt (by omega) (by omega)] | rw [F_Stow_init_lt (by omega) (by omega)] | rw [wl_f_lt (by omega) (by omega)] | rw [pl_f_lt (by omega) (by omega)] | rw [G0_Mod_init_lt (by omega) (by omega)] | rw [G1_Mod_init_lt (by omega) (by omega)])); first | done | rfl | assumption) (by omega) (by omega) (Nat.le_of_ble_eq_true rfl) (fun q hq => by cases hq; exact ⟨rfl, rfl, rfl⟩) ?_
  refine am_aload_n d_Mod_init_99 rfl rfl ?_
  refine am_new O n_Mod_96 d_Mod_init_100 (by omega) (by omega) ?_
  refine am_dup d_Mod_init_103 rfl ?_
  refine am_sipush (v := 1500) d_Mod_init_104 (by decide) ?_
  refine am_callI O (c_Code_init_1500 O (by (repeat (first | rw [va_up_self] | rw [va_up_ne _ _ (by omega)] | rw [F_Vals_lt (by omega) (by omega)] | rw [F_Code_init_1500_lt (by omega) (by omega)] | rw [F_Code_init_400_lt (by omega) (by omega)] | rw [F_State_init_lt (by omega) (by omega)] | rw [F_Out_init_lt (by omega) (by omega)] | rw [F_Draft_init_lt (by omega) (by omega)] | rw [F_Sweep_init_lt (by omega) (by omega)] | rw [F_Log_init_lt (by omega) (by omega)] | rw [F_Mach_init_lt (by omega) (by omega)] | rw [F_AL_lt (by omega) (by omega)] | rw [F_Lexer_lt (by omega) (by omega)] | rw [F_Pars_init_lt (by omega) (by omega)] | rw [F_Stow_init_lt (by omega) (by omega)] | rw [wl_f_lt (by omega) (by omega)] | rw [pl_f_lt (by omega) (by omega)] | rw [G0_Mod_init_lt (by omega) (by omega)] | rw [G1_Mod_init_lt (by omega) (by omega)])); first | done | rfl | assumption) (by omega) (by omega)) rfl l_Mod_343 w_1492 rfl rfl rfl (Nat.le_of_ble_eq_true rfl) d_Mod_init_107 (by omega) (by omega) (by omega) (fun v h' hp => ?_)
  obtain ⟨rfl, rfl⟩ := hp
  refine am_putF O f_Mod_149 (fun q hq => by cases hq; exact ⟨w_1643, rfl⟩) rfl d_Mod_init_110 (by (repeat (first | rw [va_up_self] | rw [va_up_ne _ _ (by omega)] | rw [F_Vals_lt (by omega) (by omega)] | rw [F_Code_init_1500_lt (by omega) (by omega)] | rw [F_Code_init_400_lt (by omega) (by omega)] | rw [F_State_init_lt (by omega) (by omega)] | rw [F_Out_init_lt (by omega) (by omega)] | rw [F_Draft_init_lt (by omega) (by omega)] | rw [F_Sweep_init_lt (by omega) (by omega)] | rw [F_Log_init_lt (by omega) (by omega)] | rw [F_Mach_init_lt (by omega) (by omega)] | rw [F_AL_lt (by omega) (by omega)] | rw [F_Lexer_lt (by omega) (by omega)] | rw [F_Pars_init_lt (by omega) (by omega)] | rw [F_Stow_init_lt (by omega) (by omega)] | rw [wl_f_lt (by omega) (by omega)] | rw [pl_f_lt (by omega) (by omega)] | rw [G0_Mod_init_lt (by omega) (by omega)] | rw [G1_Mod_init_lt (by omega) (by omega)])); first | done | rfl | assumption) (by omega) (by omega) (Nat.le_of_ble_eq_true rfl) (fun q hq => by cases hq; exact ⟨rfl, rfl, rfl⟩) ?_
  exact am_less (Nat.le_refl _) (by omega) (by omega) kk

def G3_Mod_init (n : Nat) (f : Nat → am_C) (r : Nat) (y0 y1 y12 y13 y14 y15 y16 y17 y18 y19 y21 : Nat) : Nat → am_C := va_up (va_up (va_up (va_up (va_up (va_up f n (.inl (.long, 1500, fun _ => .long 0))) r (.inr (14, [.ref y0, .ref y1, .int 0, .int 0, .int 0, .int 0, .int 0, .int 0, .int 0, .int 0, .int 0, .long 0, .ref y12, .ref y13, .ref y14, .ref y15, .ref y16, .ref y17, .ref y18, .ref y19, .int 0, .ref y21, .null, .ref n, .int 0, .int 0, .null, .int 0, .null, .int 0, .null, .null, .null, .null, .int 0, .int 0, .null, .null, .null, .null, .null, .int 0, .int 0, .int 0, .int 0, .int 0, .int 0, .null, .null, .null, .null, .null, .int 0]))) (n + 1) (.inl (.long, 1500, fun _ => .long 0))) r (.inr (14, [.ref y0, .ref y1, .int 0, .int 0, .int 0, .int 0, .int 0, .int 0, .int 0, .int 0, .int 0, .long 0, .ref y12, .ref y13, .ref y14, .ref y15, .ref y16, .ref y17, .ref y18, .ref y19, .int 0, .ref y21, .null, .ref n, .int 0, .int 0, .ref (n + 1), .int 0, .null, .int 0, .null, .null, .null, .null, .int 0, .int 0, .null, .null, .null, .null, .null, .int 0, .int 0, .int 0, .int 0, .int 0, .int 0, .null, .null, .null, .null, .null, .int 0]))) (n + 2) (.inl (.int, 1500, fun _ => .int 0))) r (.inr (14, [.ref y0, .ref y1, .int 0, .int 0, .int 0, .int 0, .int 0, .int 0, .int 0, .int 0, .int 0, .long 0, .ref y12, .ref y13, .ref y14, .ref y15, .ref y16, .ref y17, .ref y18, .ref y19, .int 0, .ref y21, .null, .ref n, .int 0, .int 0, .ref (n + 1), .int 0, .ref (n + 2), .int 0, .null, .null, .null, .null, .int 0, .int 0, .null, .null, .null, .null, .null, .int 0, .int 0, .int 0, .int 0, .int 0, .int 0, .null, .null, .null, .null, .null, .int 0]))
theorem G3_Mod_init_lt {n : Nat} {f : Nat → am_C} {r x : Nat} {y0 y1 y12 y13 y14 y15 y16 y17 y18 y19 y21 : Nat} (hx : x < n) (hr : x ≠ r) : G3_Mod_init n f r y0 y1 y12 y13 y14 y15 y16 y17 y18 y19 y21 x = f x := by
  unfold G3_Mod_init
  (repeat (first | rw [va_up_ne _ _ (by omega)] | rw [F_Vals_lt (by omega) (by omega)] | rw [F_Code_init_1500_lt (by omega) (by omega)] | rw [F_Code_init_400_lt (by omega) (by omega)] | rw [F_State_init_lt (by omega) (by omega)] | rw [F_Out_init_lt (by omega) (by omega)] | rw [F_Draft_init_lt (by omega) (by omega)] | rw [F_Sweep_init_lt (by omega) (by omega)] | rw [F_Log_init_lt (by omega) (by omega)] | rw [F_Mach_init_lt (by omega) (by omega)] | rw [F_AL_lt (by omega) (by omega)] | rw [F_Lexer_lt (by omega) (by omega)] | rw [F_Pars_init_lt (by omega) (by omega)] | rw [F_Stow_init_lt (by omega) (by omega)] | rw [wl_f_lt (by omega) (by omega)] | rw [pl_f_lt (by omega) (by omega)] | rw [G0_Mod_init_lt (by omega) (by omega)] | rw [G1_Mod_init_lt (by omega) (by omega)] | rw [G2_Mod_init_lt (by omega) (by omega)]))
theorem G3_Mod_init_self {n : Nat} {f : Nat → am_C} {r : Nat} {y0 y1 y12 y13 y14 y15 y16 y17 y18 y19 y21 : Nat} (hr : r < n) : G3_Mod_init n f r y0 y1 y12 y13 y14 y15 y16 y17 y18 y19 y21 r = .inr (14, [.ref y0, .ref y1, .int 0, .int 0, .int 0, .int 0, .int 0, .int 0, .int 0, .int 0, .int 0, .long 0, .ref y12, .ref y13, .ref y14, .ref y15, .ref y16, .ref y17, .ref y18, .ref y19, .int 0, .ref y21, .null, .ref n, .int 0, .int 0, .ref (n + 1), .int 0, .ref (n + 2), .int 0, .null, .null, .null, .null, .int 0, .int 0, .null, .null, .null, .null, .null, .int 0, .int 0, .int 0, .int 0, .int 0, .int 0, .null, .null, .null, .null, .null, .int 0]) := by
  unfold G3_Mod_init
  (repeat (first | rw [va_up_self] | rw [va_up_ne _ _ (by omega)] | rw [F_Vals_lt (by omega) (by omega)] | rw [F_Code_init_1500_lt (by omega) (by omega)] | rw [F_Code_init_400_lt (by omega) (by omega)] | rw [F_State_init_lt (by omega) (by omega)] | rw [F_Out_init_lt (by omega) (by omega)] | rw [F_Draft_init_lt (by omega) (by omega)] | rw [F_Sweep_init_lt (by omega) (by omega)] | rw [F_Log_init_lt (by omega) (by omega)] | rw [F_Mach_init_lt (by omega) (by omega)] | rw [F_AL_lt (by omega) (by omega)] | rw [F_Lexer_lt (by omega) (by omega)] | rw [F_Pars_init_lt (by omega) (by omega)] | rw [F_Stow_init_lt (by omega) (by omega)] | rw [wl_f_lt (by omega) (by omega)] | rw [pl_f_lt (by omega) (by omega)] | rw [G0_Mod_init_lt (by omega) (by omega)] | rw [G1_Mod_init_lt (by omega) (by omega)] | rw [G2_Mod_init_lt (by omega) (by omega)]))

set_option maxRecDepth 100000 in
set_option maxHeartbeats 4000000 in
theorem s3_Mod_init (O : am_ok K X) {n r kc ks uc us : Nat} {y0 y1 y12 y13 y14 y15 y16 y17 y18 y19 y21 : Nat} {f : Nat → am_C} {post : Option Value → am_H → Prop} (h0 : f r = .inr (14, [.ref y0, .ref y1, .int 0, .int 0, .int 0, .int 0, .int 0, .int 0, .int 0, .int 0, .int 0, .long 0, .ref y12, .ref y13, .ref y14, .ref y15, .ref y16, .ref y17, .ref y18, .ref y19, .int 0, .ref y21, .null, .null, .int 0, .int 0, .null, .int 0, .null, .int 0, .null, .null, .null, .null, .int 0, .int 0, .null, .null, .null, .null, .null, .int 0, .int 0, .int 0, .int 0, .int 0, .int 0, .null, .null, .null, .null, .null, .int 0])) (h1 : 128 ≤ r) (h2 : r < n) (hkc : uc + 3 ≤ kc) (hks : us + 4500 ≤ ks) (kk : am_W K X m_Mod_init 4 kc ks (uc + 3) (us + 4500) 140 [(0, .ref r)] [] (n + 3, G3_Mod_init n f r y0 y1 y12 y13 y14 y15 y16 y17 y18 y19 y21) post) : am_W K X m_Mod_init 4 kc ks uc us 113 [(0, .ref r)] [] (n, f) post := by
  refine am_aload_n d_Mod_init_113 rfl rfl ?_
  refine am_sipush (v := 1500) d_Mod_init_114 (by decide) ?_
  refine am_newa (at_ := .long) (ty := .long) (N := 1500) O rfl (by decide) w_291 d_Mod_init_117 (by decide) (by decide) (by decide) (by omega) (by omega) ?_
  refine am_putF O f_Mod_126 (fun q hq => by cases hq; exact ⟨w_1645, rfl⟩) rfl d_Mod_init_119 (by (repeat (first | rw [va_up_self] | rw [va_up_ne _ _ (by omega)] | rw [F_Vals_lt (by omega) (by omega)] | rw [F_Code_init_1500_lt (by omega) (by omega)] | rw [F_Code_init_400_lt (by omega) (by omega)] | rw [F_State_init_lt (by omega) (by omega)] | rw [F_Out_init_lt (by omega) (by omega)] | rw [F_Draft_init_lt (by omega) (by omega)] | rw [F_Sweep_init_lt (by omega) (by omega)] | rw [F_Log_init_lt (by omega) (by omega)] | rw [F_Mach_init_lt (by omega) (by omega)] | rw [F_AL_lt (by omega) (by omega)] | rw [F_Lexer_lt (by omega) (by omega)] | rw [F_Pars_init_lt (by omega) (by omega)] | rw [F_Stow_init_lt (by omega) (by omega)] | rw [wl_f_lt (by omega) (by omega)] | rw [pl_f_lt (by omega) (by omega)] | rw [G0_Mod_init_lt (by omega) (by omega)] | rw [G1_Mod_init_lt (by omega) (by omega)] | rw [G2_Mod_init_lt (by omega) (by omega)])); first | done | rfl | assumption) (by omega) (by omega) (Nat.le_of_ble_eq_true rfl) (fun q hq => by cases hq; exact ⟨rfl, rfl, rfl⟩) ?_
  refine am_aload_n d_Mod_init_122 rfl rfl ?_
  refine am_sipush (v := 1500) d_Mod_init_123 (by decide) ?_
  refine am_newa (at_ := .long) (ty := .long) (N := 1500) O rfl (by decide) w_291 d_Mod_init_126 (by decide) (by decide) (by decide) (by omega) (by omega) ?_
  refine am_putF O f_Mod_168 (fun q hq => by cases hq; exact ⟨w_1648, rfl⟩) rfl d_Mod_init_128 (by (repeat (first | rw [va_up_self] | rw [va_up_ne _ _ (by omega)] | rw [F_Vals_lt (by omega) (by omega)] | rw [F_Code_init_1500_lt (by omega) (by omega)] | rw [F_Code_init_400_lt (by omega) (by omega)] | rw [F_State_init_lt (by omega) (by omega)] | rw [F_Out_init_lt (by omega) (by omega)] | rw [F_Draft_init_lt (by omega) (by omega)] | rw [F_Sweep_init_lt (by omega) (by omega)] | rw [F_Log_init_lt (by omega) (by omega)] | rw [F_Mach_init_lt (by omega) (by omega)] | rw [F_AL_lt (by omega) (by omega)] | rw [F_Lexer_lt (by omega) (by omega)] | rw [F_Pars_init_lt (by omega) (by omega)] | rw [F_Stow_init_lt (by omega) (by omega)] | rw [wl_f_lt (by omega) (by omega)] | rw [pl_f_lt (by omega) (by omega)] | rw [G0_Mod_init_lt (by omega) (by omega)] | rw [G1_Mod_init_lt (by omega) (by omega)] | rw [G2_Mod_init_lt (by omega) (by omega)])); first | done | rfl | assumption) (by omega) (by omega) (Nat.le_of_ble_eq_true rfl) (fun q hq => by cases hq; exact ⟨rfl, rfl, rfl⟩) ?_
  refine am_aload_n d_Mod_init_131 rfl rfl ?_
  refine am_sipush (v := 1500) d_Mod_init_132 (by decide) ?_
  refine am_newa (at_ := .int) (ty := .int) (N := 1500) O rfl (by decide) w_317 d_Mod_init_135 (by decide) (by decide) (by decide) (by omega) (by omega) ?_
  refine am_putF O f_Mod_330 (fun q hq => by cases hq; exact ⟨w_1650, rfl⟩) rfl d_Mod_init_137 (by (repeat (first | rw [va_up_self] | rw [va_up_ne _ _ (by omega)] | rw [F_Vals_lt (by omega) (by omega)] | rw [F_Code_init_1500_lt (by omega) (by omega)] | rw [F_Code_init_400_lt (by omega) (by omega)] | rw [F_State_init_lt (by omega) (by omega)] | rw [F_Out_init_lt (by omega) (by omega)] | rw [F_Draft_init_lt (by omega) (by omega)] | rw [F_Sweep_init_lt (by omega) (by omega)] | rw [F_Log_init_lt (by omega) (by omega)] | rw [F_Mach_init_lt (by omega) (by omega)] | rw [F_AL_lt (by omega) (by omega)] | rw [F_Lexer_lt (by omega) (by omega)] | rw [F_Pars_init_lt (by omega) (by omega)] | rw [F_Stow_init_lt (by omega) (by omega)] | rw [wl_f_lt (by omega) (by omega)] | rw [pl_f_lt (by omega) (by omega)] | rw [G0_Mod_init_lt (by omega) (by omega)] | rw [G1_Mod_init_lt (by omega) (by omega)] | rw [G2_Mod_init_lt (by omega) (by omega)])); first | done | rfl | assumption) (by omega) (by omega) (Nat.le_of_ble_eq_true rfl) (fun q hq => by cases hq; exact ⟨rfl, rfl, rfl⟩) ?_
  exact am_less (Nat.le_refl _) (by omega) (by omega) kk

def G4_Mod_init (n : Nat) (f : Nat → am_C) (r : Nat) (y0 y1 y12 y13 y14 y15 y16 y17 y18 y19 y21 y23 y26 y28 : Nat) : Nat → am_C := va_up (F_State_init (n + 35) (va_up (va_up (F_State_init (n + 18) (va_up (va_up (F_State_init (n + 1) (va_up f n (.inr (13, [.null, .null, .null, .null, .null, .null, .null, .null, .int 0, .int 0, .int 0, .int 0]))) n) r (.inr (14, [.ref y0, .ref y1, .int 0, .int 0, .int 0, .int 0, .int 0, .int 0, .int 0, .int 0, .int 0, .long 0, .ref y12, .ref y13, .ref y14, .ref y15, .ref y16, .ref y17, .ref y18, .ref y19, .int 0, .ref y21, .null, .ref y23, .int 0, .int 0, .ref y26, .int 0, .ref y28, .int 0, .ref n, .null, .null, .null, .int 0, .int 0, .null, .null, .null, .null, .null, .int 0, .int 0, .int 0, .int 0, .int 0, .int 0, .null, .null, .null, .null, .null, .int 0]))) (n + 17) (.inr (13, [.null, .null, .null, .null, .null, .null, .null, .null, .int 0, .int 0, .int 0, .int 0]))) (n + 17)) r (.inr (14, [.ref y0, .ref y1, .int 0, .int 0, .int 0, .int 0, .int 0, .int 0, .int 0, .int 0, .int 0, .long 0, .ref y12, .ref y13, .ref y14, .ref y15, .ref y16, .ref y17, .ref y18, .ref y19, .int 0, .ref y21, .null, .ref y23, .int 0, .int 0, .ref y26, .int 0, .ref y28, .int 0, .ref n, .ref (n + 17), .null, .null, .int 0, .int 0, .null, .null, .null, .null, .null, .int 0, .int 0, .int 0, .int 0, .int 0, .int 0, .null, .null, .null, .null, .null, .int 0]))) (n + 34) (.inr (13, [.null, .null, .null, .null, .null, .null, .null, .null, .int 0, .int 0, .int 0, .int 0]))) (n + 34)) r (.inr (14, [.ref y0, .ref y1, .int 0, .int 0, .int 0, .int 0, .int 0, .int 0, .int 0, .int 0, .int 0, .long 0, .ref y12, .ref y13, .ref y14, .ref y15, .ref y16, .ref y17, .ref y18, .ref y19, .int 0, .ref y21, .null, .ref y23, .int 0, .int 0, .ref y26, .int 0, .ref y28, .int 0, .ref n, .ref (n + 17), .ref (n + 34), .null, .int 0, .int 0, .null, .null, .null, .null, .null, .int 0, .int 0, .int 0, .int 0, .int 0, .int 0, .null, .null, .null, .null, .null, .int 0]))
theorem G4_Mod_init_lt {n : Nat} {f : Nat → am_C} {r x : Nat} {y0 y1 y12 y13 y14 y15 y16 y17 y18 y19 y21 y23 y26 y28 : Nat} (hx : x < n) (hr : x ≠ r) : G4_Mod_init n f r y0 y1 y12 y13 y14 y15 y16 y17 y18 y19 y21 y23 y26 y28 x = f x := by
  unfold G4_Mod_init
  (repeat (first | rw [va_up_ne _ _ (by omega)] | rw [F_Vals_lt (by omega) (by omega)] | rw [F_Code_init_1500_lt (by omega) (by omega)] | rw [F_Code_init_400_lt (by omega) (by omega)] | rw [F_State_init_lt (by omega) (by omega)] | rw [F_Out_init_lt (by omega) (by omega)] | rw [F_Draft_init_lt (by omega) (by omega)] | rw [F_Sweep_init_lt (by omega) (by omega)] | rw [F_Log_init_lt (by omega) (by omega)] | rw [F_Mach_init_lt (by omega) (by omega)] | rw [F_AL_lt (by omega) (by omega)] | rw [F_Lexer_lt (by omega) (by omega)] | rw [F_Pars_init_lt (by omega) (by omega)] | rw [F_Stow_init_lt (by omega) (by omega)] | rw [wl_f_lt (by omega) (by omega)] | rw [pl_f_lt (by omega) (by omega)] | rw [G0_Mod_init_lt (by omega) (by omega)] | rw [G1_Mod_init_lt (by omega) (by omega)] | rw [G2_Mod_init_lt (by omega) (by omega)] | rw [G3_Mod_init_lt (by omega) (by omega)]))
theorem G4_Mod_init_self {n : Nat} {f : Nat → am_C} {r : Nat} {y0 y1 y12 y13 y14 y15 y16 y17 y18 y19 y21 y23 y26 y28 : Nat} (hr : r < n) : G4_Mod_init n f r y0 y1 y12 y13 y14 y15 y16 y17 y18 y19 y21 y23 y26 y28 r = .inr (14, [.ref y0, .ref y1, .int 0, .int 0, .int 0, .int 0, .int 0, .int 0, .int 0, .int 0, .int 0, .long 0, .ref y12, .ref y13, .ref y14, .ref y15, .ref y16, .ref y17, .ref y18, .ref y19, .int 0, .ref y21, .null, .ref y23, .int 0, .int 0, .ref y26, .int 0, .ref y28, .int 0, .ref n, .ref (n + 17), .ref (n + 34), .null, .int 0, .int 0, .null, .null, .null, .null, .null, .int 0, .int 0, .int 0, .int 0, .int 0, .int 0, .null, .null, .null, .null, .null, .int 0]) := by
  unfold G4_Mod_init
  (repeat (first | rw [va_up_self] | rw [va_up_ne _ _ (by omega)] | rw [F_Vals_lt (by omega) (by omega)] | rw [F_Code_init_1500_lt (by omega) (by omega)] | rw [F_Code_init_400_lt (by omega) (by omega)] | rw [F_State_init_lt (by omega) (by omega)] | rw [F_Out_init_lt (by omega) (by omega)] | rw [F_Draft_init_lt (by omega) (by omega)] | rw [F_Sweep_init_lt (by omega) (by omega)] | rw [F_Log_init_lt (by omega) (by omega)] | rw [F_Mach_init_lt (by omega) (by omega)] | rw [F_AL_lt (by omega) (by omega)] | rw [F_Lexer_lt (by omega) (by omega)] | rw [F_Pars_init_lt (by omega) (by omega)] | rw [F_Stow_init_lt (by omega) (by omega)] | rw [wl_f_lt (by omega) (by omega)] | rw [pl_f_lt (by omega) (by omega)] | rw [G0_Mod_init_lt (by omega) (by omega)] | rw [G1_Mod_init_lt (by omega) (by omega)] | rw [G2_Mod_init_lt (by omega) (by omega)] | rw [G3_Mod_init_lt (by omega) (by omega)]))

set_option maxRecDepth 100000 in
set_option maxHeartbeats 4000000 in
theorem s4_Mod_init (O : am_ok K X) {n r kc ks uc us : Nat} {y0 y1 y12 y13 y14 y15 y16 y17 y18 y19 y21 y23 y26 y28 : Nat} {f : Nat → am_C} {post : Option Value → am_H → Prop} (h0 : f r = .inr (14, [.ref y0, .ref y1, .int 0, .int 0, .int 0, .int 0, .int 0, .int 0, .int 0, .int 0, .int 0, .long 0, .ref y12, .ref y13, .ref y14, .ref y15, .ref y16, .ref y17, .ref y18, .ref y19, .int 0, .ref y21, .null, .ref y23, .int 0, .int 0, .ref y26, .int 0, .ref y28, .int 0, .null, .null, .null, .null, .int 0, .int 0, .null, .null, .null, .null, .null, .int 0, .int 0, .int 0, .int 0, .int 0, .int 0, .null, .null, .null, .null, .null, .int 0])) (h1 : 128 ≤ r) (h2 : r < n) (hkc : uc + 51 ≤ kc) (hks : us + 27300 ≤ ks) (kk : am_W K X m_Mod_init 4 kc ks (uc + 51) (us + 27300) 173 [(0, .ref r)] [] (n + 51, G4_Mod_init n f r y0 y1 y12 y13 y14 y15 y16 y17 y18 y19 y21 y23 y26 y28) post) : am_W K X m_Mod_init 4 kc ks uc us 140 [(0, .ref r)] [] (n, f) post := by
  refine am_aload_n d_Mod_init_140 rfl rfl ?_
  refine am_new O n_Mod_346 d_Mod_init_141 (by omega) (by omega) ?_
  refine am_dup d_Mod_init_144 rfl ?_
  refine am_callI O (c_State_init O (by (repeat (first | rw [va_up_self] | rw [va_up_ne _ _ (by omega)] | rw [F_Vals_lt (by omega) (by omega)] | rw [F_Code_init_1500_lt (by omega) (by omega)] | rw [F_Code_init_400_lt (by omega) (by omega)] | rw [F_State_init_lt (by omega) (by omega)] | rw [F_Out_init_lt (by omega) (by omega)] | rw [F_Draft_init_lt (by omega) (by omega)] | rw [F_Sweep_init_lt (by omega) (by omega)] | rw [F_Log_init_lt (by omega) (by omega)] | rw [F_Mach_init_lt (by omega) (by omega)] | rw [F_AL_lt (by omega) (by omega)] | rw [F_Lexer_lt (by omega) (by omega)] | rw [F_Pars_init_lt (by omega) (by omega)] | rw [F_Stow_init_lt (by omega) (by omega)] | rw [wl_f_lt (by omega) (by omega)] | rw [pl_f_lt (by omega) (by omega)] | rw [G0_Mod_init_lt (by omega) (by omega)] | rw [G1_Mod_init_lt (by omega) (by omega)] | rw [G2_Mod_init_lt (by omega) (by omega)] | rw [G3_Mod_init_lt (by omega) (by omega)])); first | done | rfl | assumption) (by omega) (by omega)) rfl l_Mod_348 w_1564 rfl rfl rfl (Nat.le_of_ble_eq_true rfl) d_Mod_init_145 (by omega) (by omega) (by omega) (fun v h' hp => ?_)
  obtain ⟨rfl, rfl⟩ := hp
  refine am_put O f_Mod_349 d_Mod_init_148 (by (repeat (first | rw [va_up_self] | rw [va_up_ne _ _ (by omega)] | rw [F_Vals_lt (by omega) (by omega)] | rw [F_Code_init_1500_lt (by omega) (by omega)] | rw [F_Code_init_400_lt (by omega) (by omega)] | rw [F_State_init_lt (by omega) (by omega)] | rw [F_Out_init_lt (by omega) (by omega)] | rw [F_Draft_init_lt (by omega) (by omega)] | rw [F_Sweep_init_lt (by omega) (by omega)] | rw [F_Log_init_lt (by omega) (by omega)] | rw [F_Mach_init_lt (by omega) (by omega)] | rw [F_AL_lt (by omega) (by omega)] | rw [F_Lexer_lt (by omega) (by omega)] | rw [F_Pars_init_lt (by omega) (by omega)] | rw [F_Stow_init_lt (by omega) (by omega)] | rw [wl_f_lt (by omega) (by omega)] | rw [pl_f_lt (by omega) (by omega)] | rw [G0_Mod_init_lt (by omega) (by omega)] | rw [G1_Mod_init_lt (by omega) (by omega)] | rw [G2_Mod_init_lt (by omega) (by omega)] | rw [G3_Mod_init_lt (by omega) (by omega)])); first | done | rfl | assumption) (by omega) (by omega) (Nat.le_of_ble_eq_true rfl) (fun q hq => by cases hq; exact ⟨rfl, rfl, rfl⟩) ?_
  refine am_aload_n d_Mod_init_151 rfl rfl ?_
  refine am_new O n_Mod_346 d_Mod_init_152 (by omega) (by omega) ?_
  refine am_dup d_Mod_init_155 rfl ?_
  refine am_callI O (c_State_init O (by (repeat (first | rw [va_up_self] | rw [va_up_ne _ _ (by omega)] | rw [F_Vals_lt (by omega) (by omega)] | rw [F_Code_init_1500_lt (by omega) (by omega)] | rw [F_Code_init_400_lt (by omega) (by omega)] | rw [F_State_init_lt (by omega) (by omega)] | rw [F_Out_init_lt (by omega) (by omega)] | rw [F_Draft_init_lt (by omega) (by omega)] | rw [F_Sweep_init_lt (by omega) (by omega)] | rw [F_Log_init_lt (by omega) (by omega)] | rw [F_Mach_init_lt (by omega) (by omega)] | rw [F_AL_lt (by omega) (by omega)] | rw [F_Lexer_lt (by omega) (by omega)] | rw [F_Pars_init_lt (by omega) (by omega)] | rw [F_Stow_init_lt (by omega) (by omega)] | rw [wl_f_lt (by omega) (by omega)] | rw [pl_f_lt (by omega) (by omega)] | rw [G0_Mod_init_lt (by omega) (by omega)] | rw [G1_Mod_init_lt (by omega) (by omega)] | rw [G2_Mod_init_lt (by omega) (by omega)] | rw [G3_Mod_init_lt (by omega) (by omega)])); first | done | rfl | assumption) (by omega) (by omega)) rfl l_Mod_348 w_1564 rfl rfl rfl (Nat.le_of_ble_eq_true rfl) d_Mod_init_156 (by omega) (by omega) (by omega) (fun v h' hp => ?_)
  obtain ⟨rfl, rfl⟩ := hp
  refine am_put O f_Mod_353 d_Mod_init_159 (by (repeat (first | rw [va_up_self] | rw [va_up_ne _ _ (by omega)] | rw [F_Vals_lt (by omega) (by omega)] | rw [F_Code_init_1500_lt (by omega) (by omega)] | rw [F_Code_init_400_lt (by omega) (by omega)] | rw [F_State_init_lt (by omega) (by omega)] | rw [F_Out_init_lt (by omega) (by omega)] | rw [F_Draft_init_lt (by omega) (by omega)] | rw [F_Sweep_init_lt (by omega) (by omega)] | rw [F_Log_init_lt (by omega) (by omega)] | rw [F_Mach_init_lt (by omega) (by omega)] | rw [F_AL_lt (by omega) (by omega)] | rw [F_Lexer_lt (by omega) (by omega)] | rw [F_Pars_init_lt (by omega) (by omega)] | rw [F_Stow_init_lt (by omega) (by omega)] | rw [wl_f_lt (by omega) (by omega)] | rw [pl_f_lt (by omega) (by omega)] | rw [G0_Mod_init_lt (by omega) (by omega)] | rw [G1_Mod_init_lt (by omega) (by omega)] | rw [G2_Mod_init_lt (by omega) (by omega)] | rw [G3_Mod_init_lt (by omega) (by omega)])); first | done | rfl | assumption) (by omega) (by omega) (Nat.le_of_ble_eq_true rfl) (fun q hq => by cases hq; exact ⟨rfl, rfl, rfl⟩) ?_
  refine am_aload_n d_Mod_init_162 rfl rfl ?_
  refine am_new O n_Mod_346 d_Mod_init_163 (by omega) (by omega) ?_
  refine am_dup d_Mod_init_166 rfl ?_
  refine am_callI O (c_State_init O (by (repeat (first | rw [va_up_self] | rw [va_up_ne _ _ (by omega)] | rw [F_Vals_lt (by omega) (by omega)] | rw [F_Code_init_1500_lt (by omega) (by omega)] | rw [F_Code_init_400_lt (by omega) (by omega)] | rw [F_State_init_lt (by omega) (by omega)] | rw [F_Out_init_lt (by omega) (by omega)] | rw [F_Draft_init_lt (by omega) (by omega)] | rw [F_Sweep_init_lt (by omega) (by omega)] | rw [F_Log_init_lt (by omega) (by omega)] | rw [F_Mach_init_lt (by omega) (by omega)] | rw [F_AL_lt (by omega) (by omega)] | rw [F_Lexer_lt (by omega) (by omega)] | rw [F_Pars_init_lt (by omega) (by omega)] | rw [F_Stow_init_lt (by omega) (by omega)] | rw [wl_f_lt (by omega) (by omega)] | rw [pl_f_lt (by omega) (by omega)] | rw [G0_Mod_init_lt (by omega) (by omega)] | rw [G1_Mod_init_lt (by omega) (by omega)] | rw [G2_Mod_init_lt (by omega) (by omega)] | rw [G3_Mod_init_lt (by omega) (by omega)])); first | done | rfl | assumption) (by omega) (by omega)) rfl l_Mod_348 w_1564 rfl rfl rfl (Nat.le_of_ble_eq_true rfl) d_Mod_init_167 (by omega) (by omega) (by omega) (fun v h' hp => ?_)
  obtain ⟨rfl, rfl⟩ := hp
  refine am_put O f_Mod_356 d_Mod_init_170 (by (repeat (first | rw [va_up_self] | rw [va_up_ne _ _ (by omega)] | rw [F_Vals_lt (by omega) (by omega)] | rw [F_Code_init_1500_lt (by omega) (by omega)] | rw [F_Code_init_400_lt (by omega) (by omega)] | rw [F_State_init_lt (by omega) (by omega)] | rw [F_Out_init_lt (by omega) (by omega)] | rw [F_Draft_init_lt (by omega) (by omega)] | rw [F_Sweep_init_lt (by omega) (by omega)] | rw [F_Log_init_lt (by omega) (by omega)] | rw [F_Mach_init_lt (by omega) (by omega)] | rw [F_AL_lt (by omega) (by omega)] | rw [F_Lexer_lt (by omega) (by omega)] | rw [F_Pars_init_lt (by omega) (by omega)] | rw [F_Stow_init_lt (by omega) (by omega)] | rw [wl_f_lt (by omega) (by omega)] | rw [pl_f_lt (by omega) (by omega)] | rw [G0_Mod_init_lt (by omega) (by omega)] | rw [G1_Mod_init_lt (by omega) (by omega)] | rw [G2_Mod_init_lt (by omega) (by omega)] | rw [G3_Mod_init_lt (by omega) (by omega)])); first | done | rfl | assumption) (by omega) (by omega) (Nat.le_of_ble_eq_true rfl) (fun q hq => by cases hq; exact ⟨rfl, rfl, rfl⟩) ?_
  exact am_less (Nat.le_refl _) (by omega) (by omega) kk

def G5_Mod_init (n : Nat) (f : Nat → am_C) (r : Nat) (y0 y1 y12 y13 y14 y15 y16 y17 y18 y19 y21 y23 y26 y28 y30 y31 y32 : Nat) : Nat → am_C := va_up (va_up (va_up (va_up f n (.inl (.object "StowTongueModel$State", 8, fun _ => .null))) r (.inr (14, [.ref y0, .ref y1, .int 0, .int 0, .int 0, .int 0, .int 0, .int 0, .int 0, .int 0, .int 0, .long 0, .ref y12, .ref y13, .ref y14, .ref y15, .ref y16, .ref y17, .ref y18, .ref y19, .int 0, .ref y21, .null, .ref y23, .int 0, .int 0, .ref y26, .int 0, .ref y28, .int 0, .ref y30, .ref y31, .ref y32, .ref n, .int 0, .int 0, .null, .null, .null, .null, .null, .int 0, .int 0, .int 0, .int 0, .int 0, .int 0, .null, .null, .null, .null, .null, .int 0]))) (n + 1) (.inl (.object "StowTongueModel$Code", 130, fun _ => .null))) r (.inr (14, [.ref y0, .ref y1, .int 0, .int 0, .int 0, .int 0, .int 0, .int 0, .int 0, .int 0, .int 0, .long 0, .ref y12, .ref y13, .ref y14, .ref y15, .ref y16, .ref y17, .ref y18, .ref y19, .int 0, .ref y21, .null, .ref y23, .int 0, .int 0, .ref y26, .int 0, .ref y28, .int 0, .ref y30, .ref y31, .ref y32, .ref n, .int 0, .int 0, .ref (n + 1), .null, .null, .null, .null, .int 0, .int 0, .int 0, .int 0, .int 0, .int 0, .null, .null, .null, .null, .null, .int 0]))
theorem G5_Mod_init_lt {n : Nat} {f : Nat → am_C} {r x : Nat} {y0 y1 y12 y13 y14 y15 y16 y17 y18 y19 y21 y23 y26 y28 y30 y31 y32 : Nat} (hx : x < n) (hr : x ≠ r) : G5_Mod_init n f r y0 y1 y12 y13 y14 y15 y16 y17 y18 y19 y21 y23 y26 y28 y30 y31 y32 x = f x := by
  unfold G5_Mod_init
  (repeat (first | rw [va_up_ne _ _ (by omega)] | rw [F_Vals_lt (by omega) (by omega)] | rw [F_Code_init_1500_lt (by omega) (by omega)] | rw [F_Code_init_400_lt (by omega) (by omega)] | rw [F_State_init_lt (by omega) (by omega)] | rw [F_Out_init_lt (by omega) (by omega)] | rw [F_Draft_init_lt (by omega) (by omega)] | rw [F_Sweep_init_lt (by omega) (by omega)] | rw [F_Log_init_lt (by omega) (by omega)] | rw [F_Mach_init_lt (by omega) (by omega)] | rw [F_AL_lt (by omega) (by omega)] | rw [F_Lexer_lt (by omega) (by omega)] | rw [F_Pars_init_lt (by omega) (by omega)] | rw [F_Stow_init_lt (by omega) (by omega)] | rw [wl_f_lt (by omega) (by omega)] | rw [pl_f_lt (by omega) (by omega)] | rw [G0_Mod_init_lt (by omega) (by omega)] | rw [G1_Mod_init_lt (by omega) (by omega)] | rw [G2_Mod_init_lt (by omega) (by omega)] | rw [G3_Mod_init_lt (by omega) (by omega)] | rw [G4_Mod_init_lt (by omega) (by omega)]))
theorem G5_Mod_init_self {n : Nat} {f : Nat → am_C} {r : Nat} {y0 y1 y12 y13 y14 y15 y16 y17 y18 y19 y21 y23 y26 y28 y30 y31 y32 : Nat} (hr : r < n) : G5_Mod_init n f r y0 y1 y12 y13 y14 y15 y16 y17 y18 y19 y21 y23 y26 y28 y30 y31 y32 r = .inr (14, [.ref y0, .ref y1, .int 0, .int 0, .int 0, .int 0, .int 0, .int 0, .int 0, .int 0, .int 0, .long 0, .ref y12, .ref y13, .ref y14, .ref y15, .ref y16, .ref y17, .ref y18, .ref y19, .int 0, .ref y21, .null, .ref y23, .int 0, .int 0, .ref y26, .int 0, .ref y28, .int 0, .ref y30, .ref y31, .ref y32, .ref n, .int 0, .int 0, .ref (n + 1), .null, .null, .null, .null, .int 0, .int 0, .int 0, .int 0, .int 0, .int 0, .null, .null, .null, .null, .null, .int 0]) := by
  unfold G5_Mod_init
  (repeat (first | rw [va_up_self] | rw [va_up_ne _ _ (by omega)] | rw [F_Vals_lt (by omega) (by omega)] | rw [F_Code_init_1500_lt (by omega) (by omega)] | rw [F_Code_init_400_lt (by omega) (by omega)] | rw [F_State_init_lt (by omega) (by omega)] | rw [F_Out_init_lt (by omega) (by omega)] | rw [F_Draft_init_lt (by omega) (by omega)] | rw [F_Sweep_init_lt (by omega) (by omega)] | rw [F_Log_init_lt (by omega) (by omega)] | rw [F_Mach_init_lt (by omega) (by omega)] | rw [F_AL_lt (by omega) (by omega)] | rw [F_Lexer_lt (by omega) (by omega)] | rw [F_Pars_init_lt (by omega) (by omega)] | rw [F_Stow_init_lt (by omega) (by omega)] | rw [wl_f_lt (by omega) (by omega)] | rw [pl_f_lt (by omega) (by omega)] | rw [G0_Mod_init_lt (by omega) (by omega)] | rw [G1_Mod_init_lt (by omega) (by omega)] | rw [G2_Mod_init_lt (by omega) (by omega)] | rw [G3_Mod_init_lt (by omega) (by omega)] | rw [G4_Mod_init_lt (by omega) (by omega)]))

set_option maxRecDepth 100000 in
set_option maxHeartbeats 4000000 in
theorem s5_Mod_init (O : am_ok K X) {n r kc ks uc us : Nat} {y0 y1 y12 y13 y14 y15 y16 y17 y18 y19 y21 y23 y26 y28 y30 y31 y32 : Nat} {f : Nat → am_C} {post : Option Value → am_H → Prop} (h0 : f r = .inr (14, [.ref y0, .ref y1, .int 0, .int 0, .int 0, .int 0, .int 0, .int 0, .int 0, .int 0, .int 0, .long 0, .ref y12, .ref y13, .ref y14, .ref y15, .ref y16, .ref y17, .ref y18, .ref y19, .int 0, .ref y21, .null, .ref y23, .int 0, .int 0, .ref y26, .int 0, .ref y28, .int 0, .ref y30, .ref y31, .ref y32, .null, .int 0, .int 0, .null, .null, .null, .null, .null, .int 0, .int 0, .int 0, .int 0, .int 0, .int 0, .null, .null, .null, .null, .null, .int 0])) (h1 : 128 ≤ r) (h2 : r < n) (hkc : uc + 2 ≤ kc) (hks : us + 138 ≤ ks) (kk : am_W K X m_Mod_init 4 kc ks (uc + 2) (us + 138) 192 [(0, .ref r)] [] (n + 2, G5_Mod_init n f r y0 y1 y12 y13 y14 y15 y16 y17 y18 y19 y21 y23 y26 y28 y30 y31 y32) post) : am_W K X m_Mod_init 4 kc ks uc us 173 [(0, .ref r)] [] (n, f) post := by
  refine am_aload_n d_Mod_init_173 rfl rfl ?_
  refine am_bipush (v := 8) d_Mod_init_174 (by decide) ?_
  refine am_anew (N := 8) O (by decide) w_1561 x_1619 d_Mod_init_176 (by decide) (by decide) (by decide) (by omega) (by omega) ?_
  refine am_putF O f_Mod_359 (fun q hq => by cases hq; exact ⟨w_1655, rfl⟩) rfl d_Mod_init_179 (by (repeat (first | rw [va_up_self] | rw [va_up_ne _ _ (by omega)] | rw [F_Vals_lt (by omega) (by omega)] | rw [F_Code_init_1500_lt (by omega) (by omega)] | rw [F_Code_init_400_lt (by omega) (by omega)] | rw [F_State_init_lt (by omega) (by omega)] | rw [F_Out_init_lt (by omega) (by omega)] | rw [F_Draft_init_lt (by omega) (by omega)] | rw [F_Sweep_init_lt (by omega) (by omega)] | rw [F_Log_init_lt (by omega) (by omega)] | rw [F_Mach_init_lt (by omega) (by omega)] | rw [F_AL_lt (by omega) (by omega)] | rw [F_Lexer_lt (by omega) (by omega)] | rw [F_Pars_init_lt (by omega) (by omega)] | rw [F_Stow_init_lt (by omega) (by omega)] | rw [wl_f_lt (by omega) (by omega)] | rw [pl_f_lt (by omega) (by omega)] | rw [G0_Mod_init_lt (by omega) (by omega)] | rw [G1_Mod_init_lt (by omega) (by omega)] | rw [G2_Mod_init_lt (by omega) (by omega)] | rw [G3_Mod_init_lt (by omega) (by omega)] | rw [G4_Mod_init_lt (by omega) (by omega)])); first | done | rfl | assumption) (by omega) (by omega) (Nat.le_of_ble_eq_true rfl) (fun q hq => by cases hq; exact ⟨rfl, rfl, rfl⟩) ?_
  refine am_aload_n d_Mod_init_182 rfl rfl ?_
  refine am_sipush (v := 130) d_Mod_init_183 (by decide) ?_
  refine am_anew (N := 130) O (by decide) w_1489 x_1570 d_Mod_init_186 (by decide) (by decide) (by decide) (by omega) (by omega) ?_
  refine am_putF O f_Mod_363 (fun q hq => by cases hq; exact ⟨w_1658, rfl⟩) rfl d_Mod_init_189 (by (repeat (first | rw [va_up_self] | rw [va_up_ne _ _ (by omega)] | rw [F_Vals_lt (by omega) (by omega)] | rw [F_Code_init_1500_lt (by omega) (by omega)] | rw [F_Code_init_400_lt (by omega) (by omega)] | rw [F_State_init_lt (by omega) (by omega)] | rw [F_Out_init_lt (by omega) (by omega)] | rw [F_Draft_init_lt (by omega) (by omega)] | rw [F_Sweep_init_lt (by omega) (by omega)] | rw [F_Log_init_lt (by omega) (by omega)] | rw [F_Mach_init_lt (by omega) (by omega)] | rw [F_AL_lt (by omega) (by omega)] | rw [F_Lexer_lt (by omega) (by omega)] | rw [F_Pars_init_lt (by omega) (by omega)] | rw [F_Stow_init_lt (by omega) (by omega)] | rw [wl_f_lt (by omega) (by omega)] | rw [pl_f_lt (by omega) (by omega)] | rw [G0_Mod_init_lt (by omega) (by omega)] | rw [G1_Mod_init_lt (by omega) (by omega)] | rw [G2_Mod_init_lt (by omega) (by omega)] | rw [G3_Mod_init_lt (by omega) (by omega)] | rw [G4_Mod_init_lt (by omega) (by omega)])); first | done | rfl | assumption) (by omega) (by omega) (Nat.le_of_ble_eq_true rfl) (fun q hq => by cases hq; exact ⟨rfl, rfl, rfl⟩) ?_
  exact am_less (Nat.le_refl _) (by omega) (by omega) kk

def G6_Mod_init (n : Nat) (f : Nat → am_C) (r : Nat) (y0 y1 y12 y13 y14 y15 y16 y17 y18 y19 y21 y23 y26 y28 y30 y31 y32 y33 y36 : Nat) : Nat → am_C := va_up (F_Vals (n + 16) (va_up (va_up (F_Vals (n + 11) (va_up (va_up (F_Vals (n + 6) (va_up (va_up (F_Vals (n + 1) (va_up f n (.inr (11, [.null, .null, .null, .null]))) n 8000) r (.inr (14, [.ref y0, .ref y1, .int 0, .int 0, .int 0, .int 0, .int 0, .int 0, .int 0, .int 0, .int 0, .long 0, .ref y12, .ref y13, .ref y14, .ref y15, .ref y16, .ref y17, .ref y18, .ref y19, .int 0, .ref y21, .null, .ref y23, .int 0, .int 0, .ref y26, .int 0, .ref y28, .int 0, .ref y30, .ref y31, .ref y32, .ref y33, .int 0, .int 0, .ref y36, .ref n, .null, .null, .null, .int 0, .int 0, .int 0, .int 0, .int 0, .int 0, .null, .null, .null, .null, .null, .int 0]))) (n + 5) (.inr (11, [.null, .null, .null, .null]))) (n + 5) 4000) r (.inr (14, [.ref y0, .ref y1, .int 0, .int 0, .int 0, .int 0, .int 0, .int 0, .int 0, .int 0, .int 0, .long 0, .ref y12, .ref y13, .ref y14, .ref y15, .ref y16, .ref y17, .ref y18, .ref y19, .int 0, .ref y21, .null, .ref y23, .int 0, .int 0, .ref y26, .int 0, .ref y28, .int 0, .ref y30, .ref y31, .ref y32, .ref y33, .int 0, .int 0, .ref y36, .ref n, .ref (n + 5), .null, .null, .int 0, .int 0, .int 0, .int 0, .int 0, .int 0, .null, .null, .null, .null, .null, .int 0]))) (n + 10) (.inr (11, [.null, .null, .null, .null]))) (n + 10) 1) r (.inr (14, [.ref y0, .ref y1, .int 0, .int 0, .int 0, .int 0, .int 0, .int 0, .int 0, .int 0, .int 0, .long 0, .ref y12, .ref y13, .ref y14, .ref y15, .ref y16, .ref y17, .ref y18, .ref y19, .int 0, .ref y21, .null, .ref y23, .int 0, .int 0, .ref y26, .int 0, .ref y28, .int 0, .ref y30, .ref y31, .ref y32, .ref y33, .int 0, .int 0, .ref y36, .ref n, .ref (n + 5), .ref (n + 10), .null, .int 0, .int 0, .int 0, .int 0, .int 0, .int 0, .null, .null, .null, .null, .null, .int 0]))) (n + 15) (.inr (11, [.null, .null, .null, .null]))) (n + 15) 4) r (.inr (14, [.ref y0, .ref y1, .int 0, .int 0, .int 0, .int 0, .int 0, .int 0, .int 0, .int 0, .int 0, .long 0, .ref y12, .ref y13, .ref y14, .ref y15, .ref y16, .ref y17, .ref y18, .ref y19, .int 0, .ref y21, .null, .ref y23, .int 0, .int 0, .ref y26, .int 0, .ref y28, .int 0, .ref y30, .ref y31, .ref y32, .ref y33, .int 0, .int 0, .ref y36, .ref n, .ref (n + 5), .ref (n + 10), .ref (n + 15), .int 0, .int 0, .int 0, .int 0, .int 0, .int 0, .null, .null, .null, .null, .null, .int 0]))
theorem G6_Mod_init_lt {n : Nat} {f : Nat → am_C} {r x : Nat} {y0 y1 y12 y13 y14 y15 y16 y17 y18 y19 y21 y23 y26 y28 y30 y31 y32 y33 y36 : Nat} (hx : x < n) (hr : x ≠ r) : G6_Mod_init n f r y0 y1 y12 y13 y14 y15 y16 y17 y18 y19 y21 y23 y26 y28 y30 y31 y32 y33 y36 x = f x := by
  unfold G6_Mod_init
  (repeat (first | rw [va_up_ne _ _ (by omega)] | rw [F_Vals_lt (by omega) (by omega)] | rw [F_Code_init_1500_lt (by omega) (by omega)] | rw [F_Code_init_400_lt (by omega) (by omega)] | rw [F_State_init_lt (by omega) (by omega)] | rw [F_Out_init_lt (by omega) (by omega)] | rw [F_Draft_init_lt (by omega) (by omega)] | rw [F_Sweep_init_lt (by omega) (by omega)] | rw [F_Log_init_lt (by omega) (by omega)] | rw [F_Mach_init_lt (by omega) (by omega)] | rw [F_AL_lt (by omega) (by omega)] | rw [F_Lexer_lt (by omega) (by omega)] | rw [F_Pars_init_lt (by omega) (by omega)] | rw [F_Stow_init_lt (by omega) (by omega)] | rw [wl_f_lt (by omega) (by omega)] | rw [pl_f_lt (by omega) (by omega)] | rw [G0_Mod_init_lt (by omega) (by omega)] | rw [G1_Mod_init_lt (by omega) (by omega)] | rw [G2_Mod_init_lt (by omega) (by omega)] | rw [G3_Mod_init_lt (by omega) (by omega)] | rw [G4_Mod_init_lt (by omega) (by omega)] | rw [G5_Mod_init_lt (by omega) (by omega)]))
theorem G6_Mod_init_self {n : Nat} {f : Nat → am_C} {r : Nat} {y0 y1 y12 y13 y14 y15 y16 y17 y18 y19 y21 y23 y26 y28 y30 y31 y32 y33 y36 : Nat} (hr : r < n) : G6_Mod_init n f r y0 y1 y12 y13 y14 y15 y16 y17 y18 y19 y21 y23 y26 y28 y30 y31 y32 y33 y36 r = .inr (14, [.ref y0, .ref y1, .int 0, .int 0, .int 0, .int 0, .int 0, .int 0, .int 0, .int 0, .int 0, .long 0, .ref y12, .ref y13, .ref y14, .ref y15, .ref y16, .ref y17, .ref y18, .ref y19, .int 0, .ref y21, .null, .ref y23, .int 0, .int 0, .ref y26, .int 0, .ref y28, .int 0, .ref y30, .ref y31, .ref y32, .ref y33, .int 0, .int 0, .ref y36, .ref n, .ref (n + 5), .ref (n + 10), .ref (n + 15), .int 0, .int 0, .int 0, .int 0, .int 0, .int 0, .null, .null, .null, .null, .null, .int 0]) := by
  unfold G6_Mod_init
  (repeat (first | rw [va_up_self] | rw [va_up_ne _ _ (by omega)] | rw [F_Vals_lt (by omega) (by omega)] | rw [F_Code_init_1500_lt (by omega) (by omega)] | rw [F_Code_init_400_lt (by omega) (by omega)] | rw [F_State_init_lt (by omega) (by omega)] | rw [F_Out_init_lt (by omega) (by omega)] | rw [F_Draft_init_lt (by omega) (by omega)] | rw [F_Sweep_init_lt (by omega) (by omega)] | rw [F_Log_init_lt (by omega) (by omega)] | rw [F_Mach_init_lt (by omega) (by omega)] | rw [F_AL_lt (by omega) (by omega)] | rw [F_Lexer_lt (by omega) (by omega)] | rw [F_Pars_init_lt (by omega) (by omega)] | rw [F_Stow_init_lt (by omega) (by omega)] | rw [wl_f_lt (by omega) (by omega)] | rw [pl_f_lt (by omega) (by omega)] | rw [G0_Mod_init_lt (by omega) (by omega)] | rw [G1_Mod_init_lt (by omega) (by omega)] | rw [G2_Mod_init_lt (by omega) (by omega)] | rw [G3_Mod_init_lt (by omega) (by omega)] | rw [G4_Mod_init_lt (by omega) (by omega)] | rw [G5_Mod_init_lt (by omega) (by omega)]))

set_option maxRecDepth 100000 in
set_option maxHeartbeats 4000000 in
theorem s6_Mod_init (O : am_ok K X) {n r kc ks uc us : Nat} {y0 y1 y12 y13 y14 y15 y16 y17 y18 y19 y21 y23 y26 y28 y30 y31 y32 y33 y36 : Nat} {f : Nat → am_C} {post : Option Value → am_H → Prop} (h0 : f r = .inr (14, [.ref y0, .ref y1, .int 0, .int 0, .int 0, .int 0, .int 0, .int 0, .int 0, .int 0, .int 0, .long 0, .ref y12, .ref y13, .ref y14, .ref y15, .ref y16, .ref y17, .ref y18, .ref y19, .int 0, .ref y21, .null, .ref y23, .int 0, .int 0, .ref y26, .int 0, .ref y28, .int 0, .ref y30, .ref y31, .ref y32, .ref y33, .int 0, .int 0, .ref y36, .null, .null, .null, .null, .int 0, .int 0, .int 0, .int 0, .int 0, .int 0, .null, .null, .null, .null, .null, .int 0])) (h1 : 128 ≤ r) (h2 : r < n) (hkc : uc + 20 ≤ kc) (hks : us + 48036 ≤ ks) (kk : am_W K X m_Mod_init 4 kc ks (uc + 20) (us + 48036) 244 [(0, .ref r)] [] (n + 20, G6_Mod_init n f r y0 y1 y12 y13 y14 y15 y16 y17 y18 y19 y21 y23 y26 y28 y30 y31 y32 y33 y36) post) : am_W K X m_Mod_init 4 kc ks uc us 192 [(0, .ref r)] [] (n, f) post := by
  refine am_aload_n d_Mod_init_192 rfl rfl ?_
  refine am_new O n_Mod_115 d_Mod_init_193 (by omega) (by omega) ?_
  refine am_dup d_Mod_init_196 rfl ?_
  refine am_sipush (v := 8000) d_Mod_init_197 (by decide) ?_
  refine am_callI O (c_Vals_init (N := 8000) O (by (repeat (first | rw [va_up_self] | rw [va_up_ne _ _ (by omega)] | rw [F_Vals_lt (by omega) (by omega)] | rw [F_Code_init_1500_lt (by omega) (by omega)] | rw [F_Code_init_400_lt (by omega) (by omega)] | rw [F_State_init_lt (by omega) (by omega)] | rw [F_Out_init_lt (by omega) (by omega)] | rw [F_Draft_init_lt (by omega) (by omega)] | rw [F_Sweep_init_lt (by omega) (by omega)] | rw [F_Log_init_lt (by omega) (by omega)] | rw [F_Mach_init_lt (by omega) (by omega)] | rw [F_AL_lt (by omega) (by omega)] | rw [F_Lexer_lt (by omega) (by omega)] | rw [F_Pars_init_lt (by omega) (by omega)] | rw [F_Stow_init_lt (by omega) (by omega)] | rw [wl_f_lt (by omega) (by omega)] | rw [pl_f_lt (by omega) (by omega)] | rw [G0_Mod_init_lt (by omega) (by omega)] | rw [G1_Mod_init_lt (by omega) (by omega)] | rw [G2_Mod_init_lt (by omega) (by omega)] | rw [G3_Mod_init_lt (by omega) (by omega)] | rw [G4_Mod_init_lt (by omega) (by omega)] | rw [G5_Mod_init_lt (by omega) (by omega)])); first | done | rfl | assumption) (by omega) (by omega) (by decide) (by decide) (by omega)) rfl l_Mod_367 w_1498 rfl rfl rfl (Nat.le_of_ble_eq_true rfl) d_Mod_init_200 (by omega) (by omega) (by omega) (fun v h' hp => ?_)
  obtain ⟨rfl, rfl⟩ := hp
  refine am_putF O f_Mod_368 (fun q hq => by cases hq; exact ⟨w_1659, rfl⟩) rfl d_Mod_init_203 (by (repeat (first | rw [va_up_self] | rw [va_up_ne _ _ (by omega)] | rw [F_Vals_lt (by omega) (by omega)] | rw [F_Code_init_1500_lt (by omega) (by omega)] | rw [F_Code_init_400_lt (by omega) (by omega)] | rw [F_State_init_lt (by omega) (by omega)] | rw [F_Out_init_lt (by omega) (by omega)] | rw [F_Draft_init_lt (by omega) (by omega)] | rw [F_Sweep_init_lt (by omega) (by omega)] | rw [F_Log_init_lt (by omega) (by omega)] | rw [F_Mach_init_lt (by omega) (by omega)] | rw [F_AL_lt (by omega) (by omega)] | rw [F_Lexer_lt (by omega) (by omega)] | rw [F_Pars_init_lt (by omega) (by omega)] | rw [F_Stow_init_lt (by omega) (by omega)] | rw [wl_f_lt (by omega) (by omega)] | rw [pl_f_lt (by omega) (by omega)] | rw [G0_Mod_init_lt (by omega) (by omega)] | rw [G1_Mod_init_lt (by omega) (by omega)] | rw [G2_Mod_init_lt (by omega) (by omega)] | rw [G3_Mod_init_lt (by omega) (by omega)] | rw [G4_Mod_init_lt (by omega) (by omega)] | rw [G5_Mod_init_lt (by omega) (by omega)])); first | done | rfl | assumption) (by omega) (by omega) (Nat.le_of_ble_eq_true rfl) (fun q hq => by cases hq; exact ⟨rfl, rfl, rfl⟩) ?_
  refine am_aload_n d_Mod_init_206 rfl rfl ?_
  refine am_new O n_Mod_115 d_Mod_init_207 (by omega) (by omega) ?_
  refine am_dup d_Mod_init_210 rfl ?_
  refine am_sipush (v := 4000) d_Mod_init_211 (by decide) ?_
  refine am_callI O (c_Vals_init (N := 4000) O (by (repeat (first | rw [va_up_self] | rw [va_up_ne _ _ (by omega)] | rw [F_Vals_lt (by omega) (by omega)] | rw [F_Code_init_1500_lt (by omega) (by omega)] | rw [F_Code_init_400_lt (by omega) (by omega)] | rw [F_State_init_lt (by omega) (by omega)] | rw [F_Out_init_lt (by omega) (by omega)] | rw [F_Draft_init_lt (by omega) (by omega)] | rw [F_Sweep_init_lt (by omega) (by omega)] | rw [F_Log_init_lt (by omega) (by omega)] | rw [F_Mach_init_lt (by omega) (by omega)] | rw [F_AL_lt (by omega) (by omega)] | rw [F_Lexer_lt (by omega) (by omega)] | rw [F_Pars_init_lt (by omega) (by omega)] | rw [F_Stow_init_lt (by omega) (by omega)] | rw [wl_f_lt (by omega) (by omega)] | rw [pl_f_lt (by omega) (by omega)] | rw [G0_Mod_init_lt (by omega) (by omega)] | rw [G1_Mod_init_lt (by omega) (by omega)] | rw [G2_Mod_init_lt (by omega) (by omega)] | rw [G3_Mod_init_lt (by omega) (by omega)] | rw [G4_Mod_init_lt (by omega) (by omega)] | rw [G5_Mod_init_lt (by omega) (by omega)])); first | done | rfl | assumption) (by omega) (by omega) (by decide) (by decide) (by omega)) rfl l_Mod_367 w_1498 rfl rfl rfl (Nat.le_of_ble_eq_true rfl) d_Mod_init_214 (by omega) (by omega) (by omega) (fun v h' hp => ?_)
  obtain ⟨rfl, rfl⟩ := hp
  refine am_putF O f_Mod_371 (fun q hq => by cases hq; exact ⟨w_1660, rfl⟩) rfl d_Mod_init_217 (by (repeat (first | rw [va_up_self] | rw [va_up_ne _ _ (by omega)] | rw [F_Vals_lt (by omega) (by omega)] | rw [F_Code_init_1500_lt (by omega) (by omega)] | rw [F_Code_init_400_lt (by omega) (by omega)] | rw [F_State_init_lt (by omega) (by omega)] | rw [F_Out_init_lt (by omega) (by omega)] | rw [F_Draft_init_lt (by omega) (by omega)] | rw [F_Sweep_init_lt (by omega) (by omega)] | rw [F_Log_init_lt (by omega) (by omega)] | rw [F_Mach_init_lt (by omega) (by omega)] | rw [F_AL_lt (by omega) (by omega)] | rw [F_Lexer_lt (by omega) (by omega)] | rw [F_Pars_init_lt (by omega) (by omega)] | rw [F_Stow_init_lt (by omega) (by omega)] | rw [wl_f_lt (by omega) (by omega)] | rw [pl_f_lt (by omega) (by omega)] | rw [G0_Mod_init_lt (by omega) (by omega)] | rw [G1_Mod_init_lt (by omega) (by omega)] | rw [G2_Mod_init_lt (by omega) (by omega)] | rw [G3_Mod_init_lt (by omega) (by omega)] | rw [G4_Mod_init_lt (by omega) (by omega)] | rw [G5_Mod_init_lt (by omega) (by omega)])); first | done | rfl | assumption) (by omega) (by omega) (Nat.le_of_ble_eq_true rfl) (fun q hq => by cases hq; exact ⟨rfl, rfl, rfl⟩) ?_
  refine am_aload_n d_Mod_init_220 rfl rfl ?_
  refine am_new O n_Mod_115 d_Mod_init_221 (by omega) (by omega) ?_
  refine am_dup d_Mod_init_224 rfl ?_
  refine am_iconst (v := 1) d_Mod_init_225 (by decide) ?_
  refine am_callI O (c_Vals_init (N := 1) O (by (repeat (first | rw [va_up_self] | rw [va_up_ne _ _ (by omega)] | rw [F_Vals_lt (by omega) (by omega)] | rw [F_Code_init_1500_lt (by omega) (by omega)] | rw [F_Code_init_400_lt (by omega) (by omega)] | rw [F_State_init_lt (by omega) (by omega)] | rw [F_Out_init_lt (by omega) (by omega)] | rw [F_Draft_init_lt (by omega) (by omega)] | rw [F_Sweep_init_lt (by omega) (by omega)] | rw [F_Log_init_lt (by omega) (by omega)] | rw [F_Mach_init_lt (by omega) (by omega)] | rw [F_AL_lt (by omega) (by omega)] | rw [F_Lexer_lt (by omega) (by omega)] | rw [F_Pars_init_lt (by omega) (by omega)] | rw [F_Stow_init_lt (by omega) (by omega)] | rw [wl_f_lt (by omega) (by omega)] | rw [pl_f_lt (by omega) (by omega)] | rw [G0_Mod_init_lt (by omega) (by omega)] | rw [G1_Mod_init_lt (by omega) (by omega)] | rw [G2_Mod_init_lt (by omega) (by omega)] | rw [G3_Mod_init_lt (by omega) (by omega)] | rw [G4_Mod_init_lt (by omega) (by omega)] | rw [G5_Mod_init_lt (by omega) (by omega)])); first | done | rfl | assumption) (by omega) (by omega) (by decide) (by decide) (by omega)) rfl l_Mod_367 w_1498 rfl rfl rfl (Nat.le_of_ble_eq_true rfl) d_Mod_init_226 (by omega) (by omega) (by omega) (fun v h' hp => ?_)
  obtain ⟨rfl, rfl⟩ := hp
  refine am_putF O f_Mod_374 (fun q hq => by cases hq; exact ⟨w_1661, rfl⟩) rfl d_Mod_init_229 (by (repeat (first | rw [va_up_self] | rw [va_up_ne _ _ (by omega)] | rw [F_Vals_lt (by omega) (by omega)] | rw [F_Code_init_1500_lt (by omega) (by omega)] | rw [F_Code_init_400_lt (by omega) (by omega)] | rw [F_State_init_lt (by omega) (by omega)] | rw [F_Out_init_lt (by omega) (by omega)] | rw [F_Draft_init_lt (by omega) (by omega)] | rw [F_Sweep_init_lt (by omega) (by omega)] | rw [F_Log_init_lt (by omega) (by omega)] | rw [F_Mach_init_lt (by omega) (by omega)] | rw [F_AL_lt (by omega) (by omega)] | rw [F_Lexer_lt (by omega) (by omega)] | rw [F_Pars_init_lt (by omega) (by omega)] | rw [F_Stow_init_lt (by omega) (by omega)] | rw [wl_f_lt (by omega) (by omega)] | rw [pl_f_lt (by omega) (by omega)] | rw [G0_Mod_init_lt (by omega) (by omega)] | rw [G1_Mod_init_lt (by omega) (by omega)] | rw [G2_Mod_init_lt (by omega) (by omega)] | rw [G3_Mod_init_lt (by omega) (by omega)] | rw [G4_Mod_init_lt (by omega) (by omega)] | rw [G5_Mod_init_lt (by omega) (by omega)])); first | done | rfl | assumption) (by omega) (by omega) (Nat.le_of_ble_eq_true rfl) (fun q hq => by cases hq; exact ⟨rfl, rfl, rfl⟩) ?_
  refine am_aload_n d_Mod_init_232 rfl rfl ?_
  refine am_new O n_Mod_115 d_Mod_init_233 (by omega) (by omega) ?_
  refine am_dup d_Mod_init_236 rfl ?_
  refine am_iconst (v := 4) d_Mod_init_237 (by decide) ?_
  refine am_callI O (c_Vals_init (N := 4) O (by (repeat (first | rw [va_up_self] | rw [va_up_ne _ _ (by omega)] | rw [F_Vals_lt (by omega) (by omega)] | rw [F_Code_init_1500_lt (by omega) (by omega)] | rw [F_Code_init_400_lt (by omega) (by omega)] | rw [F_State_init_lt (by omega) (by omega)] | rw [F_Out_init_lt (by omega) (by omega)] | rw [F_Draft_init_lt (by omega) (by omega)] | rw [F_Sweep_init_lt (by omega) (by omega)] | rw [F_Log_init_lt (by omega) (by omega)] | rw [F_Mach_init_lt (by omega) (by omega)] | rw [F_AL_lt (by omega) (by omega)] | rw [F_Lexer_lt (by omega) (by omega)] | rw [F_Pars_init_lt (by omega) (by omega)] | rw [F_Stow_init_lt (by omega) (by omega)] | rw [wl_f_lt (by omega) (by omega)] | rw [pl_f_lt (by omega) (by omega)] | rw [G0_Mod_init_lt (by omega) (by omega)] | rw [G1_Mod_init_lt (by omega) (by omega)] | rw [G2_Mod_init_lt (by omega) (by omega)] | rw [G3_Mod_init_lt (by omega) (by omega)] | rw [G4_Mod_init_lt (by omega) (by omega)] | rw [G5_Mod_init_lt (by omega) (by omega)])); first | done | rfl | assumption) (by omega) (by omega) (by decide) (by decide) (by omega)) rfl l_Mod_367 w_1498 rfl rfl rfl (Nat.le_of_ble_eq_true rfl) d_Mod_init_238 (by omega) (by omega) (by omega) (fun v h' hp => ?_)
  obtain ⟨rfl, rfl⟩ := hp
  refine am_putF O f_Mod_377 (fun q hq => by cases hq; exact ⟨w_1662, rfl⟩) rfl d_Mod_init_241 (by (repeat (first | rw [va_up_self] | rw [va_up_ne _ _ (by omega)] | rw [F_Vals_lt (by omega) (by omega)] | rw [F_Code_init_1500_lt (by omega) (by omega)] | rw [F_Code_init_400_lt (by omega) (by omega)] | rw [F_State_init_lt (by omega) (by omega)] | rw [F_Out_init_lt (by omega) (by omega)] | rw [F_Draft_init_lt (by omega) (by omega)] | rw [F_Sweep_init_lt (by omega) (by omega)] | rw [F_Log_init_lt (by omega) (by omega)] | rw [F_Mach_init_lt (by omega) (by omega)] | rw [F_AL_lt (by omega) (by omega)] | rw [F_Lexer_lt (by omega) (by omega)] | rw [F_Pars_init_lt (by omega) (by omega)] | rw [F_Stow_init_lt (by omega) (by omega)] | rw [wl_f_lt (by omega) (by omega)] | rw [pl_f_lt (by omega) (by omega)] | rw [G0_Mod_init_lt (by omega) (by omega)] | rw [G1_Mod_init_lt (by omega) (by omega)] | rw [G2_Mod_init_lt (by omega) (by omega)] | rw [G3_Mod_init_lt (by omega) (by omega)] | rw [G4_Mod_init_lt (by omega) (by omega)] | rw [G5_Mod_init_lt (by omega) (by omega)])); first | done | rfl | assumption) (by omega) (by omega) (Nat.le_of_ble_eq_true rfl) (fun q hq => by cases hq; exact ⟨rfl, rfl, rfl⟩) ?_
  exact am_less (Nat.le_refl _) (by omega) (by omega) kk

def G7_Mod_init (n : Nat) (f : Nat → am_C) (r : Nat) (y0 y1 y12 y13 y14 y15 y16 y17 y18 y19 y21 y23 y26 y28 y30 y31 y32 y33 y36 y37 y38 y39 y40 : Nat) : Nat → am_C := va_up (va_up (va_up (va_up (va_up (va_up (va_up (va_up (va_up (va_up f n (.inl (.object "StowTongueModel$Code", 9, fun _ => .null))) r (.inr (14, [.ref y0, .ref y1, .int 0, .int 0, .int 0, .int 0, .int 0, .int 0, .int 0, .int 0, .int 0, .long 0, .ref y12, .ref y13, .ref y14, .ref y15, .ref y16, .ref y17, .ref y18, .ref y19, .int 0, .ref y21, .null, .ref y23, .int 0, .int 0, .ref y26, .int 0, .ref y28, .int 0, .ref y30, .ref y31, .ref y32, .ref y33, .int 0, .int 0, .ref y36, .ref y37, .ref y38, .ref y39, .ref y40, .int 0, .int 0, .int 0, .int 0, .int 0, .int 0, .ref n, .null, .null, .null, .null, .int 0]))) (n + 1) (.inl (.int, 9, fun _ => .int 0))) r (.inr (14, [.ref y0, .ref y1, .int 0, .int 0, .int 0, .int 0, .int 0, .int 0, .int 0, .int 0, .int 0, .long 0, .ref y12, .ref y13, .ref y14, .ref y15, .ref y16, .ref y17, .ref y18, .ref y19, .int 0, .ref y21, .null, .ref y23, .int 0, .int 0, .ref y26, .int 0, .ref y28, .int 0, .ref y30, .ref y31, .ref y32, .ref y33, .int 0, .int 0, .ref y36, .ref y37, .ref y38, .ref y39, .ref y40, .int 0, .int 0, .int 0, .int 0, .int 0, .int 0, .ref n, .ref (n + 1), .null, .null, .null, .int 0]))) (n + 2) (.inl (.int, 9, fun _ => .int 0))) r (.inr (14, [.ref y0, .ref y1, .int 0, .int 0, .int 0, .int 0, .int 0, .int 0, .int 0, .int 0, .int 0, .long 0, .ref y12, .ref y13, .ref y14, .ref y15, .ref y16, .ref y17, .ref y18, .ref y19, .int 0, .ref y21, .null, .ref y23, .int 0, .int 0, .ref y26, .int 0, .ref y28, .int 0, .ref y30, .ref y31, .ref y32, .ref y33, .int 0, .int 0, .ref y36, .ref y37, .ref y38, .ref y39, .ref y40, .int 0, .int 0, .int 0, .int 0, .int 0, .int 0, .ref n, .ref (n + 1), .ref (n + 2), .null, .null, .int 0]))) (n + 3) (.inl (.boolean, 100, fun _ => .int 0))) r (.inr (14, [.ref y0, .ref y1, .int 0, .int 0, .int 0, .int 0, .int 0, .int 0, .int 0, .int 0, .int 0, .long 0, .ref y12, .ref y13, .ref y14, .ref y15, .ref y16, .ref y17, .ref y18, .ref y19, .int 0, .ref y21, .null, .ref y23, .int 0, .int 0, .ref y26, .int 0, .ref y28, .int 0, .ref y30, .ref y31, .ref y32, .ref y33, .int 0, .int 0, .ref y36, .ref y37, .ref y38, .ref y39, .ref y40, .int 0, .int 0, .int 0, .int 0, .int 0, .int 0, .ref n, .ref (n + 1), .ref (n + 2), .ref (n + 3), .null, .int 0]))) (n + 4) (.inl (.int, 100, fun _ => .int 0))) r (.inr (14, [.ref y0, .ref y1, .int 0, .int 0, .int 0, .int 0, .int 0, .int 0, .int 0, .int 0, .int 0, .long 0, .ref y12, .ref y13, .ref y14, .ref y15, .ref y16, .ref y17, .ref y18, .ref y19, .int 0, .ref y21, .null, .ref y23, .int 0, .int 0, .ref y26, .int 0, .ref y28, .int 0, .ref y30, .ref y31, .ref y32, .ref y33, .int 0, .int 0, .ref y36, .ref y37, .ref y38, .ref y39, .ref y40, .int 0, .int 0, .int 0, .int 0, .int 0, .int 0, .ref n, .ref (n + 1), .ref (n + 2), .ref (n + 3), .ref (n + 4), .int 0]))
theorem G7_Mod_init_lt {n : Nat} {f : Nat → am_C} {r x : Nat} {y0 y1 y12 y13 y14 y15 y16 y17 y18 y19 y21 y23 y26 y28 y30 y31 y32 y33 y36 y37 y38 y39 y40 : Nat} (hx : x < n) (hr : x ≠ r) : G7_Mod_init n f r y0 y1 y12 y13 y14 y15 y16 y17 y18 y19 y21 y23 y26 y28 y30 y31 y32 y33 y36 y37 y38 y39 y40 x = f x := by
  unfold G7_Mod_init
  (repeat (first | rw [va_up_ne _ _ (by omega)] | rw [F_Vals_lt (by omega) (by omega)] | rw [F_Code_init_1500_lt (by omega) (by omega)] | rw [F_Code_init_400_lt (by omega) (by omega)] | rw [F_State_init_lt (by omega) (by omega)] | rw [F_Out_init_lt (by omega) (by omega)] | rw [F_Draft_init_lt (by omega) (by omega)] | rw [F_Sweep_init_lt (by omega) (by omega)] | rw [F_Log_init_lt (by omega) (by omega)] | rw [F_Mach_init_lt (by omega) (by omega)] | rw [F_AL_lt (by omega) (by omega)] | rw [F_Lexer_lt (by omega) (by omega)] | rw [F_Pars_init_lt (by omega) (by omega)] | rw [F_Stow_init_lt (by omega) (by omega)] | rw [wl_f_lt (by omega) (by omega)] | rw [pl_f_lt (by omega) (by omega)] | rw [G0_Mod_init_lt (by omega) (by omega)] | rw [G1_Mod_init_lt (by omega) (by omega)] | rw [G2_Mod_init_lt (by omega) (by omega)] | rw [G3_Mod_init_lt (by omega) (by omega)] | rw [G4_Mod_init_lt (by omega) (by omega)] | rw [G5_Mod_init_lt (by omega) (by omega)] | rw [G6_Mod_init_lt (by omega) (by omega)]))
theorem G7_Mod_init_self {n : Nat} {f : Nat → am_C} {r : Nat} {y0 y1 y12 y13 y14 y15 y16 y17 y18 y19 y21 y23 y26 y28 y30 y31 y32 y33 y36 y37 y38 y39 y40 : Nat} (hr : r < n) : G7_Mod_init n f r y0 y1 y12 y13 y14 y15 y16 y17 y18 y19 y21 y23 y26 y28 y30 y31 y32 y33 y36 y37 y38 y39 y40 r = .inr (14, [.ref y0, .ref y1, .int 0, .int 0, .int 0, .int 0, .int 0, .int 0, .int 0, .int 0, .int 0, .long 0, .ref y12, .ref y13, .ref y14, .ref y15, .ref y16, .ref y17, .ref y18, .ref y19, .int 0, .ref y21, .null, .ref y23, .int 0, .int 0, .ref y26, .int 0, .ref y28, .int 0, .ref y30, .ref y31, .ref y32, .ref y33, .int 0, .int 0, .ref y36, .ref y37, .ref y38, .ref y39, .ref y40, .int 0, .int 0, .int 0, .int 0, .int 0, .int 0, .ref n, .ref (n + 1), .ref (n + 2), .ref (n + 3), .ref (n + 4), .int 0]) := by
  unfold G7_Mod_init
  (repeat (first | rw [va_up_self] | rw [va_up_ne _ _ (by omega)] | rw [F_Vals_lt (by omega) (by omega)] | rw [F_Code_init_1500_lt (by omega) (by omega)] | rw [F_Code_init_400_lt (by omega) (by omega)] | rw [F_State_init_lt (by omega) (by omega)] | rw [F_Out_init_lt (by omega) (by omega)] | rw [F_Draft_init_lt (by omega) (by omega)] | rw [F_Sweep_init_lt (by omega) (by omega)] | rw [F_Log_init_lt (by omega) (by omega)] | rw [F_Mach_init_lt (by omega) (by omega)] | rw [F_AL_lt (by omega) (by omega)] | rw [F_Lexer_lt (by omega) (by omega)] | rw [F_Pars_init_lt (by omega) (by omega)] | rw [F_Stow_init_lt (by omega) (by omega)] | rw [wl_f_lt (by omega) (by omega)] | rw [pl_f_lt (by omega) (by omega)] | rw [G0_Mod_init_lt (by omega) (by omega)] | rw [G1_Mod_init_lt (by omega) (by omega)] | rw [G2_Mod_init_lt (by omega) (by omega)] | rw [G3_Mod_init_lt (by omega) (by omega)] | rw [G4_Mod_init_lt (by omega) (by omega)] | rw [G5_Mod_init_lt (by omega) (by omega)] | rw [G6_Mod_init_lt (by omega) (by omega)]))

set_option maxRecDepth 100000 in
set_option maxHeartbeats 4000000 in
theorem s7_Mod_init (O : am_ok K X) {n r kc ks uc us : Nat} {y0 y1 y12 y13 y14 y15 y16 y17 y18 y19 y21 y23 y26 y28 y30 y31 y32 y33 y36 y37 y38 y39 y40 : Nat} {f : Nat → am_C} {post : Option Value → am_H → Prop} (h0 : f r = .inr (14, [.ref y0, .ref y1, .int 0, .int 0, .int 0, .int 0, .int 0, .int 0, .int 0, .int 0, .int 0, .long 0, .ref y12, .ref y13, .ref y14, .ref y15, .ref y16, .ref y17, .ref y18, .ref y19, .int 0, .ref y21, .null, .ref y23, .int 0, .int 0, .ref y26, .int 0, .ref y28, .int 0, .ref y30, .ref y31, .ref y32, .ref y33, .int 0, .int 0, .ref y36, .ref y37, .ref y38, .ref y39, .ref y40, .int 0, .int 0, .int 0, .int 0, .int 0, .int 0, .null, .null, .null, .null, .null, .int 0])) (h1 : 128 ≤ r) (h2 : r < n) (hkc : uc + 5 ≤ kc) (hks : us + 227 ≤ ks) (kk : am_W K X m_Mod_init 4 kc ks (uc + 5) (us + 227) 285 [(0, .ref r)] [] (n + 5, G7_Mod_init n f r y0 y1 y12 y13 y14 y15 y16 y17 y18 y19 y21 y23 y26 y28 y30 y31 y32 y33 y36 y37 y38 y39 y40) post) : am_W K X m_Mod_init 4 kc ks uc us 244 [(0, .ref r)] [] (n, f) post := by
  refine am_aload_n d_Mod_init_244 rfl rfl ?_
  refine am_bipush (v := 9) d_Mod_init_245 (by decide) ?_
  refine am_anew (N := 9) O (by decide) w_1489 x_1570 d_Mod_init_247 (by decide) (by decide) (by decide) (by omega) (by omega) ?_
  refine am_putF O f_Mod_380 (fun q hq => by cases hq; exact ⟨w_1669, rfl⟩) rfl d_Mod_init_250 (by (repeat (first | rw [va_up_self] | rw [va_up_ne _ _ (by omega)] | rw [F_Vals_lt (by omega) (by omega)] | rw [F_Code_init_1500_lt (by omega) (by omega)] | rw [F_Code_init_400_lt (by omega) (by omega)] | rw [F_State_init_lt (by omega) (by omega)] | rw [F_Out_init_lt (by omega) (by omega)] | rw [F_Draft_init_lt (by omega) (by omega)] | rw [F_Sweep_init_lt (by omega) (by omega)] | rw [F_Log_init_lt (by omega) (by omega)] | rw [F_Mach_init_lt (by omega) (by omega)] | rw [F_AL_lt (by omega) (by omega)] | rw [F_Lexer_lt (by omega) (by omega)] | rw [F_Pars_init_lt (by omega) (by omega)] | rw [F_Stow_init_lt (by omega) (by omega)] | rw [wl_f_lt (by omega) (by omega)] | rw [pl_f_lt (by omega) (by omega)] | rw [G0_Mod_init_lt (by omega) (by omega)] | rw [G1_Mod_init_lt (by omega) (by omega)] | rw [G2_Mod_init_lt (by omega) (by omega)] | rw [G3_Mod_init_lt (by omega) (by omega)] | rw [G4_Mod_init_lt (by omega) (by omega)] | rw [G5_Mod_init_lt (by omega) (by omega)] | rw [G6_Mod_init_lt (by omega) (by omega)])); first | done | rfl | assumption) (by omega) (by omega) (Nat.le_of_ble_eq_true rfl) (fun q hq => by cases hq; exact ⟨rfl, rfl, rfl⟩) ?_
  refine am_aload_n d_Mod_init_253 rfl rfl ?_
  refine am_bipush (v := 9) d_Mod_init_254 (by decide) ?_
  refine am_newa (at_ := .int) (ty := .int) (N := 9) O rfl (by decide) w_317 d_Mod_init_256 (by decide) (by decide) (by decide) (by omega) (by omega) ?_
  refine am_putF O f_Mod_383 (fun q hq => by cases hq; exact ⟨w_1670, rfl⟩) rfl d_Mod_init_258 (by (repeat (first | rw [va_up_self] | rw [va_up_ne _ _ (by omega)] | rw [F_Vals_lt (by omega) (by omega)] | rw [F_Code_init_1500_lt (by omega) (by omega)] | rw [F_Code_init_400_lt (by omega) (by omega)] | rw [F_State_init_lt (by omega) (by omega)] | rw [F_Out_init_lt (by omega) (by omega)] | rw [F_Draft_init_lt (by omega) (by omega)] | rw [F_Sweep_init_lt (by omega) (by omega)] | rw [F_Log_init_lt (by omega) (by omega)] | rw [F_Mach_init_lt (by omega) (by omega)] | rw [F_AL_lt (by omega) (by omega)] | rw [F_Lexer_lt (by omega) (by omega)] | rw [F_Pars_init_lt (by omega) (by omega)] | rw [F_Stow_init_lt (by omega) (by omega)] | rw [wl_f_lt (by omega) (by omega)] | rw [pl_f_lt (by omega) (by omega)] | rw [G0_Mod_init_lt (by omega) (by omega)] | rw [G1_Mod_init_lt (by omega) (by omega)] | rw [G2_Mod_init_lt (by omega) (by omega)] | rw [G3_Mod_init_lt (by omega) (by omega)] | rw [G4_Mod_init_lt (by omega) (by omega)] | rw [G5_Mod_init_lt (by omega) (by omega)] | rw [G6_Mod_init_lt (by omega) (by omega)])); first | done | rfl | assumption) (by omega) (by omega) (Nat.le_of_ble_eq_true rfl) (fun q hq => by cases hq; exact ⟨rfl, rfl, rfl⟩) ?_
  refine am_aload_n d_Mod_init_261 rfl rfl ?_
  refine am_bipush (v := 9) d_Mod_init_262 (by decide) ?_
  refine am_newa (at_ := .int) (ty := .int) (N := 9) O rfl (by decide) w_317 d_Mod_init_264 (by decide) (by decide) (by decide) (by omega) (by omega) ?_
  refine am_putF O f_Mod_386 (fun q hq => by cases hq; exact ⟨w_1671, rfl⟩) rfl d_Mod_init_266 (by (repeat (first | rw [va_up_self] | rw [va_up_ne _ _ (by omega)] | rw [F_Vals_lt (by omega) (by omega)] | rw [F_Code_init_1500_lt (by omega) (by omega)] | rw [F_Code_init_400_lt (by omega) (by omega)] | rw [F_State_init_lt (by omega) (by omega)] | rw [F_Out_init_lt (by omega) (by omega)] | rw [F_Draft_init_lt (by omega) (by omega)] | rw [F_Sweep_init_lt (by omega) (by omega)] | rw [F_Log_init_lt (by omega) (by omega)] | rw [F_Mach_init_lt (by omega) (by omega)] | rw [F_AL_lt (by omega) (by omega)] | rw [F_Lexer_lt (by omega) (by omega)] | rw [F_Pars_init_lt (by omega) (by omega)] | rw [F_Stow_init_lt (by omega) (by omega)] | rw [wl_f_lt (by omega) (by omega)] | rw [pl_f_lt (by omega) (by omega)] | rw [G0_Mod_init_lt (by omega) (by omega)] | rw [G1_Mod_init_lt (by omega) (by omega)] | rw [G2_Mod_init_lt (by omega) (by omega)] | rw [G3_Mod_init_lt (by omega) (by omega)] | rw [G4_Mod_init_lt (by omega) (by omega)] | rw [G5_Mod_init_lt (by omega) (by omega)] | rw [G6_Mod_init_lt (by omega) (by omega)])); first | done | rfl | assumption) (by omega) (by omega) (Nat.le_of_ble_eq_true rfl) (fun q hq => by cases hq; exact ⟨rfl, rfl, rfl⟩) ?_
  refine am_aload_n d_Mod_init_269 rfl rfl ?_
  refine am_bipush (v := 100) d_Mod_init_270 (by decide) ?_
  refine am_newa (at_ := .boolean) (ty := .boolean) (N := 100) O rfl (by decide) w_494 d_Mod_init_272 (by decide) (by decide) (by decide) (by omega) (by omega) ?_
  refine am_putF O f_Mod_389 (fun q hq => by cases hq; exact ⟨w_1672, rfl⟩) rfl d_Mod_init_274 (by (repeat (first | rw [va_up_self] | rw [va_up_ne _ _ (by omega)] | rw [F_Vals_lt (by omega) (by omega)] | rw [F_Code_init_1500_lt (by omega) (by omega)] | rw [F_Code_init_400_lt (by omega) (by omega)] | rw [F_State_init_lt (by omega) (by omega)] | rw [F_Out_init_lt (by omega) (by omega)] | rw [F_Draft_init_lt (by omega) (by omega)] | rw [F_Sweep_init_lt (by omega) (by omega)] | rw [F_Log_init_lt (by omega) (by omega)] | rw [F_Mach_init_lt (by omega) (by omega)] | rw [F_AL_lt (by omega) (by omega)] | rw [F_Lexer_lt (by omega) (by omega)] | rw [F_Pars_init_lt (by omega) (by omega)] | rw [F_Stow_init_lt (by omega) (by omega)] | rw [wl_f_lt (by omega) (by omega)] | rw [pl_f_lt (by omega) (by omega)] | rw [G0_Mod_init_lt (by omega) (by omega)] | rw [G1_Mod_init_lt (by omega) (by omega)] | rw [G2_Mod_init_lt (by omega) (by omega)] | rw [G3_Mod_init_lt (by omega) (by omega)] | rw [G4_Mod_init_lt (by omega) (by omega)] | rw [G5_Mod_init_lt (by omega) (by omega)] | rw [G6_Mod_init_lt (by omega) (by omega)])); first | done | rfl | assumption) (by omega) (by omega) (Nat.le_of_ble_eq_true rfl) (fun q hq => by cases hq; exact ⟨rfl, rfl, rfl⟩) ?_
  refine am_aload_n d_Mod_init_277 rfl rfl ?_
  refine am_bipush (v := 100) d_Mod_init_278 (by decide) ?_
  refine am_newa (at_ := .int) (ty := .int) (N := 100) O rfl (by decide) w_317 d_Mod_init_280 (by decide) (by decide) (by decide) (by omega) (by omega) ?_
  refine am_putF O f_Mod_393 (fun q hq => by cases hq; exact ⟨w_1673, rfl⟩) rfl d_Mod_init_282 (by (repeat (first | rw [va_up_self] | rw [va_up_ne _ _ (by omega)] | rw [F_Vals_lt (by omega) (by omega)] | rw [F_Code_init_1500_lt (by omega) (by omega)] | rw [F_Code_init_400_lt (by omega) (by omega)] | rw [F_State_init_lt (by omega) (by omega)] | rw [F_Out_init_lt (by omega) (by omega)] | rw [F_Draft_init_lt (by omega) (by omega)] | rw [F_Sweep_init_lt (by omega) (by omega)] | rw [F_Log_init_lt (by omega) (by omega)] | rw [F_Mach_init_lt (by omega) (by omega)] | rw [F_AL_lt (by omega) (by omega)] | rw [F_Lexer_lt (by omega) (by omega)] | rw [F_Pars_init_lt (by omega) (by omega)] | rw [F_Stow_init_lt (by omega) (by omega)] | rw [wl_f_lt (by omega) (by omega)] | rw [pl_f_lt (by omega) (by omega)] | rw [G0_Mod_init_lt (by omega) (by omega)] | rw [G1_Mod_init_lt (by omega) (by omega)] | rw [G2_Mod_init_lt (by omega) (by omega)] | rw [G3_Mod_init_lt (by omega) (by omega)] | rw [G4_Mod_init_lt (by omega) (by omega)] | rw [G5_Mod_init_lt (by omega) (by omega)] | rw [G6_Mod_init_lt (by omega) (by omega)])); first | done | rfl | assumption) (by omega) (by omega) (Nat.le_of_ble_eq_true rfl) (fun q hq => by cases hq; exact ⟨rfl, rfl, rfl⟩) ?_
  exact am_less (Nat.le_refl _) (by omega) (by omega) kk

def F_Mod_init (n : Nat) (f : Nat → am_C) (r : Nat) : Nat → am_C := (pl_f (n + 240) (n + 78) ((wl_f (n + 104) (n + 77) (G7_Mod_init (n + 99) (G6_Mod_init (n + 79) (G5_Mod_init (n + 77) (G4_Mod_init (n + 26) (G3_Mod_init (n + 23) (G2_Mod_init (n + 13) (G1_Mod_init (n + 9) (G0_Mod_init n f r) r n (n + 1) (n + 2)) r n (n + 1) (n + 2) (n + 9) (n + 10) (n + 11) (n + 12)) r n (n + 1) (n + 2) (n + 9) (n + 10) (n + 11) (n + 12) (n + 13) (n + 14) (n + 15) (n + 16)) r n (n + 1) (n + 2) (n + 9) (n + 10) (n + 11) (n + 12) (n + 13) (n + 14) (n + 15) (n + 16) (n + 23) (n + 24) (n + 25)) r n (n + 1) (n + 2) (n + 9) (n + 10) (n + 11) (n + 12) (n + 13) (n + 14) (n + 15) (n + 16) (n + 23) (n + 24) (n + 25) (n + 26) (n + 43) (n + 60)) r n (n + 1) (n + 2) (n + 9) (n + 10) (n + 11) (n + 12) (n + 13) (n + 14) (n + 15) (n + 16) (n + 23) (n + 24) (n + 25) (n + 26) (n + 43) (n + 60) (n + 77) (n + 78)) r n (n + 1) (n + 2) (n + 9) (n + 10) (n + 11) (n + 12) (n + 13) (n + 14) (n + 15) (n + 16) (n + 23) (n + 24) (n + 25) (n + 26) (n + 43) (n + 60) (n + 77) (n + 78) (n + 79) (n + 84) (n + 89) (n + 94)) 8).1) 130).1
theorem F_Mod_init_lt {n : Nat} {f : Nat → am_C} {r x : Nat} (hx : x < n) (hr : x ≠ r) : F_Mod_init n f r x = f x := by
  unfold F_Mod_init
  (repeat (first | rw [va_up_ne _ _ (by omega)] | rw [F_Vals_lt (by omega) (by omega)] | rw [F_Code_init_1500_lt (by omega) (by omega)] | rw [F_Code_init_400_lt (by omega) (by omega)] | rw [F_State_init_lt (by omega) (by omega)] | rw [F_Out_init_lt (by omega) (by omega)] | rw [F_Draft_init_lt (by omega) (by omega)] | rw [F_Sweep_init_lt (by omega) (by omega)] | rw [F_Log_init_lt (by omega) (by omega)] | rw [F_Mach_init_lt (by omega) (by omega)] | rw [F_AL_lt (by omega) (by omega)] | rw [F_Lexer_lt (by omega) (by omega)] | rw [F_Pars_init_lt (by omega) (by omega)] | rw [F_Stow_init_lt (by omega) (by omega)] | rw [wl_f_lt (by omega) (by omega)] | rw [pl_f_lt (by omega) (by omega)] | rw [G0_Mod_init_lt (by omega) (by omega)] | rw [G1_Mod_init_lt (by omega) (by omega)] | rw [G2_Mod_init_lt (by omega) (by omega)] | rw [G3_Mod_init_lt (by omega) (by omega)] | rw [G4_Mod_init_lt (by omega) (by omega)] | rw [G5_Mod_init_lt (by omega) (by omega)] | rw [G6_Mod_init_lt (by omega) (by omega)] | rw [G7_Mod_init_lt (by omega) (by omega)]))
theorem F_Mod_init_self {n : Nat} {f : Nat → am_C} {r : Nat} (hr : r < n) : F_Mod_init n f r r = .inr (14, [.ref n, .ref (n + 1), .int 0, .int 0, .int 0, .int 0, .int 0, .int 0, .int 0, .int 0, .int 0, .long 0, .ref (n + 2), .ref (n + 9), .ref (n + 10), .ref (n + 11), .ref (n + 12), .ref (n + 13), .ref (n + 14), .ref (n + 15), .int 0, .ref (n + 16), .null, .ref (n + 23), .int 0, .int 0, .ref (n + 24), .int 0, .ref (n + 25), .int 0, .ref (n + 26), .ref (n + 43), .ref (n + 60), .ref (n + 77), .int 0, .int 0, .ref (n + 78), .ref (n + 79), .ref (n + 84), .ref (n + 89), .ref (n + 94), .int 0, .int 0, .int 0, .int 0, .int 0, .int 0, .ref (n + 99), .ref (n + 100), .ref (n + 101), .ref (n + 102), .ref (n + 103), .int 0]) := by
  unfold F_Mod_init
  (repeat (first | rw [wl_f_lt (by omega) (by omega)] | rw [pl_f_lt (by omega) (by omega)]))
  exact G7_Mod_init_self (by omega)

set_option maxRecDepth 100000 in
set_option maxHeartbeats 4000000 in
theorem c_Mod_init (O : am_ok K X) {n r : Nat} {f : Nat → am_C} (h0 : f r = .inr (14, [.null, .null, .int 0, .int 0, .int 0, .int 0, .int 0, .int 0, .int 0, .int 0, .int 0, .long 0, .null, .null, .null, .null, .null, .null, .null, .null, .int 0, .null, .null, .null, .int 0, .int 0, .null, .int 0, .null, .int 0, .null, .null, .null, .null, .int 0, .int 0, .null, .null, .null, .null, .null, .int 0, .int 0, .int 0, .int 0, .int 0, .int 0, .null, .null, .null, .null, .null, .int 0])) (h1 : 128 ≤ r) (h2 : r < n) : am_Mt K X m_Mod_init 4 1150 598349 [.ref r] (n, f) (fun v h' => v = none ∧ h' = (n + 1150, F_Mod_init n f r)) := by
  refine am_enter (by decide +kernel) (Nat.le_of_ble_eq_true rfl) ?_
  refine s0_Mod_init O h0 (by omega) (by omega) (by omega) (by omega) ?_
  refine s1_Mod_init O (G0_Mod_init_self (by omega)) (by omega) (by omega) (by omega) (by omega) ?_
  refine s2_Mod_init O (G1_Mod_init_self (by omega)) (by omega) (by omega) (by omega) (by omega) ?_
  refine s3_Mod_init O (G2_Mod_init_self (by omega)) (by omega) (by omega) (by omega) (by omega) ?_
  refine s4_Mod_init O (G3_Mod_init_self (by omega)) (by omega) (by omega) (by omega) (by omega) ?_
  refine s5_Mod_init O (G4_Mod_init_self (by omega)) (by omega) (by omega) (by omega) (by omega) ?_
  refine s6_Mod_init O (G5_Mod_init_self (by omega)) (by omega) (by omega) (by omega) (by omega) ?_
  refine s7_Mod_init O (G6_Mod_init_self (by omega)) (by omega) (by omega) (by omega) (by omega) ?_
  refine am_locs (lv' := [(0, .ref r)]) rfl ?_
  refine am_iconst (v := 0) d_Mod_init_285 (by decide) ?_
  refine am_istore_n d_Mod_init_286 rfl (by decide) ?_
  refine am_locs (lv' := [(0, .ref r), (1, .int 0)]) rfl ?_
  refine wl_start (q := (n + 77)) O (G7_Mod_init_self (by omega)) (by rfl) (by (repeat (first | rw [va_up_self] | rw [va_up_ne _ _ (by omega)] | rw [F_Vals_lt (by omega) (by omega)] | rw [F_Code_init_1500_lt (by omega) (by omega)] | rw [F_Code_init_400_lt (by omega) (by omega)] | rw [F_State_init_lt (by omega) (by omega)] | rw [F_Out_init_lt (by omega) (by omega)] | rw [F_Draft_init_lt (by omega) (by omega)] | rw [F_Sweep_init_lt (by omega) (by omega)] | rw [F_Log_init_lt (by omega) (by omega)] | rw [F_Mach_init_lt (by omega) (by omega)] | rw [F_AL_lt (by omega) (by omega)] | rw [F_Lexer_lt (by omega) (by omega)] | rw [F_Pars_init_lt (by omega) (by omega)] | rw [F_Stow_init_lt (by omega) (by omega)] | rw [wl_f_lt (by omega) (by omega)] | rw [pl_f_lt (by omega) (by omega)] | rw [G0_Mod_init_lt (by omega) (by omega)] | rw [G1_Mod_init_lt (by omega) (by omega)] | rw [G2_Mod_init_lt (by omega) (by omega)] | rw [G3_Mod_init_lt (by omega) (by omega)] | rw [G4_Mod_init_lt (by omega) (by omega)] | rw [G5_Mod_init_lt (by omega) (by omega)] | rw [G6_Mod_init_lt (by omega) (by omega)] | rw [G7_Mod_init_lt (by omega) (by omega)])); unfold G5_Mod_init; (repeat (first | rw [va_up_self] | rw [va_up_ne _ _ (by omega)] | rw [F_Vals_lt (by omega) (by omega)] | rw [F_Code_init_1500_lt (by omega) (by omega)] | rw [F_Code_init_400_lt (by omega) (by omega)] | rw [F_State_init_lt (by omega) (by omega)] | rw [F_Out_init_lt (by omega) (by omega)] | rw [F_Draft_init_lt (by omega) (by omega)] | rw [F_Sweep_init_lt (by omega) (by omega)] | rw [F_Log_init_lt (by omega) (by omega)] | rw [F_Mach_init_lt (by omega) (by omega)] | rw [F_AL_lt (by omega) (by omega)] | rw [F_Lexer_lt (by omega) (by omega)] | rw [F_Pars_init_lt (by omega) (by omega)] | rw [F_Stow_init_lt (by omega) (by omega)] | rw [wl_f_lt (by omega) (by omega)] | rw [pl_f_lt (by omega) (by omega)] | rw [G0_Mod_init_lt (by omega) (by omega)] | rw [G1_Mod_init_lt (by omega) (by omega)] | rw [G2_Mod_init_lt (by omega) (by omega)] | rw [G3_Mod_init_lt (by omega) (by omega)] | rw [G4_Mod_init_lt (by omega) (by omega)] | rw [G5_Mod_init_lt (by omega) (by omega)] | rw [G6_Mod_init_lt (by omega) (by omega)] | rw [G7_Mod_init_lt (by omega) (by omega)])); first | done | rfl | assumption) (by omega) (by omega) (by omega) (by omega) (by omega) (by omega) (by omega) ?_
  refine am_iconst (v := 0) d_Mod_init_312 (by decide) ?_
  refine am_istore_n d_Mod_init_313 rfl (by decide) ?_
  refine am_locs (lv' := [(0, .ref r), (1, .int 0)]) rfl ?_
  refine pl_start (q := (n + 78)) O (by rw [wl_f_lt (by omega) (by omega)]; exact G7_Mod_init_self (by omega)) (by rfl) (by rw [wl_f_lt (by omega) (by omega)]; (repeat (first | rw [va_up_self] | rw [va_up_ne _ _ (by omega)] | rw [F_Vals_lt (by omega) (by omega)] | rw [F_Code_init_1500_lt (by omega) (by omega)] | rw [F_Code_init_400_lt (by omega) (by omega)] | rw [F_State_init_lt (by omega) (by omega)] | rw [F_Out_init_lt (by omega) (by omega)] | rw [F_Draft_init_lt (by omega) (by omega)] | rw [F_Sweep_init_lt (by omega) (by omega)] | rw [F_Log_init_lt (by omega) (by omega)] | rw [F_Mach_init_lt (by omega) (by omega)] | rw [F_AL_lt (by omega) (by omega)] | rw [F_Lexer_lt (by omega) (by omega)] | rw [F_Pars_init_lt (by omega) (by omega)] | rw [F_Stow_init_lt (by omega) (by omega)] | rw [wl_f_lt (by omega) (by omega)] | rw [pl_f_lt (by omega) (by omega)] | rw [G0_Mod_init_lt (by omega) (by omega)] | rw [G1_Mod_init_lt (by omega) (by omega)] | rw [G2_Mod_init_lt (by omega) (by omega)] | rw [G3_Mod_init_lt (by omega) (by omega)] | rw [G4_Mod_init_lt (by omega) (by omega)] | rw [G5_Mod_init_lt (by omega) (by omega)] | rw [G6_Mod_init_lt (by omega) (by omega)] | rw [G7_Mod_init_lt (by omega) (by omega)])); unfold G5_Mod_init; (repeat (first | rw [va_up_self] | rw [va_up_ne _ _ (by omega)] | rw [F_Vals_lt (by omega) (by omega)] | rw [F_Code_init_1500_lt (by omega) (by omega)] | rw [F_Code_init_400_lt (by omega) (by omega)] | rw [F_State_init_lt (by omega) (by omega)] | rw [F_Out_init_lt (by omega) (by omega)] | rw [F_Draft_init_lt (by omega) (by omega)] | rw [F_Sweep_init_lt (by omega) (by omega)] | rw [F_Log_init_lt (by omega) (by omega)] | rw [F_Mach_init_lt (by omega) (by omega)] | rw [F_AL_lt (by omega) (by omega)] | rw [F_Lexer_lt (by omega) (by omega)] | rw [F_Pars_init_lt (by omega) (by omega)] | rw [F_Stow_init_lt (by omega) (by omega)] | rw [wl_f_lt (by omega) (by omega)] | rw [pl_f_lt (by omega) (by omega)] | rw [G0_Mod_init_lt (by omega) (by omega)] | rw [G1_Mod_init_lt (by omega) (by omega)] | rw [G2_Mod_init_lt (by omega) (by omega)] | rw [G3_Mod_init_lt (by omega) (by omega)] | rw [G4_Mod_init_lt (by omega) (by omega)] | rw [G5_Mod_init_lt (by omega) (by omega)] | rw [G6_Mod_init_lt (by omega) (by omega)] | rw [G7_Mod_init_lt (by omega) (by omega)])); first | done | rfl | assumption) (by omega) (by omega) (by omega) (by omega) (by omega) (by omega) (by omega) ?_
  exact am_vret rfl d_Mod_init_345 ⟨rfl, rfl⟩
end
end
section
/-! System.arraycopy -/
section AMCP
variable {K : am_K} {X : Nat → am_C} {M : am_M} {d kc ks uc us pc : Nat} {lv : List (Nat × Value)} {st : List Value} {hn : Nat} {hf : Nat → am_C} {post : Option Value → am_H → Prop}
theorem am_copy (O : am_ok K X) {ix r0 r1 n0 n1 P Q N : Nat} {ty : FieldType} {f g : Nat → Value} {sp dp n : Int32} (hw : Cond.methodLink M.1.cls ix arraycopyName ∈ am_tbl) (hnat : Cond.native arraycopyName ∈ am_tbl) (hstat : Cond.static arraycopyName ∈ am_tbl) (hini : Cond.initialized "java/lang/System" ∈ am_tbl) (hd : decode M.2.1 pc = .ok (.invokestatic ix, 3)) (hc0 : hf r0 = .inl (ty, n0, f)) (hr0 : 128 ≤ r0) (hr02 : r0 < hn) (hc1 : hf r1 = .inl (ty, n1, g)) (hr : 128 ≤ r1) (hr2 : r1 < hn) (ht : (ty : FieldType) ∈ am_tys) (h1 : ¬ sp < 0) (h2 : ¬ dp < 0) (h3 : ¬ n < 0) (hP : sp.toNatClampNeg = P) (hQ : dp.toNatClampNeg = Q) (hN : n.toNatClampNeg = N) (h4 : P + N ≤ n0) (h5 : Q + N ≤ n1) (hprim : refKind ty = false) (hfit : ∀ i : Nat, i < N → fits ty (f (P + i)) = true ∧ ∀ r, f (P + i) ≠ .ref r) (hst : (st.map fun v => v.category).sum ≤ 8) (hdd : 1 ≤ d)
    (kk : am_W K X M d kc ks uc us (pc + 3) lv st (hn, va_up hf r1 (.inl (ty, n1, va_cpy f g P Q N))) post) : am_W K X M d kc ks uc us pc lv (.int n :: .int dp :: .ref r1 :: .int sp :: .ref r0 :: st) (hn, hf) post := by
  have nn : ∀ z : Int32, ¬ z < 0 → z.toInt = (z.toNatClampNeg : Int) := by
    intro z hz
    have hz0 : (0 : Int) ≤ z.toInt := by
      have := Int32.not_lt.mp hz
      simpa using Int32.le_iff_toInt_le.mp this
    show z.toInt = ((z.toInt.toNat : Nat) : Int)
    omega
  subst hP; subst hQ; subst hN
  intro p l e R s m args below meth c H locs cells slots ls z hH hL hl h11 h12
  have hcat : ((st.map (am_tr K)).map fun v => v.category).sum ≤ 8 := by
    rw [List.map_map, show ((fun v : Value => v.category) ∘ am_tr K) = fun v => v.category from funext (am_cat K)]
    exact hst
  have hnw : nativeFrameWords "java/lang/System" "arraycopy" 5 ≤ 40 := by decide +kernel
  obtain ⟨z1, z2, z3, z4, z5, z6, z7, z8, z9, z10, z11⟩ := id z
  intro T hT X1
  have k0 := am_hat hH hc0 hr0 hr02
  have k1 := am_hat hH hc1 hr hr2
  obtain ⟨-, kA0, hk0, cm0, hkk0⟩ := (am_kn O z ht).1 n0 (fun j => am_tr K (f j))
  obtain ⟨-, kA1, hk1, cm1, hkk1⟩ := (am_kn O z ht).1 n1 (fun j => am_tr K (g j))
  obtain ⟨vm', X', step⟩ := X1.arraycopy z1 z4 (z5 _ hw) (z5 _ hnat) (z5 _ hstat) (z5 _ hini) (src := am_ad K r0) (dst := am_ad K r1) (srcPos := sp) (destPos := dp) (n := n) (by rw [hT]; exact k0) (by rw [hT]; exact k1)
    (fun _ h => by cases h) (fun _ h => by cases h) (fun h => by cases h) (fun h => by cases h) hk0 hk1 hkk0 hkk1 (by simp [hprim]) h1 h2 h3
    (by rw [nn sp h1, nn n h3, arrV_size]; omega)
    (by rw [nn dp h2, nn n h3, arrV_size]; omega)
    (fun vm₁ hal i hi => by
      have e : (arrV (K.2.2.1 ty) n0 (fun j => am_tr K (f j))).slots.getD (sp.toNatClampNeg + i) .null = am_tr K (f (sp.toNatClampNeg + i)) := by
        rw [Array.getD_eq_getD_getElem?, arrV_read _ _ (by omega)]
        rfl
      rw [e]
      obtain ⟨w1, w2⟩ := hfit i hi
      refine ⟨am_fits w1, ?_⟩
      cases hx : f (sp.toNatClampNeg + i) <;> first | exact trivial | exact absurd hx (w2 _))
    (g := F0 m pc ls ((.int n :: .int dp :: .ref r1 :: .int sp :: .ref r0 :: st).map (am_tr K))) rfl (by rw [z3]; exact hl.1) (rest := st.map (am_tr K)) rfl (by rw [z2]; exact hd) (by omega) (by show 2 * 0 + _ + _ ≤ _; omega)
  have e1 : copied (arrV (K.2.2.1 ty) n0 (fun j => am_tr K (f j))) (arrV (K.2.2.1 ty) n1 (fun j => am_tr K (g j))) sp dp n = arrV (K.2.2.1 ty) n1 (fun j => am_tr K (va_cpy f g sp.toNatClampNeg dp.toNatClampNeg n.toNatClampNeg j)) := va_copied (fun v => am_tr K v) _ _ f g h4
  rw [e1] at X' step
  have hlt : am_ad K r1 < H.size := (Array.getElem?_eq_some_iff.mp k1).1
  have hheap : ((T.setVm vm').setCell (am_ad K r1) (arrV (K.2.2.1 ty) n1 (fun j => am_tr K (va_cpy f g sp.toNatClampNeg dp.toNatClampNeg n.toNatClampNeg j)))).heap = H.setIfInBounds (am_ad K r1) (arrV (K.2.2.1 ty) n1 (fun j => am_tr K (va_cpy f g sp.toNatClampNeg dp.toNatClampNeg n.toNatClampNeg j))) := by rw [← hT]; rfl
  have hH2 := hH.set (c := .inl (ty, n1, va_cpy f g sp.toNatClampNeg dp.toNatClampNeg n.toNatClampNeg)) (H1 := H.setIfInBounds (am_ad K r1) (arrV (K.2.2.1 ty) n1 (fun j => am_tr K (va_cpy f g sp.toNatClampNeg dp.toNatClampNeg n.toNatClampNeg j)))) hr hr2 (by simp) (fun q hq => by simp [Array.getElem?_setIfInBounds, Ne.symm hq]) (show (H.setIfInBounds (am_ad K r1) _)[am_ad K r1]? = some _ by simp [Array.getElem?_setIfInBounds, hlt])
  obtain ⟨t, a1, b1⟩ := kk p l e R s m args below meth c _ _ cells slots ls z hH2 (fun q hq => by
      rcases List.mem_append.mp hq with h | h
      · exact hL q h
      · obtain ⟨y, -, hy⟩ := List.mem_map.mp h
        rw [← hy]
        show K.1.heap.size ≤ am_ad K r1
        rw [am_ad_hi hr]
        exact Nat.le_add_right _ _) hl h11 h12 _ hheap X'
  exact ⟨t, step t a1, b1⟩
theorem am_copyq (O : am_ok K X) {ix r0 r1 n0 n1 P Q N : Nat} {C : String} {ci : Nat} {qc : vw_C} {f g : Nat → Value} {sp dp n : Int32} (hw : Cond.methodLink M.1.cls ix arraycopyName ∈ am_tbl) (hnat : Cond.native arraycopyName ∈ am_tbl) (hstat : Cond.static arraycopyName ∈ am_tbl) (hini : Cond.initialized "java/lang/System" ∈ am_tbl) (hd : decode M.2.1 pc = .ok (.invokestatic ix, 3)) (hc0 : hf r0 = .inl ((.object C), n0, f)) (hr0 : 128 ≤ r0) (hr02 : r0 < hn) (hc1 : hf r1 = .inl ((.object C), n1, g)) (hr : 128 ≤ r1) (hr2 : r1 < hn) (ht : ((.object C) : FieldType) ∈ am_tys) (h1 : ¬ sp < 0) (h2 : ¬ dp < 0) (h3 : ¬ n < 0) (hP : sp.toNatClampNeg = P) (hQ : dp.toNatClampNeg = Q) (hN : n.toNatClampNeg = N) (h4 : P + N ≤ n0) (h5 : Q + N ≤ n1) (hq : am_cl[ci]? = some qc) (hC : qc.1 = C) (hel : ∀ i : Nat, i < N → f (P + i) = .null ∨ ∃ (y : Nat) (vs : List Value), f (P + i) = .ref y ∧ hf y = .inr (ci, vs) ∧ 128 ≤ y ∧ y < hn) (hst : (st.map fun v => v.category).sum ≤ 8) (hdd : 1 ≤ d)
    (kk : am_W K X M d kc ks uc us (pc + 3) lv st (hn, va_up hf r1 (.inl ((.object C), n1, va_cpy f g P Q N))) post) : am_W K X M d kc ks uc us pc lv (.int n :: .int dp :: .ref r1 :: .int sp :: .ref r0 :: st) (hn, hf) post := by
  have nn : ∀ z : Int32, ¬ z < 0 → z.toInt = (z.toNatClampNeg : Int) := by
    intro z hz
    have hz0 : (0 : Int) ≤ z.toInt := by
      have := Int32.not_lt.mp hz
      simpa using Int32.le_iff_toInt_le.mp this
    show z.toInt = ((z.toInt.toNat : Nat) : Int)
    omega
  subst hP; subst hQ; subst hN
  intro p l e R s m args below meth c H locs cells slots ls z hH hL hl h11 h12
  have hcat : ((st.map (am_tr K)).map fun v => v.category).sum ≤ 8 := by
    rw [List.map_map, show ((fun v : Value => v.category) ∘ am_tr K) = fun v => v.category from funext (am_cat K)]
    exact hst
  have hnw : nativeFrameWords "java/lang/System" "arraycopy" 5 ≤ 40 := by decide +kernel
  obtain ⟨z1, z2, z3, z4, z5, z6, z7, z8, z9, z10, z11⟩ := id z
  intro T hT X1
  have k0 := am_hat hH hc0 hr0 hr02
  have k1 := am_hat hH hc1 hr hr2
  obtain ⟨-, kA0, hk0, cm0, hkk0⟩ := (am_kn O z ht).1 n0 (fun j => am_tr K (f j))
  obtain ⟨-, kA1, hk1, cm1, hkk1⟩ := (am_kn O z ht).1 n1 (fun j => am_tr K (g j))
  obtain ⟨vm', X', step⟩ := X1.arraycopy z1 z4 (z5 _ hw) (z5 _ hnat) (z5 _ hstat) (z5 _ hini) (src := am_ad K r0) (dst := am_ad K r1) (srcPos := sp) (destPos := dp) (n := n) (by rw [hT]; exact k0) (by rw [hT]; exact k1)
    (fun _ h => by cases h) (fun _ h => by cases h) (fun h => by cases h) (fun h => by cases h) hk0 hk1 hkk0 hkk1 rfl h1 h2 h3
    (by rw [nn sp h1, nn n h3, arrV_size]; omega)
    (by rw [nn dp h2, nn n h3, arrV_size]; omega)
    (fun vm₁ hal i hi => by
      have e : (arrV (K.2.2.1 (.object C)) n0 (fun j => am_tr K (f j))).slots.getD (sp.toNatClampNeg + i) .null = am_tr K (f (sp.toNatClampNeg + i)) := by
        rw [Array.getD_eq_getD_getElem?, arrV_read _ _ (by omega)]
        rfl
      rw [e]
      rcases hel i hi with hx | ⟨y, vs, hx, g1, g2, g3⟩
      · rw [hx]; exact ⟨rfl, trivial⟩
      · rw [hx]
        obtain ⟨cellV, v1, v2, v3⟩ := am_rcv hH g1 g2 g3 hq
        have hcls := ((am_kc O z).1 ci qc hq).2
        obtain ⟨kA, comp, q1, q2, q3, -⟩ := (am_kn O z ht).2
        cases hk1.symm.trans q1
        cases hkk1.symm.trans q2
        rw [← hC] at q3
        have hcomp : cm1 = K.2.1.1 ci := Option.some.inj (q3.symm.trans hcls.1)
        subst hcomp
        obtain ⟨kC, hkC, -⟩ := hcls.2
        obtain ⟨kC', hkC', -⟩ := hal.2.2 _ _ hkC
        refine ⟨rfl, cellV, (show T.heap[am_ad K y]? = some cellV by rw [hT]; exact v1), (fun q h => by rw [v2] at h; cases h), ⟨kC', by rw [v3]; exact hkC'⟩, ?_, ?_⟩
        · exact ⟨kC', hkC'⟩
        · show vm₁.assignable _ _ = true
          rw [hal.assignable, v3]
          exact va_assign hcls)
    (g := F0 m pc ls ((.int n :: .int dp :: .ref r1 :: .int sp :: .ref r0 :: st).map (am_tr K))) rfl (by rw [z3]; exact hl.1) (rest := st.map (am_tr K)) rfl (by rw [z2]; exact hd) (by omega) (by show 2 * 0 + _ + _ ≤ _; omega)
  have e1 : copied (arrV (K.2.2.1 (.object C)) n0 (fun j => am_tr K (f j))) (arrV (K.2.2.1 (.object C)) n1 (fun j => am_tr K (g j))) sp dp n = arrV (K.2.2.1 (.object C)) n1 (fun j => am_tr K (va_cpy f g sp.toNatClampNeg dp.toNatClampNeg n.toNatClampNeg j)) := va_copied (fun v => am_tr K v) _ _ f g h4
  rw [e1] at X' step
  have hlt : am_ad K r1 < H.size := (Array.getElem?_eq_some_iff.mp k1).1
  have hheap : ((T.setVm vm').setCell (am_ad K r1) (arrV (K.2.2.1 (.object C)) n1 (fun j => am_tr K (va_cpy f g sp.toNatClampNeg dp.toNatClampNeg n.toNatClampNeg j)))).heap = H.setIfInBounds (am_ad K r1) (arrV (K.2.2.1 (.object C)) n1 (fun j => am_tr K (va_cpy f g sp.toNatClampNeg dp.toNatClampNeg n.toNatClampNeg j))) := by rw [← hT]; rfl
  have hH2 := hH.set (c := .inl ((.object C), n1, va_cpy f g sp.toNatClampNeg dp.toNatClampNeg n.toNatClampNeg)) (H1 := H.setIfInBounds (am_ad K r1) (arrV (K.2.2.1 (.object C)) n1 (fun j => am_tr K (va_cpy f g sp.toNatClampNeg dp.toNatClampNeg n.toNatClampNeg j)))) hr hr2 (by simp) (fun q hq => by simp [Array.getElem?_setIfInBounds, Ne.symm hq]) (show (H.setIfInBounds (am_ad K r1) _)[am_ad K r1]? = some _ by simp [Array.getElem?_setIfInBounds, hlt])
  obtain ⟨t, a1, b1⟩ := kk p l e R s m args below meth c _ _ cells slots ls z hH2 (fun q hq => by
      rcases List.mem_append.mp hq with h | h
      · exact hL q h
      · obtain ⟨y, -, hy⟩ := List.mem_map.mp h
        rw [← hy]
        show K.1.heap.size ≤ am_ad K r1
        rw [am_ad_hi hr]
        exact Nat.le_add_right _ _) hl h11 h12 _ hheap X'
  exact ⟨t, step t a1, b1⟩
end AMCP
end
section
abbrev m_Arr_fill_aII : am_M := (⟨"java/util/Arrays", "fill", "([II)V"⟩, prog_29_method_103_code, 4, none)
theorem d_Arr_fill_aII_5 : decode prog_29_method_103_code 5 = .ok (.iload_n 2, 1) := by decide +kernel
theorem d_Arr_fill_aII_6 : decode prog_29_method_103_code 6 = .ok (.iload_n 3, 1) := by decide +kernel
theorem d_Arr_fill_aII_7 : decode prog_29_method_103_code 7 = .ok (.if_icmp .ge 13, 3) := by decide +kernel
theorem d_Arr_fill_aII_10 : decode prog_29_method_103_code 10 = .ok (.aload_n 0, 1) := by decide +kernel
theorem d_Arr_fill_aII_11 : decode prog_29_method_103_code 11 = .ok (.iload_n 2, 1) := by decide +kernel
theorem d_Arr_fill_aII_12 : decode prog_29_method_103_code 12 = .ok (.iload_n 1, 1) := by decide +kernel
theorem d_Arr_fill_aII_13 : decode prog_29_method_103_code 13 = .ok (.iastore, 1) := by decide +kernel
theorem d_Arr_fill_aII_14 : decode prog_29_method_103_code 14 = .ok (.iinc 2 1, 3) := by decide +kernel
theorem d_Arr_fill_aII_17 : decode prog_29_method_103_code 17 = .ok (.goto (-12), 3) := by decide +kernel
theorem d_Arr_fill_aII_0 : decode prog_29_method_103_code 0 = .ok (.iconst 0, 1) := by decide +kernel
theorem d_Arr_fill_aII_1 : decode prog_29_method_103_code 1 = .ok (.istore_n 2, 1) := by decide +kernel
theorem d_Arr_fill_aII_2 : decode prog_29_method_103_code 2 = .ok (.aload_n 0, 1) := by decide +kernel
theorem d_Arr_fill_aII_3 : decode prog_29_method_103_code 3 = .ok (.arraylength, 1) := by decide +kernel
theorem d_Arr_fill_aII_4 : decode prog_29_method_103_code 4 = .ok (.istore_n 3, 1) := by decide +kernel
theorem d_Arr_fill_aII_20 : decode prog_29_method_103_code 20 = .ok (.return_, 1) := by decide +kernel
abbrev m_Arr_fill_aZZ : am_M := (⟨"java/util/Arrays", "fill", "([ZZ)V"⟩, prog_29_method_111_code, 4, none)
theorem d_Arr_fill_aZZ_5 : decode prog_29_method_111_code 5 = .ok (.iload_n 2, 1) := by decide +kernel
theorem d_Arr_fill_aZZ_6 : decode prog_29_method_111_code 6 = .ok (.iload_n 3, 1) := by decide +kernel
theorem d_Arr_fill_aZZ_7 : decode prog_29_method_111_code 7 = .ok (.if_icmp .ge 13, 3) := by decide +kernel
theorem d_Arr_fill_aZZ_10 : decode prog_29_method_111_code 10 = .ok (.aload_n 0, 1) := by decide +kernel
theorem d_Arr_fill_aZZ_11 : decode prog_29_method_111_code 11 = .ok (.iload_n 2, 1) := by decide +kernel
theorem d_Arr_fill_aZZ_12 : decode prog_29_method_111_code 12 = .ok (.iload_n 1, 1) := by decide +kernel
theorem d_Arr_fill_aZZ_13 : decode prog_29_method_111_code 13 = .ok (.bastore, 1) := by decide +kernel
theorem d_Arr_fill_aZZ_14 : decode prog_29_method_111_code 14 = .ok (.iinc 2 1, 3) := by decide +kernel
theorem d_Arr_fill_aZZ_17 : decode prog_29_method_111_code 17 = .ok (.goto (-12), 3) := by decide +kernel
theorem d_Arr_fill_aZZ_0 : decode prog_29_method_111_code 0 = .ok (.iconst 0, 1) := by decide +kernel
theorem d_Arr_fill_aZZ_1 : decode prog_29_method_111_code 1 = .ok (.istore_n 2, 1) := by decide +kernel
theorem d_Arr_fill_aZZ_2 : decode prog_29_method_111_code 2 = .ok (.aload_n 0, 1) := by decide +kernel
theorem d_Arr_fill_aZZ_3 : decode prog_29_method_111_code 3 = .ok (.arraylength, 1) := by decide +kernel
theorem d_Arr_fill_aZZ_4 : decode prog_29_method_111_code 4 = .ok (.istore_n 3, 1) := by decide +kernel
theorem d_Arr_fill_aZZ_20 : decode prog_29_method_111_code 20 = .ok (.return_, 1) := by decide +kernel
abbrev m_Store_isThere : am_M := (⟨"StowTongue$Store", "isThere", "(I)Z"⟩, prog_9_method_4_code, 2, (some FieldType.boolean))
theorem d_Store_isThere_0 : decode prog_9_method_4_code 0 = .ok (.iload_n 1, 1) := by decide +kernel
theorem d_Store_isThere_1 : decode prog_9_method_4_code 1 = .ok (.ifCond .lt 23, 3) := by decide +kernel
theorem d_Store_isThere_4 : decode prog_9_method_4_code 4 = .ok (.iload_n 1, 1) := by decide +kernel
theorem d_Store_isThere_5 : decode prog_9_method_4_code 5 = .ok (.bipush 100, 2) := by decide +kernel
theorem d_Store_isThere_7 : decode prog_9_method_4_code 7 = .ok (.if_icmp .ge 17, 3) := by decide +kernel
theorem d_Store_isThere_10 : decode prog_9_method_4_code 10 = .ok (.aload_n 0, 1) := by decide +kernel
theorem cl_10 : am_Cl ("StowTongue$Store", TC10, 9) := ⟨am_in_r [989, 991, 993, 995, 997, 999, 1001, 1003, 1005] (by decide +kernel) (by decide +kernel), by decide +kernel, by decide +kernel⟩
theorem w_976 : (Cond.fieldLink "StowTongue$Store" 16 "StowTongue$Store" "cells" "[I" : Cond) ∈ am_tbl := am_w 976 (by decide +kernel) (by decide +kernel)
theorem f_Store_16 : am_F "StowTongue$Store" 16 10 2 := ⟨_, rfl, cl_10, by decide, Or.inl w_976⟩
theorem d_Store_isThere_11 : decode prog_9_method_4_code 11 = .ok (.getfield 16, 3) := by decide +kernel
theorem d_Store_isThere_14 : decode prog_9_method_4_code 14 = .ok (.iload_n 1, 1) := by decide +kernel
theorem d_Store_isThere_15 : decode prog_9_method_4_code 15 = .ok (.iaload, 1) := by decide +kernel
theorem d_Store_isThere_16 : decode prog_9_method_4_code 16 = .ok (.iconst (-1), 1) := by decide +kernel
theorem d_Store_isThere_17 : decode prog_9_method_4_code 17 = .ok (.if_icmp .eq 7, 3) := by decide +kernel
theorem d_Store_isThere_24 : decode prog_9_method_4_code 24 = .ok (.iconst 0, 1) := by decide +kernel
theorem d_Store_isThere_25 : decode prog_9_method_4_code 25 = .ok (.ireturn, 1) := by decide +kernel
abbrev m_Store_objects : am_M := (⟨"StowTongue$Store", "objects", "()I"⟩, prog_9_method_3_code, 3, (some FieldType.int))
theorem d_Store_objects_4 : decode prog_9_method_3_code 4 = .ok (.iload_n 2, 1) := by decide +kernel
theorem d_Store_objects_5 : decode prog_9_method_3_code 5 = .ok (.bipush 100, 2) := by decide +kernel
theorem d_Store_objects_7 : decode prog_9_method_3_code 7 = .ok (.if_icmp .ge 20, 3) := by decide +kernel
theorem d_Store_objects_10 : decode prog_9_method_3_code 10 = .ok (.aload_n 0, 1) := by decide +kernel
theorem d_Store_objects_11 : decode prog_9_method_3_code 11 = .ok (.iload_n 2, 1) := by decide +kernel
theorem d_Store_objects_12 : decode prog_9_method_3_code 12 = .ok (.invokevirtual 54, 3) := by decide +kernel
theorem w_1244 : (Cond.methodLink "StowTongue$Store" 54 ⟨"StowTongue$Store", "isThere", "(I)Z"⟩ : Cond) ∈ am_tbl := am_w 1244 (by decide +kernel) (by decide +kernel)
theorem w_169 : (Cond.initialized "StowTongue$Store" : Cond) ∈ am_tbl := am_w 169 (by decide +kernel) (by decide +kernel)
theorem w_1247 : (Cond.code ⟨"StowTongue$Store", "isThere", "(I)Z"⟩ prog_9_method_4_code 2 (some FieldType.boolean) : Cond) ∈ am_tbl := am_w 1247 (by decide +kernel) (by decide +kernel)
theorem l_Store_54 : am_L "StowTongue$Store" 54 1 m_Store_isThere := ⟨Or.inl w_1244, w_169, w_1247, ⟨by decide, by decide⟩, by decide +kernel, by decide⟩
theorem w_1245 : (Cond.instanceMethod ⟨"StowTongue$Store", "isThere", "(I)Z"⟩ : Cond) ∈ am_tbl := am_w 1245 (by decide +kernel) (by decide +kernel)
theorem w_1246 : (Cond.selects "StowTongue$Store" ⟨"StowTongue$Store", "isThere", "(I)Z"⟩ ⟨"StowTongue$Store", "isThere", "(I)Z"⟩ : Cond) ∈ am_tbl := am_w 1246 (by decide +kernel) (by decide +kernel)
theorem d_Store_objects_15 : decode prog_9_method_3_code 15 = .ok (.ifCond .eq 6, 3) := by decide +kernel
theorem d_Store_objects_21 : decode prog_9_method_3_code 21 = .ok (.iinc 2 1, 3) := by decide +kernel
theorem d_Store_objects_24 : decode prog_9_method_3_code 24 = .ok (.goto (-20), 3) := by decide +kernel
theorem d_Store_objects_0 : decode prog_9_method_3_code 0 = .ok (.iconst 0, 1) := by decide +kernel
theorem d_Store_objects_1 : decode prog_9_method_3_code 1 = .ok (.istore_n 1, 1) := by decide +kernel
theorem d_Store_objects_2 : decode prog_9_method_3_code 2 = .ok (.iconst 0, 1) := by decide +kernel
theorem d_Store_objects_3 : decode prog_9_method_3_code 3 = .ok (.istore_n 2, 1) := by decide +kernel
theorem d_Store_objects_27 : decode prog_9_method_3_code 27 = .ok (.iload_n 1, 1) := by decide +kernel
theorem d_Store_objects_28 : decode prog_9_method_3_code 28 = .ok (.ireturn, 1) := by decide +kernel
abbrev m_Store_objectsChangedSince : am_M := (⟨"StowTongue$Store", "objectsChangedSince", "(LStowTongue$Store;)I"⟩, prog_9_method_23_code, 4, (some FieldType.int))
theorem d_Store_objectsChangedSince_4 : decode prog_9_method_23_code 4 = .ok (.iload_n 3, 1) := by decide +kernel
theorem d_Store_objectsChangedSince_5 : decode prog_9_method_23_code 5 = .ok (.bipush 100, 2) := by decide +kernel
theorem d_Store_objectsChangedSince_7 : decode prog_9_method_23_code 7 = .ok (.if_icmp .ge 29, 3) := by decide +kernel
theorem d_Store_objectsChangedSince_10 : decode prog_9_method_23_code 10 = .ok (.aload_n 0, 1) := by decide +kernel
theorem d_Store_objectsChangedSince_11 : decode prog_9_method_23_code 11 = .ok (.iload_n 3, 1) := by decide +kernel
theorem d_Store_objectsChangedSince_12 : decode prog_9_method_23_code 12 = .ok (.invokevirtual 54, 3) := by decide +kernel
theorem d_Store_objectsChangedSince_15 : decode prog_9_method_23_code 15 = .ok (.ifCond .eq 15, 3) := by decide +kernel
theorem d_Store_objectsChangedSince_30 : decode prog_9_method_23_code 30 = .ok (.iinc 3 1, 3) := by decide +kernel
theorem d_Store_objectsChangedSince_33 : decode prog_9_method_23_code 33 = .ok (.goto (-29), 3) := by decide +kernel
theorem d_Store_objectsChangedSince_0 : decode prog_9_method_23_code 0 = .ok (.iconst 0, 1) := by decide +kernel
theorem d_Store_objectsChangedSince_1 : decode prog_9_method_23_code 1 = .ok (.istore_n 2, 1) := by decide +kernel
theorem d_Store_objectsChangedSince_2 : decode prog_9_method_23_code 2 = .ok (.iconst 0, 1) := by decide +kernel
theorem d_Store_objectsChangedSince_3 : decode prog_9_method_23_code 3 = .ok (.istore_n 3, 1) := by decide +kernel
theorem d_Store_objectsChangedSince_36 : decode prog_9_method_23_code 36 = .ok (.iload_n 2, 1) := by decide +kernel
theorem d_Store_objectsChangedSince_37 : decode prog_9_method_23_code 37 = .ok (.ireturn, 1) := by decide +kernel
abbrev m_Sweep_takeUnreached : am_M := (⟨"StowTongue$Sweeper", "takeUnreached", "(LStowTongue$Store;)I"⟩, prog_10_method_5_code, 4, (some FieldType.int))
theorem d_Sweep_takeUnreached_4 : decode prog_10_method_5_code 4 = .ok (.iload_n 3, 1) := by decide +kernel
theorem d_Sweep_takeUnreached_5 : decode prog_10_method_5_code 5 = .ok (.bipush 100, 2) := by decide +kernel
theorem d_Sweep_takeUnreached_7 : decode prog_10_method_5_code 7 = .ok (.if_icmp .ge 34, 3) := by decide +kernel
theorem d_Sweep_takeUnreached_10 : decode prog_10_method_5_code 10 = .ok (.aload_n 0, 1) := by decide +kernel
theorem d_Sweep_takeUnreached_11 : decode prog_10_method_5_code 11 = .ok (.getfield 9, 3) := by decide +kernel
theorem d_Sweep_takeUnreached_14 : decode prog_10_method_5_code 14 = .ok (.iload_n 3, 1) := by decide +kernel
theorem d_Sweep_takeUnreached_15 : decode prog_10_method_5_code 15 = .ok (.baload, 1) := by decide +kernel
theorem d_Sweep_takeUnreached_16 : decode prog_10_method_5_code 16 = .ok (.ifCond .ne 19, 3) := by decide +kernel
theorem d_Sweep_takeUnreached_19 : decode prog_10_method_5_code 19 = .ok (.aload_n 1, 1) := by decide +kernel
theorem d_Sweep_takeUnreached_20 : decode prog_10_method_5_code 20 = .ok (.iload_n 3, 1) := by decide +kernel
theorem d_Sweep_takeUnreached_21 : decode prog_10_method_5_code 21 = .ok (.invokevirtual 67, 3) := by decide +kernel
theorem w_1456 : (Cond.methodLink "StowTongue$Sweeper" 67 ⟨"StowTongue$Store", "isThere", "(I)Z"⟩ : Cond) ∈ am_tbl := am_w 1456 (by decide +kernel) (by decide +kernel)
theorem l_Sweep_67 : am_L "StowTongue$Sweeper" 67 1 m_Store_isThere := ⟨Or.inl w_1456, w_169, w_1247, ⟨by decide, by decide⟩, by decide +kernel, by decide⟩
theorem d_Sweep_takeUnreached_24 : decode prog_10_method_5_code 24 = .ok (.ifCond .eq 11, 3) := by decide +kernel
theorem d_Sweep_takeUnreached_35 : decode prog_10_method_5_code 35 = .ok (.iinc 3 1, 3) := by decide +kernel
theorem d_Sweep_takeUnreached_38 : decode prog_10_method_5_code 38 = .ok (.goto (-34), 3) := by decide +kernel
theorem d_Sweep_takeUnreached_0 : decode prog_10_method_5_code 0 = .ok (.iconst 0, 1) := by decide +kernel
theorem d_Sweep_takeUnreached_1 : decode prog_10_method_5_code 1 = .ok (.istore_n 2, 1) := by decide +kernel
theorem d_Sweep_takeUnreached_2 : decode prog_10_method_5_code 2 = .ok (.iconst 0, 1) := by decide +kernel
theorem d_Sweep_takeUnreached_3 : decode prog_10_method_5_code 3 = .ok (.istore_n 3, 1) := by decide +kernel
theorem d_Sweep_takeUnreached_41 : decode prog_10_method_5_code 41 = .ok (.iload_n 2, 1) := by decide +kernel
theorem d_Sweep_takeUnreached_42 : decode prog_10_method_5_code 42 = .ok (.ireturn, 1) := by decide +kernel
abbrev m_Mod_sweep : am_M := (⟨"StowTongueModel", "sweep", "()I"⟩, prog_13_method_70_code, 4, (some FieldType.int))
theorem d_Mod_sweep_146 : decode prog_13_method_70_code 146 = .ok (.iload_n 2, 1) := by decide +kernel
theorem d_Mod_sweep_147 : decode prog_13_method_70_code 147 = .ok (.bipush 100, 2) := by decide +kernel
theorem d_Mod_sweep_149 : decode prog_13_method_70_code 149 = .ok (.if_icmp .ge 69, 3) := by decide +kernel
theorem d_Mod_sweep_152 : decode prog_13_method_70_code 152 = .ok (.aload_n 0, 1) := by decide +kernel
theorem d_Mod_sweep_153 : decode prog_13_method_70_code 153 = .ok (.getfield 349, 3) := by decide +kernel
theorem w_1572 : (Cond.fieldLink "StowTongueModel" 457 "StowTongueModel$State" "kind" "[I" : Cond) ∈ am_tbl := am_w 1572 (by decide +kernel) (by decide +kernel)
theorem f_Mod_457 : am_F "StowTongueModel" 457 13 0 := ⟨_, rfl, cl_13, by decide, Or.inl w_1572⟩
theorem d_Mod_sweep_156 : decode prog_13_method_70_code 156 = .ok (.getfield 457, 3) := by decide +kernel
theorem d_Mod_sweep_159 : decode prog_13_method_70_code 159 = .ok (.iload_n 2, 1) := by decide +kernel
theorem d_Mod_sweep_160 : decode prog_13_method_70_code 160 = .ok (.iaload, 1) := by decide +kernel
theorem d_Mod_sweep_161 : decode prog_13_method_70_code 161 = .ok (.ifCond .eq 51, 3) := by decide +kernel
theorem d_Mod_sweep_212 : decode prog_13_method_70_code 212 = .ok (.iinc 2 1, 3) := by decide +kernel
theorem d_Mod_sweep_215 : decode prog_13_method_70_code 215 = .ok (.goto (-69), 3) := by decide +kernel
abbrev m_Mod_run : am_M := (⟨"StowTongueModel", "run", "(I)I"⟩, prog_13_method_42_code, 6, (some FieldType.int))
theorem d_Mod_run_105 : decode prog_13_method_42_code 105 = .ok (.iload 4, 2) := by decide +kernel
theorem d_Mod_run_107 : decode prog_13_method_42_code 107 = .ok (.bipush 100, 2) := by decide +kernel
theorem d_Mod_run_109 : decode prog_13_method_42_code 109 = .ok (.if_icmp .ge 54, 3) := by decide +kernel
theorem d_Mod_run_112 : decode prog_13_method_42_code 112 = .ok (.aload_n 0, 1) := by decide +kernel
theorem d_Mod_run_113 : decode prog_13_method_42_code 113 = .ok (.getfield 353, 3) := by decide +kernel
theorem d_Mod_run_116 : decode prog_13_method_42_code 116 = .ok (.getfield 457, 3) := by decide +kernel
theorem d_Mod_run_119 : decode prog_13_method_42_code 119 = .ok (.iload 4, 2) := by decide +kernel
theorem d_Mod_run_121 : decode prog_13_method_42_code 121 = .ok (.iaload, 1) := by decide +kernel
theorem d_Mod_run_122 : decode prog_13_method_42_code 122 = .ok (.ifCond .eq 35, 3) := by decide +kernel
theorem d_Mod_run_157 : decode prog_13_method_42_code 157 = .ok (.iinc 4 1, 3) := by decide +kernel
theorem d_Mod_run_160 : decode prog_13_method_42_code 160 = .ok (.goto (-55), 3) := by decide +kernel
abbrev m_Sweep_clean : am_M := (⟨"StowTongue$Sweeper", "clean", "(LStowTongue$Store;)I"⟩, prog_10_method_2_code, 3, (some FieldType.int))
theorem d_Sweep_clean_2 : decode prog_10_method_2_code 2 = .ok (.iload_n 2, 1) := by decide +kernel
theorem d_Sweep_clean_3 : decode prog_10_method_2_code 3 = .ok (.bipush 100, 2) := by decide +kernel
theorem d_Sweep_clean_5 : decode prog_10_method_2_code 5 = .ok (.if_icmp .ge 16, 3) := by decide +kernel
theorem d_Sweep_clean_8 : decode prog_10_method_2_code 8 = .ok (.aload_n 0, 1) := by decide +kernel
theorem d_Sweep_clean_9 : decode prog_10_method_2_code 9 = .ok (.getfield 9, 3) := by decide +kernel
theorem d_Sweep_clean_12 : decode prog_10_method_2_code 12 = .ok (.iload_n 2, 1) := by decide +kernel
theorem d_Sweep_clean_13 : decode prog_10_method_2_code 13 = .ok (.iconst 0, 1) := by decide +kernel
theorem d_Sweep_clean_14 : decode prog_10_method_2_code 14 = .ok (.bastore, 1) := by decide +kernel
theorem d_Sweep_clean_15 : decode prog_10_method_2_code 15 = .ok (.iinc 2 1, 3) := by decide +kernel
theorem d_Sweep_clean_18 : decode prog_10_method_2_code 18 = .ok (.goto (-16), 3) := by decide +kernel
abbrev m_Stow_value : am_M := (⟨"StowTongue", "value", "()J"⟩, prog_1_method_7_code, 1, (some FieldType.long))
theorem d_Stow_value_0 : decode prog_1_method_7_code 0 = .ok (.aload_n 0, 1) := by decide +kernel
theorem w_502 : (Cond.fieldLink "StowTongue" 93 "StowTongue" "valueHead" "J" : Cond) ∈ am_tbl := am_w 502 (by decide +kernel) (by decide +kernel)
theorem f_Stow_93 : am_F "StowTongue" 93 9 7 := ⟨_, rfl, cl_9, by decide, Or.inl w_502⟩
theorem d_Stow_value_1 : decode prog_1_method_7_code 1 = .ok (.getfield 93, 3) := by decide +kernel
abbrev m_Cell_sortOf : am_M := (⟨"StowTongue$Cell", "sortOf", "(J)I"⟩, prog_2_method_3_code, 2, (some FieldType.int))
theorem d_Cell_sortOf_0 : decode prog_2_method_3_code 0 = .ok (.lload_n 0, 1) := by decide +kernel
theorem d_Cell_sortOf_1 : decode prog_2_method_3_code 1 = .ok (.bipush 56, 2) := by decide +kernel
theorem d_Cell_sortOf_3 : decode prog_2_method_3_code 3 = .ok (.lushr, 1) := by decide +kernel
theorem d_Cell_sortOf_4 : decode prog_2_method_3_code 4 = .ok (.l2i, 1) := by decide +kernel
theorem d_Cell_sortOf_5 : decode prog_2_method_3_code 5 = .ok (.ireturn, 1) := by decide +kernel
theorem w_1374 : (Cond.methodLink "StowTongue" 116 ⟨"StowTongue$Cell", "sortOf", "(J)I"⟩ : Cond) ∈ am_tbl := am_w 1374 (by decide +kernel) (by decide +kernel)
theorem w_1105 : (Cond.code ⟨"StowTongue$Cell", "sortOf", "(J)I"⟩ prog_2_method_3_code 2 (some FieldType.int) : Cond) ∈ am_tbl := am_w 1105 (by decide +kernel) (by decide +kernel)
theorem l_Stow_116 : am_L "StowTongue" 116 1 m_Cell_sortOf := ⟨Or.inl w_1374, w_151, w_1105, ⟨by decide, by decide⟩, by decide +kernel, by decide⟩
theorem w_1104 : (Cond.static ⟨"StowTongue$Cell", "sortOf", "(J)I"⟩ : Cond) ∈ am_tbl := am_w 1104 (by decide +kernel) (by decide +kernel)
theorem d_Stow_value_4 : decode prog_1_method_7_code 4 = .ok (.invokestatic 116, 3) := by decide +kernel
theorem d_Stow_value_7 : decode prog_1_method_7_code 7 = .ok (.iconst 2, 1) := by decide +kernel
theorem d_Stow_value_8 : decode prog_1_method_7_code 8 = .ok (.if_icmp .ne 25, 3) := by decide +kernel
theorem d_Stow_value_33 : decode prog_1_method_7_code 33 = .ok (.aload_n 0, 1) := by decide +kernel
theorem d_Stow_value_34 : decode prog_1_method_7_code 34 = .ok (.getfield 93, 3) := by decide +kernel
theorem d_Stow_value_37 : decode prog_1_method_7_code 37 = .ok (.aload_n 0, 1) := by decide +kernel
theorem w_503 : (Cond.fieldLink "StowTongue" 100 "StowTongue" "valueTail" "J" : Cond) ∈ am_tbl := am_w 503 (by decide +kernel) (by decide +kernel)
theorem f_Stow_100 : am_F "StowTongue" 100 9 8 := ⟨_, rfl, cl_9, by decide, Or.inl w_503⟩
theorem d_Stow_value_38 : decode prog_1_method_7_code 38 = .ok (.getfield 100, 3) := by decide +kernel
abbrev m_Stow_asAnswer : am_M := (⟨"StowTongue", "asAnswer", "(JJ)J"⟩, prog_1_method_8_code, 4, (some FieldType.long))
theorem d_Stow_asAnswer_0 : decode prog_1_method_8_code 0 = .ok (.lload_n 0, 1) := by decide +kernel
theorem d_Stow_asAnswer_1 : decode prog_1_method_8_code 1 = .ok (.invokestatic 116, 3) := by decide +kernel
theorem d_Stow_asAnswer_4 : decode prog_1_method_8_code 4 = .ok (.tableswitch 46 1 4 #[32, 34, 38, 42], 32) := by decide +kernel
theorem d_Stow_asAnswer_50 : decode prog_1_method_8_code 50 = .ok (.ldc2_w 136, 3) := by decide +kernel
theorem w_1382 : (Cond.constantLong "StowTongue" 136 1099511627776 : Cond) ∈ am_tbl := am_w 1382 (by decide +kernel) (by decide +kernel)
theorem d_Stow_asAnswer_53 : decode prog_1_method_8_code 53 = .ok (.lreturn, 1) := by decide +kernel
theorem w_1376 : (Cond.methodLink "StowTongue" 126 ⟨"StowTongue", "asAnswer", "(JJ)J"⟩ : Cond) ∈ am_tbl := am_w 1376 (by decide +kernel) (by decide +kernel)
theorem w_143 : (Cond.initialized "StowTongue" : Cond) ∈ am_tbl := am_w 143 (by decide +kernel) (by decide +kernel)
theorem w_1378 : (Cond.code ⟨"StowTongue", "asAnswer", "(JJ)J"⟩ prog_1_method_8_code 4 (some FieldType.long) : Cond) ∈ am_tbl := am_w 1378 (by decide +kernel) (by decide +kernel)
theorem l_Stow_126 : am_L "StowTongue" 126 2 m_Stow_asAnswer := ⟨Or.inl w_1376, w_143, w_1378, ⟨by decide, by decide⟩, by decide +kernel, by decide⟩
theorem w_1377 : (Cond.static ⟨"StowTongue", "asAnswer", "(JJ)J"⟩ : Cond) ∈ am_tbl := am_w 1377 (by decide +kernel) (by decide +kernel)
theorem d_Stow_value_41 : decode prog_1_method_7_code 41 = .ok (.invokestatic 126, 3) := by decide +kernel
theorem d_Stow_value_44 : decode prog_1_method_7_code 44 = .ok (.lreturn, 1) := by decide +kernel
abbrev m_Mod_value_ : am_M := (⟨"StowTongueModel", "value", "()J"⟩, prog_13_method_71_code, 2, (some FieldType.long))
theorem d_Mod_value__0 : decode prog_13_method_71_code 0 = .ok (.aload_n 0, 1) := by decide +kernel
theorem d_Mod_value__1 : decode prog_13_method_71_code 1 = .ok (.getfield 374, 3) := by decide +kernel
theorem w_1503 : (Cond.fieldLink "StowTongueModel" 515 "StowTongueModel$Values" "kind" "[I" : Cond) ∈ am_tbl := am_w 1503 (by decide +kernel) (by decide +kernel)
theorem f_Mod_515 : am_F "StowTongueModel" 515 11 0 := ⟨_, rfl, cl_11, by decide, Or.inl w_1503⟩
theorem d_Mod_value__4 : decode prog_13_method_71_code 4 = .ok (.getfield 515, 3) := by decide +kernel
theorem d_Mod_value__7 : decode prog_13_method_71_code 7 = .ok (.iconst 0, 1) := by decide +kernel
theorem d_Mod_value__8 : decode prog_13_method_71_code 8 = .ok (.iaload, 1) := by decide +kernel
theorem d_Mod_value__9 : decode prog_13_method_71_code 9 = .ok (.tableswitch 93 0 3 #[31, 35, 45, 89], 31) := by decide +kernel
theorem d_Mod_value__40 : decode prog_13_method_71_code 40 = .ok (.ldc2_w 50, 3) := by decide +kernel
theorem w_1823 : (Cond.constantLong "StowTongueModel" 50 1099511627776 : Cond) ∈ am_tbl := am_w 1823 (by decide +kernel) (by decide +kernel)
theorem d_Mod_value__43 : decode prog_13_method_71_code 43 = .ok (.lreturn, 1) := by decide +kernel
abbrev m_Stow_sync : am_M := (⟨"StowTongue", "sync", "()I"⟩, prog_1_method_11_code, 2, (some FieldType.int))
theorem d_Stow_sync_0 : decode prog_1_method_11_code 0 = .ok (.aload_n 0, 1) := by decide +kernel
theorem d_Stow_sync_1 : decode prog_1_method_11_code 1 = .ok (.getfield 37, 3) := by decide +kernel
abbrev m_Log_waiting : am_M := (⟨"StowTongue$Log", "waiting", "()I"⟩, prog_5_method_11_code, 1, (some FieldType.int))
theorem d_Log_waiting_0 : decode prog_5_method_11_code 0 = .ok (.aload_n 0, 1) := by decide +kernel
theorem w_467 : (Cond.fieldLink "StowTongue$Log" 27 "StowTongue$Log" "waiting" "I" : Cond) ∈ am_tbl := am_w 467 (by decide +kernel) (by decide +kernel)
theorem f_Log_27 : am_F "StowTongue$Log" 27 7 2 := ⟨_, rfl, cl_7, by decide, Or.inl w_467⟩
theorem d_Log_waiting_1 : decode prog_5_method_11_code 1 = .ok (.getfield 27, 3) := by decide +kernel
theorem d_Log_waiting_4 : decode prog_5_method_11_code 4 = .ok (.ireturn, 1) := by decide +kernel
theorem w_1409 : (Cond.methodLink "StowTongue" 169 ⟨"StowTongue$Log", "waiting", "()I"⟩ : Cond) ∈ am_tbl := am_w 1409 (by decide +kernel) (by decide +kernel)
theorem w_1412 : (Cond.code ⟨"StowTongue$Log", "waiting", "()I"⟩ prog_5_method_11_code 1 (some FieldType.int) : Cond) ∈ am_tbl := am_w 1412 (by decide +kernel) (by decide +kernel)
theorem l_Stow_169 : am_L "StowTongue" 169 0 m_Log_waiting := ⟨Or.inl w_1409, w_158, w_1412, ⟨by decide, by decide⟩, by decide +kernel, by decide⟩
theorem w_1410 : (Cond.instanceMethod ⟨"StowTongue$Log", "waiting", "()I"⟩ : Cond) ∈ am_tbl := am_w 1410 (by decide +kernel) (by decide +kernel)
theorem w_1411 : (Cond.selects "StowTongue$Log" ⟨"StowTongue$Log", "waiting", "()I"⟩ ⟨"StowTongue$Log", "waiting", "()I"⟩ : Cond) ∈ am_tbl := am_w 1411 (by decide +kernel) (by decide +kernel)
theorem d_Stow_sync_4 : decode prog_1_method_11_code 4 = .ok (.invokevirtual 169, 3) := by decide +kernel
theorem d_Stow_sync_7 : decode prog_1_method_11_code 7 = .ok (.istore_n 1, 1) := by decide +kernel
theorem d_Stow_sync_8 : decode prog_1_method_11_code 8 = .ok (.aload_n 0, 1) := by decide +kernel
theorem d_Stow_sync_9 : decode prog_1_method_11_code 9 = .ok (.getfield 37, 3) := by decide +kernel
theorem d_Stow_sync_12 : decode prog_1_method_11_code 12 = .ok (.iload_n 1, 1) := by decide +kernel
abbrev m_Log_settle : am_M := (⟨"StowTongue$Log", "settle", "(I)V"⟩, prog_5_method_7_code, 3, none)
theorem d_Log_settle_0 : decode prog_5_method_7_code 0 = .ok (.iconst 0, 1) := by decide +kernel
theorem d_Log_settle_1 : decode prog_5_method_7_code 1 = .ok (.istore_n 2, 1) := by decide +kernel
theorem d_Log_settle_2 : decode prog_5_method_7_code 2 = .ok (.iload_n 2, 1) := by decide +kernel
theorem d_Log_settle_3 : decode prog_5_method_7_code 3 = .ok (.iload_n 1, 1) := by decide +kernel
theorem d_Log_settle_4 : decode prog_5_method_7_code 4 = .ok (.if_icmp .ge 20, 3) := by decide +kernel
theorem d_Log_settle_24 : decode prog_5_method_7_code 24 = .ok (.return_, 1) := by decide +kernel
theorem w_1413 : (Cond.methodLink "StowTongue" 172 ⟨"StowTongue$Log", "settle", "(I)V"⟩ : Cond) ∈ am_tbl := am_w 1413 (by decide +kernel) (by decide +kernel)
theorem w_1365 : (Cond.code ⟨"StowTongue$Log", "settle", "(I)V"⟩ prog_5_method_7_code 3 none : Cond) ∈ am_tbl := am_w 1365 (by decide +kernel) (by decide +kernel)
theorem l_Stow_172 : am_L "StowTongue" 172 1 m_Log_settle := ⟨Or.inl w_1413, w_158, w_1365, ⟨by decide, by decide⟩, by decide +kernel, by decide⟩
theorem w_1363 : (Cond.instanceMethod ⟨"StowTongue$Log", "settle", "(I)V"⟩ : Cond) ∈ am_tbl := am_w 1363 (by decide +kernel) (by decide +kernel)
theorem w_1364 : (Cond.selects "StowTongue$Log" ⟨"StowTongue$Log", "settle", "(I)V"⟩ ⟨"StowTongue$Log", "settle", "(I)V"⟩ : Cond) ∈ am_tbl := am_w 1364 (by decide +kernel) (by decide +kernel)
theorem d_Stow_sync_13 : decode prog_1_method_11_code 13 = .ok (.invokevirtual 172, 3) := by decide +kernel
theorem d_Stow_sync_16 : decode prog_1_method_11_code 16 = .ok (.iload_n 1, 1) := by decide +kernel
theorem d_Stow_sync_17 : decode prog_1_method_11_code 17 = .ok (.ireturn, 1) := by decide +kernel
abbrev m_Mod_sync : am_M := (⟨"StowTongueModel", "sync", "()I"⟩, prog_13_method_67_code, 2, (some FieldType.int))
theorem d_Mod_sync_0 : decode prog_13_method_67_code 0 = .ok (.aload_n 0, 1) := by decide +kernel
theorem w_1656 : (Cond.fieldLink "StowTongueModel" 409 "StowTongueModel" "waits" "I" : Cond) ∈ am_tbl := am_w 1656 (by decide +kernel) (by decide +kernel)
theorem f_Mod_409 : am_F "StowTongueModel" 409 14 34 := ⟨_, rfl, cl_14, by decide, Or.inl w_1656⟩
theorem d_Mod_sync_1 : decode prog_13_method_67_code 1 = .ok (.getfield 409, 3) := by decide +kernel
theorem d_Mod_sync_4 : decode prog_13_method_67_code 4 = .ok (.istore_n 1, 1) := by decide +kernel
theorem d_Mod_sync_5 : decode prog_13_method_67_code 5 = .ok (.aload_n 0, 1) := by decide +kernel
theorem d_Mod_sync_6 : decode prog_13_method_67_code 6 = .ok (.getfield 356, 3) := by decide +kernel
theorem d_Mod_sync_9 : decode prog_13_method_67_code 9 = .ok (.aload_n 0, 1) := by decide +kernel
theorem d_Mod_sync_10 : decode prog_13_method_67_code 10 = .ok (.getfield 349, 3) := by decide +kernel
abbrev m_State_copy : am_M := (⟨"StowTongueModel$State", "copy", "(LStowTongueModel$State;)V"⟩, prog_15_method_2_code, 3, none)
theorem d_State_copy_0 : decode prog_15_method_2_code 0 = .ok (.aload_n 1, 1) := by decide +kernel
theorem d_State_copy_1 : decode prog_15_method_2_code 1 = .ok (.getfield 9, 3) := by decide +kernel
theorem d_State_copy_4 : decode prog_15_method_2_code 4 = .ok (.iconst 0, 1) := by decide +kernel
theorem d_State_copy_5 : decode prog_15_method_2_code 5 = .ok (.aload_n 0, 1) := by decide +kernel
theorem d_State_copy_6 : decode prog_15_method_2_code 6 = .ok (.getfield 9, 3) := by decide +kernel
theorem d_State_copy_9 : decode prog_15_method_2_code 9 = .ok (.iconst 0, 1) := by decide +kernel
theorem d_State_copy_10 : decode prog_15_method_2_code 10 = .ok (.bipush 100, 2) := by decide +kernel
theorem w_1990 : (Cond.methodLink "StowTongueModel$State" 46 ⟨"java/lang/System", "arraycopy", "(Ljava/lang/Object;ILjava/lang/Object;II)V"⟩ : Cond) ∈ am_tbl := am_w 1990 (by decide +kernel) (by decide +kernel)
theorem w_735 : (Cond.native ⟨"java/lang/System", "arraycopy", "(Ljava/lang/Object;ILjava/lang/Object;II)V"⟩ : Cond) ∈ am_tbl := am_w 735 (by decide +kernel) (by decide +kernel)
theorem w_734 : (Cond.static ⟨"java/lang/System", "arraycopy", "(Ljava/lang/Object;ILjava/lang/Object;II)V"⟩ : Cond) ∈ am_tbl := am_w 734 (by decide +kernel) (by decide +kernel)
theorem w_167 : (Cond.initialized "java/lang/System" : Cond) ∈ am_tbl := am_w 167 (by decide +kernel) (by decide +kernel)
theorem d_State_copy_12 : decode prog_15_method_2_code 12 = .ok (.invokestatic 46, 3) := by decide +kernel
theorem d_State_copy_15 : decode prog_15_method_2_code 15 = .ok (.aload_n 1, 1) := by decide +kernel
theorem d_State_copy_16 : decode prog_15_method_2_code 16 = .ok (.getfield 15, 3) := by decide +kernel
theorem d_State_copy_19 : decode prog_15_method_2_code 19 = .ok (.iconst 0, 1) := by decide +kernel
theorem d_State_copy_20 : decode prog_15_method_2_code 20 = .ok (.aload_n 0, 1) := by decide +kernel
theorem d_State_copy_21 : decode prog_15_method_2_code 21 = .ok (.getfield 15, 3) := by decide +kernel
theorem d_State_copy_24 : decode prog_15_method_2_code 24 = .ok (.iconst 0, 1) := by decide +kernel
theorem d_State_copy_25 : decode prog_15_method_2_code 25 = .ok (.bipush 100, 2) := by decide +kernel
theorem d_State_copy_27 : decode prog_15_method_2_code 27 = .ok (.invokestatic 46, 3) := by decide +kernel
theorem d_State_copy_30 : decode prog_15_method_2_code 30 = .ok (.aload_n 1, 1) := by decide +kernel
theorem d_State_copy_31 : decode prog_15_method_2_code 31 = .ok (.getfield 18, 3) := by decide +kernel
theorem d_State_copy_34 : decode prog_15_method_2_code 34 = .ok (.iconst 0, 1) := by decide +kernel
theorem d_State_copy_35 : decode prog_15_method_2_code 35 = .ok (.aload_n 0, 1) := by decide +kernel
theorem d_State_copy_36 : decode prog_15_method_2_code 36 = .ok (.getfield 18, 3) := by decide +kernel
theorem d_State_copy_39 : decode prog_15_method_2_code 39 = .ok (.iconst 0, 1) := by decide +kernel
theorem d_State_copy_40 : decode prog_15_method_2_code 40 = .ok (.sipush 800, 3) := by decide +kernel
theorem d_State_copy_43 : decode prog_15_method_2_code 43 = .ok (.invokestatic 46, 3) := by decide +kernel
theorem d_State_copy_46 : decode prog_15_method_2_code 46 = .ok (.aload_n 1, 1) := by decide +kernel
theorem d_State_copy_47 : decode prog_15_method_2_code 47 = .ok (.getfield 33, 3) := by decide +kernel
theorem w_1502 : (Cond.fieldLink "StowTongueModel$State" 52 "StowTongueModel$Values" "kind" "[I" : Cond) ∈ am_tbl := am_w 1502 (by decide +kernel) (by decide +kernel)
theorem f_State_52 : am_F "StowTongueModel$State" 52 11 0 := ⟨_, rfl, cl_11, by decide, Or.inl w_1502⟩
theorem d_State_copy_50 : decode prog_15_method_2_code 50 = .ok (.getfield 52, 3) := by decide +kernel
theorem d_State_copy_53 : decode prog_15_method_2_code 53 = .ok (.iconst 0, 1) := by decide +kernel
theorem d_State_copy_54 : decode prog_15_method_2_code 54 = .ok (.aload_n 0, 1) := by decide +kernel
theorem d_State_copy_55 : decode prog_15_method_2_code 55 = .ok (.getfield 33, 3) := by decide +kernel
theorem d_State_copy_58 : decode prog_15_method_2_code 58 = .ok (.getfield 52, 3) := by decide +kernel
theorem d_State_copy_61 : decode prog_15_method_2_code 61 = .ok (.iconst 0, 1) := by decide +kernel
theorem d_State_copy_62 : decode prog_15_method_2_code 62 = .ok (.sipush 2000, 3) := by decide +kernel
theorem d_State_copy_65 : decode prog_15_method_2_code 65 = .ok (.invokestatic 46, 3) := by decide +kernel
theorem d_State_copy_68 : decode prog_15_method_2_code 68 = .ok (.aload_n 1, 1) := by decide +kernel
theorem d_State_copy_69 : decode prog_15_method_2_code 69 = .ok (.getfield 33, 3) := by decide +kernel
theorem w_1505 : (Cond.fieldLink "StowTongueModel$State" 53 "StowTongueModel$Values" "size" "[I" : Cond) ∈ am_tbl := am_w 1505 (by decide +kernel) (by decide +kernel)
theorem f_State_53 : am_F "StowTongueModel$State" 53 11 1 := ⟨_, rfl, cl_11, by decide, Or.inl w_1505⟩
theorem d_State_copy_72 : decode prog_15_method_2_code 72 = .ok (.getfield 53, 3) := by decide +kernel
theorem d_State_copy_75 : decode prog_15_method_2_code 75 = .ok (.iconst 0, 1) := by decide +kernel
theorem d_State_copy_76 : decode prog_15_method_2_code 76 = .ok (.aload_n 0, 1) := by decide +kernel
theorem d_State_copy_77 : decode prog_15_method_2_code 77 = .ok (.getfield 33, 3) := by decide +kernel
theorem d_State_copy_80 : decode prog_15_method_2_code 80 = .ok (.getfield 53, 3) := by decide +kernel
theorem d_State_copy_83 : decode prog_15_method_2_code 83 = .ok (.iconst 0, 1) := by decide +kernel
theorem d_State_copy_84 : decode prog_15_method_2_code 84 = .ok (.sipush 2000, 3) := by decide +kernel
theorem d_State_copy_87 : decode prog_15_method_2_code 87 = .ok (.invokestatic 46, 3) := by decide +kernel
theorem d_State_copy_90 : decode prog_15_method_2_code 90 = .ok (.aload_n 1, 1) := by decide +kernel
theorem d_State_copy_91 : decode prog_15_method_2_code 91 = .ok (.getfield 33, 3) := by decide +kernel
theorem w_1508 : (Cond.fieldLink "StowTongueModel$State" 54 "StowTongueModel$Values" "one" "[J" : Cond) ∈ am_tbl := am_w 1508 (by decide +kernel) (by decide +kernel)
theorem f_State_54 : am_F "StowTongueModel$State" 54 11 2 := ⟨_, rfl, cl_11, by decide, Or.inl w_1508⟩
theorem d_State_copy_94 : decode prog_15_method_2_code 94 = .ok (.getfield 54, 3) := by decide +kernel
theorem d_State_copy_97 : decode prog_15_method_2_code 97 = .ok (.iconst 0, 1) := by decide +kernel
theorem d_State_copy_98 : decode prog_15_method_2_code 98 = .ok (.aload_n 0, 1) := by decide +kernel
theorem d_State_copy_99 : decode prog_15_method_2_code 99 = .ok (.getfield 33, 3) := by decide +kernel
theorem d_State_copy_102 : decode prog_15_method_2_code 102 = .ok (.getfield 54, 3) := by decide +kernel
theorem d_State_copy_105 : decode prog_15_method_2_code 105 = .ok (.iconst 0, 1) := by decide +kernel
theorem d_State_copy_106 : decode prog_15_method_2_code 106 = .ok (.sipush 2000, 3) := by decide +kernel
theorem d_State_copy_109 : decode prog_15_method_2_code 109 = .ok (.invokestatic 46, 3) := by decide +kernel
theorem d_State_copy_112 : decode prog_15_method_2_code 112 = .ok (.aload_n 1, 1) := by decide +kernel
theorem d_State_copy_113 : decode prog_15_method_2_code 113 = .ok (.getfield 33, 3) := by decide +kernel
theorem w_1511 : (Cond.fieldLink "StowTongueModel$State" 57 "StowTongueModel$Values" "two" "[J" : Cond) ∈ am_tbl := am_w 1511 (by decide +kernel) (by decide +kernel)
theorem f_State_57 : am_F "StowTongueModel$State" 57 11 3 := ⟨_, rfl, cl_11, by decide, Or.inl w_1511⟩
theorem d_State_copy_116 : decode prog_15_method_2_code 116 = .ok (.getfield 57, 3) := by decide +kernel
theorem d_State_copy_119 : decode prog_15_method_2_code 119 = .ok (.iconst 0, 1) := by decide +kernel
theorem d_State_copy_120 : decode prog_15_method_2_code 120 = .ok (.aload_n 0, 1) := by decide +kernel
theorem d_State_copy_121 : decode prog_15_method_2_code 121 = .ok (.getfield 33, 3) := by decide +kernel
theorem d_State_copy_124 : decode prog_15_method_2_code 124 = .ok (.getfield 57, 3) := by decide +kernel
theorem d_State_copy_127 : decode prog_15_method_2_code 127 = .ok (.iconst 0, 1) := by decide +kernel
theorem d_State_copy_128 : decode prog_15_method_2_code 128 = .ok (.sipush 2000, 3) := by decide +kernel
theorem d_State_copy_131 : decode prog_15_method_2_code 131 = .ok (.invokestatic 46, 3) := by decide +kernel
theorem d_State_copy_134 : decode prog_15_method_2_code 134 = .ok (.aload_n 1, 1) := by decide +kernel
theorem d_State_copy_135 : decode prog_15_method_2_code 135 = .ok (.getfield 22, 3) := by decide +kernel
theorem d_State_copy_138 : decode prog_15_method_2_code 138 = .ok (.iconst 0, 1) := by decide +kernel
theorem d_State_copy_139 : decode prog_15_method_2_code 139 = .ok (.aload_n 0, 1) := by decide +kernel
theorem d_State_copy_140 : decode prog_15_method_2_code 140 = .ok (.getfield 22, 3) := by decide +kernel
theorem d_State_copy_143 : decode prog_15_method_2_code 143 = .ok (.iconst 0, 1) := by decide +kernel
theorem d_State_copy_144 : decode prog_15_method_2_code 144 = .ok (.bipush 12, 2) := by decide +kernel
theorem d_State_copy_146 : decode prog_15_method_2_code 146 = .ok (.invokestatic 46, 3) := by decide +kernel
theorem d_State_copy_149 : decode prog_15_method_2_code 149 = .ok (.iconst 0, 1) := by decide +kernel
theorem d_State_copy_150 : decode prog_15_method_2_code 150 = .ok (.istore_n 2, 1) := by decide +kernel
theorem d_State_copy_151 : decode prog_15_method_2_code 151 = .ok (.iload_n 2, 1) := by decide +kernel
theorem d_State_copy_152 : decode prog_15_method_2_code 152 = .ok (.aload_n 1, 1) := by decide +kernel
theorem w_1589 : (Cond.fieldLink "StowTongueModel$State" 60 "StowTongueModel$State" "roots" "I" : Cond) ∈ am_tbl := am_w 1589 (by decide +kernel) (by decide +kernel)
theorem f_State_60 : am_F "StowTongueModel$State" 60 13 9 := ⟨_, rfl, cl_13, by decide, Or.inl w_1589⟩
theorem d_State_copy_153 : decode prog_15_method_2_code 153 = .ok (.getfield 60, 3) := by decide +kernel
theorem d_State_copy_156 : decode prog_15_method_2_code 156 = .ok (.if_icmp .ge 22, 3) := by decide +kernel
theorem d_State_copy_178 : decode prog_15_method_2_code 178 = .ok (.aload_n 1, 1) := by decide +kernel
theorem d_State_copy_179 : decode prog_15_method_2_code 179 = .ok (.getfield 25, 3) := by decide +kernel
theorem d_State_copy_182 : decode prog_15_method_2_code 182 = .ok (.iconst 0, 1) := by decide +kernel
theorem d_State_copy_183 : decode prog_15_method_2_code 183 = .ok (.aload_n 0, 1) := by decide +kernel
theorem d_State_copy_184 : decode prog_15_method_2_code 184 = .ok (.getfield 25, 3) := by decide +kernel
theorem d_State_copy_187 : decode prog_15_method_2_code 187 = .ok (.iconst 0, 1) := by decide +kernel
theorem d_State_copy_188 : decode prog_15_method_2_code 188 = .ok (.bipush 10, 2) := by decide +kernel
theorem d_State_copy_190 : decode prog_15_method_2_code 190 = .ok (.invokestatic 46, 3) := by decide +kernel
theorem d_State_copy_193 : decode prog_15_method_2_code 193 = .ok (.aload_n 1, 1) := by decide +kernel
theorem d_State_copy_194 : decode prog_15_method_2_code 194 = .ok (.getfield 42, 3) := by decide +kernel
theorem d_State_copy_197 : decode prog_15_method_2_code 197 = .ok (.iconst 0, 1) := by decide +kernel
theorem d_State_copy_198 : decode prog_15_method_2_code 198 = .ok (.aload_n 0, 1) := by decide +kernel
theorem d_State_copy_199 : decode prog_15_method_2_code 199 = .ok (.getfield 42, 3) := by decide +kernel
theorem d_State_copy_202 : decode prog_15_method_2_code 202 = .ok (.iconst 0, 1) := by decide +kernel
theorem d_State_copy_203 : decode prog_15_method_2_code 203 = .ok (.bipush 10, 2) := by decide +kernel
theorem d_State_copy_205 : decode prog_15_method_2_code 205 = .ok (.invokestatic 46, 3) := by decide +kernel
theorem d_State_copy_208 : decode prog_15_method_2_code 208 = .ok (.aload_n 0, 1) := by decide +kernel
theorem d_State_copy_209 : decode prog_15_method_2_code 209 = .ok (.aload_n 1, 1) := by decide +kernel
theorem w_1587 : (Cond.fieldLink "StowTongueModel$State" 68 "StowTongueModel$State" "objects" "I" : Cond) ∈ am_tbl := am_w 1587 (by decide +kernel) (by decide +kernel)
theorem f_State_68 : am_F "StowTongueModel$State" 68 13 8 := ⟨_, rfl, cl_13, by decide, Or.inl w_1587⟩
theorem d_State_copy_210 : decode prog_15_method_2_code 210 = .ok (.getfield 68, 3) := by decide +kernel
theorem d_State_copy_213 : decode prog_15_method_2_code 213 = .ok (.putfield 68, 3) := by decide +kernel
theorem d_State_copy_216 : decode prog_15_method_2_code 216 = .ok (.aload_n 0, 1) := by decide +kernel
theorem d_State_copy_217 : decode prog_15_method_2_code 217 = .ok (.aload_n 1, 1) := by decide +kernel
theorem d_State_copy_218 : decode prog_15_method_2_code 218 = .ok (.getfield 60, 3) := by decide +kernel
theorem d_State_copy_221 : decode prog_15_method_2_code 221 = .ok (.putfield 60, 3) := by decide +kernel
theorem d_State_copy_224 : decode prog_15_method_2_code 224 = .ok (.aload_n 0, 1) := by decide +kernel
theorem d_State_copy_225 : decode prog_15_method_2_code 225 = .ok (.aload_n 1, 1) := by decide +kernel
theorem w_1591 : (Cond.fieldLink "StowTongueModel$State" 71 "StowTongueModel$State" "functions" "I" : Cond) ∈ am_tbl := am_w 1591 (by decide +kernel) (by decide +kernel)
theorem f_State_71 : am_F "StowTongueModel$State" 71 13 10 := ⟨_, rfl, cl_13, by decide, Or.inl w_1591⟩
theorem d_State_copy_226 : decode prog_15_method_2_code 226 = .ok (.getfield 71, 3) := by decide +kernel
theorem d_State_copy_229 : decode prog_15_method_2_code 229 = .ok (.putfield 71, 3) := by decide +kernel
theorem d_State_copy_232 : decode prog_15_method_2_code 232 = .ok (.return_, 1) := by decide +kernel
theorem w_1986 : (Cond.methodLink "StowTongueModel" 448 ⟨"StowTongueModel$State", "copy", "(LStowTongueModel$State;)V"⟩ : Cond) ∈ am_tbl := am_w 1986 (by decide +kernel) (by decide +kernel)
theorem w_1989 : (Cond.code ⟨"StowTongueModel$State", "copy", "(LStowTongueModel$State;)V"⟩ prog_15_method_2_code 3 none : Cond) ∈ am_tbl := am_w 1989 (by decide +kernel) (by decide +kernel)
theorem l_Mod_448 : am_L "StowTongueModel" 448 1 m_State_copy := ⟨Or.inl w_1986, w_163, w_1989, ⟨by decide, by decide⟩, by decide +kernel, by decide⟩
theorem w_1987 : (Cond.instanceMethod ⟨"StowTongueModel$State", "copy", "(LStowTongueModel$State;)V"⟩ : Cond) ∈ am_tbl := am_w 1987 (by decide +kernel) (by decide +kernel)
theorem w_1988 : (Cond.selects "StowTongueModel$State" ⟨"StowTongueModel$State", "copy", "(LStowTongueModel$State;)V"⟩ ⟨"StowTongueModel$State", "copy", "(LStowTongueModel$State;)V"⟩ : Cond) ∈ am_tbl := am_w 1988 (by decide +kernel) (by decide +kernel)
theorem d_Mod_sync_13 : decode prog_13_method_67_code 13 = .ok (.invokevirtual 448, 3) := by decide +kernel
theorem d_Mod_sync_16 : decode prog_13_method_67_code 16 = .ok (.aload_n 0, 1) := by decide +kernel
theorem d_Mod_sync_17 : decode prog_13_method_67_code 17 = .ok (.iconst 0, 1) := by decide +kernel
theorem d_Mod_sync_18 : decode prog_13_method_67_code 18 = .ok (.putfield 409, 3) := by decide +kernel
theorem d_Mod_sync_21 : decode prog_13_method_67_code 21 = .ok (.iload_n 1, 1) := by decide +kernel
theorem d_Mod_sync_22 : decode prog_13_method_67_code 22 = .ok (.ireturn, 1) := by decide +kernel
abbrev m_Stow_root : am_M := (⟨"StowTongue", "root", "()J"⟩, prog_1_method_10_code, 11, (some FieldType.long))
theorem d_Stow_root_0 : decode prog_1_method_10_code 0 = .ok (.aload_n 0, 1) := by decide +kernel
theorem d_Stow_root_1 : decode prog_1_method_10_code 1 = .ok (.getfield 9, 3) := by decide +kernel
theorem d_Stow_root_4 : decode prog_1_method_10_code 4 = .ok (.aload_n 0, 1) := by decide +kernel
theorem w_496 : (Cond.fieldLink "StowTongue" 48 "StowTongue" "tapeSize" "I" : Cond) ∈ am_tbl := am_w 496 (by decide +kernel) (by decide +kernel)
theorem f_Stow_48 : am_F "StowTongue" 48 9 1 := ⟨_, rfl, cl_9, by decide, Or.inl w_496⟩
theorem d_Stow_root_5 : decode prog_1_method_10_code 5 = .ok (.getfield 48, 3) := by decide +kernel
abbrev m_Lexer_wholeName : am_M := (⟨"StowTongue$Lexer", "wholeName", "([BI)J"⟩, prog_4_method_11_code, 5, (some FieldType.long))
theorem d_Lexer_wholeName_0 : decode prog_4_method_11_code 0 = .ok (.iload_n 1, 1) := by decide +kernel
theorem d_Lexer_wholeName_1 : decode prog_4_method_11_code 1 = .ok (.iconst 1, 1) := by decide +kernel
theorem d_Lexer_wholeName_2 : decode prog_4_method_11_code 2 = .ok (.if_icmp .lt 24, 3) := by decide +kernel
theorem d_Lexer_wholeName_26 : decode prog_4_method_11_code 26 = .ok (.lconst 0, 1) := by decide +kernel
theorem d_Lexer_wholeName_27 : decode prog_4_method_11_code 27 = .ok (.lreturn, 1) := by decide +kernel
theorem w_1399 : (Cond.methodLink "StowTongue" 145 ⟨"StowTongue$Lexer", "wholeName", "([BI)J"⟩ : Cond) ∈ am_tbl := am_w 1399 (by decide +kernel) (by decide +kernel)
theorem w_1401 : (Cond.code ⟨"StowTongue$Lexer", "wholeName", "([BI)J"⟩ prog_4_method_11_code 5 (some FieldType.long) : Cond) ∈ am_tbl := am_w 1401 (by decide +kernel) (by decide +kernel)
theorem l_Stow_145 : am_L "StowTongue" 145 2 m_Lexer_wholeName := ⟨Or.inl w_1399, w_146, w_1401, ⟨by decide, by decide⟩, by decide +kernel, by decide⟩
theorem w_1400 : (Cond.static ⟨"StowTongue$Lexer", "wholeName", "([BI)J"⟩ : Cond) ∈ am_tbl := am_w 1400 (by decide +kernel) (by decide +kernel)
theorem d_Stow_root_8 : decode prog_1_method_10_code 8 = .ok (.invokestatic 145, 3) := by decide +kernel
theorem d_Stow_root_11 : decode prog_1_method_10_code 11 = .ok (.lstore_n 1, 1) := by decide +kernel
theorem d_Stow_root_12 : decode prog_1_method_10_code 12 = .ok (.aload_n 0, 1) := by decide +kernel
theorem d_Stow_root_13 : decode prog_1_method_10_code 13 = .ok (.iconst 0, 1) := by decide +kernel
theorem d_Stow_root_14 : decode prog_1_method_10_code 14 = .ok (.putfield 48, 3) := by decide +kernel
theorem d_Stow_root_17 : decode prog_1_method_10_code 17 = .ok (.aload_n 0, 1) := by decide +kernel
theorem d_Stow_root_18 : decode prog_1_method_10_code 18 = .ok (.getfield 37, 3) := by decide +kernel
abbrev m_Log_latest : am_M := (⟨"StowTongue$Log", "latest", "()LStowTongue$Store;"⟩, prog_5_method_4_code, 1, (some (FieldType.object "StowTongue$Store")))
theorem d_Log_latest_0 : decode prog_5_method_4_code 0 = .ok (.aload_n 0, 1) := by decide +kernel
theorem d_Log_latest_1 : decode prog_5_method_4_code 1 = .ok (.aload_n 0, 1) := by decide +kernel
theorem d_Log_latest_2 : decode prog_5_method_4_code 2 = .ok (.getfield 27, 3) := by decide +kernel
abbrev m_Log_storeAt : am_M := (⟨"StowTongue$Log", "storeAt", "(I)LStowTongue$Store;"⟩, prog_5_method_3_code, 3, (some (FieldType.object "StowTongue$Store")))
theorem d_Log_storeAt_0 : decode prog_5_method_3_code 0 = .ok (.aload_n 0, 1) := by decide +kernel
theorem d_Log_storeAt_1 : decode prog_5_method_3_code 1 = .ok (.getfield 11, 3) := by decide +kernel
theorem d_Log_storeAt_4 : decode prog_5_method_3_code 4 = .ok (.iload_n 1, 1) := by decide +kernel
theorem d_Log_storeAt_5 : decode prog_5_method_3_code 5 = .ok (.aaload, 1) := by decide +kernel
theorem d_Log_storeAt_6 : decode prog_5_method_3_code 6 = .ok (.astore_n 2, 1) := by decide +kernel
theorem d_Log_storeAt_7 : decode prog_5_method_3_code 7 = .ok (.aload_n 2, 1) := by decide +kernel
theorem d_Log_storeAt_8 : decode prog_5_method_3_code 8 = .ok (.ifnonnull 18, 3) := by decide +kernel
theorem w_961 : (Cond.instantiable "StowTongue$Store" 9 : Cond) ∈ am_tbl := am_w 961 (by decide +kernel) (by decide +kernel)
theorem n_Log_9 : am_N "StowTongue$Log" 9 10 9 [.null, .null, .null, .null, .null, .null, .int 0, .null, .int 0] := ⟨_, rfl, cl_10, rfl, by decide +kernel, w_463, w_961, w_169⟩
theorem d_Log_storeAt_11 : decode prog_5_method_3_code 11 = .ok (.new 9, 3) := by decide +kernel
theorem d_Log_storeAt_14 : decode prog_5_method_3_code 14 = .ok (.dup, 1) := by decide +kernel
abbrev m_Store_init : am_M := (⟨"StowTongue$Store", "<init>", "()V"⟩, prog_9_method_1_code, 1, none)
theorem d_Store_init_0 : decode prog_9_method_1_code 0 = .ok (.aload_n 0, 1) := by decide +kernel
theorem d_Store_init_1 : decode prog_9_method_1_code 1 = .ok (.invokespecial 1, 3) := by decide +kernel
theorem w_965 : (Cond.methodLink "StowTongue$Store" 1 ⟨"java/lang/Object", "<init>", "()V"⟩ : Cond) ∈ am_tbl := am_w 965 (by decide +kernel) (by decide +kernel)
theorem d_Store_init_4 : decode prog_9_method_1_code 4 = .ok (.aload_n 0, 1) := by decide +kernel
theorem d_Store_init_5 : decode prog_9_method_1_code 5 = .ok (.sipush 2000, 3) := by decide +kernel
theorem d_Store_init_8 : decode prog_9_method_1_code 8 = .ok (.newarray .long, 2) := by decide +kernel
theorem w_970 : (Cond.fieldLink "StowTongue$Store" 9 "StowTongue$Store" "head" "[J" : Cond) ∈ am_tbl := am_w 970 (by decide +kernel) (by decide +kernel)
theorem f_Store_9 : am_F "StowTongue$Store" 9 10 0 := ⟨_, rfl, cl_10, by decide, Or.inl w_970⟩
theorem d_Store_init_10 : decode prog_9_method_1_code 10 = .ok (.putfield 9, 3) := by decide +kernel
theorem d_Store_init_13 : decode prog_9_method_1_code 13 = .ok (.aload_n 0, 1) := by decide +kernel
theorem d_Store_init_14 : decode prog_9_method_1_code 14 = .ok (.sipush 2000, 3) := by decide +kernel
theorem d_Store_init_17 : decode prog_9_method_1_code 17 = .ok (.newarray .long, 2) := by decide +kernel
theorem w_973 : (Cond.fieldLink "StowTongue$Store" 13 "StowTongue$Store" "tail" "[J" : Cond) ∈ am_tbl := am_w 973 (by decide +kernel) (by decide +kernel)
theorem f_Store_13 : am_F "StowTongue$Store" 13 10 1 := ⟨_, rfl, cl_10, by decide, Or.inl w_973⟩
theorem d_Store_init_19 : decode prog_9_method_1_code 19 = .ok (.putfield 13, 3) := by decide +kernel
theorem d_Store_init_22 : decode prog_9_method_1_code 22 = .ok (.aload_n 0, 1) := by decide +kernel
theorem d_Store_init_23 : decode prog_9_method_1_code 23 = .ok (.bipush 100, 2) := by decide +kernel
theorem d_Store_init_25 : decode prog_9_method_1_code 25 = .ok (.newarray .int, 2) := by decide +kernel
theorem d_Store_init_27 : decode prog_9_method_1_code 27 = .ok (.putfield 16, 3) := by decide +kernel
theorem d_Store_init_30 : decode prog_9_method_1_code 30 = .ok (.aload_n 0, 1) := by decide +kernel
theorem d_Store_init_31 : decode prog_9_method_1_code 31 = .ok (.bipush 12, 2) := by decide +kernel
theorem d_Store_init_33 : decode prog_9_method_1_code 33 = .ok (.newarray .long, 2) := by decide +kernel
theorem w_977 : (Cond.fieldLink "StowTongue$Store" 20 "StowTongue$Store" "rootName" "[J" : Cond) ∈ am_tbl := am_w 977 (by decide +kernel) (by decide +kernel)
theorem f_Store_20 : am_F "StowTongue$Store" 20 10 3 := ⟨_, rfl, cl_10, by decide, Or.inl w_977⟩
theorem d_Store_init_35 : decode prog_9_method_1_code 35 = .ok (.putfield 20, 3) := by decide +kernel
theorem d_Store_init_38 : decode prog_9_method_1_code 38 = .ok (.aload_n 0, 1) := by decide +kernel
theorem d_Store_init_39 : decode prog_9_method_1_code 39 = .ok (.bipush 12, 2) := by decide +kernel
theorem d_Store_init_41 : decode prog_9_method_1_code 41 = .ok (.newarray .long, 2) := by decide +kernel
theorem w_978 : (Cond.fieldLink "StowTongue$Store" 23 "StowTongue$Store" "rootHead" "[J" : Cond) ∈ am_tbl := am_w 978 (by decide +kernel) (by decide +kernel)
theorem f_Store_23 : am_F "StowTongue$Store" 23 10 4 := ⟨_, rfl, cl_10, by decide, Or.inl w_978⟩
theorem d_Store_init_43 : decode prog_9_method_1_code 43 = .ok (.putfield 23, 3) := by decide +kernel
theorem d_Store_init_46 : decode prog_9_method_1_code 46 = .ok (.aload_n 0, 1) := by decide +kernel
theorem d_Store_init_47 : decode prog_9_method_1_code 47 = .ok (.bipush 12, 2) := by decide +kernel
theorem d_Store_init_49 : decode prog_9_method_1_code 49 = .ok (.newarray .long, 2) := by decide +kernel
theorem w_982 : (Cond.fieldLink "StowTongue$Store" 26 "StowTongue$Store" "rootTail" "[J" : Cond) ∈ am_tbl := am_w 982 (by decide +kernel) (by decide +kernel)
theorem f_Store_26 : am_F "StowTongue$Store" 26 10 5 := ⟨_, rfl, cl_10, by decide, Or.inl w_982⟩
theorem d_Store_init_51 : decode prog_9_method_1_code 51 = .ok (.putfield 26, 3) := by decide +kernel
theorem d_Store_init_54 : decode prog_9_method_1_code 54 = .ok (.aload_n 0, 1) := by decide +kernel
theorem d_Store_init_55 : decode prog_9_method_1_code 55 = .ok (.bipush 10, 2) := by decide +kernel
theorem d_Store_init_57 : decode prog_9_method_1_code 57 = .ok (.anewarray 29, 3) := by decide +kernel
theorem w_966 : (Cond.classLink "StowTongue$Store" 29 "StowTongue$Unit" : Cond) ∈ am_tbl := am_w 966 (by decide +kernel) (by decide +kernel)
theorem w_987 : (Cond.fieldLink "StowTongue$Store" 31 "StowTongue$Store" "told" "[LStowTongue$Unit;" : Cond) ∈ am_tbl := am_w 987 (by decide +kernel) (by decide +kernel)
theorem f_Store_31 : am_F "StowTongue$Store" 31 10 7 := ⟨_, rfl, cl_10, by decide, Or.inl w_987⟩
theorem d_Store_init_60 : decode prog_9_method_1_code 60 = .ok (.putfield 31, 3) := by decide +kernel
theorem d_Store_init_63 : decode prog_9_method_1_code 63 = .ok (.aload_n 0, 1) := by decide +kernel
theorem d_Store_init_64 : decode prog_9_method_1_code 64 = .ok (.getfield 16, 3) := by decide +kernel
theorem d_Store_init_67 : decode prog_9_method_1_code 67 = .ok (.iconst (-1), 1) := by decide +kernel
theorem w_967 : (Cond.methodLink "StowTongue$Store" 35 ⟨"java/util/Arrays", "fill", "([II)V"⟩ : Cond) ∈ am_tbl := am_w 967 (by decide +kernel) (by decide +kernel)
theorem w_166 : (Cond.initialized "java/util/Arrays" : Cond) ∈ am_tbl := am_w 166 (by decide +kernel) (by decide +kernel)
theorem w_969 : (Cond.code ⟨"java/util/Arrays", "fill", "([II)V"⟩ prog_29_method_103_code 4 none : Cond) ∈ am_tbl := am_w 969 (by decide +kernel) (by decide +kernel)
theorem l_Store_35 : am_L "StowTongue$Store" 35 2 m_Arr_fill_aII := ⟨Or.inl w_967, w_166, w_969, ⟨by decide, by decide⟩, by decide +kernel, by decide⟩
theorem w_968 : (Cond.static ⟨"java/util/Arrays", "fill", "([II)V"⟩ : Cond) ∈ am_tbl := am_w 968 (by decide +kernel) (by decide +kernel)
theorem d_Store_init_68 : decode prog_9_method_1_code 68 = .ok (.invokestatic 35, 3) := by decide +kernel
theorem d_Store_init_71 : decode prog_9_method_1_code 71 = .ok (.return_, 1) := by decide +kernel
theorem w_962 : (Cond.methodLink "StowTongue$Log" 26 ⟨"StowTongue$Store", "<init>", "()V"⟩ : Cond) ∈ am_tbl := am_w 962 (by decide +kernel) (by decide +kernel)
theorem w_964 : (Cond.code ⟨"StowTongue$Store", "<init>", "()V"⟩ prog_9_method_1_code 1 none : Cond) ∈ am_tbl := am_w 964 (by decide +kernel) (by decide +kernel)
theorem l_Log_26 : am_L "StowTongue$Log" 26 0 m_Store_init := ⟨Or.inl w_962, w_169, w_964, ⟨by decide, by decide⟩, by decide +kernel, by decide⟩
theorem w_963 : (Cond.instanceMethod ⟨"StowTongue$Store", "<init>", "()V"⟩ : Cond) ∈ am_tbl := am_w 963 (by decide +kernel) (by decide +kernel)
theorem d_Log_storeAt_15 : decode prog_5_method_3_code 15 = .ok (.invokespecial 26, 3) := by decide +kernel
theorem d_Log_storeAt_18 : decode prog_5_method_3_code 18 = .ok (.astore_n 2, 1) := by decide +kernel
theorem d_Log_storeAt_19 : decode prog_5_method_3_code 19 = .ok (.aload_n 0, 1) := by decide +kernel
theorem d_Log_storeAt_20 : decode prog_5_method_3_code 20 = .ok (.getfield 11, 3) := by decide +kernel
theorem d_Log_storeAt_23 : decode prog_5_method_3_code 23 = .ok (.iload_n 1, 1) := by decide +kernel
theorem d_Log_storeAt_24 : decode prog_5_method_3_code 24 = .ok (.aload_n 2, 1) := by decide +kernel
theorem d_Log_storeAt_25 : decode prog_5_method_3_code 25 = .ok (.aastore, 1) := by decide +kernel
theorem d_Log_storeAt_26 : decode prog_5_method_3_code 26 = .ok (.aload_n 2, 1) := by decide +kernel
theorem d_Log_storeAt_27 : decode prog_5_method_3_code 27 = .ok (.areturn, 1) := by decide +kernel
theorem w_957 : (Cond.methodLink "StowTongue$Log" 31 ⟨"StowTongue$Log", "storeAt", "(I)LStowTongue$Store;"⟩ : Cond) ∈ am_tbl := am_w 957 (by decide +kernel) (by decide +kernel)
theorem w_960 : (Cond.code ⟨"StowTongue$Log", "storeAt", "(I)LStowTongue$Store;"⟩ prog_5_method_3_code 3 (some (FieldType.object "StowTongue$Store")) : Cond) ∈ am_tbl := am_w 960 (by decide +kernel) (by decide +kernel)
theorem l_Log_31 : am_L "StowTongue$Log" 31 1 m_Log_storeAt := ⟨Or.inl w_957, w_158, w_960, ⟨by decide, by decide⟩, by decide +kernel, by decide⟩
theorem w_959 : (Cond.instanceMethod ⟨"StowTongue$Log", "storeAt", "(I)LStowTongue$Store;"⟩ : Cond) ∈ am_tbl := am_w 959 (by decide +kernel) (by decide +kernel)
theorem w_40 : (Cond.selects "StowTongue$Log" ⟨"StowTongue$Log", "storeAt", "(I)LStowTongue$Store;"⟩ ⟨"StowTongue$Log", "storeAt", "(I)LStowTongue$Store;"⟩ : Cond) ∈ am_tbl := am_w 40 (by decide +kernel) (by decide +kernel)
theorem d_Log_latest_5 : decode prog_5_method_4_code 5 = .ok (.invokevirtual 31, 3) := by decide +kernel
theorem d_Log_latest_8 : decode prog_5_method_4_code 8 = .ok (.areturn, 1) := by decide +kernel
theorem w_1337 : (Cond.methodLink "StowTongue" 103 ⟨"StowTongue$Log", "latest", "()LStowTongue$Store;"⟩ : Cond) ∈ am_tbl := am_w 1337 (by decide +kernel) (by decide +kernel)
theorem w_1011 : (Cond.code ⟨"StowTongue$Log", "latest", "()LStowTongue$Store;"⟩ prog_5_method_4_code 1 (some (FieldType.object "StowTongue$Store")) : Cond) ∈ am_tbl := am_w 1011 (by decide +kernel) (by decide +kernel)
theorem l_Stow_103 : am_L "StowTongue" 103 0 m_Log_latest := ⟨Or.inl w_1337, w_158, w_1011, ⟨by decide, by decide⟩, by decide +kernel, by decide⟩
theorem w_1009 : (Cond.instanceMethod ⟨"StowTongue$Log", "latest", "()LStowTongue$Store;"⟩ : Cond) ∈ am_tbl := am_w 1009 (by decide +kernel) (by decide +kernel)
theorem w_1010 : (Cond.selects "StowTongue$Log" ⟨"StowTongue$Log", "latest", "()LStowTongue$Store;"⟩ ⟨"StowTongue$Log", "latest", "()LStowTongue$Store;"⟩ : Cond) ∈ am_tbl := am_w 1010 (by decide +kernel) (by decide +kernel)
theorem d_Stow_root_21 : decode prog_1_method_10_code 21 = .ok (.invokevirtual 103, 3) := by decide +kernel
theorem d_Stow_root_24 : decode prog_1_method_10_code 24 = .ok (.astore_n 3, 1) := by decide +kernel
theorem d_Stow_root_25 : decode prog_1_method_10_code 25 = .ok (.lload_n 1, 1) := by decide +kernel
theorem d_Stow_root_26 : decode prog_1_method_10_code 26 = .ok (.lconst 0, 1) := by decide +kernel
theorem d_Stow_root_27 : decode prog_1_method_10_code 27 = .ok (.lcmp, 1) := by decide +kernel
theorem d_Stow_root_28 : decode prog_1_method_10_code 28 = .ok (.ifCond .ne 7, 3) := by decide +kernel
theorem d_Stow_root_31 : decode prog_1_method_10_code 31 = .ok (.iconst (-1), 1) := by decide +kernel
theorem d_Stow_root_32 : decode prog_1_method_10_code 32 = .ok (.goto 8, 3) := by decide +kernel
theorem d_Stow_root_40 : decode prog_1_method_10_code 40 = .ok (.istore 4, 2) := by decide +kernel
theorem d_Stow_root_42 : decode prog_1_method_10_code 42 = .ok (.iload 4, 2) := by decide +kernel
theorem d_Stow_root_44 : decode prog_1_method_10_code 44 = .ok (.ifCond .ge 7, 3) := by decide +kernel
theorem d_Stow_root_47 : decode prog_1_method_10_code 47 = .ok (.ldc2_w 136, 3) := by decide +kernel
theorem d_Stow_root_50 : decode prog_1_method_10_code 50 = .ok (.lreturn, 1) := by decide +kernel
abbrev m_Mod_root : am_M := (⟨"StowTongueModel", "root", "()J"⟩, prog_13_method_73_code, 6, (some FieldType.long))
theorem d_Mod_root_0 : decode prog_13_method_73_code 0 = .ok (.aload_n 0, 1) := by decide +kernel
theorem w_1624 : (Cond.fieldLink "StowTongueModel" 134 "StowTongueModel" "tapeMany" "I" : Cond) ∈ am_tbl := am_w 1624 (by decide +kernel) (by decide +kernel)
theorem f_Mod_134 : am_F "StowTongueModel" 134 14 2 := ⟨_, rfl, cl_14, by decide, Or.inl w_1624⟩
theorem d_Mod_root_1 : decode prog_13_method_73_code 1 = .ok (.getfield 134, 3) := by decide +kernel
theorem d_Mod_root_4 : decode prog_13_method_73_code 4 = .ok (.istore_n 1, 1) := by decide +kernel
theorem d_Mod_root_5 : decode prog_13_method_73_code 5 = .ok (.aload_n 0, 1) := by decide +kernel
theorem d_Mod_root_6 : decode prog_13_method_73_code 6 = .ok (.iconst 0, 1) := by decide +kernel
theorem d_Mod_root_7 : decode prog_13_method_73_code 7 = .ok (.putfield 134, 3) := by decide +kernel
theorem d_Mod_root_10 : decode prog_13_method_73_code 10 = .ok (.lconst 0, 1) := by decide +kernel
theorem d_Mod_root_11 : decode prog_13_method_73_code 11 = .ok (.lstore_n 2, 1) := by decide +kernel
theorem d_Mod_root_12 : decode prog_13_method_73_code 12 = .ok (.iconst 0, 1) := by decide +kernel
theorem d_Mod_root_13 : decode prog_13_method_73_code 13 = .ok (.istore 4, 2) := by decide +kernel
theorem d_Mod_root_15 : decode prog_13_method_73_code 15 = .ok (.iload 4, 2) := by decide +kernel
theorem d_Mod_root_17 : decode prog_13_method_73_code 17 = .ok (.iload_n 1, 1) := by decide +kernel
theorem d_Mod_root_18 : decode prog_13_method_73_code 18 = .ok (.if_icmp .ge 47, 3) := by decide +kernel
theorem d_Mod_root_65 : decode prog_13_method_73_code 65 = .ok (.aload_n 0, 1) := by decide +kernel
theorem d_Mod_root_66 : decode prog_13_method_73_code 66 = .ok (.getfield 349, 3) := by decide +kernel
theorem d_Mod_root_69 : decode prog_13_method_73_code 69 = .ok (.lload_n 2, 1) := by decide +kernel
abbrev m_State_findRoot : am_M := (⟨"StowTongueModel$State", "findRoot", "(J)I"⟩, prog_15_method_3_code, 4, (some FieldType.int))
theorem d_State_findRoot_0 : decode prog_15_method_3_code 0 = .ok (.iconst 0, 1) := by decide +kernel
theorem d_State_findRoot_1 : decode prog_15_method_3_code 1 = .ok (.istore_n 3, 1) := by decide +kernel
theorem d_State_findRoot_2 : decode prog_15_method_3_code 2 = .ok (.iload_n 3, 1) := by decide +kernel
theorem d_State_findRoot_3 : decode prog_15_method_3_code 3 = .ok (.aload_n 0, 1) := by decide +kernel
theorem d_State_findRoot_4 : decode prog_15_method_3_code 4 = .ok (.getfield 60, 3) := by decide +kernel
theorem d_State_findRoot_7 : decode prog_15_method_3_code 7 = .ok (.if_icmp .ge 22, 3) := by decide +kernel
theorem d_State_findRoot_29 : decode prog_15_method_3_code 29 = .ok (.iconst (-1), 1) := by decide +kernel
theorem d_State_findRoot_30 : decode prog_15_method_3_code 30 = .ok (.ireturn, 1) := by decide +kernel
theorem w_2042 : (Cond.methodLink "StowTongueModel" 469 ⟨"StowTongueModel$State", "findRoot", "(J)I"⟩ : Cond) ∈ am_tbl := am_w 2042 (by decide +kernel) (by decide +kernel)
theorem w_2045 : (Cond.code ⟨"StowTongueModel$State", "findRoot", "(J)I"⟩ prog_15_method_3_code 4 (some FieldType.int) : Cond) ∈ am_tbl := am_w 2045 (by decide +kernel) (by decide +kernel)
theorem l_Mod_469 : am_L "StowTongueModel" 469 1 m_State_findRoot := ⟨Or.inl w_2042, w_163, w_2045, ⟨by decide, by decide⟩, by decide +kernel, by decide⟩
theorem w_2043 : (Cond.instanceMethod ⟨"StowTongueModel$State", "findRoot", "(J)I"⟩ : Cond) ∈ am_tbl := am_w 2043 (by decide +kernel) (by decide +kernel)
theorem w_2044 : (Cond.selects "StowTongueModel$State" ⟨"StowTongueModel$State", "findRoot", "(J)I"⟩ ⟨"StowTongueModel$State", "findRoot", "(J)I"⟩ : Cond) ∈ am_tbl := am_w 2044 (by decide +kernel) (by decide +kernel)
theorem d_Mod_root_70 : decode prog_13_method_73_code 70 = .ok (.invokevirtual 469, 3) := by decide +kernel
theorem d_Mod_root_73 : decode prog_13_method_73_code 73 = .ok (.istore 4, 2) := by decide +kernel
theorem d_Mod_root_75 : decode prog_13_method_73_code 75 = .ok (.iload 4, 2) := by decide +kernel
theorem d_Mod_root_77 : decode prog_13_method_73_code 77 = .ok (.ifCond .ge 7, 3) := by decide +kernel
theorem d_Mod_root_80 : decode prog_13_method_73_code 80 = .ok (.ldc2_w 50, 3) := by decide +kernel
theorem d_Mod_root_83 : decode prog_13_method_73_code 83 = .ok (.lreturn, 1) := by decide +kernel
abbrev m_Stow_sweep : am_M := (⟨"StowTongue", "sweep", "()I"⟩, prog_1_method_13_code, 3, (some FieldType.int))
theorem d_Stow_sweep_0 : decode prog_1_method_13_code 0 = .ok (.aload_n 0, 1) := by decide +kernel
theorem d_Stow_sweep_1 : decode prog_1_method_13_code 1 = .ok (.getfield 37, 3) := by decide +kernel
abbrev m_Log_workCopy : am_M := (⟨"StowTongue$Log", "workCopy", "()LStowTongue$Store;"⟩, prog_5_method_5_code, 2, (some (FieldType.object "StowTongue$Store")))
theorem d_Log_workCopy_0 : decode prog_5_method_5_code 0 = .ok (.aload_n 0, 1) := by decide +kernel
theorem d_Log_workCopy_1 : decode prog_5_method_5_code 1 = .ok (.aload_n 0, 1) := by decide +kernel
theorem d_Log_workCopy_2 : decode prog_5_method_5_code 2 = .ok (.getfield 27, 3) := by decide +kernel
theorem d_Log_workCopy_5 : decode prog_5_method_5_code 5 = .ok (.iconst 1, 1) := by decide +kernel
theorem d_Log_workCopy_6 : decode prog_5_method_5_code 6 = .ok (.iadd, 1) := by decide +kernel
theorem d_Log_workCopy_7 : decode prog_5_method_5_code 7 = .ok (.invokevirtual 31, 3) := by decide +kernel
theorem d_Log_workCopy_10 : decode prog_5_method_5_code 10 = .ok (.astore_n 1, 1) := by decide +kernel
theorem d_Log_workCopy_11 : decode prog_5_method_5_code 11 = .ok (.aload_n 1, 1) := by decide +kernel
theorem d_Log_workCopy_12 : decode prog_5_method_5_code 12 = .ok (.aload_n 0, 1) := by decide +kernel
theorem w_1008 : (Cond.methodLink "StowTongue$Log" 35 ⟨"StowTongue$Log", "latest", "()LStowTongue$Store;"⟩ : Cond) ∈ am_tbl := am_w 1008 (by decide +kernel) (by decide +kernel)
theorem l_Log_35 : am_L "StowTongue$Log" 35 0 m_Log_latest := ⟨Or.inl w_1008, w_158, w_1011, ⟨by decide, by decide⟩, by decide +kernel, by decide⟩
theorem d_Log_workCopy_13 : decode prog_5_method_5_code 13 = .ok (.invokevirtual 35, 3) := by decide +kernel
abbrev m_Store_copyFrom : am_M := (⟨"StowTongue$Store", "copyFrom", "(LStowTongue$Store;)V"⟩, prog_9_method_2_code, 3, none)
theorem d_Store_copyFrom_0 : decode prog_9_method_2_code 0 = .ok (.aload_n 1, 1) := by decide +kernel
theorem d_Store_copyFrom_1 : decode prog_9_method_2_code 1 = .ok (.getfield 9, 3) := by decide +kernel
theorem d_Store_copyFrom_4 : decode prog_9_method_2_code 4 = .ok (.iconst 0, 1) := by decide +kernel
theorem d_Store_copyFrom_5 : decode prog_9_method_2_code 5 = .ok (.aload_n 0, 1) := by decide +kernel
theorem d_Store_copyFrom_6 : decode prog_9_method_2_code 6 = .ok (.getfield 9, 3) := by decide +kernel
theorem d_Store_copyFrom_9 : decode prog_9_method_2_code 9 = .ok (.iconst 0, 1) := by decide +kernel
theorem d_Store_copyFrom_10 : decode prog_9_method_2_code 10 = .ok (.aload_n 0, 1) := by decide +kernel
theorem d_Store_copyFrom_11 : decode prog_9_method_2_code 11 = .ok (.getfield 9, 3) := by decide +kernel
theorem d_Store_copyFrom_14 : decode prog_9_method_2_code 14 = .ok (.arraylength, 1) := by decide +kernel
theorem w_1016 : (Cond.methodLink "StowTongue$Store" 41 ⟨"java/lang/System", "arraycopy", "(Ljava/lang/Object;ILjava/lang/Object;II)V"⟩ : Cond) ∈ am_tbl := am_w 1016 (by decide +kernel) (by decide +kernel)
theorem d_Store_copyFrom_15 : decode prog_9_method_2_code 15 = .ok (.invokestatic 41, 3) := by decide +kernel
theorem d_Store_copyFrom_18 : decode prog_9_method_2_code 18 = .ok (.aload_n 1, 1) := by decide +kernel
theorem d_Store_copyFrom_19 : decode prog_9_method_2_code 19 = .ok (.getfield 13, 3) := by decide +kernel
theorem d_Store_copyFrom_22 : decode prog_9_method_2_code 22 = .ok (.iconst 0, 1) := by decide +kernel
theorem d_Store_copyFrom_23 : decode prog_9_method_2_code 23 = .ok (.aload_n 0, 1) := by decide +kernel
theorem d_Store_copyFrom_24 : decode prog_9_method_2_code 24 = .ok (.getfield 13, 3) := by decide +kernel
theorem d_Store_copyFrom_27 : decode prog_9_method_2_code 27 = .ok (.iconst 0, 1) := by decide +kernel
theorem d_Store_copyFrom_28 : decode prog_9_method_2_code 28 = .ok (.aload_n 0, 1) := by decide +kernel
theorem d_Store_copyFrom_29 : decode prog_9_method_2_code 29 = .ok (.getfield 13, 3) := by decide +kernel
theorem d_Store_copyFrom_32 : decode prog_9_method_2_code 32 = .ok (.arraylength, 1) := by decide +kernel
theorem d_Store_copyFrom_33 : decode prog_9_method_2_code 33 = .ok (.invokestatic 41, 3) := by decide +kernel
theorem d_Store_copyFrom_36 : decode prog_9_method_2_code 36 = .ok (.aload_n 1, 1) := by decide +kernel
theorem d_Store_copyFrom_37 : decode prog_9_method_2_code 37 = .ok (.getfield 16, 3) := by decide +kernel
theorem d_Store_copyFrom_40 : decode prog_9_method_2_code 40 = .ok (.iconst 0, 1) := by decide +kernel
theorem d_Store_copyFrom_41 : decode prog_9_method_2_code 41 = .ok (.aload_n 0, 1) := by decide +kernel
theorem d_Store_copyFrom_42 : decode prog_9_method_2_code 42 = .ok (.getfield 16, 3) := by decide +kernel
theorem d_Store_copyFrom_45 : decode prog_9_method_2_code 45 = .ok (.iconst 0, 1) := by decide +kernel
theorem d_Store_copyFrom_46 : decode prog_9_method_2_code 46 = .ok (.aload_n 0, 1) := by decide +kernel
theorem d_Store_copyFrom_47 : decode prog_9_method_2_code 47 = .ok (.getfield 16, 3) := by decide +kernel
theorem d_Store_copyFrom_50 : decode prog_9_method_2_code 50 = .ok (.arraylength, 1) := by decide +kernel
theorem d_Store_copyFrom_51 : decode prog_9_method_2_code 51 = .ok (.invokestatic 41, 3) := by decide +kernel
theorem d_Store_copyFrom_54 : decode prog_9_method_2_code 54 = .ok (.aload_n 1, 1) := by decide +kernel
theorem d_Store_copyFrom_55 : decode prog_9_method_2_code 55 = .ok (.getfield 20, 3) := by decide +kernel
theorem d_Store_copyFrom_58 : decode prog_9_method_2_code 58 = .ok (.iconst 0, 1) := by decide +kernel
theorem d_Store_copyFrom_59 : decode prog_9_method_2_code 59 = .ok (.aload_n 0, 1) := by decide +kernel
theorem d_Store_copyFrom_60 : decode prog_9_method_2_code 60 = .ok (.getfield 20, 3) := by decide +kernel
theorem d_Store_copyFrom_63 : decode prog_9_method_2_code 63 = .ok (.iconst 0, 1) := by decide +kernel
theorem d_Store_copyFrom_64 : decode prog_9_method_2_code 64 = .ok (.aload_n 0, 1) := by decide +kernel
theorem d_Store_copyFrom_65 : decode prog_9_method_2_code 65 = .ok (.getfield 20, 3) := by decide +kernel
theorem d_Store_copyFrom_68 : decode prog_9_method_2_code 68 = .ok (.arraylength, 1) := by decide +kernel
theorem d_Store_copyFrom_69 : decode prog_9_method_2_code 69 = .ok (.invokestatic 41, 3) := by decide +kernel
theorem d_Store_copyFrom_72 : decode prog_9_method_2_code 72 = .ok (.aload_n 1, 1) := by decide +kernel
theorem d_Store_copyFrom_73 : decode prog_9_method_2_code 73 = .ok (.getfield 23, 3) := by decide +kernel
theorem d_Store_copyFrom_76 : decode prog_9_method_2_code 76 = .ok (.iconst 0, 1) := by decide +kernel
theorem d_Store_copyFrom_77 : decode prog_9_method_2_code 77 = .ok (.aload_n 0, 1) := by decide +kernel
theorem d_Store_copyFrom_78 : decode prog_9_method_2_code 78 = .ok (.getfield 23, 3) := by decide +kernel
theorem d_Store_copyFrom_81 : decode prog_9_method_2_code 81 = .ok (.iconst 0, 1) := by decide +kernel
theorem d_Store_copyFrom_82 : decode prog_9_method_2_code 82 = .ok (.aload_n 0, 1) := by decide +kernel
theorem d_Store_copyFrom_83 : decode prog_9_method_2_code 83 = .ok (.getfield 23, 3) := by decide +kernel
theorem d_Store_copyFrom_86 : decode prog_9_method_2_code 86 = .ok (.arraylength, 1) := by decide +kernel
theorem d_Store_copyFrom_87 : decode prog_9_method_2_code 87 = .ok (.invokestatic 41, 3) := by decide +kernel
theorem d_Store_copyFrom_90 : decode prog_9_method_2_code 90 = .ok (.aload_n 1, 1) := by decide +kernel
theorem d_Store_copyFrom_91 : decode prog_9_method_2_code 91 = .ok (.getfield 26, 3) := by decide +kernel
theorem d_Store_copyFrom_94 : decode prog_9_method_2_code 94 = .ok (.iconst 0, 1) := by decide +kernel
theorem d_Store_copyFrom_95 : decode prog_9_method_2_code 95 = .ok (.aload_n 0, 1) := by decide +kernel
theorem d_Store_copyFrom_96 : decode prog_9_method_2_code 96 = .ok (.getfield 26, 3) := by decide +kernel
theorem d_Store_copyFrom_99 : decode prog_9_method_2_code 99 = .ok (.iconst 0, 1) := by decide +kernel
theorem d_Store_copyFrom_100 : decode prog_9_method_2_code 100 = .ok (.aload_n 0, 1) := by decide +kernel
theorem d_Store_copyFrom_101 : decode prog_9_method_2_code 101 = .ok (.getfield 26, 3) := by decide +kernel
theorem d_Store_copyFrom_104 : decode prog_9_method_2_code 104 = .ok (.arraylength, 1) := by decide +kernel
theorem d_Store_copyFrom_105 : decode prog_9_method_2_code 105 = .ok (.invokestatic 41, 3) := by decide +kernel
theorem d_Store_copyFrom_108 : decode prog_9_method_2_code 108 = .ok (.iconst 0, 1) := by decide +kernel
theorem d_Store_copyFrom_109 : decode prog_9_method_2_code 109 = .ok (.istore_n 2, 1) := by decide +kernel
theorem d_Store_copyFrom_110 : decode prog_9_method_2_code 110 = .ok (.iload_n 2, 1) := by decide +kernel
theorem d_Store_copyFrom_111 : decode prog_9_method_2_code 111 = .ok (.bipush 10, 2) := by decide +kernel
theorem d_Store_copyFrom_113 : decode prog_9_method_2_code 113 = .ok (.if_icmp .ge 21, 3) := by decide +kernel
theorem d_Store_copyFrom_116 : decode prog_9_method_2_code 116 = .ok (.aload_n 0, 1) := by decide +kernel
theorem d_Store_copyFrom_117 : decode prog_9_method_2_code 117 = .ok (.getfield 31, 3) := by decide +kernel
theorem d_Store_copyFrom_120 : decode prog_9_method_2_code 120 = .ok (.iload_n 2, 1) := by decide +kernel
theorem d_Store_copyFrom_121 : decode prog_9_method_2_code 121 = .ok (.aload_n 1, 1) := by decide +kernel
theorem d_Store_copyFrom_122 : decode prog_9_method_2_code 122 = .ok (.getfield 31, 3) := by decide +kernel
theorem d_Store_copyFrom_125 : decode prog_9_method_2_code 125 = .ok (.iload_n 2, 1) := by decide +kernel
theorem d_Store_copyFrom_126 : decode prog_9_method_2_code 126 = .ok (.aaload, 1) := by decide +kernel
theorem d_Store_copyFrom_127 : decode prog_9_method_2_code 127 = .ok (.aastore, 1) := by decide +kernel
theorem d_Store_copyFrom_128 : decode prog_9_method_2_code 128 = .ok (.iinc 2 1, 3) := by decide +kernel
theorem d_Store_copyFrom_131 : decode prog_9_method_2_code 131 = .ok (.goto (-21), 3) := by decide +kernel
theorem d_Store_copyFrom_134 : decode prog_9_method_2_code 134 = .ok (.aload_n 0, 1) := by decide +kernel
theorem d_Store_copyFrom_135 : decode prog_9_method_2_code 135 = .ok (.aload_n 1, 1) := by decide +kernel
theorem w_986 : (Cond.fieldLink "StowTongue$Store" 47 "StowTongue$Store" "roots" "I" : Cond) ∈ am_tbl := am_w 986 (by decide +kernel) (by decide +kernel)
theorem f_Store_47 : am_F "StowTongue$Store" 47 10 6 := ⟨_, rfl, cl_10, by decide, Or.inl w_986⟩
theorem d_Store_copyFrom_136 : decode prog_9_method_2_code 136 = .ok (.getfield 47, 3) := by decide +kernel
theorem d_Store_copyFrom_139 : decode prog_9_method_2_code 139 = .ok (.putfield 47, 3) := by decide +kernel
theorem d_Store_copyFrom_142 : decode prog_9_method_2_code 142 = .ok (.aload_n 0, 1) := by decide +kernel
theorem d_Store_copyFrom_143 : decode prog_9_method_2_code 143 = .ok (.aload_n 1, 1) := by decide +kernel
theorem w_988 : (Cond.fieldLink "StowTongue$Store" 51 "StowTongue$Store" "functions" "I" : Cond) ∈ am_tbl := am_w 988 (by decide +kernel) (by decide +kernel)
theorem f_Store_51 : am_F "StowTongue$Store" 51 10 8 := ⟨_, rfl, cl_10, by decide, Or.inl w_988⟩
theorem d_Store_copyFrom_144 : decode prog_9_method_2_code 144 = .ok (.getfield 51, 3) := by decide +kernel
theorem d_Store_copyFrom_147 : decode prog_9_method_2_code 147 = .ok (.putfield 51, 3) := by decide +kernel
theorem d_Store_copyFrom_150 : decode prog_9_method_2_code 150 = .ok (.return_, 1) := by decide +kernel
theorem w_1012 : (Cond.methodLink "StowTongue$Log" 39 ⟨"StowTongue$Store", "copyFrom", "(LStowTongue$Store;)V"⟩ : Cond) ∈ am_tbl := am_w 1012 (by decide +kernel) (by decide +kernel)
theorem w_1015 : (Cond.code ⟨"StowTongue$Store", "copyFrom", "(LStowTongue$Store;)V"⟩ prog_9_method_2_code 3 none : Cond) ∈ am_tbl := am_w 1015 (by decide +kernel) (by decide +kernel)
theorem l_Log_39 : am_L "StowTongue$Log" 39 1 m_Store_copyFrom := ⟨Or.inl w_1012, w_169, w_1015, ⟨by decide, by decide⟩, by decide +kernel, by decide⟩
theorem w_1013 : (Cond.instanceMethod ⟨"StowTongue$Store", "copyFrom", "(LStowTongue$Store;)V"⟩ : Cond) ∈ am_tbl := am_w 1013 (by decide +kernel) (by decide +kernel)
theorem w_1014 : (Cond.selects "StowTongue$Store" ⟨"StowTongue$Store", "copyFrom", "(LStowTongue$Store;)V"⟩ ⟨"StowTongue$Store", "copyFrom", "(LStowTongue$Store;)V"⟩ : Cond) ∈ am_tbl := am_w 1014 (by decide +kernel) (by decide +kernel)
theorem d_Log_workCopy_16 : decode prog_5_method_5_code 16 = .ok (.invokevirtual 39, 3) := by decide +kernel
theorem d_Log_workCopy_19 : decode prog_5_method_5_code 19 = .ok (.aload_n 1, 1) := by decide +kernel
theorem d_Log_workCopy_20 : decode prog_5_method_5_code 20 = .ok (.areturn, 1) := by decide +kernel
theorem w_953 : (Cond.methodLink "StowTongue" 66 ⟨"StowTongue$Log", "workCopy", "()LStowTongue$Store;"⟩ : Cond) ∈ am_tbl := am_w 953 (by decide +kernel) (by decide +kernel)
theorem w_956 : (Cond.code ⟨"StowTongue$Log", "workCopy", "()LStowTongue$Store;"⟩ prog_5_method_5_code 2 (some (FieldType.object "StowTongue$Store")) : Cond) ∈ am_tbl := am_w 956 (by decide +kernel) (by decide +kernel)
theorem l_Stow_66 : am_L "StowTongue" 66 0 m_Log_workCopy := ⟨Or.inl w_953, w_158, w_956, ⟨by decide, by decide⟩, by decide +kernel, by decide⟩
theorem w_954 : (Cond.instanceMethod ⟨"StowTongue$Log", "workCopy", "()LStowTongue$Store;"⟩ : Cond) ∈ am_tbl := am_w 954 (by decide +kernel) (by decide +kernel)
theorem w_955 : (Cond.selects "StowTongue$Log" ⟨"StowTongue$Log", "workCopy", "()LStowTongue$Store;"⟩ ⟨"StowTongue$Log", "workCopy", "()LStowTongue$Store;"⟩ : Cond) ∈ am_tbl := am_w 955 (by decide +kernel) (by decide +kernel)
theorem d_Stow_sweep_4 : decode prog_1_method_13_code 4 = .ok (.invokevirtual 66, 3) := by decide +kernel
theorem d_Stow_sweep_7 : decode prog_1_method_13_code 7 = .ok (.astore_n 1, 1) := by decide +kernel
theorem d_Stow_sweep_8 : decode prog_1_method_13_code 8 = .ok (.aload_n 0, 1) := by decide +kernel
theorem d_Stow_sweep_9 : decode prog_1_method_13_code 9 = .ok (.getfield 44, 3) := by decide +kernel
theorem d_Stow_sweep_12 : decode prog_1_method_13_code 12 = .ok (.aload_n 1, 1) := by decide +kernel
theorem d_Sweep_clean_0 : decode prog_10_method_2_code 0 = .ok (.iconst 0, 1) := by decide +kernel
theorem d_Sweep_clean_1 : decode prog_10_method_2_code 1 = .ok (.istore_n 2, 1) := by decide +kernel
theorem d_Sweep_clean_21 : decode prog_10_method_2_code 21 = .ok (.aload_n 0, 1) := by decide +kernel
theorem d_Sweep_clean_22 : decode prog_10_method_2_code 22 = .ok (.iconst 0, 1) := by decide +kernel
theorem w_486 : (Cond.fieldLink "StowTongue$Sweeper" 19 "StowTongue$Sweeper" "queued" "I" : Cond) ∈ am_tbl := am_w 486 (by decide +kernel) (by decide +kernel)
theorem f_Sweep_19 : am_F "StowTongue$Sweeper" 19 8 2 := ⟨_, rfl, cl_8, by decide, Or.inl w_486⟩
theorem d_Sweep_clean_23 : decode prog_10_method_2_code 23 = .ok (.putfield 19, 3) := by decide +kernel
theorem d_Sweep_clean_26 : decode prog_10_method_2_code 26 = .ok (.iconst 0, 1) := by decide +kernel
theorem d_Sweep_clean_27 : decode prog_10_method_2_code 27 = .ok (.istore_n 2, 1) := by decide +kernel
theorem d_Sweep_clean_28 : decode prog_10_method_2_code 28 = .ok (.iload_n 2, 1) := by decide +kernel
theorem d_Sweep_clean_29 : decode prog_10_method_2_code 29 = .ok (.aload_n 1, 1) := by decide +kernel
abbrev m_Store_roots : am_M := (⟨"StowTongue$Store", "roots", "()I"⟩, prog_9_method_14_code, 1, (some FieldType.int))
theorem d_Store_roots_0 : decode prog_9_method_14_code 0 = .ok (.aload_n 0, 1) := by decide +kernel
theorem d_Store_roots_1 : decode prog_9_method_14_code 1 = .ok (.getfield 47, 3) := by decide +kernel
theorem d_Store_roots_4 : decode prog_9_method_14_code 4 = .ok (.ireturn, 1) := by decide +kernel
theorem w_1434 : (Cond.methodLink "StowTongue$Sweeper" 23 ⟨"StowTongue$Store", "roots", "()I"⟩ : Cond) ∈ am_tbl := am_w 1434 (by decide +kernel) (by decide +kernel)
theorem w_1437 : (Cond.code ⟨"StowTongue$Store", "roots", "()I"⟩ prog_9_method_14_code 1 (some FieldType.int) : Cond) ∈ am_tbl := am_w 1437 (by decide +kernel) (by decide +kernel)
theorem l_Sweep_23 : am_L "StowTongue$Sweeper" 23 0 m_Store_roots := ⟨Or.inl w_1434, w_169, w_1437, ⟨by decide, by decide⟩, by decide +kernel, by decide⟩
theorem w_1435 : (Cond.instanceMethod ⟨"StowTongue$Store", "roots", "()I"⟩ : Cond) ∈ am_tbl := am_w 1435 (by decide +kernel) (by decide +kernel)
theorem w_1436 : (Cond.selects "StowTongue$Store" ⟨"StowTongue$Store", "roots", "()I"⟩ ⟨"StowTongue$Store", "roots", "()I"⟩ : Cond) ∈ am_tbl := am_w 1436 (by decide +kernel) (by decide +kernel)
theorem d_Sweep_clean_30 : decode prog_10_method_2_code 30 = .ok (.invokevirtual 23, 3) := by decide +kernel
theorem d_Sweep_clean_33 : decode prog_10_method_2_code 33 = .ok (.if_icmp .ge 25, 3) := by decide +kernel
theorem d_Sweep_clean_58 : decode prog_10_method_2_code 58 = .ok (.iconst 0, 1) := by decide +kernel
theorem d_Sweep_clean_59 : decode prog_10_method_2_code 59 = .ok (.istore_n 2, 1) := by decide +kernel
theorem d_Sweep_clean_60 : decode prog_10_method_2_code 60 = .ok (.iload_n 2, 1) := by decide +kernel
theorem d_Sweep_clean_61 : decode prog_10_method_2_code 61 = .ok (.aload_n 0, 1) := by decide +kernel
theorem d_Sweep_clean_62 : decode prog_10_method_2_code 62 = .ok (.getfield 19, 3) := by decide +kernel
theorem d_Sweep_clean_65 : decode prog_10_method_2_code 65 = .ok (.if_icmp .ge 26, 3) := by decide +kernel
theorem d_Sweep_clean_91 : decode prog_10_method_2_code 91 = .ok (.aload_n 0, 1) := by decide +kernel
theorem d_Sweep_clean_92 : decode prog_10_method_2_code 92 = .ok (.aload_n 1, 1) := by decide +kernel
theorem w_1452 : (Cond.methodLink "StowTongue$Sweeper" 42 ⟨"StowTongue$Sweeper", "takeUnreached", "(LStowTongue$Store;)I"⟩ : Cond) ∈ am_tbl := am_w 1452 (by decide +kernel) (by decide +kernel)
theorem w_1455 : (Cond.code ⟨"StowTongue$Sweeper", "takeUnreached", "(LStowTongue$Store;)I"⟩ prog_10_method_5_code 4 (some FieldType.int) : Cond) ∈ am_tbl := am_w 1455 (by decide +kernel) (by decide +kernel)
theorem l_Sweep_42 : am_L "StowTongue$Sweeper" 42 1 m_Sweep_takeUnreached := ⟨Or.inl w_1452, w_159, w_1455, ⟨by decide, by decide⟩, by decide +kernel, by decide⟩
theorem w_1454 : (Cond.instanceMethod ⟨"StowTongue$Sweeper", "takeUnreached", "(LStowTongue$Store;)I"⟩ : Cond) ∈ am_tbl := am_w 1454 (by decide +kernel) (by decide +kernel)
theorem w_82 : (Cond.selects "StowTongue$Sweeper" ⟨"StowTongue$Sweeper", "takeUnreached", "(LStowTongue$Store;)I"⟩ ⟨"StowTongue$Sweeper", "takeUnreached", "(LStowTongue$Store;)I"⟩ : Cond) ∈ am_tbl := am_w 82 (by decide +kernel) (by decide +kernel)
theorem d_Sweep_clean_93 : decode prog_10_method_2_code 93 = .ok (.invokevirtual 42, 3) := by decide +kernel
theorem d_Sweep_clean_96 : decode prog_10_method_2_code 96 = .ok (.ireturn, 1) := by decide +kernel
theorem w_1430 : (Cond.methodLink "StowTongue" 181 ⟨"StowTongue$Sweeper", "clean", "(LStowTongue$Store;)I"⟩ : Cond) ∈ am_tbl := am_w 1430 (by decide +kernel) (by decide +kernel)
theorem w_1433 : (Cond.code ⟨"StowTongue$Sweeper", "clean", "(LStowTongue$Store;)I"⟩ prog_10_method_2_code 3 (some FieldType.int) : Cond) ∈ am_tbl := am_w 1433 (by decide +kernel) (by decide +kernel)
theorem l_Stow_181 : am_L "StowTongue" 181 1 m_Sweep_clean := ⟨Or.inl w_1430, w_159, w_1433, ⟨by decide, by decide⟩, by decide +kernel, by decide⟩
theorem w_1431 : (Cond.instanceMethod ⟨"StowTongue$Sweeper", "clean", "(LStowTongue$Store;)I"⟩ : Cond) ∈ am_tbl := am_w 1431 (by decide +kernel) (by decide +kernel)
theorem w_1432 : (Cond.selects "StowTongue$Sweeper" ⟨"StowTongue$Sweeper", "clean", "(LStowTongue$Store;)I"⟩ ⟨"StowTongue$Sweeper", "clean", "(LStowTongue$Store;)I"⟩ : Cond) ∈ am_tbl := am_w 1432 (by decide +kernel) (by decide +kernel)
theorem d_Stow_sweep_13 : decode prog_1_method_13_code 13 = .ok (.invokevirtual 181, 3) := by decide +kernel
theorem d_Stow_sweep_16 : decode prog_1_method_13_code 16 = .ok (.istore_n 2, 1) := by decide +kernel
theorem d_Stow_sweep_17 : decode prog_1_method_13_code 17 = .ok (.iload_n 2, 1) := by decide +kernel
theorem d_Stow_sweep_18 : decode prog_1_method_13_code 18 = .ok (.ifCond .le 12, 3) := by decide +kernel
theorem d_Stow_sweep_30 : decode prog_1_method_13_code 30 = .ok (.iload_n 2, 1) := by decide +kernel
theorem d_Stow_sweep_31 : decode prog_1_method_13_code 31 = .ok (.ireturn, 1) := by decide +kernel
theorem d_Mod_sweep_0 : decode prog_13_method_70_code 0 = .ok (.aload_n 0, 1) := by decide +kernel
theorem d_Mod_sweep_1 : decode prog_13_method_70_code 1 = .ok (.getfield 389, 3) := by decide +kernel
theorem d_Mod_sweep_4 : decode prog_13_method_70_code 4 = .ok (.iconst 0, 1) := by decide +kernel
theorem w_2154 : (Cond.methodLink "StowTongueModel" 607 ⟨"java/util/Arrays", "fill", "([ZZ)V"⟩ : Cond) ∈ am_tbl := am_w 2154 (by decide +kernel) (by decide +kernel)
theorem w_2156 : (Cond.code ⟨"java/util/Arrays", "fill", "([ZZ)V"⟩ prog_29_method_111_code 4 none : Cond) ∈ am_tbl := am_w 2156 (by decide +kernel) (by decide +kernel)
theorem l_Mod_607 : am_L "StowTongueModel" 607 2 m_Arr_fill_aZZ := ⟨Or.inl w_2154, w_166, w_2156, ⟨by decide, by decide⟩, by decide +kernel, by decide⟩
theorem w_2155 : (Cond.static ⟨"java/util/Arrays", "fill", "([ZZ)V"⟩ : Cond) ∈ am_tbl := am_w 2155 (by decide +kernel) (by decide +kernel)
theorem d_Mod_sweep_5 : decode prog_13_method_70_code 5 = .ok (.invokestatic 607, 3) := by decide +kernel
theorem d_Mod_sweep_8 : decode prog_13_method_70_code 8 = .ok (.aload_n 0, 1) := by decide +kernel
theorem d_Mod_sweep_9 : decode prog_13_method_70_code 9 = .ok (.iconst 0, 1) := by decide +kernel
theorem w_1674 : (Cond.fieldLink "StowTongueModel" 604 "StowTongueModel" "walked" "I" : Cond) ∈ am_tbl := am_w 1674 (by decide +kernel) (by decide +kernel)
theorem f_Mod_604 : am_F "StowTongueModel" 604 14 52 := ⟨_, rfl, cl_14, by decide, Or.inl w_1674⟩
theorem d_Mod_sweep_10 : decode prog_13_method_70_code 10 = .ok (.putfield 604, 3) := by decide +kernel
theorem d_Mod_sweep_13 : decode prog_13_method_70_code 13 = .ok (.iconst 0, 1) := by decide +kernel
theorem d_Mod_sweep_14 : decode prog_13_method_70_code 14 = .ok (.istore_n 1, 1) := by decide +kernel
theorem d_Mod_sweep_15 : decode prog_13_method_70_code 15 = .ok (.iload_n 1, 1) := by decide +kernel
theorem d_Mod_sweep_16 : decode prog_13_method_70_code 16 = .ok (.aload_n 0, 1) := by decide +kernel
theorem d_Mod_sweep_17 : decode prog_13_method_70_code 17 = .ok (.getfield 349, 3) := by decide +kernel
theorem w_1590 : (Cond.fieldLink "StowTongueModel" 463 "StowTongueModel$State" "roots" "I" : Cond) ∈ am_tbl := am_w 1590 (by decide +kernel) (by decide +kernel)
theorem f_Mod_463 : am_F "StowTongueModel" 463 13 9 := ⟨_, rfl, cl_13, by decide, Or.inl w_1590⟩
theorem d_Mod_sweep_20 : decode prog_13_method_70_code 20 = .ok (.getfield 463, 3) := by decide +kernel
theorem d_Mod_sweep_23 : decode prog_13_method_70_code 23 = .ok (.if_icmp .ge 37, 3) := by decide +kernel
theorem d_Mod_sweep_60 : decode prog_13_method_70_code 60 = .ok (.iconst 0, 1) := by decide +kernel
theorem d_Mod_sweep_61 : decode prog_13_method_70_code 61 = .ok (.istore_n 1, 1) := by decide +kernel
theorem d_Mod_sweep_62 : decode prog_13_method_70_code 62 = .ok (.iload_n 1, 1) := by decide +kernel
theorem d_Mod_sweep_63 : decode prog_13_method_70_code 63 = .ok (.aload_n 0, 1) := by decide +kernel
theorem d_Mod_sweep_64 : decode prog_13_method_70_code 64 = .ok (.getfield 604, 3) := by decide +kernel
theorem d_Mod_sweep_67 : decode prog_13_method_70_code 67 = .ok (.if_icmp .ge 75, 3) := by decide +kernel
theorem d_Mod_sweep_142 : decode prog_13_method_70_code 142 = .ok (.iconst 0, 1) := by decide +kernel
theorem d_Mod_sweep_143 : decode prog_13_method_70_code 143 = .ok (.istore_n 1, 1) := by decide +kernel
theorem d_Mod_sweep_144 : decode prog_13_method_70_code 144 = .ok (.iconst 0, 1) := by decide +kernel
theorem d_Mod_sweep_145 : decode prog_13_method_70_code 145 = .ok (.istore_n 2, 1) := by decide +kernel
theorem d_Mod_sweep_218 : decode prog_13_method_70_code 218 = .ok (.iload_n 1, 1) := by decide +kernel
theorem d_Mod_sweep_219 : decode prog_13_method_70_code 219 = .ok (.ifCond .le 9, 3) := by decide +kernel
theorem d_Mod_sweep_228 : decode prog_13_method_70_code 228 = .ok (.iload_n 1, 1) := by decide +kernel
theorem d_Mod_sweep_229 : decode prog_13_method_70_code 229 = .ok (.ireturn, 1) := by decide +kernel
abbrev m_Stow_count : am_M := (⟨"StowTongue", "count", "(I)I"⟩, prog_1_method_14_code, 3, (some FieldType.int))
theorem d_Stow_count_0 : decode prog_1_method_14_code 0 = .ok (.aload_n 0, 1) := by decide +kernel
theorem d_Stow_count_1 : decode prog_1_method_14_code 1 = .ok (.getfield 37, 3) := by decide +kernel
theorem d_Stow_count_4 : decode prog_1_method_14_code 4 = .ok (.invokevirtual 103, 3) := by decide +kernel
theorem d_Stow_count_7 : decode prog_1_method_14_code 7 = .ok (.astore_n 2, 1) := by decide +kernel
theorem d_Stow_count_8 : decode prog_1_method_14_code 8 = .ok (.iload_n 1, 1) := by decide +kernel
theorem d_Stow_count_9 : decode prog_1_method_14_code 9 = .ok (.tableswitch 104 0 7 #[47, 52, 57, 62, 67, 83, 91, 99], 47) := by decide +kernel
theorem d_Stow_count_56 : decode prog_1_method_14_code 56 = .ok (.aload_n 2, 1) := by decide +kernel
theorem w_1465 : (Cond.methodLink "StowTongue" 185 ⟨"StowTongue$Store", "objects", "()I"⟩ : Cond) ∈ am_tbl := am_w 1465 (by decide +kernel) (by decide +kernel)
theorem w_1468 : (Cond.code ⟨"StowTongue$Store", "objects", "()I"⟩ prog_9_method_3_code 3 (some FieldType.int) : Cond) ∈ am_tbl := am_w 1468 (by decide +kernel) (by decide +kernel)
theorem l_Stow_185 : am_L "StowTongue" 185 0 m_Store_objects := ⟨Or.inl w_1465, w_169, w_1468, ⟨by decide, by decide⟩, by decide +kernel, by decide⟩
theorem w_1466 : (Cond.instanceMethod ⟨"StowTongue$Store", "objects", "()I"⟩ : Cond) ∈ am_tbl := am_w 1466 (by decide +kernel) (by decide +kernel)
theorem w_1467 : (Cond.selects "StowTongue$Store" ⟨"StowTongue$Store", "objects", "()I"⟩ ⟨"StowTongue$Store", "objects", "()I"⟩ : Cond) ∈ am_tbl := am_w 1467 (by decide +kernel) (by decide +kernel)
theorem d_Stow_count_57 : decode prog_1_method_14_code 57 = .ok (.invokevirtual 185, 3) := by decide +kernel
theorem d_Stow_count_60 : decode prog_1_method_14_code 60 = .ok (.ireturn, 1) := by decide +kernel
abbrev m_Mod_count : am_M := (⟨"StowTongueModel", "count", "(I)I"⟩, prog_13_method_74_code, 4, (some FieldType.int))
theorem d_Mod_count_0 : decode prog_13_method_74_code 0 = .ok (.iconst 0, 1) := by decide +kernel
theorem d_Mod_count_1 : decode prog_13_method_74_code 1 = .ok (.istore_n 2, 1) := by decide +kernel
theorem d_Mod_count_2 : decode prog_13_method_74_code 2 = .ok (.iload_n 1, 1) := by decide +kernel
theorem d_Mod_count_3 : decode prog_13_method_74_code 3 = .ok (.tableswitch 122 0 7 #[45, 53, 61, 69, 77, 82, 112, 117], 45) := by decide +kernel
theorem d_Mod_count_48 : decode prog_13_method_74_code 48 = .ok (.aload_n 0, 1) := by decide +kernel
theorem d_Mod_count_49 : decode prog_13_method_74_code 49 = .ok (.getfield 349, 3) := by decide +kernel
theorem w_1588 : (Cond.fieldLink "StowTongueModel" 578 "StowTongueModel$State" "objects" "I" : Cond) ∈ am_tbl := am_w 1588 (by decide +kernel) (by decide +kernel)
theorem f_Mod_578 : am_F "StowTongueModel" 578 13 8 := ⟨_, rfl, cl_13, by decide, Or.inl w_1588⟩
theorem d_Mod_count_52 : decode prog_13_method_74_code 52 = .ok (.getfield 578, 3) := by decide +kernel
theorem d_Mod_count_55 : decode prog_13_method_74_code 55 = .ok (.ireturn, 1) := by decide +kernel
theorem d_Stow_count_61 : decode prog_1_method_14_code 61 = .ok (.aload_n 2, 1) := by decide +kernel
theorem w_1469 : (Cond.methodLink "StowTongue" 188 ⟨"StowTongue$Store", "roots", "()I"⟩ : Cond) ∈ am_tbl := am_w 1469 (by decide +kernel) (by decide +kernel)
theorem l_Stow_188 : am_L "StowTongue" 188 0 m_Store_roots := ⟨Or.inl w_1469, w_169, w_1437, ⟨by decide, by decide⟩, by decide +kernel, by decide⟩
theorem d_Stow_count_62 : decode prog_1_method_14_code 62 = .ok (.invokevirtual 188, 3) := by decide +kernel
theorem d_Stow_count_65 : decode prog_1_method_14_code 65 = .ok (.ireturn, 1) := by decide +kernel
theorem d_Mod_count_56 : decode prog_13_method_74_code 56 = .ok (.aload_n 0, 1) := by decide +kernel
theorem d_Mod_count_57 : decode prog_13_method_74_code 57 = .ok (.getfield 349, 3) := by decide +kernel
theorem d_Mod_count_60 : decode prog_13_method_74_code 60 = .ok (.getfield 463, 3) := by decide +kernel
theorem d_Mod_count_63 : decode prog_13_method_74_code 63 = .ok (.ireturn, 1) := by decide +kernel
theorem d_Stow_count_66 : decode prog_1_method_14_code 66 = .ok (.aload_n 2, 1) := by decide +kernel
abbrev m_Store_functions : am_M := (⟨"StowTongue$Store", "functions", "()I"⟩, prog_9_method_18_code, 1, (some FieldType.int))
theorem d_Store_functions_0 : decode prog_9_method_18_code 0 = .ok (.aload_n 0, 1) := by decide +kernel
theorem d_Store_functions_1 : decode prog_9_method_18_code 1 = .ok (.getfield 51, 3) := by decide +kernel
theorem d_Store_functions_4 : decode prog_9_method_18_code 4 = .ok (.ireturn, 1) := by decide +kernel
theorem w_1470 : (Cond.methodLink "StowTongue" 191 ⟨"StowTongue$Store", "functions", "()I"⟩ : Cond) ∈ am_tbl := am_w 1470 (by decide +kernel) (by decide +kernel)
theorem w_1473 : (Cond.code ⟨"StowTongue$Store", "functions", "()I"⟩ prog_9_method_18_code 1 (some FieldType.int) : Cond) ∈ am_tbl := am_w 1473 (by decide +kernel) (by decide +kernel)
theorem l_Stow_191 : am_L "StowTongue" 191 0 m_Store_functions := ⟨Or.inl w_1470, w_169, w_1473, ⟨by decide, by decide⟩, by decide +kernel, by decide⟩
theorem w_1471 : (Cond.instanceMethod ⟨"StowTongue$Store", "functions", "()I"⟩ : Cond) ∈ am_tbl := am_w 1471 (by decide +kernel) (by decide +kernel)
theorem w_1472 : (Cond.selects "StowTongue$Store" ⟨"StowTongue$Store", "functions", "()I"⟩ ⟨"StowTongue$Store", "functions", "()I"⟩ : Cond) ∈ am_tbl := am_w 1472 (by decide +kernel) (by decide +kernel)
theorem d_Stow_count_67 : decode prog_1_method_14_code 67 = .ok (.invokevirtual 191, 3) := by decide +kernel
theorem d_Stow_count_70 : decode prog_1_method_14_code 70 = .ok (.ireturn, 1) := by decide +kernel
theorem d_Mod_count_64 : decode prog_13_method_74_code 64 = .ok (.aload_n 0, 1) := by decide +kernel
theorem d_Mod_count_65 : decode prog_13_method_74_code 65 = .ok (.getfield 349, 3) := by decide +kernel
theorem w_1592 : (Cond.fieldLink "StowTongueModel" 396 "StowTongueModel$State" "functions" "I" : Cond) ∈ am_tbl := am_w 1592 (by decide +kernel) (by decide +kernel)
theorem f_Mod_396 : am_F "StowTongueModel" 396 13 10 := ⟨_, rfl, cl_13, by decide, Or.inl w_1592⟩
theorem d_Mod_count_68 : decode prog_13_method_74_code 68 = .ok (.getfield 396, 3) := by decide +kernel
theorem d_Mod_count_71 : decode prog_13_method_74_code 71 = .ok (.ireturn, 1) := by decide +kernel
theorem d_Stow_count_71 : decode prog_1_method_14_code 71 = .ok (.aload_n 2, 1) := by decide +kernel
abbrev m_Store_functionTokens : am_M := (⟨"StowTongue$Store", "functionTokens", "()I"⟩, prog_9_method_21_code, 3, (some FieldType.int))
theorem d_Store_functionTokens_0 : decode prog_9_method_21_code 0 = .ok (.iconst 0, 1) := by decide +kernel
theorem d_Store_functionTokens_1 : decode prog_9_method_21_code 1 = .ok (.istore_n 1, 1) := by decide +kernel
theorem d_Store_functionTokens_2 : decode prog_9_method_21_code 2 = .ok (.iconst 0, 1) := by decide +kernel
theorem d_Store_functionTokens_3 : decode prog_9_method_21_code 3 = .ok (.istore_n 2, 1) := by decide +kernel
theorem d_Store_functionTokens_4 : decode prog_9_method_21_code 4 = .ok (.iload_n 2, 1) := by decide +kernel
theorem d_Store_functionTokens_5 : decode prog_9_method_21_code 5 = .ok (.aload_n 0, 1) := by decide +kernel
theorem d_Store_functionTokens_6 : decode prog_9_method_21_code 6 = .ok (.getfield 51, 3) := by decide +kernel
theorem d_Store_functionTokens_9 : decode prog_9_method_21_code 9 = .ok (.if_icmp .ge 34, 3) := by decide +kernel
theorem d_Store_functionTokens_43 : decode prog_9_method_21_code 43 = .ok (.iload_n 1, 1) := by decide +kernel
theorem d_Store_functionTokens_44 : decode prog_9_method_21_code 44 = .ok (.ireturn, 1) := by decide +kernel
theorem w_1474 : (Cond.methodLink "StowTongue" 194 ⟨"StowTongue$Store", "functionTokens", "()I"⟩ : Cond) ∈ am_tbl := am_w 1474 (by decide +kernel) (by decide +kernel)
theorem w_1052 : (Cond.code ⟨"StowTongue$Store", "functionTokens", "()I"⟩ prog_9_method_21_code 3 (some FieldType.int) : Cond) ∈ am_tbl := am_w 1052 (by decide +kernel) (by decide +kernel)
theorem l_Stow_194 : am_L "StowTongue" 194 0 m_Store_functionTokens := ⟨Or.inl w_1474, w_169, w_1052, ⟨by decide, by decide⟩, by decide +kernel, by decide⟩
theorem w_1050 : (Cond.instanceMethod ⟨"StowTongue$Store", "functionTokens", "()I"⟩ : Cond) ∈ am_tbl := am_w 1050 (by decide +kernel) (by decide +kernel)
theorem w_1051 : (Cond.selects "StowTongue$Store" ⟨"StowTongue$Store", "functionTokens", "()I"⟩ ⟨"StowTongue$Store", "functionTokens", "()I"⟩ : Cond) ∈ am_tbl := am_w 1051 (by decide +kernel) (by decide +kernel)
theorem d_Stow_count_72 : decode prog_1_method_14_code 72 = .ok (.invokevirtual 194, 3) := by decide +kernel
theorem d_Stow_count_75 : decode prog_1_method_14_code 75 = .ok (.ireturn, 1) := by decide +kernel
theorem d_Mod_count_72 : decode prog_13_method_74_code 72 = .ok (.aload_n 0, 1) := by decide +kernel
theorem d_Mod_count_73 : decode prog_13_method_74_code 73 = .ok (.getfield 349, 3) := by decide +kernel
abbrev m_Mod_tokensOf : am_M := (⟨"StowTongueModel", "tokensOf", "(LStowTongueModel$State;)I"⟩, prog_13_method_41_code, 3, (some FieldType.int))
theorem d_Mod_tokensOf_0 : decode prog_13_method_41_code 0 = .ok (.iconst 0, 1) := by decide +kernel
theorem d_Mod_tokensOf_1 : decode prog_13_method_41_code 1 = .ok (.istore_n 1, 1) := by decide +kernel
theorem d_Mod_tokensOf_2 : decode prog_13_method_41_code 2 = .ok (.iconst 0, 1) := by decide +kernel
theorem d_Mod_tokensOf_3 : decode prog_13_method_41_code 3 = .ok (.istore_n 2, 1) := by decide +kernel
theorem d_Mod_tokensOf_4 : decode prog_13_method_41_code 4 = .ok (.iload_n 2, 1) := by decide +kernel
theorem d_Mod_tokensOf_5 : decode prog_13_method_41_code 5 = .ok (.aload_n 0, 1) := by decide +kernel
theorem d_Mod_tokensOf_6 : decode prog_13_method_41_code 6 = .ok (.getfield 396, 3) := by decide +kernel
theorem d_Mod_tokensOf_9 : decode prog_13_method_41_code 9 = .ok (.if_icmp .ge 21, 3) := by decide +kernel
theorem d_Mod_tokensOf_30 : decode prog_13_method_41_code 30 = .ok (.iload_n 1, 1) := by decide +kernel
theorem d_Mod_tokensOf_31 : decode prog_13_method_41_code 31 = .ok (.ireturn, 1) := by decide +kernel
theorem w_2018 : (Cond.methodLink "StowTongueModel" 431 ⟨"StowTongueModel", "tokensOf", "(LStowTongueModel$State;)I"⟩ : Cond) ∈ am_tbl := am_w 2018 (by decide +kernel) (by decide +kernel)
theorem w_160 : (Cond.initialized "StowTongueModel" : Cond) ∈ am_tbl := am_w 160 (by decide +kernel) (by decide +kernel)
theorem w_2020 : (Cond.code ⟨"StowTongueModel", "tokensOf", "(LStowTongueModel$State;)I"⟩ prog_13_method_41_code 3 (some FieldType.int) : Cond) ∈ am_tbl := am_w 2020 (by decide +kernel) (by decide +kernel)
theorem l_Mod_431 : am_L "StowTongueModel" 431 1 m_Mod_tokensOf := ⟨Or.inl w_2018, w_160, w_2020, ⟨by decide, by decide⟩, by decide +kernel, by decide⟩
theorem w_2019 : (Cond.static ⟨"StowTongueModel", "tokensOf", "(LStowTongueModel$State;)I"⟩ : Cond) ∈ am_tbl := am_w 2019 (by decide +kernel) (by decide +kernel)
theorem d_Mod_count_76 : decode prog_13_method_74_code 76 = .ok (.invokestatic 431, 3) := by decide +kernel
theorem d_Mod_count_79 : decode prog_13_method_74_code 79 = .ok (.ireturn, 1) := by decide +kernel
theorem d_Stow_count_76 : decode prog_1_method_14_code 76 = .ok (.aload_n 0, 1) := by decide +kernel
theorem d_Stow_count_77 : decode prog_1_method_14_code 77 = .ok (.getfield 37, 3) := by decide +kernel
abbrev m_Log_safeBytes : am_M := (⟨"StowTongue$Log", "safeBytes", "()I"⟩, prog_5_method_12_code, 1, (some FieldType.int))
theorem d_Log_safeBytes_0 : decode prog_5_method_12_code 0 = .ok (.aload_n 0, 1) := by decide +kernel
theorem w_468 : (Cond.fieldLink "StowTongue$Log" 50 "StowTongue$Log" "safeBytes" "I" : Cond) ∈ am_tbl := am_w 468 (by decide +kernel) (by decide +kernel)
theorem f_Log_50 : am_F "StowTongue$Log" 50 7 3 := ⟨_, rfl, cl_7, by decide, Or.inl w_468⟩
theorem d_Log_safeBytes_1 : decode prog_5_method_12_code 1 = .ok (.getfield 50, 3) := by decide +kernel
theorem d_Log_safeBytes_4 : decode prog_5_method_12_code 4 = .ok (.ireturn, 1) := by decide +kernel
theorem w_1475 : (Cond.methodLink "StowTongue" 197 ⟨"StowTongue$Log", "safeBytes", "()I"⟩ : Cond) ∈ am_tbl := am_w 1475 (by decide +kernel) (by decide +kernel)
theorem w_1478 : (Cond.code ⟨"StowTongue$Log", "safeBytes", "()I"⟩ prog_5_method_12_code 1 (some FieldType.int) : Cond) ∈ am_tbl := am_w 1478 (by decide +kernel) (by decide +kernel)
theorem l_Stow_197 : am_L "StowTongue" 197 0 m_Log_safeBytes := ⟨Or.inl w_1475, w_158, w_1478, ⟨by decide, by decide⟩, by decide +kernel, by decide⟩
theorem w_1476 : (Cond.instanceMethod ⟨"StowTongue$Log", "safeBytes", "()I"⟩ : Cond) ∈ am_tbl := am_w 1476 (by decide +kernel) (by decide +kernel)
theorem w_1477 : (Cond.selects "StowTongue$Log" ⟨"StowTongue$Log", "safeBytes", "()I"⟩ ⟨"StowTongue$Log", "safeBytes", "()I"⟩ : Cond) ∈ am_tbl := am_w 1477 (by decide +kernel) (by decide +kernel)
theorem d_Stow_count_80 : decode prog_1_method_14_code 80 = .ok (.invokevirtual 197, 3) := by decide +kernel
theorem d_Stow_count_83 : decode prog_1_method_14_code 83 = .ok (.aload_n 0, 1) := by decide +kernel
theorem d_Stow_count_84 : decode prog_1_method_14_code 84 = .ok (.getfield 37, 3) := by decide +kernel
abbrev m_Log_waitingBytes : am_M := (⟨"StowTongue$Log", "waitingBytes", "()I"⟩, prog_5_method_13_code, 3, (some FieldType.int))
theorem d_Log_waitingBytes_0 : decode prog_5_method_13_code 0 = .ok (.iconst 0, 1) := by decide +kernel
theorem d_Log_waitingBytes_1 : decode prog_5_method_13_code 1 = .ok (.istore_n 1, 1) := by decide +kernel
theorem d_Log_waitingBytes_2 : decode prog_5_method_13_code 2 = .ok (.iconst 1, 1) := by decide +kernel
theorem d_Log_waitingBytes_3 : decode prog_5_method_13_code 3 = .ok (.istore_n 2, 1) := by decide +kernel
theorem d_Log_waitingBytes_4 : decode prog_5_method_13_code 4 = .ok (.iload_n 2, 1) := by decide +kernel
theorem d_Log_waitingBytes_5 : decode prog_5_method_13_code 5 = .ok (.aload_n 0, 1) := by decide +kernel
theorem d_Log_waitingBytes_6 : decode prog_5_method_13_code 6 = .ok (.getfield 27, 3) := by decide +kernel
theorem d_Log_waitingBytes_9 : decode prog_5_method_13_code 9 = .ok (.if_icmp .gt 18, 3) := by decide +kernel
theorem d_Log_waitingBytes_27 : decode prog_5_method_13_code 27 = .ok (.iload_n 1, 1) := by decide +kernel
theorem d_Log_waitingBytes_28 : decode prog_5_method_13_code 28 = .ok (.ireturn, 1) := by decide +kernel
theorem w_1479 : (Cond.methodLink "StowTongue" 200 ⟨"StowTongue$Log", "waitingBytes", "()I"⟩ : Cond) ∈ am_tbl := am_w 1479 (by decide +kernel) (by decide +kernel)
theorem w_1482 : (Cond.code ⟨"StowTongue$Log", "waitingBytes", "()I"⟩ prog_5_method_13_code 3 (some FieldType.int) : Cond) ∈ am_tbl := am_w 1482 (by decide +kernel) (by decide +kernel)
theorem l_Stow_200 : am_L "StowTongue" 200 0 m_Log_waitingBytes := ⟨Or.inl w_1479, w_158, w_1482, ⟨by decide, by decide⟩, by decide +kernel, by decide⟩
theorem w_1480 : (Cond.instanceMethod ⟨"StowTongue$Log", "waitingBytes", "()I"⟩ : Cond) ∈ am_tbl := am_w 1480 (by decide +kernel) (by decide +kernel)
theorem w_1481 : (Cond.selects "StowTongue$Log" ⟨"StowTongue$Log", "waitingBytes", "()I"⟩ ⟨"StowTongue$Log", "waitingBytes", "()I"⟩ : Cond) ∈ am_tbl := am_w 1481 (by decide +kernel) (by decide +kernel)
theorem d_Stow_count_87 : decode prog_1_method_14_code 87 = .ok (.invokevirtual 200, 3) := by decide +kernel
theorem d_Stow_count_90 : decode prog_1_method_14_code 90 = .ok (.iadd, 1) := by decide +kernel
theorem d_Stow_count_91 : decode prog_1_method_14_code 91 = .ok (.ireturn, 1) := by decide +kernel
theorem d_Mod_count_80 : decode prog_13_method_74_code 80 = .ok (.aload_n 0, 1) := by decide +kernel
theorem w_1657 : (Cond.fieldLink "StowTongueModel" 480 "StowTongueModel" "logged" "I" : Cond) ∈ am_tbl := am_w 1657 (by decide +kernel) (by decide +kernel)
theorem f_Mod_480 : am_F "StowTongueModel" 480 14 35 := ⟨_, rfl, cl_14, by decide, Or.inl w_1657⟩
theorem d_Mod_count_81 : decode prog_13_method_74_code 81 = .ok (.getfield 480, 3) := by decide +kernel
theorem d_Mod_count_84 : decode prog_13_method_74_code 84 = .ok (.ireturn, 1) := by decide +kernel
theorem d_Stow_count_92 : decode prog_1_method_14_code 92 = .ok (.aload_n 0, 1) := by decide +kernel
theorem d_Stow_count_93 : decode prog_1_method_14_code 93 = .ok (.getfield 37, 3) := by decide +kernel
theorem d_Stow_count_96 : decode prog_1_method_14_code 96 = .ok (.invokevirtual 200, 3) := by decide +kernel
theorem d_Stow_count_99 : decode prog_1_method_14_code 99 = .ok (.ireturn, 1) := by decide +kernel
theorem d_Mod_count_85 : decode prog_13_method_74_code 85 = .ok (.iconst 0, 1) := by decide +kernel
theorem d_Mod_count_86 : decode prog_13_method_74_code 86 = .ok (.istore_n 3, 1) := by decide +kernel
theorem d_Mod_count_87 : decode prog_13_method_74_code 87 = .ok (.iload_n 3, 1) := by decide +kernel
theorem d_Mod_count_88 : decode prog_13_method_74_code 88 = .ok (.aload_n 0, 1) := by decide +kernel
theorem d_Mod_count_89 : decode prog_13_method_74_code 89 = .ok (.getfield 409, 3) := by decide +kernel
theorem d_Mod_count_92 : decode prog_13_method_74_code 92 = .ok (.if_icmp .ge 21, 3) := by decide +kernel
theorem d_Mod_count_113 : decode prog_13_method_74_code 113 = .ok (.iload_n 2, 1) := by decide +kernel
theorem d_Mod_count_114 : decode prog_13_method_74_code 114 = .ok (.ireturn, 1) := by decide +kernel
theorem d_Stow_count_100 : decode prog_1_method_14_code 100 = .ok (.aload_n 0, 1) := by decide +kernel
theorem d_Stow_count_101 : decode prog_1_method_14_code 101 = .ok (.getfield 37, 3) := by decide +kernel
theorem d_Stow_count_104 : decode prog_1_method_14_code 104 = .ok (.invokevirtual 169, 3) := by decide +kernel
theorem d_Stow_count_107 : decode prog_1_method_14_code 107 = .ok (.ireturn, 1) := by decide +kernel
theorem d_Mod_count_115 : decode prog_13_method_74_code 115 = .ok (.aload_n 0, 1) := by decide +kernel
theorem d_Mod_count_116 : decode prog_13_method_74_code 116 = .ok (.getfield 409, 3) := by decide +kernel
theorem d_Mod_count_119 : decode prog_13_method_74_code 119 = .ok (.ireturn, 1) := by decide +kernel
theorem d_Stow_count_108 : decode prog_1_method_14_code 108 = .ok (.aload_n 0, 1) := by decide +kernel
theorem w_504 : (Cond.fieldLink "StowTongue" 86 "StowTongue" "fuelTaken" "I" : Cond) ∈ am_tbl := am_w 504 (by decide +kernel) (by decide +kernel)
theorem f_Stow_86 : am_F "StowTongue" 86 9 9 := ⟨_, rfl, cl_9, by decide, Or.inl w_504⟩
theorem d_Stow_count_109 : decode prog_1_method_14_code 109 = .ok (.getfield 86, 3) := by decide +kernel
theorem d_Stow_count_112 : decode prog_1_method_14_code 112 = .ok (.ireturn, 1) := by decide +kernel
theorem d_Mod_count_120 : decode prog_13_method_74_code 120 = .ok (.aload_n 0, 1) := by decide +kernel
theorem w_1666 : (Cond.fieldLink "StowTongueModel" 446 "StowTongueModel" "used" "I" : Cond) ∈ am_tbl := am_w 1666 (by decide +kernel) (by decide +kernel)
theorem f_Mod_446 : am_F "StowTongueModel" 446 14 44 := ⟨_, rfl, cl_14, by decide, Or.inl w_1666⟩
theorem d_Mod_count_121 : decode prog_13_method_74_code 121 = .ok (.getfield 446, 3) := by decide +kernel
theorem d_Mod_count_124 : decode prog_13_method_74_code 124 = .ok (.ireturn, 1) := by decide +kernel
end
section
section
variable {K : am_K} {X : Nat → am_C}
theorem am_topi {M : am_M} {d kc ks uc us pc : Nat} {lv : List (Nat × Value)} {st : List Value} {h : am_H} {post : Option Value → am_H → Prop} {x : Int32} (v : Int32) (e : x = v) (k : am_W K X M d kc ks uc us pc lv (.int v :: st) h post) : am_W K X M d kc ks uc us pc lv (.int x :: st) h post := by
  rw [e]
  exact k
theorem am_topl {M : am_M} {d kc ks uc us pc : Nat} {lv : List (Nat × Value)} {st : List Value} {h : am_H} {post : Option Value → am_H → Prop} {x : Int64} (v : Int64) (e : x = v) (k : am_W K X M d kc ks uc us pc lv (.long v :: st) h post) : am_W K X M d kc ks uc us pc lv (.long x :: st) h post := by
  rw [e]
  exact k
theorem am_in {i : Int32} {n : Nat} (h : ¬ i < 0) (h2 : i.toNatClampNeg < n) : vp_in i n := fun q => q.elim h (fun q => absurd h2 (Nat.not_lt.mpr q))

theorem am_for {M : am_M} {d kc ks uc us pc : Nat} {post : Option Value → am_H → Prop} (B : Nat) (lvk : Nat → List (Nat × Value)) (hk : Nat → am_H) (body : ∀ k, k < B → am_W K X M d kc ks uc us pc (lvk (k + 1)) [] (hk (k + 1)) post → am_W K X M d kc ks uc us pc (lvk k) [] (hk k) post) (fin : am_W K X M d kc ks uc us pc (lvk B) [] (hk B) post) : am_W K X M d kc ks uc us pc (lvk 0) [] (hk 0) post := by
  have key : ∀ m k : Nat, k + m = B → am_W K X M d kc ks uc us pc (lvk k) [] (hk k) post := by
    intro m
    induction m with
    | zero => intro k e; rw [show k = B by omega]; exact fin
    | succ m ih => intro k e; exact body k (by omega) (ih (k + 1) (by omega))
  exact key B 0 (by omega)
end
end
section
section
variable {K : am_K} {X : Nat → am_C}
set_option maxRecDepth 100000 in
set_option maxHeartbeats 4000000 in
theorem c_Arr_fill_aII (O : am_ok K X) {n q N : Nat} {f : Nat → am_C} {g : Nat → Value} {x : Int32} (h0 : f q = .inl (.int, N, g)) (h1 : 128 ≤ q) (h2 : q < n) (hN : N < 2 ^ 31) : am_Mt K X m_Arr_fill_aII 0 0 0 [.ref q, .int x] (n, f) (fun v h' => v = none ∧ h'.1 = n ∧ h'.2 q = (.inl (.int, N, fun j => if j < N then .int x else g j)) ∧ ∀ x, x ∉ ([q] : List Nat) → h'.2 x = f x) := by
  refine am_enter (by decide +kernel) (Nat.le_of_ble_eq_true rfl) ?_
  refine am_iconst (v := 0) d_Arr_fill_aII_0 (by decide) ?_
  refine am_istore_n d_Arr_fill_aII_1 rfl (by decide) ?_
  refine am_aload_n d_Arr_fill_aII_2 rfl rfl ?_
  refine am_alen (v := nI N) O d_Arr_fill_aII_3 h0 (by omega) (by omega) (by decide) rfl ?_
  refine am_istore_n d_Arr_fill_aII_4 rfl (by decide) ?_
  refine am_self (q := q) (.inl (.int, N, fun j => if j < 0 then .int x else g j)) (by rw [h0]; simp) ?_
  refine am_locs (lv' := [(0, .ref q), (1, .int x), (2, .int (nI 0)), (3, .int (nI N))]) rfl ?_
  refine am_for N (fun k => [(0, .ref q), (1, .int x), (2, .int (nI k)), (3, .int (nI N))]) (fun k => (n, va_up f q (.inl (.int, N, fun j => if j < k then .int x else g j)))) (fun k hk ih => ?_) ?_
  · refine am_iload_n d_Arr_fill_aII_5 rfl rfl ?_
    refine am_iload_n d_Arr_fill_aII_6 rfl rfl ?_
    refine am_icmp_ge (tgt := 20) d_Arr_fill_aII_7 (by decide) (fun c => absurd c (nI_ge hk hN)) (fun _ => ?_)
    refine am_aload_n d_Arr_fill_aII_10 rfl rfl ?_
    refine am_iload_n d_Arr_fill_aII_11 rfl rfl ?_
    refine am_iload_n d_Arr_fill_aII_12 rfl rfl ?_
    refine am_iast O (by decide) d_Arr_fill_aII_13 (va_up_self _ _ _) (by omega) (by omega) (vp_in_nI hk hN) ?_
    refine am_iinc (v := 1) d_Arr_fill_aII_14 rfl (by decide) (by decide) ?_
    refine am_goto (tgt := 5) d_Arr_fill_aII_17 (by decide) ?_
    rw [bx_uu, nI_clamp (by omega)]
    refine am_locs (lv' := [(0, .ref q), (1, .int x), (2, .int (nI (k + 1))), (3, .int (nI N))]) (by rw [← nI_1]; rfl) ?_
    have e : (updV (fun j => if j < k then .int x else g j) k (.int x)) = fun j => if j < k + 1 then .int x else g j := by
      funext j
      unfold updV
      by_cases h1 : j = k
      · rw [if_pos h1, if_pos (by omega)]
      · rw [if_neg h1]
        dsimp only
        by_cases h2 : j < k
        · rw [if_pos h2, if_pos (by omega)]
        · rw [if_neg h2, if_neg (by omega)]
    rw [e]
    exact ih
  · refine am_iload_n d_Arr_fill_aII_5 rfl rfl ?_
    refine am_iload_n d_Arr_fill_aII_6 rfl rfl ?_
    refine am_icmp_ge (tgt := 20) d_Arr_fill_aII_7 (by decide) (fun _ => ?_) (fun c => absurd (nI_le (Nat.le_refl N) hN) c)
    exact am_vret rfl d_Arr_fill_aII_20 ⟨rfl, rfl, va_up_self _ _ _, fun x hx => va_up_ne _ _ (by simpa using hx)⟩

set_option maxRecDepth 100000 in
set_option maxHeartbeats 4000000 in
theorem c_Arr_fill_aZZ (O : am_ok K X) {n q N : Nat} {f : Nat → am_C} {g : Nat → Value}  (h0 : f q = .inl (.boolean, N, g)) (h1 : 128 ≤ q) (h2 : q < n) (hN : N < 2 ^ 31) : am_Mt K X m_Arr_fill_aZZ 0 0 0 [.ref q, .int 0] (n, f) (fun v h' => v = none ∧ h'.1 = n ∧ h'.2 q = (.inl (.boolean, N, fun j => if j < N then .int 0 else g j)) ∧ ∀ x, x ∉ ([q] : List Nat) → h'.2 x = f x) := by
  refine am_enter (by decide +kernel) (Nat.le_of_ble_eq_true rfl) ?_
  refine am_iconst (v := 0) d_Arr_fill_aZZ_0 (by decide) ?_
  refine am_istore_n d_Arr_fill_aZZ_1 rfl (by decide) ?_
  refine am_aload_n d_Arr_fill_aZZ_2 rfl rfl ?_
  refine am_alen (v := nI N) O d_Arr_fill_aZZ_3 h0 (by omega) (by omega) (by decide) rfl ?_
  refine am_istore_n d_Arr_fill_aZZ_4 rfl (by decide) ?_
  refine am_self (q := q) (.inl (.boolean, N, fun j => if j < 0 then .int 0 else g j)) (by rw [h0]; simp) ?_
  refine am_locs (lv' := [(0, .ref q), (1, .int 0), (2, .int (nI 0)), (3, .int (nI N))]) rfl ?_
  refine am_for N (fun k => [(0, .ref q), (1, .int 0), (2, .int (nI k)), (3, .int (nI N))]) (fun k => (n, va_up f q (.inl (.boolean, N, fun j => if j < k then .int 0 else g j)))) (fun k hk ih => ?_) ?_
  · refine am_iload_n d_Arr_fill_aZZ_5 rfl rfl ?_
    refine am_iload_n d_Arr_fill_aZZ_6 rfl rfl ?_
    refine am_icmp_ge (tgt := 20) d_Arr_fill_aZZ_7 (by decide) (fun c => absurd c (nI_ge hk hN)) (fun _ => ?_)
    refine am_aload_n d_Arr_fill_aZZ_10 rfl rfl ?_
    refine am_iload_n d_Arr_fill_aZZ_11 rfl rfl ?_
    refine am_iload_n d_Arr_fill_aZZ_12 rfl rfl ?_
    refine am_zast O (by decide) d_Arr_fill_aZZ_13 (va_up_self _ _ _) (by omega) (by omega) (vp_in_nI hk hN) ?_
    refine am_iinc (v := 1) d_Arr_fill_aZZ_14 rfl (by decide) (by decide) ?_
    refine am_goto (tgt := 5) d_Arr_fill_aZZ_17 (by decide) ?_
    rw [bx_uu, nI_clamp (by omega)]
    refine am_locs (lv' := [(0, .ref q), (1, .int 0), (2, .int (nI (k + 1))), (3, .int (nI N))]) (by rw [← nI_1]; rfl) ?_
    have e : (updV (fun j => if j < k then .int 0 else g j) k (.int 0)) = fun j => if j < k + 1 then .int 0 else g j := by
      funext j
      unfold updV
      by_cases h1 : j = k
      · rw [if_pos h1, if_pos (by omega)]
      · rw [if_neg h1]
        dsimp only
        by_cases h2 : j < k
        · rw [if_pos h2, if_pos (by omega)]
        · rw [if_neg h2, if_neg (by omega)]
    rw [show narrow FieldType.boolean (.int 0) = .int 0 from rfl, e]
    exact ih
  · refine am_iload_n d_Arr_fill_aZZ_5 rfl rfl ?_
    refine am_iload_n d_Arr_fill_aZZ_6 rfl rfl ?_
    refine am_icmp_ge (tgt := 20) d_Arr_fill_aZZ_7 (by decide) (fun _ => ?_) (fun c => absurd (nI_le (Nat.le_refl N) hN) c)
    exact am_vret rfl d_Arr_fill_aZZ_20 ⟨rfl, rfl, va_up_self _ _ _, fun x hx => va_up_ne _ _ (by simpa using hx)⟩

set_option maxRecDepth 100000 in
set_option maxHeartbeats 4000000 in
theorem c_isThere (O : am_ok K X) {n q c i : Nat} {f : Nat → am_C} {a1 a2 : Value} {tl : List Value} {g : Nat → Value} (h0 : f q = .inr (10, a1 :: a2 :: .ref c :: tl)) (hc : f c = .inl (.int, 100, g)) (h1 : 128 ≤ q) (h2 : q < n) (h3 : 128 ≤ c) (h4 : c < n) (hi : i < 100) (hg : g i = .int (-1)) : am_Mt K X m_Store_isThere 0 0 0 [.ref q, .int (nI i)] (n, f) (fun v h' => v = some (.int 0) ∧ h' = (n, f)) := by
  refine am_enter (by decide +kernel) (Nat.le_of_ble_eq_true rfl) ?_
  refine am_iload_n d_Store_isThere_0 rfl rfl ?_
  refine am_if_lt (tgt := 24) d_Store_isThere_1 (by decide) (fun c => absurd c (nI_pos (by omega))) (fun _ => ?_)
  refine am_iload_n d_Store_isThere_4 rfl rfl ?_
  refine am_bipush (v := 100) d_Store_isThere_5 (by decide) ?_
  refine am_icmp_ge (tgt := 24) d_Store_isThere_7 (by decide) (fun c => absurd c (nI_ge (b := 100) hi (by omega))) (fun _ => ?_)
  refine am_aload_n d_Store_isThere_10 rfl rfl ?_
  refine am_get O f_Store_16 d_Store_isThere_11 h0 h1 h2 rfl ?_
  refine am_iload_n d_Store_isThere_14 rfl rfl ?_
  refine am_iald (v := .int (-1)) O (by decide) d_Store_isThere_15 hc h3 h4 (vp_in_nI hi (by omega)) (by rw [nI_clamp (by omega)]; exact hg) ?_
  refine am_iconst (v := (-1)) d_Store_isThere_16 (by decide) ?_
  refine am_icmp_eq (tgt := 24) d_Store_isThere_17 (by decide) (fun _ => ?_) (fun c => absurd rfl c)
  refine am_iconst (v := 0) d_Store_isThere_24 (by decide) ?_
  exact am_zret rfl rfl d_Store_isThere_25 ⟨rfl, rfl⟩

set_option maxRecDepth 100000 in
set_option maxHeartbeats 4000000 in
theorem c_objects (O : am_ok K X) {n q c : Nat} {f : Nat → am_C} {a1 a2 : Value} {tl : List Value} {g : Nat → Value} (h0 : f q = .inr (10, a1 :: a2 :: .ref c :: tl)) (hc : f c = .inl (.int, 100, g)) (h1 : 128 ≤ q) (h2 : q < n) (h3 : 128 ≤ c) (h4 : c < n) (hg : ∀ i : Nat, i < 100 → g i = .int (-1)) : am_Mt K X m_Store_objects 1 0 0 [.ref q] (n, f) (fun v h' => v = some (.int 0) ∧ h' = (n, f)) := by
  refine am_enter (by decide +kernel) (Nat.le_of_ble_eq_true rfl) ?_
  refine am_iconst (v := 0) d_Store_objects_0 (by decide) ?_
  refine am_istore_n d_Store_objects_1 rfl (by decide) ?_
  refine am_iconst (v := 0) d_Store_objects_2 (by decide) ?_
  refine am_istore_n d_Store_objects_3 rfl (by decide) ?_
  refine am_locs (lv' := [(0, .ref q), (1, .int 0), (2, .int (nI 0))]) rfl ?_
  refine am_for 100 (fun k => [(0, .ref q), (1, .int 0), (2, .int (nI k))]) (fun _ => (n, f)) (fun k hk ih => ?_) ?_
  · refine am_iload_n d_Store_objects_4 rfl rfl ?_
    refine am_bipush (v := 100) d_Store_objects_5 (by decide) ?_
    refine am_icmp_ge (tgt := 27) d_Store_objects_7 (by decide) (fun c => absurd c (nI_ge (b := 100) hk (by omega))) (fun _ => ?_)
    refine am_aload_n d_Store_objects_10 rfl rfl ?_
    refine am_iload_n d_Store_objects_11 rfl rfl ?_
    refine am_callV O (c_isThere O h0 hc h1 h2 h3 h4 hk (hg k hk)) rfl h0 h1 h2 rfl rfl l_Store_54 ⟨w_1245, w_1246⟩ rfl (Nat.le_of_ble_eq_true rfl) d_Store_objects_12 (by omega) (by omega) (by omega) (fun v h' hp => ?_)
    obtain ⟨rfl, rfl⟩ := hp
    refine am_if_eq (tgt := 21) d_Store_objects_15 (by decide) (fun _ => ?_) (fun c => absurd rfl c)
    refine am_iinc (v := 1) d_Store_objects_21 rfl (by decide) (by decide) ?_
    refine am_goto (tgt := 4) d_Store_objects_24 (by decide) ?_
    refine am_locs (lv' := [(0, .ref q), (1, .int 0), (2, .int (nI (k + 1)))]) (by rw [← nI_1]; rfl) ?_
    exact ih
  · refine am_iload_n d_Store_objects_4 rfl rfl ?_
    refine am_bipush (v := 100) d_Store_objects_5 (by decide) ?_
    refine am_icmp_ge (tgt := 27) d_Store_objects_7 (by decide) (fun _ => ?_) (fun c => absurd (nI_le (a := 100) (b := 100) (by omega) (by omega)) c)
    refine am_iload_n d_Store_objects_27 rfl rfl ?_
    exact am_iret rfl d_Store_objects_28 ⟨rfl, rfl⟩

set_option maxRecDepth 100000 in
set_option maxHeartbeats 4000000 in
theorem c_changed (O : am_ok K X) {n q c : Nat} {f : Nat → am_C} {a1 a2 : Value} {tl : List Value} {g : Nat → Value} (h0 : f q = .inr (10, a1 :: a2 :: .ref c :: tl)) (hc : f c = .inl (.int, 100, g)) (h1 : 128 ≤ q) (h2 : q < n) (h3 : 128 ≤ c) (h4 : c < n) (hg : ∀ i : Nat, i < 100 → g i = .int (-1)) {y : Nat} : am_Mt K X m_Store_objectsChangedSince 1 0 0 [.ref q, .ref y] (n, f) (fun v h' => v = some (.int 0) ∧ h' = (n, f)) := by
  refine am_enter (by decide +kernel) (Nat.le_of_ble_eq_true rfl) ?_
  refine am_iconst (v := 0) d_Store_objectsChangedSince_0 (by decide) ?_
  refine am_istore_n d_Store_objectsChangedSince_1 rfl (by decide) ?_
  refine am_iconst (v := 0) d_Store_objectsChangedSince_2 (by decide) ?_
  refine am_istore_n d_Store_objectsChangedSince_3 rfl (by decide) ?_
  refine am_locs (lv' := [(0, .ref q), (1, .ref y), (2, .int 0), (3, .int (nI 0))]) rfl ?_
  refine am_for 100 (fun k => [(0, .ref q), (1, .ref y), (2, .int 0), (3, .int (nI k))]) (fun _ => (n, f)) (fun k hk ih => ?_) ?_
  · refine am_iload_n d_Store_objectsChangedSince_4 rfl rfl ?_
    refine am_bipush (v := 100) d_Store_objectsChangedSince_5 (by decide) ?_
    refine am_icmp_ge (tgt := 36) d_Store_objectsChangedSince_7 (by decide) (fun c => absurd c (nI_ge (b := 100) hk (by omega))) (fun _ => ?_)
    refine am_aload_n d_Store_objectsChangedSince_10 rfl rfl ?_
    refine am_iload_n d_Store_objectsChangedSince_11 rfl rfl ?_
    refine am_callV O (c_isThere O h0 hc h1 h2 h3 h4 hk (hg k hk)) rfl h0 h1 h2 rfl rfl l_Store_54 ⟨w_1245, w_1246⟩ rfl (Nat.le_of_ble_eq_true rfl) d_Store_objectsChangedSince_12 (by omega) (by omega) (by omega) (fun v h' hp => ?_)
    obtain ⟨rfl, rfl⟩ := hp
    refine am_if_eq (tgt := 30) d_Store_objectsChangedSince_15 (by decide) (fun _ => ?_) (fun c => absurd rfl c)
    refine am_iinc (v := 1) d_Store_objectsChangedSince_30 rfl (by decide) (by decide) ?_
    refine am_goto (tgt := 4) d_Store_objectsChangedSince_33 (by decide) ?_
    refine am_locs (lv' := [(0, .ref q), (1, .ref y), (2, .int 0), (3, .int (nI (k + 1)))]) (by rw [← nI_1]; rfl) ?_
    exact ih
  · refine am_iload_n d_Store_objectsChangedSince_4 rfl rfl ?_
    refine am_bipush (v := 100) d_Store_objectsChangedSince_5 (by decide) ?_
    refine am_icmp_ge (tgt := 36) d_Store_objectsChangedSince_7 (by decide) (fun _ => ?_) (fun c => absurd (nI_le (a := 100) (b := 100) (by omega) (by omega)) c)
    refine am_iload_n d_Store_objectsChangedSince_36 rfl rfl ?_
    exact am_iret rfl d_Store_objectsChangedSince_37 ⟨rfl, rfl⟩

set_option maxRecDepth 100000 in
set_option maxHeartbeats 4000000 in
theorem c_take (O : am_ok K X) {n q c : Nat} {f : Nat → am_C} {a1 a2 : Value} {tl : List Value} {g : Nat → Value} (h0 : f q = .inr (10, a1 :: a2 :: .ref c :: tl)) (hc : f c = .inl (.int, 100, g)) (h1 : 128 ≤ q) (h2 : q < n) (h3 : 128 ≤ c) (h4 : c < n) (hg : ∀ i : Nat, i < 100 → g i = .int (-1)) {p r : Nat} {rc : Nat → Value} {t2 : List Value} (hs : f p = .inr (8, .ref r :: t2)) (hr : f r = .inl (.boolean, 100, rc)) (k1 : 128 ≤ p) (k2 : p < n) (k3 : 128 ≤ r) (k4 : r < n) (hz : ∀ i : Nat, i < 100 → rc i = .int 0) : am_Mt K X m_Sweep_takeUnreached 1 0 0 [.ref p, .ref q] (n, f) (fun v h' => v = some (.int 0) ∧ h' = (n, f)) := by
  refine am_enter (by decide +kernel) (Nat.le_of_ble_eq_true rfl) ?_
  refine am_iconst (v := 0) d_Sweep_takeUnreached_0 (by decide) ?_
  refine am_istore_n d_Sweep_takeUnreached_1 rfl (by decide) ?_
  refine am_iconst (v := 0) d_Sweep_takeUnreached_2 (by decide) ?_
  refine am_istore_n d_Sweep_takeUnreached_3 rfl (by decide) ?_
  refine am_locs (lv' := [(0, .ref p), (1, .ref q), (2, .int 0), (3, .int (nI 0))]) rfl ?_
  refine am_for 100 (fun k => [(0, .ref p), (1, .ref q), (2, .int 0), (3, .int (nI k))]) (fun _ => (n, f)) (fun k hk ih => ?_) ?_
  · refine am_iload_n d_Sweep_takeUnreached_4 rfl rfl ?_
    refine am_bipush (v := 100) d_Sweep_takeUnreached_5 (by decide) ?_
    refine am_icmp_ge (tgt := 41) d_Sweep_takeUnreached_7 (by decide) (fun c => absurd c (nI_ge (b := 100) hk (by omega))) (fun _ => ?_)
    refine am_aload_n d_Sweep_takeUnreached_10 rfl rfl ?_
    refine am_get O f_Sweep_9 d_Sweep_takeUnreached_11 hs k1 k2 rfl ?_
    refine am_iload_n d_Sweep_takeUnreached_14 rfl rfl ?_
    refine am_zald (v := .int 0) O (by decide) d_Sweep_takeUnreached_15 hr k3 k4 (vp_in_nI hk (by omega)) (by rw [nI_clamp (by omega)]; exact hz k hk) ?_
    refine am_if_ne (tgt := 35) d_Sweep_takeUnreached_16 (by decide) (fun c => absurd rfl c) (fun _ => ?_)
    refine am_aload_n d_Sweep_takeUnreached_19 rfl rfl ?_
    refine am_iload_n d_Sweep_takeUnreached_20 rfl rfl ?_
    refine am_callV O (c_isThere O h0 hc h1 h2 h3 h4 hk (hg k hk)) rfl h0 h1 h2 rfl rfl l_Sweep_67 ⟨w_1245, w_1246⟩ rfl (Nat.le_of_ble_eq_true rfl) d_Sweep_takeUnreached_21 (by omega) (by omega) (by omega) (fun v h' hp => ?_)
    obtain ⟨rfl, rfl⟩ := hp
    refine am_if_eq (tgt := 35) d_Sweep_takeUnreached_24 (by decide) (fun _ => ?_) (fun c => absurd rfl c)
    refine am_iinc (v := 1) d_Sweep_takeUnreached_35 rfl (by decide) (by decide) ?_
    refine am_goto (tgt := 4) d_Sweep_takeUnreached_38 (by decide) ?_
    refine am_locs (lv' := [(0, .ref p), (1, .ref q), (2, .int 0), (3, .int (nI (k + 1)))]) (by rw [← nI_1]; rfl) ?_
    exact ih
  · refine am_iload_n d_Sweep_takeUnreached_4 rfl rfl ?_
    refine am_bipush (v := 100) d_Sweep_takeUnreached_5 (by decide) ?_
    refine am_icmp_ge (tgt := 41) d_Sweep_takeUnreached_7 (by decide) (fun _ => ?_) (fun c => absurd (nI_le (a := 100) (b := 100) (by omega) (by omega)) c)
    refine am_iload_n d_Sweep_takeUnreached_41 rfl rfl ?_
    exact am_iret rfl d_Sweep_takeUnreached_42 ⟨rfl, rfl⟩

set_option maxRecDepth 100000 in
set_option maxHeartbeats 4000000 in
theorem ms_loop (O : am_ok K X) {n p q c : Nat} {d kc ks uc us : Nat} {post : Option Value → am_H → Prop} {f : Nat → am_C} {fs tl : List Value} {g : Nat → Value}  (h0 : f p = .inr (14, fs)) (hfs : fs[30]? = some (.ref q)) (hq : f q = .inr (13, .ref c :: tl)) (hc : f c = .inl (.int, 100, g)) (b1 : 128 ≤ p) (b2 : p < n) (b3 : 128 ≤ q) (b4 : q < n) (b5 : 128 ≤ c) (b6 : c < n) (hg : ∀ i : Nat, i < 100 → g i = .int 0) (kk : am_W K X m_Mod_sweep d kc ks uc us 218 [(0, .ref p), (1, .int 0), (2, .int 100)] [] (n, f) post) : am_W K X m_Mod_sweep d kc ks uc us 146 [(0, .ref p), (1, .int 0), (2, .int 0)] [] (n, f) post := by
  refine am_for 100 (fun k => [(0, .ref p), (1, .int 0), (2, .int (nI k))]) (fun _ => (n, f)) (fun k hk ih => ?_) ?_
  · refine am_iload_n d_Mod_sweep_146 rfl rfl ?_
    refine am_bipush (v := 100) d_Mod_sweep_147 (by decide) ?_
    refine am_icmp_ge (tgt := 218) d_Mod_sweep_149 (by decide) (fun c => absurd c (nI_ge (b := 100) hk (by omega))) (fun _ => ?_)
    refine am_aload_n d_Mod_sweep_152 rfl rfl ?_
    refine am_get O f_Mod_349 d_Mod_sweep_153 h0 b1 b2 hfs ?_
    refine am_get O f_Mod_457 d_Mod_sweep_156 hq b3 b4 rfl ?_
    refine am_iload_n d_Mod_sweep_159 rfl rfl ?_
    refine am_iald (v := .int 0) O (by decide) d_Mod_sweep_160 hc b5 b6 (vp_in_nI hk (by omega)) (by rw [nI_clamp (by omega)]; exact hg k hk) ?_
    refine am_if_eq (tgt := 212) d_Mod_sweep_161 (by decide) (fun _ => ?_) (fun c => absurd rfl c)
    refine am_iinc (v := 1) d_Mod_sweep_212 rfl (by decide) (by decide) ?_
    refine am_goto (tgt := 146) d_Mod_sweep_215 (by decide) ?_
    refine am_locs (lv' := [(0, .ref p), (1, .int 0), (2, .int (nI (k + 1)))]) (by rw [← nI_1]; rfl) ?_
    exact ih
  · refine am_iload_n d_Mod_sweep_146 rfl rfl ?_
    refine am_bipush (v := 100) d_Mod_sweep_147 (by decide) ?_
    refine am_icmp_ge (tgt := 218) d_Mod_sweep_149 (by decide) (fun _ => ?_) (fun c => absurd (nI_le (a := 100) (b := 100) (by omega) (by omega)) c)
    exact kk

set_option maxRecDepth 100000 in
set_option maxHeartbeats 4000000 in
theorem mr_loop (O : am_ok K X) {n p q c : Nat} {d kc ks uc us : Nat} {post : Option Value → am_H → Prop} {f : Nat → am_C} {fs tl : List Value} {g : Nat → Value} {x : Int32} (h0 : f p = .inr (14, fs)) (hfs : fs[31]? = some (.ref q)) (hq : f q = .inr (13, .ref c :: tl)) (hc : f c = .inl (.int, 100, g)) (b1 : 128 ≤ p) (b2 : p < n) (b3 : 128 ≤ q) (b4 : q < n) (b5 : 128 ≤ c) (b6 : c < n) (hg : ∀ i : Nat, i < 100 → g i = .int 0) (kk : am_W K X m_Mod_run d kc ks uc us 163 [(0, .ref p), (1, .int x), (2, .int 0), (3, .int 8), (4, .int 100)] [] (n, f) post) : am_W K X m_Mod_run d kc ks uc us 105 [(0, .ref p), (1, .int x), (2, .int 0), (3, .int 8), (4, .int 0)] [] (n, f) post := by
  refine am_for 100 (fun k => [(0, .ref p), (1, .int x), (2, .int 0), (3, .int 8), (4, .int (nI k))]) (fun _ => (n, f)) (fun k hk ih => ?_) ?_
  · refine am_iload d_Mod_run_105 rfl ?_
    refine am_bipush (v := 100) d_Mod_run_107 (by decide) ?_
    refine am_icmp_ge (tgt := 163) d_Mod_run_109 (by decide) (fun c => absurd c (nI_ge (b := 100) hk (by omega))) (fun _ => ?_)
    refine am_aload_n d_Mod_run_112 rfl rfl ?_
    refine am_get O f_Mod_353 d_Mod_run_113 h0 b1 b2 hfs ?_
    refine am_get O f_Mod_457 d_Mod_run_116 hq b3 b4 rfl ?_
    refine am_iload d_Mod_run_119 rfl ?_
    refine am_iald (v := .int 0) O (by decide) d_Mod_run_121 hc b5 b6 (vp_in_nI hk (by omega)) (by rw [nI_clamp (by omega)]; exact hg k hk) ?_
    refine am_if_eq (tgt := 157) d_Mod_run_122 (by decide) (fun _ => ?_) (fun c => absurd rfl c)
    refine am_iinc (v := 1) d_Mod_run_157 rfl (by decide) (by decide) ?_
    refine am_goto (tgt := 105) d_Mod_run_160 (by decide) ?_
    refine am_locs (lv' := [(0, .ref p), (1, .int x), (2, .int 0), (3, .int 8), (4, .int (nI (k + 1)))]) (by rw [← nI_1]; rfl) ?_
    exact ih
  · refine am_iload d_Mod_run_105 rfl ?_
    refine am_bipush (v := 100) d_Mod_run_107 (by decide) ?_
    refine am_icmp_ge (tgt := 163) d_Mod_run_109 (by decide) (fun _ => ?_) (fun c => absurd (nI_le (a := 100) (b := 100) (by omega) (by omega)) c)
    exact kk

set_option maxRecDepth 100000 in
set_option maxHeartbeats 4000000 in
theorem sc_loop (O : am_ok K X) {n p q y : Nat} {d kc ks uc us : Nat} {post : Option Value → am_H → Prop} {f : Nat → am_C} {tl : List Value} {g : Nat → Value} (h0 : f p = .inr (8, .ref q :: tl)) (hq : f q = .inl (.boolean, 100, g)) (b1 : 128 ≤ p) (b2 : p < n) (b3 : 128 ≤ q) (b4 : q < n) (hpq : p ≠ q) (kk : am_W K X m_Sweep_clean d kc ks uc us 21 [(0, .ref p), (1, .ref y), (2, .int 100)] [] (n, va_up f q (.inl (.boolean, 100, fun j => if j < 100 then .int 0 else g j))) post) : am_W K X m_Sweep_clean d kc ks uc us 2 [(0, .ref p), (1, .ref y), (2, .int 0)] [] (n, f) post := by
  refine am_self (q := q) (.inl (.boolean, 100, fun j => if j < 0 then .int 0 else g j)) (by rw [hq]; simp) ?_
  refine am_for 100 (fun k => [(0, .ref p), (1, .ref y), (2, .int (nI k))]) (fun k => (n, va_up f q (.inl (.boolean, 100, fun j => if j < k then .int 0 else g j)))) (fun k hk ih => ?_) ?_
  · refine am_iload_n d_Sweep_clean_2 rfl rfl ?_
    refine am_bipush (v := 100) d_Sweep_clean_3 (by decide) ?_
    refine am_icmp_ge (tgt := 21) d_Sweep_clean_5 (by decide) (fun c => absurd c (nI_ge (b := 100) hk (by omega))) (fun _ => ?_)
    refine am_aload_n d_Sweep_clean_8 rfl rfl ?_
    refine am_get O f_Sweep_9 d_Sweep_clean_9 (by rw [va_up_ne _ _ hpq]; exact h0) b1 b2 rfl ?_
    refine am_iload_n d_Sweep_clean_12 rfl rfl ?_
    refine am_iconst (v := 0) d_Sweep_clean_13 (by decide) ?_
    refine am_zast O (by decide) d_Sweep_clean_14 (va_up_self _ _ _) b3 b4 (vp_in_nI hk (by omega)) ?_
    refine am_iinc (v := 1) d_Sweep_clean_15 rfl (by decide) (by decide) ?_
    refine am_goto (tgt := 2) d_Sweep_clean_18 (by decide) ?_
    rw [bx_uu, nI_clamp (by omega)]
    refine am_locs (lv' := [(0, .ref p), (1, .ref y), (2, .int (nI (k + 1)))]) (by rw [← nI_1]; rfl) ?_
    have e : (updV (fun j => if j < k then .int 0 else g j) k (.int 0)) = fun j => if j < k + 1 then .int 0 else g j := by
      funext j
      unfold updV
      by_cases h1 : j = k
      · rw [if_pos h1, if_pos (by omega)]
      · rw [if_neg h1]
        dsimp only
        by_cases h2 : j < k
        · rw [if_pos h2, if_pos (by omega)]
        · rw [if_neg h2, if_neg (by omega)]
    rw [show narrow FieldType.boolean (.int 0) = .int 0 from rfl, e]
    exact ih
  · refine am_iload_n d_Sweep_clean_2 rfl rfl ?_
    refine am_bipush (v := 100) d_Sweep_clean_3 (by decide) ?_
    refine am_icmp_ge (tgt := 21) d_Sweep_clean_5 (by decide) (fun _ => ?_) (fun c => absurd (nI_le (a := 100) (b := 100) (by omega) (by omega)) c)
    exact kk
end
end
section
abbrev m_Mod_in : am_M := (⟨"StowTongueModel", "in", "(JJJ)Z"⟩, prog_13_method_1_code, 6, (some FieldType.boolean))
end
section
section
variable {K : am_K} {X : Nat → am_C}
set_option maxRecDepth 100000 in
set_option maxHeartbeats 4000000 in
theorem t1_Cell_sortOf (O : am_ok K X)   {h : am_H} : am_Mt K X m_Cell_sortOf 0 0 0 [.long 0] h (fun v h' => v = some (.int 0) ∧ h' = h) := by
  refine am_enter (by decide +kernel) (Nat.le_of_ble_eq_true rfl) ?_
  refine am_lload_n d_Cell_sortOf_0 rfl rfl ?_
  refine am_bipush (v := 56) d_Cell_sortOf_1 (by decide) ?_
  refine am_lushr d_Cell_sortOf_3 rfl ?_
  refine am_topl (v := 0) (by decide) ?_
  refine am_l2i (v := 0) d_Cell_sortOf_4 (by decide) ?_
  exact am_iret rfl d_Cell_sortOf_5 ⟨rfl, rfl⟩

set_option maxRecDepth 100000 in
set_option maxHeartbeats 4000000 in
theorem t2_Stow_asAnswer (O : am_ok K X)   {h : am_H} : am_Mt K X m_Stow_asAnswer 1 0 0 [.long 0, .long 0] h (fun v h' => v = some (.long 1099511627776) ∧ h' = h) := by
  refine am_enter (by decide +kernel) (Nat.le_of_ble_eq_true rfl) ?_
  refine am_lload_n d_Stow_asAnswer_0 rfl rfl ?_
  refine am_callS O (t1_Cell_sortOf O) rfl l_Stow_116 w_1104 rfl (Nat.le_of_ble_eq_true rfl) d_Stow_asAnswer_1 (by omega) (by omega) (by omega) (fun v h' hp => ?_)
  obtain ⟨rfl, rfl⟩ := hp
  refine am_tableOut (tgt := 50) d_Stow_asAnswer_4 (by decide) (by decide) ?_
  refine am_ldc2 (v := 1099511627776) w_1382 d_Stow_asAnswer_50 ?_
  exact am_lret rfl d_Stow_asAnswer_53 ⟨rfl, rfl⟩

set_option maxRecDepth 100000 in
set_option maxHeartbeats 4000000 in
theorem a_value_c (O : am_ok K X)   {f : Nat → am_C} (h_128 : f 128 = .inr (9, [.ref 129, .int 0, .ref 130, .ref 132, .ref 148, .ref 154, .ref 157, .long 0, .long 0, .int 0])) : am_Mt K X m_Stow_value 2 0 0 [.ref 128] (1311, f) (fun v h' => v = some (.long 1099511627776) ∧ h' = (1311, f)) := by
  refine am_enter (by decide +kernel) (Nat.le_of_ble_eq_true rfl) ?_
  refine am_aload_n d_Stow_value_0 rfl rfl ?_
  refine am_get O f_Stow_93 d_Stow_value_1 (by exact h_128) (by decide) (by decide) rfl ?_
  refine am_callS O (t1_Cell_sortOf O) rfl l_Stow_116 w_1104 rfl (Nat.le_of_ble_eq_true rfl) d_Stow_value_4 (by omega) (by omega) (by omega) (fun v h' hp => ?_)
  obtain ⟨rfl, rfl⟩ := hp
  refine am_iconst (v := 2) d_Stow_value_7 (by decide) ?_
  refine am_icmp_ne (tgt := 33) d_Stow_value_8 (by decide) (fun _ => ?_) (fun c => absurd c (by decide))
  refine am_aload_n d_Stow_value_33 rfl rfl ?_
  refine am_get O f_Stow_93 d_Stow_value_34 (by exact h_128) (by decide) (by decide) rfl ?_
  refine am_aload_n d_Stow_value_37 rfl rfl ?_
  refine am_get O f_Stow_100 d_Stow_value_38 (by exact h_128) (by decide) (by decide) rfl ?_
  refine am_callS O (t2_Stow_asAnswer O) rfl l_Stow_126 w_1377 rfl (Nat.le_of_ble_eq_true rfl) d_Stow_value_41 (by omega) (by omega) (by omega) (fun v h' hp => ?_)
  obtain ⟨rfl, rfl⟩ := hp
  exact am_lret rfl d_Stow_value_44 ⟨rfl, rfl⟩

set_option maxRecDepth 100000 in
set_option maxHeartbeats 4000000 in
theorem a_value_m (O : am_ok K X)   {f : Nat → am_C} (h_160 : f 160 = .inr (14, [.ref 161, .ref 162, .int 0, .int 0, .int 0, .int 0, .int 0, .int 0, .int 0, .int 0, .int 0, .long 0, .ref 163, .ref 170, .ref 171, .ref 172, .ref 173, .ref 174, .ref 175, .ref 176, .int 0, .ref 177, .null, .ref 184, .int 0, .int 0, .ref 185, .int 0, .ref 186, .int 0, .ref 187, .ref 204, .ref 221, .ref 238, .int 0, .int 0, .ref 239, .ref 240, .ref 245, .ref 250, .ref 255, .int 0, .int 0, .int 0, .int 0, .int 0, .int 0, .ref 260, .ref 261, .ref 262, .ref 263, .ref 264, .int 0])) (h_250 : f 250 = .inr (11, [.ref 251, .ref 252, .ref 253, .ref 254])) (h_251 : f 251 = .inl (.int, 1, (fun _ => .int 0))) : am_Mt K X m_Mod_value_ 0 0 0 [.ref 160] (1311, f) (fun v h' => v = some (.long 1099511627776) ∧ h' = (1311, f)) := by
  refine am_enter (by decide +kernel) (Nat.le_of_ble_eq_true rfl) ?_
  refine am_aload_n d_Mod_value__0 rfl rfl ?_
  refine am_get O f_Mod_374 d_Mod_value__1 (by exact h_160) (by decide) (by decide) rfl ?_
  refine am_get O f_Mod_515 d_Mod_value__4 (by exact h_250) (by decide) (by decide) rfl ?_
  refine am_iconst (v := 0) d_Mod_value__7 (by decide) ?_
  refine am_iald (v := .int 0) O (by decide) d_Mod_value__8 (by exact h_251) (by decide) (by decide) (am_in (by decide) (by decide)) rfl ?_
  refine am_tableIn (tgt := 40) d_Mod_value__9 (by decide) (by decide) rfl (by decide) ?_
  refine am_ldc2 (v := 1099511627776) w_1823 d_Mod_value__40 ?_
  exact am_lret rfl d_Mod_value__43 ⟨rfl, rfl⟩

set_option maxRecDepth 100000 in
set_option maxHeartbeats 4000000 in
theorem t5_Log_waiting (O : am_ok K X)   {f : Nat → am_C} (h_154 : f 154 = .inr (7, [.ref 155, .ref 156, .int 0, .int 0])) : am_Mt K X m_Log_waiting 0 0 0 [.ref 154] (1311, f) (fun v h' => v = some (.int 0) ∧ h' = (1311, f)) := by
  refine am_enter (by decide +kernel) (Nat.le_of_ble_eq_true rfl) ?_
  refine am_aload_n d_Log_waiting_0 rfl rfl ?_
  refine am_get O f_Log_27 d_Log_waiting_1 (by exact h_154) (by decide) (by decide) rfl ?_
  exact am_iret rfl d_Log_waiting_4 ⟨rfl, rfl⟩

set_option maxRecDepth 100000 in
set_option maxHeartbeats 4000000 in
theorem t6_Log_settle (O : am_ok K X)   {h : am_H} : am_Mt K X m_Log_settle 0 0 0 [.ref 154, .int 0] h (fun v h' => v = none ∧ h' = h) := by
  refine am_enter (by decide +kernel) (Nat.le_of_ble_eq_true rfl) ?_
  refine am_iconst (v := 0) d_Log_settle_0 (by decide) ?_
  refine am_istore_n d_Log_settle_1 rfl (by decide) ?_
  refine am_iload_n d_Log_settle_2 rfl rfl ?_
  refine am_iload_n d_Log_settle_3 rfl rfl ?_
  refine am_icmp_ge (tgt := 24) d_Log_settle_4 (by decide) (fun _ => ?_) (fun c => absurd (by decide) c)
  exact am_vret rfl d_Log_settle_24 ⟨rfl, rfl⟩

set_option maxRecDepth 100000 in
set_option maxHeartbeats 4000000 in
theorem a_sync_c (O : am_ok K X)   {f : Nat → am_C} (h_128 : f 128 = .inr (9, [.ref 129, .int 0, .ref 130, .ref 132, .ref 148, .ref 154, .ref 157, .long 0, .long 0, .int 0])) (h_154 : f 154 = .inr (7, [.ref 155, .ref 156, .int 0, .int 0])) : am_Mt K X m_Stow_sync 1 0 0 [.ref 128] (1311, f) (fun v h' => v = some (.int 0) ∧ h' = (1311, f)) := by
  refine am_enter (by decide +kernel) (Nat.le_of_ble_eq_true rfl) ?_
  refine am_aload_n d_Stow_sync_0 rfl rfl ?_
  refine am_get O f_Stow_37 d_Stow_sync_1 (by exact h_128) (by decide) (by decide) rfl ?_
  refine am_callV O (t5_Log_waiting O (by exact h_154)) rfl (by exact h_154) (by decide) (by decide) rfl rfl l_Stow_169 ⟨w_1410, w_1411⟩ rfl (Nat.le_of_ble_eq_true rfl) d_Stow_sync_4 (by omega) (by omega) (by omega) (fun v h' hp => ?_)
  obtain ⟨rfl, rfl⟩ := hp
  refine am_istore_n d_Stow_sync_7 rfl (by decide) ?_
  refine am_aload_n d_Stow_sync_8 rfl rfl ?_
  refine am_get O f_Stow_37 d_Stow_sync_9 (by exact h_128) (by decide) (by decide) rfl ?_
  refine am_iload_n d_Stow_sync_12 rfl rfl ?_
  refine am_callV O (t6_Log_settle O) rfl (by exact h_154) (by decide) (by decide) rfl rfl l_Stow_172 ⟨w_1363, w_1364⟩ rfl (Nat.le_of_ble_eq_true rfl) d_Stow_sync_13 (by omega) (by omega) (by omega) (fun v h' hp => ?_)
  obtain ⟨rfl, rfl⟩ := hp
  refine am_iload_n d_Stow_sync_16 rfl rfl ?_
  exact am_iret rfl d_Stow_sync_17 ⟨rfl, rfl⟩

set_option maxRecDepth 100000 in
set_option maxHeartbeats 4000000 in
theorem t8_State_copy (O : am_ok K X)   {f : Nat → am_C} (h_187 : f 187 = .inr (13, [.ref 188, .ref 189, .ref 190, .ref 191, .ref 192, .ref 193, .ref 198, .ref 203, .int 0, .int 0, .int 0, .int 0])) (h_188 : f 188 = .inl (.int, 100, (fun _ => .int 0))) (h_189 : f 189 = .inl (.int, 100, (fun _ => .int 0))) (h_190 : f 190 = .inl (.long, 800, (fun _ => .long 0))) (h_191 : f 191 = .inl (.long, 12, (fun _ => .long 0))) (h_192 : f 192 = .inl (.long, 10, (fun _ => .long 0))) (h_193 : f 193 = .inr (11, [.ref 194, .ref 195, .ref 196, .ref 197])) (h_194 : f 194 = .inl (.int, 2000, (fun _ => .int 0))) (h_195 : f 195 = .inl (.int, 2000, (fun _ => .int 0))) (h_196 : f 196 = .inl (.long, 2000, (fun _ => .long 0))) (h_197 : f 197 = .inl (.long, 2000, (fun _ => .long 0))) (h_203 : f 203 = .inl (.object "StowTongueModel$Code", 10, (fun _ => .null))) (h_221 : f 221 = .inr (13, [.ref 222, .ref 223, .ref 224, .ref 225, .ref 226, .ref 227, .ref 232, .ref 237, .int 0, .int 0, .int 0, .int 0])) (h_222 : f 222 = .inl (.int, 100, (fun _ => .int 0))) (h_223 : f 223 = .inl (.int, 100, (fun _ => .int 0))) (h_224 : f 224 = .inl (.long, 800, (fun _ => .long 0))) (h_225 : f 225 = .inl (.long, 12, (fun _ => .long 0))) (h_226 : f 226 = .inl (.long, 10, (fun _ => .long 0))) (h_227 : f 227 = .inr (11, [.ref 228, .ref 229, .ref 230, .ref 231])) (h_228 : f 228 = .inl (.int, 2000, (fun _ => .int 0))) (h_229 : f 229 = .inl (.int, 2000, (fun _ => .int 0))) (h_230 : f 230 = .inl (.long, 2000, (fun _ => .long 0))) (h_231 : f 231 = .inl (.long, 2000, (fun _ => .long 0))) (h_237 : f 237 = .inl (.object "StowTongueModel$Code", 10, (fun _ => .null))) : am_Mt K X m_State_copy 1 0 0 [.ref 221, .ref 187] (1311, f) (fun v h' => v = none ∧ h'.1 = 1311 ∧ h'.2 222 = .inl (.int, 100, (va_cpy (fun _ => .int 0) (fun _ => .int 0) 0 0 100)) ∧ h'.2 223 = .inl (.int, 100, (va_cpy (fun _ => .int 0) (fun _ => .int 0) 0 0 100)) ∧ h'.2 224 = .inl (.long, 800, (va_cpy (fun _ => .long 0) (fun _ => .long 0) 0 0 800)) ∧ h'.2 228 = .inl (.int, 2000, (va_cpy (fun _ => .int 0) (fun _ => .int 0) 0 0 2000)) ∧ h'.2 229 = .inl (.int, 2000, (va_cpy (fun _ => .int 0) (fun _ => .int 0) 0 0 2000)) ∧ h'.2 230 = .inl (.long, 2000, (va_cpy (fun _ => .long 0) (fun _ => .long 0) 0 0 2000)) ∧ h'.2 231 = .inl (.long, 2000, (va_cpy (fun _ => .long 0) (fun _ => .long 0) 0 0 2000)) ∧ h'.2 225 = .inl (.long, 12, (va_cpy (fun _ => .long 0) (fun _ => .long 0) 0 0 12)) ∧ h'.2 226 = .inl (.long, 10, (va_cpy (fun _ => .long 0) (fun _ => .long 0) 0 0 10)) ∧ h'.2 237 = .inl (.object "StowTongueModel$Code", 10, (va_cpy (fun _ => .null) (fun _ => .null) 0 0 10)) ∧ h'.2 221 = .inr (13, [.ref 222, .ref 223, .ref 224, .ref 225, .ref 226, .ref 227, .ref 232, .ref 237, .int 0, .int 0, .int 0, .int 0]) ∧ ∀ x, x ∉ ([222, 223, 224, 228, 229, 230, 231, 225, 226, 237, 221] : List Nat) → h'.2 x = f x) := by
  refine am_enter (by decide +kernel) (Nat.le_of_ble_eq_true rfl) ?_
  refine am_aload_n d_State_copy_0 rfl rfl ?_
  refine am_get O f_State_9 d_State_copy_1 (by exact h_187) (by decide) (by decide) rfl ?_
  refine am_iconst (v := 0) d_State_copy_4 (by decide) ?_
  refine am_aload_n d_State_copy_5 rfl rfl ?_
  refine am_get O f_State_9 d_State_copy_6 (by exact h_221) (by decide) (by decide) rfl ?_
  refine am_iconst (v := 0) d_State_copy_9 (by decide) ?_
  refine am_bipush (v := 100) d_State_copy_10 (by decide) ?_
  refine am_copy (P := 0) (Q := 0) (N := 100) O w_1990 w_735 w_734 w_167 d_State_copy_12 (by exact h_188) (by decide) (by decide) (by exact h_222) (by decide) (by decide) (by decide) (by decide) (by decide) (by decide) (by decide) (by decide) (by decide) (by decide) (by decide) (by decide) (fun i hi => by refine ⟨?_, fun r h => ?_⟩ <;> first | rfl | cases h | (dsimp only; rw [if_pos (by omega)]; rfl) | (dsimp only at h; rw [if_pos (by omega)] at h; cases h) | (simp [va_cpy, fits]; done) | (simp [va_cpy] at h; done)) (Nat.le_of_ble_eq_true rfl) (by omega) ?_
  refine am_aload_n d_State_copy_15 rfl rfl ?_
  refine am_get O f_State_15 d_State_copy_16 (by exact h_187) (by decide) (by decide) rfl ?_
  refine am_iconst (v := 0) d_State_copy_19 (by decide) ?_
  refine am_aload_n d_State_copy_20 rfl rfl ?_
  refine am_get O f_State_15 d_State_copy_21 (by exact h_221) (by decide) (by decide) rfl ?_
  refine am_iconst (v := 0) d_State_copy_24 (by decide) ?_
  refine am_bipush (v := 100) d_State_copy_25 (by decide) ?_
  refine am_copy (P := 0) (Q := 0) (N := 100) O w_1990 w_735 w_734 w_167 d_State_copy_27 (by exact h_189) (by decide) (by decide) (by exact h_223) (by decide) (by decide) (by decide) (by decide) (by decide) (by decide) (by decide) (by decide) (by decide) (by decide) (by decide) (by decide) (fun i hi => by refine ⟨?_, fun r h => ?_⟩ <;> first | rfl | cases h | (dsimp only; rw [if_pos (by omega)]; rfl) | (dsimp only at h; rw [if_pos (by omega)] at h; cases h) | (simp [va_cpy, fits]; done) | (simp [va_cpy] at h; done)) (Nat.le_of_ble_eq_true rfl) (by omega) ?_
  refine am_aload_n d_State_copy_30 rfl rfl ?_
  refine am_get O f_State_18 d_State_copy_31 (by exact h_187) (by decide) (by decide) rfl ?_
  refine am_iconst (v := 0) d_State_copy_34 (by decide) ?_
  refine am_aload_n d_State_copy_35 rfl rfl ?_
  refine am_get O f_State_18 d_State_copy_36 (by exact h_221) (by decide) (by decide) rfl ?_
  refine am_iconst (v := 0) d_State_copy_39 (by decide) ?_
  refine am_sipush (v := 800) d_State_copy_40 (by decide) ?_
  refine am_copy (P := 0) (Q := 0) (N := 800) O w_1990 w_735 w_734 w_167 d_State_copy_43 (by exact h_190) (by decide) (by decide) (by exact h_224) (by decide) (by decide) (by decide) (by decide) (by decide) (by decide) (by decide) (by decide) (by decide) (by decide) (by decide) (by decide) (fun i hi => by refine ⟨?_, fun r h => ?_⟩ <;> first | rfl | cases h | (dsimp only; rw [if_pos (by omega)]; rfl) | (dsimp only at h; rw [if_pos (by omega)] at h; cases h) | (simp [va_cpy, fits]; done) | (simp [va_cpy] at h; done)) (Nat.le_of_ble_eq_true rfl) (by omega) ?_
  refine am_aload_n d_State_copy_46 rfl rfl ?_
  refine am_get O f_State_33 d_State_copy_47 (by exact h_187) (by decide) (by decide) rfl ?_
  refine am_get O f_State_52 d_State_copy_50 (by exact h_193) (by decide) (by decide) rfl ?_
  refine am_iconst (v := 0) d_State_copy_53 (by decide) ?_
  refine am_aload_n d_State_copy_54 rfl rfl ?_
  refine am_get O f_State_33 d_State_copy_55 (by exact h_221) (by decide) (by decide) rfl ?_
  refine am_get O f_State_52 d_State_copy_58 (by exact h_227) (by decide) (by decide) rfl ?_
  refine am_iconst (v := 0) d_State_copy_61 (by decide) ?_
  refine am_sipush (v := 2000) d_State_copy_62 (by decide) ?_
  refine am_copy (P := 0) (Q := 0) (N := 2000) O w_1990 w_735 w_734 w_167 d_State_copy_65 (by exact h_194) (by decide) (by decide) (by exact h_228) (by decide) (by decide) (by decide) (by decide) (by decide) (by decide) (by decide) (by decide) (by decide) (by decide) (by decide) (by decide) (fun i hi => by refine ⟨?_, fun r h => ?_⟩ <;> first | rfl | cases h | (dsimp only; rw [if_pos (by omega)]; rfl) | (dsimp only at h; rw [if_pos (by omega)] at h; cases h) | (simp [va_cpy, fits]; done) | (simp [va_cpy] at h; done)) (Nat.le_of_ble_eq_true rfl) (by omega) ?_
  refine am_aload_n d_State_copy_68 rfl rfl ?_
  refine am_get O f_State_33 d_State_copy_69 (by exact h_187) (by decide) (by decide) rfl ?_
  refine am_get O f_State_53 d_State_copy_72 (by exact h_193) (by decide) (by decide) rfl ?_
  refine am_iconst (v := 0) d_State_copy_75 (by decide) ?_
  refine am_aload_n d_State_copy_76 rfl rfl ?_
  refine am_get O f_State_33 d_State_copy_77 (by exact h_221) (by decide) (by decide) rfl ?_
  refine am_get O f_State_53 d_State_copy_80 (by exact h_227) (by decide) (by decide) rfl ?_
  refine am_iconst (v := 0) d_State_copy_83 (by decide) ?_
  refine am_sipush (v := 2000) d_State_copy_84 (by decide) ?_
  refine am_copy (P := 0) (Q := 0) (N := 2000) O w_1990 w_735 w_734 w_167 d_State_copy_87 (by exact h_195) (by decide) (by decide) (by exact h_229) (by decide) (by decide) (by decide) (by decide) (by decide) (by decide) (by decide) (by decide) (by decide) (by decide) (by decide) (by decide) (fun i hi => by refine ⟨?_, fun r h => ?_⟩ <;> first | rfl | cases h | (dsimp only; rw [if_pos (by omega)]; rfl) | (dsimp only at h; rw [if_pos (by omega)] at h; cases h) | (simp [va_cpy, fits]; done) | (simp [va_cpy] at h; done)) (Nat.le_of_ble_eq_true rfl) (by omega) ?_
  refine am_aload_n d_State_copy_90 rfl rfl ?_
  refine am_get O f_State_33 d_State_copy_91 (by exact h_187) (by decide) (by decide) rfl ?_
  refine am_get O f_State_54 d_State_copy_94 (by exact h_193) (by decide) (by decide) rfl ?_
  refine am_iconst (v := 0) d_State_copy_97 (by decide) ?_
  refine am_aload_n d_State_copy_98 rfl rfl ?_
  refine am_get O f_State_33 d_State_copy_99 (by exact h_221) (by decide) (by decide) rfl ?_
  refine am_get O f_State_54 d_State_copy_102 (by exact h_227) (by decide) (by decide) rfl ?_
  refine am_iconst (v := 0) d_State_copy_105 (by decide) ?_
  refine am_sipush (v := 2000) d_State_copy_106 (by decide) ?_
  refine am_copy (P := 0) (Q := 0) (N := 2000) O w_1990 w_735 w_734 w_167 d_State_copy_109 (by exact h_196) (by decide) (by decide) (by exact h_230) (by decide) (by decide) (by decide) (by decide) (by decide) (by decide) (by decide) (by decide) (by decide) (by decide) (by decide) (by decide) (fun i hi => by refine ⟨?_, fun r h => ?_⟩ <;> first | rfl | cases h | (dsimp only; rw [if_pos (by omega)]; rfl) | (dsimp only at h; rw [if_pos (by omega)] at h; cases h) | (simp [va_cpy, fits]; done) | (simp [va_cpy] at h; done)) (Nat.le_of_ble_eq_true rfl) (by omega) ?_
  refine am_aload_n d_State_copy_112 rfl rfl ?_
  refine am_get O f_State_33 d_State_copy_113 (by exact h_187) (by decide) (by decide) rfl ?_
  refine am_get O f_State_57 d_State_copy_116 (by exact h_193) (by decide) (by decide) rfl ?_
  refine am_iconst (v := 0) d_State_copy_119 (by decide) ?_
  refine am_aload_n d_State_copy_120 rfl rfl ?_
  refine am_get O f_State_33 d_State_copy_121 (by exact h_221) (by decide) (by decide) rfl ?_
  refine am_get O f_State_57 d_State_copy_124 (by exact h_227) (by decide) (by decide) rfl ?_
  refine am_iconst (v := 0) d_State_copy_127 (by decide) ?_
  refine am_sipush (v := 2000) d_State_copy_128 (by decide) ?_
  refine am_copy (P := 0) (Q := 0) (N := 2000) O w_1990 w_735 w_734 w_167 d_State_copy_131 (by exact h_197) (by decide) (by decide) (by exact h_231) (by decide) (by decide) (by decide) (by decide) (by decide) (by decide) (by decide) (by decide) (by decide) (by decide) (by decide) (by decide) (fun i hi => by refine ⟨?_, fun r h => ?_⟩ <;> first | rfl | cases h | (dsimp only; rw [if_pos (by omega)]; rfl) | (dsimp only at h; rw [if_pos (by omega)] at h; cases h) | (simp [va_cpy, fits]; done) | (simp [va_cpy] at h; done)) (Nat.le_of_ble_eq_true rfl) (by omega) ?_
  refine am_aload_n d_State_copy_134 rfl rfl ?_
  refine am_get O f_State_22 d_State_copy_135 (by exact h_187) (by decide) (by decide) rfl ?_
  refine am_iconst (v := 0) d_State_copy_138 (by decide) ?_
  refine am_aload_n d_State_copy_139 rfl rfl ?_
  refine am_get O f_State_22 d_State_copy_140 (by exact h_221) (by decide) (by decide) rfl ?_
  refine am_iconst (v := 0) d_State_copy_143 (by decide) ?_
  refine am_bipush (v := 12) d_State_copy_144 (by decide) ?_
  refine am_copy (P := 0) (Q := 0) (N := 12) O w_1990 w_735 w_734 w_167 d_State_copy_146 (by exact h_191) (by decide) (by decide) (by exact h_225) (by decide) (by decide) (by decide) (by decide) (by decide) (by decide) (by decide) (by decide) (by decide) (by decide) (by decide) (by decide) (fun i hi => by refine ⟨?_, fun r h => ?_⟩ <;> first | rfl | cases h | (dsimp only; rw [if_pos (by omega)]; rfl) | (dsimp only at h; rw [if_pos (by omega)] at h; cases h) | (simp [va_cpy, fits]; done) | (simp [va_cpy] at h; done)) (Nat.le_of_ble_eq_true rfl) (by omega) ?_
  refine am_iconst (v := 0) d_State_copy_149 (by decide) ?_
  refine am_istore_n d_State_copy_150 rfl (by decide) ?_
  refine am_iload_n d_State_copy_151 rfl rfl ?_
  refine am_aload_n d_State_copy_152 rfl rfl ?_
  refine am_get O f_State_60 d_State_copy_153 (by exact h_187) (by decide) (by decide) rfl ?_
  refine am_icmp_ge (tgt := 178) d_State_copy_156 (by decide) (fun _ => ?_) (fun c => absurd (by decide) c)
  refine am_aload_n d_State_copy_178 rfl rfl ?_
  refine am_get O f_State_25 d_State_copy_179 (by exact h_187) (by decide) (by decide) rfl ?_
  refine am_iconst (v := 0) d_State_copy_182 (by decide) ?_
  refine am_aload_n d_State_copy_183 rfl rfl ?_
  refine am_get O f_State_25 d_State_copy_184 (by exact h_221) (by decide) (by decide) rfl ?_
  refine am_iconst (v := 0) d_State_copy_187 (by decide) ?_
  refine am_bipush (v := 10) d_State_copy_188 (by decide) ?_
  refine am_copy (P := 0) (Q := 0) (N := 10) O w_1990 w_735 w_734 w_167 d_State_copy_190 (by exact h_192) (by decide) (by decide) (by exact h_226) (by decide) (by decide) (by decide) (by decide) (by decide) (by decide) (by decide) (by decide) (by decide) (by decide) (by decide) (by decide) (fun i hi => by refine ⟨?_, fun r h => ?_⟩ <;> first | rfl | cases h | (dsimp only; rw [if_pos (by omega)]; rfl) | (dsimp only at h; rw [if_pos (by omega)] at h; cases h) | (simp [va_cpy, fits]; done) | (simp [va_cpy] at h; done)) (Nat.le_of_ble_eq_true rfl) (by omega) ?_
  refine am_aload_n d_State_copy_193 rfl rfl ?_
  refine am_get O f_State_42 d_State_copy_194 (by exact h_187) (by decide) (by decide) rfl ?_
  refine am_iconst (v := 0) d_State_copy_197 (by decide) ?_
  refine am_aload_n d_State_copy_198 rfl rfl ?_
  refine am_get O f_State_42 d_State_copy_199 (by exact h_221) (by decide) (by decide) rfl ?_
  refine am_iconst (v := 0) d_State_copy_202 (by decide) ?_
  refine am_bipush (v := 10) d_State_copy_203 (by decide) ?_
  refine am_copyq (ci := 12) (P := 0) (Q := 0) (N := 10) O w_1990 w_735 w_734 w_167 d_State_copy_205 (by exact h_203) (by decide) (by decide) (by exact h_237) (by decide) (by decide) (by decide) (by decide) (by decide) (by decide) (by decide) (by decide) (by decide) (by decide) (by decide) (by rfl) (by rfl) (fun i hi => by first | exact Or.inl rfl | exact Or.inl (by simp [va_cpy])) (Nat.le_of_ble_eq_true rfl) (by omega) ?_
  refine am_aload_n d_State_copy_208 rfl rfl ?_
  refine am_aload_n d_State_copy_209 rfl rfl ?_
  refine am_get O f_State_68 d_State_copy_210 (by exact h_187) (by decide) (by decide) rfl ?_
  refine am_put O f_State_68 d_State_copy_213 (by exact h_221) (by decide) (by decide) (Nat.le_of_ble_eq_true rfl) (fun q hq => by cases hq; exact ⟨rfl, rfl, rfl⟩) ?_
  refine am_aload_n d_State_copy_216 rfl rfl ?_
  refine am_aload_n d_State_copy_217 rfl rfl ?_
  refine am_get O f_State_60 d_State_copy_218 (by exact h_187) (by decide) (by decide) rfl ?_
  refine am_put O f_State_60 d_State_copy_221 (by rfl) (by decide) (by decide) (Nat.le_of_ble_eq_true rfl) (fun q hq => by cases hq; exact ⟨rfl, rfl, rfl⟩) ?_
  refine am_aload_n d_State_copy_224 rfl rfl ?_
  refine am_aload_n d_State_copy_225 rfl rfl ?_
  refine am_get O f_State_71 d_State_copy_226 (by exact h_187) (by decide) (by decide) rfl ?_
  refine am_put O f_State_71 d_State_copy_229 (by rfl) (by decide) (by decide) (Nat.le_of_ble_eq_true rfl) (fun q hq => by cases hq; exact ⟨rfl, rfl, rfl⟩) ?_
  exact am_vret rfl d_State_copy_232 ⟨rfl, rfl, rfl, rfl, rfl, rfl, rfl, rfl, rfl, rfl, rfl, rfl, rfl, fun x hx => by simp only [List.mem_cons, List.not_mem_nil, or_false, not_or] at hx; dsimp only; (repeat (first | rw [va_up_ne _ _ (by omega)]))⟩

set_option maxRecDepth 100000 in
set_option maxHeartbeats 4000000 in
theorem a_sync_m (O : am_ok K X)   {f : Nat → am_C} (h_160 : f 160 = .inr (14, [.ref 161, .ref 162, .int 0, .int 0, .int 0, .int 0, .int 0, .int 0, .int 0, .int 0, .int 0, .long 0, .ref 163, .ref 170, .ref 171, .ref 172, .ref 173, .ref 174, .ref 175, .ref 176, .int 0, .ref 177, .null, .ref 184, .int 0, .int 0, .ref 185, .int 0, .ref 186, .int 0, .ref 187, .ref 204, .ref 221, .ref 238, .int 0, .int 0, .ref 239, .ref 240, .ref 245, .ref 250, .ref 255, .int 0, .int 0, .int 0, .int 0, .int 0, .int 0, .ref 260, .ref 261, .ref 262, .ref 263, .ref 264, .int 0])) (h_187 : f 187 = .inr (13, [.ref 188, .ref 189, .ref 190, .ref 191, .ref 192, .ref 193, .ref 198, .ref 203, .int 0, .int 0, .int 0, .int 0])) (h_188 : f 188 = .inl (.int, 100, (fun _ => .int 0))) (h_189 : f 189 = .inl (.int, 100, (fun _ => .int 0))) (h_190 : f 190 = .inl (.long, 800, (fun _ => .long 0))) (h_191 : f 191 = .inl (.long, 12, (fun _ => .long 0))) (h_192 : f 192 = .inl (.long, 10, (fun _ => .long 0))) (h_193 : f 193 = .inr (11, [.ref 194, .ref 195, .ref 196, .ref 197])) (h_194 : f 194 = .inl (.int, 2000, (fun _ => .int 0))) (h_195 : f 195 = .inl (.int, 2000, (fun _ => .int 0))) (h_196 : f 196 = .inl (.long, 2000, (fun _ => .long 0))) (h_197 : f 197 = .inl (.long, 2000, (fun _ => .long 0))) (h_203 : f 203 = .inl (.object "StowTongueModel$Code", 10, (fun _ => .null))) (h_221 : f 221 = .inr (13, [.ref 222, .ref 223, .ref 224, .ref 225, .ref 226, .ref 227, .ref 232, .ref 237, .int 0, .int 0, .int 0, .int 0])) (h_222 : f 222 = .inl (.int, 100, (fun _ => .int 0))) (h_223 : f 223 = .inl (.int, 100, (fun _ => .int 0))) (h_224 : f 224 = .inl (.long, 800, (fun _ => .long 0))) (h_225 : f 225 = .inl (.long, 12, (fun _ => .long 0))) (h_226 : f 226 = .inl (.long, 10, (fun _ => .long 0))) (h_227 : f 227 = .inr (11, [.ref 228, .ref 229, .ref 230, .ref 231])) (h_228 : f 228 = .inl (.int, 2000, (fun _ => .int 0))) (h_229 : f 229 = .inl (.int, 2000, (fun _ => .int 0))) (h_230 : f 230 = .inl (.long, 2000, (fun _ => .long 0))) (h_231 : f 231 = .inl (.long, 2000, (fun _ => .long 0))) (h_237 : f 237 = .inl (.object "StowTongueModel$Code", 10, (fun _ => .null))) : am_Mt K X m_Mod_sync 2 0 0 [.ref 160] (1311, f) (fun v h' => v = some (.int 0) ∧ h'.1 = 1311 ∧ h'.2 222 = .inl (.int, 100, (va_cpy (fun _ => .int 0) (fun _ => .int 0) 0 0 100)) ∧ h'.2 223 = .inl (.int, 100, (va_cpy (fun _ => .int 0) (fun _ => .int 0) 0 0 100)) ∧ h'.2 224 = .inl (.long, 800, (va_cpy (fun _ => .long 0) (fun _ => .long 0) 0 0 800)) ∧ h'.2 228 = .inl (.int, 2000, (va_cpy (fun _ => .int 0) (fun _ => .int 0) 0 0 2000)) ∧ h'.2 229 = .inl (.int, 2000, (va_cpy (fun _ => .int 0) (fun _ => .int 0) 0 0 2000)) ∧ h'.2 230 = .inl (.long, 2000, (va_cpy (fun _ => .long 0) (fun _ => .long 0) 0 0 2000)) ∧ h'.2 231 = .inl (.long, 2000, (va_cpy (fun _ => .long 0) (fun _ => .long 0) 0 0 2000)) ∧ h'.2 225 = .inl (.long, 12, (va_cpy (fun _ => .long 0) (fun _ => .long 0) 0 0 12)) ∧ h'.2 226 = .inl (.long, 10, (va_cpy (fun _ => .long 0) (fun _ => .long 0) 0 0 10)) ∧ h'.2 237 = .inl (.object "StowTongueModel$Code", 10, (va_cpy (fun _ => .null) (fun _ => .null) 0 0 10)) ∧ h'.2 221 = .inr (13, [.ref 222, .ref 223, .ref 224, .ref 225, .ref 226, .ref 227, .ref 232, .ref 237, .int 0, .int 0, .int 0, .int 0]) ∧ h'.2 160 = .inr (14, [.ref 161, .ref 162, .int 0, .int 0, .int 0, .int 0, .int 0, .int 0, .int 0, .int 0, .int 0, .long 0, .ref 163, .ref 170, .ref 171, .ref 172, .ref 173, .ref 174, .ref 175, .ref 176, .int 0, .ref 177, .null, .ref 184, .int 0, .int 0, .ref 185, .int 0, .ref 186, .int 0, .ref 187, .ref 204, .ref 221, .ref 238, .int 0, .int 0, .ref 239, .ref 240, .ref 245, .ref 250, .ref 255, .int 0, .int 0, .int 0, .int 0, .int 0, .int 0, .ref 260, .ref 261, .ref 262, .ref 263, .ref 264, .int 0]) ∧ ∀ x, x ∉ ([222, 223, 224, 228, 229, 230, 231, 225, 226, 237, 221, 160] : List Nat) → h'.2 x = f x) := by
  refine am_enter (by decide +kernel) (Nat.le_of_ble_eq_true rfl) ?_
  refine am_aload_n d_Mod_sync_0 rfl rfl ?_
  refine am_get O f_Mod_409 d_Mod_sync_1 (by exact h_160) (by decide) (by decide) rfl ?_
  refine am_istore_n d_Mod_sync_4 rfl (by decide) ?_
  refine am_aload_n d_Mod_sync_5 rfl rfl ?_
  refine am_get O f_Mod_356 d_Mod_sync_6 (by exact h_160) (by decide) (by decide) rfl ?_
  refine am_aload_n d_Mod_sync_9 rfl rfl ?_
  refine am_get O f_Mod_349 d_Mod_sync_10 (by exact h_160) (by decide) (by decide) rfl ?_
  refine am_callV O (t8_State_copy O (by exact h_187) (by exact h_188) (by exact h_189) (by exact h_190) (by exact h_191) (by exact h_192) (by exact h_193) (by exact h_194) (by exact h_195) (by exact h_196) (by exact h_197) (by exact h_203) (by exact h_221) (by exact h_222) (by exact h_223) (by exact h_224) (by exact h_225) (by exact h_226) (by exact h_227) (by exact h_228) (by exact h_229) (by exact h_230) (by exact h_231) (by exact h_237)) rfl (by exact h_221) (by decide) (by decide) rfl rfl l_Mod_448 ⟨w_1987, w_1988⟩ rfl (Nat.le_of_ble_eq_true rfl) d_Mod_sync_13 (by omega) (by omega) (by omega) (fun v h' hp => ?_)
  obtain ⟨n1, f1⟩ := h'
  obtain ⟨rfl, e1, g_222_1, g_223_1, g_224_1, g_228_1, g_229_1, g_230_1, g_231_1, g_225_1, g_226_1, g_237_1, g_221_1, fr1⟩ := hp
  obtain rfl : n1 = 1311 := e1
  have fr1 := fun (x : Nat) (hx : x ∉ ([222, 223, 224, 228, 229, 230, 231, 225, 226, 237, 221] : List Nat)) => (show f1 x = _ from fr1 x hx)
  have h_222_1 : f1 222 = .inl (.int, 100, (va_cpy (fun _ => .int 0) (fun _ => .int 0) 0 0 100)) := g_222_1
  have h_223_1 : f1 223 = .inl (.int, 100, (va_cpy (fun _ => .int 0) (fun _ => .int 0) 0 0 100)) := g_223_1
  have h_224_1 : f1 224 = .inl (.long, 800, (va_cpy (fun _ => .long 0) (fun _ => .long 0) 0 0 800)) := g_224_1
  have h_228_1 : f1 228 = .inl (.int, 2000, (va_cpy (fun _ => .int 0) (fun _ => .int 0) 0 0 2000)) := g_228_1
  have h_229_1 : f1 229 = .inl (.int, 2000, (va_cpy (fun _ => .int 0) (fun _ => .int 0) 0 0 2000)) := g_229_1
  have h_230_1 : f1 230 = .inl (.long, 2000, (va_cpy (fun _ => .long 0) (fun _ => .long 0) 0 0 2000)) := g_230_1
  have h_231_1 : f1 231 = .inl (.long, 2000, (va_cpy (fun _ => .long 0) (fun _ => .long 0) 0 0 2000)) := g_231_1
  have h_225_1 : f1 225 = .inl (.long, 12, (va_cpy (fun _ => .long 0) (fun _ => .long 0) 0 0 12)) := g_225_1
  have h_226_1 : f1 226 = .inl (.long, 10, (va_cpy (fun _ => .long 0) (fun _ => .long 0) 0 0 10)) := g_226_1
  have h_237_1 : f1 237 = .inl (.object "StowTongueModel$Code", 10, (va_cpy (fun _ => .null) (fun _ => .null) 0 0 10)) := g_237_1
  have h_221_1 : f1 221 = .inr (13, [.ref 222, .ref 223, .ref 224, .ref 225, .ref 226, .ref 227, .ref 232, .ref 237, .int 0, .int 0, .int 0, .int 0]) := g_221_1
  refine am_aload_n d_Mod_sync_16 rfl rfl ?_
  refine am_iconst (v := 0) d_Mod_sync_17 (by decide) ?_
  have h_160_1 : f1 160 = .inr (14, [.ref 161, .ref 162, .int 0, .int 0, .int 0, .int 0, .int 0, .int 0, .int 0, .int 0, .int 0, .long 0, .ref 163, .ref 170, .ref 171, .ref 172, .ref 173, .ref 174, .ref 175, .ref 176, .int 0, .ref 177, .null, .ref 184, .int 0, .int 0, .ref 185, .int 0, .ref 186, .int 0, .ref 187, .ref 204, .ref 221, .ref 238, .int 0, .int 0, .ref 239, .ref 240, .ref 245, .ref 250, .ref 255, .int 0, .int 0, .int 0, .int 0, .int 0, .int 0, .ref 260, .ref 261, .ref 262, .ref 263, .ref 264, .int 0]) := (fr1 160 (by decide)).trans h_160
  refine am_put O f_Mod_409 d_Mod_sync_18 (by exact h_160_1) (by decide) (by decide) (Nat.le_of_ble_eq_true rfl) (fun q hq => by cases hq; exact ⟨rfl, rfl, rfl⟩) ?_
  refine am_iload_n d_Mod_sync_21 rfl rfl ?_
  exact am_iret rfl d_Mod_sync_22 ⟨rfl, rfl, h_222_1, h_223_1, h_224_1, h_228_1, h_229_1, h_230_1, h_231_1, h_225_1, h_226_1, h_237_1, h_221_1, rfl, fun x hx => by simp only [List.mem_cons, List.not_mem_nil, or_false, not_or] at hx; dsimp only; (repeat (first | rw [va_up_ne _ _ (by omega)] | rw [fr1 x (by simp only [List.mem_cons, List.not_mem_nil, or_false, not_or]; omega)]))⟩

set_option maxRecDepth 100000 in
set_option maxHeartbeats 4000000 in
theorem t10_Lexer_wholeName (O : am_ok K X)   {h : am_H} : am_Mt K X m_Lexer_wholeName 0 0 0 [.ref 129, .int 0] h (fun v h' => v = some (.long 0) ∧ h' = h) := by
  refine am_enter (by decide +kernel) (Nat.le_of_ble_eq_true rfl) ?_
  refine am_iload_n d_Lexer_wholeName_0 rfl rfl ?_
  refine am_iconst (v := 1) d_Lexer_wholeName_1 (by decide) ?_
  refine am_icmp_lt (tgt := 26) d_Lexer_wholeName_2 (by decide) (fun _ => ?_) (fun c => absurd (by decide) c)
  refine am_lconst (v := 0) d_Lexer_wholeName_26 (by decide) ?_
  exact am_lret rfl d_Lexer_wholeName_27 ⟨rfl, rfl⟩

set_option maxRecDepth 100000 in
set_option maxHeartbeats 4000000 in
theorem t11_Store_init (O : am_ok K X)   {f : Nat → am_C} (h_1311 : f 1311 = .inr (10, [.null, .null, .null, .null, .null, .null, .int 0, .null, .int 0])) : am_Mt K X m_Store_init 1 7 4146 [.ref 1311] (1312, f) (fun v h' => v = none ∧ h'.1 = 1319 ∧ h'.2 1312 = .inl (.long, 2000, (fun _ => .long 0)) ∧ h'.2 1311 = .inr (10, [.ref 1312, .ref 1313, .ref 1314, .ref 1315, .ref 1316, .ref 1317, .int 0, .ref 1318, .int 0]) ∧ h'.2 1313 = .inl (.long, 2000, (fun _ => .long 0)) ∧ h'.2 1314 = .inl (.int, 100, (fun j => if j < 100 then .int (-1) else (fun _ => .int 0) j)) ∧ h'.2 1315 = .inl (.long, 12, (fun _ => .long 0)) ∧ h'.2 1316 = .inl (.long, 12, (fun _ => .long 0)) ∧ h'.2 1317 = .inl (.long, 12, (fun _ => .long 0)) ∧ h'.2 1318 = .inl (.object "StowTongue$Unit", 10, (fun _ => .null)) ∧ ∀ x, x ∉ ([1312, 1311, 1313, 1314, 1315, 1316, 1317, 1318] : List Nat) → h'.2 x = f x) := by
  refine am_enter (by decide +kernel) (Nat.le_of_ble_eq_true rfl) ?_
  refine am_aload_n d_Store_init_0 rfl rfl ?_
  refine am_obj w_965 w_177 w_178 d_Store_init_1 (by omega) (Nat.le_of_ble_eq_true rfl) ?_
  refine am_aload_n d_Store_init_4 rfl rfl ?_
  refine am_sipush (v := 2000) d_Store_init_5 (by decide) ?_
  refine am_newa (at_ := .long) (ty := .long) (N := 2000) O rfl (by decide) w_291 d_Store_init_8 (by decide) (by decide) (by decide) (by omega) (by omega) ?_
  refine am_putF O f_Store_9 (fun q hq => by cases hq; exact ⟨w_970, rfl⟩) rfl d_Store_init_10 (by exact h_1311) (by decide) (by decide) (Nat.le_of_ble_eq_true rfl) (fun q hq => by cases hq; exact ⟨rfl, rfl, rfl⟩) ?_
  refine am_aload_n d_Store_init_13 rfl rfl ?_
  refine am_sipush (v := 2000) d_Store_init_14 (by decide) ?_
  refine am_newa (at_ := .long) (ty := .long) (N := 2000) O rfl (by decide) w_291 d_Store_init_17 (by decide) (by decide) (by decide) (by omega) (by omega) ?_
  refine am_putF O f_Store_13 (fun q hq => by cases hq; exact ⟨w_973, rfl⟩) rfl d_Store_init_19 (by rfl) (by decide) (by decide) (Nat.le_of_ble_eq_true rfl) (fun q hq => by cases hq; exact ⟨rfl, rfl, rfl⟩) ?_
  refine am_aload_n d_Store_init_22 rfl rfl ?_
  refine am_bipush (v := 100) d_Store_init_23 (by decide) ?_
  refine am_newa (at_ := .int) (ty := .int) (N := 100) O rfl (by decide) w_317 d_Store_init_25 (by decide) (by decide) (by decide) (by omega) (by omega) ?_
  refine am_putF O f_Store_16 (fun q hq => by cases hq; exact ⟨w_976, rfl⟩) rfl d_Store_init_27 (by rfl) (by decide) (by decide) (Nat.le_of_ble_eq_true rfl) (fun q hq => by cases hq; exact ⟨rfl, rfl, rfl⟩) ?_
  refine am_aload_n d_Store_init_30 rfl rfl ?_
  refine am_bipush (v := 12) d_Store_init_31 (by decide) ?_
  refine am_newa (at_ := .long) (ty := .long) (N := 12) O rfl (by decide) w_291 d_Store_init_33 (by decide) (by decide) (by decide) (by omega) (by omega) ?_
  refine am_putF O f_Store_20 (fun q hq => by cases hq; exact ⟨w_977, rfl⟩) rfl d_Store_init_35 (by rfl) (by decide) (by decide) (Nat.le_of_ble_eq_true rfl) (fun q hq => by cases hq; exact ⟨rfl, rfl, rfl⟩) ?_
  refine am_aload_n d_Store_init_38 rfl rfl ?_
  refine am_bipush (v := 12) d_Store_init_39 (by decide) ?_
  refine am_newa (at_ := .long) (ty := .long) (N := 12) O rfl (by decide) w_291 d_Store_init_41 (by decide) (by decide) (by decide) (by omega) (by omega) ?_
  refine am_putF O f_Store_23 (fun q hq => by cases hq; exact ⟨w_978, rfl⟩) rfl d_Store_init_43 (by rfl) (by decide) (by decide) (Nat.le_of_ble_eq_true rfl) (fun q hq => by cases hq; exact ⟨rfl, rfl, rfl⟩) ?_
  refine am_aload_n d_Store_init_46 rfl rfl ?_
  refine am_bipush (v := 12) d_Store_init_47 (by decide) ?_
  refine am_newa (at_ := .long) (ty := .long) (N := 12) O rfl (by decide) w_291 d_Store_init_49 (by decide) (by decide) (by decide) (by omega) (by omega) ?_
  refine am_putF O f_Store_26 (fun q hq => by cases hq; exact ⟨w_982, rfl⟩) rfl d_Store_init_51 (by rfl) (by decide) (by decide) (Nat.le_of_ble_eq_true rfl) (fun q hq => by cases hq; exact ⟨rfl, rfl, rfl⟩) ?_
  refine am_aload_n d_Store_init_54 rfl rfl ?_
  refine am_bipush (v := 10) d_Store_init_55 (by decide) ?_
  refine am_anew (N := 10) O (by decide) w_966 x_401 d_Store_init_57 (by decide) (by decide) (by decide) (by omega) (by omega) ?_
  refine am_putF O f_Store_31 (fun q hq => by cases hq; exact ⟨w_987, rfl⟩) rfl d_Store_init_60 (by rfl) (by decide) (by decide) (Nat.le_of_ble_eq_true rfl) (fun q hq => by cases hq; exact ⟨rfl, rfl, rfl⟩) ?_
  refine am_aload_n d_Store_init_63 rfl rfl ?_
  refine am_get O f_Store_16 d_Store_init_64 (by rfl) (by decide) (by decide) rfl ?_
  refine am_iconst (v := (-1)) d_Store_init_67 (by decide) ?_
  refine am_callS O (c_Arr_fill_aII O (by rfl) (by decide) (by decide) (by decide)) rfl l_Store_35 w_968 rfl (Nat.le_of_ble_eq_true rfl) d_Store_init_68 (by omega) (by omega) (by omega) (fun v h' hp => ?_)
  obtain ⟨n1, f1⟩ := h'
  obtain ⟨rfl, e1, g_1314_1, fr1⟩ := hp
  obtain rfl : n1 = 1319 := e1
  have fr1 := fun (x : Nat) (hx : x ∉ ([1314] : List Nat)) => (show f1 x = _ from fr1 x hx)
  have h_1314_1 : f1 1314 = .inl (.int, 100, (fun j => if j < 100 then .int (-1) else (fun _ => .int 0) j)) := g_1314_1
  have h_1312_1 : f1 1312 = .inl (.long, 2000, (fun _ => .long 0)) := (fr1 1312 (by decide)).trans rfl
  have h_1311_1 : f1 1311 = .inr (10, [.ref 1312, .ref 1313, .ref 1314, .ref 1315, .ref 1316, .ref 1317, .int 0, .ref 1318, .int 0]) := (fr1 1311 (by decide)).trans rfl
  have h_1313_1 : f1 1313 = .inl (.long, 2000, (fun _ => .long 0)) := (fr1 1313 (by decide)).trans rfl
  have h_1315_1 : f1 1315 = .inl (.long, 12, (fun _ => .long 0)) := (fr1 1315 (by decide)).trans rfl
  have h_1316_1 : f1 1316 = .inl (.long, 12, (fun _ => .long 0)) := (fr1 1316 (by decide)).trans rfl
  have h_1317_1 : f1 1317 = .inl (.long, 12, (fun _ => .long 0)) := (fr1 1317 (by decide)).trans rfl
  have h_1318_1 : f1 1318 = .inl (.object "StowTongue$Unit", 10, (fun _ => .null)) := (fr1 1318 (by decide)).trans rfl
  exact am_vret rfl d_Store_init_71 ⟨rfl, rfl, h_1312_1, h_1311_1, h_1313_1, h_1314_1, h_1315_1, h_1316_1, h_1317_1, h_1318_1, fun x hx => by simp only [List.mem_cons, List.not_mem_nil, or_false, not_or] at hx; dsimp only; (repeat (first | rw [va_up_ne _ _ (by omega)] | rw [fr1 x (by simp only [List.mem_cons, List.not_mem_nil, or_false, not_or]; omega)]))⟩

set_option maxRecDepth 100000 in
set_option maxHeartbeats 4000000 in
theorem t12_Log_storeAt (O : am_ok K X)   {f : Nat → am_C} (h_154 : f 154 = .inr (7, [.ref 155, .ref 156, .int 0, .int 0])) (h_155 : f 155 = .inl (.object "StowTongue$Store", 10, (fun _ => .null))) : am_Mt K X m_Log_storeAt 2 8 4155 [.ref 154, .int 0] (1311, f) (fun v h' => v = some (.ref 1311) ∧ h'.1 = 1319 ∧ h'.2 1311 = .inr (10, [.ref 1312, .ref 1313, .ref 1314, .ref 1315, .ref 1316, .ref 1317, .int 0, .ref 1318, .int 0]) ∧ h'.2 1312 = .inl (.long, 2000, (fun _ => .long 0)) ∧ h'.2 1313 = .inl (.long, 2000, (fun _ => .long 0)) ∧ h'.2 1314 = .inl (.int, 100, (fun j => if j < 100 then .int (-1) else (fun _ => .int 0) j)) ∧ h'.2 1315 = .inl (.long, 12, (fun _ => .long 0)) ∧ h'.2 1316 = .inl (.long, 12, (fun _ => .long 0)) ∧ h'.2 1317 = .inl (.long, 12, (fun _ => .long 0)) ∧ h'.2 1318 = .inl (.object "StowTongue$Unit", 10, (fun _ => .null)) ∧ h'.2 155 = .inl (.object "StowTongue$Store", 10, (updV (fun _ => .null) 0 (.ref 1311))) ∧ ∀ x, x ∉ ([1311, 1312, 1313, 1314, 1315, 1316, 1317, 1318, 155] : List Nat) → h'.2 x = f x) := by
  refine am_enter (by decide +kernel) (Nat.le_of_ble_eq_true rfl) ?_
  refine am_aload_n d_Log_storeAt_0 rfl rfl ?_
  refine am_get O f_Log_11 d_Log_storeAt_1 (by exact h_154) (by decide) (by decide) rfl ?_
  refine am_iload_n d_Log_storeAt_4 rfl rfl ?_
  refine am_aald (v := .null) O d_Log_storeAt_5 (by exact h_155) (by decide) (by decide) (by decide) rfl (am_in (by decide) (by decide)) rfl ?_
  refine am_astore_nN d_Log_storeAt_6 rfl (by decide) ?_
  refine am_aload_nN d_Log_storeAt_7 rfl rfl ?_
  refine am_ifnonnullN d_Log_storeAt_8 ?_
  refine am_new O n_Log_9 d_Log_storeAt_11 (by omega) (by omega) ?_
  refine am_dup d_Log_storeAt_14 rfl ?_
  refine am_callI O (t11_Store_init O (by rfl)) rfl l_Log_26 w_963 rfl rfl rfl (Nat.le_of_ble_eq_true rfl) d_Log_storeAt_15 (by omega) (by omega) (by omega) (fun v h' hp => ?_)
  obtain ⟨n1, f1⟩ := h'
  obtain ⟨rfl, e1, g_1312_1, g_1311_1, g_1313_1, g_1314_1, g_1315_1, g_1316_1, g_1317_1, g_1318_1, fr1⟩ := hp
  obtain rfl : n1 = 1319 := e1
  have fr1 := fun (x : Nat) (hx : x ∉ ([1312, 1311, 1313, 1314, 1315, 1316, 1317, 1318] : List Nat)) => (show f1 x = _ from fr1 x hx)
  have h_1312_1 : f1 1312 = .inl (.long, 2000, (fun _ => .long 0)) := g_1312_1
  have h_1311_1 : f1 1311 = .inr (10, [.ref 1312, .ref 1313, .ref 1314, .ref 1315, .ref 1316, .ref 1317, .int 0, .ref 1318, .int 0]) := g_1311_1
  have h_1313_1 : f1 1313 = .inl (.long, 2000, (fun _ => .long 0)) := g_1313_1
  have h_1314_1 : f1 1314 = .inl (.int, 100, (fun j => if j < 100 then .int (-1) else (fun _ => .int 0) j)) := g_1314_1
  have h_1315_1 : f1 1315 = .inl (.long, 12, (fun _ => .long 0)) := g_1315_1
  have h_1316_1 : f1 1316 = .inl (.long, 12, (fun _ => .long 0)) := g_1316_1
  have h_1317_1 : f1 1317 = .inl (.long, 12, (fun _ => .long 0)) := g_1317_1
  have h_1318_1 : f1 1318 = .inl (.object "StowTongue$Unit", 10, (fun _ => .null)) := g_1318_1
  refine am_astore_n d_Log_storeAt_18 rfl (by decide) ?_
  refine am_aload_n d_Log_storeAt_19 rfl rfl ?_
  have h_154_1 : f1 154 = .inr (7, [.ref 155, .ref 156, .int 0, .int 0]) := (fr1 154 (by decide)).trans h_154
  refine am_get O f_Log_11 d_Log_storeAt_20 (by exact h_154_1) (by decide) (by decide) rfl ?_
  refine am_iload_n d_Log_storeAt_23 rfl rfl ?_
  refine am_aload_n d_Log_storeAt_24 rfl rfl ?_
  have h_155_1 : f1 155 = .inl (.object "StowTongue$Store", 10, (fun _ => .null)) := (fr1 155 (by decide)).trans h_155
  refine am_aast O d_Log_storeAt_25 (by exact h_155_1) (by decide) (by decide) (by exact h_1311_1) (by decide) (by decide) (by rfl) (by rfl) (by decide) (am_in (by decide) (by decide)) ?_
  refine am_aload_n d_Log_storeAt_26 rfl rfl ?_
  exact am_aret rfl (Or.inl ⟨_, rfl⟩) d_Log_storeAt_27 ⟨rfl, rfl, h_1311_1, h_1312_1, h_1313_1, h_1314_1, h_1315_1, h_1316_1, h_1317_1, h_1318_1, rfl, fun x hx => by simp only [List.mem_cons, List.not_mem_nil, or_false, not_or] at hx; dsimp only; (repeat (first | rw [va_up_ne _ _ (by omega)] | rw [fr1 x (by simp only [List.mem_cons, List.not_mem_nil, or_false, not_or]; omega)]))⟩

set_option maxRecDepth 100000 in
set_option maxHeartbeats 4000000 in
theorem t13_Log_latest (O : am_ok K X)   {f : Nat → am_C} (h_154 : f 154 = .inr (7, [.ref 155, .ref 156, .int 0, .int 0])) (h_155 : f 155 = .inl (.object "StowTongue$Store", 10, (fun _ => .null))) : am_Mt K X m_Log_latest 3 8 4155 [.ref 154] (1311, f) (fun v h' => v = some (.ref 1311) ∧ h'.1 = 1319 ∧ h'.2 1311 = .inr (10, [.ref 1312, .ref 1313, .ref 1314, .ref 1315, .ref 1316, .ref 1317, .int 0, .ref 1318, .int 0]) ∧ h'.2 1312 = .inl (.long, 2000, (fun _ => .long 0)) ∧ h'.2 1313 = .inl (.long, 2000, (fun _ => .long 0)) ∧ h'.2 1314 = .inl (.int, 100, (fun j => if j < 100 then .int (-1) else (fun _ => .int 0) j)) ∧ h'.2 1315 = .inl (.long, 12, (fun _ => .long 0)) ∧ h'.2 1316 = .inl (.long, 12, (fun _ => .long 0)) ∧ h'.2 1317 = .inl (.long, 12, (fun _ => .long 0)) ∧ h'.2 1318 = .inl (.object "StowTongue$Unit", 10, (fun _ => .null)) ∧ h'.2 155 = .inl (.object "StowTongue$Store", 10, (updV (fun _ => .null) 0 (.ref 1311))) ∧ ∀ x, x ∉ ([1311, 1312, 1313, 1314, 1315, 1316, 1317, 1318, 155] : List Nat) → h'.2 x = f x) := by
  refine am_enter (by decide +kernel) (Nat.le_of_ble_eq_true rfl) ?_
  refine am_aload_n d_Log_latest_0 rfl rfl ?_
  refine am_aload_n d_Log_latest_1 rfl rfl ?_
  refine am_get O f_Log_27 d_Log_latest_2 (by exact h_154) (by decide) (by decide) rfl ?_
  refine am_callV O (t12_Log_storeAt O (by exact h_154) (by exact h_155)) rfl (by exact h_154) (by decide) (by decide) rfl rfl l_Log_31 ⟨w_959, w_40⟩ rfl (Nat.le_of_ble_eq_true rfl) d_Log_latest_5 (by omega) (by omega) (by omega) (fun v h' hp => ?_)
  obtain ⟨n1, f1⟩ := h'
  obtain ⟨rfl, e1, g_1311_1, g_1312_1, g_1313_1, g_1314_1, g_1315_1, g_1316_1, g_1317_1, g_1318_1, g_155_1, fr1⟩ := hp
  obtain rfl : n1 = 1319 := e1
  have fr1 := fun (x : Nat) (hx : x ∉ ([1311, 1312, 1313, 1314, 1315, 1316, 1317, 1318, 155] : List Nat)) => (show f1 x = _ from fr1 x hx)
  have h_1311_1 : f1 1311 = .inr (10, [.ref 1312, .ref 1313, .ref 1314, .ref 1315, .ref 1316, .ref 1317, .int 0, .ref 1318, .int 0]) := g_1311_1
  have h_1312_1 : f1 1312 = .inl (.long, 2000, (fun _ => .long 0)) := g_1312_1
  have h_1313_1 : f1 1313 = .inl (.long, 2000, (fun _ => .long 0)) := g_1313_1
  have h_1314_1 : f1 1314 = .inl (.int, 100, (fun j => if j < 100 then .int (-1) else (fun _ => .int 0) j)) := g_1314_1
  have h_1315_1 : f1 1315 = .inl (.long, 12, (fun _ => .long 0)) := g_1315_1
  have h_1316_1 : f1 1316 = .inl (.long, 12, (fun _ => .long 0)) := g_1316_1
  have h_1317_1 : f1 1317 = .inl (.long, 12, (fun _ => .long 0)) := g_1317_1
  have h_1318_1 : f1 1318 = .inl (.object "StowTongue$Unit", 10, (fun _ => .null)) := g_1318_1
  have h_155_1 : f1 155 = .inl (.object "StowTongue$Store", 10, (updV (fun _ => .null) 0 (.ref 1311))) := g_155_1
  exact am_aret rfl (Or.inl ⟨_, rfl⟩) d_Log_latest_8 ⟨rfl, rfl, h_1311_1, h_1312_1, h_1313_1, h_1314_1, h_1315_1, h_1316_1, h_1317_1, h_1318_1, h_155_1, fun x hx => by simp only [List.mem_cons, List.not_mem_nil, or_false, not_or] at hx; dsimp only; (repeat (first | rw [va_up_ne _ _ (by omega)] | rw [fr1 x (by simp only [List.mem_cons, List.not_mem_nil, or_false, not_or]; omega)]))⟩

set_option maxRecDepth 100000 in
set_option maxHeartbeats 4000000 in
theorem a_root_c (O : am_ok K X)   {f : Nat → am_C} (h_128 : f 128 = .inr (9, [.ref 129, .int 0, .ref 130, .ref 132, .ref 148, .ref 154, .ref 157, .long 0, .long 0, .int 0])) (h_154 : f 154 = .inr (7, [.ref 155, .ref 156, .int 0, .int 0])) (h_155 : f 155 = .inl (.object "StowTongue$Store", 10, (fun _ => .null))) : am_Mt K X m_Stow_root 4 8 4155 [.ref 128] (1311, f) (fun v h' => v = some (.long 1099511627776) ∧ h'.1 = 1319 ∧ h'.2 128 = .inr (9, [.ref 129, .int 0, .ref 130, .ref 132, .ref 148, .ref 154, .ref 157, .long 0, .long 0, .int 0]) ∧ h'.2 1311 = .inr (10, [.ref 1312, .ref 1313, .ref 1314, .ref 1315, .ref 1316, .ref 1317, .int 0, .ref 1318, .int 0]) ∧ h'.2 1312 = .inl (.long, 2000, (fun _ => .long 0)) ∧ h'.2 1313 = .inl (.long, 2000, (fun _ => .long 0)) ∧ h'.2 1314 = .inl (.int, 100, (fun j => if j < 100 then .int (-1) else (fun _ => .int 0) j)) ∧ h'.2 1315 = .inl (.long, 12, (fun _ => .long 0)) ∧ h'.2 1316 = .inl (.long, 12, (fun _ => .long 0)) ∧ h'.2 1317 = .inl (.long, 12, (fun _ => .long 0)) ∧ h'.2 1318 = .inl (.object "StowTongue$Unit", 10, (fun _ => .null)) ∧ h'.2 155 = .inl (.object "StowTongue$Store", 10, (updV (fun _ => .null) 0 (.ref 1311))) ∧ ∀ x, x ∉ ([128, 1311, 1312, 1313, 1314, 1315, 1316, 1317, 1318, 155] : List Nat) → h'.2 x = f x) := by
  refine am_enter (by decide +kernel) (Nat.le_of_ble_eq_true rfl) ?_
  refine am_aload_n d_Stow_root_0 rfl rfl ?_
  refine am_get O f_Stow_9 d_Stow_root_1 (by exact h_128) (by decide) (by decide) rfl ?_
  refine am_aload_n d_Stow_root_4 rfl rfl ?_
  refine am_get O f_Stow_48 d_Stow_root_5 (by exact h_128) (by decide) (by decide) rfl ?_
  refine am_callS O (t10_Lexer_wholeName O) rfl l_Stow_145 w_1400 rfl (Nat.le_of_ble_eq_true rfl) d_Stow_root_8 (by omega) (by omega) (by omega) (fun v h' hp => ?_)
  obtain ⟨rfl, rfl⟩ := hp
  refine am_lstore_n d_Stow_root_11 rfl (by decide) ?_
  refine am_aload_n d_Stow_root_12 rfl rfl ?_
  refine am_iconst (v := 0) d_Stow_root_13 (by decide) ?_
  refine am_put O f_Stow_48 d_Stow_root_14 (by exact h_128) (by decide) (by decide) (Nat.le_of_ble_eq_true rfl) (fun q hq => by cases hq; exact ⟨rfl, rfl, rfl⟩) ?_
  refine am_aload_n d_Stow_root_17 rfl rfl ?_
  refine am_get O f_Stow_37 d_Stow_root_18 (by rfl) (by decide) (by decide) rfl ?_
  refine am_callV O (t13_Log_latest O (by exact h_154) (by exact h_155)) rfl (by exact h_154) (by decide) (by decide) rfl rfl l_Stow_103 ⟨w_1009, w_1010⟩ rfl (Nat.le_of_ble_eq_true rfl) d_Stow_root_21 (by omega) (by omega) (by omega) (fun v h' hp => ?_)
  obtain ⟨n1, f1⟩ := h'
  obtain ⟨rfl, e1, g_1311_1, g_1312_1, g_1313_1, g_1314_1, g_1315_1, g_1316_1, g_1317_1, g_1318_1, g_155_1, fr1⟩ := hp
  obtain rfl : n1 = 1319 := e1
  have fr1 := fun (x : Nat) (hx : x ∉ ([1311, 1312, 1313, 1314, 1315, 1316, 1317, 1318, 155] : List Nat)) => (show f1 x = _ from fr1 x hx)
  have h_1311_1 : f1 1311 = .inr (10, [.ref 1312, .ref 1313, .ref 1314, .ref 1315, .ref 1316, .ref 1317, .int 0, .ref 1318, .int 0]) := g_1311_1
  have h_1312_1 : f1 1312 = .inl (.long, 2000, (fun _ => .long 0)) := g_1312_1
  have h_1313_1 : f1 1313 = .inl (.long, 2000, (fun _ => .long 0)) := g_1313_1
  have h_1314_1 : f1 1314 = .inl (.int, 100, (fun j => if j < 100 then .int (-1) else (fun _ => .int 0) j)) := g_1314_1
  have h_1315_1 : f1 1315 = .inl (.long, 12, (fun _ => .long 0)) := g_1315_1
  have h_1316_1 : f1 1316 = .inl (.long, 12, (fun _ => .long 0)) := g_1316_1
  have h_1317_1 : f1 1317 = .inl (.long, 12, (fun _ => .long 0)) := g_1317_1
  have h_1318_1 : f1 1318 = .inl (.object "StowTongue$Unit", 10, (fun _ => .null)) := g_1318_1
  have h_155_1 : f1 155 = .inl (.object "StowTongue$Store", 10, (updV (fun _ => .null) 0 (.ref 1311))) := g_155_1
  refine am_astore_n d_Stow_root_24 rfl (by decide) ?_
  refine am_lload_n d_Stow_root_25 rfl rfl ?_
  refine am_lconst (v := 0) d_Stow_root_26 (by decide) ?_
  refine am_lcmp d_Stow_root_27 ?_
  refine am_topi (v := 0) (by decide) ?_
  refine am_if_ne (tgt := 35) d_Stow_root_28 (by decide) (fun c => absurd (by decide) c) (fun _ => ?_)
  refine am_iconst (v := (-1)) d_Stow_root_31 (by decide) ?_
  refine am_goto (tgt := 40) d_Stow_root_32 (by decide) ?_
  refine am_istore d_Stow_root_40 (by decide) ?_
  refine am_iload d_Stow_root_42 rfl ?_
  refine am_if_ge (tgt := 51) d_Stow_root_44 (by decide) (fun c => absurd c (by decide)) (fun _ => ?_)
  refine am_ldc2 (v := 1099511627776) w_1382 d_Stow_root_47 ?_
  have h_128_1 : f1 128 = .inr (9, [.ref 129, .int 0, .ref 130, .ref 132, .ref 148, .ref 154, .ref 157, .long 0, .long 0, .int 0]) := (fr1 128 (by decide)).trans rfl
  exact am_lret rfl d_Stow_root_50 ⟨rfl, rfl, h_128_1, h_1311_1, h_1312_1, h_1313_1, h_1314_1, h_1315_1, h_1316_1, h_1317_1, h_1318_1, h_155_1, fun x hx => by simp only [List.mem_cons, List.not_mem_nil, or_false, not_or] at hx; dsimp only; (repeat (first | rw [va_up_ne _ _ (by omega)] | rw [fr1 x (by simp only [List.mem_cons, List.not_mem_nil, or_false, not_or]; omega)]))⟩

set_option maxRecDepth 100000 in
set_option maxHeartbeats 4000000 in
theorem t15_State_findRoot (O : am_ok K X)   {f : Nat → am_C} (h_187 : f 187 = .inr (13, [.ref 188, .ref 189, .ref 190, .ref 191, .ref 192, .ref 193, .ref 198, .ref 203, .int 0, .int 0, .int 0, .int 0])) : am_Mt K X m_State_findRoot 0 0 0 [.ref 187, .long 0] (1319, f) (fun v h' => v = some (.int (-1)) ∧ h' = (1319, f)) := by
  refine am_enter (by decide +kernel) (Nat.le_of_ble_eq_true rfl) ?_
  refine am_iconst (v := 0) d_State_findRoot_0 (by decide) ?_
  refine am_istore_n d_State_findRoot_1 rfl (by decide) ?_
  refine am_iload_n d_State_findRoot_2 rfl rfl ?_
  refine am_aload_n d_State_findRoot_3 rfl rfl ?_
  refine am_get O f_State_60 d_State_findRoot_4 (by exact h_187) (by decide) (by decide) rfl ?_
  refine am_icmp_ge (tgt := 29) d_State_findRoot_7 (by decide) (fun _ => ?_) (fun c => absurd (by decide) c)
  refine am_iconst (v := (-1)) d_State_findRoot_29 (by decide) ?_
  exact am_iret rfl d_State_findRoot_30 ⟨rfl, rfl⟩

set_option maxRecDepth 100000 in
set_option maxHeartbeats 4000000 in
theorem a_root_m (O : am_ok K X)   {f : Nat → am_C} (h_160 : f 160 = .inr (14, [.ref 161, .ref 162, .int 0, .int 0, .int 0, .int 0, .int 0, .int 0, .int 0, .int 0, .int 0, .long 0, .ref 163, .ref 170, .ref 171, .ref 172, .ref 173, .ref 174, .ref 175, .ref 176, .int 0, .ref 177, .null, .ref 184, .int 0, .int 0, .ref 185, .int 0, .ref 186, .int 0, .ref 187, .ref 204, .ref 221, .ref 238, .int 0, .int 0, .ref 239, .ref 240, .ref 245, .ref 250, .ref 255, .int 0, .int 0, .int 0, .int 0, .int 0, .int 0, .ref 260, .ref 261, .ref 262, .ref 263, .ref 264, .int 0])) (h_187 : f 187 = .inr (13, [.ref 188, .ref 189, .ref 190, .ref 191, .ref 192, .ref 193, .ref 198, .ref 203, .int 0, .int 0, .int 0, .int 0])) : am_Mt K X m_Mod_root 1 0 0 [.ref 160] (1319, f) (fun v h' => v = some (.long 1099511627776) ∧ h'.1 = 1319 ∧ h'.2 160 = .inr (14, [.ref 161, .ref 162, .int 0, .int 0, .int 0, .int 0, .int 0, .int 0, .int 0, .int 0, .int 0, .long 0, .ref 163, .ref 170, .ref 171, .ref 172, .ref 173, .ref 174, .ref 175, .ref 176, .int 0, .ref 177, .null, .ref 184, .int 0, .int 0, .ref 185, .int 0, .ref 186, .int 0, .ref 187, .ref 204, .ref 221, .ref 238, .int 0, .int 0, .ref 239, .ref 240, .ref 245, .ref 250, .ref 255, .int 0, .int 0, .int 0, .int 0, .int 0, .int 0, .ref 260, .ref 261, .ref 262, .ref 263, .ref 264, .int 0]) ∧ ∀ x, x ∉ ([160] : List Nat) → h'.2 x = f x) := by
  refine am_enter (by decide +kernel) (Nat.le_of_ble_eq_true rfl) ?_
  refine am_aload_n d_Mod_root_0 rfl rfl ?_
  refine am_get O f_Mod_134 d_Mod_root_1 (by exact h_160) (by decide) (by decide) rfl ?_
  refine am_istore_n d_Mod_root_4 rfl (by decide) ?_
  refine am_aload_n d_Mod_root_5 rfl rfl ?_
  refine am_iconst (v := 0) d_Mod_root_6 (by decide) ?_
  refine am_put O f_Mod_134 d_Mod_root_7 (by exact h_160) (by decide) (by decide) (Nat.le_of_ble_eq_true rfl) (fun q hq => by cases hq; exact ⟨rfl, rfl, rfl⟩) ?_
  refine am_lconst (v := 0) d_Mod_root_10 (by decide) ?_
  refine am_lstore_n d_Mod_root_11 rfl (by decide) ?_
  refine am_iconst (v := 0) d_Mod_root_12 (by decide) ?_
  refine am_istore d_Mod_root_13 (by decide) ?_
  refine am_iload d_Mod_root_15 rfl ?_
  refine am_iload_n d_Mod_root_17 rfl rfl ?_
  refine am_icmp_ge (tgt := 65) d_Mod_root_18 (by decide) (fun _ => ?_) (fun c => absurd (by decide) c)
  refine am_aload_n d_Mod_root_65 rfl rfl ?_
  refine am_get O f_Mod_349 d_Mod_root_66 (by rfl) (by decide) (by decide) rfl ?_
  refine am_lload_n d_Mod_root_69 rfl rfl ?_
  refine am_callV O (t15_State_findRoot O (by exact h_187)) rfl (by exact h_187) (by decide) (by decide) rfl rfl l_Mod_469 ⟨w_2043, w_2044⟩ rfl (Nat.le_of_ble_eq_true rfl) d_Mod_root_70 (by omega) (by omega) (by omega) (fun v h' hp => ?_)
  obtain ⟨rfl, rfl⟩ := hp
  refine am_istore d_Mod_root_73 (by decide) ?_
  refine am_iload d_Mod_root_75 rfl ?_
  refine am_if_ge (tgt := 84) d_Mod_root_77 (by decide) (fun c => absurd c (by decide)) (fun _ => ?_)
  refine am_ldc2 (v := 1099511627776) w_1823 d_Mod_root_80 ?_
  exact am_lret rfl d_Mod_root_83 ⟨rfl, rfl, rfl, fun x hx => by simp only [List.mem_cons, List.not_mem_nil, or_false, not_or] at hx; dsimp only; (repeat (first | rw [va_up_ne _ _ (by omega)]))⟩

set_option maxRecDepth 100000 in
set_option maxHeartbeats 4000000 in
theorem t17_Log_storeAt (O : am_ok K X)   {f : Nat → am_C} (h_154 : f 154 = .inr (7, [.ref 155, .ref 156, .int 0, .int 0])) (h_155 : f 155 = .inl (.object "StowTongue$Store", 10, (fun _ => .null))) : am_Mt K X m_Log_storeAt 2 8 4155 [.ref 154, .int 1] (1311, f) (fun v h' => v = some (.ref 1311) ∧ h'.1 = 1319 ∧ h'.2 1311 = .inr (10, [.ref 1312, .ref 1313, .ref 1314, .ref 1315, .ref 1316, .ref 1317, .int 0, .ref 1318, .int 0]) ∧ h'.2 1312 = .inl (.long, 2000, (fun _ => .long 0)) ∧ h'.2 1313 = .inl (.long, 2000, (fun _ => .long 0)) ∧ h'.2 1314 = .inl (.int, 100, (fun j => if j < 100 then .int (-1) else (fun _ => .int 0) j)) ∧ h'.2 1315 = .inl (.long, 12, (fun _ => .long 0)) ∧ h'.2 1316 = .inl (.long, 12, (fun _ => .long 0)) ∧ h'.2 1317 = .inl (.long, 12, (fun _ => .long 0)) ∧ h'.2 1318 = .inl (.object "StowTongue$Unit", 10, (fun _ => .null)) ∧ h'.2 155 = .inl (.object "StowTongue$Store", 10, (updV (fun _ => .null) 1 (.ref 1311))) ∧ ∀ x, x ∉ ([1311, 1312, 1313, 1314, 1315, 1316, 1317, 1318, 155] : List Nat) → h'.2 x = f x) := by
  refine am_enter (by decide +kernel) (Nat.le_of_ble_eq_true rfl) ?_
  refine am_aload_n d_Log_storeAt_0 rfl rfl ?_
  refine am_get O f_Log_11 d_Log_storeAt_1 (by exact h_154) (by decide) (by decide) rfl ?_
  refine am_iload_n d_Log_storeAt_4 rfl rfl ?_
  refine am_aald (v := .null) O d_Log_storeAt_5 (by exact h_155) (by decide) (by decide) (by decide) rfl (am_in (by decide) (by decide)) rfl ?_
  refine am_astore_nN d_Log_storeAt_6 rfl (by decide) ?_
  refine am_aload_nN d_Log_storeAt_7 rfl rfl ?_
  refine am_ifnonnullN d_Log_storeAt_8 ?_
  refine am_new O n_Log_9 d_Log_storeAt_11 (by omega) (by omega) ?_
  refine am_dup d_Log_storeAt_14 rfl ?_
  refine am_callI O (t11_Store_init O (by rfl)) rfl l_Log_26 w_963 rfl rfl rfl (Nat.le_of_ble_eq_true rfl) d_Log_storeAt_15 (by omega) (by omega) (by omega) (fun v h' hp => ?_)
  obtain ⟨n1, f1⟩ := h'
  obtain ⟨rfl, e1, g_1312_1, g_1311_1, g_1313_1, g_1314_1, g_1315_1, g_1316_1, g_1317_1, g_1318_1, fr1⟩ := hp
  obtain rfl : n1 = 1319 := e1
  have fr1 := fun (x : Nat) (hx : x ∉ ([1312, 1311, 1313, 1314, 1315, 1316, 1317, 1318] : List Nat)) => (show f1 x = _ from fr1 x hx)
  have h_1312_1 : f1 1312 = .inl (.long, 2000, (fun _ => .long 0)) := g_1312_1
  have h_1311_1 : f1 1311 = .inr (10, [.ref 1312, .ref 1313, .ref 1314, .ref 1315, .ref 1316, .ref 1317, .int 0, .ref 1318, .int 0]) := g_1311_1
  have h_1313_1 : f1 1313 = .inl (.long, 2000, (fun _ => .long 0)) := g_1313_1
  have h_1314_1 : f1 1314 = .inl (.int, 100, (fun j => if j < 100 then .int (-1) else (fun _ => .int 0) j)) := g_1314_1
  have h_1315_1 : f1 1315 = .inl (.long, 12, (fun _ => .long 0)) := g_1315_1
  have h_1316_1 : f1 1316 = .inl (.long, 12, (fun _ => .long 0)) := g_1316_1
  have h_1317_1 : f1 1317 = .inl (.long, 12, (fun _ => .long 0)) := g_1317_1
  have h_1318_1 : f1 1318 = .inl (.object "StowTongue$Unit", 10, (fun _ => .null)) := g_1318_1
  refine am_astore_n d_Log_storeAt_18 rfl (by decide) ?_
  refine am_aload_n d_Log_storeAt_19 rfl rfl ?_
  have h_154_1 : f1 154 = .inr (7, [.ref 155, .ref 156, .int 0, .int 0]) := (fr1 154 (by decide)).trans h_154
  refine am_get O f_Log_11 d_Log_storeAt_20 (by exact h_154_1) (by decide) (by decide) rfl ?_
  refine am_iload_n d_Log_storeAt_23 rfl rfl ?_
  refine am_aload_n d_Log_storeAt_24 rfl rfl ?_
  have h_155_1 : f1 155 = .inl (.object "StowTongue$Store", 10, (fun _ => .null)) := (fr1 155 (by decide)).trans h_155
  refine am_aast O d_Log_storeAt_25 (by exact h_155_1) (by decide) (by decide) (by exact h_1311_1) (by decide) (by decide) (by rfl) (by rfl) (by decide) (am_in (by decide) (by decide)) ?_
  refine am_aload_n d_Log_storeAt_26 rfl rfl ?_
  exact am_aret rfl (Or.inl ⟨_, rfl⟩) d_Log_storeAt_27 ⟨rfl, rfl, h_1311_1, h_1312_1, h_1313_1, h_1314_1, h_1315_1, h_1316_1, h_1317_1, h_1318_1, rfl, fun x hx => by simp only [List.mem_cons, List.not_mem_nil, or_false, not_or] at hx; dsimp only; (repeat (first | rw [va_up_ne _ _ (by omega)] | rw [fr1 x (by simp only [List.mem_cons, List.not_mem_nil, or_false, not_or]; omega)]))⟩

set_option maxRecDepth 100000 in
set_option maxHeartbeats 4000000 in
theorem t18_Store_init (O : am_ok K X)   {f : Nat → am_C} (h_1319 : f 1319 = .inr (10, [.null, .null, .null, .null, .null, .null, .int 0, .null, .int 0])) : am_Mt K X m_Store_init 1 7 4146 [.ref 1319] (1320, f) (fun v h' => v = none ∧ h'.1 = 1327 ∧ h'.2 1320 = .inl (.long, 2000, (fun _ => .long 0)) ∧ h'.2 1319 = .inr (10, [.ref 1320, .ref 1321, .ref 1322, .ref 1323, .ref 1324, .ref 1325, .int 0, .ref 1326, .int 0]) ∧ h'.2 1321 = .inl (.long, 2000, (fun _ => .long 0)) ∧ h'.2 1322 = .inl (.int, 100, (fun j => if j < 100 then .int (-1) else (fun _ => .int 0) j)) ∧ h'.2 1323 = .inl (.long, 12, (fun _ => .long 0)) ∧ h'.2 1324 = .inl (.long, 12, (fun _ => .long 0)) ∧ h'.2 1325 = .inl (.long, 12, (fun _ => .long 0)) ∧ h'.2 1326 = .inl (.object "StowTongue$Unit", 10, (fun _ => .null)) ∧ ∀ x, x ∉ ([1320, 1319, 1321, 1322, 1323, 1324, 1325, 1326] : List Nat) → h'.2 x = f x) := by
  refine am_enter (by decide +kernel) (Nat.le_of_ble_eq_true rfl) ?_
  refine am_aload_n d_Store_init_0 rfl rfl ?_
  refine am_obj w_965 w_177 w_178 d_Store_init_1 (by omega) (Nat.le_of_ble_eq_true rfl) ?_
  refine am_aload_n d_Store_init_4 rfl rfl ?_
  refine am_sipush (v := 2000) d_Store_init_5 (by decide) ?_
  refine am_newa (at_ := .long) (ty := .long) (N := 2000) O rfl (by decide) w_291 d_Store_init_8 (by decide) (by decide) (by decide) (by omega) (by omega) ?_
  refine am_putF O f_Store_9 (fun q hq => by cases hq; exact ⟨w_970, rfl⟩) rfl d_Store_init_10 (by exact h_1319) (by decide) (by decide) (Nat.le_of_ble_eq_true rfl) (fun q hq => by cases hq; exact ⟨rfl, rfl, rfl⟩) ?_
  refine am_aload_n d_Store_init_13 rfl rfl ?_
  refine am_sipush (v := 2000) d_Store_init_14 (by decide) ?_
  refine am_newa (at_ := .long) (ty := .long) (N := 2000) O rfl (by decide) w_291 d_Store_init_17 (by decide) (by decide) (by decide) (by omega) (by omega) ?_
  refine am_putF O f_Store_13 (fun q hq => by cases hq; exact ⟨w_973, rfl⟩) rfl d_Store_init_19 (by rfl) (by decide) (by decide) (Nat.le_of_ble_eq_true rfl) (fun q hq => by cases hq; exact ⟨rfl, rfl, rfl⟩) ?_
  refine am_aload_n d_Store_init_22 rfl rfl ?_
  refine am_bipush (v := 100) d_Store_init_23 (by decide) ?_
  refine am_newa (at_ := .int) (ty := .int) (N := 100) O rfl (by decide) w_317 d_Store_init_25 (by decide) (by decide) (by decide) (by omega) (by omega) ?_
  refine am_putF O f_Store_16 (fun q hq => by cases hq; exact ⟨w_976, rfl⟩) rfl d_Store_init_27 (by rfl) (by decide) (by decide) (Nat.le_of_ble_eq_true rfl) (fun q hq => by cases hq; exact ⟨rfl, rfl, rfl⟩) ?_
  refine am_aload_n d_Store_init_30 rfl rfl ?_
  refine am_bipush (v := 12) d_Store_init_31 (by decide) ?_
  refine am_newa (at_ := .long) (ty := .long) (N := 12) O rfl (by decide) w_291 d_Store_init_33 (by decide) (by decide) (by decide) (by omega) (by omega) ?_
  refine am_putF O f_Store_20 (fun q hq => by cases hq; exact ⟨w_977, rfl⟩) rfl d_Store_init_35 (by rfl) (by decide) (by decide) (Nat.le_of_ble_eq_true rfl) (fun q hq => by cases hq; exact ⟨rfl, rfl, rfl⟩) ?_
  refine am_aload_n d_Store_init_38 rfl rfl ?_
  refine am_bipush (v := 12) d_Store_init_39 (by decide) ?_
  refine am_newa (at_ := .long) (ty := .long) (N := 12) O rfl (by decide) w_291 d_Store_init_41 (by decide) (by decide) (by decide) (by omega) (by omega) ?_
  refine am_putF O f_Store_23 (fun q hq => by cases hq; exact ⟨w_978, rfl⟩) rfl d_Store_init_43 (by rfl) (by decide) (by decide) (Nat.le_of_ble_eq_true rfl) (fun q hq => by cases hq; exact ⟨rfl, rfl, rfl⟩) ?_
  refine am_aload_n d_Store_init_46 rfl rfl ?_
  refine am_bipush (v := 12) d_Store_init_47 (by decide) ?_
  refine am_newa (at_ := .long) (ty := .long) (N := 12) O rfl (by decide) w_291 d_Store_init_49 (by decide) (by decide) (by decide) (by omega) (by omega) ?_
  refine am_putF O f_Store_26 (fun q hq => by cases hq; exact ⟨w_982, rfl⟩) rfl d_Store_init_51 (by rfl) (by decide) (by decide) (Nat.le_of_ble_eq_true rfl) (fun q hq => by cases hq; exact ⟨rfl, rfl, rfl⟩) ?_
  refine am_aload_n d_Store_init_54 rfl rfl ?_
  refine am_bipush (v := 10) d_Store_init_55 (by decide) ?_
  refine am_anew (N := 10) O (by decide) w_966 x_401 d_Store_init_57 (by decide) (by decide) (by decide) (by omega) (by omega) ?_
  refine am_putF O f_Store_31 (fun q hq => by cases hq; exact ⟨w_987, rfl⟩) rfl d_Store_init_60 (by rfl) (by decide) (by decide) (Nat.le_of_ble_eq_true rfl) (fun q hq => by cases hq; exact ⟨rfl, rfl, rfl⟩) ?_
  refine am_aload_n d_Store_init_63 rfl rfl ?_
  refine am_get O f_Store_16 d_Store_init_64 (by rfl) (by decide) (by decide) rfl ?_
  refine am_iconst (v := (-1)) d_Store_init_67 (by decide) ?_
  refine am_callS O (c_Arr_fill_aII O (by rfl) (by decide) (by decide) (by decide)) rfl l_Store_35 w_968 rfl (Nat.le_of_ble_eq_true rfl) d_Store_init_68 (by omega) (by omega) (by omega) (fun v h' hp => ?_)
  obtain ⟨n1, f1⟩ := h'
  obtain ⟨rfl, e1, g_1322_1, fr1⟩ := hp
  obtain rfl : n1 = 1327 := e1
  have fr1 := fun (x : Nat) (hx : x ∉ ([1322] : List Nat)) => (show f1 x = _ from fr1 x hx)
  have h_1322_1 : f1 1322 = .inl (.int, 100, (fun j => if j < 100 then .int (-1) else (fun _ => .int 0) j)) := g_1322_1
  have h_1320_1 : f1 1320 = .inl (.long, 2000, (fun _ => .long 0)) := (fr1 1320 (by decide)).trans rfl
  have h_1319_1 : f1 1319 = .inr (10, [.ref 1320, .ref 1321, .ref 1322, .ref 1323, .ref 1324, .ref 1325, .int 0, .ref 1326, .int 0]) := (fr1 1319 (by decide)).trans rfl
  have h_1321_1 : f1 1321 = .inl (.long, 2000, (fun _ => .long 0)) := (fr1 1321 (by decide)).trans rfl
  have h_1323_1 : f1 1323 = .inl (.long, 12, (fun _ => .long 0)) := (fr1 1323 (by decide)).trans rfl
  have h_1324_1 : f1 1324 = .inl (.long, 12, (fun _ => .long 0)) := (fr1 1324 (by decide)).trans rfl
  have h_1325_1 : f1 1325 = .inl (.long, 12, (fun _ => .long 0)) := (fr1 1325 (by decide)).trans rfl
  have h_1326_1 : f1 1326 = .inl (.object "StowTongue$Unit", 10, (fun _ => .null)) := (fr1 1326 (by decide)).trans rfl
  exact am_vret rfl d_Store_init_71 ⟨rfl, rfl, h_1320_1, h_1319_1, h_1321_1, h_1322_1, h_1323_1, h_1324_1, h_1325_1, h_1326_1, fun x hx => by simp only [List.mem_cons, List.not_mem_nil, or_false, not_or] at hx; dsimp only; (repeat (first | rw [va_up_ne _ _ (by omega)] | rw [fr1 x (by simp only [List.mem_cons, List.not_mem_nil, or_false, not_or]; omega)]))⟩

set_option maxRecDepth 100000 in
set_option maxHeartbeats 4000000 in
theorem t19_Log_storeAt (O : am_ok K X)   {f : Nat → am_C} (h_154 : f 154 = .inr (7, [.ref 155, .ref 156, .int 0, .int 0])) (h_155 : f 155 = .inl (.object "StowTongue$Store", 10, (updV (fun _ => .null) 1 (.ref 1311)))) : am_Mt K X m_Log_storeAt 2 8 4155 [.ref 154, .int 0] (1319, f) (fun v h' => v = some (.ref 1319) ∧ h'.1 = 1327 ∧ h'.2 1319 = .inr (10, [.ref 1320, .ref 1321, .ref 1322, .ref 1323, .ref 1324, .ref 1325, .int 0, .ref 1326, .int 0]) ∧ h'.2 1320 = .inl (.long, 2000, (fun _ => .long 0)) ∧ h'.2 1321 = .inl (.long, 2000, (fun _ => .long 0)) ∧ h'.2 1322 = .inl (.int, 100, (fun j => if j < 100 then .int (-1) else (fun _ => .int 0) j)) ∧ h'.2 1323 = .inl (.long, 12, (fun _ => .long 0)) ∧ h'.2 1324 = .inl (.long, 12, (fun _ => .long 0)) ∧ h'.2 1325 = .inl (.long, 12, (fun _ => .long 0)) ∧ h'.2 1326 = .inl (.object "StowTongue$Unit", 10, (fun _ => .null)) ∧ h'.2 155 = .inl (.object "StowTongue$Store", 10, (updV (updV (fun _ => .null) 1 (.ref 1311)) 0 (.ref 1319))) ∧ ∀ x, x ∉ ([1319, 1320, 1321, 1322, 1323, 1324, 1325, 1326, 155] : List Nat) → h'.2 x = f x) := by
  refine am_enter (by decide +kernel) (Nat.le_of_ble_eq_true rfl) ?_
  refine am_aload_n d_Log_storeAt_0 rfl rfl ?_
  refine am_get O f_Log_11 d_Log_storeAt_1 (by exact h_154) (by decide) (by decide) rfl ?_
  refine am_iload_n d_Log_storeAt_4 rfl rfl ?_
  refine am_aald (v := .null) O d_Log_storeAt_5 (by exact h_155) (by decide) (by decide) (by decide) rfl (am_in (by decide) (by decide)) rfl ?_
  refine am_astore_nN d_Log_storeAt_6 rfl (by decide) ?_
  refine am_aload_nN d_Log_storeAt_7 rfl rfl ?_
  refine am_ifnonnullN d_Log_storeAt_8 ?_
  refine am_new O n_Log_9 d_Log_storeAt_11 (by omega) (by omega) ?_
  refine am_dup d_Log_storeAt_14 rfl ?_
  refine am_callI O (t18_Store_init O (by rfl)) rfl l_Log_26 w_963 rfl rfl rfl (Nat.le_of_ble_eq_true rfl) d_Log_storeAt_15 (by omega) (by omega) (by omega) (fun v h' hp => ?_)
  obtain ⟨n1, f1⟩ := h'
  obtain ⟨rfl, e1, g_1320_1, g_1319_1, g_1321_1, g_1322_1, g_1323_1, g_1324_1, g_1325_1, g_1326_1, fr1⟩ := hp
  obtain rfl : n1 = 1327 := e1
  have fr1 := fun (x : Nat) (hx : x ∉ ([1320, 1319, 1321, 1322, 1323, 1324, 1325, 1326] : List Nat)) => (show f1 x = _ from fr1 x hx)
  have h_1320_1 : f1 1320 = .inl (.long, 2000, (fun _ => .long 0)) := g_1320_1
  have h_1319_1 : f1 1319 = .inr (10, [.ref 1320, .ref 1321, .ref 1322, .ref 1323, .ref 1324, .ref 1325, .int 0, .ref 1326, .int 0]) := g_1319_1
  have h_1321_1 : f1 1321 = .inl (.long, 2000, (fun _ => .long 0)) := g_1321_1
  have h_1322_1 : f1 1322 = .inl (.int, 100, (fun j => if j < 100 then .int (-1) else (fun _ => .int 0) j)) := g_1322_1
  have h_1323_1 : f1 1323 = .inl (.long, 12, (fun _ => .long 0)) := g_1323_1
  have h_1324_1 : f1 1324 = .inl (.long, 12, (fun _ => .long 0)) := g_1324_1
  have h_1325_1 : f1 1325 = .inl (.long, 12, (fun _ => .long 0)) := g_1325_1
  have h_1326_1 : f1 1326 = .inl (.object "StowTongue$Unit", 10, (fun _ => .null)) := g_1326_1
  refine am_astore_n d_Log_storeAt_18 rfl (by decide) ?_
  refine am_aload_n d_Log_storeAt_19 rfl rfl ?_
  have h_154_1 : f1 154 = .inr (7, [.ref 155, .ref 156, .int 0, .int 0]) := (fr1 154 (by decide)).trans h_154
  refine am_get O f_Log_11 d_Log_storeAt_20 (by exact h_154_1) (by decide) (by decide) rfl ?_
  refine am_iload_n d_Log_storeAt_23 rfl rfl ?_
  refine am_aload_n d_Log_storeAt_24 rfl rfl ?_
  have h_155_1 : f1 155 = .inl (.object "StowTongue$Store", 10, (updV (fun _ => .null) 1 (.ref 1311))) := (fr1 155 (by decide)).trans h_155
  refine am_aast O d_Log_storeAt_25 (by exact h_155_1) (by decide) (by decide) (by exact h_1319_1) (by decide) (by decide) (by rfl) (by rfl) (by decide) (am_in (by decide) (by decide)) ?_
  refine am_aload_n d_Log_storeAt_26 rfl rfl ?_
  exact am_aret rfl (Or.inl ⟨_, rfl⟩) d_Log_storeAt_27 ⟨rfl, rfl, h_1319_1, h_1320_1, h_1321_1, h_1322_1, h_1323_1, h_1324_1, h_1325_1, h_1326_1, rfl, fun x hx => by simp only [List.mem_cons, List.not_mem_nil, or_false, not_or] at hx; dsimp only; (repeat (first | rw [va_up_ne _ _ (by omega)] | rw [fr1 x (by simp only [List.mem_cons, List.not_mem_nil, or_false, not_or]; omega)]))⟩

set_option maxRecDepth 100000 in
set_option maxHeartbeats 4000000 in
theorem t20_Log_latest (O : am_ok K X)   {f : Nat → am_C} (h_154 : f 154 = .inr (7, [.ref 155, .ref 156, .int 0, .int 0])) (h_155 : f 155 = .inl (.object "StowTongue$Store", 10, (updV (fun _ => .null) 1 (.ref 1311)))) : am_Mt K X m_Log_latest 3 8 4155 [.ref 154] (1319, f) (fun v h' => v = some (.ref 1319) ∧ h'.1 = 1327 ∧ h'.2 1319 = .inr (10, [.ref 1320, .ref 1321, .ref 1322, .ref 1323, .ref 1324, .ref 1325, .int 0, .ref 1326, .int 0]) ∧ h'.2 1320 = .inl (.long, 2000, (fun _ => .long 0)) ∧ h'.2 1321 = .inl (.long, 2000, (fun _ => .long 0)) ∧ h'.2 1322 = .inl (.int, 100, (fun j => if j < 100 then .int (-1) else (fun _ => .int 0) j)) ∧ h'.2 1323 = .inl (.long, 12, (fun _ => .long 0)) ∧ h'.2 1324 = .inl (.long, 12, (fun _ => .long 0)) ∧ h'.2 1325 = .inl (.long, 12, (fun _ => .long 0)) ∧ h'.2 1326 = .inl (.object "StowTongue$Unit", 10, (fun _ => .null)) ∧ h'.2 155 = .inl (.object "StowTongue$Store", 10, (updV (updV (fun _ => .null) 1 (.ref 1311)) 0 (.ref 1319))) ∧ ∀ x, x ∉ ([1319, 1320, 1321, 1322, 1323, 1324, 1325, 1326, 155] : List Nat) → h'.2 x = f x) := by
  refine am_enter (by decide +kernel) (Nat.le_of_ble_eq_true rfl) ?_
  refine am_aload_n d_Log_latest_0 rfl rfl ?_
  refine am_aload_n d_Log_latest_1 rfl rfl ?_
  refine am_get O f_Log_27 d_Log_latest_2 (by exact h_154) (by decide) (by decide) rfl ?_
  refine am_callV O (t19_Log_storeAt O (by exact h_154) (by exact h_155)) rfl (by exact h_154) (by decide) (by decide) rfl rfl l_Log_31 ⟨w_959, w_40⟩ rfl (Nat.le_of_ble_eq_true rfl) d_Log_latest_5 (by omega) (by omega) (by omega) (fun v h' hp => ?_)
  obtain ⟨n1, f1⟩ := h'
  obtain ⟨rfl, e1, g_1319_1, g_1320_1, g_1321_1, g_1322_1, g_1323_1, g_1324_1, g_1325_1, g_1326_1, g_155_1, fr1⟩ := hp
  obtain rfl : n1 = 1327 := e1
  have fr1 := fun (x : Nat) (hx : x ∉ ([1319, 1320, 1321, 1322, 1323, 1324, 1325, 1326, 155] : List Nat)) => (show f1 x = _ from fr1 x hx)
  have h_1319_1 : f1 1319 = .inr (10, [.ref 1320, .ref 1321, .ref 1322, .ref 1323, .ref 1324, .ref 1325, .int 0, .ref 1326, .int 0]) := g_1319_1
  have h_1320_1 : f1 1320 = .inl (.long, 2000, (fun _ => .long 0)) := g_1320_1
  have h_1321_1 : f1 1321 = .inl (.long, 2000, (fun _ => .long 0)) := g_1321_1
  have h_1322_1 : f1 1322 = .inl (.int, 100, (fun j => if j < 100 then .int (-1) else (fun _ => .int 0) j)) := g_1322_1
  have h_1323_1 : f1 1323 = .inl (.long, 12, (fun _ => .long 0)) := g_1323_1
  have h_1324_1 : f1 1324 = .inl (.long, 12, (fun _ => .long 0)) := g_1324_1
  have h_1325_1 : f1 1325 = .inl (.long, 12, (fun _ => .long 0)) := g_1325_1
  have h_1326_1 : f1 1326 = .inl (.object "StowTongue$Unit", 10, (fun _ => .null)) := g_1326_1
  have h_155_1 : f1 155 = .inl (.object "StowTongue$Store", 10, (updV (updV (fun _ => .null) 1 (.ref 1311)) 0 (.ref 1319))) := g_155_1
  exact am_aret rfl (Or.inl ⟨_, rfl⟩) d_Log_latest_8 ⟨rfl, rfl, h_1319_1, h_1320_1, h_1321_1, h_1322_1, h_1323_1, h_1324_1, h_1325_1, h_1326_1, h_155_1, fun x hx => by simp only [List.mem_cons, List.not_mem_nil, or_false, not_or] at hx; dsimp only; (repeat (first | rw [va_up_ne _ _ (by omega)] | rw [fr1 x (by simp only [List.mem_cons, List.not_mem_nil, or_false, not_or]; omega)]))⟩

set_option maxRecDepth 100000 in
set_option maxHeartbeats 4000000 in
theorem t21_Store_copyFrom (O : am_ok K X)   {f : Nat → am_C} (h_1311 : f 1311 = .inr (10, [.ref 1312, .ref 1313, .ref 1314, .ref 1315, .ref 1316, .ref 1317, .int 0, .ref 1318, .int 0])) (h_1312 : f 1312 = .inl (.long, 2000, (fun _ => .long 0))) (h_1313 : f 1313 = .inl (.long, 2000, (fun _ => .long 0))) (h_1314 : f 1314 = .inl (.int, 100, (fun j => if j < 100 then .int (-1) else (fun _ => .int 0) j))) (h_1315 : f 1315 = .inl (.long, 12, (fun _ => .long 0))) (h_1316 : f 1316 = .inl (.long, 12, (fun _ => .long 0))) (h_1317 : f 1317 = .inl (.long, 12, (fun _ => .long 0))) (h_1318 : f 1318 = .inl (.object "StowTongue$Unit", 10, (fun _ => .null))) (h_1319 : f 1319 = .inr (10, [.ref 1320, .ref 1321, .ref 1322, .ref 1323, .ref 1324, .ref 1325, .int 0, .ref 1326, .int 0])) (h_1320 : f 1320 = .inl (.long, 2000, (fun _ => .long 0))) (h_1321 : f 1321 = .inl (.long, 2000, (fun _ => .long 0))) (h_1322 : f 1322 = .inl (.int, 100, (fun j => if j < 100 then .int (-1) else (fun _ => .int 0) j))) (h_1323 : f 1323 = .inl (.long, 12, (fun _ => .long 0))) (h_1324 : f 1324 = .inl (.long, 12, (fun _ => .long 0))) (h_1325 : f 1325 = .inl (.long, 12, (fun _ => .long 0))) (h_1326 : f 1326 = .inl (.object "StowTongue$Unit", 10, (fun _ => .null))) : am_Mt K X m_Store_copyFrom 1 0 0 [.ref 1311, .ref 1319] (1327, f) (fun v h' => v = none ∧ h'.1 = 1327 ∧ h'.2 1312 = .inl (.long, 2000, (va_cpy (fun _ => .long 0) (fun _ => .long 0) 0 0 2000)) ∧ h'.2 1313 = .inl (.long, 2000, (va_cpy (fun _ => .long 0) (fun _ => .long 0) 0 0 2000)) ∧ h'.2 1314 = .inl (.int, 100, (va_cpy (fun j => if j < 100 then .int (-1) else (fun _ => .int 0) j) (fun j => if j < 100 then .int (-1) else (fun _ => .int 0) j) 0 0 100)) ∧ h'.2 1315 = .inl (.long, 12, (va_cpy (fun _ => .long 0) (fun _ => .long 0) 0 0 12)) ∧ h'.2 1316 = .inl (.long, 12, (va_cpy (fun _ => .long 0) (fun _ => .long 0) 0 0 12)) ∧ h'.2 1317 = .inl (.long, 12, (va_cpy (fun _ => .long 0) (fun _ => .long 0) 0 0 12)) ∧ h'.2 1318 = .inl (.object "StowTongue$Unit", 10, (updV (updV (updV (updV (updV (updV (updV (updV (updV (updV (fun _ => .null) 0 (.null)) 1 (.null)) 2 (.null)) 3 (.null)) 4 (.null)) 5 (.null)) 6 (.null)) 7 (.null)) 8 (.null)) 9 (.null))) ∧ h'.2 1311 = .inr (10, [.ref 1312, .ref 1313, .ref 1314, .ref 1315, .ref 1316, .ref 1317, .int 0, .ref 1318, .int 0]) ∧ ∀ x, x ∉ ([1312, 1313, 1314, 1315, 1316, 1317, 1318, 1311] : List Nat) → h'.2 x = f x) := by
  refine am_enter (by decide +kernel) (Nat.le_of_ble_eq_true rfl) ?_
  refine am_aload_n d_Store_copyFrom_0 rfl rfl ?_
  refine am_get O f_Store_9 d_Store_copyFrom_1 (by exact h_1319) (by decide) (by decide) rfl ?_
  refine am_iconst (v := 0) d_Store_copyFrom_4 (by decide) ?_
  refine am_aload_n d_Store_copyFrom_5 rfl rfl ?_
  refine am_get O f_Store_9 d_Store_copyFrom_6 (by exact h_1311) (by decide) (by decide) rfl ?_
  refine am_iconst (v := 0) d_Store_copyFrom_9 (by decide) ?_
  refine am_aload_n d_Store_copyFrom_10 rfl rfl ?_
  refine am_get O f_Store_9 d_Store_copyFrom_11 (by exact h_1311) (by decide) (by decide) rfl ?_
  refine am_alen (v := 2000) O d_Store_copyFrom_14 (by exact h_1312) (by decide) (by decide) (by decide) (by decide) ?_
  refine am_copy (P := 0) (Q := 0) (N := 2000) O w_1016 w_735 w_734 w_167 d_Store_copyFrom_15 (by exact h_1320) (by decide) (by decide) (by exact h_1312) (by decide) (by decide) (by decide) (by decide) (by decide) (by decide) (by decide) (by decide) (by decide) (by decide) (by decide) (by decide) (fun i hi => by refine ⟨?_, fun r h => ?_⟩ <;> first | rfl | cases h | (dsimp only; rw [if_pos (by omega)]; rfl) | (dsimp only at h; rw [if_pos (by omega)] at h; cases h) | (simp [va_cpy, fits]; done) | (simp [va_cpy] at h; done)) (Nat.le_of_ble_eq_true rfl) (by omega) ?_
  refine am_aload_n d_Store_copyFrom_18 rfl rfl ?_
  refine am_get O f_Store_13 d_Store_copyFrom_19 (by exact h_1319) (by decide) (by decide) rfl ?_
  refine am_iconst (v := 0) d_Store_copyFrom_22 (by decide) ?_
  refine am_aload_n d_Store_copyFrom_23 rfl rfl ?_
  refine am_get O f_Store_13 d_Store_copyFrom_24 (by exact h_1311) (by decide) (by decide) rfl ?_
  refine am_iconst (v := 0) d_Store_copyFrom_27 (by decide) ?_
  refine am_aload_n d_Store_copyFrom_28 rfl rfl ?_
  refine am_get O f_Store_13 d_Store_copyFrom_29 (by exact h_1311) (by decide) (by decide) rfl ?_
  refine am_alen (v := 2000) O d_Store_copyFrom_32 (by exact h_1313) (by decide) (by decide) (by decide) (by decide) ?_
  refine am_copy (P := 0) (Q := 0) (N := 2000) O w_1016 w_735 w_734 w_167 d_Store_copyFrom_33 (by exact h_1321) (by decide) (by decide) (by exact h_1313) (by decide) (by decide) (by decide) (by decide) (by decide) (by decide) (by decide) (by decide) (by decide) (by decide) (by decide) (by decide) (fun i hi => by refine ⟨?_, fun r h => ?_⟩ <;> first | rfl | cases h | (dsimp only; rw [if_pos (by omega)]; rfl) | (dsimp only at h; rw [if_pos (by omega)] at h; cases h) | (simp [va_cpy, fits]; done) | (simp [va_cpy] at h; done)) (Nat.le_of_ble_eq_true rfl) (by omega) ?_
  refine am_aload_n d_Store_copyFrom_36 rfl rfl ?_
  refine am_get O f_Store_16 d_Store_copyFrom_37 (by exact h_1319) (by decide) (by decide) rfl ?_
  refine am_iconst (v := 0) d_Store_copyFrom_40 (by decide) ?_
  refine am_aload_n d_Store_copyFrom_41 rfl rfl ?_
  refine am_get O f_Store_16 d_Store_copyFrom_42 (by exact h_1311) (by decide) (by decide) rfl ?_
  refine am_iconst (v := 0) d_Store_copyFrom_45 (by decide) ?_
  refine am_aload_n d_Store_copyFrom_46 rfl rfl ?_
  refine am_get O f_Store_16 d_Store_copyFrom_47 (by exact h_1311) (by decide) (by decide) rfl ?_
  refine am_alen (v := 100) O d_Store_copyFrom_50 (by exact h_1314) (by decide) (by decide) (by decide) (by decide) ?_
  refine am_copy (P := 0) (Q := 0) (N := 100) O w_1016 w_735 w_734 w_167 d_Store_copyFrom_51 (by exact h_1322) (by decide) (by decide) (by exact h_1314) (by decide) (by decide) (by decide) (by decide) (by decide) (by decide) (by decide) (by decide) (by decide) (by decide) (by decide) (by decide) (fun i hi => by refine ⟨?_, fun r h => ?_⟩ <;> first | rfl | cases h | (dsimp only; rw [if_pos (by omega)]; rfl) | (dsimp only at h; rw [if_pos (by omega)] at h; cases h) | (simp [va_cpy, fits]; done) | (simp [va_cpy] at h; done)) (Nat.le_of_ble_eq_true rfl) (by omega) ?_
  refine am_aload_n d_Store_copyFrom_54 rfl rfl ?_
  refine am_get O f_Store_20 d_Store_copyFrom_55 (by exact h_1319) (by decide) (by decide) rfl ?_
  refine am_iconst (v := 0) d_Store_copyFrom_58 (by decide) ?_
  refine am_aload_n d_Store_copyFrom_59 rfl rfl ?_
  refine am_get O f_Store_20 d_Store_copyFrom_60 (by exact h_1311) (by decide) (by decide) rfl ?_
  refine am_iconst (v := 0) d_Store_copyFrom_63 (by decide) ?_
  refine am_aload_n d_Store_copyFrom_64 rfl rfl ?_
  refine am_get O f_Store_20 d_Store_copyFrom_65 (by exact h_1311) (by decide) (by decide) rfl ?_
  refine am_alen (v := 12) O d_Store_copyFrom_68 (by exact h_1315) (by decide) (by decide) (by decide) (by decide) ?_
  refine am_copy (P := 0) (Q := 0) (N := 12) O w_1016 w_735 w_734 w_167 d_Store_copyFrom_69 (by exact h_1323) (by decide) (by decide) (by exact h_1315) (by decide) (by decide) (by decide) (by decide) (by decide) (by decide) (by decide) (by decide) (by decide) (by decide) (by decide) (by decide) (fun i hi => by refine ⟨?_, fun r h => ?_⟩ <;> first | rfl | cases h | (dsimp only; rw [if_pos (by omega)]; rfl) | (dsimp only at h; rw [if_pos (by omega)] at h; cases h) | (simp [va_cpy, fits]; done) | (simp [va_cpy] at h; done)) (Nat.le_of_ble_eq_true rfl) (by omega) ?_
  refine am_aload_n d_Store_copyFrom_72 rfl rfl ?_
  refine am_get O f_Store_23 d_Store_copyFrom_73 (by exact h_1319) (by decide) (by decide) rfl ?_
  refine am_iconst (v := 0) d_Store_copyFrom_76 (by decide) ?_
  refine am_aload_n d_Store_copyFrom_77 rfl rfl ?_
  refine am_get O f_Store_23 d_Store_copyFrom_78 (by exact h_1311) (by decide) (by decide) rfl ?_
  refine am_iconst (v := 0) d_Store_copyFrom_81 (by decide) ?_
  refine am_aload_n d_Store_copyFrom_82 rfl rfl ?_
  refine am_get O f_Store_23 d_Store_copyFrom_83 (by exact h_1311) (by decide) (by decide) rfl ?_
  refine am_alen (v := 12) O d_Store_copyFrom_86 (by exact h_1316) (by decide) (by decide) (by decide) (by decide) ?_
  refine am_copy (P := 0) (Q := 0) (N := 12) O w_1016 w_735 w_734 w_167 d_Store_copyFrom_87 (by exact h_1324) (by decide) (by decide) (by exact h_1316) (by decide) (by decide) (by decide) (by decide) (by decide) (by decide) (by decide) (by decide) (by decide) (by decide) (by decide) (by decide) (fun i hi => by refine ⟨?_, fun r h => ?_⟩ <;> first | rfl | cases h | (dsimp only; rw [if_pos (by omega)]; rfl) | (dsimp only at h; rw [if_pos (by omega)] at h; cases h) | (simp [va_cpy, fits]; done) | (simp [va_cpy] at h; done)) (Nat.le_of_ble_eq_true rfl) (by omega) ?_
  refine am_aload_n d_Store_copyFrom_90 rfl rfl ?_
  refine am_get O f_Store_26 d_Store_copyFrom_91 (by exact h_1319) (by decide) (by decide) rfl ?_
  refine am_iconst (v := 0) d_Store_copyFrom_94 (by decide) ?_
  refine am_aload_n d_Store_copyFrom_95 rfl rfl ?_
  refine am_get O f_Store_26 d_Store_copyFrom_96 (by exact h_1311) (by decide) (by decide) rfl ?_
  refine am_iconst (v := 0) d_Store_copyFrom_99 (by decide) ?_
  refine am_aload_n d_Store_copyFrom_100 rfl rfl ?_
  refine am_get O f_Store_26 d_Store_copyFrom_101 (by exact h_1311) (by decide) (by decide) rfl ?_
  refine am_alen (v := 12) O d_Store_copyFrom_104 (by exact h_1317) (by decide) (by decide) (by decide) (by decide) ?_
  refine am_copy (P := 0) (Q := 0) (N := 12) O w_1016 w_735 w_734 w_167 d_Store_copyFrom_105 (by exact h_1325) (by decide) (by decide) (by exact h_1317) (by decide) (by decide) (by decide) (by decide) (by decide) (by decide) (by decide) (by decide) (by decide) (by decide) (by decide) (by decide) (fun i hi => by refine ⟨?_, fun r h => ?_⟩ <;> first | rfl | cases h | (dsimp only; rw [if_pos (by omega)]; rfl) | (dsimp only at h; rw [if_pos (by omega)] at h; cases h) | (simp [va_cpy, fits]; done) | (simp [va_cpy] at h; done)) (Nat.le_of_ble_eq_true rfl) (by omega) ?_
  refine am_iconst (v := 0) d_Store_copyFrom_108 (by decide) ?_
  refine am_istore_n d_Store_copyFrom_109 rfl (by decide) ?_
  refine am_iload_n d_Store_copyFrom_110 rfl rfl ?_
  refine am_bipush (v := 10) d_Store_copyFrom_111 (by decide) ?_
  refine am_icmp_ge (tgt := 134) d_Store_copyFrom_113 (by decide) (fun c => absurd c (by decide)) (fun _ => ?_)
  refine am_aload_n d_Store_copyFrom_116 rfl rfl ?_
  refine am_get O f_Store_31 d_Store_copyFrom_117 (by exact h_1311) (by decide) (by decide) rfl ?_
  refine am_iload_n d_Store_copyFrom_120 rfl rfl ?_
  refine am_aload_n d_Store_copyFrom_121 rfl rfl ?_
  refine am_get O f_Store_31 d_Store_copyFrom_122 (by exact h_1319) (by decide) (by decide) rfl ?_
  refine am_iload_n d_Store_copyFrom_125 rfl rfl ?_
  refine am_aald (v := .null) O d_Store_copyFrom_126 (by exact h_1326) (by decide) (by decide) (by decide) rfl (am_in (by decide) (by decide)) rfl ?_
  refine am_aastN (C := "StowTongue$Unit") O (by decide) d_Store_copyFrom_127 (by exact h_1318) (by decide) (by decide) (am_in (by decide) (by decide)) ?_
  refine am_iinc (v := 1) d_Store_copyFrom_128 rfl (by decide) (by decide) ?_
  refine am_locs (lv' := [(0, .ref 1311), (1, .ref 1319), (2, .int 1)]) rfl ?_
  refine am_goto (tgt := 110) d_Store_copyFrom_131 (by decide) ?_
  refine am_iload_n d_Store_copyFrom_110 rfl rfl ?_
  refine am_bipush (v := 10) d_Store_copyFrom_111 (by decide) ?_
  refine am_icmp_ge (tgt := 134) d_Store_copyFrom_113 (by decide) (fun c => absurd c (by decide)) (fun _ => ?_)
  refine am_aload_n d_Store_copyFrom_116 rfl rfl ?_
  refine am_get O f_Store_31 d_Store_copyFrom_117 (by exact h_1311) (by decide) (by decide) rfl ?_
  refine am_iload_n d_Store_copyFrom_120 rfl rfl ?_
  refine am_aload_n d_Store_copyFrom_121 rfl rfl ?_
  refine am_get O f_Store_31 d_Store_copyFrom_122 (by exact h_1319) (by decide) (by decide) rfl ?_
  refine am_iload_n d_Store_copyFrom_125 rfl rfl ?_
  refine am_aald (v := .null) O d_Store_copyFrom_126 (by exact h_1326) (by decide) (by decide) (by decide) rfl (am_in (by decide) (by decide)) rfl ?_
  refine am_aastN (C := "StowTongue$Unit") O (by decide) d_Store_copyFrom_127 (by rfl) (by decide) (by decide) (am_in (by decide) (by decide)) ?_
  refine am_iinc (v := 1) d_Store_copyFrom_128 rfl (by decide) (by decide) ?_
  refine am_locs (lv' := [(0, .ref 1311), (1, .ref 1319), (2, .int 2)]) rfl ?_
  refine am_goto (tgt := 110) d_Store_copyFrom_131 (by decide) ?_
  refine am_iload_n d_Store_copyFrom_110 rfl rfl ?_
  refine am_bipush (v := 10) d_Store_copyFrom_111 (by decide) ?_
  refine am_icmp_ge (tgt := 134) d_Store_copyFrom_113 (by decide) (fun c => absurd c (by decide)) (fun _ => ?_)
  refine am_aload_n d_Store_copyFrom_116 rfl rfl ?_
  refine am_get O f_Store_31 d_Store_copyFrom_117 (by exact h_1311) (by decide) (by decide) rfl ?_
  refine am_iload_n d_Store_copyFrom_120 rfl rfl ?_
  refine am_aload_n d_Store_copyFrom_121 rfl rfl ?_
  refine am_get O f_Store_31 d_Store_copyFrom_122 (by exact h_1319) (by decide) (by decide) rfl ?_
  refine am_iload_n d_Store_copyFrom_125 rfl rfl ?_
  refine am_aald (v := .null) O d_Store_copyFrom_126 (by exact h_1326) (by decide) (by decide) (by decide) rfl (am_in (by decide) (by decide)) rfl ?_
  refine am_aastN (C := "StowTongue$Unit") O (by decide) d_Store_copyFrom_127 (by rfl) (by decide) (by decide) (am_in (by decide) (by decide)) ?_
  refine am_iinc (v := 1) d_Store_copyFrom_128 rfl (by decide) (by decide) ?_
  refine am_locs (lv' := [(0, .ref 1311), (1, .ref 1319), (2, .int 3)]) rfl ?_
  refine am_goto (tgt := 110) d_Store_copyFrom_131 (by decide) ?_
  refine am_iload_n d_Store_copyFrom_110 rfl rfl ?_
  refine am_bipush (v := 10) d_Store_copyFrom_111 (by decide) ?_
  refine am_icmp_ge (tgt := 134) d_Store_copyFrom_113 (by decide) (fun c => absurd c (by decide)) (fun _ => ?_)
  refine am_aload_n d_Store_copyFrom_116 rfl rfl ?_
  refine am_get O f_Store_31 d_Store_copyFrom_117 (by exact h_1311) (by decide) (by decide) rfl ?_
  refine am_iload_n d_Store_copyFrom_120 rfl rfl ?_
  refine am_aload_n d_Store_copyFrom_121 rfl rfl ?_
  refine am_get O f_Store_31 d_Store_copyFrom_122 (by exact h_1319) (by decide) (by decide) rfl ?_
  refine am_iload_n d_Store_copyFrom_125 rfl rfl ?_
  refine am_aald (v := .null) O d_Store_copyFrom_126 (by exact h_1326) (by decide) (by decide) (by decide) rfl (am_in (by decide) (by decide)) rfl ?_
  refine am_aastN (C := "StowTongue$Unit") O (by decide) d_Store_copyFrom_127 (by rfl) (by decide) (by decide) (am_in (by decide) (by decide)) ?_
  refine am_iinc (v := 1) d_Store_copyFrom_128 rfl (by decide) (by decide) ?_
  refine am_locs (lv' := [(0, .ref 1311), (1, .ref 1319), (2, .int 4)]) rfl ?_
  refine am_goto (tgt := 110) d_Store_copyFrom_131 (by decide) ?_
  refine am_iload_n d_Store_copyFrom_110 rfl rfl ?_
  refine am_bipush (v := 10) d_Store_copyFrom_111 (by decide) ?_
  refine am_icmp_ge (tgt := 134) d_Store_copyFrom_113 (by decide) (fun c => absurd c (by decide)) (fun _ => ?_)
  refine am_aload_n d_Store_copyFrom_116 rfl rfl ?_
  refine am_get O f_Store_31 d_Store_copyFrom_117 (by exact h_1311) (by decide) (by decide) rfl ?_
  refine am_iload_n d_Store_copyFrom_120 rfl rfl ?_
  refine am_aload_n d_Store_copyFrom_121 rfl rfl ?_
  refine am_get O f_Store_31 d_Store_copyFrom_122 (by exact h_1319) (by decide) (by decide) rfl ?_
  refine am_iload_n d_Store_copyFrom_125 rfl rfl ?_
  refine am_aald (v := .null) O d_Store_copyFrom_126 (by exact h_1326) (by decide) (by decide) (by decide) rfl (am_in (by decide) (by decide)) rfl ?_
  refine am_aastN (C := "StowTongue$Unit") O (by decide) d_Store_copyFrom_127 (by rfl) (by decide) (by decide) (am_in (by decide) (by decide)) ?_
  refine am_iinc (v := 1) d_Store_copyFrom_128 rfl (by decide) (by decide) ?_
  refine am_locs (lv' := [(0, .ref 1311), (1, .ref 1319), (2, .int 5)]) rfl ?_
  refine am_goto (tgt := 110) d_Store_copyFrom_131 (by decide) ?_
  refine am_iload_n d_Store_copyFrom_110 rfl rfl ?_
  refine am_bipush (v := 10) d_Store_copyFrom_111 (by decide) ?_
  refine am_icmp_ge (tgt := 134) d_Store_copyFrom_113 (by decide) (fun c => absurd c (by decide)) (fun _ => ?_)
  refine am_aload_n d_Store_copyFrom_116 rfl rfl ?_
  refine am_get O f_Store_31 d_Store_copyFrom_117 (by exact h_1311) (by decide) (by decide) rfl ?_
  refine am_iload_n d_Store_copyFrom_120 rfl rfl ?_
  refine am_aload_n d_Store_copyFrom_121 rfl rfl ?_
  refine am_get O f_Store_31 d_Store_copyFrom_122 (by exact h_1319) (by decide) (by decide) rfl ?_
  refine am_iload_n d_Store_copyFrom_125 rfl rfl ?_
  refine am_aald (v := .null) O d_Store_copyFrom_126 (by exact h_1326) (by decide) (by decide) (by decide) rfl (am_in (by decide) (by decide)) rfl ?_
  refine am_aastN (C := "StowTongue$Unit") O (by decide) d_Store_copyFrom_127 (by rfl) (by decide) (by decide) (am_in (by decide) (by decide)) ?_
  refine am_iinc (v := 1) d_Store_copyFrom_128 rfl (by decide) (by decide) ?_
  refine am_locs (lv' := [(0, .ref 1311), (1, .ref 1319), (2, .int 6)]) rfl ?_
  refine am_goto (tgt := 110) d_Store_copyFrom_131 (by decide) ?_
  refine am_iload_n d_Store_copyFrom_110 rfl rfl ?_
  refine am_bipush (v := 10) d_Store_copyFrom_111 (by decide) ?_
  refine am_icmp_ge (tgt := 134) d_Store_copyFrom_113 (by decide) (fun c => absurd c (by decide)) (fun _ => ?_)
  refine am_aload_n d_Store_copyFrom_116 rfl rfl ?_
  refine am_get O f_Store_31 d_Store_copyFrom_117 (by exact h_1311) (by decide) (by decide) rfl ?_
  refine am_iload_n d_Store_copyFrom_120 rfl rfl ?_
  refine am_aload_n d_Store_copyFrom_121 rfl rfl ?_
  refine am_get O f_Store_31 d_Store_copyFrom_122 (by exact h_1319) (by decide) (by decide) rfl ?_
  refine am_iload_n d_Store_copyFrom_125 rfl rfl ?_
  refine am_aald (v := .null) O d_Store_copyFrom_126 (by exact h_1326) (by decide) (by decide) (by decide) rfl (am_in (by decide) (by decide)) rfl ?_
  refine am_aastN (C := "StowTongue$Unit") O (by decide) d_Store_copyFrom_127 (by rfl) (by decide) (by decide) (am_in (by decide) (by decide)) ?_
  refine am_iinc (v := 1) d_Store_copyFrom_128 rfl (by decide) (by decide) ?_
  refine am_locs (lv' := [(0, .ref 1311), (1, .ref 1319), (2, .int 7)]) rfl ?_
  refine am_goto (tgt := 110) d_Store_copyFrom_131 (by decide) ?_
  refine am_iload_n d_Store_copyFrom_110 rfl rfl ?_
  refine am_bipush (v := 10) d_Store_copyFrom_111 (by decide) ?_
  refine am_icmp_ge (tgt := 134) d_Store_copyFrom_113 (by decide) (fun c => absurd c (by decide)) (fun _ => ?_)
  refine am_aload_n d_Store_copyFrom_116 rfl rfl ?_
  refine am_get O f_Store_31 d_Store_copyFrom_117 (by exact h_1311) (by decide) (by decide) rfl ?_
  refine am_iload_n d_Store_copyFrom_120 rfl rfl ?_
  refine am_aload_n d_Store_copyFrom_121 rfl rfl ?_
  refine am_get O f_Store_31 d_Store_copyFrom_122 (by exact h_1319) (by decide) (by decide) rfl ?_
  refine am_iload_n d_Store_copyFrom_125 rfl rfl ?_
  refine am_aald (v := .null) O d_Store_copyFrom_126 (by exact h_1326) (by decide) (by decide) (by decide) rfl (am_in (by decide) (by decide)) rfl ?_
  refine am_aastN (C := "StowTongue$Unit") O (by decide) d_Store_copyFrom_127 (by rfl) (by decide) (by decide) (am_in (by decide) (by decide)) ?_
  refine am_iinc (v := 1) d_Store_copyFrom_128 rfl (by decide) (by decide) ?_
  refine am_locs (lv' := [(0, .ref 1311), (1, .ref 1319), (2, .int 8)]) rfl ?_
  refine am_goto (tgt := 110) d_Store_copyFrom_131 (by decide) ?_
  refine am_iload_n d_Store_copyFrom_110 rfl rfl ?_
  refine am_bipush (v := 10) d_Store_copyFrom_111 (by decide) ?_
  refine am_icmp_ge (tgt := 134) d_Store_copyFrom_113 (by decide) (fun c => absurd c (by decide)) (fun _ => ?_)
  refine am_aload_n d_Store_copyFrom_116 rfl rfl ?_
  refine am_get O f_Store_31 d_Store_copyFrom_117 (by exact h_1311) (by decide) (by decide) rfl ?_
  refine am_iload_n d_Store_copyFrom_120 rfl rfl ?_
  refine am_aload_n d_Store_copyFrom_121 rfl rfl ?_
  refine am_get O f_Store_31 d_Store_copyFrom_122 (by exact h_1319) (by decide) (by decide) rfl ?_
  refine am_iload_n d_Store_copyFrom_125 rfl rfl ?_
  refine am_aald (v := .null) O d_Store_copyFrom_126 (by exact h_1326) (by decide) (by decide) (by decide) rfl (am_in (by decide) (by decide)) rfl ?_
  refine am_aastN (C := "StowTongue$Unit") O (by decide) d_Store_copyFrom_127 (by rfl) (by decide) (by decide) (am_in (by decide) (by decide)) ?_
  refine am_iinc (v := 1) d_Store_copyFrom_128 rfl (by decide) (by decide) ?_
  refine am_locs (lv' := [(0, .ref 1311), (1, .ref 1319), (2, .int 9)]) rfl ?_
  refine am_goto (tgt := 110) d_Store_copyFrom_131 (by decide) ?_
  refine am_iload_n d_Store_copyFrom_110 rfl rfl ?_
  refine am_bipush (v := 10) d_Store_copyFrom_111 (by decide) ?_
  refine am_icmp_ge (tgt := 134) d_Store_copyFrom_113 (by decide) (fun c => absurd c (by decide)) (fun _ => ?_)
  refine am_aload_n d_Store_copyFrom_116 rfl rfl ?_
  refine am_get O f_Store_31 d_Store_copyFrom_117 (by exact h_1311) (by decide) (by decide) rfl ?_
  refine am_iload_n d_Store_copyFrom_120 rfl rfl ?_
  refine am_aload_n d_Store_copyFrom_121 rfl rfl ?_
  refine am_get O f_Store_31 d_Store_copyFrom_122 (by exact h_1319) (by decide) (by decide) rfl ?_
  refine am_iload_n d_Store_copyFrom_125 rfl rfl ?_
  refine am_aald (v := .null) O d_Store_copyFrom_126 (by exact h_1326) (by decide) (by decide) (by decide) rfl (am_in (by decide) (by decide)) rfl ?_
  refine am_aastN (C := "StowTongue$Unit") O (by decide) d_Store_copyFrom_127 (by rfl) (by decide) (by decide) (am_in (by decide) (by decide)) ?_
  refine am_iinc (v := 1) d_Store_copyFrom_128 rfl (by decide) (by decide) ?_
  refine am_locs (lv' := [(0, .ref 1311), (1, .ref 1319), (2, .int 10)]) rfl ?_
  refine am_goto (tgt := 110) d_Store_copyFrom_131 (by decide) ?_
  refine am_iload_n d_Store_copyFrom_110 rfl rfl ?_
  refine am_bipush (v := 10) d_Store_copyFrom_111 (by decide) ?_
  refine am_icmp_ge (tgt := 134) d_Store_copyFrom_113 (by decide) (fun _ => ?_) (fun c => absurd (by decide) c)
  refine am_aload_n d_Store_copyFrom_134 rfl rfl ?_
  refine am_aload_n d_Store_copyFrom_135 rfl rfl ?_
  refine am_get O f_Store_47 d_Store_copyFrom_136 (by exact h_1319) (by decide) (by decide) rfl ?_
  refine am_put O f_Store_47 d_Store_copyFrom_139 (by exact h_1311) (by decide) (by decide) (Nat.le_of_ble_eq_true rfl) (fun q hq => by cases hq; exact ⟨rfl, rfl, rfl⟩) ?_
  refine am_aload_n d_Store_copyFrom_142 rfl rfl ?_
  refine am_aload_n d_Store_copyFrom_143 rfl rfl ?_
  refine am_get O f_Store_51 d_Store_copyFrom_144 (by exact h_1319) (by decide) (by decide) rfl ?_
  refine am_put O f_Store_51 d_Store_copyFrom_147 (by rfl) (by decide) (by decide) (Nat.le_of_ble_eq_true rfl) (fun q hq => by cases hq; exact ⟨rfl, rfl, rfl⟩) ?_
  exact am_vret rfl d_Store_copyFrom_150 ⟨rfl, rfl, rfl, rfl, rfl, rfl, rfl, rfl, rfl, rfl, fun x hx => by simp only [List.mem_cons, List.not_mem_nil, or_false, not_or] at hx; dsimp only; (repeat (first | rw [va_up_ne _ _ (by omega)]))⟩

set_option maxRecDepth 100000 in
set_option maxHeartbeats 4000000 in
theorem t22_Log_workCopy (O : am_ok K X)   {f : Nat → am_C} (h_154 : f 154 = .inr (7, [.ref 155, .ref 156, .int 0, .int 0])) (h_155 : f 155 = .inl (.object "StowTongue$Store", 10, (fun _ => .null))) : am_Mt K X m_Log_workCopy 4 16 8310 [.ref 154] (1311, f) (fun v h' => v = some (.ref 1311) ∧ h'.1 = 1327 ∧ h'.2 1311 = .inr (10, [.ref 1312, .ref 1313, .ref 1314, .ref 1315, .ref 1316, .ref 1317, .int 0, .ref 1318, .int 0]) ∧ h'.2 1312 = .inl (.long, 2000, (va_cpy (fun _ => .long 0) (fun _ => .long 0) 0 0 2000)) ∧ h'.2 1313 = .inl (.long, 2000, (va_cpy (fun _ => .long 0) (fun _ => .long 0) 0 0 2000)) ∧ h'.2 1314 = .inl (.int, 100, (va_cpy (fun j => if j < 100 then .int (-1) else (fun _ => .int 0) j) (fun j => if j < 100 then .int (-1) else (fun _ => .int 0) j) 0 0 100)) ∧ h'.2 1315 = .inl (.long, 12, (va_cpy (fun _ => .long 0) (fun _ => .long 0) 0 0 12)) ∧ h'.2 1316 = .inl (.long, 12, (va_cpy (fun _ => .long 0) (fun _ => .long 0) 0 0 12)) ∧ h'.2 1317 = .inl (.long, 12, (va_cpy (fun _ => .long 0) (fun _ => .long 0) 0 0 12)) ∧ h'.2 1318 = .inl (.object "StowTongue$Unit", 10, (updV (updV (updV (updV (updV (updV (updV (updV (updV (updV (fun _ => .null) 0 (.null)) 1 (.null)) 2 (.null)) 3 (.null)) 4 (.null)) 5 (.null)) 6 (.null)) 7 (.null)) 8 (.null)) 9 (.null))) ∧ h'.2 155 = .inl (.object "StowTongue$Store", 10, (updV (updV (fun _ => .null) 1 (.ref 1311)) 0 (.ref 1319))) ∧ h'.2 1319 = .inr (10, [.ref 1320, .ref 1321, .ref 1322, .ref 1323, .ref 1324, .ref 1325, .int 0, .ref 1326, .int 0]) ∧ h'.2 1320 = .inl (.long, 2000, (fun _ => .long 0)) ∧ h'.2 1321 = .inl (.long, 2000, (fun _ => .long 0)) ∧ h'.2 1322 = .inl (.int, 100, (fun j => if j < 100 then .int (-1) else (fun _ => .int 0) j)) ∧ h'.2 1323 = .inl (.long, 12, (fun _ => .long 0)) ∧ h'.2 1324 = .inl (.long, 12, (fun _ => .long 0)) ∧ h'.2 1325 = .inl (.long, 12, (fun _ => .long 0)) ∧ h'.2 1326 = .inl (.object "StowTongue$Unit", 10, (fun _ => .null)) ∧ ∀ x, x ∉ ([1311, 1312, 1313, 1314, 1315, 1316, 1317, 1318, 155, 1319, 1320, 1321, 1322, 1323, 1324, 1325, 1326] : List Nat) → h'.2 x = f x) := by
  refine am_enter (by decide +kernel) (Nat.le_of_ble_eq_true rfl) ?_
  refine am_aload_n d_Log_workCopy_0 rfl rfl ?_
  refine am_aload_n d_Log_workCopy_1 rfl rfl ?_
  refine am_get O f_Log_27 d_Log_workCopy_2 (by exact h_154) (by decide) (by decide) rfl ?_
  refine am_iconst (v := 1) d_Log_workCopy_5 (by decide) ?_
  refine am_iadd d_Log_workCopy_6 ?_
  refine am_topi (v := 1) (by decide) ?_
  refine am_callV O (t17_Log_storeAt O (by exact h_154) (by exact h_155)) rfl (by exact h_154) (by decide) (by decide) rfl rfl l_Log_31 ⟨w_959, w_40⟩ rfl (Nat.le_of_ble_eq_true rfl) d_Log_workCopy_7 (by omega) (by omega) (by omega) (fun v h' hp => ?_)
  obtain ⟨n1, f1⟩ := h'
  obtain ⟨rfl, e1, g_1311_1, g_1312_1, g_1313_1, g_1314_1, g_1315_1, g_1316_1, g_1317_1, g_1318_1, g_155_1, fr1⟩ := hp
  obtain rfl : n1 = 1319 := e1
  have fr1 := fun (x : Nat) (hx : x ∉ ([1311, 1312, 1313, 1314, 1315, 1316, 1317, 1318, 155] : List Nat)) => (show f1 x = _ from fr1 x hx)
  have h_1311_1 : f1 1311 = .inr (10, [.ref 1312, .ref 1313, .ref 1314, .ref 1315, .ref 1316, .ref 1317, .int 0, .ref 1318, .int 0]) := g_1311_1
  have h_1312_1 : f1 1312 = .inl (.long, 2000, (fun _ => .long 0)) := g_1312_1
  have h_1313_1 : f1 1313 = .inl (.long, 2000, (fun _ => .long 0)) := g_1313_1
  have h_1314_1 : f1 1314 = .inl (.int, 100, (fun j => if j < 100 then .int (-1) else (fun _ => .int 0) j)) := g_1314_1
  have h_1315_1 : f1 1315 = .inl (.long, 12, (fun _ => .long 0)) := g_1315_1
  have h_1316_1 : f1 1316 = .inl (.long, 12, (fun _ => .long 0)) := g_1316_1
  have h_1317_1 : f1 1317 = .inl (.long, 12, (fun _ => .long 0)) := g_1317_1
  have h_1318_1 : f1 1318 = .inl (.object "StowTongue$Unit", 10, (fun _ => .null)) := g_1318_1
  have h_155_1 : f1 155 = .inl (.object "StowTongue$Store", 10, (updV (fun _ => .null) 1 (.ref 1311))) := g_155_1
  refine am_astore_n d_Log_workCopy_10 rfl (by decide) ?_
  refine am_aload_n d_Log_workCopy_11 rfl rfl ?_
  refine am_aload_n d_Log_workCopy_12 rfl rfl ?_
  have h_154_1 : f1 154 = .inr (7, [.ref 155, .ref 156, .int 0, .int 0]) := (fr1 154 (by decide)).trans h_154
  refine am_callV O (t20_Log_latest O (by exact h_154_1) (by exact h_155_1)) rfl (by exact h_154_1) (by decide) (by decide) rfl rfl l_Log_35 ⟨w_1009, w_1010⟩ rfl (Nat.le_of_ble_eq_true rfl) d_Log_workCopy_13 (by omega) (by omega) (by omega) (fun v h' hp => ?_)
  obtain ⟨n2, f2⟩ := h'
  obtain ⟨rfl, e2, g_1319_2, g_1320_2, g_1321_2, g_1322_2, g_1323_2, g_1324_2, g_1325_2, g_1326_2, g_155_2, fr2⟩ := hp
  obtain rfl : n2 = 1327 := e2
  have fr2 := fun (x : Nat) (hx : x ∉ ([1319, 1320, 1321, 1322, 1323, 1324, 1325, 1326, 155] : List Nat)) => (show f2 x = _ from fr2 x hx)
  have h_1319_2 : f2 1319 = .inr (10, [.ref 1320, .ref 1321, .ref 1322, .ref 1323, .ref 1324, .ref 1325, .int 0, .ref 1326, .int 0]) := g_1319_2
  have h_1320_2 : f2 1320 = .inl (.long, 2000, (fun _ => .long 0)) := g_1320_2
  have h_1321_2 : f2 1321 = .inl (.long, 2000, (fun _ => .long 0)) := g_1321_2
  have h_1322_2 : f2 1322 = .inl (.int, 100, (fun j => if j < 100 then .int (-1) else (fun _ => .int 0) j)) := g_1322_2
  have h_1323_2 : f2 1323 = .inl (.long, 12, (fun _ => .long 0)) := g_1323_2
  have h_1324_2 : f2 1324 = .inl (.long, 12, (fun _ => .long 0)) := g_1324_2
  have h_1325_2 : f2 1325 = .inl (.long, 12, (fun _ => .long 0)) := g_1325_2
  have h_1326_2 : f2 1326 = .inl (.object "StowTongue$Unit", 10, (fun _ => .null)) := g_1326_2
  have h_155_2 : f2 155 = .inl (.object "StowTongue$Store", 10, (updV (updV (fun _ => .null) 1 (.ref 1311)) 0 (.ref 1319))) := g_155_2
  have h_1311_2 : f2 1311 = .inr (10, [.ref 1312, .ref 1313, .ref 1314, .ref 1315, .ref 1316, .ref 1317, .int 0, .ref 1318, .int 0]) := (fr2 1311 (by decide)).trans h_1311_1
  have h_1312_2 : f2 1312 = .inl (.long, 2000, (fun _ => .long 0)) := (fr2 1312 (by decide)).trans h_1312_1
  have h_1313_2 : f2 1313 = .inl (.long, 2000, (fun _ => .long 0)) := (fr2 1313 (by decide)).trans h_1313_1
  have h_1314_2 : f2 1314 = .inl (.int, 100, (fun j => if j < 100 then .int (-1) else (fun _ => .int 0) j)) := (fr2 1314 (by decide)).trans h_1314_1
  have h_1315_2 : f2 1315 = .inl (.long, 12, (fun _ => .long 0)) := (fr2 1315 (by decide)).trans h_1315_1
  have h_1316_2 : f2 1316 = .inl (.long, 12, (fun _ => .long 0)) := (fr2 1316 (by decide)).trans h_1316_1
  have h_1317_2 : f2 1317 = .inl (.long, 12, (fun _ => .long 0)) := (fr2 1317 (by decide)).trans h_1317_1
  have h_1318_2 : f2 1318 = .inl (.object "StowTongue$Unit", 10, (fun _ => .null)) := (fr2 1318 (by decide)).trans h_1318_1
  refine am_callV O (t21_Store_copyFrom O (by exact h_1311_2) (by exact h_1312_2) (by exact h_1313_2) (by exact h_1314_2) (by exact h_1315_2) (by exact h_1316_2) (by exact h_1317_2) (by exact h_1318_2) (by exact h_1319_2) (by exact h_1320_2) (by exact h_1321_2) (by exact h_1322_2) (by exact h_1323_2) (by exact h_1324_2) (by exact h_1325_2) (by exact h_1326_2)) rfl (by exact h_1311_2) (by decide) (by decide) rfl rfl l_Log_39 ⟨w_1013, w_1014⟩ rfl (Nat.le_of_ble_eq_true rfl) d_Log_workCopy_16 (by omega) (by omega) (by omega) (fun v h' hp => ?_)
  obtain ⟨n3, f3⟩ := h'
  obtain ⟨rfl, e3, g_1312_3, g_1313_3, g_1314_3, g_1315_3, g_1316_3, g_1317_3, g_1318_3, g_1311_3, fr3⟩ := hp
  obtain rfl : n3 = 1327 := e3
  have fr3 := fun (x : Nat) (hx : x ∉ ([1312, 1313, 1314, 1315, 1316, 1317, 1318, 1311] : List Nat)) => (show f3 x = _ from fr3 x hx)
  have h_1312_3 : f3 1312 = .inl (.long, 2000, (va_cpy (fun _ => .long 0) (fun _ => .long 0) 0 0 2000)) := g_1312_3
  have h_1313_3 : f3 1313 = .inl (.long, 2000, (va_cpy (fun _ => .long 0) (fun _ => .long 0) 0 0 2000)) := g_1313_3
  have h_1314_3 : f3 1314 = .inl (.int, 100, (va_cpy (fun j => if j < 100 then .int (-1) else (fun _ => .int 0) j) (fun j => if j < 100 then .int (-1) else (fun _ => .int 0) j) 0 0 100)) := g_1314_3
  have h_1315_3 : f3 1315 = .inl (.long, 12, (va_cpy (fun _ => .long 0) (fun _ => .long 0) 0 0 12)) := g_1315_3
  have h_1316_3 : f3 1316 = .inl (.long, 12, (va_cpy (fun _ => .long 0) (fun _ => .long 0) 0 0 12)) := g_1316_3
  have h_1317_3 : f3 1317 = .inl (.long, 12, (va_cpy (fun _ => .long 0) (fun _ => .long 0) 0 0 12)) := g_1317_3
  have h_1318_3 : f3 1318 = .inl (.object "StowTongue$Unit", 10, (updV (updV (updV (updV (updV (updV (updV (updV (updV (updV (fun _ => .null) 0 (.null)) 1 (.null)) 2 (.null)) 3 (.null)) 4 (.null)) 5 (.null)) 6 (.null)) 7 (.null)) 8 (.null)) 9 (.null))) := g_1318_3
  have h_1311_3 : f3 1311 = .inr (10, [.ref 1312, .ref 1313, .ref 1314, .ref 1315, .ref 1316, .ref 1317, .int 0, .ref 1318, .int 0]) := g_1311_3
  refine am_aload_n d_Log_workCopy_19 rfl rfl ?_
  have h_155_3 : f3 155 = .inl (.object "StowTongue$Store", 10, (updV (updV (fun _ => .null) 1 (.ref 1311)) 0 (.ref 1319))) := (fr3 155 (by decide)).trans h_155_2
  have h_1319_3 : f3 1319 = .inr (10, [.ref 1320, .ref 1321, .ref 1322, .ref 1323, .ref 1324, .ref 1325, .int 0, .ref 1326, .int 0]) := (fr3 1319 (by decide)).trans h_1319_2
  have h_1320_3 : f3 1320 = .inl (.long, 2000, (fun _ => .long 0)) := (fr3 1320 (by decide)).trans h_1320_2
  have h_1321_3 : f3 1321 = .inl (.long, 2000, (fun _ => .long 0)) := (fr3 1321 (by decide)).trans h_1321_2
  have h_1322_3 : f3 1322 = .inl (.int, 100, (fun j => if j < 100 then .int (-1) else (fun _ => .int 0) j)) := (fr3 1322 (by decide)).trans h_1322_2
  have h_1323_3 : f3 1323 = .inl (.long, 12, (fun _ => .long 0)) := (fr3 1323 (by decide)).trans h_1323_2
  have h_1324_3 : f3 1324 = .inl (.long, 12, (fun _ => .long 0)) := (fr3 1324 (by decide)).trans h_1324_2
  have h_1325_3 : f3 1325 = .inl (.long, 12, (fun _ => .long 0)) := (fr3 1325 (by decide)).trans h_1325_2
  have h_1326_3 : f3 1326 = .inl (.object "StowTongue$Unit", 10, (fun _ => .null)) := (fr3 1326 (by decide)).trans h_1326_2
  exact am_aret rfl (Or.inl ⟨_, rfl⟩) d_Log_workCopy_20 ⟨rfl, rfl, h_1311_3, h_1312_3, h_1313_3, h_1314_3, h_1315_3, h_1316_3, h_1317_3, h_1318_3, h_155_3, h_1319_3, h_1320_3, h_1321_3, h_1322_3, h_1323_3, h_1324_3, h_1325_3, h_1326_3, fun x hx => by simp only [List.mem_cons, List.not_mem_nil, or_false, not_or] at hx; dsimp only; (repeat (first | rw [va_up_ne _ _ (by omega)] | rw [fr1 x (by simp only [List.mem_cons, List.not_mem_nil, or_false, not_or]; omega)] | rw [fr2 x (by simp only [List.mem_cons, List.not_mem_nil, or_false, not_or]; omega)] | rw [fr3 x (by simp only [List.mem_cons, List.not_mem_nil, or_false, not_or]; omega)]))⟩

set_option maxRecDepth 100000 in
set_option maxHeartbeats 4000000 in
theorem t23_Store_roots (O : am_ok K X)   {f : Nat → am_C} (h_1311 : f 1311 = .inr (10, [.ref 1312, .ref 1313, .ref 1314, .ref 1315, .ref 1316, .ref 1317, .int 0, .ref 1318, .int 0])) : am_Mt K X m_Store_roots 0 0 0 [.ref 1311] (1327, f) (fun v h' => v = some (.int 0) ∧ h' = (1327, f)) := by
  refine am_enter (by decide +kernel) (Nat.le_of_ble_eq_true rfl) ?_
  refine am_aload_n d_Store_roots_0 rfl rfl ?_
  refine am_get O f_Store_47 d_Store_roots_1 (by exact h_1311) (by decide) (by decide) rfl ?_
  exact am_iret rfl d_Store_roots_4 ⟨rfl, rfl⟩

set_option maxRecDepth 100000 in
set_option maxHeartbeats 4000000 in
theorem t24_Sweep_clean (O : am_ok K X)   {f : Nat → am_C} (h_157 : f 157 = .inr (8, [.ref 158, .ref 159, .int 0])) (h_158 : f 158 = .inl (.boolean, 100, (fun _ => .int 0))) (h_1311 : f 1311 = .inr (10, [.ref 1312, .ref 1313, .ref 1314, .ref 1315, .ref 1316, .ref 1317, .int 0, .ref 1318, .int 0])) (h_1314 : f 1314 = .inl (.int, 100, (va_cpy (fun j => if j < 100 then .int (-1) else (fun _ => .int 0) j) (fun j => if j < 100 then .int (-1) else (fun _ => .int 0) j) 0 0 100))) : am_Mt K X m_Sweep_clean 2 0 0 [.ref 157, .ref 1311] (1327, f) (fun v h' => v = some (.int 0) ∧ h'.1 = 1327 ∧ h'.2 158 = .inl (.boolean, 100, (fun j => if j < 100 then .int 0 else (fun _ => .int 0) j)) ∧ h'.2 157 = .inr (8, [.ref 158, .ref 159, .int 0]) ∧ ∀ x, x ∉ ([158, 157] : List Nat) → h'.2 x = f x) := by
  refine am_enter (by decide +kernel) (Nat.le_of_ble_eq_true rfl) ?_
  refine am_iconst (v := 0) d_Sweep_clean_0 (by decide) ?_
  refine am_istore_n d_Sweep_clean_1 rfl (by decide) ?_
  refine am_locs (lv' := [(0, .ref 157), (1, .ref 1311), (2, .int 0)]) rfl ?_
  refine sc_loop O (by exact h_157) (by exact h_158) (by decide) (by decide) (by decide) (by decide) (by decide) ?_
  refine am_aload_n d_Sweep_clean_21 rfl rfl ?_
  refine am_iconst (v := 0) d_Sweep_clean_22 (by decide) ?_
  refine am_put O f_Sweep_19 d_Sweep_clean_23 (by exact h_157) (by decide) (by decide) (Nat.le_of_ble_eq_true rfl) (fun q hq => by cases hq; exact ⟨rfl, rfl, rfl⟩) ?_
  refine am_iconst (v := 0) d_Sweep_clean_26 (by decide) ?_
  refine am_istore_n d_Sweep_clean_27 rfl (by decide) ?_
  refine am_iload_n d_Sweep_clean_28 rfl rfl ?_
  refine am_aload_n d_Sweep_clean_29 rfl rfl ?_
  refine am_callV O (t23_Store_roots O (by exact h_1311)) rfl (by exact h_1311) (by decide) (by decide) rfl rfl l_Sweep_23 ⟨w_1435, w_1436⟩ rfl (Nat.le_of_ble_eq_true rfl) d_Sweep_clean_30 (by omega) (by omega) (by omega) (fun v h' hp => ?_)
  obtain ⟨rfl, rfl⟩ := hp
  refine am_icmp_ge (tgt := 58) d_Sweep_clean_33 (by decide) (fun _ => ?_) (fun c => absurd (by decide) c)
  refine am_iconst (v := 0) d_Sweep_clean_58 (by decide) ?_
  refine am_istore_n d_Sweep_clean_59 rfl (by decide) ?_
  refine am_iload_n d_Sweep_clean_60 rfl rfl ?_
  refine am_aload_n d_Sweep_clean_61 rfl rfl ?_
  refine am_get O f_Sweep_19 d_Sweep_clean_62 (by rfl) (by decide) (by decide) rfl ?_
  refine am_icmp_ge (tgt := 91) d_Sweep_clean_65 (by decide) (fun _ => ?_) (fun c => absurd (by decide) c)
  refine am_aload_n d_Sweep_clean_91 rfl rfl ?_
  refine am_aload_n d_Sweep_clean_92 rfl rfl ?_
  refine am_callV O (c_take O (by exact h_1311) (by exact h_1314) (by decide) (by decide) (by decide) (by decide) (fun i hi => by simp [va_cpy, hi]) (by rfl) (by rfl) (by decide) (by decide) (by decide) (by decide) (fun i hi => by simp [va_cpy, hi])) rfl (by rfl) (by decide) (by decide) rfl rfl l_Sweep_42 ⟨w_1454, w_82⟩ rfl (Nat.le_of_ble_eq_true rfl) d_Sweep_clean_93 (by omega) (by omega) (by omega) (fun v h' hp => ?_)
  obtain ⟨rfl, rfl⟩ := hp
  exact am_iret rfl d_Sweep_clean_96 ⟨rfl, rfl, rfl, rfl, fun x hx => by simp only [List.mem_cons, List.not_mem_nil, or_false, not_or] at hx; dsimp only; (repeat (first | rw [va_up_ne _ _ (by omega)]))⟩

set_option maxRecDepth 100000 in
set_option maxHeartbeats 4000000 in
theorem a_sweep_c (O : am_ok K X)   {f : Nat → am_C} (h_128 : f 128 = .inr (9, [.ref 129, .int 0, .ref 130, .ref 132, .ref 148, .ref 154, .ref 157, .long 0, .long 0, .int 0])) (h_154 : f 154 = .inr (7, [.ref 155, .ref 156, .int 0, .int 0])) (h_155 : f 155 = .inl (.object "StowTongue$Store", 10, (fun _ => .null))) (h_157 : f 157 = .inr (8, [.ref 158, .ref 159, .int 0])) (h_158 : f 158 = .inl (.boolean, 100, (fun _ => .int 0))) : am_Mt K X m_Stow_sweep 5 16 8310 [.ref 128] (1311, f) (fun v h' => v = some (.int 0) ∧ h'.1 = 1327 ∧ h'.2 1311 = .inr (10, [.ref 1312, .ref 1313, .ref 1314, .ref 1315, .ref 1316, .ref 1317, .int 0, .ref 1318, .int 0]) ∧ h'.2 1312 = .inl (.long, 2000, (va_cpy (fun _ => .long 0) (fun _ => .long 0) 0 0 2000)) ∧ h'.2 1313 = .inl (.long, 2000, (va_cpy (fun _ => .long 0) (fun _ => .long 0) 0 0 2000)) ∧ h'.2 1314 = .inl (.int, 100, (va_cpy (fun j => if j < 100 then .int (-1) else (fun _ => .int 0) j) (fun j => if j < 100 then .int (-1) else (fun _ => .int 0) j) 0 0 100)) ∧ h'.2 1315 = .inl (.long, 12, (va_cpy (fun _ => .long 0) (fun _ => .long 0) 0 0 12)) ∧ h'.2 1316 = .inl (.long, 12, (va_cpy (fun _ => .long 0) (fun _ => .long 0) 0 0 12)) ∧ h'.2 1317 = .inl (.long, 12, (va_cpy (fun _ => .long 0) (fun _ => .long 0) 0 0 12)) ∧ h'.2 1318 = .inl (.object "StowTongue$Unit", 10, (updV (updV (updV (updV (updV (updV (updV (updV (updV (updV (fun _ => .null) 0 (.null)) 1 (.null)) 2 (.null)) 3 (.null)) 4 (.null)) 5 (.null)) 6 (.null)) 7 (.null)) 8 (.null)) 9 (.null))) ∧ h'.2 155 = .inl (.object "StowTongue$Store", 10, (updV (updV (fun _ => .null) 1 (.ref 1311)) 0 (.ref 1319))) ∧ h'.2 1319 = .inr (10, [.ref 1320, .ref 1321, .ref 1322, .ref 1323, .ref 1324, .ref 1325, .int 0, .ref 1326, .int 0]) ∧ h'.2 1320 = .inl (.long, 2000, (fun _ => .long 0)) ∧ h'.2 1321 = .inl (.long, 2000, (fun _ => .long 0)) ∧ h'.2 1322 = .inl (.int, 100, (fun j => if j < 100 then .int (-1) else (fun _ => .int 0) j)) ∧ h'.2 1323 = .inl (.long, 12, (fun _ => .long 0)) ∧ h'.2 1324 = .inl (.long, 12, (fun _ => .long 0)) ∧ h'.2 1325 = .inl (.long, 12, (fun _ => .long 0)) ∧ h'.2 1326 = .inl (.object "StowTongue$Unit", 10, (fun _ => .null)) ∧ h'.2 158 = .inl (.boolean, 100, (fun j => if j < 100 then .int 0 else (fun _ => .int 0) j)) ∧ h'.2 157 = .inr (8, [.ref 158, .ref 159, .int 0]) ∧ ∀ x, x ∉ ([1311, 1312, 1313, 1314, 1315, 1316, 1317, 1318, 155, 1319, 1320, 1321, 1322, 1323, 1324, 1325, 1326, 158, 157] : List Nat) → h'.2 x = f x) := by
  refine am_enter (by decide +kernel) (Nat.le_of_ble_eq_true rfl) ?_
  refine am_aload_n d_Stow_sweep_0 rfl rfl ?_
  refine am_get O f_Stow_37 d_Stow_sweep_1 (by exact h_128) (by decide) (by decide) rfl ?_
  refine am_callV O (t22_Log_workCopy O (by exact h_154) (by exact h_155)) rfl (by exact h_154) (by decide) (by decide) rfl rfl l_Stow_66 ⟨w_954, w_955⟩ rfl (Nat.le_of_ble_eq_true rfl) d_Stow_sweep_4 (by omega) (by omega) (by omega) (fun v h' hp => ?_)
  obtain ⟨n1, f1⟩ := h'
  obtain ⟨rfl, e1, g_1311_1, g_1312_1, g_1313_1, g_1314_1, g_1315_1, g_1316_1, g_1317_1, g_1318_1, g_155_1, g_1319_1, g_1320_1, g_1321_1, g_1322_1, g_1323_1, g_1324_1, g_1325_1, g_1326_1, fr1⟩ := hp
  obtain rfl : n1 = 1327 := e1
  have fr1 := fun (x : Nat) (hx : x ∉ ([1311, 1312, 1313, 1314, 1315, 1316, 1317, 1318, 155, 1319, 1320, 1321, 1322, 1323, 1324, 1325, 1326] : List Nat)) => (show f1 x = _ from fr1 x hx)
  have h_1311_1 : f1 1311 = .inr (10, [.ref 1312, .ref 1313, .ref 1314, .ref 1315, .ref 1316, .ref 1317, .int 0, .ref 1318, .int 0]) := g_1311_1
  have h_1312_1 : f1 1312 = .inl (.long, 2000, (va_cpy (fun _ => .long 0) (fun _ => .long 0) 0 0 2000)) := g_1312_1
  have h_1313_1 : f1 1313 = .inl (.long, 2000, (va_cpy (fun _ => .long 0) (fun _ => .long 0) 0 0 2000)) := g_1313_1
  have h_1314_1 : f1 1314 = .inl (.int, 100, (va_cpy (fun j => if j < 100 then .int (-1) else (fun _ => .int 0) j) (fun j => if j < 100 then .int (-1) else (fun _ => .int 0) j) 0 0 100)) := g_1314_1
  have h_1315_1 : f1 1315 = .inl (.long, 12, (va_cpy (fun _ => .long 0) (fun _ => .long 0) 0 0 12)) := g_1315_1
  have h_1316_1 : f1 1316 = .inl (.long, 12, (va_cpy (fun _ => .long 0) (fun _ => .long 0) 0 0 12)) := g_1316_1
  have h_1317_1 : f1 1317 = .inl (.long, 12, (va_cpy (fun _ => .long 0) (fun _ => .long 0) 0 0 12)) := g_1317_1
  have h_1318_1 : f1 1318 = .inl (.object "StowTongue$Unit", 10, (updV (updV (updV (updV (updV (updV (updV (updV (updV (updV (fun _ => .null) 0 (.null)) 1 (.null)) 2 (.null)) 3 (.null)) 4 (.null)) 5 (.null)) 6 (.null)) 7 (.null)) 8 (.null)) 9 (.null))) := g_1318_1
  have h_155_1 : f1 155 = .inl (.object "StowTongue$Store", 10, (updV (updV (fun _ => .null) 1 (.ref 1311)) 0 (.ref 1319))) := g_155_1
  have h_1319_1 : f1 1319 = .inr (10, [.ref 1320, .ref 1321, .ref 1322, .ref 1323, .ref 1324, .ref 1325, .int 0, .ref 1326, .int 0]) := g_1319_1
  have h_1320_1 : f1 1320 = .inl (.long, 2000, (fun _ => .long 0)) := g_1320_1
  have h_1321_1 : f1 1321 = .inl (.long, 2000, (fun _ => .long 0)) := g_1321_1
  have h_1322_1 : f1 1322 = .inl (.int, 100, (fun j => if j < 100 then .int (-1) else (fun _ => .int 0) j)) := g_1322_1
  have h_1323_1 : f1 1323 = .inl (.long, 12, (fun _ => .long 0)) := g_1323_1
  have h_1324_1 : f1 1324 = .inl (.long, 12, (fun _ => .long 0)) := g_1324_1
  have h_1325_1 : f1 1325 = .inl (.long, 12, (fun _ => .long 0)) := g_1325_1
  have h_1326_1 : f1 1326 = .inl (.object "StowTongue$Unit", 10, (fun _ => .null)) := g_1326_1
  refine am_astore_n d_Stow_sweep_7 rfl (by decide) ?_
  refine am_aload_n d_Stow_sweep_8 rfl rfl ?_
  have h_128_1 : f1 128 = .inr (9, [.ref 129, .int 0, .ref 130, .ref 132, .ref 148, .ref 154, .ref 157, .long 0, .long 0, .int 0]) := (fr1 128 (by decide)).trans h_128
  refine am_get O f_Stow_44 d_Stow_sweep_9 (by exact h_128_1) (by decide) (by decide) rfl ?_
  refine am_aload_n d_Stow_sweep_12 rfl rfl ?_
  have h_157_1 : f1 157 = .inr (8, [.ref 158, .ref 159, .int 0]) := (fr1 157 (by decide)).trans h_157
  have h_158_1 : f1 158 = .inl (.boolean, 100, (fun _ => .int 0)) := (fr1 158 (by decide)).trans h_158
  refine am_callV O (t24_Sweep_clean O (by exact h_157_1) (by exact h_158_1) (by exact h_1311_1) (by exact h_1314_1)) rfl (by exact h_157_1) (by decide) (by decide) rfl rfl l_Stow_181 ⟨w_1431, w_1432⟩ rfl (Nat.le_of_ble_eq_true rfl) d_Stow_sweep_13 (by omega) (by omega) (by omega) (fun v h' hp => ?_)
  obtain ⟨n2, f2⟩ := h'
  obtain ⟨rfl, e2, g_158_2, g_157_2, fr2⟩ := hp
  obtain rfl : n2 = 1327 := e2
  have fr2 := fun (x : Nat) (hx : x ∉ ([158, 157] : List Nat)) => (show f2 x = _ from fr2 x hx)
  have h_158_2 : f2 158 = .inl (.boolean, 100, (fun j => if j < 100 then .int 0 else (fun _ => .int 0) j)) := g_158_2
  have h_157_2 : f2 157 = .inr (8, [.ref 158, .ref 159, .int 0]) := g_157_2
  refine am_istore_n d_Stow_sweep_16 rfl (by decide) ?_
  refine am_iload_n d_Stow_sweep_17 rfl rfl ?_
  refine am_if_le (tgt := 30) d_Stow_sweep_18 (by decide) (fun _ => ?_) (fun c => absurd (by decide) c)
  refine am_iload_n d_Stow_sweep_30 rfl rfl ?_
  have h_1311_2 : f2 1311 = .inr (10, [.ref 1312, .ref 1313, .ref 1314, .ref 1315, .ref 1316, .ref 1317, .int 0, .ref 1318, .int 0]) := (fr2 1311 (by decide)).trans h_1311_1
  have h_1312_2 : f2 1312 = .inl (.long, 2000, (va_cpy (fun _ => .long 0) (fun _ => .long 0) 0 0 2000)) := (fr2 1312 (by decide)).trans h_1312_1
  have h_1313_2 : f2 1313 = .inl (.long, 2000, (va_cpy (fun _ => .long 0) (fun _ => .long 0) 0 0 2000)) := (fr2 1313 (by decide)).trans h_1313_1
  have h_1314_2 : f2 1314 = .inl (.int, 100, (va_cpy (fun j => if j < 100 then .int (-1) else (fun _ => .int 0) j) (fun j => if j < 100 then .int (-1) else (fun _ => .int 0) j) 0 0 100)) := (fr2 1314 (by decide)).trans h_1314_1
  have h_1315_2 : f2 1315 = .inl (.long, 12, (va_cpy (fun _ => .long 0) (fun _ => .long 0) 0 0 12)) := (fr2 1315 (by decide)).trans h_1315_1
  have h_1316_2 : f2 1316 = .inl (.long, 12, (va_cpy (fun _ => .long 0) (fun _ => .long 0) 0 0 12)) := (fr2 1316 (by decide)).trans h_1316_1
  have h_1317_2 : f2 1317 = .inl (.long, 12, (va_cpy (fun _ => .long 0) (fun _ => .long 0) 0 0 12)) := (fr2 1317 (by decide)).trans h_1317_1
  have h_1318_2 : f2 1318 = .inl (.object "StowTongue$Unit", 10, (updV (updV (updV (updV (updV (updV (updV (updV (updV (updV (fun _ => .null) 0 (.null)) 1 (.null)) 2 (.null)) 3 (.null)) 4 (.null)) 5 (.null)) 6 (.null)) 7 (.null)) 8 (.null)) 9 (.null))) := (fr2 1318 (by decide)).trans h_1318_1
  have h_155_2 : f2 155 = .inl (.object "StowTongue$Store", 10, (updV (updV (fun _ => .null) 1 (.ref 1311)) 0 (.ref 1319))) := (fr2 155 (by decide)).trans h_155_1
  have h_1319_2 : f2 1319 = .inr (10, [.ref 1320, .ref 1321, .ref 1322, .ref 1323, .ref 1324, .ref 1325, .int 0, .ref 1326, .int 0]) := (fr2 1319 (by decide)).trans h_1319_1
  have h_1320_2 : f2 1320 = .inl (.long, 2000, (fun _ => .long 0)) := (fr2 1320 (by decide)).trans h_1320_1
  have h_1321_2 : f2 1321 = .inl (.long, 2000, (fun _ => .long 0)) := (fr2 1321 (by decide)).trans h_1321_1
  have h_1322_2 : f2 1322 = .inl (.int, 100, (fun j => if j < 100 then .int (-1) else (fun _ => .int 0) j)) := (fr2 1322 (by decide)).trans h_1322_1
  have h_1323_2 : f2 1323 = .inl (.long, 12, (fun _ => .long 0)) := (fr2 1323 (by decide)).trans h_1323_1
  have h_1324_2 : f2 1324 = .inl (.long, 12, (fun _ => .long 0)) := (fr2 1324 (by decide)).trans h_1324_1
  have h_1325_2 : f2 1325 = .inl (.long, 12, (fun _ => .long 0)) := (fr2 1325 (by decide)).trans h_1325_1
  have h_1326_2 : f2 1326 = .inl (.object "StowTongue$Unit", 10, (fun _ => .null)) := (fr2 1326 (by decide)).trans h_1326_1
  exact am_iret rfl d_Stow_sweep_31 ⟨rfl, rfl, h_1311_2, h_1312_2, h_1313_2, h_1314_2, h_1315_2, h_1316_2, h_1317_2, h_1318_2, h_155_2, h_1319_2, h_1320_2, h_1321_2, h_1322_2, h_1323_2, h_1324_2, h_1325_2, h_1326_2, h_158_2, h_157_2, fun x hx => by simp only [List.mem_cons, List.not_mem_nil, or_false, not_or] at hx; dsimp only; (repeat (first | rw [va_up_ne _ _ (by omega)] | rw [fr1 x (by simp only [List.mem_cons, List.not_mem_nil, or_false, not_or]; omega)] | rw [fr2 x (by simp only [List.mem_cons, List.not_mem_nil, or_false, not_or]; omega)]))⟩

set_option maxRecDepth 100000 in
set_option maxHeartbeats 4000000 in
theorem a_sweep_m (O : am_ok K X)   {f : Nat → am_C} (h_160 : f 160 = .inr (14, [.ref 161, .ref 162, .int 0, .int 0, .int 0, .int 0, .int 0, .int 0, .int 0, .int 0, .int 0, .long 0, .ref 163, .ref 170, .ref 171, .ref 172, .ref 173, .ref 174, .ref 175, .ref 176, .int 0, .ref 177, .null, .ref 184, .int 0, .int 0, .ref 185, .int 0, .ref 186, .int 0, .ref 187, .ref 204, .ref 221, .ref 238, .int 0, .int 0, .ref 239, .ref 240, .ref 245, .ref 250, .ref 255, .int 0, .int 0, .int 0, .int 0, .int 0, .int 0, .ref 260, .ref 261, .ref 262, .ref 263, .ref 264, .int 0])) (h_187 : f 187 = .inr (13, [.ref 188, .ref 189, .ref 190, .ref 191, .ref 192, .ref 193, .ref 198, .ref 203, .int 0, .int 0, .int 0, .int 0])) (h_188 : f 188 = .inl (.int, 100, (fun _ => .int 0))) (h_263 : f 263 = .inl (.boolean, 100, (fun _ => .int 0))) : am_Mt K X m_Mod_sweep 1 0 0 [.ref 160] (1327, f) (fun v h' => v = some (.int 0) ∧ h'.1 = 1327 ∧ h'.2 263 = .inl (.boolean, 100, (fun j => if j < 100 then .int 0 else (fun _ => .int 0) j)) ∧ h'.2 160 = .inr (14, [.ref 161, .ref 162, .int 0, .int 0, .int 0, .int 0, .int 0, .int 0, .int 0, .int 0, .int 0, .long 0, .ref 163, .ref 170, .ref 171, .ref 172, .ref 173, .ref 174, .ref 175, .ref 176, .int 0, .ref 177, .null, .ref 184, .int 0, .int 0, .ref 185, .int 0, .ref 186, .int 0, .ref 187, .ref 204, .ref 221, .ref 238, .int 0, .int 0, .ref 239, .ref 240, .ref 245, .ref 250, .ref 255, .int 0, .int 0, .int 0, .int 0, .int 0, .int 0, .ref 260, .ref 261, .ref 262, .ref 263, .ref 264, .int 0]) ∧ ∀ x, x ∉ ([263, 160] : List Nat) → h'.2 x = f x) := by
  refine am_enter (by decide +kernel) (Nat.le_of_ble_eq_true rfl) ?_
  refine am_aload_n d_Mod_sweep_0 rfl rfl ?_
  refine am_get O f_Mod_389 d_Mod_sweep_1 (by exact h_160) (by decide) (by decide) rfl ?_
  refine am_iconst (v := 0) d_Mod_sweep_4 (by decide) ?_
  refine am_callS O (c_Arr_fill_aZZ O (by exact h_263) (by decide) (by decide) (by decide)) rfl l_Mod_607 w_2155 rfl (Nat.le_of_ble_eq_true rfl) d_Mod_sweep_5 (by omega) (by omega) (by omega) (fun v h' hp => ?_)
  obtain ⟨n1, f1⟩ := h'
  obtain ⟨rfl, e1, g_263_1, fr1⟩ := hp
  obtain rfl : n1 = 1327 := e1
  have fr1 := fun (x : Nat) (hx : x ∉ ([263] : List Nat)) => (show f1 x = _ from fr1 x hx)
  have h_263_1 : f1 263 = .inl (.boolean, 100, (fun j => if j < 100 then .int 0 else (fun _ => .int 0) j)) := g_263_1
  refine am_aload_n d_Mod_sweep_8 rfl rfl ?_
  refine am_iconst (v := 0) d_Mod_sweep_9 (by decide) ?_
  have h_160_1 : f1 160 = .inr (14, [.ref 161, .ref 162, .int 0, .int 0, .int 0, .int 0, .int 0, .int 0, .int 0, .int 0, .int 0, .long 0, .ref 163, .ref 170, .ref 171, .ref 172, .ref 173, .ref 174, .ref 175, .ref 176, .int 0, .ref 177, .null, .ref 184, .int 0, .int 0, .ref 185, .int 0, .ref 186, .int 0, .ref 187, .ref 204, .ref 221, .ref 238, .int 0, .int 0, .ref 239, .ref 240, .ref 245, .ref 250, .ref 255, .int 0, .int 0, .int 0, .int 0, .int 0, .int 0, .ref 260, .ref 261, .ref 262, .ref 263, .ref 264, .int 0]) := (fr1 160 (by decide)).trans h_160
  refine am_put O f_Mod_604 d_Mod_sweep_10 (by exact h_160_1) (by decide) (by decide) (Nat.le_of_ble_eq_true rfl) (fun q hq => by cases hq; exact ⟨rfl, rfl, rfl⟩) ?_
  refine am_iconst (v := 0) d_Mod_sweep_13 (by decide) ?_
  refine am_istore_n d_Mod_sweep_14 rfl (by decide) ?_
  refine am_iload_n d_Mod_sweep_15 rfl rfl ?_
  refine am_aload_n d_Mod_sweep_16 rfl rfl ?_
  refine am_get O f_Mod_349 d_Mod_sweep_17 (by rfl) (by decide) (by decide) rfl ?_
  have h_187_1 : f1 187 = .inr (13, [.ref 188, .ref 189, .ref 190, .ref 191, .ref 192, .ref 193, .ref 198, .ref 203, .int 0, .int 0, .int 0, .int 0]) := (fr1 187 (by decide)).trans h_187
  refine am_get O f_Mod_463 d_Mod_sweep_20 (by exact h_187_1) (by decide) (by decide) rfl ?_
  refine am_icmp_ge (tgt := 60) d_Mod_sweep_23 (by decide) (fun _ => ?_) (fun c => absurd (by decide) c)
  refine am_iconst (v := 0) d_Mod_sweep_60 (by decide) ?_
  refine am_istore_n d_Mod_sweep_61 rfl (by decide) ?_
  refine am_iload_n d_Mod_sweep_62 rfl rfl ?_
  refine am_aload_n d_Mod_sweep_63 rfl rfl ?_
  refine am_get O f_Mod_604 d_Mod_sweep_64 (by rfl) (by decide) (by decide) rfl ?_
  refine am_icmp_ge (tgt := 142) d_Mod_sweep_67 (by decide) (fun _ => ?_) (fun c => absurd (by decide) c)
  refine am_iconst (v := 0) d_Mod_sweep_142 (by decide) ?_
  refine am_istore_n d_Mod_sweep_143 rfl (by decide) ?_
  refine am_iconst (v := 0) d_Mod_sweep_144 (by decide) ?_
  refine am_istore_n d_Mod_sweep_145 rfl (by decide) ?_
  have h_188_1 : f1 188 = .inl (.int, 100, (fun _ => .int 0)) := (fr1 188 (by decide)).trans h_188
  refine am_locs (lv' := [(0, .ref 160), (1, .int 0), (2, .int 0)]) rfl ?_
  refine ms_loop O (by rfl) (by rfl) (by exact h_187_1) (by exact h_188_1) (by decide) (by decide) (by decide) (by decide) (by decide) (by decide) (fun i hi => by simp [va_cpy, hi]) ?_
  refine am_iload_n d_Mod_sweep_218 rfl rfl ?_
  refine am_if_le (tgt := 228) d_Mod_sweep_219 (by decide) (fun _ => ?_) (fun c => absurd (by decide) c)
  refine am_iload_n d_Mod_sweep_228 rfl rfl ?_
  exact am_iret rfl d_Mod_sweep_229 ⟨rfl, rfl, h_263_1, rfl, fun x hx => by simp only [List.mem_cons, List.not_mem_nil, or_false, not_or] at hx; dsimp only; (repeat (first | rw [va_up_ne _ _ (by omega)] | rw [fr1 x (by simp only [List.mem_cons, List.not_mem_nil, or_false, not_or]; omega)]))⟩

set_option maxRecDepth 100000 in
set_option maxHeartbeats 4000000 in
theorem a_count0_c (O : am_ok K X)   {f : Nat → am_C} (h_128 : f 128 = .inr (9, [.ref 129, .int 0, .ref 130, .ref 132, .ref 148, .ref 154, .ref 157, .long 0, .long 0, .int 0])) (h_154 : f 154 = .inr (7, [.ref 155, .ref 156, .int 0, .int 0])) (h_155 : f 155 = .inl (.object "StowTongue$Store", 10, (fun _ => .null))) : am_Mt K X m_Stow_count 4 8 4155 [.ref 128, .int 0] (1311, f) (fun v h' => v = some (.int 0) ∧ h'.1 = 1319 ∧ h'.2 1311 = .inr (10, [.ref 1312, .ref 1313, .ref 1314, .ref 1315, .ref 1316, .ref 1317, .int 0, .ref 1318, .int 0]) ∧ h'.2 1312 = .inl (.long, 2000, (fun _ => .long 0)) ∧ h'.2 1313 = .inl (.long, 2000, (fun _ => .long 0)) ∧ h'.2 1314 = .inl (.int, 100, (fun j => if j < 100 then .int (-1) else (fun _ => .int 0) j)) ∧ h'.2 1315 = .inl (.long, 12, (fun _ => .long 0)) ∧ h'.2 1316 = .inl (.long, 12, (fun _ => .long 0)) ∧ h'.2 1317 = .inl (.long, 12, (fun _ => .long 0)) ∧ h'.2 1318 = .inl (.object "StowTongue$Unit", 10, (fun _ => .null)) ∧ h'.2 155 = .inl (.object "StowTongue$Store", 10, (updV (fun _ => .null) 0 (.ref 1311))) ∧ ∀ x, x ∉ ([1311, 1312, 1313, 1314, 1315, 1316, 1317, 1318, 155] : List Nat) → h'.2 x = f x) := by
  refine am_enter (by decide +kernel) (Nat.le_of_ble_eq_true rfl) ?_
  refine am_aload_n d_Stow_count_0 rfl rfl ?_
  refine am_get O f_Stow_37 d_Stow_count_1 (by exact h_128) (by decide) (by decide) rfl ?_
  refine am_callV O (t13_Log_latest O (by exact h_154) (by exact h_155)) rfl (by exact h_154) (by decide) (by decide) rfl rfl l_Stow_103 ⟨w_1009, w_1010⟩ rfl (Nat.le_of_ble_eq_true rfl) d_Stow_count_4 (by omega) (by omega) (by omega) (fun v h' hp => ?_)
  obtain ⟨n1, f1⟩ := h'
  obtain ⟨rfl, e1, g_1311_1, g_1312_1, g_1313_1, g_1314_1, g_1315_1, g_1316_1, g_1317_1, g_1318_1, g_155_1, fr1⟩ := hp
  obtain rfl : n1 = 1319 := e1
  have fr1 := fun (x : Nat) (hx : x ∉ ([1311, 1312, 1313, 1314, 1315, 1316, 1317, 1318, 155] : List Nat)) => (show f1 x = _ from fr1 x hx)
  have h_1311_1 : f1 1311 = .inr (10, [.ref 1312, .ref 1313, .ref 1314, .ref 1315, .ref 1316, .ref 1317, .int 0, .ref 1318, .int 0]) := g_1311_1
  have h_1312_1 : f1 1312 = .inl (.long, 2000, (fun _ => .long 0)) := g_1312_1
  have h_1313_1 : f1 1313 = .inl (.long, 2000, (fun _ => .long 0)) := g_1313_1
  have h_1314_1 : f1 1314 = .inl (.int, 100, (fun j => if j < 100 then .int (-1) else (fun _ => .int 0) j)) := g_1314_1
  have h_1315_1 : f1 1315 = .inl (.long, 12, (fun _ => .long 0)) := g_1315_1
  have h_1316_1 : f1 1316 = .inl (.long, 12, (fun _ => .long 0)) := g_1316_1
  have h_1317_1 : f1 1317 = .inl (.long, 12, (fun _ => .long 0)) := g_1317_1
  have h_1318_1 : f1 1318 = .inl (.object "StowTongue$Unit", 10, (fun _ => .null)) := g_1318_1
  have h_155_1 : f1 155 = .inl (.object "StowTongue$Store", 10, (updV (fun _ => .null) 0 (.ref 1311))) := g_155_1
  refine am_astore_n d_Stow_count_7 rfl (by decide) ?_
  refine am_iload_n d_Stow_count_8 rfl rfl ?_
  refine am_tableIn (tgt := 56) d_Stow_count_9 (by decide) (by decide) rfl (by decide) ?_
  refine am_aload_n d_Stow_count_56 rfl rfl ?_
  refine am_callV O (c_objects O (by exact h_1311_1) (by exact h_1314_1) (by decide) (by decide) (by decide) (by decide) (fun i hi => by simp [va_cpy, hi])) rfl (by exact h_1311_1) (by decide) (by decide) rfl rfl l_Stow_185 ⟨w_1466, w_1467⟩ rfl (Nat.le_of_ble_eq_true rfl) d_Stow_count_57 (by omega) (by omega) (by omega) (fun v h' hp => ?_)
  obtain ⟨rfl, rfl⟩ := hp
  exact am_iret rfl d_Stow_count_60 ⟨rfl, rfl, h_1311_1, h_1312_1, h_1313_1, h_1314_1, h_1315_1, h_1316_1, h_1317_1, h_1318_1, h_155_1, fun x hx => by simp only [List.mem_cons, List.not_mem_nil, or_false, not_or] at hx; dsimp only; (repeat (first | rw [va_up_ne _ _ (by omega)] | rw [fr1 x (by simp only [List.mem_cons, List.not_mem_nil, or_false, not_or]; omega)]))⟩

set_option maxRecDepth 100000 in
set_option maxHeartbeats 4000000 in
theorem a_count0_m (O : am_ok K X)   {f : Nat → am_C} (h_160 : f 160 = .inr (14, [.ref 161, .ref 162, .int 0, .int 0, .int 0, .int 0, .int 0, .int 0, .int 0, .int 0, .int 0, .long 0, .ref 163, .ref 170, .ref 171, .ref 172, .ref 173, .ref 174, .ref 175, .ref 176, .int 0, .ref 177, .null, .ref 184, .int 0, .int 0, .ref 185, .int 0, .ref 186, .int 0, .ref 187, .ref 204, .ref 221, .ref 238, .int 0, .int 0, .ref 239, .ref 240, .ref 245, .ref 250, .ref 255, .int 0, .int 0, .int 0, .int 0, .int 0, .int 0, .ref 260, .ref 261, .ref 262, .ref 263, .ref 264, .int 0])) (h_187 : f 187 = .inr (13, [.ref 188, .ref 189, .ref 190, .ref 191, .ref 192, .ref 193, .ref 198, .ref 203, .int 0, .int 0, .int 0, .int 0])) : am_Mt K X m_Mod_count 0 0 0 [.ref 160, .int 0] (1319, f) (fun v h' => v = some (.int 0) ∧ h' = (1319, f)) := by
  refine am_enter (by decide +kernel) (Nat.le_of_ble_eq_true rfl) ?_
  refine am_iconst (v := 0) d_Mod_count_0 (by decide) ?_
  refine am_istore_n d_Mod_count_1 rfl (by decide) ?_
  refine am_iload_n d_Mod_count_2 rfl rfl ?_
  refine am_tableIn (tgt := 48) d_Mod_count_3 (by decide) (by decide) rfl (by decide) ?_
  refine am_aload_n d_Mod_count_48 rfl rfl ?_
  refine am_get O f_Mod_349 d_Mod_count_49 (by exact h_160) (by decide) (by decide) rfl ?_
  refine am_get O f_Mod_578 d_Mod_count_52 (by exact h_187) (by decide) (by decide) rfl ?_
  exact am_iret rfl d_Mod_count_55 ⟨rfl, rfl⟩

set_option maxRecDepth 100000 in
set_option maxHeartbeats 4000000 in
theorem t29_Store_roots (O : am_ok K X)   {f : Nat → am_C} (h_1311 : f 1311 = .inr (10, [.ref 1312, .ref 1313, .ref 1314, .ref 1315, .ref 1316, .ref 1317, .int 0, .ref 1318, .int 0])) : am_Mt K X m_Store_roots 0 0 0 [.ref 1311] (1319, f) (fun v h' => v = some (.int 0) ∧ h' = (1319, f)) := by
  refine am_enter (by decide +kernel) (Nat.le_of_ble_eq_true rfl) ?_
  refine am_aload_n d_Store_roots_0 rfl rfl ?_
  refine am_get O f_Store_47 d_Store_roots_1 (by exact h_1311) (by decide) (by decide) rfl ?_
  exact am_iret rfl d_Store_roots_4 ⟨rfl, rfl⟩

set_option maxRecDepth 100000 in
set_option maxHeartbeats 4000000 in
theorem a_count1_c (O : am_ok K X)   {f : Nat → am_C} (h_128 : f 128 = .inr (9, [.ref 129, .int 0, .ref 130, .ref 132, .ref 148, .ref 154, .ref 157, .long 0, .long 0, .int 0])) (h_154 : f 154 = .inr (7, [.ref 155, .ref 156, .int 0, .int 0])) (h_155 : f 155 = .inl (.object "StowTongue$Store", 10, (fun _ => .null))) : am_Mt K X m_Stow_count 4 8 4155 [.ref 128, .int 1] (1311, f) (fun v h' => v = some (.int 0) ∧ h'.1 = 1319 ∧ h'.2 1311 = .inr (10, [.ref 1312, .ref 1313, .ref 1314, .ref 1315, .ref 1316, .ref 1317, .int 0, .ref 1318, .int 0]) ∧ h'.2 1312 = .inl (.long, 2000, (fun _ => .long 0)) ∧ h'.2 1313 = .inl (.long, 2000, (fun _ => .long 0)) ∧ h'.2 1314 = .inl (.int, 100, (fun j => if j < 100 then .int (-1) else (fun _ => .int 0) j)) ∧ h'.2 1315 = .inl (.long, 12, (fun _ => .long 0)) ∧ h'.2 1316 = .inl (.long, 12, (fun _ => .long 0)) ∧ h'.2 1317 = .inl (.long, 12, (fun _ => .long 0)) ∧ h'.2 1318 = .inl (.object "StowTongue$Unit", 10, (fun _ => .null)) ∧ h'.2 155 = .inl (.object "StowTongue$Store", 10, (updV (fun _ => .null) 0 (.ref 1311))) ∧ ∀ x, x ∉ ([1311, 1312, 1313, 1314, 1315, 1316, 1317, 1318, 155] : List Nat) → h'.2 x = f x) := by
  refine am_enter (by decide +kernel) (Nat.le_of_ble_eq_true rfl) ?_
  refine am_aload_n d_Stow_count_0 rfl rfl ?_
  refine am_get O f_Stow_37 d_Stow_count_1 (by exact h_128) (by decide) (by decide) rfl ?_
  refine am_callV O (t13_Log_latest O (by exact h_154) (by exact h_155)) rfl (by exact h_154) (by decide) (by decide) rfl rfl l_Stow_103 ⟨w_1009, w_1010⟩ rfl (Nat.le_of_ble_eq_true rfl) d_Stow_count_4 (by omega) (by omega) (by omega) (fun v h' hp => ?_)
  obtain ⟨n1, f1⟩ := h'
  obtain ⟨rfl, e1, g_1311_1, g_1312_1, g_1313_1, g_1314_1, g_1315_1, g_1316_1, g_1317_1, g_1318_1, g_155_1, fr1⟩ := hp
  obtain rfl : n1 = 1319 := e1
  have fr1 := fun (x : Nat) (hx : x ∉ ([1311, 1312, 1313, 1314, 1315, 1316, 1317, 1318, 155] : List Nat)) => (show f1 x = _ from fr1 x hx)
  have h_1311_1 : f1 1311 = .inr (10, [.ref 1312, .ref 1313, .ref 1314, .ref 1315, .ref 1316, .ref 1317, .int 0, .ref 1318, .int 0]) := g_1311_1
  have h_1312_1 : f1 1312 = .inl (.long, 2000, (fun _ => .long 0)) := g_1312_1
  have h_1313_1 : f1 1313 = .inl (.long, 2000, (fun _ => .long 0)) := g_1313_1
  have h_1314_1 : f1 1314 = .inl (.int, 100, (fun j => if j < 100 then .int (-1) else (fun _ => .int 0) j)) := g_1314_1
  have h_1315_1 : f1 1315 = .inl (.long, 12, (fun _ => .long 0)) := g_1315_1
  have h_1316_1 : f1 1316 = .inl (.long, 12, (fun _ => .long 0)) := g_1316_1
  have h_1317_1 : f1 1317 = .inl (.long, 12, (fun _ => .long 0)) := g_1317_1
  have h_1318_1 : f1 1318 = .inl (.object "StowTongue$Unit", 10, (fun _ => .null)) := g_1318_1
  have h_155_1 : f1 155 = .inl (.object "StowTongue$Store", 10, (updV (fun _ => .null) 0 (.ref 1311))) := g_155_1
  refine am_astore_n d_Stow_count_7 rfl (by decide) ?_
  refine am_iload_n d_Stow_count_8 rfl rfl ?_
  refine am_tableIn (tgt := 61) d_Stow_count_9 (by decide) (by decide) rfl (by decide) ?_
  refine am_aload_n d_Stow_count_61 rfl rfl ?_
  refine am_callV O (t29_Store_roots O (by exact h_1311_1)) rfl (by exact h_1311_1) (by decide) (by decide) rfl rfl l_Stow_188 ⟨w_1435, w_1436⟩ rfl (Nat.le_of_ble_eq_true rfl) d_Stow_count_62 (by omega) (by omega) (by omega) (fun v h' hp => ?_)
  obtain ⟨rfl, rfl⟩ := hp
  exact am_iret rfl d_Stow_count_65 ⟨rfl, rfl, h_1311_1, h_1312_1, h_1313_1, h_1314_1, h_1315_1, h_1316_1, h_1317_1, h_1318_1, h_155_1, fun x hx => by simp only [List.mem_cons, List.not_mem_nil, or_false, not_or] at hx; dsimp only; (repeat (first | rw [va_up_ne _ _ (by omega)] | rw [fr1 x (by simp only [List.mem_cons, List.not_mem_nil, or_false, not_or]; omega)]))⟩

set_option maxRecDepth 100000 in
set_option maxHeartbeats 4000000 in
theorem a_count1_m (O : am_ok K X)   {f : Nat → am_C} (h_160 : f 160 = .inr (14, [.ref 161, .ref 162, .int 0, .int 0, .int 0, .int 0, .int 0, .int 0, .int 0, .int 0, .int 0, .long 0, .ref 163, .ref 170, .ref 171, .ref 172, .ref 173, .ref 174, .ref 175, .ref 176, .int 0, .ref 177, .null, .ref 184, .int 0, .int 0, .ref 185, .int 0, .ref 186, .int 0, .ref 187, .ref 204, .ref 221, .ref 238, .int 0, .int 0, .ref 239, .ref 240, .ref 245, .ref 250, .ref 255, .int 0, .int 0, .int 0, .int 0, .int 0, .int 0, .ref 260, .ref 261, .ref 262, .ref 263, .ref 264, .int 0])) (h_187 : f 187 = .inr (13, [.ref 188, .ref 189, .ref 190, .ref 191, .ref 192, .ref 193, .ref 198, .ref 203, .int 0, .int 0, .int 0, .int 0])) : am_Mt K X m_Mod_count 0 0 0 [.ref 160, .int 1] (1319, f) (fun v h' => v = some (.int 0) ∧ h' = (1319, f)) := by
  refine am_enter (by decide +kernel) (Nat.le_of_ble_eq_true rfl) ?_
  refine am_iconst (v := 0) d_Mod_count_0 (by decide) ?_
  refine am_istore_n d_Mod_count_1 rfl (by decide) ?_
  refine am_iload_n d_Mod_count_2 rfl rfl ?_
  refine am_tableIn (tgt := 56) d_Mod_count_3 (by decide) (by decide) rfl (by decide) ?_
  refine am_aload_n d_Mod_count_56 rfl rfl ?_
  refine am_get O f_Mod_349 d_Mod_count_57 (by exact h_160) (by decide) (by decide) rfl ?_
  refine am_get O f_Mod_463 d_Mod_count_60 (by exact h_187) (by decide) (by decide) rfl ?_
  exact am_iret rfl d_Mod_count_63 ⟨rfl, rfl⟩

set_option maxRecDepth 100000 in
set_option maxHeartbeats 4000000 in
theorem t32_Store_functions (O : am_ok K X)   {f : Nat → am_C} (h_1311 : f 1311 = .inr (10, [.ref 1312, .ref 1313, .ref 1314, .ref 1315, .ref 1316, .ref 1317, .int 0, .ref 1318, .int 0])) : am_Mt K X m_Store_functions 0 0 0 [.ref 1311] (1319, f) (fun v h' => v = some (.int 0) ∧ h' = (1319, f)) := by
  refine am_enter (by decide +kernel) (Nat.le_of_ble_eq_true rfl) ?_
  refine am_aload_n d_Store_functions_0 rfl rfl ?_
  refine am_get O f_Store_51 d_Store_functions_1 (by exact h_1311) (by decide) (by decide) rfl ?_
  exact am_iret rfl d_Store_functions_4 ⟨rfl, rfl⟩

set_option maxRecDepth 100000 in
set_option maxHeartbeats 4000000 in
theorem a_count2_c (O : am_ok K X)   {f : Nat → am_C} (h_128 : f 128 = .inr (9, [.ref 129, .int 0, .ref 130, .ref 132, .ref 148, .ref 154, .ref 157, .long 0, .long 0, .int 0])) (h_154 : f 154 = .inr (7, [.ref 155, .ref 156, .int 0, .int 0])) (h_155 : f 155 = .inl (.object "StowTongue$Store", 10, (fun _ => .null))) : am_Mt K X m_Stow_count 4 8 4155 [.ref 128, .int 2] (1311, f) (fun v h' => v = some (.int 0) ∧ h'.1 = 1319 ∧ h'.2 1311 = .inr (10, [.ref 1312, .ref 1313, .ref 1314, .ref 1315, .ref 1316, .ref 1317, .int 0, .ref 1318, .int 0]) ∧ h'.2 1312 = .inl (.long, 2000, (fun _ => .long 0)) ∧ h'.2 1313 = .inl (.long, 2000, (fun _ => .long 0)) ∧ h'.2 1314 = .inl (.int, 100, (fun j => if j < 100 then .int (-1) else (fun _ => .int 0) j)) ∧ h'.2 1315 = .inl (.long, 12, (fun _ => .long 0)) ∧ h'.2 1316 = .inl (.long, 12, (fun _ => .long 0)) ∧ h'.2 1317 = .inl (.long, 12, (fun _ => .long 0)) ∧ h'.2 1318 = .inl (.object "StowTongue$Unit", 10, (fun _ => .null)) ∧ h'.2 155 = .inl (.object "StowTongue$Store", 10, (updV (fun _ => .null) 0 (.ref 1311))) ∧ ∀ x, x ∉ ([1311, 1312, 1313, 1314, 1315, 1316, 1317, 1318, 155] : List Nat) → h'.2 x = f x) := by
  refine am_enter (by decide +kernel) (Nat.le_of_ble_eq_true rfl) ?_
  refine am_aload_n d_Stow_count_0 rfl rfl ?_
  refine am_get O f_Stow_37 d_Stow_count_1 (by exact h_128) (by decide) (by decide) rfl ?_
  refine am_callV O (t13_Log_latest O (by exact h_154) (by exact h_155)) rfl (by exact h_154) (by decide) (by decide) rfl rfl l_Stow_103 ⟨w_1009, w_1010⟩ rfl (Nat.le_of_ble_eq_true rfl) d_Stow_count_4 (by omega) (by omega) (by omega) (fun v h' hp => ?_)
  obtain ⟨n1, f1⟩ := h'
  obtain ⟨rfl, e1, g_1311_1, g_1312_1, g_1313_1, g_1314_1, g_1315_1, g_1316_1, g_1317_1, g_1318_1, g_155_1, fr1⟩ := hp
  obtain rfl : n1 = 1319 := e1
  have fr1 := fun (x : Nat) (hx : x ∉ ([1311, 1312, 1313, 1314, 1315, 1316, 1317, 1318, 155] : List Nat)) => (show f1 x = _ from fr1 x hx)
  have h_1311_1 : f1 1311 = .inr (10, [.ref 1312, .ref 1313, .ref 1314, .ref 1315, .ref 1316, .ref 1317, .int 0, .ref 1318, .int 0]) := g_1311_1
  have h_1312_1 : f1 1312 = .inl (.long, 2000, (fun _ => .long 0)) := g_1312_1
  have h_1313_1 : f1 1313 = .inl (.long, 2000, (fun _ => .long 0)) := g_1313_1
  have h_1314_1 : f1 1314 = .inl (.int, 100, (fun j => if j < 100 then .int (-1) else (fun _ => .int 0) j)) := g_1314_1
  have h_1315_1 : f1 1315 = .inl (.long, 12, (fun _ => .long 0)) := g_1315_1
  have h_1316_1 : f1 1316 = .inl (.long, 12, (fun _ => .long 0)) := g_1316_1
  have h_1317_1 : f1 1317 = .inl (.long, 12, (fun _ => .long 0)) := g_1317_1
  have h_1318_1 : f1 1318 = .inl (.object "StowTongue$Unit", 10, (fun _ => .null)) := g_1318_1
  have h_155_1 : f1 155 = .inl (.object "StowTongue$Store", 10, (updV (fun _ => .null) 0 (.ref 1311))) := g_155_1
  refine am_astore_n d_Stow_count_7 rfl (by decide) ?_
  refine am_iload_n d_Stow_count_8 rfl rfl ?_
  refine am_tableIn (tgt := 66) d_Stow_count_9 (by decide) (by decide) rfl (by decide) ?_
  refine am_aload_n d_Stow_count_66 rfl rfl ?_
  refine am_callV O (t32_Store_functions O (by exact h_1311_1)) rfl (by exact h_1311_1) (by decide) (by decide) rfl rfl l_Stow_191 ⟨w_1471, w_1472⟩ rfl (Nat.le_of_ble_eq_true rfl) d_Stow_count_67 (by omega) (by omega) (by omega) (fun v h' hp => ?_)
  obtain ⟨rfl, rfl⟩ := hp
  exact am_iret rfl d_Stow_count_70 ⟨rfl, rfl, h_1311_1, h_1312_1, h_1313_1, h_1314_1, h_1315_1, h_1316_1, h_1317_1, h_1318_1, h_155_1, fun x hx => by simp only [List.mem_cons, List.not_mem_nil, or_false, not_or] at hx; dsimp only; (repeat (first | rw [va_up_ne _ _ (by omega)] | rw [fr1 x (by simp only [List.mem_cons, List.not_mem_nil, or_false, not_or]; omega)]))⟩

set_option maxRecDepth 100000 in
set_option maxHeartbeats 4000000 in
theorem a_count2_m (O : am_ok K X)   {f : Nat → am_C} (h_160 : f 160 = .inr (14, [.ref 161, .ref 162, .int 0, .int 0, .int 0, .int 0, .int 0, .int 0, .int 0, .int 0, .int 0, .long 0, .ref 163, .ref 170, .ref 171, .ref 172, .ref 173, .ref 174, .ref 175, .ref 176, .int 0, .ref 177, .null, .ref 184, .int 0, .int 0, .ref 185, .int 0, .ref 186, .int 0, .ref 187, .ref 204, .ref 221, .ref 238, .int 0, .int 0, .ref 239, .ref 240, .ref 245, .ref 250, .ref 255, .int 0, .int 0, .int 0, .int 0, .int 0, .int 0, .ref 260, .ref 261, .ref 262, .ref 263, .ref 264, .int 0])) (h_187 : f 187 = .inr (13, [.ref 188, .ref 189, .ref 190, .ref 191, .ref 192, .ref 193, .ref 198, .ref 203, .int 0, .int 0, .int 0, .int 0])) : am_Mt K X m_Mod_count 0 0 0 [.ref 160, .int 2] (1319, f) (fun v h' => v = some (.int 0) ∧ h' = (1319, f)) := by
  refine am_enter (by decide +kernel) (Nat.le_of_ble_eq_true rfl) ?_
  refine am_iconst (v := 0) d_Mod_count_0 (by decide) ?_
  refine am_istore_n d_Mod_count_1 rfl (by decide) ?_
  refine am_iload_n d_Mod_count_2 rfl rfl ?_
  refine am_tableIn (tgt := 64) d_Mod_count_3 (by decide) (by decide) rfl (by decide) ?_
  refine am_aload_n d_Mod_count_64 rfl rfl ?_
  refine am_get O f_Mod_349 d_Mod_count_65 (by exact h_160) (by decide) (by decide) rfl ?_
  refine am_get O f_Mod_396 d_Mod_count_68 (by exact h_187) (by decide) (by decide) rfl ?_
  exact am_iret rfl d_Mod_count_71 ⟨rfl, rfl⟩

set_option maxRecDepth 100000 in
set_option maxHeartbeats 4000000 in
theorem t35_Store_functionTokens (O : am_ok K X)   {f : Nat → am_C} (h_1311 : f 1311 = .inr (10, [.ref 1312, .ref 1313, .ref 1314, .ref 1315, .ref 1316, .ref 1317, .int 0, .ref 1318, .int 0])) : am_Mt K X m_Store_functionTokens 0 0 0 [.ref 1311] (1319, f) (fun v h' => v = some (.int 0) ∧ h' = (1319, f)) := by
  refine am_enter (by decide +kernel) (Nat.le_of_ble_eq_true rfl) ?_
  refine am_iconst (v := 0) d_Store_functionTokens_0 (by decide) ?_
  refine am_istore_n d_Store_functionTokens_1 rfl (by decide) ?_
  refine am_iconst (v := 0) d_Store_functionTokens_2 (by decide) ?_
  refine am_istore_n d_Store_functionTokens_3 rfl (by decide) ?_
  refine am_iload_n d_Store_functionTokens_4 rfl rfl ?_
  refine am_aload_n d_Store_functionTokens_5 rfl rfl ?_
  refine am_get O f_Store_51 d_Store_functionTokens_6 (by exact h_1311) (by decide) (by decide) rfl ?_
  refine am_icmp_ge (tgt := 43) d_Store_functionTokens_9 (by decide) (fun _ => ?_) (fun c => absurd (by decide) c)
  refine am_iload_n d_Store_functionTokens_43 rfl rfl ?_
  exact am_iret rfl d_Store_functionTokens_44 ⟨rfl, rfl⟩

set_option maxRecDepth 100000 in
set_option maxHeartbeats 4000000 in
theorem a_count3_c (O : am_ok K X)   {f : Nat → am_C} (h_128 : f 128 = .inr (9, [.ref 129, .int 0, .ref 130, .ref 132, .ref 148, .ref 154, .ref 157, .long 0, .long 0, .int 0])) (h_154 : f 154 = .inr (7, [.ref 155, .ref 156, .int 0, .int 0])) (h_155 : f 155 = .inl (.object "StowTongue$Store", 10, (fun _ => .null))) : am_Mt K X m_Stow_count 4 8 4155 [.ref 128, .int 3] (1311, f) (fun v h' => v = some (.int 0) ∧ h'.1 = 1319 ∧ h'.2 1311 = .inr (10, [.ref 1312, .ref 1313, .ref 1314, .ref 1315, .ref 1316, .ref 1317, .int 0, .ref 1318, .int 0]) ∧ h'.2 1312 = .inl (.long, 2000, (fun _ => .long 0)) ∧ h'.2 1313 = .inl (.long, 2000, (fun _ => .long 0)) ∧ h'.2 1314 = .inl (.int, 100, (fun j => if j < 100 then .int (-1) else (fun _ => .int 0) j)) ∧ h'.2 1315 = .inl (.long, 12, (fun _ => .long 0)) ∧ h'.2 1316 = .inl (.long, 12, (fun _ => .long 0)) ∧ h'.2 1317 = .inl (.long, 12, (fun _ => .long 0)) ∧ h'.2 1318 = .inl (.object "StowTongue$Unit", 10, (fun _ => .null)) ∧ h'.2 155 = .inl (.object "StowTongue$Store", 10, (updV (fun _ => .null) 0 (.ref 1311))) ∧ ∀ x, x ∉ ([1311, 1312, 1313, 1314, 1315, 1316, 1317, 1318, 155] : List Nat) → h'.2 x = f x) := by
  refine am_enter (by decide +kernel) (Nat.le_of_ble_eq_true rfl) ?_
  refine am_aload_n d_Stow_count_0 rfl rfl ?_
  refine am_get O f_Stow_37 d_Stow_count_1 (by exact h_128) (by decide) (by decide) rfl ?_
  refine am_callV O (t13_Log_latest O (by exact h_154) (by exact h_155)) rfl (by exact h_154) (by decide) (by decide) rfl rfl l_Stow_103 ⟨w_1009, w_1010⟩ rfl (Nat.le_of_ble_eq_true rfl) d_Stow_count_4 (by omega) (by omega) (by omega) (fun v h' hp => ?_)
  obtain ⟨n1, f1⟩ := h'
  obtain ⟨rfl, e1, g_1311_1, g_1312_1, g_1313_1, g_1314_1, g_1315_1, g_1316_1, g_1317_1, g_1318_1, g_155_1, fr1⟩ := hp
  obtain rfl : n1 = 1319 := e1
  have fr1 := fun (x : Nat) (hx : x ∉ ([1311, 1312, 1313, 1314, 1315, 1316, 1317, 1318, 155] : List Nat)) => (show f1 x = _ from fr1 x hx)
  have h_1311_1 : f1 1311 = .inr (10, [.ref 1312, .ref 1313, .ref 1314, .ref 1315, .ref 1316, .ref 1317, .int 0, .ref 1318, .int 0]) := g_1311_1
  have h_1312_1 : f1 1312 = .inl (.long, 2000, (fun _ => .long 0)) := g_1312_1
  have h_1313_1 : f1 1313 = .inl (.long, 2000, (fun _ => .long 0)) := g_1313_1
  have h_1314_1 : f1 1314 = .inl (.int, 100, (fun j => if j < 100 then .int (-1) else (fun _ => .int 0) j)) := g_1314_1
  have h_1315_1 : f1 1315 = .inl (.long, 12, (fun _ => .long 0)) := g_1315_1
  have h_1316_1 : f1 1316 = .inl (.long, 12, (fun _ => .long 0)) := g_1316_1
  have h_1317_1 : f1 1317 = .inl (.long, 12, (fun _ => .long 0)) := g_1317_1
  have h_1318_1 : f1 1318 = .inl (.object "StowTongue$Unit", 10, (fun _ => .null)) := g_1318_1
  have h_155_1 : f1 155 = .inl (.object "StowTongue$Store", 10, (updV (fun _ => .null) 0 (.ref 1311))) := g_155_1
  refine am_astore_n d_Stow_count_7 rfl (by decide) ?_
  refine am_iload_n d_Stow_count_8 rfl rfl ?_
  refine am_tableIn (tgt := 71) d_Stow_count_9 (by decide) (by decide) rfl (by decide) ?_
  refine am_aload_n d_Stow_count_71 rfl rfl ?_
  refine am_callV O (t35_Store_functionTokens O (by exact h_1311_1)) rfl (by exact h_1311_1) (by decide) (by decide) rfl rfl l_Stow_194 ⟨w_1050, w_1051⟩ rfl (Nat.le_of_ble_eq_true rfl) d_Stow_count_72 (by omega) (by omega) (by omega) (fun v h' hp => ?_)
  obtain ⟨rfl, rfl⟩ := hp
  exact am_iret rfl d_Stow_count_75 ⟨rfl, rfl, h_1311_1, h_1312_1, h_1313_1, h_1314_1, h_1315_1, h_1316_1, h_1317_1, h_1318_1, h_155_1, fun x hx => by simp only [List.mem_cons, List.not_mem_nil, or_false, not_or] at hx; dsimp only; (repeat (first | rw [va_up_ne _ _ (by omega)] | rw [fr1 x (by simp only [List.mem_cons, List.not_mem_nil, or_false, not_or]; omega)]))⟩

set_option maxRecDepth 100000 in
set_option maxHeartbeats 4000000 in
theorem t37_Mod_tokensOf (O : am_ok K X)   {f : Nat → am_C} (h_187 : f 187 = .inr (13, [.ref 188, .ref 189, .ref 190, .ref 191, .ref 192, .ref 193, .ref 198, .ref 203, .int 0, .int 0, .int 0, .int 0])) : am_Mt K X m_Mod_tokensOf 0 0 0 [.ref 187] (1319, f) (fun v h' => v = some (.int 0) ∧ h' = (1319, f)) := by
  refine am_enter (by decide +kernel) (Nat.le_of_ble_eq_true rfl) ?_
  refine am_iconst (v := 0) d_Mod_tokensOf_0 (by decide) ?_
  refine am_istore_n d_Mod_tokensOf_1 rfl (by decide) ?_
  refine am_iconst (v := 0) d_Mod_tokensOf_2 (by decide) ?_
  refine am_istore_n d_Mod_tokensOf_3 rfl (by decide) ?_
  refine am_iload_n d_Mod_tokensOf_4 rfl rfl ?_
  refine am_aload_n d_Mod_tokensOf_5 rfl rfl ?_
  refine am_get O f_Mod_396 d_Mod_tokensOf_6 (by exact h_187) (by decide) (by decide) rfl ?_
  refine am_icmp_ge (tgt := 30) d_Mod_tokensOf_9 (by decide) (fun _ => ?_) (fun c => absurd (by decide) c)
  refine am_iload_n d_Mod_tokensOf_30 rfl rfl ?_
  exact am_iret rfl d_Mod_tokensOf_31 ⟨rfl, rfl⟩

set_option maxRecDepth 100000 in
set_option maxHeartbeats 4000000 in
theorem a_count3_m (O : am_ok K X)   {f : Nat → am_C} (h_160 : f 160 = .inr (14, [.ref 161, .ref 162, .int 0, .int 0, .int 0, .int 0, .int 0, .int 0, .int 0, .int 0, .int 0, .long 0, .ref 163, .ref 170, .ref 171, .ref 172, .ref 173, .ref 174, .ref 175, .ref 176, .int 0, .ref 177, .null, .ref 184, .int 0, .int 0, .ref 185, .int 0, .ref 186, .int 0, .ref 187, .ref 204, .ref 221, .ref 238, .int 0, .int 0, .ref 239, .ref 240, .ref 245, .ref 250, .ref 255, .int 0, .int 0, .int 0, .int 0, .int 0, .int 0, .ref 260, .ref 261, .ref 262, .ref 263, .ref 264, .int 0])) (h_187 : f 187 = .inr (13, [.ref 188, .ref 189, .ref 190, .ref 191, .ref 192, .ref 193, .ref 198, .ref 203, .int 0, .int 0, .int 0, .int 0])) : am_Mt K X m_Mod_count 1 0 0 [.ref 160, .int 3] (1319, f) (fun v h' => v = some (.int 0) ∧ h' = (1319, f)) := by
  refine am_enter (by decide +kernel) (Nat.le_of_ble_eq_true rfl) ?_
  refine am_iconst (v := 0) d_Mod_count_0 (by decide) ?_
  refine am_istore_n d_Mod_count_1 rfl (by decide) ?_
  refine am_iload_n d_Mod_count_2 rfl rfl ?_
  refine am_tableIn (tgt := 72) d_Mod_count_3 (by decide) (by decide) rfl (by decide) ?_
  refine am_aload_n d_Mod_count_72 rfl rfl ?_
  refine am_get O f_Mod_349 d_Mod_count_73 (by exact h_160) (by decide) (by decide) rfl ?_
  refine am_callS O (t37_Mod_tokensOf O (by exact h_187)) rfl l_Mod_431 w_2019 rfl (Nat.le_of_ble_eq_true rfl) d_Mod_count_76 (by omega) (by omega) (by omega) (fun v h' hp => ?_)
  obtain ⟨rfl, rfl⟩ := hp
  exact am_iret rfl d_Mod_count_79 ⟨rfl, rfl⟩

set_option maxRecDepth 100000 in
set_option maxHeartbeats 4000000 in
theorem t39_Log_safeBytes (O : am_ok K X)   {f : Nat → am_C} (h_154 : f 154 = .inr (7, [.ref 155, .ref 156, .int 0, .int 0])) : am_Mt K X m_Log_safeBytes 0 0 0 [.ref 154] (1319, f) (fun v h' => v = some (.int 0) ∧ h' = (1319, f)) := by
  refine am_enter (by decide +kernel) (Nat.le_of_ble_eq_true rfl) ?_
  refine am_aload_n d_Log_safeBytes_0 rfl rfl ?_
  refine am_get O f_Log_50 d_Log_safeBytes_1 (by exact h_154) (by decide) (by decide) rfl ?_
  exact am_iret rfl d_Log_safeBytes_4 ⟨rfl, rfl⟩

set_option maxRecDepth 100000 in
set_option maxHeartbeats 4000000 in
theorem t40_Log_waitingBytes (O : am_ok K X)   {f : Nat → am_C} (h_154 : f 154 = .inr (7, [.ref 155, .ref 156, .int 0, .int 0])) : am_Mt K X m_Log_waitingBytes 0 0 0 [.ref 154] (1319, f) (fun v h' => v = some (.int 0) ∧ h' = (1319, f)) := by
  refine am_enter (by decide +kernel) (Nat.le_of_ble_eq_true rfl) ?_
  refine am_iconst (v := 0) d_Log_waitingBytes_0 (by decide) ?_
  refine am_istore_n d_Log_waitingBytes_1 rfl (by decide) ?_
  refine am_iconst (v := 1) d_Log_waitingBytes_2 (by decide) ?_
  refine am_istore_n d_Log_waitingBytes_3 rfl (by decide) ?_
  refine am_iload_n d_Log_waitingBytes_4 rfl rfl ?_
  refine am_aload_n d_Log_waitingBytes_5 rfl rfl ?_
  refine am_get O f_Log_27 d_Log_waitingBytes_6 (by exact h_154) (by decide) (by decide) rfl ?_
  refine am_icmp_gt (tgt := 27) d_Log_waitingBytes_9 (by decide) (fun _ => ?_) (fun c => absurd (by decide) c)
  refine am_iload_n d_Log_waitingBytes_27 rfl rfl ?_
  exact am_iret rfl d_Log_waitingBytes_28 ⟨rfl, rfl⟩

set_option maxRecDepth 100000 in
set_option maxHeartbeats 4000000 in
theorem a_count4_c (O : am_ok K X)   {f : Nat → am_C} (h_128 : f 128 = .inr (9, [.ref 129, .int 0, .ref 130, .ref 132, .ref 148, .ref 154, .ref 157, .long 0, .long 0, .int 0])) (h_154 : f 154 = .inr (7, [.ref 155, .ref 156, .int 0, .int 0])) (h_155 : f 155 = .inl (.object "StowTongue$Store", 10, (fun _ => .null))) : am_Mt K X m_Stow_count 4 8 4155 [.ref 128, .int 4] (1311, f) (fun v h' => v = some (.int 0) ∧ h'.1 = 1319 ∧ h'.2 1311 = .inr (10, [.ref 1312, .ref 1313, .ref 1314, .ref 1315, .ref 1316, .ref 1317, .int 0, .ref 1318, .int 0]) ∧ h'.2 1312 = .inl (.long, 2000, (fun _ => .long 0)) ∧ h'.2 1313 = .inl (.long, 2000, (fun _ => .long 0)) ∧ h'.2 1314 = .inl (.int, 100, (fun j => if j < 100 then .int (-1) else (fun _ => .int 0) j)) ∧ h'.2 1315 = .inl (.long, 12, (fun _ => .long 0)) ∧ h'.2 1316 = .inl (.long, 12, (fun _ => .long 0)) ∧ h'.2 1317 = .inl (.long, 12, (fun _ => .long 0)) ∧ h'.2 1318 = .inl (.object "StowTongue$Unit", 10, (fun _ => .null)) ∧ h'.2 155 = .inl (.object "StowTongue$Store", 10, (updV (fun _ => .null) 0 (.ref 1311))) ∧ ∀ x, x ∉ ([1311, 1312, 1313, 1314, 1315, 1316, 1317, 1318, 155] : List Nat) → h'.2 x = f x) := by
  refine am_enter (by decide +kernel) (Nat.le_of_ble_eq_true rfl) ?_
  refine am_aload_n d_Stow_count_0 rfl rfl ?_
  refine am_get O f_Stow_37 d_Stow_count_1 (by exact h_128) (by decide) (by decide) rfl ?_
  refine am_callV O (t13_Log_latest O (by exact h_154) (by exact h_155)) rfl (by exact h_154) (by decide) (by decide) rfl rfl l_Stow_103 ⟨w_1009, w_1010⟩ rfl (Nat.le_of_ble_eq_true rfl) d_Stow_count_4 (by omega) (by omega) (by omega) (fun v h' hp => ?_)
  obtain ⟨n1, f1⟩ := h'
  obtain ⟨rfl, e1, g_1311_1, g_1312_1, g_1313_1, g_1314_1, g_1315_1, g_1316_1, g_1317_1, g_1318_1, g_155_1, fr1⟩ := hp
  obtain rfl : n1 = 1319 := e1
  have fr1 := fun (x : Nat) (hx : x ∉ ([1311, 1312, 1313, 1314, 1315, 1316, 1317, 1318, 155] : List Nat)) => (show f1 x = _ from fr1 x hx)
  have h_1311_1 : f1 1311 = .inr (10, [.ref 1312, .ref 1313, .ref 1314, .ref 1315, .ref 1316, .ref 1317, .int 0, .ref 1318, .int 0]) := g_1311_1
  have h_1312_1 : f1 1312 = .inl (.long, 2000, (fun _ => .long 0)) := g_1312_1
  have h_1313_1 : f1 1313 = .inl (.long, 2000, (fun _ => .long 0)) := g_1313_1
  have h_1314_1 : f1 1314 = .inl (.int, 100, (fun j => if j < 100 then .int (-1) else (fun _ => .int 0) j)) := g_1314_1
  have h_1315_1 : f1 1315 = .inl (.long, 12, (fun _ => .long 0)) := g_1315_1
  have h_1316_1 : f1 1316 = .inl (.long, 12, (fun _ => .long 0)) := g_1316_1
  have h_1317_1 : f1 1317 = .inl (.long, 12, (fun _ => .long 0)) := g_1317_1
  have h_1318_1 : f1 1318 = .inl (.object "StowTongue$Unit", 10, (fun _ => .null)) := g_1318_1
  have h_155_1 : f1 155 = .inl (.object "StowTongue$Store", 10, (updV (fun _ => .null) 0 (.ref 1311))) := g_155_1
  refine am_astore_n d_Stow_count_7 rfl (by decide) ?_
  refine am_iload_n d_Stow_count_8 rfl rfl ?_
  refine am_tableIn (tgt := 76) d_Stow_count_9 (by decide) (by decide) rfl (by decide) ?_
  refine am_aload_n d_Stow_count_76 rfl rfl ?_
  have h_128_1 : f1 128 = .inr (9, [.ref 129, .int 0, .ref 130, .ref 132, .ref 148, .ref 154, .ref 157, .long 0, .long 0, .int 0]) := (fr1 128 (by decide)).trans h_128
  refine am_get O f_Stow_37 d_Stow_count_77 (by exact h_128_1) (by decide) (by decide) rfl ?_
  have h_154_1 : f1 154 = .inr (7, [.ref 155, .ref 156, .int 0, .int 0]) := (fr1 154 (by decide)).trans h_154
  refine am_callV O (t39_Log_safeBytes O (by exact h_154_1)) rfl (by exact h_154_1) (by decide) (by decide) rfl rfl l_Stow_197 ⟨w_1476, w_1477⟩ rfl (Nat.le_of_ble_eq_true rfl) d_Stow_count_80 (by omega) (by omega) (by omega) (fun v h' hp => ?_)
  obtain ⟨rfl, rfl⟩ := hp
  refine am_aload_n d_Stow_count_83 rfl rfl ?_
  refine am_get O f_Stow_37 d_Stow_count_84 (by exact h_128_1) (by decide) (by decide) rfl ?_
  refine am_callV O (t40_Log_waitingBytes O (by exact h_154_1)) rfl (by exact h_154_1) (by decide) (by decide) rfl rfl l_Stow_200 ⟨w_1480, w_1481⟩ rfl (Nat.le_of_ble_eq_true rfl) d_Stow_count_87 (by omega) (by omega) (by omega) (fun v h' hp => ?_)
  obtain ⟨rfl, rfl⟩ := hp
  refine am_iadd d_Stow_count_90 ?_
  refine am_topi (v := 0) (by decide) ?_
  exact am_iret rfl d_Stow_count_91 ⟨rfl, rfl, h_1311_1, h_1312_1, h_1313_1, h_1314_1, h_1315_1, h_1316_1, h_1317_1, h_1318_1, h_155_1, fun x hx => by simp only [List.mem_cons, List.not_mem_nil, or_false, not_or] at hx; dsimp only; (repeat (first | rw [va_up_ne _ _ (by omega)] | rw [fr1 x (by simp only [List.mem_cons, List.not_mem_nil, or_false, not_or]; omega)]))⟩

set_option maxRecDepth 100000 in
set_option maxHeartbeats 4000000 in
theorem a_count4_m (O : am_ok K X)   {f : Nat → am_C} (h_160 : f 160 = .inr (14, [.ref 161, .ref 162, .int 0, .int 0, .int 0, .int 0, .int 0, .int 0, .int 0, .int 0, .int 0, .long 0, .ref 163, .ref 170, .ref 171, .ref 172, .ref 173, .ref 174, .ref 175, .ref 176, .int 0, .ref 177, .null, .ref 184, .int 0, .int 0, .ref 185, .int 0, .ref 186, .int 0, .ref 187, .ref 204, .ref 221, .ref 238, .int 0, .int 0, .ref 239, .ref 240, .ref 245, .ref 250, .ref 255, .int 0, .int 0, .int 0, .int 0, .int 0, .int 0, .ref 260, .ref 261, .ref 262, .ref 263, .ref 264, .int 0])) : am_Mt K X m_Mod_count 0 0 0 [.ref 160, .int 4] (1319, f) (fun v h' => v = some (.int 0) ∧ h' = (1319, f)) := by
  refine am_enter (by decide +kernel) (Nat.le_of_ble_eq_true rfl) ?_
  refine am_iconst (v := 0) d_Mod_count_0 (by decide) ?_
  refine am_istore_n d_Mod_count_1 rfl (by decide) ?_
  refine am_iload_n d_Mod_count_2 rfl rfl ?_
  refine am_tableIn (tgt := 80) d_Mod_count_3 (by decide) (by decide) rfl (by decide) ?_
  refine am_aload_n d_Mod_count_80 rfl rfl ?_
  refine am_get O f_Mod_480 d_Mod_count_81 (by exact h_160) (by decide) (by decide) rfl ?_
  exact am_iret rfl d_Mod_count_84 ⟨rfl, rfl⟩

set_option maxRecDepth 100000 in
set_option maxHeartbeats 4000000 in
theorem a_count5_c (O : am_ok K X)   {f : Nat → am_C} (h_128 : f 128 = .inr (9, [.ref 129, .int 0, .ref 130, .ref 132, .ref 148, .ref 154, .ref 157, .long 0, .long 0, .int 0])) (h_154 : f 154 = .inr (7, [.ref 155, .ref 156, .int 0, .int 0])) (h_155 : f 155 = .inl (.object "StowTongue$Store", 10, (fun _ => .null))) : am_Mt K X m_Stow_count 4 8 4155 [.ref 128, .int 5] (1311, f) (fun v h' => v = some (.int 0) ∧ h'.1 = 1319 ∧ h'.2 1311 = .inr (10, [.ref 1312, .ref 1313, .ref 1314, .ref 1315, .ref 1316, .ref 1317, .int 0, .ref 1318, .int 0]) ∧ h'.2 1312 = .inl (.long, 2000, (fun _ => .long 0)) ∧ h'.2 1313 = .inl (.long, 2000, (fun _ => .long 0)) ∧ h'.2 1314 = .inl (.int, 100, (fun j => if j < 100 then .int (-1) else (fun _ => .int 0) j)) ∧ h'.2 1315 = .inl (.long, 12, (fun _ => .long 0)) ∧ h'.2 1316 = .inl (.long, 12, (fun _ => .long 0)) ∧ h'.2 1317 = .inl (.long, 12, (fun _ => .long 0)) ∧ h'.2 1318 = .inl (.object "StowTongue$Unit", 10, (fun _ => .null)) ∧ h'.2 155 = .inl (.object "StowTongue$Store", 10, (updV (fun _ => .null) 0 (.ref 1311))) ∧ ∀ x, x ∉ ([1311, 1312, 1313, 1314, 1315, 1316, 1317, 1318, 155] : List Nat) → h'.2 x = f x) := by
  refine am_enter (by decide +kernel) (Nat.le_of_ble_eq_true rfl) ?_
  refine am_aload_n d_Stow_count_0 rfl rfl ?_
  refine am_get O f_Stow_37 d_Stow_count_1 (by exact h_128) (by decide) (by decide) rfl ?_
  refine am_callV O (t13_Log_latest O (by exact h_154) (by exact h_155)) rfl (by exact h_154) (by decide) (by decide) rfl rfl l_Stow_103 ⟨w_1009, w_1010⟩ rfl (Nat.le_of_ble_eq_true rfl) d_Stow_count_4 (by omega) (by omega) (by omega) (fun v h' hp => ?_)
  obtain ⟨n1, f1⟩ := h'
  obtain ⟨rfl, e1, g_1311_1, g_1312_1, g_1313_1, g_1314_1, g_1315_1, g_1316_1, g_1317_1, g_1318_1, g_155_1, fr1⟩ := hp
  obtain rfl : n1 = 1319 := e1
  have fr1 := fun (x : Nat) (hx : x ∉ ([1311, 1312, 1313, 1314, 1315, 1316, 1317, 1318, 155] : List Nat)) => (show f1 x = _ from fr1 x hx)
  have h_1311_1 : f1 1311 = .inr (10, [.ref 1312, .ref 1313, .ref 1314, .ref 1315, .ref 1316, .ref 1317, .int 0, .ref 1318, .int 0]) := g_1311_1
  have h_1312_1 : f1 1312 = .inl (.long, 2000, (fun _ => .long 0)) := g_1312_1
  have h_1313_1 : f1 1313 = .inl (.long, 2000, (fun _ => .long 0)) := g_1313_1
  have h_1314_1 : f1 1314 = .inl (.int, 100, (fun j => if j < 100 then .int (-1) else (fun _ => .int 0) j)) := g_1314_1
  have h_1315_1 : f1 1315 = .inl (.long, 12, (fun _ => .long 0)) := g_1315_1
  have h_1316_1 : f1 1316 = .inl (.long, 12, (fun _ => .long 0)) := g_1316_1
  have h_1317_1 : f1 1317 = .inl (.long, 12, (fun _ => .long 0)) := g_1317_1
  have h_1318_1 : f1 1318 = .inl (.object "StowTongue$Unit", 10, (fun _ => .null)) := g_1318_1
  have h_155_1 : f1 155 = .inl (.object "StowTongue$Store", 10, (updV (fun _ => .null) 0 (.ref 1311))) := g_155_1
  refine am_astore_n d_Stow_count_7 rfl (by decide) ?_
  refine am_iload_n d_Stow_count_8 rfl rfl ?_
  refine am_tableIn (tgt := 92) d_Stow_count_9 (by decide) (by decide) rfl (by decide) ?_
  refine am_aload_n d_Stow_count_92 rfl rfl ?_
  have h_128_1 : f1 128 = .inr (9, [.ref 129, .int 0, .ref 130, .ref 132, .ref 148, .ref 154, .ref 157, .long 0, .long 0, .int 0]) := (fr1 128 (by decide)).trans h_128
  refine am_get O f_Stow_37 d_Stow_count_93 (by exact h_128_1) (by decide) (by decide) rfl ?_
  have h_154_1 : f1 154 = .inr (7, [.ref 155, .ref 156, .int 0, .int 0]) := (fr1 154 (by decide)).trans h_154
  refine am_callV O (t40_Log_waitingBytes O (by exact h_154_1)) rfl (by exact h_154_1) (by decide) (by decide) rfl rfl l_Stow_200 ⟨w_1480, w_1481⟩ rfl (Nat.le_of_ble_eq_true rfl) d_Stow_count_96 (by omega) (by omega) (by omega) (fun v h' hp => ?_)
  obtain ⟨rfl, rfl⟩ := hp
  exact am_iret rfl d_Stow_count_99 ⟨rfl, rfl, h_1311_1, h_1312_1, h_1313_1, h_1314_1, h_1315_1, h_1316_1, h_1317_1, h_1318_1, h_155_1, fun x hx => by simp only [List.mem_cons, List.not_mem_nil, or_false, not_or] at hx; dsimp only; (repeat (first | rw [va_up_ne _ _ (by omega)] | rw [fr1 x (by simp only [List.mem_cons, List.not_mem_nil, or_false, not_or]; omega)]))⟩

set_option maxRecDepth 100000 in
set_option maxHeartbeats 4000000 in
theorem a_count5_m (O : am_ok K X)   {f : Nat → am_C} (h_160 : f 160 = .inr (14, [.ref 161, .ref 162, .int 0, .int 0, .int 0, .int 0, .int 0, .int 0, .int 0, .int 0, .int 0, .long 0, .ref 163, .ref 170, .ref 171, .ref 172, .ref 173, .ref 174, .ref 175, .ref 176, .int 0, .ref 177, .null, .ref 184, .int 0, .int 0, .ref 185, .int 0, .ref 186, .int 0, .ref 187, .ref 204, .ref 221, .ref 238, .int 0, .int 0, .ref 239, .ref 240, .ref 245, .ref 250, .ref 255, .int 0, .int 0, .int 0, .int 0, .int 0, .int 0, .ref 260, .ref 261, .ref 262, .ref 263, .ref 264, .int 0])) : am_Mt K X m_Mod_count 0 0 0 [.ref 160, .int 5] (1319, f) (fun v h' => v = some (.int 0) ∧ h' = (1319, f)) := by
  refine am_enter (by decide +kernel) (Nat.le_of_ble_eq_true rfl) ?_
  refine am_iconst (v := 0) d_Mod_count_0 (by decide) ?_
  refine am_istore_n d_Mod_count_1 rfl (by decide) ?_
  refine am_iload_n d_Mod_count_2 rfl rfl ?_
  refine am_tableIn (tgt := 85) d_Mod_count_3 (by decide) (by decide) rfl (by decide) ?_
  refine am_iconst (v := 0) d_Mod_count_85 (by decide) ?_
  refine am_istore_n d_Mod_count_86 rfl (by decide) ?_
  refine am_iload_n d_Mod_count_87 rfl rfl ?_
  refine am_aload_n d_Mod_count_88 rfl rfl ?_
  refine am_get O f_Mod_409 d_Mod_count_89 (by exact h_160) (by decide) (by decide) rfl ?_
  refine am_icmp_ge (tgt := 113) d_Mod_count_92 (by decide) (fun _ => ?_) (fun c => absurd (by decide) c)
  refine am_iload_n d_Mod_count_113 rfl rfl ?_
  exact am_iret rfl d_Mod_count_114 ⟨rfl, rfl⟩

set_option maxRecDepth 100000 in
set_option maxHeartbeats 4000000 in
theorem t45_Log_waiting (O : am_ok K X)   {f : Nat → am_C} (h_154 : f 154 = .inr (7, [.ref 155, .ref 156, .int 0, .int 0])) : am_Mt K X m_Log_waiting 0 0 0 [.ref 154] (1319, f) (fun v h' => v = some (.int 0) ∧ h' = (1319, f)) := by
  refine am_enter (by decide +kernel) (Nat.le_of_ble_eq_true rfl) ?_
  refine am_aload_n d_Log_waiting_0 rfl rfl ?_
  refine am_get O f_Log_27 d_Log_waiting_1 (by exact h_154) (by decide) (by decide) rfl ?_
  exact am_iret rfl d_Log_waiting_4 ⟨rfl, rfl⟩

set_option maxRecDepth 100000 in
set_option maxHeartbeats 4000000 in
theorem a_count6_c (O : am_ok K X)   {f : Nat → am_C} (h_128 : f 128 = .inr (9, [.ref 129, .int 0, .ref 130, .ref 132, .ref 148, .ref 154, .ref 157, .long 0, .long 0, .int 0])) (h_154 : f 154 = .inr (7, [.ref 155, .ref 156, .int 0, .int 0])) (h_155 : f 155 = .inl (.object "StowTongue$Store", 10, (fun _ => .null))) : am_Mt K X m_Stow_count 4 8 4155 [.ref 128, .int 6] (1311, f) (fun v h' => v = some (.int 0) ∧ h'.1 = 1319 ∧ h'.2 1311 = .inr (10, [.ref 1312, .ref 1313, .ref 1314, .ref 1315, .ref 1316, .ref 1317, .int 0, .ref 1318, .int 0]) ∧ h'.2 1312 = .inl (.long, 2000, (fun _ => .long 0)) ∧ h'.2 1313 = .inl (.long, 2000, (fun _ => .long 0)) ∧ h'.2 1314 = .inl (.int, 100, (fun j => if j < 100 then .int (-1) else (fun _ => .int 0) j)) ∧ h'.2 1315 = .inl (.long, 12, (fun _ => .long 0)) ∧ h'.2 1316 = .inl (.long, 12, (fun _ => .long 0)) ∧ h'.2 1317 = .inl (.long, 12, (fun _ => .long 0)) ∧ h'.2 1318 = .inl (.object "StowTongue$Unit", 10, (fun _ => .null)) ∧ h'.2 155 = .inl (.object "StowTongue$Store", 10, (updV (fun _ => .null) 0 (.ref 1311))) ∧ ∀ x, x ∉ ([1311, 1312, 1313, 1314, 1315, 1316, 1317, 1318, 155] : List Nat) → h'.2 x = f x) := by
  refine am_enter (by decide +kernel) (Nat.le_of_ble_eq_true rfl) ?_
  refine am_aload_n d_Stow_count_0 rfl rfl ?_
  refine am_get O f_Stow_37 d_Stow_count_1 (by exact h_128) (by decide) (by decide) rfl ?_
  refine am_callV O (t13_Log_latest O (by exact h_154) (by exact h_155)) rfl (by exact h_154) (by decide) (by decide) rfl rfl l_Stow_103 ⟨w_1009, w_1010⟩ rfl (Nat.le_of_ble_eq_true rfl) d_Stow_count_4 (by omega) (by omega) (by omega) (fun v h' hp => ?_)
  obtain ⟨n1, f1⟩ := h'
  obtain ⟨rfl, e1, g_1311_1, g_1312_1, g_1313_1, g_1314_1, g_1315_1, g_1316_1, g_1317_1, g_1318_1, g_155_1, fr1⟩ := hp
  obtain rfl : n1 = 1319 := e1
  have fr1 := fun (x : Nat) (hx : x ∉ ([1311, 1312, 1313, 1314, 1315, 1316, 1317, 1318, 155] : List Nat)) => (show f1 x = _ from fr1 x hx)
  have h_1311_1 : f1 1311 = .inr (10, [.ref 1312, .ref 1313, .ref 1314, .ref 1315, .ref 1316, .ref 1317, .int 0, .ref 1318, .int 0]) := g_1311_1
  have h_1312_1 : f1 1312 = .inl (.long, 2000, (fun _ => .long 0)) := g_1312_1
  have h_1313_1 : f1 1313 = .inl (.long, 2000, (fun _ => .long 0)) := g_1313_1
  have h_1314_1 : f1 1314 = .inl (.int, 100, (fun j => if j < 100 then .int (-1) else (fun _ => .int 0) j)) := g_1314_1
  have h_1315_1 : f1 1315 = .inl (.long, 12, (fun _ => .long 0)) := g_1315_1
  have h_1316_1 : f1 1316 = .inl (.long, 12, (fun _ => .long 0)) := g_1316_1
  have h_1317_1 : f1 1317 = .inl (.long, 12, (fun _ => .long 0)) := g_1317_1
  have h_1318_1 : f1 1318 = .inl (.object "StowTongue$Unit", 10, (fun _ => .null)) := g_1318_1
  have h_155_1 : f1 155 = .inl (.object "StowTongue$Store", 10, (updV (fun _ => .null) 0 (.ref 1311))) := g_155_1
  refine am_astore_n d_Stow_count_7 rfl (by decide) ?_
  refine am_iload_n d_Stow_count_8 rfl rfl ?_
  refine am_tableIn (tgt := 100) d_Stow_count_9 (by decide) (by decide) rfl (by decide) ?_
  refine am_aload_n d_Stow_count_100 rfl rfl ?_
  have h_128_1 : f1 128 = .inr (9, [.ref 129, .int 0, .ref 130, .ref 132, .ref 148, .ref 154, .ref 157, .long 0, .long 0, .int 0]) := (fr1 128 (by decide)).trans h_128
  refine am_get O f_Stow_37 d_Stow_count_101 (by exact h_128_1) (by decide) (by decide) rfl ?_
  have h_154_1 : f1 154 = .inr (7, [.ref 155, .ref 156, .int 0, .int 0]) := (fr1 154 (by decide)).trans h_154
  refine am_callV O (t45_Log_waiting O (by exact h_154_1)) rfl (by exact h_154_1) (by decide) (by decide) rfl rfl l_Stow_169 ⟨w_1410, w_1411⟩ rfl (Nat.le_of_ble_eq_true rfl) d_Stow_count_104 (by omega) (by omega) (by omega) (fun v h' hp => ?_)
  obtain ⟨rfl, rfl⟩ := hp
  exact am_iret rfl d_Stow_count_107 ⟨rfl, rfl, h_1311_1, h_1312_1, h_1313_1, h_1314_1, h_1315_1, h_1316_1, h_1317_1, h_1318_1, h_155_1, fun x hx => by simp only [List.mem_cons, List.not_mem_nil, or_false, not_or] at hx; dsimp only; (repeat (first | rw [va_up_ne _ _ (by omega)] | rw [fr1 x (by simp only [List.mem_cons, List.not_mem_nil, or_false, not_or]; omega)]))⟩

set_option maxRecDepth 100000 in
set_option maxHeartbeats 4000000 in
theorem a_count6_m (O : am_ok K X)   {f : Nat → am_C} (h_160 : f 160 = .inr (14, [.ref 161, .ref 162, .int 0, .int 0, .int 0, .int 0, .int 0, .int 0, .int 0, .int 0, .int 0, .long 0, .ref 163, .ref 170, .ref 171, .ref 172, .ref 173, .ref 174, .ref 175, .ref 176, .int 0, .ref 177, .null, .ref 184, .int 0, .int 0, .ref 185, .int 0, .ref 186, .int 0, .ref 187, .ref 204, .ref 221, .ref 238, .int 0, .int 0, .ref 239, .ref 240, .ref 245, .ref 250, .ref 255, .int 0, .int 0, .int 0, .int 0, .int 0, .int 0, .ref 260, .ref 261, .ref 262, .ref 263, .ref 264, .int 0])) : am_Mt K X m_Mod_count 0 0 0 [.ref 160, .int 6] (1319, f) (fun v h' => v = some (.int 0) ∧ h' = (1319, f)) := by
  refine am_enter (by decide +kernel) (Nat.le_of_ble_eq_true rfl) ?_
  refine am_iconst (v := 0) d_Mod_count_0 (by decide) ?_
  refine am_istore_n d_Mod_count_1 rfl (by decide) ?_
  refine am_iload_n d_Mod_count_2 rfl rfl ?_
  refine am_tableIn (tgt := 115) d_Mod_count_3 (by decide) (by decide) rfl (by decide) ?_
  refine am_aload_n d_Mod_count_115 rfl rfl ?_
  refine am_get O f_Mod_409 d_Mod_count_116 (by exact h_160) (by decide) (by decide) rfl ?_
  exact am_iret rfl d_Mod_count_119 ⟨rfl, rfl⟩

set_option maxRecDepth 100000 in
set_option maxHeartbeats 4000000 in
theorem a_count7_c (O : am_ok K X)   {f : Nat → am_C} (h_128 : f 128 = .inr (9, [.ref 129, .int 0, .ref 130, .ref 132, .ref 148, .ref 154, .ref 157, .long 0, .long 0, .int 0])) (h_154 : f 154 = .inr (7, [.ref 155, .ref 156, .int 0, .int 0])) (h_155 : f 155 = .inl (.object "StowTongue$Store", 10, (fun _ => .null))) : am_Mt K X m_Stow_count 4 8 4155 [.ref 128, .int 7] (1311, f) (fun v h' => v = some (.int 0) ∧ h'.1 = 1319 ∧ h'.2 1311 = .inr (10, [.ref 1312, .ref 1313, .ref 1314, .ref 1315, .ref 1316, .ref 1317, .int 0, .ref 1318, .int 0]) ∧ h'.2 1312 = .inl (.long, 2000, (fun _ => .long 0)) ∧ h'.2 1313 = .inl (.long, 2000, (fun _ => .long 0)) ∧ h'.2 1314 = .inl (.int, 100, (fun j => if j < 100 then .int (-1) else (fun _ => .int 0) j)) ∧ h'.2 1315 = .inl (.long, 12, (fun _ => .long 0)) ∧ h'.2 1316 = .inl (.long, 12, (fun _ => .long 0)) ∧ h'.2 1317 = .inl (.long, 12, (fun _ => .long 0)) ∧ h'.2 1318 = .inl (.object "StowTongue$Unit", 10, (fun _ => .null)) ∧ h'.2 155 = .inl (.object "StowTongue$Store", 10, (updV (fun _ => .null) 0 (.ref 1311))) ∧ ∀ x, x ∉ ([1311, 1312, 1313, 1314, 1315, 1316, 1317, 1318, 155] : List Nat) → h'.2 x = f x) := by
  refine am_enter (by decide +kernel) (Nat.le_of_ble_eq_true rfl) ?_
  refine am_aload_n d_Stow_count_0 rfl rfl ?_
  refine am_get O f_Stow_37 d_Stow_count_1 (by exact h_128) (by decide) (by decide) rfl ?_
  refine am_callV O (t13_Log_latest O (by exact h_154) (by exact h_155)) rfl (by exact h_154) (by decide) (by decide) rfl rfl l_Stow_103 ⟨w_1009, w_1010⟩ rfl (Nat.le_of_ble_eq_true rfl) d_Stow_count_4 (by omega) (by omega) (by omega) (fun v h' hp => ?_)
  obtain ⟨n1, f1⟩ := h'
  obtain ⟨rfl, e1, g_1311_1, g_1312_1, g_1313_1, g_1314_1, g_1315_1, g_1316_1, g_1317_1, g_1318_1, g_155_1, fr1⟩ := hp
  obtain rfl : n1 = 1319 := e1
  have fr1 := fun (x : Nat) (hx : x ∉ ([1311, 1312, 1313, 1314, 1315, 1316, 1317, 1318, 155] : List Nat)) => (show f1 x = _ from fr1 x hx)
  have h_1311_1 : f1 1311 = .inr (10, [.ref 1312, .ref 1313, .ref 1314, .ref 1315, .ref 1316, .ref 1317, .int 0, .ref 1318, .int 0]) := g_1311_1
  have h_1312_1 : f1 1312 = .inl (.long, 2000, (fun _ => .long 0)) := g_1312_1
  have h_1313_1 : f1 1313 = .inl (.long, 2000, (fun _ => .long 0)) := g_1313_1
  have h_1314_1 : f1 1314 = .inl (.int, 100, (fun j => if j < 100 then .int (-1) else (fun _ => .int 0) j)) := g_1314_1
  have h_1315_1 : f1 1315 = .inl (.long, 12, (fun _ => .long 0)) := g_1315_1
  have h_1316_1 : f1 1316 = .inl (.long, 12, (fun _ => .long 0)) := g_1316_1
  have h_1317_1 : f1 1317 = .inl (.long, 12, (fun _ => .long 0)) := g_1317_1
  have h_1318_1 : f1 1318 = .inl (.object "StowTongue$Unit", 10, (fun _ => .null)) := g_1318_1
  have h_155_1 : f1 155 = .inl (.object "StowTongue$Store", 10, (updV (fun _ => .null) 0 (.ref 1311))) := g_155_1
  refine am_astore_n d_Stow_count_7 rfl (by decide) ?_
  refine am_iload_n d_Stow_count_8 rfl rfl ?_
  refine am_tableIn (tgt := 108) d_Stow_count_9 (by decide) (by decide) rfl (by decide) ?_
  refine am_aload_n d_Stow_count_108 rfl rfl ?_
  have h_128_1 : f1 128 = .inr (9, [.ref 129, .int 0, .ref 130, .ref 132, .ref 148, .ref 154, .ref 157, .long 0, .long 0, .int 0]) := (fr1 128 (by decide)).trans h_128
  refine am_get O f_Stow_86 d_Stow_count_109 (by exact h_128_1) (by decide) (by decide) rfl ?_
  exact am_iret rfl d_Stow_count_112 ⟨rfl, rfl, h_1311_1, h_1312_1, h_1313_1, h_1314_1, h_1315_1, h_1316_1, h_1317_1, h_1318_1, h_155_1, fun x hx => by simp only [List.mem_cons, List.not_mem_nil, or_false, not_or] at hx; dsimp only; (repeat (first | rw [va_up_ne _ _ (by omega)] | rw [fr1 x (by simp only [List.mem_cons, List.not_mem_nil, or_false, not_or]; omega)]))⟩

set_option maxRecDepth 100000 in
set_option maxHeartbeats 4000000 in
theorem a_count7_m (O : am_ok K X)   {f : Nat → am_C} (h_160 : f 160 = .inr (14, [.ref 161, .ref 162, .int 0, .int 0, .int 0, .int 0, .int 0, .int 0, .int 0, .int 0, .int 0, .long 0, .ref 163, .ref 170, .ref 171, .ref 172, .ref 173, .ref 174, .ref 175, .ref 176, .int 0, .ref 177, .null, .ref 184, .int 0, .int 0, .ref 185, .int 0, .ref 186, .int 0, .ref 187, .ref 204, .ref 221, .ref 238, .int 0, .int 0, .ref 239, .ref 240, .ref 245, .ref 250, .ref 255, .int 0, .int 0, .int 0, .int 0, .int 0, .int 0, .ref 260, .ref 261, .ref 262, .ref 263, .ref 264, .int 0])) : am_Mt K X m_Mod_count 0 0 0 [.ref 160, .int 7] (1319, f) (fun v h' => v = some (.int 0) ∧ h' = (1319, f)) := by
  refine am_enter (by decide +kernel) (Nat.le_of_ble_eq_true rfl) ?_
  refine am_iconst (v := 0) d_Mod_count_0 (by decide) ?_
  refine am_istore_n d_Mod_count_1 rfl (by decide) ?_
  refine am_iload_n d_Mod_count_2 rfl rfl ?_
  refine am_tableIn (tgt := 120) d_Mod_count_3 (by decide) (by decide) rfl (by decide) ?_
  refine am_aload_n d_Mod_count_120 rfl rfl ?_
  refine am_get O f_Mod_446 d_Mod_count_121 (by exact h_160) (by decide) (by decide) rfl ?_
  exact am_iret rfl d_Mod_count_124 ⟨rfl, rfl⟩
end
end
