section
-- ===== PART A: goes FIRST, ahead of the names: the tables' words, and 'selects' of the private methods out of them =====
/-- a private method of a class that the tables say can be made, by its rows of tables_1 -/
def lw_okq (q : MethodName × Nat) : Prop := (q.1.cls ≠ "java/lang/invoke/MethodHandle" ∧ q.1.cls ≠ "java/lang/invoke/VarHandle") ∧ Cond.instantiable q.1.cls q.2 ∈ tables_1 ∧ Cond.privateMethod q.1 ∈ tables_1 ∧ Cond.instanceMethod q.1 ∈ tables_1
theorem lw_p0 : lw_okq (⟨"java/lang/Throwable", "fillInStackTrace", "(I)Ljava/lang/Throwable;"⟩, 6) := ⟨⟨by decide +kernel, by decide +kernel⟩, List.mem_of_getElem? (i := 293) (by decide +kernel), List.mem_of_getElem? (i := 291) (by decide +kernel), List.mem_of_getElem? (i := 292) (by decide +kernel)⟩
theorem lw_p1 : lw_okq (⟨"PascalMachine$Tokens", "readToken", "(I)LPascalMachine$Kind;"⟩, 7) := ⟨⟨by decide +kernel, by decide +kernel⟩, List.mem_of_getElem? (i := 39) (by decide +kernel), List.mem_of_getElem? (i := 355) (by decide +kernel), List.mem_of_getElem? (i := 356) (by decide +kernel)⟩
theorem lw_p2 : lw_okq (⟨"PascalMachine$Tokens", "behindBlanks", "()I"⟩, 7) := ⟨⟨by decide +kernel, by decide +kernel⟩, List.mem_of_getElem? (i := 39) (by decide +kernel), List.mem_of_getElem? (i := 359) (by decide +kernel), List.mem_of_getElem? (i := 360) (by decide +kernel)⟩
theorem lw_p3 : lw_okq (⟨"PascalMachine$Tokens", "readWord", "(II)LPascalMachine$Kind;"⟩, 7) := ⟨⟨by decide +kernel, by decide +kernel⟩, List.mem_of_getElem? (i := 39) (by decide +kernel), List.mem_of_getElem? (i := 370) (by decide +kernel), List.mem_of_getElem? (i := 371) (by decide +kernel)⟩
theorem lw_p4 : lw_okq (⟨"PascalMachine$Tokens", "kindSpelled", "(ILPascalMachine$Kind;)LPascalMachine$Kind;"⟩, 7) := ⟨⟨by decide +kernel, by decide +kernel⟩, List.mem_of_getElem? (i := 39) (by decide +kernel), List.mem_of_getElem? (i := 379) (by decide +kernel), List.mem_of_getElem? (i := 380) (by decide +kernel)⟩
theorem lw_p5 : lw_okq (⟨"PascalMachine$Tokens", "isSpelled", "(ILjava/lang/String;)Z"⟩, 7) := ⟨⟨by decide +kernel, by decide +kernel⟩, List.mem_of_getElem? (i := 39) (by decide +kernel), List.mem_of_getElem? (i := 385) (by decide +kernel), List.mem_of_getElem? (i := 386) (by decide +kernel)⟩
theorem lw_p6 : lw_okq (⟨"PascalMachine$Tokens", "readNumber", "(II)LPascalMachine$Kind;"⟩, 7) := ⟨⟨by decide +kernel, by decide +kernel⟩, List.mem_of_getElem? (i := 39) (by decide +kernel), List.mem_of_getElem? (i := 437) (by decide +kernel), List.mem_of_getElem? (i := 438) (by decide +kernel)⟩
theorem lw_p7 : lw_okq (⟨"PascalMachine$Tokens", "readSign", "(I)LPascalMachine$Kind;"⟩, 7) := ⟨⟨by decide +kernel, by decide +kernel⟩, List.mem_of_getElem? (i := 39) (by decide +kernel), List.mem_of_getElem? (i := 444) (by decide +kernel), List.mem_of_getElem? (i := 445) (by decide +kernel)⟩
theorem lw_p8 : lw_okq (⟨"PascalMachine$Compiler", "block", "(I)I"⟩, 4) := ⟨⟨by decide +kernel, by decide +kernel⟩, List.mem_of_getElem? (i := 33) (by decide +kernel), List.mem_of_getElem? (i := 455) (by decide +kernel), List.mem_of_getElem? (i := 456) (by decide +kernel)⟩
theorem lw_p9 : lw_okq (⟨"PascalMachine$Compiler", "variables", "()V"⟩, 4) := ⟨⟨by decide +kernel, by decide +kernel⟩, List.mem_of_getElem? (i := 33) (by decide +kernel), List.mem_of_getElem? (i := 469) (by decide +kernel), List.mem_of_getElem? (i := 470) (by decide +kernel)⟩
theorem lw_p10 : lw_okq (⟨"PascalMachine$Compiler", "declareName", "(I)V"⟩, 4) := ⟨⟨by decide +kernel, by decide +kernel⟩, List.mem_of_getElem? (i := 33) (by decide +kernel), List.mem_of_getElem? (i := 473) (by decide +kernel), List.mem_of_getElem? (i := 474) (by decide +kernel)⟩
theorem lw_p11 : lw_okq (⟨"PascalMachine$Names", "isFull", "(I)Z"⟩, 9) := ⟨⟨by decide +kernel, by decide +kernel⟩, List.mem_of_getElem? (i := 72) (by decide +kernel), List.mem_of_getElem? (i := 494) (by decide +kernel), List.mem_of_getElem? (i := 495) (by decide +kernel)⟩
theorem lw_p12 : lw_okq (⟨"PascalMachine$Compiler", "refuse", "(I)V"⟩, 4) := ⟨⟨by decide +kernel, by decide +kernel⟩, List.mem_of_getElem? (i := 33) (by decide +kernel), List.mem_of_getElem? (i := 502) (by decide +kernel), List.mem_of_getElem? (i := 503) (by decide +kernel)⟩
theorem lw_p13 : lw_okq (⟨"PascalMachine$Compiler", "expect", "(LPascalMachine$Kind;)V"⟩, 4) := ⟨⟨by decide +kernel, by decide +kernel⟩, List.mem_of_getElem? (i := 33) (by decide +kernel), List.mem_of_getElem? (i := 513) (by decide +kernel), List.mem_of_getElem? (i := 514) (by decide +kernel)⟩
theorem lw_p14 : lw_okq (⟨"PascalMachine$Compiler", "procedure", "(I)V"⟩, 4) := ⟨⟨by decide +kernel, by decide +kernel⟩, List.mem_of_getElem? (i := 33) (by decide +kernel), List.mem_of_getElem? (i := 519) (by decide +kernel), List.mem_of_getElem? (i := 520) (by decide +kernel)⟩
theorem lw_p15 : lw_okq (⟨"PascalMachine$Compiler", "parameters", "(I)V"⟩, 4) := ⟨⟨by decide +kernel, by decide +kernel⟩, List.mem_of_getElem? (i := 33) (by decide +kernel), List.mem_of_getElem? (i := 533) (by decide +kernel), List.mem_of_getElem? (i := 534) (by decide +kernel)⟩
def lw_privs_1 : List (MethodName × Nat) := [(⟨"java/lang/Throwable", "fillInStackTrace", "(I)Ljava/lang/Throwable;"⟩, 6), (⟨"PascalMachine$Tokens", "readToken", "(I)LPascalMachine$Kind;"⟩, 7), (⟨"PascalMachine$Tokens", "behindBlanks", "()I"⟩, 7), (⟨"PascalMachine$Tokens", "readWord", "(II)LPascalMachine$Kind;"⟩, 7), (⟨"PascalMachine$Tokens", "kindSpelled", "(ILPascalMachine$Kind;)LPascalMachine$Kind;"⟩, 7), (⟨"PascalMachine$Tokens", "isSpelled", "(ILjava/lang/String;)Z"⟩, 7), (⟨"PascalMachine$Tokens", "readNumber", "(II)LPascalMachine$Kind;"⟩, 7), (⟨"PascalMachine$Tokens", "readSign", "(I)LPascalMachine$Kind;"⟩, 7), (⟨"PascalMachine$Compiler", "block", "(I)I"⟩, 4), (⟨"PascalMachine$Compiler", "variables", "()V"⟩, 4), (⟨"PascalMachine$Compiler", "declareName", "(I)V"⟩, 4), (⟨"PascalMachine$Names", "isFull", "(I)Z"⟩, 9), (⟨"PascalMachine$Compiler", "refuse", "(I)V"⟩, 4), (⟨"PascalMachine$Compiler", "expect", "(LPascalMachine$Kind;)V"⟩, 4), (⟨"PascalMachine$Compiler", "procedure", "(I)V"⟩, 4), (⟨"PascalMachine$Compiler", "parameters", "(I)V"⟩, 4)]
theorem lw_r1 : ∀ q ∈ lw_privs_1, lw_okq q := List.forall_mem_cons.mpr ⟨lw_p0, List.forall_mem_cons.mpr ⟨lw_p1, List.forall_mem_cons.mpr ⟨lw_p2, List.forall_mem_cons.mpr ⟨lw_p3, List.forall_mem_cons.mpr ⟨lw_p4, List.forall_mem_cons.mpr ⟨lw_p5, List.forall_mem_cons.mpr ⟨lw_p6, List.forall_mem_cons.mpr ⟨lw_p7, List.forall_mem_cons.mpr ⟨lw_p8, List.forall_mem_cons.mpr ⟨lw_p9, List.forall_mem_cons.mpr ⟨lw_p10, List.forall_mem_cons.mpr ⟨lw_p11, List.forall_mem_cons.mpr ⟨lw_p12, List.forall_mem_cons.mpr ⟨lw_p13, List.forall_mem_cons.mpr ⟨lw_p14, List.forall_mem_cons.mpr ⟨lw_p15, fun _ h => absurd h List.not_mem_nil⟩⟩⟩⟩⟩⟩⟩⟩⟩⟩⟩⟩⟩⟩⟩⟩
theorem lw_p16 : lw_okq (⟨"PascalMachine$Compiler", "parameter", "(I)V"⟩, 4) := ⟨⟨by decide +kernel, by decide +kernel⟩, List.mem_of_getElem? (i := 33) (by decide +kernel), List.mem_of_getElem? (i := 537) (by decide +kernel), List.mem_of_getElem? (i := 538) (by decide +kernel)⟩
theorem lw_p17 : lw_okq (⟨"PascalMachine$Compiler", "statements", "(I)V"⟩, 4) := ⟨⟨by decide +kernel, by decide +kernel⟩, List.mem_of_getElem? (i := 33) (by decide +kernel), List.mem_of_getElem? (i := 551) (by decide +kernel), List.mem_of_getElem? (i := 552) (by decide +kernel)⟩
theorem lw_p18 : lw_okq (⟨"PascalMachine$Compiler", "statement", "(I)V"⟩, 4) := ⟨⟨by decide +kernel, by decide +kernel⟩, List.mem_of_getElem? (i := 33) (by decide +kernel), List.mem_of_getElem? (i := 555) (by decide +kernel), List.mem_of_getElem? (i := 556) (by decide +kernel)⟩
theorem lw_p19 : lw_okq (⟨"PascalMachine$Compiler", "assignment", "()V"⟩, 4) := ⟨⟨by decide +kernel, by decide +kernel⟩, List.mem_of_getElem? (i := 33) (by decide +kernel), List.mem_of_getElem? (i := 573) (by decide +kernel), List.mem_of_getElem? (i := 574) (by decide +kernel)⟩
theorem lw_p20 : lw_okq (⟨"PascalMachine$Compiler", "expression", "(I)V"⟩, 4) := ⟨⟨by decide +kernel, by decide +kernel⟩, List.mem_of_getElem? (i := 33) (by decide +kernel), List.mem_of_getElem? (i := 586) (by decide +kernel), List.mem_of_getElem? (i := 587) (by decide +kernel)⟩
theorem lw_p21 : lw_okq (⟨"PascalMachine$Compiler", "term", "(I)V"⟩, 4) := ⟨⟨by decide +kernel, by decide +kernel⟩, List.mem_of_getElem? (i := 33) (by decide +kernel), List.mem_of_getElem? (i := 592) (by decide +kernel), List.mem_of_getElem? (i := 593) (by decide +kernel)⟩
theorem lw_p22 : lw_okq (⟨"PascalMachine$Compiler", "factor", "(I)V"⟩, 4) := ⟨⟨by decide +kernel, by decide +kernel⟩, List.mem_of_getElem? (i := 33) (by decide +kernel), List.mem_of_getElem? (i := 596) (by decide +kernel), List.mem_of_getElem? (i := 597) (by decide +kernel)⟩
theorem lw_p23 : lw_okq (⟨"PascalMachine$Compiler", "variable", "()V"⟩, 4) := ⟨⟨by decide +kernel, by decide +kernel⟩, List.mem_of_getElem? (i := 33) (by decide +kernel), List.mem_of_getElem? (i := 600) (by decide +kernel), List.mem_of_getElem? (i := 601) (by decide +kernel)⟩
theorem lw_p24 : lw_okq (⟨"PascalMachine$Compiler", "multiplication", "()I"⟩, 4) := ⟨⟨by decide +kernel, by decide +kernel⟩, List.mem_of_getElem? (i := 33) (by decide +kernel), List.mem_of_getElem? (i := 616) (by decide +kernel), List.mem_of_getElem? (i := 617) (by decide +kernel)⟩
theorem lw_p25 : lw_okq (⟨"PascalMachine$Compiler", "procedureCall", "()V"⟩, 4) := ⟨⟨by decide +kernel, by decide +kernel⟩, List.mem_of_getElem? (i := 33) (by decide +kernel), List.mem_of_getElem? (i := 622) (by decide +kernel), List.mem_of_getElem? (i := 623) (by decide +kernel)⟩
theorem lw_p26 : lw_okq (⟨"PascalMachine$Compiler", "arguments", "(I)I"⟩, 4) := ⟨⟨by decide +kernel, by decide +kernel⟩, List.mem_of_getElem? (i := 33) (by decide +kernel), List.mem_of_getElem? (i := 626) (by decide +kernel), List.mem_of_getElem? (i := 627) (by decide +kernel)⟩
theorem lw_p27 : lw_okq (⟨"PascalMachine$Compiler", "goDeeper", "(I)V"⟩, 4) := ⟨⟨by decide +kernel, by decide +kernel⟩, List.mem_of_getElem? (i := 33) (by decide +kernel), List.mem_of_getElem? (i := 638) (by decide +kernel), List.mem_of_getElem? (i := 639) (by decide +kernel)⟩
theorem lw_p28 : lw_okq (⟨"PascalMachine$Compiler", "ifStatement", "(I)V"⟩, 4) := ⟨⟨by decide +kernel, by decide +kernel⟩, List.mem_of_getElem? (i := 33) (by decide +kernel), List.mem_of_getElem? (i := 642) (by decide +kernel), List.mem_of_getElem? (i := 643) (by decide +kernel)⟩
theorem lw_p29 : lw_okq (⟨"PascalMachine$Compiler", "condition", "()I"⟩, 4) := ⟨⟨by decide +kernel, by decide +kernel⟩, List.mem_of_getElem? (i := 33) (by decide +kernel), List.mem_of_getElem? (i := 646) (by decide +kernel), List.mem_of_getElem? (i := 647) (by decide +kernel)⟩
theorem lw_p30 : lw_okq (⟨"PascalMachine$Compiler", "comparison", "()I"⟩, 4) := ⟨⟨by decide +kernel, by decide +kernel⟩, List.mem_of_getElem? (i := 33) (by decide +kernel), List.mem_of_getElem? (i := 650) (by decide +kernel), List.mem_of_getElem? (i := 651) (by decide +kernel)⟩
theorem lw_p31 : lw_okq (⟨"PascalMachine$Compiler", "whileStatement", "(I)V"⟩, 4) := ⟨⟨by decide +kernel, by decide +kernel⟩, List.mem_of_getElem? (i := 33) (by decide +kernel), List.mem_of_getElem? (i := 662) (by decide +kernel), List.mem_of_getElem? (i := 663) (by decide +kernel)⟩
def lw_privs_2 : List (MethodName × Nat) := [(⟨"PascalMachine$Compiler", "parameter", "(I)V"⟩, 4), (⟨"PascalMachine$Compiler", "statements", "(I)V"⟩, 4), (⟨"PascalMachine$Compiler", "statement", "(I)V"⟩, 4), (⟨"PascalMachine$Compiler", "assignment", "()V"⟩, 4), (⟨"PascalMachine$Compiler", "expression", "(I)V"⟩, 4), (⟨"PascalMachine$Compiler", "term", "(I)V"⟩, 4), (⟨"PascalMachine$Compiler", "factor", "(I)V"⟩, 4), (⟨"PascalMachine$Compiler", "variable", "()V"⟩, 4), (⟨"PascalMachine$Compiler", "multiplication", "()I"⟩, 4), (⟨"PascalMachine$Compiler", "procedureCall", "()V"⟩, 4), (⟨"PascalMachine$Compiler", "arguments", "(I)I"⟩, 4), (⟨"PascalMachine$Compiler", "goDeeper", "(I)V"⟩, 4), (⟨"PascalMachine$Compiler", "ifStatement", "(I)V"⟩, 4), (⟨"PascalMachine$Compiler", "condition", "()I"⟩, 4), (⟨"PascalMachine$Compiler", "comparison", "()I"⟩, 4), (⟨"PascalMachine$Compiler", "whileStatement", "(I)V"⟩, 4)]
theorem lw_r2 : ∀ q ∈ lw_privs_2, lw_okq q := List.forall_mem_cons.mpr ⟨lw_p16, List.forall_mem_cons.mpr ⟨lw_p17, List.forall_mem_cons.mpr ⟨lw_p18, List.forall_mem_cons.mpr ⟨lw_p19, List.forall_mem_cons.mpr ⟨lw_p20, List.forall_mem_cons.mpr ⟨lw_p21, List.forall_mem_cons.mpr ⟨lw_p22, List.forall_mem_cons.mpr ⟨lw_p23, List.forall_mem_cons.mpr ⟨lw_p24, List.forall_mem_cons.mpr ⟨lw_p25, List.forall_mem_cons.mpr ⟨lw_p26, List.forall_mem_cons.mpr ⟨lw_p27, List.forall_mem_cons.mpr ⟨lw_p28, List.forall_mem_cons.mpr ⟨lw_p29, List.forall_mem_cons.mpr ⟨lw_p30, List.forall_mem_cons.mpr ⟨lw_p31, fun _ h => absurd h List.not_mem_nil⟩⟩⟩⟩⟩⟩⟩⟩⟩⟩⟩⟩⟩⟩⟩⟩
theorem lw_p32 : lw_okq (⟨"PascalMachine$Compiler", "writeStatement", "()V"⟩, 4) := ⟨⟨by decide +kernel, by decide +kernel⟩, List.mem_of_getElem? (i := 33) (by decide +kernel), List.mem_of_getElem? (i := 668) (by decide +kernel), List.mem_of_getElem? (i := 669) (by decide +kernel)⟩
theorem lw_p33 : lw_okq (⟨"PascalMachine$Machine", "begin", "()V"⟩, 13) := ⟨⟨by decide +kernel, by decide +kernel⟩, List.mem_of_getElem? (i := 164) (by decide +kernel), List.mem_of_getElem? (i := 710) (by decide +kernel), List.mem_of_getElem? (i := 711) (by decide +kernel)⟩
theorem lw_p34 : lw_okq (⟨"PascalMachine$Machine", "clearFrame", "()V"⟩, 13) := ⟨⟨by decide +kernel, by decide +kernel⟩, List.mem_of_getElem? (i := 164) (by decide +kernel), List.mem_of_getElem? (i := 714) (by decide +kernel), List.mem_of_getElem? (i := 715) (by decide +kernel)⟩
theorem lw_p35 : lw_okq (⟨"PascalMachine$Machine", "store", "(II)V"⟩, 13) := ⟨⟨by decide +kernel, by decide +kernel⟩, List.mem_of_getElem? (i := 164) (by decide +kernel), List.mem_of_getElem? (i := 718) (by decide +kernel), List.mem_of_getElem? (i := 719) (by decide +kernel)⟩
theorem lw_p36 : lw_okq (⟨"PascalMachine$Machine", "perform", "(III)V"⟩, 13) := ⟨⟨by decide +kernel, by decide +kernel⟩, List.mem_of_getElem? (i := 164) (by decide +kernel), List.mem_of_getElem? (i := 723) (by decide +kernel), List.mem_of_getElem? (i := 724) (by decide +kernel)⟩
theorem lw_p37 : lw_okq (⟨"PascalMachine$Machine", "takeStep", "()V"⟩, 13) := ⟨⟨by decide +kernel, by decide +kernel⟩, List.mem_of_getElem? (i := 164) (by decide +kernel), List.mem_of_getElem? (i := 727) (by decide +kernel), List.mem_of_getElem? (i := 728) (by decide +kernel)⟩
theorem lw_p38 : lw_okq (⟨"PascalMachine$Machine", "push", "(I)V"⟩, 13) := ⟨⟨by decide +kernel, by decide +kernel⟩, List.mem_of_getElem? (i := 164) (by decide +kernel), List.mem_of_getElem? (i := 733) (by decide +kernel), List.mem_of_getElem? (i := 734) (by decide +kernel)⟩
theorem lw_p39 : lw_okq (⟨"PascalMachine$Machine", "address", "(II)I"⟩, 13) := ⟨⟨by decide +kernel, by decide +kernel⟩, List.mem_of_getElem? (i := 164) (by decide +kernel), List.mem_of_getElem? (i := 737) (by decide +kernel), List.mem_of_getElem? (i := 738) (by decide +kernel)⟩
theorem lw_p40 : lw_okq (⟨"PascalMachine$Machine", "frameOutward", "(I)I"⟩, 13) := ⟨⟨by decide +kernel, by decide +kernel⟩, List.mem_of_getElem? (i := 164) (by decide +kernel), List.mem_of_getElem? (i := 741) (by decide +kernel), List.mem_of_getElem? (i := 742) (by decide +kernel)⟩
theorem lw_p41 : lw_okq (⟨"PascalMachine$Machine", "load", "(I)I"⟩, 13) := ⟨⟨by decide +kernel, by decide +kernel⟩, List.mem_of_getElem? (i := 164) (by decide +kernel), List.mem_of_getElem? (i := 745) (by decide +kernel), List.mem_of_getElem? (i := 746) (by decide +kernel)⟩
theorem lw_p42 : lw_okq (⟨"PascalMachine$Machine", "pop", "()I"⟩, 13) := ⟨⟨by decide +kernel, by decide +kernel⟩, List.mem_of_getElem? (i := 164) (by decide +kernel), List.mem_of_getElem? (i := 749) (by decide +kernel), List.mem_of_getElem? (i := 750) (by decide +kernel)⟩
theorem lw_p43 : lw_okq (⟨"PascalMachine$Machine", "enter", "(II)V"⟩, 13) := ⟨⟨by decide +kernel, by decide +kernel⟩, List.mem_of_getElem? (i := 164) (by decide +kernel), List.mem_of_getElem? (i := 753) (by decide +kernel), List.mem_of_getElem? (i := 754) (by decide +kernel)⟩
theorem lw_p44 : lw_okq (⟨"PascalMachine$Machine", "leave", "()V"⟩, 13) := ⟨⟨by decide +kernel, by decide +kernel⟩, List.mem_of_getElem? (i := 164) (by decide +kernel), List.mem_of_getElem? (i := 775) (by decide +kernel), List.mem_of_getElem? (i := 776) (by decide +kernel)⟩
theorem lw_p45 : lw_okq (⟨"PascalMachine$Machine", "put", "(I)V"⟩, 13) := ⟨⟨by decide +kernel, by decide +kernel⟩, List.mem_of_getElem? (i := 164) (by decide +kernel), List.mem_of_getElem? (i := 779) (by decide +kernel), List.mem_of_getElem? (i := 780) (by decide +kernel)⟩
theorem lw_p46 : lw_okq (⟨"PascalMachine$Machine", "combine", "(I)V"⟩, 13) := ⟨⟨by decide +kernel, by decide +kernel⟩, List.mem_of_getElem? (i := 164) (by decide +kernel), List.mem_of_getElem? (i := 783) (by decide +kernel), List.mem_of_getElem? (i := 784) (by decide +kernel)⟩
theorem lw_p47 : lw_okq (⟨"PascalMachineModel", "raise", "(I)I"⟩, 59) := ⟨⟨by decide +kernel, by decide +kernel⟩, List.mem_of_getElem? (i := 825) (by decide +kernel), List.mem_of_getElem? (i := 1017) (by decide +kernel), List.mem_of_getElem? (i := 1018) (by decide +kernel)⟩
def lw_privs_3 : List (MethodName × Nat) := [(⟨"PascalMachine$Compiler", "writeStatement", "()V"⟩, 4), (⟨"PascalMachine$Machine", "begin", "()V"⟩, 13), (⟨"PascalMachine$Machine", "clearFrame", "()V"⟩, 13), (⟨"PascalMachine$Machine", "store", "(II)V"⟩, 13), (⟨"PascalMachine$Machine", "perform", "(III)V"⟩, 13), (⟨"PascalMachine$Machine", "takeStep", "()V"⟩, 13), (⟨"PascalMachine$Machine", "push", "(I)V"⟩, 13), (⟨"PascalMachine$Machine", "address", "(II)I"⟩, 13), (⟨"PascalMachine$Machine", "frameOutward", "(I)I"⟩, 13), (⟨"PascalMachine$Machine", "load", "(I)I"⟩, 13), (⟨"PascalMachine$Machine", "pop", "()I"⟩, 13), (⟨"PascalMachine$Machine", "enter", "(II)V"⟩, 13), (⟨"PascalMachine$Machine", "leave", "()V"⟩, 13), (⟨"PascalMachine$Machine", "put", "(I)V"⟩, 13), (⟨"PascalMachine$Machine", "combine", "(I)V"⟩, 13), (⟨"PascalMachineModel", "raise", "(I)I"⟩, 59)]
theorem lw_r3 : ∀ q ∈ lw_privs_3, lw_okq q := List.forall_mem_cons.mpr ⟨lw_p32, List.forall_mem_cons.mpr ⟨lw_p33, List.forall_mem_cons.mpr ⟨lw_p34, List.forall_mem_cons.mpr ⟨lw_p35, List.forall_mem_cons.mpr ⟨lw_p36, List.forall_mem_cons.mpr ⟨lw_p37, List.forall_mem_cons.mpr ⟨lw_p38, List.forall_mem_cons.mpr ⟨lw_p39, List.forall_mem_cons.mpr ⟨lw_p40, List.forall_mem_cons.mpr ⟨lw_p41, List.forall_mem_cons.mpr ⟨lw_p42, List.forall_mem_cons.mpr ⟨lw_p43, List.forall_mem_cons.mpr ⟨lw_p44, List.forall_mem_cons.mpr ⟨lw_p45, List.forall_mem_cons.mpr ⟨lw_p46, List.forall_mem_cons.mpr ⟨lw_p47, fun _ h => absurd h List.not_mem_nil⟩⟩⟩⟩⟩⟩⟩⟩⟩⟩⟩⟩⟩⟩⟩⟩
theorem lw_p48 : lw_okq (⟨"PascalMachineModel", "cutAll", "()V"⟩, 59) := ⟨⟨by decide +kernel, by decide +kernel⟩, List.mem_of_getElem? (i := 825) (by decide +kernel), List.mem_of_getElem? (i := 1029) (by decide +kernel), List.mem_of_getElem? (i := 1030) (by decide +kernel)⟩
theorem lw_p49 : lw_okq (⟨"PascalMachineModel", "cutWord", "(I)V"⟩, 59) := ⟨⟨by decide +kernel, by decide +kernel⟩, List.mem_of_getElem? (i := 825) (by decide +kernel), List.mem_of_getElem? (i := 1042) (by decide +kernel), List.mem_of_getElem? (i := 1043) (by decide +kernel)⟩
theorem lw_p50 : lw_okq (⟨"PascalMachineModel", "readProgram", "()V"⟩, 59) := ⟨⟨by decide +kernel, by decide +kernel⟩, List.mem_of_getElem? (i := 825) (by decide +kernel), List.mem_of_getElem? (i := 1061) (by decide +kernel), List.mem_of_getElem? (i := 1062) (by decide +kernel)⟩
theorem lw_p51 : lw_okq (⟨"PascalMachineModel", "enter", "(I)V"⟩, 59) := ⟨⟨by decide +kernel, by decide +kernel⟩, List.mem_of_getElem? (i := 825) (by decide +kernel), List.mem_of_getElem? (i := 1065) (by decide +kernel), List.mem_of_getElem? (i := 1066) (by decide +kernel)⟩
theorem lw_p52 : lw_okq (⟨"PascalMachineModel", "beginBlock", "()V"⟩, 59) := ⟨⟨by decide +kernel, by decide +kernel⟩, List.mem_of_getElem? (i := 825) (by decide +kernel), List.mem_of_getElem? (i := 1069) (by decide +kernel), List.mem_of_getElem? (i := 1070) (by decide +kernel)⟩
theorem lw_p53 : lw_okq (⟨"PascalMachineModel", "take", "(I)Z"⟩, 59) := ⟨⟨by decide +kernel, by decide +kernel⟩, List.mem_of_getElem? (i := 825) (by decide +kernel), List.mem_of_getElem? (i := 1073) (by decide +kernel), List.mem_of_getElem? (i := 1074) (by decide +kernel)⟩
theorem lw_p54 : lw_okq (⟨"PascalMachineModel", "declare", "(I)V"⟩, 59) := ⟨⟨by decide +kernel, by decide +kernel⟩, List.mem_of_getElem? (i := 825) (by decide +kernel), List.mem_of_getElem? (i := 1077) (by decide +kernel), List.mem_of_getElem? (i := 1078) (by decide +kernel)⟩
theorem lw_p55 : lw_okq (⟨"PascalMachineModel", "blame", "(I)V"⟩, 59) := ⟨⟨by decide +kernel, by decide +kernel⟩, List.mem_of_getElem? (i := 825) (by decide +kernel), List.mem_of_getElem? (i := 1081) (by decide +kernel), List.mem_of_getElem? (i := 1082) (by decide +kernel)⟩
theorem lw_p56 : lw_okq (⟨"PascalMachineModel", "need", "(I)V"⟩, 59) := ⟨⟨by decide +kernel, by decide +kernel⟩, List.mem_of_getElem? (i := 825) (by decide +kernel), List.mem_of_getElem? (i := 1085) (by decide +kernel), List.mem_of_getElem? (i := 1086) (by decide +kernel)⟩
theorem lw_p57 : lw_okq (⟨"PascalMachineModel", "procedure", "()V"⟩, 59) := ⟨⟨by decide +kernel, by decide +kernel⟩, List.mem_of_getElem? (i := 825) (by decide +kernel), List.mem_of_getElem? (i := 1089) (by decide +kernel), List.mem_of_getElem? (i := 1090) (by decide +kernel)⟩
theorem lw_p58 : lw_okq (⟨"PascalMachineModel", "blockDepth", "()I"⟩, 59) := ⟨⟨by decide +kernel, by decide +kernel⟩, List.mem_of_getElem? (i := 825) (by decide +kernel), List.mem_of_getElem? (i := 1093) (by decide +kernel), List.mem_of_getElem? (i := 1094) (by decide +kernel)⟩
theorem lw_p59 : lw_okq (⟨"PascalMachineModel", "parameter", "(I)V"⟩, 59) := ⟨⟨by decide +kernel, by decide +kernel⟩, List.mem_of_getElem? (i := 825) (by decide +kernel), List.mem_of_getElem? (i := 1097) (by decide +kernel), List.mem_of_getElem? (i := 1098) (by decide +kernel)⟩
theorem lw_p60 : lw_okq (⟨"PascalMachineModel", "statements", "()V"⟩, 59) := ⟨⟨by decide +kernel, by decide +kernel⟩, List.mem_of_getElem? (i := 825) (by decide +kernel), List.mem_of_getElem? (i := 1101) (by decide +kernel), List.mem_of_getElem? (i := 1102) (by decide +kernel)⟩
theorem lw_p61 : lw_okq (⟨"PascalMachineModel", "beginStatement", "()Z"⟩, 59) := ⟨⟨by decide +kernel, by decide +kernel⟩, List.mem_of_getElem? (i := 825) (by decide +kernel), List.mem_of_getElem? (i := 1105) (by decide +kernel), List.mem_of_getElem? (i := 1106) (by decide +kernel)⟩
theorem lw_p62 : lw_okq (⟨"PascalMachineModel", "find", "(I)I"⟩, 59) := ⟨⟨by decide +kernel, by decide +kernel⟩, List.mem_of_getElem? (i := 825) (by decide +kernel), List.mem_of_getElem? (i := 1109) (by decide +kernel), List.mem_of_getElem? (i := 1110) (by decide +kernel)⟩
theorem lw_p63 : lw_okq (⟨"PascalMachineModel", "expression", "()V"⟩, 59) := ⟨⟨by decide +kernel, by decide +kernel⟩, List.mem_of_getElem? (i := 825) (by decide +kernel), List.mem_of_getElem? (i := 1113) (by decide +kernel), List.mem_of_getElem? (i := 1114) (by decide +kernel)⟩
def lw_privs_4 : List (MethodName × Nat) := [(⟨"PascalMachineModel", "cutAll", "()V"⟩, 59), (⟨"PascalMachineModel", "cutWord", "(I)V"⟩, 59), (⟨"PascalMachineModel", "readProgram", "()V"⟩, 59), (⟨"PascalMachineModel", "enter", "(I)V"⟩, 59), (⟨"PascalMachineModel", "beginBlock", "()V"⟩, 59), (⟨"PascalMachineModel", "take", "(I)Z"⟩, 59), (⟨"PascalMachineModel", "declare", "(I)V"⟩, 59), (⟨"PascalMachineModel", "blame", "(I)V"⟩, 59), (⟨"PascalMachineModel", "need", "(I)V"⟩, 59), (⟨"PascalMachineModel", "procedure", "()V"⟩, 59), (⟨"PascalMachineModel", "blockDepth", "()I"⟩, 59), (⟨"PascalMachineModel", "parameter", "(I)V"⟩, 59), (⟨"PascalMachineModel", "statements", "()V"⟩, 59), (⟨"PascalMachineModel", "beginStatement", "()Z"⟩, 59), (⟨"PascalMachineModel", "find", "(I)I"⟩, 59), (⟨"PascalMachineModel", "expression", "()V"⟩, 59)]
theorem lw_r4 : ∀ q ∈ lw_privs_4, lw_okq q := List.forall_mem_cons.mpr ⟨lw_p48, List.forall_mem_cons.mpr ⟨lw_p49, List.forall_mem_cons.mpr ⟨lw_p50, List.forall_mem_cons.mpr ⟨lw_p51, List.forall_mem_cons.mpr ⟨lw_p52, List.forall_mem_cons.mpr ⟨lw_p53, List.forall_mem_cons.mpr ⟨lw_p54, List.forall_mem_cons.mpr ⟨lw_p55, List.forall_mem_cons.mpr ⟨lw_p56, List.forall_mem_cons.mpr ⟨lw_p57, List.forall_mem_cons.mpr ⟨lw_p58, List.forall_mem_cons.mpr ⟨lw_p59, List.forall_mem_cons.mpr ⟨lw_p60, List.forall_mem_cons.mpr ⟨lw_p61, List.forall_mem_cons.mpr ⟨lw_p62, List.forall_mem_cons.mpr ⟨lw_p63, fun _ h => absurd h List.not_mem_nil⟩⟩⟩⟩⟩⟩⟩⟩⟩⟩⟩⟩⟩⟩⟩⟩
theorem lw_p64 : lw_okq (⟨"PascalMachineModel", "factor", "()V"⟩, 59) := ⟨⟨by decide +kernel, by decide +kernel⟩, List.mem_of_getElem? (i := 825) (by decide +kernel), List.mem_of_getElem? (i := 1117) (by decide +kernel), List.mem_of_getElem? (i := 1118) (by decide +kernel)⟩
theorem lw_p65 : lw_okq (⟨"PascalMachineModel", "operator", "(I)Z"⟩, 59) := ⟨⟨by decide +kernel, by decide +kernel⟩, List.mem_of_getElem? (i := 825) (by decide +kernel), List.mem_of_getElem? (i := 1121) (by decide +kernel), List.mem_of_getElem? (i := 1122) (by decide +kernel)⟩
theorem lw_p66 : lw_okq (⟨"PascalMachineModel", "call", "(II)V"⟩, 59) := ⟨⟨by decide +kernel, by decide +kernel⟩, List.mem_of_getElem? (i := 825) (by decide +kernel), List.mem_of_getElem? (i := 1125) (by decide +kernel), List.mem_of_getElem? (i := 1126) (by decide +kernel)⟩
theorem lw_p67 : lw_okq (⟨"PascalMachineModel", "argument", "(II)V"⟩, 59) := ⟨⟨by decide +kernel, by decide +kernel⟩, List.mem_of_getElem? (i := 825) (by decide +kernel), List.mem_of_getElem? (i := 1129) (by decide +kernel), List.mem_of_getElem? (i := 1130) (by decide +kernel)⟩
theorem lw_p68 : lw_okq (⟨"PascalMachineModel", "parameterOf", "(II)I"⟩, 59) := ⟨⟨by decide +kernel, by decide +kernel⟩, List.mem_of_getElem? (i := 825) (by decide +kernel), List.mem_of_getElem? (i := 1133) (by decide +kernel), List.mem_of_getElem? (i := 1134) (by decide +kernel)⟩
theorem lw_p69 : lw_okq (⟨"PascalMachineModel", "deeper", "(II)V"⟩, 59) := ⟨⟨by decide +kernel, by decide +kernel⟩, List.mem_of_getElem? (i := 825) (by decide +kernel), List.mem_of_getElem? (i := 1137) (by decide +kernel), List.mem_of_getElem? (i := 1138) (by decide +kernel)⟩
theorem lw_p70 : lw_okq (⟨"PascalMachineModel", "condition", "()V"⟩, 59) := ⟨⟨by decide +kernel, by decide +kernel⟩, List.mem_of_getElem? (i := 825) (by decide +kernel), List.mem_of_getElem? (i := 1141) (by decide +kernel), List.mem_of_getElem? (i := 1142) (by decide +kernel)⟩
theorem lw_p71 : lw_okq (⟨"PascalMachineModel", "behindStatement", "()Z"⟩, 59) := ⟨⟨by decide +kernel, by decide +kernel⟩, List.mem_of_getElem? (i := 825) (by decide +kernel), List.mem_of_getElem? (i := 1145) (by decide +kernel), List.mem_of_getElem? (i := 1146) (by decide +kernel)⟩
theorem lw_p72 : lw_okq (⟨"PascalMachineModel", "statement", "()V"⟩, 59) := ⟨⟨by decide +kernel, by decide +kernel⟩, List.mem_of_getElem? (i := 825) (by decide +kernel), List.mem_of_getElem? (i := 1157) (by decide +kernel), List.mem_of_getElem? (i := 1158) (by decide +kernel)⟩
theorem lw_p73 : lw_okq (⟨"PascalMachineModel", "step", "()V"⟩, 59) := ⟨⟨by decide +kernel, by decide +kernel⟩, List.mem_of_getElem? (i := 825) (by decide +kernel), List.mem_of_getElem? (i := 1161) (by decide +kernel), List.mem_of_getElem? (i := 1162) (by decide +kernel)⟩
theorem lw_p74 : lw_okq (⟨"PascalMachineModel", "enterCall", "(I)V"⟩, 59) := ⟨⟨by decide +kernel, by decide +kernel⟩, List.mem_of_getElem? (i := 825) (by decide +kernel), List.mem_of_getElem? (i := 1165) (by decide +kernel), List.mem_of_getElem? (i := 1166) (by decide +kernel)⟩
theorem lw_p75 : lw_okq (⟨"PascalMachineModel", "place", "(I)I"⟩, 59) := ⟨⟨by decide +kernel, by decide +kernel⟩, List.mem_of_getElem? (i := 825) (by decide +kernel), List.mem_of_getElem? (i := 1169) (by decide +kernel), List.mem_of_getElem? (i := 1170) (by decide +kernel)⟩
theorem lw_p76 : lw_okq (⟨"PascalMachineModel", "runOf", "(I)I"⟩, 59) := ⟨⟨by decide +kernel, by decide +kernel⟩, List.mem_of_getElem? (i := 825) (by decide +kernel), List.mem_of_getElem? (i := 1173) (by decide +kernel), List.mem_of_getElem? (i := 1174) (by decide +kernel)⟩
theorem lw_p77 : lw_okq (⟨"PascalMachineModel", "slot", "(I)I"⟩, 59) := ⟨⟨by decide +kernel, by decide +kernel⟩, List.mem_of_getElem? (i := 825) (by decide +kernel), List.mem_of_getElem? (i := 1177) (by decide +kernel), List.mem_of_getElem? (i := 1178) (by decide +kernel)⟩
theorem lw_p78 : lw_okq (⟨"PascalMachineModel", "evaluate", "()I"⟩, 59) := ⟨⟨by decide +kernel, by decide +kernel⟩, List.mem_of_getElem? (i := 825) (by decide +kernel), List.mem_of_getElem? (i := 1181) (by decide +kernel), List.mem_of_getElem? (i := 1182) (by decide +kernel)⟩
theorem lw_p79 : lw_okq (⟨"PascalMachineModel", "openSum", "(I)V"⟩, 59) := ⟨⟨by decide +kernel, by decide +kernel⟩, List.mem_of_getElem? (i := 825) (by decide +kernel), List.mem_of_getElem? (i := 1185) (by decide +kernel), List.mem_of_getElem? (i := 1186) (by decide +kernel)⟩
def lw_privs_5 : List (MethodName × Nat) := [(⟨"PascalMachineModel", "factor", "()V"⟩, 59), (⟨"PascalMachineModel", "operator", "(I)Z"⟩, 59), (⟨"PascalMachineModel", "call", "(II)V"⟩, 59), (⟨"PascalMachineModel", "argument", "(II)V"⟩, 59), (⟨"PascalMachineModel", "parameterOf", "(II)I"⟩, 59), (⟨"PascalMachineModel", "deeper", "(II)V"⟩, 59), (⟨"PascalMachineModel", "condition", "()V"⟩, 59), (⟨"PascalMachineModel", "behindStatement", "()Z"⟩, 59), (⟨"PascalMachineModel", "statement", "()V"⟩, 59), (⟨"PascalMachineModel", "step", "()V"⟩, 59), (⟨"PascalMachineModel", "enterCall", "(I)V"⟩, 59), (⟨"PascalMachineModel", "place", "(I)I"⟩, 59), (⟨"PascalMachineModel", "runOf", "(I)I"⟩, 59), (⟨"PascalMachineModel", "slot", "(I)I"⟩, 59), (⟨"PascalMachineModel", "evaluate", "()I"⟩, 59), (⟨"PascalMachineModel", "openSum", "(I)V"⟩, 59)]
theorem lw_r5 : ∀ q ∈ lw_privs_5, lw_okq q := List.forall_mem_cons.mpr ⟨lw_p64, List.forall_mem_cons.mpr ⟨lw_p65, List.forall_mem_cons.mpr ⟨lw_p66, List.forall_mem_cons.mpr ⟨lw_p67, List.forall_mem_cons.mpr ⟨lw_p68, List.forall_mem_cons.mpr ⟨lw_p69, List.forall_mem_cons.mpr ⟨lw_p70, List.forall_mem_cons.mpr ⟨lw_p71, List.forall_mem_cons.mpr ⟨lw_p72, List.forall_mem_cons.mpr ⟨lw_p73, List.forall_mem_cons.mpr ⟨lw_p74, List.forall_mem_cons.mpr ⟨lw_p75, List.forall_mem_cons.mpr ⟨lw_p76, List.forall_mem_cons.mpr ⟨lw_p77, List.forall_mem_cons.mpr ⟨lw_p78, List.forall_mem_cons.mpr ⟨lw_p79, fun _ h => absurd h List.not_mem_nil⟩⟩⟩⟩⟩⟩⟩⟩⟩⟩⟩⟩⟩⟩⟩⟩
theorem lw_p80 : lw_okq (⟨"PascalMachineModel", "multiply", "(II)V"⟩, 59) := ⟨⟨by decide +kernel, by decide +kernel⟩, List.mem_of_getElem? (i := 825) (by decide +kernel), List.mem_of_getElem? (i := 1189) (by decide +kernel), List.mem_of_getElem? (i := 1190) (by decide +kernel)⟩
theorem lw_p81 : lw_okq (⟨"PascalMachineModel", "add", "(I)V"⟩, 59) := ⟨⟨by decide +kernel, by decide +kernel⟩, List.mem_of_getElem? (i := 825) (by decide +kernel), List.mem_of_getElem? (i := 1193) (by decide +kernel), List.mem_of_getElem? (i := 1194) (by decide +kernel)⟩
theorem lw_p82 : lw_okq (⟨"PascalMachineModel", "over", "()V"⟩, 59) := ⟨⟨by decide +kernel, by decide +kernel⟩, List.mem_of_getElem? (i := 825) (by decide +kernel), List.mem_of_getElem? (i := 1197) (by decide +kernel), List.mem_of_getElem? (i := 1198) (by decide +kernel)⟩
theorem lw_p83 : lw_okq (⟨"PascalMachineModel", "write", "(I)V"⟩, 59) := ⟨⟨by decide +kernel, by decide +kernel⟩, List.mem_of_getElem? (i := 825) (by decide +kernel), List.mem_of_getElem? (i := 1201) (by decide +kernel), List.mem_of_getElem? (i := 1202) (by decide +kernel)⟩
theorem lw_p84 : lw_okq (⟨"PascalMachineModel", "push", "(II)V"⟩, 59) := ⟨⟨by decide +kernel, by decide +kernel⟩, List.mem_of_getElem? (i := 825) (by decide +kernel), List.mem_of_getElem? (i := 1205) (by decide +kernel), List.mem_of_getElem? (i := 1206) (by decide +kernel)⟩
theorem lw_p85 : lw_okq (⟨"PascalMachineModel", "test", "(I)V"⟩, 59) := ⟨⟨by decide +kernel, by decide +kernel⟩, List.mem_of_getElem? (i := 825) (by decide +kernel), List.mem_of_getElem? (i := 1209) (by decide +kernel), List.mem_of_getElem? (i := 1210) (by decide +kernel)⟩
theorem lw_p86 : lw_okq (⟨"PascalMachineModel", "holds", "()Z"⟩, 59) := ⟨⟨by decide +kernel, by decide +kernel⟩, List.mem_of_getElem? (i := 825) (by decide +kernel), List.mem_of_getElem? (i := 1213) (by decide +kernel), List.mem_of_getElem? (i := 1214) (by decide +kernel)⟩
def lw_privs_6 : List (MethodName × Nat) := [(⟨"PascalMachineModel", "multiply", "(II)V"⟩, 59), (⟨"PascalMachineModel", "add", "(I)V"⟩, 59), (⟨"PascalMachineModel", "over", "()V"⟩, 59), (⟨"PascalMachineModel", "write", "(I)V"⟩, 59), (⟨"PascalMachineModel", "push", "(II)V"⟩, 59), (⟨"PascalMachineModel", "test", "(I)V"⟩, 59), (⟨"PascalMachineModel", "holds", "()Z"⟩, 59)]
theorem lw_r6 : ∀ q ∈ lw_privs_6, lw_okq q := List.forall_mem_cons.mpr ⟨lw_p80, List.forall_mem_cons.mpr ⟨lw_p81, List.forall_mem_cons.mpr ⟨lw_p82, List.forall_mem_cons.mpr ⟨lw_p83, List.forall_mem_cons.mpr ⟨lw_p84, List.forall_mem_cons.mpr ⟨lw_p85, List.forall_mem_cons.mpr ⟨lw_p86, fun _ h => absurd h List.not_mem_nil⟩⟩⟩⟩⟩⟩⟩
def lw_privs : List (MethodName × Nat) := lw_privs_1 ++ (lw_privs_2 ++ (lw_privs_3 ++ (lw_privs_4 ++ (lw_privs_5 ++ (lw_privs_6)))))
def lw_tbl : List Cond := k2_sels lw_privs ++ tables_1
theorem lw_privs_ok : ∀ q ∈ lw_privs, lw_okq q := by
  show ∀ q ∈ lw_privs_1 ++ (lw_privs_2 ++ (lw_privs_3 ++ (lw_privs_4 ++ (lw_privs_5 ++ (lw_privs_6))))), lw_okq q
  exact List.forall_mem_append.mpr ⟨lw_r1, List.forall_mem_append.mpr ⟨lw_r2, List.forall_mem_append.mpr ⟨lw_r3, List.forall_mem_append.mpr ⟨lw_r4, List.forall_mem_append.mpr ⟨lw_r5, lw_r6⟩⟩⟩⟩⟩
end
section
/-- the words that every method takes along: those of the tables that no walk moves -/
def gt : List Cond := lw_tbl.filter goodWord
theorem gt_good : ∀ w ∈ gt, (w.onTables && w.keeps) = true ∨ ∃ ty, w = .arrayClass ty := fun w h => good_of_word (List.mem_filter.mp h).2
theorem gtm {w : Cond} (i : Nat) (h : tables_1[i]? = some w) (hg : goodWord w = true) : w ∈ gt := List.mem_filter.mpr ⟨List.mem_append_right _ (List.mem_of_getElem? h), hg⟩
theorem gts {q : MethodName × Nat} (i : Nat) (h : lw_privs[i]? = some q) (hg : goodWord (Cond.selects q.1.cls q.1 q.1) = true) : Cond.selects q.1.cls q.1 q.1 ∈ gt := List.mem_filter.mpr ⟨List.mem_append_left _ (List.mem_map.mpr ⟨q, List.mem_of_getElem? h, rfl⟩), hg⟩
theorem gta {L : List Cond} (h : L.all (fun w => decide (w ∈ tables_1) && goodWord w) = true) : ∀ w ∈ L, w ∈ gt := fun w hw => by
  have h1 := List.all_eq_true.mp h w hw
  rw [Bool.and_eq_true, decide_eq_true_eq] at h1
  exact List.mem_filter.mpr ⟨List.mem_append_right _ h1.1, h1.2⟩
abbrev R_Co : String := "PascalMachine$Code"
def F_Co : u_T := fun k => match k with
  | 0 => ("PascalMachine$Code", "operations", "[I", true)
  | 1 => ("PascalMachine$Code", "firsts", "[I", true)
  | 2 => ("PascalMachine$Code", "seconds", "[I", true)
  | 3 => ("PascalMachine$Code", "entries", "[I", true)
  | 4 => ("PascalMachine$Code", "parameters", "[I", true)
  | 5 => ("PascalMachine$Code", "references", "[I", true)
  | 6 => ("PascalMachine$Code", "size", "I", false)
  | _ => ("PascalMachine$Code", "start", "I", false)
def t_Co : Nat → FieldType := fun k => match k with
  | 0 => .array .int
  | 1 => .array .int
  | 2 => .array .int
  | 3 => .array .int
  | 4 => .array .int
  | 5 => .array .int
  | 6 => .int
  | _ => .int
theorem n_Co : ∀ a, a < 8 → ∀ b, b < 8 → a ≠ b → (F_Co a).2.1 ≠ (F_Co b).2.1 := by decide +kernel
theorem t_Co_ok : ∀ k, k < 8 → parseFieldDescriptor (F_Co k).2.2.1 = some (t_Co k) := by decide +kernel
theorem in_Co : ∀ w ∈ u_ws R_Co F_Co 8, w ∈ gt := gta (by decide +kernel)
abbrev R_Cp : String := "PascalMachine$Compiler"
def F_Cp : u_T := fun k => match k with
  | 0 => ("PascalMachine$Compiler", "tokens", "LPascalMachine$Tokens;", true)
  | 1 => ("PascalMachine$Compiler", "names", "LPascalMachine$Names;", true)
  | 2 => ("PascalMachine$Compiler", "code", "LPascalMachine$Code;", false)
  | _ => ("PascalMachine$Compiler", "faultPlace", "I", false)
def t_Cp : Nat → FieldType := fun k => match k with
  | 0 => .object "PascalMachine$Tokens"
  | 1 => .object "PascalMachine$Names"
  | 2 => .object "PascalMachine$Code"
  | _ => .int
theorem n_Cp : ∀ a, a < 4 → ∀ b, b < 4 → a ≠ b → (F_Cp a).2.1 ≠ (F_Cp b).2.1 := by decide +kernel
theorem t_Cp_ok : ∀ k, k < 4 → parseFieldDescriptor (F_Cp k).2.2.1 = some (t_Cp k) := by decide +kernel
theorem in_Cp : ∀ w ∈ u_ws R_Cp F_Cp 4, w ∈ gt := gta (by decide +kernel)
abbrev R_Mc : String := "PascalMachine$Machine"
def F_Mc : u_T := fun k => match k with
  | 0 => ("PascalMachine$Machine", "program", "LPascalMachine$Code;", false)
  | 1 => ("PascalMachine$Machine", "cells", "[I", true)
  | 2 => ("PascalMachine$Machine", "outerFrames", "[I", true)
  | 3 => ("PascalMachine$Machine", "returns", "[I", true)
  | 4 => ("PascalMachine$Machine", "stack", "[I", true)
  | 5 => ("PascalMachine$Machine", "top", "I", false)
  | 6 => ("PascalMachine$Machine", "depth", "I", false)
  | 7 => ("PascalMachine$Machine", "next", "I", false)
  | 8 => ("PascalMachine$Machine", "values", "[I", true)
  | 9 => ("PascalMachine$Machine", "written", "I", false)
  | 10 => ("PascalMachine$Machine", "lost", "I", false)
  | 11 => ("PascalMachine$Machine", "steps", "I", false)
  | _ => ("PascalMachine$Machine", "deepest", "I", false)
def t_Mc : Nat → FieldType := fun k => match k with
  | 0 => .object "PascalMachine$Code"
  | 1 => .array .int
  | 2 => .array .int
  | 3 => .array .int
  | 4 => .array .int
  | 5 => .int
  | 6 => .int
  | 7 => .int
  | 8 => .array .int
  | 9 => .int
  | 10 => .int
  | 11 => .int
  | _ => .int
theorem n_Mc : ∀ a, a < 13 → ∀ b, b < 13 → a ≠ b → (F_Mc a).2.1 ≠ (F_Mc b).2.1 := by decide +kernel
theorem t_Mc_ok : ∀ k, k < 13 → parseFieldDescriptor (F_Mc k).2.2.1 = some (t_Mc k) := by decide +kernel
theorem in_Mc : ∀ w ∈ u_ws R_Mc F_Mc 13, w ∈ gt := gta (by decide +kernel)
abbrev R_Nm : String := "PascalMachine$Names"
def F_Nm : u_T := fun k => match k with
  | 0 => ("PascalMachine$Names", "words", "[J", true)
  | 1 => ("PascalMachine$Names", "kinds", "[I", true)
  | 2 => ("PascalMachine$Names", "levels", "[I", true)
  | 3 => ("PascalMachine$Names", "numbers", "[I", true)
  | 4 => ("PascalMachine$Names", "slots", "[I", true)
  | 5 => ("PascalMachine$Names", "known", "I", false)
  | 6 => ("PascalMachine$Names", "level", "I", false)
  | 7 => ("PascalMachine$Names", "variables", "I", false)
  | _ => ("PascalMachine$Names", "procedures", "I", false)
def t_Nm : Nat → FieldType := fun k => match k with
  | 0 => .array .long
  | 1 => .array .int
  | 2 => .array .int
  | 3 => .array .int
  | 4 => .array .int
  | 5 => .int
  | 6 => .int
  | 7 => .int
  | _ => .int
theorem n_Nm : ∀ a, a < 9 → ∀ b, b < 9 → a ≠ b → (F_Nm a).2.1 ≠ (F_Nm b).2.1 := by decide +kernel
theorem t_Nm_ok : ∀ k, k < 9 → parseFieldDescriptor (F_Nm k).2.2.1 = some (t_Nm k) := by decide +kernel
theorem in_Nm : ∀ w ∈ u_ws R_Nm F_Nm 9, w ∈ gt := gta (by decide +kernel)
abbrev R_Tk : String := "PascalMachine$Tokens"
def F_Tk : u_T := fun k => match k with
  | 0 => ("PascalMachine$Tokens", "kinds", "[LPascalMachine$Kind;", true)
  | 1 => ("PascalMachine$Tokens", "places", "[I", true)
  | 2 => ("PascalMachine$Tokens", "contents", "[J", true)
  | 3 => ("PascalMachine$Tokens", "text", "[C", false)
  | 4 => ("PascalMachine$Tokens", "length", "I", false)
  | 5 => ("PascalMachine$Tokens", "end", "I", false)
  | _ => ("PascalMachine$Tokens", "current", "I", false)
def t_Tk : Nat → FieldType := fun k => match k with
  | 0 => .array (.object "PascalMachine$Kind")
  | 1 => .array .int
  | 2 => .array .long
  | 3 => .array .char
  | 4 => .int
  | 5 => .int
  | _ => .int
theorem n_Tk : ∀ a, a < 7 → ∀ b, b < 7 → a ≠ b → (F_Tk a).2.1 ≠ (F_Tk b).2.1 := by decide +kernel
theorem t_Tk_ok : ∀ k, k < 7 → parseFieldDescriptor (F_Tk k).2.2.1 = some (t_Tk k) := by decide +kernel
theorem in_Tk : ∀ w ∈ u_ws R_Tk F_Tk 7, w ∈ gt := gta (by decide +kernel)
abbrev R_PM : String := "PascalMachine"
def F_PM : u_T := fun k => match k with
  | 0 => ("PascalMachine", "text", "[C", true)
  | 1 => ("PascalMachine", "length", "I", false)
  | 2 => ("PascalMachine", "compiler", "LPascalMachine$Compiler;", true)
  | 3 => ("PascalMachine", "machine", "LPascalMachine$Machine;", true)
  | _ => ("PascalMachine", "hasProgram", "Z", false)
def t_PM : Nat → FieldType := fun k => match k with
  | 0 => .array .char
  | 1 => .int
  | 2 => .object "PascalMachine$Compiler"
  | 3 => .object "PascalMachine$Machine"
  | _ => .boolean
theorem n_PM : ∀ a, a < 5 → ∀ b, b < 5 → a ≠ b → (F_PM a).2.1 ≠ (F_PM b).2.1 := by decide +kernel
theorem t_PM_ok : ∀ k, k < 5 → parseFieldDescriptor (F_PM k).2.2.1 = some (t_PM k) := by decide +kernel
theorem in_PM : ∀ w ∈ u_ws R_PM F_PM 5, w ∈ gt := gta (by decide +kernel)
abbrev R_Mo : String := "PascalMachineModel"
def F_Mo : u_T := fun k => match k with
  | 0 => ("PascalMachineModel", "thrown", "I", false)
  | 1 => ("PascalMachineModel", "text", "[I", true)
  | 2 => ("PascalMachineModel", "length", "I", false)
  | 3 => ("PascalMachineModel", "kind", "[I", true)
  | 4 => ("PascalMachineModel", "word", "[J", true)
  | 5 => ("PascalMachineModel", "from", "[I", true)
  | 6 => ("PascalMachineModel", "to", "[I", true)
  | 7 => ("PascalMachineModel", "means", "[I", true)
  | 8 => ("PascalMachineModel", "next", "[I", true)
  | 9 => ("PascalMachineModel", "tokens", "I", false)
  | 10 => ("PascalMachineModel", "pKind", "[I", true)
  | 11 => ("PascalMachineModel", "pWord", "[I", true)
  | 12 => ("PascalMachineModel", "pMeans", "[I", true)
  | 13 => ("PascalMachineModel", "pNext", "[I", true)
  | 14 => ("PascalMachineModel", "program", "Z", false)
  | 15 => ("PascalMachineModel", "fault", "I", false)
  | 16 => ("PascalMachineModel", "name", "[J", true)
  | 17 => ("PascalMachineModel", "sort", "[I", true)
  | 18 => ("PascalMachineModel", "home", "[I", true)
  | 19 => ("PascalMachineModel", "own", "[I", true)
  | 20 => ("PascalMachineModel", "wants", "[I", true)
  | 21 => ("PascalMachineModel", "symbols", "I", false)
  | 22 => ("PascalMachineModel", "variables", "I", false)
  | 23 => ("PascalMachineModel", "procedures", "I", false)
  | 24 => ("PascalMachineModel", "around", "[I", true)
  | 25 => ("PascalMachineModel", "body", "[I", true)
  | 26 => ("PascalMachineModel", "blocks", "I", false)
  | 27 => ("PascalMachineModel", "block", "I", false)
  | 28 => ("PascalMachineModel", "pSort", "[I", true)
  | 29 => ("PascalMachineModel", "pHome", "[I", true)
  | 30 => ("PascalMachineModel", "pOwn", "[I", true)
  | 31 => ("PascalMachineModel", "pWants", "[I", true)
  | 32 => ("PascalMachineModel", "pBody", "[I", true)
  | 33 => ("PascalMachineModel", "at", "I", false)
  | 34 => ("PascalMachineModel", "wrong", "I", false)
  | 35 => ("PascalMachineModel", "within", "[I", true)
  | 36 => ("PascalMachineModel", "since", "[I", true)
  | 37 => ("PascalMachineModel", "deep", "I", false)
  | 38 => ("PascalMachineModel", "cell", "[I", true)
  | 39 => ("PascalMachineModel", "stands", "[I", true)
  | 40 => ("PascalMachineModel", "blockOf", "[I", true)
  | 41 => ("PascalMachineModel", "outer", "[I", true)
  | 42 => ("PascalMachineModel", "back", "[I", true)
  | 43 => ("PascalMachineModel", "level", "[I", true)
  | 44 => ("PascalMachineModel", "doing", "[I", true)
  | 45 => ("PascalMachineModel", "doneAt", "[I", true)
  | 46 => ("PascalMachineModel", "frame", "I", false)
  | 47 => ("PascalMachineModel", "pc", "I", false)
  | 48 => ("PascalMachineModel", "failure", "I", false)
  | 49 => ("PascalMachineModel", "steps", "I", false)
  | 50 => ("PascalMachineModel", "greatest", "I", false)
  | 51 => ("PascalMachineModel", "lost", "I", false)
  | 52 => ("PascalMachineModel", "output", "[I", true)
  | 53 => ("PascalMachineModel", "written", "I", false)
  | 54 => ("PascalMachineModel", "sum", "[I", true)
  | 55 => ("PascalMachineModel", "term", "[I", true)
  | 56 => ("PascalMachineModel", "sumSign", "[I", true)
  | 57 => ("PascalMachineModel", "termSign", "[I", true)
  | _ => ("PascalMachineModel", "given", "[I", true)
def t_Mo : Nat → FieldType := fun k => match k with
  | 0 => .int
  | 1 => .array .int
  | 2 => .int
  | 3 => .array .int
  | 4 => .array .long
  | 5 => .array .int
  | 6 => .array .int
  | 7 => .array .int
  | 8 => .array .int
  | 9 => .int
  | 10 => .array .int
  | 11 => .array .int
  | 12 => .array .int
  | 13 => .array .int
  | 14 => .boolean
  | 15 => .int
  | 16 => .array .long
  | 17 => .array .int
  | 18 => .array .int
  | 19 => .array .int
  | 20 => .array .int
  | 21 => .int
  | 22 => .int
  | 23 => .int
  | 24 => .array .int
  | 25 => .array .int
  | 26 => .int
  | 27 => .int
  | 28 => .array .int
  | 29 => .array .int
  | 30 => .array .int
  | 31 => .array .int
  | 32 => .array .int
  | 33 => .int
  | 34 => .int
  | 35 => .array .int
  | 36 => .array .int
  | 37 => .int
  | 38 => .array .int
  | 39 => .array .int
  | 40 => .array .int
  | 41 => .array .int
  | 42 => .array .int
  | 43 => .array .int
  | 44 => .array .int
  | 45 => .array .int
  | 46 => .int
  | 47 => .int
  | 48 => .int
  | 49 => .int
  | 50 => .int
  | 51 => .int
  | 52 => .array .int
  | 53 => .int
  | 54 => .array .int
  | 55 => .array .int
  | 56 => .array .int
  | 57 => .array .int
  | _ => .array .int
theorem n_Mo : ∀ a, a < 59 → ∀ b, b < 59 → a ≠ b → (F_Mo a).2.1 ≠ (F_Mo b).2.1 := by decide +kernel
theorem t_Mo_ok : ∀ k, k < 59 → parseFieldDescriptor (F_Mo k).2.2.1 = some (t_Mo k) := by decide +kernel
theorem in_Mo : ∀ w ∈ u_ws R_Mo F_Mo 59, w ∈ gt := gta (by decide +kernel)
abbrev classes : List vw_C := [(R_Co, F_Co, 8), (R_Cp, F_Cp, 4), (R_Mc, F_Mc, 13), (R_Nm, F_Nm, 9), (R_Tk, F_Tk, 7), (R_PM, F_PM, 5), (R_Mo, F_Mo, 59)]
end
section
/-! ===== the judgement of this proof: a method's walk over ONE fixed list of cells ===== -/
def Rm (h : Nat) : Room := { frames := h + 8, cells := 1, slots := 6, locals := 40 * h + 200 }
/-- where the classes and slots lie, the array classes, the places that may be written, what is constant -/
abbrev Gm : Type := va_G × List (ClassId × FieldType) × (Nat → Prop) × (State → Heap → Prop)
/-- the places that may be written are places of the list -/
def hAw (A : Nat → Prop) (ws : va_W) : Prop := ∀ q : Nat, A q → ∃ (k : Nat) (e : va_E), ws[k]? = some (q, e)
theorem hAw.set {A : Nat → Prop} {ws : va_W} {p a : Nat} {e0 e : va_E} (h : hAw A ws) (hp : ws[p]? = some (a, e0)) : hAw A (ws.set p (a, e)) := by
  intro q hq
  obtain ⟨k, e1, hk⟩ := h q hq
  have hl := (List.getElem?_eq_some_iff.mp hp).1
  by_cases hkp : k = p
  · subst hkp
    rw [hp] at hk
    cases hk
    exact ⟨k, e, List.getElem?_set_self hl⟩
  · exact ⟨k, e1, by rw [List.getElem?_set_ne (Ne.symm hkp)]; exact hk⟩
def KI (G : Gm) (ws : va_W) (U : State) (H : Heap) : Prop := va_K G.1 classes G.2.1 U ∧ va_P G.1 classes ws H ∧ va_D G.2.2.1 ws ∧ hAw G.2.2.1 ws
theorem va_at.novm {D : va_G} {cl : List vw_C} {q : Nat × va_E} {H : Heap} (h : va_at D cl q H) : ∃ cell : Cell, H[q.1]? = some cell ∧ cell.vm = .none := by
  obtain ⟨a, e⟩ := q
  cases e with
  | inl x =>
    refine ⟨_, h, ?_⟩
    obtain ⟨c, n, y⟩ := x
    rcases y with f | f | f | f | f <;> rfl
  | inr o =>
    obtain ⟨r, h1, cell, h2, h3, h4, -⟩ := h
    exact ⟨cell, h2, h4⟩
theorem KI.nost {G : Gm} {ws : va_W} {U : State} {H : Heap} (h : KI G ws U H) : ∀ (q : Nat) (cell : Cell), G.2.2.1 q → H[q]? = some cell → cell.vm.isStatics = false := by
  intro q cell hq hc
  obtain ⟨k, e, hk⟩ := h.2.2.2 q hq
  obtain ⟨c2, h1, h2⟩ := (h.2.1 k _ hk).novm
  have h1' : H[q]? = some c2 := h1
  rw [hc] at h1'
  cases h1'
  rw [h2]; rfl
def Kok (G : Gm) : Prop := (∀ (U : State) (H H1 : Heap), (∀ a : Nat, a < H.size → ¬ G.2.2.1 a → H1[a]? = H[a]?) → G.2.2.2 U H → G.2.2.2 U H1) ∧ ∀ (u U : State) (H : Heap), u.vm.Alike U.vm → G.2.2.2 u H → G.2.2.2 U H
theorem KI.moved {G : Gm} {ws : va_W} {u U : State} {H : Heap} (hvm : u.vm.Alike U.vm) (h : KI G ws u H) : KI G ws U H := ⟨va_K.moved hvm h.1, h.2⟩
/-- how a method ends: it returns a value, or it throws an object of a class -/
abbrev Oc : Type := Option Value ⊕ String
def XQ (G : Gm) (o : Oc) (ws' : va_W) : Array Value → State → Outcome → State → Prop := fun _ s0 oc t =>
  KI G ws' t t.heap ∧ va_F G.2.2.1 s0 t ∧ s0.WarmedH t.vm ∧ ∃ L : List Loc, (∀ z ∈ L, G.2.2.1 z.base) ∧
    match o with
    | .inl v => oc = .returned v ∧ s0.sameButNew ({ t with vm := s0.vm } : State) L 0 0
    | .inr E => ∃ (q : Addr) (ce : Cell), oc = .threw q ∧ t.heap[q]? = some ce ∧ ce.vm = .none ∧ s0.vm.findClass E = some ce.cls ∧ s0.sameButNew ({ t with vm := s0.vm } : State) L 1 6
def XP (G : Gm) (ws : va_W) (U : State) : Prop := Kok G ∧ KI G ws U U.heap ∧ G.2.2.2 U U.heap
/-- THE CONTRACT: from the cells ws, with the arguments av, the method ends by o with the cells ws' -/
def XC (l : Launch) (G : Gm) (h : Nat) (y : MethodName) (cc : ByteArray) (nL : Nat) (ret : Option FieldType) (av : List Value) (ws : va_W) (o : Oc) (ws' : va_W) : Prop :=
  MetFree l y (headSpec (Cond.code y cc nL ret :: gt) (Rm h)) (va_Pc av (XP G ws)) (fun _ _ _ _ _ => True) (XQ G o ws')
/-- what stands fast within a body -/
def Cx (p : Program) (s : State) (m : MethodId) (args : Array Value) (meth : Method) (c : Code) (G : Gm) (cc : ByteArray) (nL : Nat) (ret : Option FieldType) (own : String) : Prop :=
  p.tables.exec = Jvm.exec ∧ c.code = cc ∧ c.maxLocals = nL ∧ s.vm.findClass own = some m.cls ∧ (∀ w ∈ gt, w.before args s = true) ∧ meth.sig.returnType = ret ∧ meth.locks = false ∧ c.exceptionTable.isEmpty = true ∧ Kok G ∧ G.2.2.2 s s.heap ∧ ∀ (q : Nat) (cell : Cell), G.2.2.1 q → s.heap[q]? = some cell → cell.vm.isStatics = false
/-- the end of a body -/
def XE (below : List Frame) (G : Gm) (o : Oc) (ws' : va_W) (a : Array Value) (s : State) : State → Prop := fun t => ∃ oc, t.status = .running ∧ Ended t below oc ∧ XQ G o ws' a s oc t
/-- the walk stands at pc, with the locals lv, the stack sk, the cells ws -/
def V (p : Program) (l : Launch) (e : Env) (R : Room) (s : State) (m : MethodId) (args : Array Value) (below : List Frame) (meth : Method) (c : Code) (G : Gm) (nL : Nat) (cells slots : Nat) (Q : State → Prop) (ws : va_W) (pc : Nat) (lv : List (Nat × Value)) (sk : List Value) : Prop :=
  ∀ (H : Heap) (locs : List Loc) (ls : Array Slot), KI G ws s H → va_S G.2.2.1 s.heap H locs → lv_has ls nL lv → W p l e R s m args below meth c H locs cells slots Q (F0 m pc ls sk)
theorem XC.ofV {l : Launch} {G : Gm} {h : Nat} {y : MethodName} {cc : ByteArray} {nL : Nat} {ret : Option FieldType} {av : List Value} {ws : va_W} {o : Oc} {ws' : va_W} (hy : plainName y.cls = true) (hlen : Nat.ble (lg_sl av).length nL = true)
    (body : ∀ (p : Program) (e : Env) (s : State) (m : MethodId) (below : List Frame) (meth : Method) (c : Code), Cx p s m av.toArray meth c G cc nL ret y.cls → meth.name = y.name → V p l e (Rm h) s m av.toArray below meth c G nL 0 0 (XE below G o ws' av.toArray s) ws 0 (lv_args 0 av) []) :
    XC l G h y cc nL ret av ws o ws' := by
  refine MetFree.of_bodyS (code := cc) (maxLocals := nL) (ret := ret) hy ?_ ?_
  · intro args s m h hn
    obtain ⟨meth, c, h1, h2, h3, h4, h5, h6, -, -⟩ := Cond.code_spec hn (atoms_spec (ws := Cond.code y cc nL ret :: gt) h _ List.mem_cons_self)
    exact ⟨meth, c, h1, h2, h3, h4, h5, h6⟩
  · intro p e s m args below meth c s₁ B hml hP _
    obtain ⟨rfl, hk, hKI, hK⟩ := hP
    have hts0 := atoms_spec (ws := Cond.code y cc nL ret :: gt) B.pre
    have hh0 : s₁.heap = s.heap := by rw [B.state]; rfl
    have hE := B.noHandlers (hts0 _ List.mem_cons_self)
    have hl := lv_entry av (n := nL) (Nat.le_of_ble_eq_true hlen)
    have V0 := body p e s m below meth c ⟨B.exec, B.bytes, hml, findClass_of_methodNamed B.named, fun w hw => hts0 w (List.mem_cons_of_mem _ hw), B.returns, B.notSynchronized, hE, hk, hK, hKI.nost⟩ (name_of_methodNamed B.named B.method).1 s.heap [] _ hKI va_S.rf hl
    rw [← lg_entry_eq] at V0
    obtain ⟨t, a1, oc, b1, b2, b3⟩ := V0 s₁ hh0 (Stand.of_body B)
    exact ⟨t, oc, a1, b1, b2, b3⟩
/-! locals -/
def lk (lv : List (Nat × Value)) (i : Nat) : Option Value := match lv with
  | [] => none
  | q :: t => if q.1 = i then some q.2 else lk t i
theorem lk_mem {lv : List (Nat × Value)} {i : Nat} {v : Value} (h : lk lv i = some v) : (i, v) ∈ lv := by
  induction lv with
  | nil => simp [lk] at h
  | cons q t ih =>
    unfold lk at h
    split at h
    · rename_i e
      cases h; subst e
      exact List.mem_cons_self
    · exact List.mem_cons_of_mem _ (ih h)
def lins (i : Nat) (v : Value) : List (Nat × Value) → List (Nat × Value)
  | [] => [(i, v)]
  | q :: t => if i < q.1 then (i, v) :: q :: t else q :: lins i v t
theorem lins_mem {i : Nat} {v : Value} {l : List (Nat × Value)} {q : Nat × Value} (h : q ∈ lins i v l) : q = (i, v) ∨ q ∈ l := by
  induction l with
  | nil => simp [lins] at h; exact Or.inl h
  | cons a t ih =>
    unfold lins at h
    split at h
    · rcases List.mem_cons.mp h with h | h
      · exact Or.inl h
      · exact Or.inr h
    · rcases List.mem_cons.mp h with h | h
      · exact Or.inr (by rw [h]; exact List.mem_cons_self)
      · rcases ih h with h | h
        · exact Or.inl h
        · exact Or.inr (List.mem_cons_of_mem _ h)
/-- a value of one word stored at i; of two words -/
def pt (i : Nat) (v : Value) (lv : List (Nat × Value)) : List (Nat × Value) := lins i v (lv.filter (fun q => !(q.1 == i) && !(q.1 + 1 == i && q.2.category == 2)))
def pt2 (i : Nat) (v : Value) (lv : List (Nat × Value)) : List (Nat × Value) := lins i v (lv.filter (fun q => !(q.1 == i) && (!(q.1 == i + 1) && !(q.1 + 1 == i && q.2.category == 2))))
theorem lv_pt {ls : Array Slot} {nL i : Nat} {v : Value} {l : List (Nat × Value)} (h : lv_has ls nL ((i, v) :: l)) : lv_has ls nL (lins i v l) := ⟨h.1, h.2.1, fun q hq => h.2.2 q (by
  rcases lins_mem hq with h | h
  · rw [h]; exact List.mem_cons_self
  · exact List.mem_cons_of_mem _ h)⟩
theorem lv_lk {ls : Array Slot} {nL i : Nat} {v : Value} {lv : List (Nat × Value)} (h : lv_has ls nL lv) (hk : lk lv i = some v) : ls[i]? = some (.val v) := h.2.2 _ (lk_mem hk)
section VR
variable {p : Program} {l : Launch} {e : Env} {R : Room} {s : State} {m : MethodId} {args : Array Value} {below : List Frame} {meth : Method} {c : Code} {G : Gm} {nL cells slots : Nat} {Q : State → Prop} {ws ws' : va_W} {pc : Nat} {lv lv' : List (Nat × Value)} {sk rest : List Value}
variable {cc : ByteArray} {ret : Option FieldType} {own : String}
theorem V.eqw (h : ws = ws') (k : V p l e R s m args below meth c G nL cells slots Q ws' pc lv sk) : V p l e R s m args below meth c G nL cells slots Q ws pc lv sk := h ▸ k
theorem V.eqs {sk' : List Value} (h : sk = sk') (k : V p l e R s m args below meth c G nL cells slots Q ws pc lv sk') : V p l e R s m args below meth c G nL cells slots Q ws pc lv sk := h ▸ k
theorem V.eql (h : ∀ q ∈ lv', q ∈ lv) (k : V p l e R s m args below meth c G nL cells slots Q ws pc lv' sk) : V p l e R s m args below meth c G nL cells slots Q ws pc lv sk := fun H locs ls a b hl => k H locs ls a b ⟨hl.1, hl.2.1, fun q hq => hl.2.2 q (h q hq)⟩
theorem V.lvs (h : lv = lv') (k : V p l e R s m args below meth c G nL cells slots Q ws pc lv' sk) : V p l e R s m args below meth c G nL cells slots Q ws pc lv sk := h ▸ k
/-! ends -/
theorem V.vret (C : Cx p s m args meth c G cc nL none own) (hd : decode cc pc = .ok (.return_, 1)) {o : Oc} (ho : o = .inl none) (hw : ws = ws') : V p l e R s m args below meth c G nL 0 0 (XE below G o ws' args s) ws pc lv [] := by
  subst ho; subst hw
  obtain ⟨hx, hb, hml, hown, hts, hr, hlk, hE, hk, hK, hns⟩ := C
  intro H locs ls hI hS hl T hT X
  obtain ⟨t, a, oc, b1, b2, ⟨q1, q2, q3⟩, L, q4, q5⟩ := W.vret (free := G.2.2.1) (Qc := fun _ s0 oc t => oc = .returned none ∧ KI G ws t t.heap ∧ va_F G.2.2.1 s0 t) hx hb hr (fun t ht hW => ⟨rfl, by rw [ht]; exact hI.moved hW.alike, hS.F ht⟩) hS.2.2 hd hlk T hT X
  exact ⟨t, a, oc, b1, b2, q2, q3, q4.2.1, L, q5, q1, q4.2.2⟩
theorem V.iret (C : Cx p s m args meth c G cc nL (some .int) own) (hd : decode cc pc = .ok (.ireturn, 1)) {v : Int32} {o : Oc} (ho : o = .inl (some (.int v))) (hw : ws = ws') : V p l e R s m args below meth c G nL 0 0 (XE below G o ws' args s) ws pc lv [.int v] := by
  subst ho; subst hw
  obtain ⟨hx, hb, hml, hown, hts, hr, hlk, hE, hk, hK, hns⟩ := C
  intro H locs ls hI hS hl T hT X
  obtain ⟨t, a, oc, b1, b2, ⟨q1, q2, q3⟩, L, q4, q5⟩ := W.iret (free := G.2.2.1) (Qc := fun _ s0 oc t => oc = .returned (some (.int v)) ∧ KI G ws t t.heap ∧ va_F G.2.2.1 s0 t) hx hb hr (fun t ht hW => ⟨rfl, by rw [ht]; exact hI.moved hW.alike, hS.F ht⟩) hS.2.2 hd hlk T hT X
  exact ⟨t, a, oc, b1, b2, q2, q3, q4.2.1, L, q5, q1, q4.2.2⟩
theorem V.zret (C : Cx p s m args meth c G cc nL (some .boolean) own) (hd : decode cc pc = .ok (.ireturn, 1)) {v : Int32} (hv : v = 0 ∨ v = 1) {o : Oc} (ho : o = .inl (some (.int v))) (hw : ws = ws') : V p l e R s m args below meth c G nL 0 0 (XE below G o ws' args s) ws pc lv [.int v] := by
  subst ho; subst hw
  obtain ⟨hx, hb, hml, hown, hts, hr, hlk, hE, hk, hK, hns⟩ := C
  intro H locs ls hI hS hl T hT X
  have hn : narrow .boolean (.int v) = .int v := by rcases hv with rfl | rfl <;> decide +kernel
  obtain ⟨t, a, oc, b1, b2, ⟨q1, q2, q3⟩, L, q4, q5⟩ := W.zret (free := G.2.2.1) (Qc := fun _ s0 oc t => oc = .returned (some (.int v)) ∧ KI G ws t t.heap ∧ va_F G.2.2.1 s0 t) hx hb hr hn (fun t ht hW => ⟨rfl, by rw [ht]; exact hI.moved hW.alike, hS.F ht⟩) hS.2.2 hd hlk T hT X
  exact ⟨t, a, oc, b1, b2, q2, q3, q4.2.1, L, q5, q1, q4.2.2⟩
theorem V.lret (C : Cx p s m args meth c G cc nL (some .long) own) (hd : decode cc pc = .ok (.lreturn, 1)) {v : Int64} {o : Oc} (ho : o = .inl (some (.long v))) (hw : ws = ws') : V p l e R s m args below meth c G nL 0 0 (XE below G o ws' args s) ws pc lv [.long v] := by
  subst ho; subst hw
  obtain ⟨hx, hb, hml, hown, hts, hr, hlk, hE, hk, hK, hns⟩ := C
  intro H locs ls hI hS hl T hT X
  obtain ⟨t, a, oc, b1, b2, ⟨q1, q2, q3⟩, L, q4, q5⟩ := W.lret (free := G.2.2.1) (Qc := fun _ s0 oc t => oc = .returned (some (.long v)) ∧ KI G ws t t.heap ∧ va_F G.2.2.1 s0 t) hx hb hr (fun t ht hW => ⟨rfl, by rw [ht]; exact hI.moved hW.alike, hS.F ht⟩) hS.2.2 hd hlk T hT X
  exact ⟨t, a, oc, b1, b2, q2, q3, q4.2.1, L, q5, q1, q4.2.2⟩
theorem V.aret {nm : String} (C : Cx p s m args meth c G cc nL (some (.object nm)) own) (hd : decode cc pc = .ok (.areturn, 1)) {v : Nat} {o : Oc} (ho : o = .inl (some (.ref v))) (hw : ws = ws') : V p l e R s m args below meth c G nL 0 0 (XE below G o ws' args s) ws pc lv [.ref v] := by
  subst ho; subst hw
  obtain ⟨hx, hb, hml, hown, hts, hr, hlk, hE, hk, hK, hns⟩ := C
  intro H locs ls hI hS hl T hT X
  obtain ⟨t, a, oc, b1, b2, ⟨q1, q2, q3⟩, L, q4, q5⟩ := W.aret (free := G.2.2.1) (v := .ref v) (Qc := fun _ s0 oc t => oc = .returned (some (.ref v)) ∧ KI G ws t t.heap ∧ va_F G.2.2.1 s0 t) hx hb hr (Or.inl ⟨_, rfl⟩) (Or.inr ⟨_, rfl⟩) (fun t ht hW => ⟨rfl, by rw [ht]; exact hI.moved hW.alike, hS.F ht⟩) hS.2.2 hd hlk T hT X
  exact ⟨t, a, oc, b1, b2, q2, q3, q4.2.1, L, q5, q1, q4.2.2⟩
end VR
end
section
/-! ===== an instruction, a row, over V ===== -/
/-- a truth as the machine has it -/
def bI (b : Bool) : Int32 := if b then nI 1 else nI 0
section VS
variable {p : Program} {l : Launch} {e : Env} {R : Room} {s : State} {m : MethodId} {args : Array Value} {below : List Frame} {meth : Method} {c : Code} {G : Gm} {nL cells slots : Nat} {Q : State → Prop} {ws ws' : va_W} {pc : Nat} {lv lv' : List (Nat × Value)} {sk rest : List Value}
variable {cc : ByteArray} {ret : Option FieldType} {own : String}
theorem V.iconst (C : Cx p s m args meth c G cc nL ret own) {n : Int} {v : Int32} (hv : Int32.ofInt n = v) (hd : decode cc pc = .ok (.iconst n, 1)) (kk : V p l e R s m args below meth c G nL cells slots Q ws (pc + 1) lv (.int v :: sk)) : V p l e R s m args below meth c G nL cells slots Q ws pc lv (sk) := by
  obtain ⟨hx, hb, hml, hown, hts, hr, hlk, hE, hk, hK, hns⟩ := C
  intro H locs ls hI hS hl
  exact lv_iconst hx hb hd hv (kk H locs ls hI hS hl)
theorem V.bipush (C : Cx p s m args meth c G cc nL ret own) {n : Int} {v : Int32} (hv : (Int8.ofInt n).toInt32 = v) (hd : decode cc pc = .ok (.bipush n, 2)) (kk : V p l e R s m args below meth c G nL cells slots Q ws (pc + 2) lv (.int v :: sk)) : V p l e R s m args below meth c G nL cells slots Q ws pc lv (sk) := by
  obtain ⟨hx, hb, hml, hown, hts, hr, hlk, hE, hk, hK, hns⟩ := C
  intro H locs ls hI hS hl
  exact lv_bipush hx hb hd hv (kk H locs ls hI hS hl)
theorem V.sipush (C : Cx p s m args meth c G cc nL ret own) {n : Int} {v : Int32} (hv : (Int16.ofInt n).toInt32 = v) (hd : decode cc pc = .ok (.sipush n, 3)) (kk : V p l e R s m args below meth c G nL cells slots Q ws (pc + 3) lv (.int v :: sk)) : V p l e R s m args below meth c G nL cells slots Q ws pc lv (sk) := by
  obtain ⟨hx, hb, hml, hown, hts, hr, hlk, hE, hk, hK, hns⟩ := C
  intro H locs ls hI hS hl
  exact lv_sipush hx hb hd hv (kk H locs ls hI hS hl)
theorem V.lconst (C : Cx p s m args meth c G cc nL ret own) {n : Fin 2} {v : Int64} (hv : Int64.ofNat (n : Nat) = v) (hd : decode cc pc = .ok (.lconst n, 1)) (kk : V p l e R s m args below meth c G nL cells slots Q ws (pc + 1) lv (.long v :: sk)) : V p l e R s m args below meth c G nL cells slots Q ws pc lv (sk) := by
  obtain ⟨hx, hb, hml, hown, hts, hr, hlk, hE, hk, hK, hns⟩ := C
  intro H locs ls hI hS hl
  exact lv_lconst hx hb hd hv (kk H locs ls hI hS hl)
theorem V.ldc (C : Cx p s m args meth c G cc nL ret own) {i : Nat} {v : Int32} (hw : Cond.constant own i v ∈ gt) (hd : decode cc pc = .ok (.ldc i, 2)) (kk : V p l e R s m args below meth c G nL cells slots Q ws (pc + 2) lv (.int v :: sk)) : V p l e R s m args below meth c G nL cells slots Q ws pc lv (sk) := by
  obtain ⟨hx, hb, hml, hown, hts, hr, hlk, hE, hk, hK, hns⟩ := C
  intro H locs ls hI hS hl
  exact lv_ldc hx hb hown (hts _ hw) hd (kk H locs ls hI hS hl)
theorem V.ldc2 (C : Cx p s m args meth c G cc nL ret own) {i : Nat} {v : Int64} (hw : Cond.constantLong own i v ∈ gt) (hd : decode cc pc = .ok (.ldc2_w i, 3)) (kk : V p l e R s m args below meth c G nL cells slots Q ws (pc + 3) lv (.long v :: sk)) : V p l e R s m args below meth c G nL cells slots Q ws pc lv (sk) := by
  obtain ⟨hx, hb, hml, hown, hts, hr, hlk, hE, hk, hK, hns⟩ := C
  intro H locs ls hI hS hl
  exact lv_ldc2 hx hb hown (hts _ hw) hd (kk H locs ls hI hS hl)
theorem V.iload_n (C : Cx p s m args meth c G cc nL ret own) {k : Fin 4} {x : Int32} (hv : lk lv k = some (.int x)) (hd : decode cc pc = .ok (.iload_n k, 1)) (kk : V p l e R s m args below meth c G nL cells slots Q ws (pc + 1) lv (.int x :: sk)) : V p l e R s m args below meth c G nL cells slots Q ws pc lv (sk) := by
  obtain ⟨hx, hb, hml, hown, hts, hr, hlk, hE, hk, hK, hns⟩ := C
  intro H locs ls hI hS hl
  exact lv_iload_n hx hb hd rfl (lv_lk hl hv) (kk H locs ls hI hS hl)
theorem V.iload (C : Cx p s m args meth c G cc nL ret own) {i : Nat} {x : Int32} (hv : lk lv i = some (.int x)) (hd : decode cc pc = .ok (.iload i, 2)) (kk : V p l e R s m args below meth c G nL cells slots Q ws (pc + 2) lv (.int x :: sk)) : V p l e R s m args below meth c G nL cells slots Q ws pc lv (sk) := by
  obtain ⟨hx, hb, hml, hown, hts, hr, hlk, hE, hk, hK, hns⟩ := C
  intro H locs ls hI hS hl
  exact lv_iload hx hb hd (lv_lk hl hv) (kk H locs ls hI hS hl)
theorem V.istore_n (C : Cx p s m args meth c G cc nL ret own) {k : Fin 4} {x : Int32} (hn : (k : Nat) < nL) (hv : pt k (.int x) lv = lv') (hd : decode cc pc = .ok (.istore_n k, 1)) (kk : V p l e R s m args below meth c G nL cells slots Q ws (pc + 1) lv' (sk)) : V p l e R s m args below meth c G nL cells slots Q ws pc lv (.int x :: sk) := by
  obtain ⟨hx, hb, hml, hown, hts, hr, hlk, hE, hk, hK, hns⟩ := C
  intro H locs ls hI hS hl
  subst hv
  exact lv_istore_n hx hb hd rfl hl hn rfl (fun ls' hl' => kk H locs ls' hI hS (lv_pt hl'))
theorem V.istore (C : Cx p s m args meth c G cc nL ret own) {i : Nat} {x : Int32} (hn : i < nL) (hv : pt i (.int x) lv = lv') (hd : decode cc pc = .ok (.istore i, 2)) (kk : V p l e R s m args below meth c G nL cells slots Q ws (pc + 2) lv' (sk)) : V p l e R s m args below meth c G nL cells slots Q ws pc lv (.int x :: sk) := by
  obtain ⟨hx, hb, hml, hown, hts, hr, hlk, hE, hk, hK, hns⟩ := C
  intro H locs ls hI hS hl
  subst hv
  exact lv_istore hx hb hd hl hn rfl (fun ls' hl' => kk H locs ls' hI hS (lv_pt hl'))
theorem V.lload_n (C : Cx p s m args meth c G cc nL ret own) {k : Fin 4} {x : Int64} (hv : lk lv k = some (.long x)) (hd : decode cc pc = .ok (.lload_n k, 1)) (kk : V p l e R s m args below meth c G nL cells slots Q ws (pc + 1) lv (.long x :: sk)) : V p l e R s m args below meth c G nL cells slots Q ws pc lv (sk) := by
  obtain ⟨hx, hb, hml, hown, hts, hr, hlk, hE, hk, hK, hns⟩ := C
  intro H locs ls hI hS hl
  exact lv_lload_n hx hb hd rfl (lv_lk hl hv) (kk H locs ls hI hS hl)
theorem V.lload (C : Cx p s m args meth c G cc nL ret own) {i : Nat} {x : Int64} (hv : lk lv i = some (.long x)) (hd : decode cc pc = .ok (.lload i, 2)) (kk : V p l e R s m args below meth c G nL cells slots Q ws (pc + 2) lv (.long x :: sk)) : V p l e R s m args below meth c G nL cells slots Q ws pc lv (sk) := by
  obtain ⟨hx, hb, hml, hown, hts, hr, hlk, hE, hk, hK, hns⟩ := C
  intro H locs ls hI hS hl
  exact lv_lload hx hb hd (lv_lk hl hv) (kk H locs ls hI hS hl)
theorem V.lstore_n (C : Cx p s m args meth c G cc nL ret own) {k : Fin 4} {x : Int64} (hn : (k : Nat) + 1 < nL) (hv : pt2 k (.long x) lv = lv') (hd : decode cc pc = .ok (.lstore_n k, 1)) (kk : V p l e R s m args below meth c G nL cells slots Q ws (pc + 1) lv' (sk)) : V p l e R s m args below meth c G nL cells slots Q ws pc lv (.long x :: sk) := by
  obtain ⟨hx, hb, hml, hown, hts, hr, hlk, hE, hk, hK, hns⟩ := C
  intro H locs ls hI hS hl
  subst hv
  exact lv_lstore_n hx hb hd rfl hl hn rfl (fun ls' hl' => kk H locs ls' hI hS (lv_pt hl'))
theorem V.lstore (C : Cx p s m args meth c G cc nL ret own) {i : Nat} {x : Int64} (hn : i + 1 < nL) (hv : pt2 i (.long x) lv = lv') (hd : decode cc pc = .ok (.lstore i, 2)) (kk : V p l e R s m args below meth c G nL cells slots Q ws (pc + 2) lv' (sk)) : V p l e R s m args below meth c G nL cells slots Q ws pc lv (.long x :: sk) := by
  obtain ⟨hx, hb, hml, hown, hts, hr, hlk, hE, hk, hK, hns⟩ := C
  intro H locs ls hI hS hl
  subst hv
  exact lv_lstore hx hb hd hl hn rfl (fun ls' hl' => kk H locs ls' hI hS (lv_pt hl'))
theorem V.aload_n (C : Cx p s m args meth c G cc nL ret own) {k : Fin 4} {x : Nat} (hv : lk lv k = some (.ref x)) (hd : decode cc pc = .ok (.aload_n k, 1)) (kk : V p l e R s m args below meth c G nL cells slots Q ws (pc + 1) lv (.ref x :: sk)) : V p l e R s m args below meth c G nL cells slots Q ws pc lv (sk) := by
  obtain ⟨hx, hb, hml, hown, hts, hr, hlk, hE, hk, hK, hns⟩ := C
  intro H locs ls hI hS hl
  exact lv_aload_n hx hb hd rfl (lv_lk hl hv) (kk H locs ls hI hS hl)
theorem V.aload (C : Cx p s m args meth c G cc nL ret own) {i : Nat} {x : Nat} (hv : lk lv i = some (.ref x)) (hd : decode cc pc = .ok (.aload i, 2)) (kk : V p l e R s m args below meth c G nL cells slots Q ws (pc + 2) lv (.ref x :: sk)) : V p l e R s m args below meth c G nL cells slots Q ws pc lv (sk) := by
  obtain ⟨hx, hb, hml, hown, hts, hr, hlk, hE, hk, hK, hns⟩ := C
  intro H locs ls hI hS hl
  exact lv_aload hx hb hd (lv_lk hl hv) (kk H locs ls hI hS hl)
theorem V.astore_n (C : Cx p s m args meth c G cc nL ret own) {k : Fin 4} {x : Nat} (hn : (k : Nat) < nL) (hv : pt k (.ref x) lv = lv') (hd : decode cc pc = .ok (.astore_n k, 1)) (kk : V p l e R s m args below meth c G nL cells slots Q ws (pc + 1) lv' (sk)) : V p l e R s m args below meth c G nL cells slots Q ws pc lv (.ref x :: sk) := by
  obtain ⟨hx, hb, hml, hown, hts, hr, hlk, hE, hk, hK, hns⟩ := C
  intro H locs ls hI hS hl
  subst hv
  exact lv_astore_n hx hb hd rfl hl hn rfl (fun ls' hl' => kk H locs ls' hI hS (lv_pt hl'))
theorem V.astore (C : Cx p s m args meth c G cc nL ret own) {i : Nat} {x : Nat} (hn : i < nL) (hv : pt i (.ref x) lv = lv') (hd : decode cc pc = .ok (.astore i, 2)) (kk : V p l e R s m args below meth c G nL cells slots Q ws (pc + 2) lv' (sk)) : V p l e R s m args below meth c G nL cells slots Q ws pc lv (.ref x :: sk) := by
  obtain ⟨hx, hb, hml, hown, hts, hr, hlk, hE, hk, hK, hns⟩ := C
  intro H locs ls hI hS hl
  subst hv
  exact lv_astore hx hb hd hl hn rfl (fun ls' hl' => kk H locs ls' hI hS (lv_pt hl'))
theorem V.iinc (C : Cx p s m args meth c G cc nL ret own) {i : Nat} {n : Int} {x v : Int32} (hv0 : lk lv i = some (.int x)) (hv1 : x + Int32.ofInt n = v) (hn : i < nL) (hv : pt i (.int v) lv = lv') (hd : decode cc pc = .ok (.iinc i n, 3)) (kk : V p l e R s m args below meth c G nL cells slots Q ws (pc + 3) lv' (sk)) : V p l e R s m args below meth c G nL cells slots Q ws pc lv (sk) := by
  obtain ⟨hx, hb, hml, hown, hts, hr, hlk, hE, hk, hK, hns⟩ := C
  intro H locs ls hI hS hl
  subst hv
  obtain ⟨k, hk⟩ := List.getElem?_of_mem (lk_mem hv0)
  exact lv_iinc hx hb hd hl hk hv1 hn rfl (fun ls' hl' => kk H locs ls' hI hS (lv_pt hl'))
theorem V.iadd (C : Cx p s m args meth c G cc nL ret own) {x y v : Int32} (hv : x + y = v) (hd : decode cc pc = .ok (.iadd, 1)) (kk : V p l e R s m args below meth c G nL cells slots Q ws (pc + 1) lv (.int v :: sk)) : V p l e R s m args below meth c G nL cells slots Q ws pc lv (.int y :: .int x :: sk) := by
  obtain ⟨hx, hb, hml, hown, hts, hr, hlk, hE, hk, hK, hns⟩ := C
  intro H locs ls hI hS hl
  subst hv
  exact lv_iadd hx hb hd (kk H locs ls hI hS hl)
theorem V.isub (C : Cx p s m args meth c G cc nL ret own) {x y v : Int32} (hv : x - y = v) (hd : decode cc pc = .ok (.isub, 1)) (kk : V p l e R s m args below meth c G nL cells slots Q ws (pc + 1) lv (.int v :: sk)) : V p l e R s m args below meth c G nL cells slots Q ws pc lv (.int y :: .int x :: sk) := by
  obtain ⟨hx, hb, hml, hown, hts, hr, hlk, hE, hk, hK, hns⟩ := C
  intro H locs ls hI hS hl
  subst hv
  exact lv_isub hx hb hd (kk H locs ls hI hS hl)
theorem V.imul (C : Cx p s m args meth c G cc nL ret own) {x y v : Int32} (hv : x * y = v) (hd : decode cc pc = .ok (.imul, 1)) (kk : V p l e R s m args below meth c G nL cells slots Q ws (pc + 1) lv (.int v :: sk)) : V p l e R s m args below meth c G nL cells slots Q ws pc lv (.int y :: .int x :: sk) := by
  obtain ⟨hx, hb, hml, hown, hts, hr, hlk, hE, hk, hK, hns⟩ := C
  intro H locs ls hI hS hl
  subst hv
  exact lv_imul hx hb hd (kk H locs ls hI hS hl)
theorem V.iand (C : Cx p s m args meth c G cc nL ret own) {x y v : Int32} (hv : x &&& y = v) (hd : decode cc pc = .ok (.iand, 1)) (kk : V p l e R s m args below meth c G nL cells slots Q ws (pc + 1) lv (.int v :: sk)) : V p l e R s m args below meth c G nL cells slots Q ws pc lv (.int y :: .int x :: sk) := by
  obtain ⟨hx, hb, hml, hown, hts, hr, hlk, hE, hk, hK, hns⟩ := C
  intro H locs ls hI hS hl
  subst hv
  exact lv_iand hx hb hd (kk H locs ls hI hS hl)
theorem V.ior (C : Cx p s m args meth c G cc nL ret own) {x y v : Int32} (hv : x ||| y = v) (hd : decode cc pc = .ok (.ior, 1)) (kk : V p l e R s m args below meth c G nL cells slots Q ws (pc + 1) lv (.int v :: sk)) : V p l e R s m args below meth c G nL cells slots Q ws pc lv (.int y :: .int x :: sk) := by
  obtain ⟨hx, hb, hml, hown, hts, hr, hlk, hE, hk, hK, hns⟩ := C
  intro H locs ls hI hS hl
  subst hv
  exact lv_ior hx hb hd (kk H locs ls hI hS hl)
theorem V.ishl (C : Cx p s m args meth c G cc nL ret own) {x y v : Int32} (hv : x <<< (y &&& 31) = v) (hd : decode cc pc = .ok (.ishl, 1)) (kk : V p l e R s m args below meth c G nL cells slots Q ws (pc + 1) lv (.int v :: sk)) : V p l e R s m args below meth c G nL cells slots Q ws pc lv (.int y :: .int x :: sk) := by
  obtain ⟨hx, hb, hml, hown, hts, hr, hlk, hE, hk, hK, hns⟩ := C
  intro H locs ls hI hS hl
  subst hv
  exact lv_ishl hx hb hd (kk H locs ls hI hS hl)
theorem V.ishr (C : Cx p s m args meth c G cc nL ret own) {x y v : Int32} (hv : x >>> (y &&& 31) = v) (hd : decode cc pc = .ok (.ishr, 1)) (kk : V p l e R s m args below meth c G nL cells slots Q ws (pc + 1) lv (.int v :: sk)) : V p l e R s m args below meth c G nL cells slots Q ws pc lv (.int y :: .int x :: sk) := by
  obtain ⟨hx, hb, hml, hown, hts, hr, hlk, hE, hk, hK, hns⟩ := C
  intro H locs ls hI hS hl
  subst hv
  exact lv_ishr hx hb hd (kk H locs ls hI hS hl)
theorem V.idiv (C : Cx p s m args meth c G cc nL ret own) {x y v : Int32} (hne : ¬ y = 0) (hv : x / y = v) (hd : decode cc pc = .ok (.idiv, 1)) (kk : V p l e R s m args below meth c G nL cells slots Q ws (pc + 1) lv (.int v :: sk)) : V p l e R s m args below meth c G nL cells slots Q ws pc lv (.int y :: .int x :: sk) := by
  obtain ⟨hx, hb, hml, hown, hts, hr, hlk, hE, hk, hK, hns⟩ := C
  intro H locs ls hI hS hl
  subst hv
  exact lv_idiv hx hb hd hne (kk H locs ls hI hS hl)
theorem V.irem (C : Cx p s m args meth c G cc nL ret own) {x y v : Int32} (hne : ¬ y = 0) (hv : x - x / y * y = v) (hd : decode cc pc = .ok (.irem, 1)) (kk : V p l e R s m args below meth c G nL cells slots Q ws (pc + 1) lv (.int v :: sk)) : V p l e R s m args below meth c G nL cells slots Q ws pc lv (.int y :: .int x :: sk) := by
  obtain ⟨hx, hb, hml, hown, hts, hr, hlk, hE, hk, hK, hns⟩ := C
  intro H locs ls hI hS hl
  subst hv
  exact lv_irem hx hb hd hne (kk H locs ls hI hS hl)
theorem V.ineg (C : Cx p s m args meth c G cc nL ret own) {x v : Int32} (hv : -x = v) (hd : decode cc pc = .ok (.ineg, 1)) (kk : V p l e R s m args below meth c G nL cells slots Q ws (pc + 1) lv (.int v :: sk)) : V p l e R s m args below meth c G nL cells slots Q ws pc lv (.int x :: sk) := by
  obtain ⟨hx, hb, hml, hown, hts, hr, hlk, hE, hk, hK, hns⟩ := C
  intro H locs ls hI hS hl
  subst hv
  exact lv_ineg hx hb hd (kk H locs ls hI hS hl)
theorem V.ladd (C : Cx p s m args meth c G cc nL ret own) {x y v : Int64} (hv : x + y = v) (hd : decode cc pc = .ok (.ladd, 1)) (kk : V p l e R s m args below meth c G nL cells slots Q ws (pc + 1) lv (.long v :: sk)) : V p l e R s m args below meth c G nL cells slots Q ws pc lv (.long y :: .long x :: sk) := by
  obtain ⟨hx, hb, hml, hown, hts, hr, hlk, hE, hk, hK, hns⟩ := C
  intro H locs ls hI hS hl
  subst hv
  exact lv_ladd hx hb hd (kk H locs ls hI hS hl)
theorem V.lsub (C : Cx p s m args meth c G cc nL ret own) {x y v : Int64} (hv : x - y = v) (hd : decode cc pc = .ok (.lsub, 1)) (kk : V p l e R s m args below meth c G nL cells slots Q ws (pc + 1) lv (.long v :: sk)) : V p l e R s m args below meth c G nL cells slots Q ws pc lv (.long y :: .long x :: sk) := by
  obtain ⟨hx, hb, hml, hown, hts, hr, hlk, hE, hk, hK, hns⟩ := C
  intro H locs ls hI hS hl
  subst hv
  exact lv_lsub hx hb hd (kk H locs ls hI hS hl)
theorem V.lmul (C : Cx p s m args meth c G cc nL ret own) {x y v : Int64} (hv : x * y = v) (hd : decode cc pc = .ok (.lmul, 1)) (kk : V p l e R s m args below meth c G nL cells slots Q ws (pc + 1) lv (.long v :: sk)) : V p l e R s m args below meth c G nL cells slots Q ws pc lv (.long y :: .long x :: sk) := by
  obtain ⟨hx, hb, hml, hown, hts, hr, hlk, hE, hk, hK, hns⟩ := C
  intro H locs ls hI hS hl
  subst hv
  exact lv_lmul hx hb hd (kk H locs ls hI hS hl)
theorem V.land (C : Cx p s m args meth c G cc nL ret own) {x y v : Int64} (hv : x &&& y = v) (hd : decode cc pc = .ok (.land, 1)) (kk : V p l e R s m args below meth c G nL cells slots Q ws (pc + 1) lv (.long v :: sk)) : V p l e R s m args below meth c G nL cells slots Q ws pc lv (.long y :: .long x :: sk) := by
  obtain ⟨hx, hb, hml, hown, hts, hr, hlk, hE, hk, hK, hns⟩ := C
  intro H locs ls hI hS hl
  subst hv
  exact lv_land hx hb hd (kk H locs ls hI hS hl)
theorem V.lor (C : Cx p s m args meth c G cc nL ret own) {x y v : Int64} (hv : x ||| y = v) (hd : decode cc pc = .ok (.lor, 1)) (kk : V p l e R s m args below meth c G nL cells slots Q ws (pc + 1) lv (.long v :: sk)) : V p l e R s m args below meth c G nL cells slots Q ws pc lv (.long y :: .long x :: sk) := by
  obtain ⟨hx, hb, hml, hown, hts, hr, hlk, hE, hk, hK, hns⟩ := C
  intro H locs ls hI hS hl
  subst hv
  exact lv_lor hx hb hd (kk H locs ls hI hS hl)
theorem V.lshl (C : Cx p s m args meth c G cc nL ret own) {x v : Int64} {y : Int32} (hv : x <<< (y.toInt64 &&& 63) = v) (hd : decode cc pc = .ok (.lshl, 1)) (kk : V p l e R s m args below meth c G nL cells slots Q ws (pc + 1) lv (.long v :: sk)) : V p l e R s m args below meth c G nL cells slots Q ws pc lv (.int y :: .long x :: sk) := by
  obtain ⟨hx, hb, hml, hown, hts, hr, hlk, hE, hk, hK, hns⟩ := C
  intro H locs ls hI hS hl
  exact lv_lshl hx hb hd hv (kk H locs ls hI hS hl)
theorem V.lshr (C : Cx p s m args meth c G cc nL ret own) {x v : Int64} {y : Int32} (hv : x >>> (y.toInt64 &&& 63) = v) (hd : decode cc pc = .ok (.lshr, 1)) (kk : V p l e R s m args below meth c G nL cells slots Q ws (pc + 1) lv (.long v :: sk)) : V p l e R s m args below meth c G nL cells slots Q ws pc lv (.int y :: .long x :: sk) := by
  obtain ⟨hx, hb, hml, hown, hts, hr, hlk, hE, hk, hK, hns⟩ := C
  intro H locs ls hI hS hl
  exact lv_lshr hx hb hd hv (kk H locs ls hI hS hl)
theorem V.lushr (C : Cx p s m args meth c G cc nL ret own) {x v : Int64} {y : Int32} (hv : (x.toUInt64 >>> (y.toInt64.toUInt64 &&& Int64.toUInt64 63)).toInt64 = v) (hd : decode cc pc = .ok (.lushr, 1)) (kk : V p l e R s m args below meth c G nL cells slots Q ws (pc + 1) lv (.long v :: sk)) : V p l e R s m args below meth c G nL cells slots Q ws pc lv (.int y :: .long x :: sk) := by
  obtain ⟨hx, hb, hml, hown, hts, hr, hlk, hE, hk, hK, hns⟩ := C
  intro H locs ls hI hS hl
  exact lv_lushr hx hb hd hv (kk H locs ls hI hS hl)
theorem V.i2l (C : Cx p s m args meth c G cc nL ret own) {x : Int32} {v : Int64} (hv : x.toInt64 = v) (hd : decode cc pc = .ok (.i2l, 1)) (kk : V p l e R s m args below meth c G nL cells slots Q ws (pc + 1) lv (.long v :: sk)) : V p l e R s m args below meth c G nL cells slots Q ws pc lv (.int x :: sk) := by
  obtain ⟨hx, hb, hml, hown, hts, hr, hlk, hE, hk, hK, hns⟩ := C
  intro H locs ls hI hS hl
  exact lv_i2l hx hb hd hv (kk H locs ls hI hS hl)
theorem V.l2i (C : Cx p s m args meth c G cc nL ret own) {x : Int64} {v : Int32} (hv : x.toInt32 = v) (hd : decode cc pc = .ok (.l2i, 1)) (kk : V p l e R s m args below meth c G nL cells slots Q ws (pc + 1) lv (.int v :: sk)) : V p l e R s m args below meth c G nL cells slots Q ws pc lv (.long x :: sk) := by
  obtain ⟨hx, hb, hml, hown, hts, hr, hlk, hE, hk, hK, hns⟩ := C
  intro H locs ls hI hS hl
  exact lv_l2i hx hb hd hv (kk H locs ls hI hS hl)
theorem V.i2c (C : Cx p s m args meth c G cc nL ret own) {x v : Int32} (hv : (x.toUInt32 % 65536).toInt32 = v) (hd : decode cc pc = .ok (.i2c, 1)) (kk : V p l e R s m args below meth c G nL cells slots Q ws (pc + 1) lv (.int v :: sk)) : V p l e R s m args below meth c G nL cells slots Q ws pc lv (.int x :: sk) := by
  obtain ⟨hx, hb, hml, hown, hts, hr, hlk, hE, hk, hK, hns⟩ := C
  intro H locs ls hI hS hl
  exact lv_i2c hx hb hd hv (kk H locs ls hI hS hl)
theorem V.lcmp (C : Cx p s m args meth c G cc nL ret own) {x y : Int64} {v : Int32} (hv : lg_cmp x y = v) (hd : decode cc pc = .ok (.lcmp, 1)) (kk : V p l e R s m args below meth c G nL cells slots Q ws (pc + 1) lv (.int v :: sk)) : V p l e R s m args below meth c G nL cells slots Q ws pc lv (.long y :: .long x :: sk) := by
  obtain ⟨hx, hb, hml, hown, hts, hr, hlk, hE, hk, hK, hns⟩ := C
  intro H locs ls hI hS hl
  subst hv
  exact W.lcmp hx hb hd (kk H locs ls hI hS hl)
theorem V.dup (C : Cx p s m args meth c G cc nL ret own) {a : Value} (ha : a.category = 1) (hd : decode cc pc = .ok (.dup, 1)) (kk : V p l e R s m args below meth c G nL cells slots Q ws (pc + 1) lv (a :: a :: sk)) : V p l e R s m args below meth c G nL cells slots Q ws pc lv (a :: sk) := by
  obtain ⟨hx, hb, hml, hown, hts, hr, hlk, hE, hk, hK, hns⟩ := C
  intro H locs ls hI hS hl
  exact lv_dup hx hb hd ha (kk H locs ls hI hS hl)
theorem V.pop (C : Cx p s m args meth c G cc nL ret own) {a : Value} (ha : a.category = 1) (hd : decode cc pc = .ok (.pop, 1)) (kk : V p l e R s m args below meth c G nL cells slots Q ws (pc + 1) lv (sk)) : V p l e R s m args below meth c G nL cells slots Q ws pc lv (a :: sk) := by
  obtain ⟨hx, hb, hml, hown, hts, hr, hlk, hE, hk, hK, hns⟩ := C
  intro H locs ls hI hS hl
  exact lv_pop hx hb hd ha (kk H locs ls hI hS hl)
theorem V.dup2 (C : Cx p s m args meth c G cc nL ret own) {a b : Value} (ha : a.category = 1) (hb0 : b.category = 1) (hd : decode cc pc = .ok (.dup2, 1)) (kk : V p l e R s m args below meth c G nL cells slots Q ws (pc + 1) lv (a :: b :: a :: b :: sk)) : V p l e R s m args below meth c G nL cells slots Q ws pc lv (a :: b :: sk) := by
  obtain ⟨hx, hb, hml, hown, hts, hr, hlk, hE, hk, hK, hns⟩ := C
  intro H locs ls hI hS hl
  exact lv_dup2_11 hx hb hd ha hb0 (kk H locs ls hI hS hl)
theorem V.goto (C : Cx p s m args meth c G cc nL ret own) {off : Int} {tgt : Nat} (hd : decode cc pc = .ok (.goto off, 3)) (ht : (pc : Int) + off = (tgt : Int)) (kk : V p l e R s m args below meth c G nL cells slots Q ws tgt lv sk) : V p l e R s m args below meth c G nL cells slots Q ws pc lv sk := by
  obtain ⟨hx, hb, hml, hown, hts, hr, hlk, hE, hk, hK, hns⟩ := C
  intro H locs ls hI hS hl
  exact lv_goto hx hb hd ht (kk H locs ls hI hS hl)
theorem V.if_eq (C : Cx p s m args meth c G cc nL ret own) {x : Int32} {off : Int} {tgt : Nat} (hd : decode cc pc = .ok (.ifCond .eq off, 3)) (ht : (pc : Int) + off = (tgt : Int)) (kt : x = 0 → V p l e R s m args below meth c G nL cells slots Q ws tgt lv sk) (kf : ¬ x = 0 → V p l e R s m args below meth c G nL cells slots Q ws (pc + 3) lv sk) : V p l e R s m args below meth c G nL cells slots Q ws pc lv (.int x :: sk) := by
  obtain ⟨hx, hb, hml, hown, hts, hr, hlk, hE, hk, hK, hns⟩ := C
  intro H locs ls hI hS hl
  exact lv_if_eq hx hb hd ht (fun h => kt h H locs ls hI hS hl) (fun h => kf h H locs ls hI hS hl)
theorem V.icmp_eq (C : Cx p s m args meth c G cc nL ret own) {x y : Int32} {off : Int} {tgt : Nat} (hd : decode cc pc = .ok (.if_icmp .eq off, 3)) (ht : (pc : Int) + off = (tgt : Int)) (kt : x = y → V p l e R s m args below meth c G nL cells slots Q ws tgt lv sk) (kf : ¬ x = y → V p l e R s m args below meth c G nL cells slots Q ws (pc + 3) lv sk) : V p l e R s m args below meth c G nL cells slots Q ws pc lv (.int y :: .int x :: sk) := by
  obtain ⟨hx, hb, hml, hown, hts, hr, hlk, hE, hk, hK, hns⟩ := C
  intro H locs ls hI hS hl
  exact lv_icmp_eq hx hb hd ht (fun h => kt h H locs ls hI hS hl) (fun h => kf h H locs ls hI hS hl)
theorem V.cmpN_eq (C : Cx p s m args meth c G cc nL ret own) {a b : Nat} {off : Int} {tgt : Nat} (hd : decode cc pc = .ok (.if_icmp .eq off, 3)) (ht : (pc : Int) + off = (tgt : Int)) (ha : a < 2 ^ 31) (hb0 : b < 2 ^ 31) (kt : a = b → V p l e R s m args below meth c G nL cells slots Q ws tgt lv sk) (kf : a ≠ b → V p l e R s m args below meth c G nL cells slots Q ws (pc + 3) lv sk) : V p l e R s m args below meth c G nL cells slots Q ws pc lv (.int (nI b) :: .int (nI a) :: sk) :=
  V.icmp_eq C hd ht (fun h => kt ((nI_eq ha hb0).mp h)) (fun h => kf (fun q => h ((nI_eq ha hb0).mpr q)))
theorem V.if_ne (C : Cx p s m args meth c G cc nL ret own) {x : Int32} {off : Int} {tgt : Nat} (hd : decode cc pc = .ok (.ifCond .ne off, 3)) (ht : (pc : Int) + off = (tgt : Int)) (kt : ¬ x = 0 → V p l e R s m args below meth c G nL cells slots Q ws tgt lv sk) (kf : x = 0 → V p l e R s m args below meth c G nL cells slots Q ws (pc + 3) lv sk) : V p l e R s m args below meth c G nL cells slots Q ws pc lv (.int x :: sk) := by
  obtain ⟨hx, hb, hml, hown, hts, hr, hlk, hE, hk, hK, hns⟩ := C
  intro H locs ls hI hS hl
  exact lv_if_ne hx hb hd ht (fun h => kt h H locs ls hI hS hl) (fun h => kf h H locs ls hI hS hl)
theorem V.icmp_ne (C : Cx p s m args meth c G cc nL ret own) {x y : Int32} {off : Int} {tgt : Nat} (hd : decode cc pc = .ok (.if_icmp .ne off, 3)) (ht : (pc : Int) + off = (tgt : Int)) (kt : ¬ x = y → V p l e R s m args below meth c G nL cells slots Q ws tgt lv sk) (kf : x = y → V p l e R s m args below meth c G nL cells slots Q ws (pc + 3) lv sk) : V p l e R s m args below meth c G nL cells slots Q ws pc lv (.int y :: .int x :: sk) := by
  obtain ⟨hx, hb, hml, hown, hts, hr, hlk, hE, hk, hK, hns⟩ := C
  intro H locs ls hI hS hl
  exact lv_icmp_ne hx hb hd ht (fun h => kt h H locs ls hI hS hl) (fun h => kf h H locs ls hI hS hl)
theorem V.cmpN_ne (C : Cx p s m args meth c G cc nL ret own) {a b : Nat} {off : Int} {tgt : Nat} (hd : decode cc pc = .ok (.if_icmp .ne off, 3)) (ht : (pc : Int) + off = (tgt : Int)) (ha : a < 2 ^ 31) (hb0 : b < 2 ^ 31) (kt : a ≠ b → V p l e R s m args below meth c G nL cells slots Q ws tgt lv sk) (kf : a = b → V p l e R s m args below meth c G nL cells slots Q ws (pc + 3) lv sk) : V p l e R s m args below meth c G nL cells slots Q ws pc lv (.int (nI b) :: .int (nI a) :: sk) :=
  V.icmp_ne C hd ht (fun h => kt (fun q => h ((nI_eq ha hb0).mpr q))) (fun h => kf ((nI_eq ha hb0).mp h))
theorem V.if_lt (C : Cx p s m args meth c G cc nL ret own) {x : Int32} {off : Int} {tgt : Nat} (hd : decode cc pc = .ok (.ifCond .lt off, 3)) (ht : (pc : Int) + off = (tgt : Int)) (kt : x < 0 → V p l e R s m args below meth c G nL cells slots Q ws tgt lv sk) (kf : ¬ x < 0 → V p l e R s m args below meth c G nL cells slots Q ws (pc + 3) lv sk) : V p l e R s m args below meth c G nL cells slots Q ws pc lv (.int x :: sk) := by
  obtain ⟨hx, hb, hml, hown, hts, hr, hlk, hE, hk, hK, hns⟩ := C
  intro H locs ls hI hS hl
  exact lv_if_lt hx hb hd ht (fun h => kt h H locs ls hI hS hl) (fun h => kf h H locs ls hI hS hl)
theorem V.icmp_lt (C : Cx p s m args meth c G cc nL ret own) {x y : Int32} {off : Int} {tgt : Nat} (hd : decode cc pc = .ok (.if_icmp .lt off, 3)) (ht : (pc : Int) + off = (tgt : Int)) (kt : x < y → V p l e R s m args below meth c G nL cells slots Q ws tgt lv sk) (kf : ¬ x < y → V p l e R s m args below meth c G nL cells slots Q ws (pc + 3) lv sk) : V p l e R s m args below meth c G nL cells slots Q ws pc lv (.int y :: .int x :: sk) := by
  obtain ⟨hx, hb, hml, hown, hts, hr, hlk, hE, hk, hK, hns⟩ := C
  intro H locs ls hI hS hl
  exact lv_icmp_lt hx hb hd ht (fun h => kt h H locs ls hI hS hl) (fun h => kf h H locs ls hI hS hl)
theorem V.cmpN_lt (C : Cx p s m args meth c G cc nL ret own) {a b : Nat} {off : Int} {tgt : Nat} (hd : decode cc pc = .ok (.if_icmp .lt off, 3)) (ht : (pc : Int) + off = (tgt : Int)) (ha : a < 2 ^ 31) (hb0 : b < 2 ^ 31) (kt : a < b → V p l e R s m args below meth c G nL cells slots Q ws tgt lv sk) (kf : b ≤ a → V p l e R s m args below meth c G nL cells slots Q ws (pc + 3) lv sk) : V p l e R s m args below meth c G nL cells slots Q ws pc lv (.int (nI b) :: .int (nI a) :: sk) :=
  V.icmp_lt C hd ht (fun h => kt ((nI_ltI ha hb0).mp h)) (fun h => kf (Nat.not_lt.mp fun q => h ((nI_ltI ha hb0).mpr q)))
theorem V.if_ge (C : Cx p s m args meth c G cc nL ret own) {x : Int32} {off : Int} {tgt : Nat} (hd : decode cc pc = .ok (.ifCond .ge off, 3)) (ht : (pc : Int) + off = (tgt : Int)) (kt : 0 ≤ x → V p l e R s m args below meth c G nL cells slots Q ws tgt lv sk) (kf : ¬ 0 ≤ x → V p l e R s m args below meth c G nL cells slots Q ws (pc + 3) lv sk) : V p l e R s m args below meth c G nL cells slots Q ws pc lv (.int x :: sk) := by
  obtain ⟨hx, hb, hml, hown, hts, hr, hlk, hE, hk, hK, hns⟩ := C
  intro H locs ls hI hS hl
  exact lv_if_ge hx hb hd ht (fun h => kt h H locs ls hI hS hl) (fun h => kf h H locs ls hI hS hl)
theorem V.icmp_ge (C : Cx p s m args meth c G cc nL ret own) {x y : Int32} {off : Int} {tgt : Nat} (hd : decode cc pc = .ok (.if_icmp .ge off, 3)) (ht : (pc : Int) + off = (tgt : Int)) (kt : y ≤ x → V p l e R s m args below meth c G nL cells slots Q ws tgt lv sk) (kf : ¬ y ≤ x → V p l e R s m args below meth c G nL cells slots Q ws (pc + 3) lv sk) : V p l e R s m args below meth c G nL cells slots Q ws pc lv (.int y :: .int x :: sk) := by
  obtain ⟨hx, hb, hml, hown, hts, hr, hlk, hE, hk, hK, hns⟩ := C
  intro H locs ls hI hS hl
  exact lv_icmp_ge hx hb hd ht (fun h => kt h H locs ls hI hS hl) (fun h => kf h H locs ls hI hS hl)
theorem V.cmpN_ge (C : Cx p s m args meth c G cc nL ret own) {a b : Nat} {off : Int} {tgt : Nat} (hd : decode cc pc = .ok (.if_icmp .ge off, 3)) (ht : (pc : Int) + off = (tgt : Int)) (ha : a < 2 ^ 31) (hb0 : b < 2 ^ 31) (kt : b ≤ a → V p l e R s m args below meth c G nL cells slots Q ws tgt lv sk) (kf : a < b → V p l e R s m args below meth c G nL cells slots Q ws (pc + 3) lv sk) : V p l e R s m args below meth c G nL cells slots Q ws pc lv (.int (nI b) :: .int (nI a) :: sk) :=
  V.icmp_ge C hd ht (fun h => kt ((nI_leI hb0 ha).mp h)) (fun h => kf (Nat.not_le.mp fun q => h ((nI_leI hb0 ha).mpr q)))
theorem V.if_gt (C : Cx p s m args meth c G cc nL ret own) {x : Int32} {off : Int} {tgt : Nat} (hd : decode cc pc = .ok (.ifCond .gt off, 3)) (ht : (pc : Int) + off = (tgt : Int)) (kt : 0 < x → V p l e R s m args below meth c G nL cells slots Q ws tgt lv sk) (kf : ¬ 0 < x → V p l e R s m args below meth c G nL cells slots Q ws (pc + 3) lv sk) : V p l e R s m args below meth c G nL cells slots Q ws pc lv (.int x :: sk) := by
  obtain ⟨hx, hb, hml, hown, hts, hr, hlk, hE, hk, hK, hns⟩ := C
  intro H locs ls hI hS hl
  exact lv_if_gt hx hb hd ht (fun h => kt h H locs ls hI hS hl) (fun h => kf h H locs ls hI hS hl)
theorem V.icmp_gt (C : Cx p s m args meth c G cc nL ret own) {x y : Int32} {off : Int} {tgt : Nat} (hd : decode cc pc = .ok (.if_icmp .gt off, 3)) (ht : (pc : Int) + off = (tgt : Int)) (kt : y < x → V p l e R s m args below meth c G nL cells slots Q ws tgt lv sk) (kf : ¬ y < x → V p l e R s m args below meth c G nL cells slots Q ws (pc + 3) lv sk) : V p l e R s m args below meth c G nL cells slots Q ws pc lv (.int y :: .int x :: sk) := by
  obtain ⟨hx, hb, hml, hown, hts, hr, hlk, hE, hk, hK, hns⟩ := C
  intro H locs ls hI hS hl
  exact lv_icmp_gt hx hb hd ht (fun h => kt h H locs ls hI hS hl) (fun h => kf h H locs ls hI hS hl)
theorem V.cmpN_gt (C : Cx p s m args meth c G cc nL ret own) {a b : Nat} {off : Int} {tgt : Nat} (hd : decode cc pc = .ok (.if_icmp .gt off, 3)) (ht : (pc : Int) + off = (tgt : Int)) (ha : a < 2 ^ 31) (hb0 : b < 2 ^ 31) (kt : b < a → V p l e R s m args below meth c G nL cells slots Q ws tgt lv sk) (kf : a ≤ b → V p l e R s m args below meth c G nL cells slots Q ws (pc + 3) lv sk) : V p l e R s m args below meth c G nL cells slots Q ws pc lv (.int (nI b) :: .int (nI a) :: sk) :=
  V.icmp_gt C hd ht (fun h => kt ((nI_ltI hb0 ha).mp h)) (fun h => kf (Nat.not_lt.mp fun q => h ((nI_ltI hb0 ha).mpr q)))
theorem V.if_le (C : Cx p s m args meth c G cc nL ret own) {x : Int32} {off : Int} {tgt : Nat} (hd : decode cc pc = .ok (.ifCond .le off, 3)) (ht : (pc : Int) + off = (tgt : Int)) (kt : x ≤ 0 → V p l e R s m args below meth c G nL cells slots Q ws tgt lv sk) (kf : ¬ x ≤ 0 → V p l e R s m args below meth c G nL cells slots Q ws (pc + 3) lv sk) : V p l e R s m args below meth c G nL cells slots Q ws pc lv (.int x :: sk) := by
  obtain ⟨hx, hb, hml, hown, hts, hr, hlk, hE, hk, hK, hns⟩ := C
  intro H locs ls hI hS hl
  exact lv_if_le hx hb hd ht (fun h => kt h H locs ls hI hS hl) (fun h => kf h H locs ls hI hS hl)
theorem V.icmp_le (C : Cx p s m args meth c G cc nL ret own) {x y : Int32} {off : Int} {tgt : Nat} (hd : decode cc pc = .ok (.if_icmp .le off, 3)) (ht : (pc : Int) + off = (tgt : Int)) (kt : x ≤ y → V p l e R s m args below meth c G nL cells slots Q ws tgt lv sk) (kf : ¬ x ≤ y → V p l e R s m args below meth c G nL cells slots Q ws (pc + 3) lv sk) : V p l e R s m args below meth c G nL cells slots Q ws pc lv (.int y :: .int x :: sk) := by
  obtain ⟨hx, hb, hml, hown, hts, hr, hlk, hE, hk, hK, hns⟩ := C
  intro H locs ls hI hS hl
  exact lv_icmp_le hx hb hd ht (fun h => kt h H locs ls hI hS hl) (fun h => kf h H locs ls hI hS hl)
theorem V.cmpN_le (C : Cx p s m args meth c G cc nL ret own) {a b : Nat} {off : Int} {tgt : Nat} (hd : decode cc pc = .ok (.if_icmp .le off, 3)) (ht : (pc : Int) + off = (tgt : Int)) (ha : a < 2 ^ 31) (hb0 : b < 2 ^ 31) (kt : a ≤ b → V p l e R s m args below meth c G nL cells slots Q ws tgt lv sk) (kf : b < a → V p l e R s m args below meth c G nL cells slots Q ws (pc + 3) lv sk) : V p l e R s m args below meth c G nL cells slots Q ws pc lv (.int (nI b) :: .int (nI a) :: sk) :=
  V.icmp_le C hd ht (fun h => kt ((nI_leI ha hb0).mp h)) (fun h => kf (Nat.not_le.mp fun q => h ((nI_leI ha hb0).mpr q)))
theorem V.ifB_eq (C : Cx p s m args meth c G cc nL ret own) {b : Bool} {off : Int} {tgt : Nat} (hd : decode cc pc = .ok (.ifCond .eq off, 3)) (ht : (pc : Int) + off = (tgt : Int)) (kt : b = false → V p l e R s m args below meth c G nL cells slots Q ws tgt lv sk) (kf : b = true → V p l e R s m args below meth c G nL cells slots Q ws (pc + 3) lv sk) : V p l e R s m args below meth c G nL cells slots Q ws pc lv (.int (bI b) :: sk) := by
  refine V.if_eq C hd ht (fun h => kt ?_) (fun h => kf ?_)
  · cases b
    · rfl
    · exact absurd h (by decide +kernel)
  · cases b
    · exact absurd (by decide +kernel) h
    · rfl
theorem V.ifB_ne (C : Cx p s m args meth c G cc nL ret own) {b : Bool} {off : Int} {tgt : Nat} (hd : decode cc pc = .ok (.ifCond .ne off, 3)) (ht : (pc : Int) + off = (tgt : Int)) (kt : b = true → V p l e R s m args below meth c G nL cells slots Q ws tgt lv sk) (kf : b = false → V p l e R s m args below meth c G nL cells slots Q ws (pc + 3) lv sk) : V p l e R s m args below meth c G nL cells slots Q ws pc lv (.int (bI b) :: sk) := by
  refine V.if_ne C hd ht (fun h => kt ?_) (fun h => kf ?_)
  · cases b
    · exact absurd (by decide +kernel) h
    · rfl
  · cases b
    · rfl
    · exact absurd h (by decide +kernel)
theorem V.ifN_eq (C : Cx p s m args meth c G cc nL ret own) {a : Nat} {off : Int} {tgt : Nat} (hd : decode cc pc = .ok (.ifCond .eq off, 3)) (ht : (pc : Int) + off = (tgt : Int)) (ha : a < 2 ^ 31) (kt : a = 0 → V p l e R s m args below meth c G nL cells slots Q ws tgt lv sk) (kf : a ≠ 0 → V p l e R s m args below meth c G nL cells slots Q ws (pc + 3) lv sk) : V p l e R s m args below meth c G nL cells slots Q ws pc lv (.int (nI a) :: sk) :=
  V.if_eq C hd ht (fun h => kt (Nat.eq_zero_of_not_pos fun q => nI_ne0 q ha h)) (fun h => kf (fun q => h (by rw [q]; exact nI_0)))
theorem V.ifN_ne (C : Cx p s m args meth c G cc nL ret own) {a : Nat} {off : Int} {tgt : Nat} (hd : decode cc pc = .ok (.ifCond .ne off, 3)) (ht : (pc : Int) + off = (tgt : Int)) (ha : a < 2 ^ 31) (kt : a ≠ 0 → V p l e R s m args below meth c G nL cells slots Q ws tgt lv sk) (kf : a = 0 → V p l e R s m args below meth c G nL cells slots Q ws (pc + 3) lv sk) : V p l e R s m args below meth c G nL cells slots Q ws pc lv (.int (nI a) :: sk) :=
  V.if_ne C hd ht (fun h => kt (fun q => h (by rw [q]; exact nI_0))) (fun h => kf (Nat.eq_zero_of_not_pos fun q => nI_ne0 q ha h))
theorem V.ifN_le (C : Cx p s m args meth c G cc nL ret own) {a : Nat} {off : Int} {tgt : Nat} (hd : decode cc pc = .ok (.ifCond .le off, 3)) (ht : (pc : Int) + off = (tgt : Int)) (ha : a < 2 ^ 31) (kt : a = 0 → V p l e R s m args below meth c G nL cells slots Q ws tgt lv sk) (kf : a ≠ 0 → V p l e R s m args below meth c G nL cells slots Q ws (pc + 3) lv sk) : V p l e R s m args below meth c G nL cells slots Q ws pc lv (.int (nI a) :: sk) :=
  V.if_le C hd ht (fun h => kt (Nat.eq_zero_of_not_pos fun q => nI_nle q ha h)) (fun h => kf (fun q => h (by rw [q]; decide +kernel)))
theorem V.ifN_gt (C : Cx p s m args meth c G cc nL ret own) {a : Nat} {off : Int} {tgt : Nat} (hd : decode cc pc = .ok (.ifCond .gt off, 3)) (ht : (pc : Int) + off = (tgt : Int)) (ha : a < 2 ^ 31) (kt : a ≠ 0 → V p l e R s m args below meth c G nL cells slots Q ws tgt lv sk) (kf : a = 0 → V p l e R s m args below meth c G nL cells slots Q ws (pc + 3) lv sk) : V p l e R s m args below meth c G nL cells slots Q ws pc lv (.int (nI a) :: sk) :=
  V.if_gt C hd ht (fun h => kt (fun q => absurd h (by rw [q]; decide +kernel))) (fun h => kf (Nat.eq_zero_of_not_pos fun q => h (by have := nI_lt q ha; rw [nI_0] at this; exact this)))
theorem V.ifN_lt (C : Cx p s m args meth c G cc nL ret own) {a : Nat} {off : Int} {tgt : Nat} (hd : decode cc pc = .ok (.ifCond .lt off, 3)) (ht : (pc : Int) + off = (tgt : Int)) (ha : a < 2 ^ 31) (kf : V p l e R s m args below meth c G nL cells slots Q ws (pc + 3) lv sk) : V p l e R s m args below meth c G nL cells slots Q ws pc lv (.int (nI a) :: sk) :=
  V.if_lt C hd ht (fun h => absurd h (nI_pos ha)) (fun h => kf)
theorem V.ifN_ge (C : Cx p s m args meth c G cc nL ret own) {a : Nat} {off : Int} {tgt : Nat} (hd : decode cc pc = .ok (.ifCond .ge off, 3)) (ht : (pc : Int) + off = (tgt : Int)) (ha : a < 2 ^ 31) (kt : V p l e R s m args below meth c G nL cells slots Q ws tgt lv sk) : V p l e R s m args below meth c G nL cells slots Q ws pc lv (.int (nI a) :: sk) :=
  V.if_ge C hd ht (fun h => kt) (fun h => absurd (nI_pos' ha) h)
-- kit: rx = ry / ¬ rx = ry
theorem V.acmp_eq (C : Cx p s m args meth c G cc nL ret own) {x y : Nat} {off : Int} {tgt : Nat} (hd : decode cc pc = .ok (.if_acmp .eq off, 3)) (ht : (pc : Int) + off = (tgt : Int)) (kt : x = y → V p l e R s m args below meth c G nL cells slots Q ws tgt lv sk) (kf : x ≠ y → V p l e R s m args below meth c G nL cells slots Q ws (pc + 3) lv sk) : V p l e R s m args below meth c G nL cells slots Q ws pc lv (.ref y :: .ref x :: sk) := by
  obtain ⟨hx, hb, hml, hown, hts, hr, hlk, hE, hk, hK, hns⟩ := C
  intro H locs ls hI hS hl
  exact lv_acmp_eq (rx := some x) (ry := some y) hx hb hd ht (fun h => kt (by simpa using h) H locs ls hI hS hl) (fun h => kf (by simpa using h) H locs ls hI hS hl)
-- kit: ¬ rx = ry / rx = ry
theorem V.acmp_ne (C : Cx p s m args meth c G cc nL ret own) {x y : Nat} {off : Int} {tgt : Nat} (hd : decode cc pc = .ok (.if_acmp .ne off, 3)) (ht : (pc : Int) + off = (tgt : Int)) (kt : x ≠ y → V p l e R s m args below meth c G nL cells slots Q ws tgt lv sk) (kf : x = y → V p l e R s m args below meth c G nL cells slots Q ws (pc + 3) lv sk) : V p l e R s m args below meth c G nL cells slots Q ws pc lv (.ref y :: .ref x :: sk) := by
  obtain ⟨hx, hb, hml, hown, hts, hr, hlk, hE, hk, hK, hns⟩ := C
  intro H locs ls hI hS hl
  exact lv_acmp_ne (rx := some x) (ry := some y) hx hb hd ht (fun h => kt (by simpa using h) H locs ls hI hS hl) (fun h => kf (by simpa using h) H locs ls hI hS hl)
theorem V.tableOut (C : Cx p s m args meth c G cc nL ret own) {dflt lo hi : Int} {offs : Array Int} {len : Nat} {x : Int32} {tgt : Nat} (h : x.toInt < lo ∨ hi < x.toInt) (ht : (pc : Int) + dflt = (tgt : Int)) (hd : decode cc pc = .ok (.tableswitch dflt lo hi offs, len)) (kk : V p l e R s m args below meth c G nL cells slots Q ws (tgt) lv (sk)) : V p l e R s m args below meth c G nL cells slots Q ws pc lv (.int x :: sk) := by
  obtain ⟨hx, hb, hml, hown, hts, hr, hlk, hE, hk, hK, hns⟩ := C
  intro H locs ls hI hS hl
  exact lv_tableOut hx hb hd h ht (kk H locs ls hI hS hl)
theorem V.tableIn (C : Cx p s m args meth c G cc nL ret own) {dflt lo hi : Int} {offs : Array Int} {len : Nat} {x : Int32} {off : Int} {tgt : Nat} (h1 : ¬ x.toInt < lo) (h2 : ¬ hi < x.toInt) (ho : offs[(x.toInt - lo).toNat]? = some off) (ht : (pc : Int) + off = (tgt : Int)) (hd : decode cc pc = .ok (.tableswitch dflt lo hi offs, len)) (kk : V p l e R s m args below meth c G nL cells slots Q ws (tgt) lv (sk)) : V p l e R s m args below meth c G nL cells slots Q ws pc lv (.int x :: sk) := by
  obtain ⟨hx, hb, hml, hown, hts, hr, hlk, hE, hk, hK, hns⟩ := C
  intro H locs ls hI hS hl
  exact lv_tableIn hx hb hd h1 h2 ho ht (kk H locs ls hI hS hl)
theorem V.lookup (C : Cx p s m args meth c G cc nL ret own) {dflt : Int} {ps : Array (Int × Int)} {len : Nat} {x : Int32} {off : Int} {tgt : Nat} (hp : (ps.toList.zip (ps.toList.drop 1)).all (fun (a, next) => a.1 < next.1) = true) (ho : Op.lookupswitch.offset ps.toList dflt x.toInt = off) (ht : (pc : Int) + off = (tgt : Int)) (hd : decode cc pc = .ok (.lookupswitch dflt ps, len)) (kk : V p l e R s m args below meth c G nL cells slots Q ws (tgt) lv (sk)) : V p l e R s m args below meth c G nL cells slots Q ws pc lv (.int x :: sk) := by
  obtain ⟨hx, hb, hml, hown, hts, hr, hlk, hE, hk, hK, hns⟩ := C
  intro H locs ls hI hS hl
  exact lv_lookup hx hb hd hp ho ht (kk H locs ls hI hS hl)
theorem V.get (C : Cx p s m args meth c G cc nL ret own) {CN : String} {T : u_T} {N i : Nat} {a ci : Nat} {fs : List Value} {v : Value} (hin : ∀ w ∈ u_ws CN T N, w ∈ gt) (q0 : Nat) (he : ws[q0]? = some (a, .inr (ci, fs))) (hc : classes[ci]? = some (CN, T, N)) (k : Nat) (hkN : k < N) (hw : Cond.fieldLink own i (T k).1 (T k).2.1 (T k).2.2.1 ∈ gt) (hv : fs[k]? = some v) (hd : decode cc pc = .ok (.getfield i, 3))
    (kk : V p l e R s m args below meth c G nL cells slots Q ws (pc + 3) lv (v :: sk)) : V p l e R s m args below meth c G nL cells slots Q ws pc lv (.ref a :: sk) := by
  obtain ⟨hx, hb, hml, hown, hts, hr, hlk, hE, hk, hK, hns⟩ := C
  intro H locs ls hI hS hl
  exact va_get (D := G.1) (cl := classes) hx hb hts hin hown hI.1 hI.2.1 q0 he hc k hkN (hts _ hw) (fun _ h => h) hv hd (kk H locs ls hI hS hl)
theorem V.put (C : Cx p s m args meth c G cc nL ret own) {CN : String} {T : u_T} {N i : Nat} {a ci : Nat} {fs : List Value} {v : Value} {ty : FieldType} (hin : ∀ w ∈ u_ws CN T N, w ∈ gt) (ty0 : Nat → FieldType) (hty : ∀ k, k < N → parseFieldDescriptor (T k).2.2.1 = some (ty0 k)) (hnm : ∀ a, a < N → ∀ b, b < N → a ≠ b → (T a).2.1 ≠ (T b).2.1) (q0 : Nat) (he : ws[q0]? = some (a, .inr (ci, fs))) (hc : classes[ci]? = some (CN, T, N)) (k : Nat) (hkN : k < N) (hw : Cond.fieldLink own i (T k).1 (T k).2.1 (T k).2.2.1 ∈ gt) (hfin : (T k).2.2.2 = false) (hde : parseFieldDescriptor (T k).2.2.1 = some ty) (hn : narrow ty v = v) (hfit : fits ty v = true) (hl0 : k < fs.length) (hws : ws.set q0 (a, .inr (ci, fs.set k v)) = ws') (hd : decode cc pc = .ok (.putfield i, 3))
    (kk : V p l e R s m args below meth c G nL cells slots Q ws' (pc + 3) lv sk) : V p l e R s m args below meth c G nL cells slots Q ws pc lv (v :: .ref a :: sk) := by
  obtain ⟨hx, hb, hml, hown, hts, hr, hlk, hE, hk, hK, hns⟩ := C
  subst hws
  intro H locs ls hI hS hl
  exact va_put (D := G.1) (cl := classes) hx hb hts hin ty0 hty hnm hown hI.1 hI.2.1 hI.2.2.1 hS q0 he hc k hkN (hts _ hw) (fun _ h => h) hfin hde hn hfit hl0 hd (fun H1 locs1 hP hD hS1 => kk H1 locs1 ls ⟨hI.1, hP, hD, hI.2.2.2.set he⟩ hS1 hl)
theorem V.iald (C : Cx p s m args meth c G cc nL ret own) {a n k : Nat} {cA : ClassId} {f : Nat → Int32} (q0 t0 : Nat) (ha : ws[q0]? = some (a, .inl (cA, n, .inl f))) (ht : G.2.1[t0]? = some (cA, .int)) (hk0 : k < n) (hn : n < 2 ^ 31) (hd : decode cc pc = .ok (.iaload, 1))
    (kk : V p l e R s m args below meth c G nL cells slots Q ws (pc + 1) lv (.int (f k) :: sk)) : V p l e R s m args below meth c G nL cells slots Q ws pc lv (.int (nI k) :: .ref a :: sk) := by
  obtain ⟨hx, hb, hml, hown, hts, hr, hlk, hE, hk, hK, hns⟩ := C
  intro H locs ls hI hS hl
  refine va_iald (D := G.1) (cl := classes) hx hb hI.1 hI.2.1 q0 t0 ha ht (vp_in_nI hk0 hn) hd ?_
  rw [nI_clamp (by omega)]
  exact kk H locs ls hI hS hl
theorem V.lald (C : Cx p s m args meth c G cc nL ret own) {a n k : Nat} {cA : ClassId} {f : Nat → Int64} (q0 t0 : Nat) (ha : ws[q0]? = some (a, .inl (cA, n, .inr (.inl f)))) (ht : G.2.1[t0]? = some (cA, .long)) (hk0 : k < n) (hn : n < 2 ^ 31) (hd : decode cc pc = .ok (.laload, 1))
    (kk : V p l e R s m args below meth c G nL cells slots Q ws (pc + 1) lv (.long (f k) :: sk)) : V p l e R s m args below meth c G nL cells slots Q ws pc lv (.int (nI k) :: .ref a :: sk) := by
  obtain ⟨hx, hb, hml, hown, hts, hr, hlk, hE, hk, hK, hns⟩ := C
  intro H locs ls hI hS hl
  refine va_lald (D := G.1) (cl := classes) hx hb hI.1 hI.2.1 q0 t0 ha ht (vp_in_nI hk0 hn) hd ?_
  rw [nI_clamp (by omega)]
  exact kk H locs ls hI hS hl
theorem V.cald (C : Cx p s m args meth c G cc nL ret own) {a n k : Nat} {cA : ClassId} {f : Nat → Int32} (q0 t0 : Nat) (ha : ws[q0]? = some (a, .inl (cA, n, .inl f))) (ht : G.2.1[t0]? = some (cA, .char)) (hk0 : k < n) (hn : n < 2 ^ 31) (hd : decode cc pc = .ok (.caload, 1))
    (kk : V p l e R s m args below meth c G nL cells slots Q ws (pc + 1) lv (.int (f k) :: sk)) : V p l e R s m args below meth c G nL cells slots Q ws pc lv (.int (nI k) :: .ref a :: sk) := by
  obtain ⟨hx, hb, hml, hown, hts, hr, hlk, hE, hk, hK, hns⟩ := C
  intro H locs ls hI hS hl
  refine va_cald (D := G.1) (cl := classes) hx hb hI.1 hI.2.1 q0 t0 ha ht (vp_in_nI hk0 hn) hd ?_
  rw [nI_clamp (by omega)]
  exact kk H locs ls hI hS hl
theorem V.aald (C : Cx p s m args meth c G cc nL ret own) {a n k : Nat} {cA : ClassId} {CN : String} {f : Nat → Option Nat} (q0 t0 : Nat) (ha : ws[q0]? = some (a, .inl (cA, n, .inr (.inr (.inr (.inr f)))))) (ht : G.2.1[t0]? = some (cA, .object CN)) (hk0 : k < n) (hn : n < 2 ^ 31) (hd : decode cc pc = .ok (.aaload, 1))
    (kk : V p l e R s m args below meth c G nL cells slots Q ws (pc + 1) lv (va_rf (f k) :: sk)) : V p l e R s m args below meth c G nL cells slots Q ws pc lv (.int (nI k) :: .ref a :: sk) := by
  obtain ⟨hx, hb, hml, hown, hts, hr, hlk, hE, hk, hK, hns⟩ := C
  intro H locs ls hI hS hl
  refine va_aldq (D := G.1) (cl := classes) hx hb hI.1 hI.2.1 q0 t0 ha ht (vp_in_nI hk0 hn) hd ?_
  rw [nI_clamp (by omega)]
  exact kk H locs ls hI hS hl
theorem V.iast (C : Cx p s m args meth c G cc nL ret own) {a n k : Nat} {cA : ClassId} {f : Nat → Int32} {x : Int32} (q0 t0 : Nat) (ha : ws[q0]? = some (a, .inl (cA, n, .inl f))) (ht : G.2.1[t0]? = some (cA, .int)) (hk0 : k < n) (hn : n < 2 ^ 31) (hws : ws.set q0 (a, .inl (cA, n, .inl (upd f k x))) = ws') (hd : decode cc pc = .ok (.iastore, 1))
    (kk : V p l e R s m args below meth c G nL cells slots Q ws' (pc + 1) lv sk) : V p l e R s m args below meth c G nL cells slots Q ws pc lv (.int x :: .int (nI k) :: .ref a :: sk) := by
  obtain ⟨hx, hb, hml, hown, hts, hr, hlk, hE, hk, hK, hns⟩ := C
  subst hws
  intro H locs ls hI hS hl
  refine va_iast (D := G.1) (cl := classes) hx hb hI.1 hI.2.1 hI.2.2.1 hS q0 t0 ha ht (vp_in_nI hk0 hn) hd ?_
  rw [nI_clamp (by omega)]
  exact fun H1 locs1 hP hD hS1 => kk H1 locs1 ls ⟨hI.1, hP, hD, hI.2.2.2.set ha⟩ hS1 hl
theorem up_nI (f : Nat → Nat) (k v : Nat) : upd (fun j => nI (f j)) k (nI v) = fun j => nI (va_up f k v j) := by
  funext j
  unfold upd va_up
  split <;> rfl
theorem V.iastN (C : Cx p s m args meth c G cc nL ret own) {a n k x : Nat} {cA : ClassId} {f : Nat → Nat} (q0 t0 : Nat) (ha : ws[q0]? = some (a, .inl (cA, n, .inl (fun j => nI (f j))))) (ht : G.2.1[t0]? = some (cA, .int)) (hk0 : k < n) (hn : n < 2 ^ 31) (hws : ws.set q0 (a, .inl (cA, n, .inl (fun j => nI (va_up f k x j)))) = ws') (hd : decode cc pc = .ok (.iastore, 1))
    (kk : V p l e R s m args below meth c G nL cells slots Q ws' (pc + 1) lv sk) : V p l e R s m args below meth c G nL cells slots Q ws pc lv (.int (nI x) :: .int (nI k) :: .ref a :: sk) :=
  V.iast C q0 t0 ha ht hk0 hn (by rw [up_nI]; exact hws) hd kk
theorem V.last (C : Cx p s m args meth c G cc nL ret own) {a n k : Nat} {cA : ClassId} {f : Nat → Int64} {x : Int64} (q0 t0 : Nat) (ha : ws[q0]? = some (a, .inl (cA, n, .inr (.inl f)))) (ht : G.2.1[t0]? = some (cA, .long)) (hk0 : k < n) (hn : n < 2 ^ 31) (hws : ws.set q0 (a, .inl (cA, n, .inr (.inl (va_up f k x)))) = ws') (hd : decode cc pc = .ok (.lastore, 1))
    (kk : V p l e R s m args below meth c G nL cells slots Q ws' (pc + 1) lv sk) : V p l e R s m args below meth c G nL cells slots Q ws pc lv (.long x :: .int (nI k) :: .ref a :: sk) := by
  obtain ⟨hx, hb, hml, hown, hts, hr, hlk, hE, hk, hK, hns⟩ := C
  subst hws
  intro H locs ls hI hS hl
  refine va_last (D := G.1) (cl := classes) hx hb hI.1 hI.2.1 hI.2.2.1 hS q0 t0 ha ht (vp_in_nI hk0 hn) hd ?_
  rw [nI_clamp (by omega)]
  exact fun H1 locs1 hP hD hS1 => kk H1 locs1 ls ⟨hI.1, hP, hD, hI.2.2.2.set ha⟩ hS1 hl
theorem nar_nI {x : Nat} (h : x < 65536) : vp_nar .char (nI x) = nI x := by
  unfold vp_nar
  rw [(pk_charN h).1]
theorem V.castN (C : Cx p s m args meth c G cc nL ret own) {a n k x : Nat} {cA : ClassId} {f : Nat → Nat} (q0 t0 : Nat) (ha : ws[q0]? = some (a, .inl (cA, n, .inl (fun j => nI (f j))))) (ht : G.2.1[t0]? = some (cA, .char)) (hk0 : k < n) (hn : n < 2 ^ 31) (hx0 : x < 65536) (hws : ws.set q0 (a, .inl (cA, n, .inl (fun j => nI (va_up f k x j)))) = ws') (hd : decode cc pc = .ok (.castore, 1))
    (kk : V p l e R s m args below meth c G nL cells slots Q ws' (pc + 1) lv sk) : V p l e R s m args below meth c G nL cells slots Q ws pc lv (.int (nI x) :: .int (nI k) :: .ref a :: sk) := by
  obtain ⟨hx, hb, hml, hown, hts, hr, hlk, hE, hk, hK, hns⟩ := C
  subst hws
  intro H locs ls hI hS hl
  refine va_cast (D := G.1) (cl := classes) hx hb hI.1 hI.2.1 hI.2.2.1 hS q0 t0 ha ht (vp_in_nI hk0 hn) hd ?_
  rw [nI_clamp (by omega), nar_nI hx0, up_nI]
  exact fun H1 locs1 hP hD hS1 => kk H1 locs1 ls ⟨hI.1, hP, hD, hI.2.2.2.set ha⟩ hS1 hl
theorem V.alen (C : Cx p s m args meth c G cc nL ret own) {a : Nat} {cA : ClassId} {x : vp_A} {ty : FieldType} (q0 t0 : Nat) (ha : ws[q0]? = some (a, .inl (cA, x))) (ht : G.2.1[t0]? = some (cA, ty)) (hd : decode cc pc = .ok (.arraylength, 1))
    (kk : V p l e R s m args below meth c G nL cells slots Q ws (pc + 1) lv (.int (nI x.1) :: sk)) : V p l e R s m args below meth c G nL cells slots Q ws pc lv (.ref a :: sk) := by
  obtain ⟨hx, hb, hml, hown, hts, hr, hlk, hE, hk, hK, hns⟩ := C
  intro H locs ls hI hS hl
  exact va_alen (D := G.1) (cl := classes) hx hb hI.1 hI.2.1 q0 t0 ha ht rfl hd (kk H locs ls hI hS hl)
end VS
end
section
/-! ===== calls by contract, over V; what is thrown ===== -/
/-- a method of ours that is called on an object; a static one -/
def Yw (y : MethodName) (cc : ByteArray) (nL : Nat) (ret : Option FieldType) (n : Nat) : Prop :=
  Cond.instanceMethod y ∈ gt ∧ Cond.selects y.cls y y ∈ gt ∧ Cond.code y cc nL ret ∈ gt ∧ Cond.initialized y.cls ∈ gt ∧ (y.cls ≠ "java/lang/invoke/MethodHandle" ∧ y.cls ≠ "java/lang/invoke/VarHandle") ∧ (parseMethodDescriptor y.desc).map (fun d => d.parameters.length) = some n ∧ nL ≤ 21
def Ys (y : MethodName) (cc : ByteArray) (nL : Nat) (ret : Option FieldType) (n : Nat) : Prop :=
  Cond.static y ∈ gt ∧ Cond.code y cc nL ret ∈ gt ∧ Cond.initialized y.cls ∈ gt ∧ (y.cls ≠ "java/lang/invoke/MethodHandle" ∧ y.cls ≠ "java/lang/invoke/VarHandle") ∧ (parseMethodDescriptor y.desc).map (fun d => d.parameters.length) = some n ∧ nL ≤ 21
/-- the room that a callee of height h wants -/
def Rok (R : Room) (h cells slots : Nat) : Prop := h + 9 ≤ R.frames ∧ 40 * h + 240 ≤ R.locals ∧ cells + 1 ≤ R.cells ∧ slots + 6 ≤ R.slots
theorem Rok.lt {h h' : Nat} (q : h' < h) : Rok (Rm h) h' 0 0 := ⟨by show h' + 9 ≤ h + 8; omega, by show 40 * h' + 240 ≤ 40 * h + 200; omega, by show 0 + 1 ≤ 1; omega, by show 0 + 6 ≤ 6; omega⟩
def XPre (R : Room) (G : Gm) (av : List Value) (ws : va_W) : Pt → Array Value → Prop := fun A a => A.cells + 1 ≤ R.cells ∧ A.slots + 6 ≤ R.slots ∧ va_Pc av (XP G ws) a A.U
def XPost (G : Gm) (v : Option Value) (ws1 : va_W) : Pt → Array Value → Option Value → Pt → Prop := fun A _ v' B =>
  v' = v ∧ B.cells = A.cells ∧ B.slots = A.slots ∧ KI G ws1 B.U B.U.heap ∧ A.U.heap.size ≤ B.U.heap.size ∧ (∀ q : Nat, q < A.U.heap.size → ¬ G.2.2.1 q → B.U.heap[q]? = A.U.heap[q]?) ∧ ∃ L : List Loc, B.locs = A.locs ++ L ∧ ∀ z ∈ L, G.2.2.1 z.base
theorem XP.blind {G : Gm} {ws : va_W} {U : State} (g : JFrame) (mk : MethodId) (a : Array Value) (h : XP G ws U) : XP G ws (U.calling g mk a) := by
  obtain ⟨h1, h2, h3⟩ := h
  exact ⟨h1, KI.moved (u := U) (U := U.calling g mk a) (Vm.Alike.refl U.vm) h2, h1.2 U (U.calling g mk a) U.heap (Vm.Alike.refl U.vm) h3⟩
theorem KI.same {G : Gm} {ws : va_W} {u U : State} {H : Heap} (hvm : u.vm = U.vm) (h : KI G ws u H) : KI G ws U H := KI.moved (by rw [hvm]; exact Vm.Alike.refl _) h
section XB
variable {l : Launch} {R : Room} {p : Program} {e : Env} {below : List Frame} {s : State} {sargs : Array Value} {y : MethodName} {G : Gm} {h : Nat} {cc : ByteArray} {nL : Nat} {ret : Option FieldType} {av : List Value} {ws ws1 : va_W}
theorem XC.words {args : Array Value} (hts : ∀ w ∈ gt, w.before args s = true) (hc : Cond.code y cc nL ret ∈ gt) : ∀ w ∈ Cond.code y cc nL ret :: gt, ∀ (a' : Array Value) (U : State), s.WarmedH U.vm → w.before a' U = true := by
  intro w hw a' U hW
  have hw' : w ∈ gt := by
    rcases List.mem_cons.mp hw with h | h
    · rw [h]; exact hc
    · exact h
  exact word_at hW (gt_good w hw') (hts w hw')
theorem XC.back {args : Array Value} {v : Option Value} {len : Nat} (hM : XC l G h y cc nL ret av ws (.inl v) ws1) (hts : ∀ w ∈ gt, w.before args s = true) (hc : Cond.code y cc nL ret ∈ gt) (hi : Cond.initialized y.cls ∈ gt) (hnL : nL ≤ 21) (hf : h + 9 ≤ R.frames) (hlo : 40 * h + 240 ≤ R.locals) :
    Back l R p e below s sargs y len 8 (XPre R G av ws) (XPost G v ws1) := by
  have hws := XC.words (s := s) hts hc
  refine Back.of_free (S := headSpec (Cond.code y cc nL ret :: gt) (Rm h)) (P := va_Pc av (XP G ws)) (K := fun _ _ _ _ _ => True) (Q := XQ G (.inl v) ws1) (bytes := cc) (maxL := nL) (ret := ret)
    (E := fun a st o t L k n => k = 0 ∧ n = 0 ∧ ∀ q ∈ L, G.2.2.1 q.base) hM (show h + 8 + 1 ≤ R.frames by omega) (show 8 + (nL + 11) + (40 * h + 200) ≤ R.locals by omega) ?_ ?_ (fun _ _ _ _ _ _ _ _ _ => trivial) ?_ ?_
  · intro m meth c A a X hp
    exact ⟨atoms_intro fun w hw => hws w hw _ _ X.warmed, hws _ List.mem_cons_self _ _ X.warmed, word_at X.warmed (gt_good _ hi) (hts _ hi), hp.1, hp.2.1⟩
  · intro m meth c A a g mk X hp
    obtain ⟨-, -, rfl, hx⟩ := hp
    exact ⟨rfl, hx.blind g mk _⟩
  · intro a st o t hq
    obtain ⟨h1, h2, h3, L, h4, h5, h6⟩ := hq
    exact ⟨L, 0, 0, ⟨⟨v, h5⟩, h3, h6⟩, rfl, rfl, h4⟩
  · intro m meth c A a g mk v' t L k n X hp hq hF ⟨e1, e2, hL⟩
    subst e1; subst e2
    obtain ⟨h1, h2, h3, L', h4, h5, h6⟩ := hq
    cases h5
    exact ⟨rfl, rfl, rfl, KI.same (by rfl) h1, h2.1, h2.2, L, rfl, hL⟩
/-- a callee that throws -/
theorem XC.backT {args : Array Value} {E : String} {len : Nat} (hM : XC l G h y cc nL ret av ws (.inr E) ws1) (hts : ∀ w ∈ gt, w.before args s = true) (hc : Cond.code y cc nL ret ∈ gt) (hi : Cond.initialized y.cls ∈ gt) (hnL : nL ≤ 21) (hf : h + 9 ≤ R.frames) (hlo : 40 * h + 240 ≤ R.locals)
    {m : MethodId} {meth : Method} {c : Code} {U : State} {Ls : List Loc} {c0 s0 : Nat} {g : JFrame} {ig : Instr} {mk : MethodId} (X : Stand p l e R s m sargs below meth c U Ls c0 s0) (hg : g.method = m) (hsize : g.locals.size = c.maxLocals) (hdg : decode c.code g.pc = .ok (ig, len))
    (hW : 2 * g.monitorRoom + (g.stack.map fun v => v.category).sum ≤ 8) (hn : U.methodNamed? y = some mk) (hc1 : c0 + 1 ≤ R.cells) (hs1 : s0 + 6 ≤ R.slots) (hp : XP G ws U) :
    ∃ (q : Addr) (ce : Cell) (U' : State) (L : List Loc), Stand p l e R s m sargs below meth c U' (Ls ++ L) (c0 + 1) (s0 + 6) ∧ (∀ z ∈ L, G.2.2.1 z.base) ∧ KI G ws1 U' U'.heap ∧ U.heap.size ≤ U'.heap.size ∧ (∀ q : Nat, q < U.heap.size → ¬ G.2.2.1 q → U'.heap[q]? = U.heap[q]?) ∧
      U'.heap[q]? = some ce ∧ ce.vm = .none ∧ s.vm.findClass E = some ce.cls ∧ Steps p.tables e below (doInvoke e (U.setTop g) [] mk av.toArray).1 ((U'.setTop g).pushFrame (.throwing q)) := by
  have hws := XC.words (s := s) hts hc
  have h1 : (headSpec (Cond.code y cc nL ret :: gt) (Rm h)).pre.before av.toArray U = true := atoms_intro fun w hw => hws w hw _ _ X.warmed
  have h2 : (Cond.code y cc nL ret).before av.toArray U = true := hws _ List.mem_cons_self _ _ X.warmed
  obtain ⟨methY, cY, hmY, hcY, -, hlY, -, -, -, -⟩ := Cond.code_spec hn h2
  obtain ⟨kY, hkY, -⟩ := className_of_methodNamed hn
  have hinitY : kY.init = .initialized := Cond.initialized_spec (findClass_of_methodNamed hn) hkY (word_at (a' := av.toArray) X.warmed (gt_good _ hi) (hts _ hi))
  have hat : At U g.method c below := by rw [hg]; exact X.here
  have hlo2 : 40 * h + 240 ≤ R.locals := hlo
  have happ : (headSpec (Cond.code y cc nL ret :: gt) (Rm h)).appliesLoose y e.platform (U.calling g mk av.toArray) = true :=
    Spec.appliesLoose_calling (g := g) hat hdg hn hkY hinitY
      (X.room_calling (g := g) (R' := (headSpec (Cond.code y cc nL ret :: gt) (Rm h)).room) hsize hmY hcY (show h + 8 + 1 ≤ R.frames by omega) (by rw [hlY]; show _ + (40 * h + 200) ≤ _; omega) hc1 hs1) h1
  have hfr : (U.setTop g).frames = [.java g] ++ below := by rw [State.frames_setTop' g X.here.top, X.tail]; rfl
  obtain ⟨o, s₂, hsteps, -, hend, hq⟩ := Steps.callFree hM p X.admits X.cas X.clock (acts := []) hfr happ ⟨rfl, hp.blind g mk _⟩ trivial
  obtain ⟨k1, k2, k3, L, k4, q, ce, rfl, k5, k6, k7, k8⟩ := hq
  rw [hfr] at hend
  obtain ⟨T', X', hW', hB, ht⟩ := X.outOfThrown hg (mk := mk) (a := av.toArray) (L := L) (k := 1) (n := 6) hend k3 k8
  have hhp : T'.heap = s₂.heap := by rw [ht, throwing_heap]
  have hvm : T'.vm = s₂.vm := by rw [ht, throwing_vm]
  refine ⟨q, ce, T', L, X', k4, ?_, ?_, ?_, ?_, k6, ?_, ?_⟩
  · rw [hhp]; exact KI.same hvm.symm k1
  · rw [hhp]; exact k2.1
  · rw [hhp]; exact k2.2
  · rw [hhp]; exact k5
  · have h9 : U.vm.findClass E = some ce.cls := k7
    rw [X.warmed.alike.findClass] at h9
    exact h9
  · rw [← ht]; exact hsteps
end XB
section VC
variable {p : Program} {l : Launch} {e : Env} {R : Room} {s : State} {m : MethodId} {args : Array Value} {below : List Frame} {meth : Method} {c : Code} {G : Gm} {nL cells slots : Nat} {Q : State → Prop} {ws ws' : va_W} {pc : Nat} {lv lv' : List (Nat × Value)} {sk rest : List Value}
variable {cc : ByteArray} {ret : Option FieldType} {own : String} {H : Heap} {locs : List Loc} {ls : Array Slot}
/-- what a call hands on, at the level of heaps -/
theorem XP.at {T : State} {vm₁ : Vm} (hk : Kok G) (hK : G.2.2.2 s s.heap) (hI : KI G ws s H) (hS : ∀ q : Nat, q < s.heap.size → ¬ G.2.2.1 q → H[q]? = s.heap[q]?) (hT : T.heap = H) (hW : s.WarmedH vm₁) : XP G ws (T.setVm vm₁) := by
  refine ⟨hk, ?_, ?_⟩
  · show KI G ws (T.setVm vm₁) T.heap
    rw [hT]; exact hI.moved hW.alike
  · show G.2.2.2 (T.setVm vm₁) T.heap
    rw [hT]; exact hk.2 s (T.setVm vm₁) H hW.alike (hk.1 s s.heap H hS hK)
/-- a frame of ours with q thrown over it -/
def VT (p : Program) (l : Launch) (e : Env) (R : Room) (s : State) (m : MethodId) (args : Array Value) (below : List Frame) (meth : Method) (c : Code) (cells slots : Nat) (Q : State → Prop) (H : Heap) (locs : List Loc) (g : JFrame) (q : Addr) : Prop :=
  ∀ T : State, T.heap = H → Stand p l e R s m args below meth c T locs cells slots → ∃ t, Steps p.tables e below ((T.setTop g).pushFrame (.throwing q)) t ∧ Q t
variable {y : MethodName} {h : Nat} {ccY : ByteArray} {nLY n i : Nat} {retY : Option FieldType} {As : List Value} {b : Nat} {ws1 : va_W} {v : Option Value} {E : String}
theorem WcallV (hx : p.tables.exec = Jvm.exec) (hb : c.code = cc) (hml : c.maxLocals = nL) (hown : s.vm.findClass own = some m.cls) (hts : ∀ w ∈ gt, w.before args s = true) (hM : XC l G h y ccY nLY retY (.ref b :: As) ws (.inl v) ws1) (Y : Yw y ccY nLY retY n) (hl : Cond.methodLink own i y ∈ gt) (hcell : ∃ cellB : Cell, H[b]? = some cellB ∧ cellB.vm.isStatics = false ∧ s.vm.findClass y.cls = some cellB.cls)
    (hX : ∀ (T : State) (vm₁ : Vm), T.heap = H → s.WarmedH vm₁ → XP G ws (T.setVm vm₁)) (hn : As.length = n) (hsz : ls.size = nL) (hstk : sk = As.reverse ++ .ref b :: rest) (hW : (rest.map fun v => v.category).sum ≤ 8) (hR : Rok R h cells slots) (hd : decode cc pc = .ok (.invokevirtual i, 3))
    (kk : ∀ (H1 : Heap) (L : List Loc), KI G ws1 s H1 → H.size ≤ H1.size → (∀ q : Nat, q < H.size → ¬ G.2.2.1 q → H1[q]? = H[q]?) → (∀ z ∈ L, G.2.2.1 z.base) → W p l e R s m args below meth c H1 (locs ++ L) cells slots Q (F0 m (pc + 3) ls (v.toList ++ rest))) : W p l e R s m args below meth c H locs cells slots Q (F0 m pc ls sk) := by
  obtain ⟨y1, y2, y3, y4, y5, y6, y7⟩ := Y
  obtain ⟨r1, r2, r3, r4⟩ := hR
  obtain ⟨cellB, c1, c2, c3⟩ := hcell
  intro T hT X
  have hK := XC.back (p := p) (e := e) (below := below) (s := s) (sargs := args) (R := R) (len := 3) hM hts y3 y4 y7 r1 r2
  obtain ⟨v', vm₁, ⟨U', l2, c9, s9⟩, hW₁, X', ⟨e1, e2, e3, k1, k2, k3, L, k4, k5⟩, st⟩ := callV X hx (C := y.cls) (bytes := ccY) (maxL := nLY) (ret := retY) hown (hts _ hl) (hts _ y1) (hts _ y2) (hts _ y3) y5 hK (by rw [hT]; exact c1) c2 c3 (g := F0 m pc ls sk) rfl (by rw [hml]; exact hsz) (argsL := As) (rest := rest) (fun sig hh => by rw [hh] at y6; exact hn.trans (Option.some.inj y6).symm) hstk (lv_room hW) (by rw [hb]; exact hd)
    (fun vm₁ hW₁ => ⟨r3, r4, rfl, hX T vm₁ hT hW₁⟩)
  dsimp only [Pt.U, Pt.locs, Pt.cells, Pt.slots] at X' e1 e2 e3 k1 k2 k3 k4 st
  subst e1; subst e2; subst e3; subst k4
  have k2' : H.size ≤ U'.heap.size := by rw [← hT]; exact k2
  have k3' : ∀ q : Nat, q < H.size → ¬ G.2.2.1 q → U'.heap[q]? = H[q]? := by rw [← hT]; exact k3
  obtain ⟨t, a1, b1⟩ := kk U'.heap L (k1.moved X'.warmed.alike.symm) k2' k3' k5 U' rfl X'
  exact ⟨t, st t a1, b1⟩
theorem WcallVX (hx : p.tables.exec = Jvm.exec) (hb : c.code = cc) (hml : c.maxLocals = nL) (hown : s.vm.findClass own = some m.cls) (hts : ∀ w ∈ gt, w.before args s = true) (hM : XC l G h y ccY nLY retY (.ref b :: As) ws (.inr E) ws1) (Y : Yw y ccY nLY retY n) (hl : Cond.methodLink own i y ∈ gt) (hcell : ∃ cellB : Cell, H[b]? = some cellB ∧ cellB.vm.isStatics = false ∧ s.vm.findClass y.cls = some cellB.cls)
    (hX : ∀ (T : State) (vm₁ : Vm), T.heap = H → s.WarmedH vm₁ → XP G ws (T.setVm vm₁)) (hn : As.length = n) (hsz : ls.size = nL) (hstk : sk = As.reverse ++ .ref b :: rest) (hW : (rest.map fun v => v.category).sum ≤ 8) (hR : Rok R h cells slots) (hd : decode cc pc = .ok (.invokevirtual i, 3))
    (kk : ∀ (H1 : Heap) (L : List Loc) (q : Addr) (ce : Cell), KI G ws1 s H1 → H.size ≤ H1.size → (∀ q : Nat, q < H.size → ¬ G.2.2.1 q → H1[q]? = H[q]?) → (∀ z ∈ L, G.2.2.1 z.base) → H1[q]? = some ce → ce.vm = .none → s.vm.findClass E = some ce.cls → VT p l e R s m args below meth c (cells + 1) (slots + 6) Q H1 (locs ++ L) (F0 m pc ls rest) q) : W p l e R s m args below meth c H locs cells slots Q (F0 m pc ls sk) := by
  obtain ⟨y1, y2, y3, y4, y5, y6, y7⟩ := Y
  obtain ⟨r1, r2, r3, r4⟩ := hR
  obtain ⟨cellB, c1, c2, c3⟩ := hcell
  intro T hT X
  obtain ⟨mk, methM, hnamed, hmethM, hstM, habM⟩ := Cond.instanceMethod_spec (hts _ y1)
  obtain ⟨methM', cM, hmethM', -, -, -, -, -, -, hsigM⟩ := Cond.code_spec hnamed (hts _ y3)
  cases hmethM.symm.trans hmethM'
  obtain ⟨z2, r9, m9, q1, q2, q3, q4, kP, hkP, hkPi⟩ := Cond.selects_spec (hts _ y2)
  cases c3.symm.trans q1
  cases (State.methodFound?_of_named hnamed y5).symm.trans q2
  cases hnamed.symm.trans q3
  have hselP : selectMethod e.platform s.vm cellB.cls mk = .method mk := by rw [Launch.admits_selectMethod X.admits]; exact q4
  obtain ⟨vm₁, X₁, hstep₁⟩ := X.invokevirtual hx hown (hts _ hl) hnamed hmethM hstM hkP hkPi y5 (a := b) (cell := cellB) (by rw [hT]; exact c1)
    (fun z hz => by rw [hz] at c2; cases c2) hselP hmethM habM hkP hkPi (g := F0 m pc ls sk) rfl (argsL := As) (rest := rest) (by rw [hsigM] at y6; exact hn.trans (Option.some.inj y6).symm) hstk (by rw [hb]; exact hd)
  obtain ⟨q, ce, U', L, X', k1, k2, k3, k4, k5, k6, k7, st⟩ := XC.backT hM hts y3 y4 y7 r1 r2 X₁ (g := F0 m pc ls rest) rfl (by rw [hml]; exact hsz) (by rw [hb]; exact hd) (lv_room hW) (X₁.named hnamed) r3 r4 (hX T vm₁ hT X₁.warmed)
  have k3' : H.size ≤ U'.heap.size := by rw [← hT]; exact k3
  have k4' : ∀ q : Nat, q < H.size → ¬ G.2.2.1 q → U'.heap[q]? = H[q]? := by rw [← hT]; exact k4
  obtain ⟨t, a1, b1⟩ := kk U'.heap L q ce (k2.moved X'.warmed.alike.symm) k3' k4' k1 k5 k6 k7 U' rfl X'
  exact ⟨t, (hstep₁ _ fun acts => by rw [doInvoke_state]; exact st).trans a1, b1⟩
theorem WcallS (hx : p.tables.exec = Jvm.exec) (hb : c.code = cc) (hml : c.maxLocals = nL) (hown : s.vm.findClass own = some m.cls) (hts : ∀ w ∈ gt, w.before args s = true) (hM : XC l G h y ccY nLY retY As ws (.inl v) ws1) (Y : Ys y ccY nLY retY n) (hl : Cond.methodLink own i y ∈ gt)
    (hX : ∀ (T : State) (vm₁ : Vm), T.heap = H → s.WarmedH vm₁ → XP G ws (T.setVm vm₁)) (hn : As.length = n) (hsz : ls.size = nL) (hstk : sk = As.reverse ++ rest) (hW : (rest.map fun v => v.category).sum ≤ 8) (hR : Rok R h cells slots) (hd : decode cc pc = .ok (.invokestatic i, 3))
    (kk : ∀ (H1 : Heap) (L : List Loc), KI G ws1 s H1 → H.size ≤ H1.size → (∀ q : Nat, q < H.size → ¬ G.2.2.1 q → H1[q]? = H[q]?) → (∀ z ∈ L, G.2.2.1 z.base) → W p l e R s m args below meth c H1 (locs ++ L) cells slots Q (F0 m (pc + 3) ls (v.toList ++ rest))) : W p l e R s m args below meth c H locs cells slots Q (F0 m pc ls sk) := by
  obtain ⟨y1, y3, y4, y5, y6, y7⟩ := Y
  obtain ⟨r1, r2, r3, r4⟩ := hR
  intro T hT X
  have hK := XC.back (p := p) (e := e) (below := below) (s := s) (sargs := args) (R := R) (len := 3) hM hts y3 y4 y7 r1 r2
  obtain ⟨v', vm₁, ⟨U', l2, c9, s9⟩, hW₁, X', ⟨e1, e2, e3, k1, k2, k3, L, k4, k5⟩, st⟩ := callS X hx (bytes := ccY) (maxL := nLY) (ret := retY) hown (hts _ hl) (hts _ y1) (hts _ y4) (hts _ y3) y5 hK (g := F0 m pc ls sk) rfl (by rw [hml]; exact hsz) (argsL := As) (rest := rest) (fun sig hh => by rw [hh] at y6; exact hn.trans (Option.some.inj y6).symm) hstk (lv_room hW) (by rw [hb]; exact hd)
    (fun vm₁ hW₁ => ⟨r3, r4, rfl, hX T vm₁ hT hW₁⟩)
  dsimp only [Pt.U, Pt.locs, Pt.cells, Pt.slots] at X' e1 e2 e3 k1 k2 k3 k4 st
  subst e1; subst e2; subst e3; subst k4
  have k2' : H.size ≤ U'.heap.size := by rw [← hT]; exact k2
  have k3' : ∀ q : Nat, q < H.size → ¬ G.2.2.1 q → U'.heap[q]? = H[q]? := by rw [← hT]; exact k3
  obtain ⟨t, a1, b1⟩ := kk U'.heap L (k1.moved X'.warmed.alike.symm) k2' k3' k5 U' rfl X'
  exact ⟨t, st t a1, b1⟩
theorem WcallSX (hx : p.tables.exec = Jvm.exec) (hb : c.code = cc) (hml : c.maxLocals = nL) (hown : s.vm.findClass own = some m.cls) (hts : ∀ w ∈ gt, w.before args s = true) (hM : XC l G h y ccY nLY retY As ws (.inr E) ws1) (Y : Ys y ccY nLY retY n) (hl : Cond.methodLink own i y ∈ gt)
    (hX : ∀ (T : State) (vm₁ : Vm), T.heap = H → s.WarmedH vm₁ → XP G ws (T.setVm vm₁)) (hn : As.length = n) (hsz : ls.size = nL) (hstk : sk = As.reverse ++ rest) (hW : (rest.map fun v => v.category).sum ≤ 8) (hR : Rok R h cells slots) (hd : decode cc pc = .ok (.invokestatic i, 3))
    (kk : ∀ (H1 : Heap) (L : List Loc) (q : Addr) (ce : Cell), KI G ws1 s H1 → H.size ≤ H1.size → (∀ q : Nat, q < H.size → ¬ G.2.2.1 q → H1[q]? = H[q]?) → (∀ z ∈ L, G.2.2.1 z.base) → H1[q]? = some ce → ce.vm = .none → s.vm.findClass E = some ce.cls → VT p l e R s m args below meth c (cells + 1) (slots + 6) Q H1 (locs ++ L) (F0 m pc ls rest) q) : W p l e R s m args below meth c H locs cells slots Q (F0 m pc ls sk) := by
  obtain ⟨y1, y3, y4, y5, y6, y7⟩ := Y
  obtain ⟨r1, r2, r3, r4⟩ := hR
  intro T hT X
  obtain ⟨mk, hnamed⟩ := Cond.code_named (hts _ y3)
  obtain ⟨methM, cM, hmethM, -, -, -, -, -, -, hsigM⟩ := Cond.code_spec hnamed (hts _ y3)
  have hstatic : methM.isStatic = true := Cond.static_spec hnamed hmethM (hts _ y1)
  obtain ⟨kP, hkP, -⟩ := className_of_methodNamed hnamed
  have hinitP : kP.init = .initialized := Cond.initialized_spec (findClass_of_methodNamed hnamed) hkP (hts _ y4)
  obtain ⟨vm₁, X₁, hstep₁⟩ := X.invokestatic hx hown (hts _ hl) hnamed hmethM hstatic hkP hinitP y5 (g := F0 m pc ls sk) rfl (argsL := As) (rest := rest) (by rw [hsigM] at y6; exact hn.trans (Option.some.inj y6).symm) hstk (by rw [hb]; exact hd)
  obtain ⟨q, ce, U', L, X', k1, k2, k3, k4, k5, k6, k7, st⟩ := XC.backT hM hts y3 y4 y7 r1 r2 X₁ (g := F0 m pc ls rest) rfl (by rw [hml]; exact hsz) (by rw [hb]; exact hd) (lv_room hW) (X₁.named hnamed) r3 r4 (hX T vm₁ hT X₁.warmed)
  have k3' : H.size ≤ U'.heap.size := by rw [← hT]; exact k3
  have k4' : ∀ q : Nat, q < H.size → ¬ G.2.2.1 q → U'.heap[q]? = H[q]? := by rw [← hT]; exact k4
  obtain ⟨t, a1, b1⟩ := kk U'.heap L q ce (k2.moved X'.warmed.alike.symm) k3' k4' k1 k5 k6 k7 U' rfl X'
  exact ⟨t, (hstep₁ _ fun acts => by rw [doInvoke_state]; exact st).trans a1, b1⟩
theorem va_S.more {A : Nat → Prop} {H0 H1 : Heap} {L : List Loc} (hS : va_S A H0 H locs) (h1 : H.size ≤ H1.size) (h2 : ∀ q : Nat, q < H.size → ¬ A q → H1[q]? = H[q]?) (h3 : ∀ z ∈ L, A z.base) : va_S A H0 H1 (locs ++ L) :=
  ⟨Nat.le_trans hS.1 h1, fun q a1 a2 => (h2 q (Nat.lt_of_lt_of_le a1 hS.1) a2).trans (hS.2.1 q a1 a2), fun z hz => by
    rcases List.mem_append.mp hz with h | h
    · exact hS.2.2 z h
    · exact h3 z h⟩
/-- not caught: it leaves a method that has no table -/
theorem VT.out (hE : c.exceptionTable.isEmpty = true) (hlk : meth.locks = false) {q : Addr} {ce : Cell} (hI : KI G ws s H) (hS : va_S G.2.2.1 s.heap H locs) (h1 : H[q]? = some ce) (h2 : ce.vm = .none) (h3 : s.vm.findClass E = some ce.cls) : VT p l e R s m args below meth c 1 6 (XE below G (.inr E) ws args s) H locs (F0 m pc ls rest) q := by
  intro T hT X
  have hout : ∀ x ∈ c.exceptionTable.toList, covers x (F0 m pc ls rest).pc = false := by
    intro x hx
    rw [Array.isEmpty_iff] at hE
    rw [hE] at hx
    cases hx
  obtain ⟨st1, hrun, hend, hW, hsm⟩ := X.leaveThrown q (g := F0 m pc ls rest) rfl rfl rfl hout hlk
  have hh : (T.setFrames (.throwing q :: below)).heap = H := hT
  refine ⟨_, st1, .threw q, hrun, hend, ?_, ?_, hW, locs, hS.2.2, q, ce, rfl, ?_, h2, h3, hsm⟩
  · rw [hh]; exact hI.moved hW.alike
  · exact hS.F hh
  · rw [hh]; exact h1
theorem V.callV (C : Cx p s m args meth c G cc nL ret own) (hM : XC l G h y ccY nLY retY (.ref b :: As) ws (.inl v) ws1) (Y : Yw y ccY nLY retY n) (hl : Cond.methodLink own i y ∈ gt) {ci N : Nat} {T : u_T} {fs : List Value} (q0 : Nat) (he : ws[q0]? = some (b, .inr (ci, fs))) (hc : classes[ci]? = some (y.cls, T, N)) (hn : As.length = n) (hstk : sk = As.reverse ++ .ref b :: rest) (hW : Nat.ble (rest.map fun v => v.category).sum 8 = true) (hR : Rok R h cells slots) (hd : decode cc pc = .ok (.invokevirtual i, 3))
    (kk : V p l e R s m args below meth c G nL cells slots Q ws1 (pc + 3) lv (v.toList ++ rest)) : V p l e R s m args below meth c G nL cells slots Q ws pc lv sk := by
  obtain ⟨hx, hb, hml, hown, hts, hr, hlk, hE, hk, hK, hns⟩ := C
  intro H locs ls hI hS hlv
  exact WcallV hx hb hml hown hts hM Y hl (va_recv hI.1 hI.2.1 (ci := ci) (q0 := q0) hc he) (fun T vm₁ hT hW => XP.at hk hK hI hS.2.1 hT hW) hn hlv.1 hstk (Nat.le_of_ble_eq_true hW) hR hd (fun H1 L k1 k2 k3 k4 => kk H1 _ ls k1 (hS.more k2 k3 k4) hlv)
theorem V.callVX (C : Cx p s m args meth c G cc nL ret own) (hM : XC l G h y ccY nLY retY (.ref b :: As) ws (.inr E) ws1) (Y : Yw y ccY nLY retY n) (hl : Cond.methodLink own i y ∈ gt) {ci N : Nat} {T : u_T} {fs : List Value} (q0 : Nat) (he : ws[q0]? = some (b, .inr (ci, fs))) (hc : classes[ci]? = some (y.cls, T, N)) (hn : As.length = n) (hstk : sk = As.reverse ++ .ref b :: rest) (hW : Nat.ble (rest.map fun v => v.category).sum 8 = true) (hR : Rok R h 0 0) (hd : decode cc pc = .ok (.invokevirtual i, 3))
    {o : Oc} (ho : o = .inr E) (hw : ws1 = ws') : V p l e R s m args below meth c G nL 0 0 (XE below G o ws' args s) ws pc lv sk := by
  subst ho; subst hw
  obtain ⟨hx, hb, hml, hown, hts, hr, hlk, hE, hk, hK, hns⟩ := C
  intro H locs ls hI hS hlv
  exact WcallVX hx hb hml hown hts hM Y hl (va_recv hI.1 hI.2.1 (ci := ci) (q0 := q0) hc he) (fun T vm₁ hT hW => XP.at hk hK hI hS.2.1 hT hW) hn hlv.1 hstk (Nat.le_of_ble_eq_true hW) hR hd (fun H1 L q ce k1 k2 k3 k4 k5 k6 k7 => VT.out hE hlk k1 (hS.more k2 k3 k4) k5 k6 k7)
theorem V.callS (C : Cx p s m args meth c G cc nL ret own) (hM : XC l G h y ccY nLY retY As ws (.inl v) ws1) (Y : Ys y ccY nLY retY n) (hl : Cond.methodLink own i y ∈ gt) (hn : As.length = n) (hstk : sk = As.reverse ++ rest) (hW : Nat.ble (rest.map fun v => v.category).sum 8 = true) (hR : Rok R h cells slots) (hd : decode cc pc = .ok (.invokestatic i, 3))
    (kk : V p l e R s m args below meth c G nL cells slots Q ws1 (pc + 3) lv (v.toList ++ rest)) : V p l e R s m args below meth c G nL cells slots Q ws pc lv sk := by
  obtain ⟨hx, hb, hml, hown, hts, hr, hlk, hE, hk, hK, hns⟩ := C
  intro H locs ls hI hS hlv
  exact WcallS hx hb hml hown hts hM Y hl (fun T vm₁ hT hW => XP.at hk hK hI hS.2.1 hT hW) hn hlv.1 hstk (Nat.le_of_ble_eq_true hW) hR hd (fun H1 L k1 k2 k3 k4 => kk H1 _ ls k1 (hS.more k2 k3 k4) hlv)
theorem V.callSX (C : Cx p s m args meth c G cc nL ret own) (hM : XC l G h y ccY nLY retY As ws (.inr E) ws1) (Y : Ys y ccY nLY retY n) (hl : Cond.methodLink own i y ∈ gt) (hn : As.length = n) (hstk : sk = As.reverse ++ rest) (hW : Nat.ble (rest.map fun v => v.category).sum 8 = true) (hR : Rok R h 0 0) (hd : decode cc pc = .ok (.invokestatic i, 3))
    {o : Oc} (ho : o = .inr E) (hw : ws1 = ws') : V p l e R s m args below meth c G nL 0 0 (XE below G o ws' args s) ws pc lv sk := by
  subst ho; subst hw
  obtain ⟨hx, hb, hml, hown, hts, hr, hlk, hE, hk, hK, hns⟩ := C
  intro H locs ls hI hS hlv
  exact WcallSX hx hb hml hown hts hM Y hl (fun T vm₁ hT hW => XP.at hk hK hI hS.2.1 hT hW) hn hlv.1 hstk (Nat.le_of_ble_eq_true hW) hR hd (fun H1 L q ce k1 k2 k3 k4 k5 k6 k7 => VT.out hE hlk k1 (hS.more k2 k3 k4) k5 k6 k7)
end VC
end
section
/-! ===== what is constant from the start ===== -/
def kdNames : List String := ["VAR", "PROC", "BEGIN", "END", "IF", "THEN", "ELSE", "WHILE", "DO", "WRITE", "ASSIGN", "SEMICOLON", "COMMA", "OPEN", "CLOSE", "DOT", "EQUAL", "LESS", "GREATER", "PLUS", "MINUS", "TIMES", "OVER", "REST", "AT", "NAME", "NUMBER", "NO_TOKEN", "NOTHING"]
/-- the spellings, as bytes -/
def kdSp : List (List Nat) := [[118, 97, 114], [112, 114, 111, 99], [98, 101, 103, 105, 110], [101, 110, 100], [105, 102], [116, 104, 101, 110], [101, 108, 115, 101], [119, 104, 105, 108, 101], [100, 111], [119, 114, 105, 116, 101], [58, 61], [59], [44], [40], [41], [46], [61], [60], [62], [43], [45], [42], [47], [37], [64], [], [], [], []]
/-- the table by which a switch over the kinds goes -/
def kdSw : List Nat := [0, 0, 2, 0, 3, 0, 0, 4, 0, 5, 0, 0, 0, 13, 0, 0, 6, 7, 8, 0, 0, 9, 10, 11, 0, 1, 12, 0, 0]
def spl (k : Nat) : List Nat := kdSp.getD k []
def swm (k : Nat) : Nat := kdSw.getD k 0
/-- a static that nobody writes and of which only 'a reference' is known, with all that a throw asks of it -/
def Ks (C n d : String) (A : Nat → Prop) (U : State) (H : Heap) : Prop := ∃ (c : ClassId) (k : Class) (i : Nat) (f : Field) (a : Nat) (cell : Cell) (v : Value), U.vm.findClass C = some c ∧ U.fieldFound? C n d = some (c, k, i, f) ∧ f.isStatic = true ∧ k.statics = some a ∧ H[a]? = some cell ∧ cell.vm.isStatics = true ∧ cell.cls = c ∧ f.slot < cell.slots.size ∧ k.staticTypes[f.slot]? = some f.type ∧ cell.slots[f.slot]? = some v ∧ v.isRef = true ∧ ¬ A a
theorem Ks.moved {C n d : String} {A : Nat → Prop} {u U : State} {H : Heap} (hvm : u.vm.Alike U.vm) (h : Ks C n d A u H) : Ks C n d A U H := by
  obtain ⟨c, k, i, f, a, cell, v, h1, h2, h3, h4, h5, h6, h7, h8, h9, h10⟩ := h
  obtain ⟨k', hi', he⟩ := State.fieldFound?_setVm hvm h2
  exact ⟨c, k', i, f, a, cell, v, by rw [hvm.findClass]; exact h1, hi', h3, by rw [he]; exact h4, h5, h6, h7, h8, by rw [he]; exact h9, h10⟩
theorem Ks.kept {C n d : String} {A : Nat → Prop} {U : State} {H H1 : Heap} (h : Ks C n d A U H) (hq : ∀ a : Nat, a < H.size → ¬ A a → H1[a]? = H[a]?) : Ks C n d A U H1 := by
  obtain ⟨c, k, i, f, a, cell, v, h1, h2, h3, h4, h5, h6, h7, h8, h9, h10, h11, h12⟩ := h
  exact ⟨c, k, i, f, a, cell, v, h1, h2, h3, h4, by rw [hq a (Array.getElem?_eq_some_iff.mp h5).1 h12]; exact h5, h6, h7, h8, h9, h10, h11, h12⟩
theorem Ks.lays {C n d : String} {A : Nat → Prop} {s : State} {args : Array Value} (h : Ks C n d A s s.heap) : (Cond.laysStatic C n d).before args s = true := by
  obtain ⟨c, k, i, f, a, cell, v, h1, h2, h3, h4, h5, h6, h7, h8, h9, -⟩ := h
  show (Cond.laysStatic C n d).holds args s none s [] = true
  exact Cond.laysStatic_of h1 h2 h3 h4 h5 h6 h7 h8 h9
theorem Ks.isRef {C n d : String} {A : Nat → Prop} {s : State} {args : Array Value} (h : Ks C n d A s s.heap) : (Cond.isRef (.static C n d)).before args s = true := by
  obtain ⟨c, k, i, f, a, cell, v, h1, h2, h3, h4, h5, h6, h7, h8, h9, h10, h11, -⟩ := h
  have he : (Term.static C n d).eval args s none [] s = some v := by simp [Term.eval, State.fieldNamed?, h2, h3, h4, h5, h6, h10]
  simp only [Cond.before, Cond.holds, Cond.value, he]
  cases v <;> simp_all [Value.isRef]
/-- where the constants lie: the kinds, their spellings, the spellings' bytes, the switch table, the array KINDS -/
abbrev Kt : Type := (Nat → Nat) × (Nat → Nat) × (Nat → Nat) × Nat × Nat
abbrev R_Kd : String := "PascalMachine$Kind"
abbrev L_Kd : String := "LPascalMachine$Kind;"
def KK (A : Nat → Prop) (q : Kt) (U : State) (H : Heap) : Prop :=
  (∀ i : Nat, i < 29 → va_Z R_Kd (kdNames.getD i "") L_Kd (.ref (q.1 i)) A U H ∧ va_O R_Kd (q.1 i) A U H ∧ va_OF "java/lang/Enum" "ordinal" "I" (.int (nI i)) (q.1 i) A U H ∧ va_OF R_Kd "spelling" "Ljava/lang/String;" (.ref (q.2.1 i)) (q.1 i) A U H ∧
    va_O "java/lang/String" (q.2.1 i) A U H ∧ va_OF "java/lang/String" "coder" "B" (.int (nI 0)) (q.2.1 i) A U H ∧ va_OF "java/lang/String" "value" "[B" (.ref (q.2.2.1 i)) (q.2.1 i) A U H ∧ va_T .byte (q.2.2.1 i) (spl i).length (fun j => .int (nI ((spl i).getD j 0))) A U H) ∧
  va_Z "PascalMachine$1" "$SwitchMap$PascalMachine$Kind" "[I" (.ref q.2.2.2.1) A U H ∧ va_T .int q.2.2.2.1 29 (fun j => .int (nI (swm j))) A U H ∧
  va_Z "PascalMachine$Tokens" "KINDS" "[LPascalMachine$Kind;" (.ref q.2.2.2.2) A U H ∧ va_T (.object R_Kd) q.2.2.2.2 29 (fun j => .ref (q.1 j)) A U H ∧
  va_Z "java/lang/String" "COMPACT_STRINGS" "Z" (.int (nI 1)) A U H ∧ va_Zq "jdk/internal/util/Preconditions" "SIOOBE_FORMATTER" "Ljava/util/function/BiFunction;" A U H ∧
  Ks Bundle.tN "UNASSIGNED_STACK" Bundle.steD A U H ∧ Ks Bundle.tN "SUPPRESSED_SENTINEL" Bundle.listD A U H
theorem KK.moved {A : Nat → Prop} {q : Kt} {u U : State} {H : Heap} (hvm : u.vm.Alike U.vm) (h : KK A q u H) : KK A q U H := by
  obtain ⟨h1, h2, h3, h4, h5, h6, h7, h8, h9⟩ := h
  refine ⟨fun i hi => ?_, va_Z.moved hvm h2, va_T.moved hvm h3, va_Z.moved hvm h4, va_T.moved hvm h5, va_Z.moved hvm h6, va_Zq.moved hvm h7, Ks.moved hvm h8, Ks.moved hvm h9⟩
  obtain ⟨a1, a2, a3, a4, a5, a6, a7, a8⟩ := h1 i hi
  exact ⟨va_Z.moved hvm a1, va_O.moved hvm a2, va_OF.moved hvm a3, va_OF.moved hvm a4, va_O.moved hvm a5, va_OF.moved hvm a6, va_OF.moved hvm a7, va_T.moved hvm a8⟩
theorem KK.kept {A : Nat → Prop} {q : Kt} {U : State} {H H1 : Heap} (h : KK A q U H) (hq : ∀ a : Nat, a < H.size → ¬ A a → H1[a]? = H[a]?) : KK A q U H1 := by
  obtain ⟨h1, h2, h3, h4, h5, h6, h7, h8, h9⟩ := h
  refine ⟨fun i hi => ?_, h2.kept hq, h3.kept hq, h4.kept hq, h5.kept hq, h6.kept hq, h7.kept hq, h8.kept hq, h9.kept hq⟩
  obtain ⟨a1, a2, a3, a4, a5, a6, a7, a8⟩ := h1 i hi
  exact ⟨a1.kept hq, a2.kept hq, a3.kept hq, a4.kept hq, a5.kept hq, a6.kept hq, a7.kept hq, a8.kept hq⟩
/-- all that is fixed: classes and slots; the array classes of int, long, char, kind; what may be written; the constants -/
abbrev Zt : Type := va_G × (ClassId × ClassId × ClassId × ClassId) × (Nat → Prop) × Kt
def Gz (z : Zt) : Gm := (z.1, [(z.2.1.1, .int), (z.2.1.2.1, .long), (z.2.1.2.2.1, .char), (z.2.1.2.2.2, .object R_Kd)], z.2.2.1, KK z.2.2.1 z.2.2.2)
theorem Gz_ok (z : Zt) : Kok (Gz z) := ⟨fun _ _ _ hq h => KK.kept h hq, fun _ _ _ hvm h => KK.moved hvm h⟩
/-- the address of the kind k -/
def ek (z : Zt) (k : Nat) : Nat := z.2.2.2.1 k
theorem ek_inj {z : Zt} {U : State} {H : Heap} (h : KK z.2.2.1 z.2.2.2 U H) {i j : Nat} (hi : i < 29) (hj : j < 29) (he : ek z i = ek z j) : i = j := by
  obtain ⟨cf, k, x, f, cell, q1, q2, q3, q4, q5, -⟩ := (h.1 i hi).2.2.1
  obtain ⟨cf', k', x', f', cell', r1, r2, r3, r4, r5, -⟩ := (h.1 j hj).2.2.1
  cases q1.symm.trans r1
  have e1 : z.2.2.2.1 i = z.2.2.2.1 j := he
  rw [e1] at q3
  cases q3.symm.trans r3
  have e2 := q5.symm.trans r5
  have e3 : nI i = nI j := by injection e2 with e2; injection e2
  exact (nI_eq (by omega) (by omega)).mp e3
section VK
variable {p : Program} {l : Launch} {e : Env} {R : Room} {s : State} {m : MethodId} {args : Array Value} {below : List Frame} {meth : Method} {c : Code} {z : Zt} {nL cells slots : Nat} {Q : State → Prop} {ws ws' : va_W} {pc : Nat} {lv lv' : List (Nat × Value)} {sk rest : List Value}
variable {cc : ByteArray} {ret : Option FieldType} {own : String}
theorem Cx.kk {G : Gm} (C : Cx p s m args meth c G cc nL ret own) : G.2.2.2 s s.heap := C.2.2.2.2.2.2.2.2.2.1
theorem V.getK (C : Cx p s m args meth c (Gz z) cc nL ret own) {i : Nat} (k : Nat) (hk0 : k < 29) (hw : Cond.fieldLink own i R_Kd (kdNames.getD k "") L_Kd ∈ gt) (hd : decode cc pc = .ok (.getstatic i, 3)) (kk : V p l e R s m args below meth c (Gz z) nL cells slots Q ws (pc + 3) lv (.ref (ek z k) :: sk)) : V p l e R s m args below meth c (Gz z) nL cells slots Q ws pc lv sk := by
  have hK0 : KK z.2.2.1 z.2.2.2 s s.heap := C.kk
  obtain ⟨hx, hb, hml, hown, hts, hr, hlk, hE, hk, hK, hns⟩ := C
  intro H locs ls hI hS hl
  exact va_gets (A := (Gz z).2.2.1) hx hb (hK0.1 k hk0).1 hS hown (hts _ hw) (fun _ h => h) hd (kk H locs ls hI hS hl)
theorem V.getSw (C : Cx p s m args meth c (Gz z) cc nL ret own) {i : Nat} (hw : Cond.fieldLink own i "PascalMachine$1" "$SwitchMap$PascalMachine$Kind" "[I" ∈ gt) (hd : decode cc pc = .ok (.getstatic i, 3)) (kk : V p l e R s m args below meth c (Gz z) nL cells slots Q ws (pc + 3) lv (.ref z.2.2.2.2.2.2.1 :: sk)) : V p l e R s m args below meth c (Gz z) nL cells slots Q ws pc lv sk := by
  have hK0 : KK z.2.2.1 z.2.2.2 s s.heap := C.kk
  obtain ⟨hx, hb, hml, hown, hts, hr, hlk, hE, hk, hK, hns⟩ := C
  intro H locs ls hI hS hl
  exact va_gets (A := (Gz z).2.2.1) hx hb hK0.2.1 hS hown (hts _ hw) (fun _ h => h) hd (kk H locs ls hI hS hl)
theorem V.ldSw (C : Cx p s m args meth c (Gz z) cc nL ret own) {k : Nat} (hk0 : k < 29) (hd : decode cc pc = .ok (.iaload, 1)) (kk : V p l e R s m args below meth c (Gz z) nL cells slots Q ws (pc + 1) lv (.int (nI (swm k)) :: sk)) : V p l e R s m args below meth c (Gz z) nL cells slots Q ws pc lv (.int (nI k) :: .ref z.2.2.2.2.2.2.1 :: sk) := by
  have hK0 : KK z.2.2.1 z.2.2.2 s s.heap := C.kk
  obtain ⟨hx, hb, hml, hown, hts, hr, hlk, hE, hk, hK, hns⟩ := C
  intro H locs ls hI hS hl
  exact va_ti (A := (Gz z).2.2.1) hx hb hK0.2.2.1 hS (vp_in_nI hk0 (by omega)) (by rw [nI_clamp (by omega)]) hd (kk H locs ls hI hS hl)
theorem V.getKs (C : Cx p s m args meth c (Gz z) cc nL ret own) {i : Nat} (hw : Cond.fieldLink own i "PascalMachine$Tokens" "KINDS" "[LPascalMachine$Kind;" ∈ gt) (hd : decode cc pc = .ok (.getstatic i, 3)) (kk : V p l e R s m args below meth c (Gz z) nL cells slots Q ws (pc + 3) lv (.ref z.2.2.2.2.2.2.2 :: sk)) : V p l e R s m args below meth c (Gz z) nL cells slots Q ws pc lv sk := by
  have hK0 : KK z.2.2.1 z.2.2.2 s s.heap := C.kk
  obtain ⟨hx, hb, hml, hown, hts, hr, hlk, hE, hk, hK, hns⟩ := C
  intro H locs ls hI hS hl
  exact va_gets (A := (Gz z).2.2.1) hx hb hK0.2.2.2.1 hS hown (hts _ hw) (fun _ h => h) hd (kk H locs ls hI hS hl)
theorem V.lenKs (C : Cx p s m args meth c (Gz z) cc nL ret own) (hd : decode cc pc = .ok (.arraylength, 1)) (kk : V p l e R s m args below meth c (Gz z) nL cells slots Q ws (pc + 1) lv (.int (nI 29) :: sk)) : V p l e R s m args below meth c (Gz z) nL cells slots Q ws pc lv (.ref z.2.2.2.2.2.2.2 :: sk) := by
  have hK0 : KK z.2.2.1 z.2.2.2 s s.heap := C.kk
  obtain ⟨hx, hb, hml, hown, hts, hr, hlk, hE, hk, hK, hns⟩ := C
  intro H locs ls hI hS hl
  exact va_tlen (A := (Gz z).2.2.1) hx hb hK0.2.2.2.2.1 hS rfl hd (kk H locs ls hI hS hl)
theorem V.ldKs (C : Cx p s m args meth c (Gz z) cc nL ret own) {k : Nat} (hk0 : k < 29) (hd : decode cc pc = .ok (.aaload, 1)) (kk : V p l e R s m args below meth c (Gz z) nL cells slots Q ws (pc + 1) lv (.ref (ek z k) :: sk)) : V p l e R s m args below meth c (Gz z) nL cells slots Q ws pc lv (.int (nI k) :: .ref z.2.2.2.2.2.2.2 :: sk) := by
  have hK0 : KK z.2.2.1 z.2.2.2 s s.heap := C.kk
  obtain ⟨hx, hb, hml, hown, hts, hr, hlk, hE, hk, hK, hns⟩ := C
  intro H locs ls hI hS hl
  exact vb_tq (A := (Gz z).2.2.1) hx hb hK0.2.2.2.2.1 hS (vp_in_nI hk0 (by omega)) (by rw [nI_clamp (by omega)]; rfl) hd (kk H locs ls hI hS hl)
theorem V.getSp (C : Cx p s m args meth c (Gz z) cc nL ret own) {i k : Nat} (hk0 : k < 29) (hw : Cond.fieldLink own i R_Kd "spelling" "Ljava/lang/String;" ∈ gt) (hd : decode cc pc = .ok (.getfield i, 3)) (kk : V p l e R s m args below meth c (Gz z) nL cells slots Q ws (pc + 3) lv (.ref (z.2.2.2.2.1 k) :: sk)) : V p l e R s m args below meth c (Gz z) nL cells slots Q ws pc lv (.ref (ek z k) :: sk) := by
  have hK0 : KK z.2.2.1 z.2.2.2 s s.heap := C.kk
  obtain ⟨hx, hb, hml, hown, hts, hr, hlk, hE, hk, hK, hns⟩ := C
  intro H locs ls hI hS hl
  exact vk_getf (A := (Gz z).2.2.1) hx hb (hK0.1 k hk0).2.2.2.1 hS hown (hts _ hw) (fun _ h => h) hd (kk H locs ls hI hS hl)
/-- the same walk, as if the method had been called just now: nothing written yet -/
theorem stand_anew {T : State} {locs : List Loc} (X : Stand p l e R s m args below meth c T locs 0 0) : Stand p l e R ((T.setVm s.vm).setFrames (.invoking m args :: below)) m args below meth c T [] 0 0 := by
  obtain ⟨g₀, hfr⟩ := X.frames_eq
  have hcur : T.cur < T.threads.size := State.cur_lt_of_frames hfr
  have hF : ((T.setVm s.vm).setFrames (.invoking m args :: below)).frames = .invoking m args :: below := State.frames_setFrames _ hcur
  have hsz : T.heap.size ≤ s.heap.size := X.heapSize
  have hus : T.slotsUsed ≤ s.slotsUsed := X.used
  have hme : e.platform.stackLimits ((T.setVm s.vm).setFrames (.invoking m args :: below)).me = e.platform.stackLimits s.me := by
    rw [State.stackLimits_setFrames]; exact X.limits
  have hby : ((T.setVm s.vm).setFrames (.invoking m args :: below)).me.stackBytes = s.me.stackBytes := by
    rw [State.stackBytes_setFrames]; exact X.bytes
  have hroom : ((T.setVm s.vm).setFrames (.invoking m args :: below)).hasRoom e.platform R = true := by
    have hr := X.room
    have hlu : ((T.setVm s.vm).setFrames (.invoking m args :: below)).localsInUse = s.localsInUse := by
      rw [State.localsInUse_invoking hF (meth := meth) (c := c) X.method X.code, State.localsInUse_invoking X.frames X.method X.code]
    unfold State.hasRoom at hr ⊢
    rw [hF, hlu, hme, hby]
    rw [X.frames] at hr
    simp only [Bool.and_eq_true, decide_eq_true_eq] at hr ⊢
    obtain ⟨⟨⟨⟨r1, r2⟩, r3⟩, r4⟩, r5⟩ := hr
    refine ⟨⟨⟨⟨r1, r2⟩, ?_⟩, ?_⟩, X.book⟩
    · show T.heap.size + R.cells ≤ _
      omega
    · show T.slotsUsed + R.slots ≤ _
      omega
  refine ⟨X.admits, X.cas, X.clock, hF, hroom, X.hears, X.method, X.code, X.here, X.tail, X.warmed, X.limits.trans hme.symm, X.bytes.trans hby.symm, ?_⟩
  have hdrop : T.heap.toList.drop T.heap.size = [] := List.drop_eq_nil_of_le (by rw [Array.length_toList]; exact Nat.le_refl _)
  refine ⟨?_, Nat.le_refl _, Nat.le_refl _, ?_, ?_, fun a c9 h9 => ⟨c9, h9, rfl, rfl, fun _ _ => rfl⟩⟩
  · obtain ⟨th, hth, -⟩ := State.frames_cons hfr
    show T.setVm s.vm = { ((T.setVm s.vm).setFrames (.invoking m args :: below)).setFrames (T.setVm s.vm).frames with heap := T.heap, slotsUsed := T.slotsUsed }
    rw [State.setFrames_setFrames, State.setFrames_self (s := T.setVm s.vm) hth]
    rfl
  · show T.slotsUsed = T.slotsUsed + ((T.heap.toList.drop T.heap.size).map (·.slots.size)).sum
    rw [hdrop]; rfl
  · show ((T.heap.toList.drop T.heap.size).map (·.slots.size)).sum ≤ 0
    rw [hdrop]; exact Nat.le_refl _
/-- 'throw new E()': new, dup, invokespecial, athrow -/
theorem V.throw0 (C : Cx p s m args meth c (Gz z) cc nL ret own) (hlt : l.stackTraces = false) {cls : String} {names : List String} {ik ic : Nat} (hcls : Bundle.fit cls = true) (hnames : ∀ n ∈ names, Bundle.fit n = true) (hk1 : Cond.classLink own ik cls ∈ gt) (hi1 : Cond.initialized cls ∈ gt)
    (hat : ∀ w ∈ Bundle.ownAtoms0 own ic cls names, w ∈ gt ∨ w = .isRef (.static Bundle.tN "UNASSIGNED_STACK" Bundle.steD) ∨ w = .isRef (.static Bundle.tN "SUPPRESSED_SENTINEL" Bundle.listD) ∨ w = .laysStatic Bundle.tN "UNASSIGNED_STACK" Bundle.steD ∨ w = .laysStatic Bundle.tN "SUPPRESSED_SENTINEL" Bundle.listD)
    (d0 : decode cc pc = .ok (.new ik, 3)) (d3 : decode cc (pc + 3) = .ok (.dup, 1)) (d4 : decode cc (pc + 4) = .ok (.invokespecial ic, 3)) (d7 : decode cc (pc + 7) = .ok (.athrow, 1))
    (hf : names.length + 3 < R.frames) (hlo : (sk.map fun v => v.category).sum + (13 * (names.length + 1) + 42) ≤ R.locals) (hc1 : 1 ≤ R.cells) (hs1 : 6 ≤ R.slots) {o : Oc} (ho : o = .inr cls) (hw : ws = ws') : V p l e R s m args below meth c (Gz z) nL 0 0 (XE below (Gz z) o ws' args s) ws pc lv sk := by
  subst ho; subst hw
  have hK0 : KK z.2.2.1 z.2.2.2 s s.heap := C.kk
  obtain ⟨hx, hb, hml, hown, hts, hr, hlk, hE, hk, hK, hns⟩ := C
  intro H locs ls hI hS hl T hT X
  have htr : e.platform.stackTraces = false := (show e.platform.stackTraces = l.stackTraces by rw [X.admits.platform]).trans hlt
  have Y := stand_anew X
  obtain ⟨s', hs'⟩ : ∃ q, q = (T.setVm s.vm).setFrames (.invoking m args :: below) := ⟨_, rfl⟩
  rw [← hs'] at Y
  have hvm : s'.vm = s.vm := by rw [hs']; rfl
  have hhp : s'.heap = H := by rw [hs']; exact hT
  have hW0 : s.WarmedH s'.vm := by rw [hvm]; exact State.WarmedH.refl s
  have hts' : ∀ w ∈ gt, w.before args s' = true := fun w hw => word_at hW0 (gt_good w hw) (hts w hw)
  have hown' : s'.vm.findClass own = some m.cls := by rw [hvm]; exact hown
  have hK1 : KK z.2.2.1 z.2.2.2 s' s'.heap := by
    rw [hhp]; exact KK.moved hW0.alike (hK0.kept hS.2.1)
  have hall : ∀ w ∈ Bundle.ownAtoms0 own ic cls names, w.before args s' = true := by
    intro w hw
    rcases hat w hw with h | h | h | h | h
    · exact hts' w h
    · rw [h]; exact hK1.2.2.2.2.2.2.2.1.isRef
    · rw [h]; exact hK1.2.2.2.2.2.2.2.2.isRef
    · rw [h]; exact hK1.2.2.2.2.2.2.2.1.lays
    · rw [h]; exact hK1.2.2.2.2.2.2.2.2.lays
  have hins : (Cond.instantiable cls 6).before args s' = true := hall _ (by simp [Bundle.ownAtoms0])
  obtain ⟨vm₁, cX, kX, hfX, hkX, -, -, X₁, st1⟩ := Y.newCold hx (own := own) (C := cls) (index := ik) (n := 6) hown' (hts' _ hk1) hins (hts' _ hi1) (g := F0 m pc ls sk) rfl (by rw [hb]; exact d0) (by omega) (by omega)
  generalize hT1 : (T.setVm vm₁).pushCell { cls := cX, slots := kX.instanceTypes.map defaultValue, vm := .none } = T1 at X₁ st1
  have hcellA : T1.heap[T.heap.size]? = some (freshCell cX kX) := by rw [← hT1]; exact State.heap_pushCell_size _ _
  have hout : ∀ x ∈ c.exceptionTable.toList, covers x (pc + 4 + 3) = false := by
    intro x hx'
    rw [Array.isEmpty_iff] at hE
    rw [hE] at hx'
    cases hx'
  have hcat : (Value.ref T.heap.size).category = 1 := rfl
  have d3' : decode c.code (pc + 3) = .ok (.dup, 1) := by rw [hb]; exact d3
  obtain ⟨U, hsteps, hrun, hend, hW, hsame, ce, hce, hO⟩ := X₁.ctorThrow0 hx htr (own := own) (cls := cls) (names := names) (ic := ic) hown' hcls hnames hall (fun x hx' => nomatch hx') hfX hkX hcellA (by rw [hhp, hT]; exact Nat.le_refl _)
    (g := { method := m, pc := pc + 4, locals := ls, stack := .ref T.heap.size :: .ref T.heap.size :: sk, locked := none }) rfl (by rw [hml]; exact hl.1) rfl rfl (rest := sk) rfl
    (by rw [hb]; exact d4) (by rw [hb]; exact d7) hout hf (by simp only [List.map_cons, List.sum_cons, hcat]; show 2 * 0 + _ + _ ≤ _; omega) hlk
  have hold : H.size ≤ U.heap.size ∧ ∀ q : Nat, q < H.size → U.heap[q]? = H[q]? := by
    obtain ⟨-, q2, -, -, -, q6⟩ := hsame
    rw [hhp] at q2 q6
    refine ⟨q2, fun q hq => ?_⟩
    obtain ⟨c9, e1, e2, e3, e4⟩ := q6 q _ (Array.getElem?_eq_getElem hq)
    have hs9 : c9.slots = (H[q]).slots := Array.ext_getElem? fun i => e4 i (fun hm => nomatch hm)
    have hc9 : c9 = H[q] := by rw [hs9] at e2; exact e2
    have e5 : U.heap[q]? = some c9 := e1
    rw [e5, hc9, Array.getElem?_eq_getElem hq]
  have hWs : s.WarmedH U.vm := State.WarmedH.trans hW0 hW
  have hsm : s.sameButNew ({ U with vm := s.vm } : State) locs 1 6 := by
    obtain ⟨e1, e2⟩ := hsame
    rw [hs', State.setFrames_setFrames] at e1
    rw [hs'] at e2
    have h2 : (T.setVm s.vm).sameButNew ({ U with vm := s.vm } : State) [] (0 + 1) (0 + 6) := ⟨e1, e2⟩
    have h3 := X.same.trans h2
    rw [List.append_nil] at h3
    exact h3
  have hKI : KI (Gz z) ws U U.heap := by
    refine KI.moved hWs.alike ⟨hI.1, ?_, hI.2.2⟩
    exact hI.2.1.kept fun k q hk => hold.2 _ (hI.2.1 k q hk).lt
  have hSU : va_S (Gz z).2.2.1 s.heap U.heap locs := ⟨Nat.le_trans hS.1 hold.1, fun q h1 h2 => (hold.2 q (Nat.lt_of_lt_of_le h1 hS.1)).trans (hS.2.1 q h1 h2), hS.2.2⟩
  have hcl : s.vm.findClass cls = some ce.cls := by rw [← hvm]; exact hO.cls
  refine ⟨U, ?_, .threw T.heap.size, hrun, hend, hKI, hSU.F rfl, hWs, locs, hS.2.2, T.heap.size, ce, rfl, hce, hO.vm, hcl, hsm⟩
  refine st1 _ ?_
  show Steps p.tables e below (T1.setTop { method := m, pc := pc + 3, locals := ls, stack := .ref T.heap.size :: sk, locked := none }) _
  jvm_step X₁.here [X₁.here.top, hx, d3', Value.category]
  exact hsteps
end VK
end
