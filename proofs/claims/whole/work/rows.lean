section
-- ===== PART A: goes FIRST, ahead of the names: the tables' words, and 'selects' of the private methods out of them =====
/-- a private method of a class that the tables say can be made, by its rows of tables_1 -/
def lw_okq (q : MethodName × Nat) : Prop := (q.1.cls ≠ "java/lang/invoke/MethodHandle" ∧ q.1.cls ≠ "java/lang/invoke/VarHandle") ∧ Cond.instantiable q.1.cls q.2 ∈ tables_1 ∧ Cond.privateMethod q.1 ∈ tables_1 ∧ Cond.instanceMethod q.1 ∈ tables_1
theorem lw_p0 : lw_okq (⟨"java/lang/Throwable", "fillInStackTrace", "(I)Ljava/lang/Throwable;"⟩, 6) := ⟨⟨by decide +kernel, by decide +kernel⟩, List.mem_of_getElem? (i := 298) (by decide +kernel), List.mem_of_getElem? (i := 296) (by decide +kernel), List.mem_of_getElem? (i := 297) (by decide +kernel)⟩
theorem lw_p1 : lw_okq (⟨"CheckedMachine$Checker", "begin", "()V"⟩, 13) := ⟨⟨by decide +kernel, by decide +kernel⟩, List.mem_of_getElem? (i := 87) (by decide +kernel), List.mem_of_getElem? (i := 404) (by decide +kernel), List.mem_of_getElem? (i := 405) (by decide +kernel)⟩
theorem lw_p2 : lw_okq (⟨"CheckedMachine$Checker", "lookAt", "(I)I"⟩, 13) := ⟨⟨by decide +kernel, by decide +kernel⟩, List.mem_of_getElem? (i := 87) (by decide +kernel), List.mem_of_getElem? (i := 426) (by decide +kernel), List.mem_of_getElem? (i := 427) (by decide +kernel)⟩
theorem lw_p3 : lw_okq (⟨"CheckedMachine$Judge", "lacksTarget", "(LCheckedMachine$Step;I)Z"⟩, 2) := ⟨⟨by decide +kernel, by decide +kernel⟩, List.mem_of_getElem? (i := 111) (by decide +kernel), List.mem_of_getElem? (i := 435) (by decide +kernel), List.mem_of_getElem? (i := 436) (by decide +kernel)⟩
theorem lw_p4 : lw_okq (⟨"CheckedMachine$Judge", "usesEmpty", "(LCheckedMachine$Step;)Z"⟩, 2) := ⟨⟨by decide +kernel, by decide +kernel⟩, List.mem_of_getElem? (i := 111) (by decide +kernel), List.mem_of_getElem? (i := 444) (by decide +kernel), List.mem_of_getElem? (i := 445) (by decide +kernel)⟩
theorem lw_p5 : lw_okq (⟨"CheckedMachine$Judge", "hasWrongKind", "(LCheckedMachine$Step;)Z"⟩, 2) := ⟨⟨by decide +kernel, by decide +kernel⟩, List.mem_of_getElem? (i := 111) (by decide +kernel), List.mem_of_getElem? (i := 463) (by decide +kernel), List.mem_of_getElem? (i := 464) (by decide +kernel)⟩
theorem lw_p6 : lw_okq (⟨"CheckedMachine$Judge", "isRangeOrPlace", "(I)Z"⟩, 2) := ⟨⟨by decide +kernel, by decide +kernel⟩, List.mem_of_getElem? (i := 111) (by decide +kernel), List.mem_of_getElem? (i := 467) (by decide +kernel), List.mem_of_getElem? (i := 468) (by decide +kernel)⟩
theorem lw_p7 : lw_okq (⟨"CheckedMachine$Judge", "isMaybeMissing", "(LCheckedMachine$Step;)Z"⟩, 2) := ⟨⟨by decide +kernel, by decide +kernel⟩, List.mem_of_getElem? (i := 111) (by decide +kernel), List.mem_of_getElem? (i := 479) (by decide +kernel), List.mem_of_getElem? (i := 480) (by decide +kernel)⟩
theorem lw_p8 : lw_okq (⟨"CheckedMachine$Judge", "storesWrongKind", "(LCheckedMachine$Step;)Z"⟩, 2) := ⟨⟨by decide +kernel, by decide +kernel⟩, List.mem_of_getElem? (i := 111) (by decide +kernel), List.mem_of_getElem? (i := 487) (by decide +kernel), List.mem_of_getElem? (i := 488) (by decide +kernel)⟩
theorem lw_p9 : lw_okq (⟨"CheckedMachine$Judge", "isOneCellOfFrame", "(I)Z"⟩, 2) := ⟨⟨by decide +kernel, by decide +kernel⟩, List.mem_of_getElem? (i := 111) (by decide +kernel), List.mem_of_getElem? (i := 491) (by decide +kernel), List.mem_of_getElem? (i := 492) (by decide +kernel)⟩
theorem lw_p10 : lw_okq (⟨"CheckedMachine$Judge", "callsWithWrongKind", "(LCheckedMachine$Step;)Z"⟩, 2) := ⟨⟨by decide +kernel, by decide +kernel⟩, List.mem_of_getElem? (i := 111) (by decide +kernel), List.mem_of_getElem? (i := 503) (by decide +kernel), List.mem_of_getElem? (i := 504) (by decide +kernel)⟩
theorem lw_p11 : lw_okq (⟨"CheckedMachine$Judge", "storesOverNoRange", "(LCheckedMachine$Step;)Z"⟩, 2) := ⟨⟨by decide +kernel, by decide +kernel⟩, List.mem_of_getElem? (i := 111) (by decide +kernel), List.mem_of_getElem? (i := 507) (by decide +kernel), List.mem_of_getElem? (i := 508) (by decide +kernel)⟩
theorem lw_p12 : lw_okq (⟨"CheckedMachine$Judge", "goesOutside", "(LCheckedMachine$Step;)Z"⟩, 2) := ⟨⟨by decide +kernel, by decide +kernel⟩, List.mem_of_getElem? (i := 111) (by decide +kernel), List.mem_of_getElem? (i := 511) (by decide +kernel), List.mem_of_getElem? (i := 512) (by decide +kernel)⟩
theorem lw_p13 : lw_okq (⟨"CheckedMachine$Judge", "movesTooFar", "(IJJ)Z"⟩, 2) := ⟨⟨by decide +kernel, by decide +kernel⟩, List.mem_of_getElem? (i := 111) (by decide +kernel), List.mem_of_getElem? (i := 515) (by decide +kernel), List.mem_of_getElem? (i := 516) (by decide +kernel)⟩
theorem lw_p14 : lw_okq (⟨"CheckedMachine$Judge", "missesCells", "(IJ)Z"⟩, 2) := ⟨⟨by decide +kernel, by decide +kernel⟩, List.mem_of_getElem? (i := 111) (by decide +kernel), List.mem_of_getElem? (i := 521) (by decide +kernel), List.mem_of_getElem? (i := 522) (by decide +kernel)⟩
theorem lw_p15 : lw_okq (⟨"CheckedMachine$Judge", "loadsUnfitCell", "(LCheckedMachine$Step;)Z"⟩, 2) := ⟨⟨by decide +kernel, by decide +kernel⟩, List.mem_of_getElem? (i := 111) (by decide +kernel), List.mem_of_getElem? (i := 525) (by decide +kernel), List.mem_of_getElem? (i := 526) (by decide +kernel)⟩
def lw_privs_1 : List (MethodName × Nat) := [(⟨"java/lang/Throwable", "fillInStackTrace", "(I)Ljava/lang/Throwable;"⟩, 6), (⟨"CheckedMachine$Checker", "begin", "()V"⟩, 13), (⟨"CheckedMachine$Checker", "lookAt", "(I)I"⟩, 13), (⟨"CheckedMachine$Judge", "lacksTarget", "(LCheckedMachine$Step;I)Z"⟩, 2), (⟨"CheckedMachine$Judge", "usesEmpty", "(LCheckedMachine$Step;)Z"⟩, 2), (⟨"CheckedMachine$Judge", "hasWrongKind", "(LCheckedMachine$Step;)Z"⟩, 2), (⟨"CheckedMachine$Judge", "isRangeOrPlace", "(I)Z"⟩, 2), (⟨"CheckedMachine$Judge", "isMaybeMissing", "(LCheckedMachine$Step;)Z"⟩, 2), (⟨"CheckedMachine$Judge", "storesWrongKind", "(LCheckedMachine$Step;)Z"⟩, 2), (⟨"CheckedMachine$Judge", "isOneCellOfFrame", "(I)Z"⟩, 2), (⟨"CheckedMachine$Judge", "callsWithWrongKind", "(LCheckedMachine$Step;)Z"⟩, 2), (⟨"CheckedMachine$Judge", "storesOverNoRange", "(LCheckedMachine$Step;)Z"⟩, 2), (⟨"CheckedMachine$Judge", "goesOutside", "(LCheckedMachine$Step;)Z"⟩, 2), (⟨"CheckedMachine$Judge", "movesTooFar", "(IJJ)Z"⟩, 2), (⟨"CheckedMachine$Judge", "missesCells", "(IJ)Z"⟩, 2), (⟨"CheckedMachine$Judge", "loadsUnfitCell", "(LCheckedMachine$Step;)Z"⟩, 2)]
theorem lw_r1 : ∀ q ∈ lw_privs_1, lw_okq q := List.forall_mem_cons.mpr ⟨lw_p0, List.forall_mem_cons.mpr ⟨lw_p1, List.forall_mem_cons.mpr ⟨lw_p2, List.forall_mem_cons.mpr ⟨lw_p3, List.forall_mem_cons.mpr ⟨lw_p4, List.forall_mem_cons.mpr ⟨lw_p5, List.forall_mem_cons.mpr ⟨lw_p6, List.forall_mem_cons.mpr ⟨lw_p7, List.forall_mem_cons.mpr ⟨lw_p8, List.forall_mem_cons.mpr ⟨lw_p9, List.forall_mem_cons.mpr ⟨lw_p10, List.forall_mem_cons.mpr ⟨lw_p11, List.forall_mem_cons.mpr ⟨lw_p12, List.forall_mem_cons.mpr ⟨lw_p13, List.forall_mem_cons.mpr ⟨lw_p14, List.forall_mem_cons.mpr ⟨lw_p15, fun _ h => absurd h List.not_mem_nil⟩⟩⟩⟩⟩⟩⟩⟩⟩⟩⟩⟩⟩⟩⟩⟩
theorem lw_p16 : lw_okq (⟨"CheckedMachine$Judge", "findsNoRow", "(LCheckedMachine$Step;)Z"⟩, 2) := ⟨⟨by decide +kernel, by decide +kernel⟩, List.mem_of_getElem? (i := 111) (by decide +kernel), List.mem_of_getElem? (i := 529) (by decide +kernel), List.mem_of_getElem? (i := 530) (by decide +kernel)⟩
theorem lw_p17 : lw_okq (⟨"CheckedMachine$Checker", "reject", "(II)V"⟩, 13) := ⟨⟨by decide +kernel, by decide +kernel⟩, List.mem_of_getElem? (i := 87) (by decide +kernel), List.mem_of_getElem? (i := 538) (by decide +kernel), List.mem_of_getElem? (i := 539) (by decide +kernel)⟩
theorem lw_p18 : lw_okq (⟨"CheckedMachine$Checker", "growOutcomes", "(JJ)V"⟩, 13) := ⟨⟨by decide +kernel, by decide +kernel⟩, List.mem_of_getElem? (i := 87) (by decide +kernel), List.mem_of_getElem? (i := 544) (by decide +kernel), List.mem_of_getElem? (i := 545) (by decide +kernel)⟩
theorem lw_p19 : lw_okq (⟨"CheckedMachine$Checker", "takeUpLatest", "()I"⟩, 13) := ⟨⟨by decide +kernel, by decide +kernel⟩, List.mem_of_getElem? (i := 87) (by decide +kernel), List.mem_of_getElem? (i := 554) (by decide +kernel), List.mem_of_getElem? (i := 555) (by decide +kernel)⟩
theorem lw_p20 : lw_okq (⟨"CheckedMachine$Checker", "fork", "(LCheckedMachine$Step;I)I"⟩, 13) := ⟨⟨by decide +kernel, by decide +kernel⟩, List.mem_of_getElem? (i := 87) (by decide +kernel), List.mem_of_getElem? (i := 566) (by decide +kernel), List.mem_of_getElem? (i := 567) (by decide +kernel)⟩
theorem lw_p21 : lw_okq (⟨"CheckedMachine$Effects", "move", "(IJJ)V"⟩, 1) := ⟨⟨by decide +kernel, by decide +kernel⟩, List.mem_of_getElem? (i := 124) (by decide +kernel), List.mem_of_getElem? (i := 604) (by decide +kernel), List.mem_of_getElem? (i := 605) (by decide +kernel)⟩
theorem lw_p22 : lw_okq (⟨"CheckedMachine$Effects", "subtract", "(IJJ)V"⟩, 1) := ⟨⟨by decide +kernel, by decide +kernel⟩, List.mem_of_getElem? (i := 124) (by decide +kernel), List.mem_of_getElem? (i := 616) (by decide +kernel), List.mem_of_getElem? (i := 617) (by decide +kernel)⟩
theorem lw_p23 : lw_okq (⟨"CheckedMachine$Effects", "multiply", "(IJ)V"⟩, 1) := ⟨⟨by decide +kernel, by decide +kernel⟩, List.mem_of_getElem? (i := 124) (by decide +kernel), List.mem_of_getElem? (i := 623) (by decide +kernel), List.mem_of_getElem? (i := 624) (by decide +kernel)⟩
theorem lw_p24 : lw_okq (⟨"CheckedMachine$Effects", "mask", "(IJ)V"⟩, 1) := ⟨⟨by decide +kernel, by decide +kernel⟩, List.mem_of_getElem? (i := 124) (by decide +kernel), List.mem_of_getElem? (i := 638) (by decide +kernel), List.mem_of_getElem? (i := 639) (by decide +kernel)⟩
theorem lw_p25 : lw_okq (⟨"CheckedMachine$Effects", "divide", "(IJ)V"⟩, 1) := ⟨⟨by decide +kernel, by decide +kernel⟩, List.mem_of_getElem? (i := 124) (by decide +kernel), List.mem_of_getElem? (i := 643) (by decide +kernel), List.mem_of_getElem? (i := 644) (by decide +kernel)⟩
theorem lw_p26 : lw_okq (⟨"CheckedMachine$Effects", "negate", "(I)V"⟩, 1) := ⟨⟨by decide +kernel, by decide +kernel⟩, List.mem_of_getElem? (i := 124) (by decide +kernel), List.mem_of_getElem? (i := 649) (by decide +kernel), List.mem_of_getElem? (i := 650) (by decide +kernel)⟩
theorem lw_p27 : lw_okq (⟨"CheckedMachine$Effects", "load", "(LCheckedMachine$Step;)V"⟩, 1) := ⟨⟨by decide +kernel, by decide +kernel⟩, List.mem_of_getElem? (i := 124) (by decide +kernel), List.mem_of_getElem? (i := 653) (by decide +kernel), List.mem_of_getElem? (i := 654) (by decide +kernel)⟩
theorem lw_p28 : lw_okq (⟨"CheckedMachine$Effects", "store", "(LCheckedMachine$Step;)V"⟩, 1) := ⟨⟨by decide +kernel, by decide +kernel⟩, List.mem_of_getElem? (i := 124) (by decide +kernel), List.mem_of_getElem? (i := 661) (by decide +kernel), List.mem_of_getElem? (i := 662) (by decide +kernel)⟩
theorem lw_p29 : lw_okq (⟨"CheckedMachine$Effects", "call", "(I)V"⟩, 1) := ⟨⟨by decide +kernel, by decide +kernel⟩, List.mem_of_getElem? (i := 124) (by decide +kernel), List.mem_of_getElem? (i := 666) (by decide +kernel), List.mem_of_getElem? (i := 667) (by decide +kernel)⟩
theorem lw_p30 : lw_okq (⟨"CheckedMachine$Runner", "set", "(IIJ)V"⟩, 6) := ⟨⟨by decide +kernel, by decide +kernel⟩, List.mem_of_getElem? (i := 176) (by decide +kernel), List.mem_of_getElem? (i := 702) (by decide +kernel), List.mem_of_getElem? (i := 703) (by decide +kernel)⟩
theorem lw_p31 : lw_okq (⟨"CheckedMachine$Runner", "runStep", "(I)I"⟩, 6) := ⟨⟨by decide +kernel, by decide +kernel⟩, List.mem_of_getElem? (i := 176) (by decide +kernel), List.mem_of_getElem? (i := 706) (by decide +kernel), List.mem_of_getElem? (i := 707) (by decide +kernel)⟩
def lw_privs_2 : List (MethodName × Nat) := [(⟨"CheckedMachine$Judge", "findsNoRow", "(LCheckedMachine$Step;)Z"⟩, 2), (⟨"CheckedMachine$Checker", "reject", "(II)V"⟩, 13), (⟨"CheckedMachine$Checker", "growOutcomes", "(JJ)V"⟩, 13), (⟨"CheckedMachine$Checker", "takeUpLatest", "()I"⟩, 13), (⟨"CheckedMachine$Checker", "fork", "(LCheckedMachine$Step;I)I"⟩, 13), (⟨"CheckedMachine$Effects", "move", "(IJJ)V"⟩, 1), (⟨"CheckedMachine$Effects", "subtract", "(IJJ)V"⟩, 1), (⟨"CheckedMachine$Effects", "multiply", "(IJ)V"⟩, 1), (⟨"CheckedMachine$Effects", "mask", "(IJ)V"⟩, 1), (⟨"CheckedMachine$Effects", "divide", "(IJ)V"⟩, 1), (⟨"CheckedMachine$Effects", "negate", "(I)V"⟩, 1), (⟨"CheckedMachine$Effects", "load", "(LCheckedMachine$Step;)V"⟩, 1), (⟨"CheckedMachine$Effects", "store", "(LCheckedMachine$Step;)V"⟩, 1), (⟨"CheckedMachine$Effects", "call", "(I)V"⟩, 1), (⟨"CheckedMachine$Runner", "set", "(IIJ)V"⟩, 6), (⟨"CheckedMachine$Runner", "runStep", "(I)I"⟩, 6)]
theorem lw_r2 : ∀ q ∈ lw_privs_2, lw_okq q := List.forall_mem_cons.mpr ⟨lw_p16, List.forall_mem_cons.mpr ⟨lw_p17, List.forall_mem_cons.mpr ⟨lw_p18, List.forall_mem_cons.mpr ⟨lw_p19, List.forall_mem_cons.mpr ⟨lw_p20, List.forall_mem_cons.mpr ⟨lw_p21, List.forall_mem_cons.mpr ⟨lw_p22, List.forall_mem_cons.mpr ⟨lw_p23, List.forall_mem_cons.mpr ⟨lw_p24, List.forall_mem_cons.mpr ⟨lw_p25, List.forall_mem_cons.mpr ⟨lw_p26, List.forall_mem_cons.mpr ⟨lw_p27, List.forall_mem_cons.mpr ⟨lw_p28, List.forall_mem_cons.mpr ⟨lw_p29, List.forall_mem_cons.mpr ⟨lw_p30, List.forall_mem_cons.mpr ⟨lw_p31, fun _ h => absurd h List.not_mem_nil⟩⟩⟩⟩⟩⟩⟩⟩⟩⟩⟩⟩⟩⟩⟩⟩
theorem lw_p32 : lw_okq (⟨"CheckedMachine$Runner", "jumps", "(LCheckedMachine$Step;)Z"⟩, 6) := ⟨⟨by decide +kernel, by decide +kernel⟩, List.mem_of_getElem? (i := 176) (by decide +kernel), List.mem_of_getElem? (i := 712) (by decide +kernel), List.mem_of_getElem? (i := 713) (by decide +kernel)⟩
theorem lw_p33 : lw_okq (⟨"CheckedMachine$Runner", "reachOut", "(LCheckedMachine$Step;)V"⟩, 6) := ⟨⟨by decide +kernel, by decide +kernel⟩, List.mem_of_getElem? (i := 176) (by decide +kernel), List.mem_of_getElem? (i := 716) (by decide +kernel), List.mem_of_getElem? (i := 717) (by decide +kernel)⟩
theorem lw_p34 : lw_okq (⟨"CheckedMachine$Runner", "load", "(IIJ)V"⟩, 6) := ⟨⟨by decide +kernel, by decide +kernel⟩, List.mem_of_getElem? (i := 176) (by decide +kernel), List.mem_of_getElem? (i := 720) (by decide +kernel), List.mem_of_getElem? (i := 721) (by decide +kernel)⟩
theorem lw_p35 : lw_okq (⟨"CheckedMachine$Runner", "store", "(IIJ)V"⟩, 6) := ⟨⟨by decide +kernel, by decide +kernel⟩, List.mem_of_getElem? (i := 176) (by decide +kernel), List.mem_of_getElem? (i := 732) (by decide +kernel), List.mem_of_getElem? (i := 733) (by decide +kernel)⟩
theorem lw_p36 : lw_okq (⟨"CheckedMachine$Runner", "call", "(I)V"⟩, 6) := ⟨⟨by decide +kernel, by decide +kernel⟩, List.mem_of_getElem? (i := 176) (by decide +kernel), List.mem_of_getElem? (i := 740) (by decide +kernel), List.mem_of_getElem? (i := 741) (by decide +kernel)⟩
theorem lw_p37 : lw_okq (⟨"CheckedMachine$Runner", "findRow", "(J)V"⟩, 6) := ⟨⟨by decide +kernel, by decide +kernel⟩, List.mem_of_getElem? (i := 176) (by decide +kernel), List.mem_of_getElem? (i := 744) (by decide +kernel), List.mem_of_getElem? (i := 745) (by decide +kernel)⟩
theorem lw_p38 : lw_okq (⟨"CheckedMachine$Runner", "reckon", "(LCheckedMachine$Step;)V"⟩, 6) := ⟨⟨by decide +kernel, by decide +kernel⟩, List.mem_of_getElem? (i := 176) (by decide +kernel), List.mem_of_getElem? (i := 749) (by decide +kernel), List.mem_of_getElem? (i := 750) (by decide +kernel)⟩
theorem lw_p39 : lw_okq (⟨"CheckedMachineModel", "fits", "(IIII)Z"⟩, 26) := ⟨⟨by decide +kernel, by decide +kernel⟩, List.mem_of_getElem? (i := 786) (by decide +kernel), List.mem_of_getElem? (i := 879) (by decide +kernel), List.mem_of_getElem? (i := 880) (by decide +kernel)⟩
theorem lw_p40 : lw_okq (⟨"CheckedMachineModel", "bad", "(Z)Z"⟩, 26) := ⟨⟨by decide +kernel, by decide +kernel⟩, List.mem_of_getElem? (i := 786) (by decide +kernel), List.mem_of_getElem? (i := 889) (by decide +kernel), List.mem_of_getElem? (i := 890) (by decide +kernel)⟩
theorem lw_p41 : lw_okq (⟨"CheckedMachineModel", "set", "(IIIIII)V"⟩, 26) := ⟨⟨by decide +kernel, by decide +kernel⟩, List.mem_of_getElem? (i := 786) (by decide +kernel), List.mem_of_getElem? (i := 893) (by decide +kernel), List.mem_of_getElem? (i := 894) (by decide +kernel)⟩
theorem lw_p42 : lw_okq (⟨"CheckedMachineModel", "know", "(IIJJ)V"⟩, 26) := ⟨⟨by decide +kernel, by decide +kernel⟩, List.mem_of_getElem? (i := 786) (by decide +kernel), List.mem_of_getElem? (i := 909) (by decide +kernel), List.mem_of_getElem? (i := 910) (by decide +kernel)⟩
theorem lw_p43 : lw_okq (⟨"CheckedMachineModel", "anything", "(I)V"⟩, 26) := ⟨⟨by decide +kernel, by decide +kernel⟩, List.mem_of_getElem? (i := 786) (by decide +kernel), List.mem_of_getElem? (i := 913) (by decide +kernel), List.mem_of_getElem? (i := 914) (by decide +kernel)⟩
theorem lw_p44 : lw_okq (⟨"CheckedMachineModel", "reasonAt", "(I)I"⟩, 26) := ⟨⟨by decide +kernel, by decide +kernel⟩, List.mem_of_getElem? (i := 786) (by decide +kernel), List.mem_of_getElem? (i := 919) (by decide +kernel), List.mem_of_getElem? (i := 920) (by decide +kernel)⟩
theorem lw_p45 : lw_okq (⟨"CheckedMachineModel", "empties", "(I)Z"⟩, 26) := ⟨⟨by decide +kernel, by decide +kernel⟩, List.mem_of_getElem? (i := 786) (by decide +kernel), List.mem_of_getElem? (i := 925) (by decide +kernel), List.mem_of_getElem? (i := 926) (by decide +kernel)⟩
theorem lw_p46 : lw_okq (⟨"CheckedMachineModel", "usesD", "(I)Z"⟩, 26) := ⟨⟨by decide +kernel, by decide +kernel⟩, List.mem_of_getElem? (i := 786) (by decide +kernel), List.mem_of_getElem? (i := 929) (by decide +kernel), List.mem_of_getElem? (i := 930) (by decide +kernel)⟩
theorem lw_p47 : lw_okq (⟨"CheckedMachineModel", "usesS", "(I)Z"⟩, 26) := ⟨⟨by decide +kernel, by decide +kernel⟩, List.mem_of_getElem? (i := 786) (by decide +kernel), List.mem_of_getElem? (i := 933) (by decide +kernel), List.mem_of_getElem? (i := 934) (by decide +kernel)⟩
def lw_privs_3 : List (MethodName × Nat) := [(⟨"CheckedMachine$Runner", "jumps", "(LCheckedMachine$Step;)Z"⟩, 6), (⟨"CheckedMachine$Runner", "reachOut", "(LCheckedMachine$Step;)V"⟩, 6), (⟨"CheckedMachine$Runner", "load", "(IIJ)V"⟩, 6), (⟨"CheckedMachine$Runner", "store", "(IIJ)V"⟩, 6), (⟨"CheckedMachine$Runner", "call", "(I)V"⟩, 6), (⟨"CheckedMachine$Runner", "findRow", "(J)V"⟩, 6), (⟨"CheckedMachine$Runner", "reckon", "(LCheckedMachine$Step;)V"⟩, 6), (⟨"CheckedMachineModel", "fits", "(IIII)Z"⟩, 26), (⟨"CheckedMachineModel", "bad", "(Z)Z"⟩, 26), (⟨"CheckedMachineModel", "set", "(IIIIII)V"⟩, 26), (⟨"CheckedMachineModel", "know", "(IIJJ)V"⟩, 26), (⟨"CheckedMachineModel", "anything", "(I)V"⟩, 26), (⟨"CheckedMachineModel", "reasonAt", "(I)I"⟩, 26), (⟨"CheckedMachineModel", "empties", "(I)Z"⟩, 26), (⟨"CheckedMachineModel", "usesD", "(I)Z"⟩, 26), (⟨"CheckedMachineModel", "usesS", "(I)Z"⟩, 26)]
theorem lw_r3 : ∀ q ∈ lw_privs_3, lw_okq q := List.forall_mem_cons.mpr ⟨lw_p32, List.forall_mem_cons.mpr ⟨lw_p33, List.forall_mem_cons.mpr ⟨lw_p34, List.forall_mem_cons.mpr ⟨lw_p35, List.forall_mem_cons.mpr ⟨lw_p36, List.forall_mem_cons.mpr ⟨lw_p37, List.forall_mem_cons.mpr ⟨lw_p38, List.forall_mem_cons.mpr ⟨lw_p39, List.forall_mem_cons.mpr ⟨lw_p40, List.forall_mem_cons.mpr ⟨lw_p41, List.forall_mem_cons.mpr ⟨lw_p42, List.forall_mem_cons.mpr ⟨lw_p43, List.forall_mem_cons.mpr ⟨lw_p44, List.forall_mem_cons.mpr ⟨lw_p45, List.forall_mem_cons.mpr ⟨lw_p46, List.forall_mem_cons.mpr ⟨lw_p47, fun _ h => absurd h List.not_mem_nil⟩⟩⟩⟩⟩⟩⟩⟩⟩⟩⟩⟩⟩⟩⟩⟩
theorem lw_p48 : lw_okq (⟨"CheckedMachineModel", "wrongNumber", "(I)Z"⟩, 26) := ⟨⟨by decide +kernel, by decide +kernel⟩, List.mem_of_getElem? (i := 786) (by decide +kernel), List.mem_of_getElem? (i := 937) (by decide +kernel), List.mem_of_getElem? (i := 938) (by decide +kernel)⟩
theorem lw_p49 : lw_okq (⟨"CheckedMachineModel", "wrongKind", "(I)Z"⟩, 26) := ⟨⟨by decide +kernel, by decide +kernel⟩, List.mem_of_getElem? (i := 786) (by decide +kernel), List.mem_of_getElem? (i := 943) (by decide +kernel), List.mem_of_getElem? (i := 944) (by decide +kernel)⟩
theorem lw_p50 : lw_okq (⟨"CheckedMachineModel", "place", "(I)Z"⟩, 26) := ⟨⟨by decide +kernel, by decide +kernel⟩, List.mem_of_getElem? (i := 786) (by decide +kernel), List.mem_of_getElem? (i := 947) (by decide +kernel), List.mem_of_getElem? (i := 948) (by decide +kernel)⟩
theorem lw_p51 : lw_okq (⟨"CheckedMachineModel", "wrongStore", "(I)Z"⟩, 26) := ⟨⟨by decide +kernel, by decide +kernel⟩, List.mem_of_getElem? (i := 786) (by decide +kernel), List.mem_of_getElem? (i := 951) (by decide +kernel), List.mem_of_getElem? (i := 952) (by decide +kernel)⟩
theorem lw_p52 : lw_okq (⟨"CheckedMachineModel", "wrongPlace", "(I)Z"⟩, 26) := ⟨⟨by decide +kernel, by decide +kernel⟩, List.mem_of_getElem? (i := 786) (by decide +kernel), List.mem_of_getElem? (i := 955) (by decide +kernel), List.mem_of_getElem? (i := 956) (by decide +kernel)⟩
theorem lw_p53 : lw_okq (⟨"CheckedMachineModel", "wrongCells", "(I)Z"⟩, 26) := ⟨⟨by decide +kernel, by decide +kernel⟩, List.mem_of_getElem? (i := 786) (by decide +kernel), List.mem_of_getElem? (i := 964) (by decide +kernel), List.mem_of_getElem? (i := 965) (by decide +kernel)⟩
theorem lw_p54 : lw_okq (⟨"CheckedMachineModel", "goOn", "(I)Z"⟩, 26) := ⟨⟨by decide +kernel, by decide +kernel⟩, List.mem_of_getElem? (i := 786) (by decide +kernel), List.mem_of_getElem? (i := 969) (by decide +kernel), List.mem_of_getElem? (i := 970) (by decide +kernel)⟩
theorem lw_p55 : lw_okq (⟨"CheckedMachineModel", "copy", "(II)V"⟩, 26) := ⟨⟨by decide +kernel, by decide +kernel⟩, List.mem_of_getElem? (i := 786) (by decide +kernel), List.mem_of_getElem? (i := 973) (by decide +kernel), List.mem_of_getElem? (i := 974) (by decide +kernel)⟩
theorem lw_p56 : lw_okq (⟨"CheckedMachineModel", "move", "(IJJ)V"⟩, 26) := ⟨⟨by decide +kernel, by decide +kernel⟩, List.mem_of_getElem? (i := 786) (by decide +kernel), List.mem_of_getElem? (i := 977) (by decide +kernel), List.mem_of_getElem? (i := 978) (by decide +kernel)⟩
theorem lw_p57 : lw_okq (⟨"CheckedMachineModel", "subtract", "(II)V"⟩, 26) := ⟨⟨by decide +kernel, by decide +kernel⟩, List.mem_of_getElem? (i := 786) (by decide +kernel), List.mem_of_getElem? (i := 981) (by decide +kernel), List.mem_of_getElem? (i := 982) (by decide +kernel)⟩
theorem lw_p58 : lw_okq (⟨"CheckedMachineModel", "arithmetic", "(IIJ)V"⟩, 26) := ⟨⟨by decide +kernel, by decide +kernel⟩, List.mem_of_getElem? (i := 786) (by decide +kernel), List.mem_of_getElem? (i := 985) (by decide +kernel), List.mem_of_getElem? (i := 986) (by decide +kernel)⟩
theorem lw_p59 : lw_okq (⟨"CheckedMachineModel", "spread", "(IJJ)V"⟩, 26) := ⟨⟨by decide +kernel, by decide +kernel⟩, List.mem_of_getElem? (i := 786) (by decide +kernel), List.mem_of_getElem? (i := 991) (by decide +kernel), List.mem_of_getElem? (i := 992) (by decide +kernel)⟩
theorem lw_p60 : lw_okq (⟨"CheckedMachineModel", "and", "(IJ)V"⟩, 26) := ⟨⟨by decide +kernel, by decide +kernel⟩, List.mem_of_getElem? (i := 786) (by decide +kernel), List.mem_of_getElem? (i := 995) (by decide +kernel), List.mem_of_getElem? (i := 996) (by decide +kernel)⟩
theorem lw_p61 : lw_okq (⟨"CheckedMachineModel", "branch", "(I)V"⟩, 26) := ⟨⟨by decide +kernel, by decide +kernel⟩, List.mem_of_getElem? (i := 786) (by decide +kernel), List.mem_of_getElem? (i := 1000) (by decide +kernel), List.mem_of_getElem? (i := 1001) (by decide +kernel)⟩
theorem lw_p62 : lw_okq (⟨"CheckedMachineModel", "push", "(I)V"⟩, 26) := ⟨⟨by decide +kernel, by decide +kernel⟩, List.mem_of_getElem? (i := 786) (by decide +kernel), List.mem_of_getElem? (i := 1004) (by decide +kernel), List.mem_of_getElem? (i := 1005) (by decide +kernel)⟩
theorem lw_p63 : lw_okq (⟨"CheckedMachineModel", "pop", "()V"⟩, 26) := ⟨⟨by decide +kernel, by decide +kernel⟩, List.mem_of_getElem? (i := 786) (by decide +kernel), List.mem_of_getElem? (i := 1008) (by decide +kernel), List.mem_of_getElem? (i := 1009) (by decide +kernel)⟩
def lw_privs_4 : List (MethodName × Nat) := [(⟨"CheckedMachineModel", "wrongNumber", "(I)Z"⟩, 26), (⟨"CheckedMachineModel", "wrongKind", "(I)Z"⟩, 26), (⟨"CheckedMachineModel", "place", "(I)Z"⟩, 26), (⟨"CheckedMachineModel", "wrongStore", "(I)Z"⟩, 26), (⟨"CheckedMachineModel", "wrongPlace", "(I)Z"⟩, 26), (⟨"CheckedMachineModel", "wrongCells", "(I)Z"⟩, 26), (⟨"CheckedMachineModel", "goOn", "(I)Z"⟩, 26), (⟨"CheckedMachineModel", "copy", "(II)V"⟩, 26), (⟨"CheckedMachineModel", "move", "(IJJ)V"⟩, 26), (⟨"CheckedMachineModel", "subtract", "(II)V"⟩, 26), (⟨"CheckedMachineModel", "arithmetic", "(IIJ)V"⟩, 26), (⟨"CheckedMachineModel", "spread", "(IJJ)V"⟩, 26), (⟨"CheckedMachineModel", "and", "(IJ)V"⟩, 26), (⟨"CheckedMachineModel", "branch", "(I)V"⟩, 26), (⟨"CheckedMachineModel", "push", "(I)V"⟩, 26), (⟨"CheckedMachineModel", "pop", "()V"⟩, 26)]
theorem lw_r4 : ∀ q ∈ lw_privs_4, lw_okq q := List.forall_mem_cons.mpr ⟨lw_p48, List.forall_mem_cons.mpr ⟨lw_p49, List.forall_mem_cons.mpr ⟨lw_p50, List.forall_mem_cons.mpr ⟨lw_p51, List.forall_mem_cons.mpr ⟨lw_p52, List.forall_mem_cons.mpr ⟨lw_p53, List.forall_mem_cons.mpr ⟨lw_p54, List.forall_mem_cons.mpr ⟨lw_p55, List.forall_mem_cons.mpr ⟨lw_p56, List.forall_mem_cons.mpr ⟨lw_p57, List.forall_mem_cons.mpr ⟨lw_p58, List.forall_mem_cons.mpr ⟨lw_p59, List.forall_mem_cons.mpr ⟨lw_p60, List.forall_mem_cons.mpr ⟨lw_p61, List.forall_mem_cons.mpr ⟨lw_p62, List.forall_mem_cons.mpr ⟨lw_p63, fun _ h => absurd h List.not_mem_nil⟩⟩⟩⟩⟩⟩⟩⟩⟩⟩⟩⟩⟩⟩⟩⟩
theorem lw_p64 : lw_okq (⟨"CheckedMachineModel", "load", "(I)V"⟩, 26) := ⟨⟨by decide +kernel, by decide +kernel⟩, List.mem_of_getElem? (i := 786) (by decide +kernel), List.mem_of_getElem? (i := 1012) (by decide +kernel), List.mem_of_getElem? (i := 1013) (by decide +kernel)⟩
theorem lw_p65 : lw_okq (⟨"CheckedMachineModel", "store", "(I)V"⟩, 26) := ⟨⟨by decide +kernel, by decide +kernel⟩, List.mem_of_getElem? (i := 786) (by decide +kernel), List.mem_of_getElem? (i := 1016) (by decide +kernel), List.mem_of_getElem? (i := 1017) (by decide +kernel)⟩
theorem lw_p66 : lw_okq (⟨"CheckedMachineModel", "callGuess", "(I)V"⟩, 26) := ⟨⟨by decide +kernel, by decide +kernel⟩, List.mem_of_getElem? (i := 786) (by decide +kernel), List.mem_of_getElem? (i := 1020) (by decide +kernel), List.mem_of_getElem? (i := 1021) (by decide +kernel)⟩
theorem lw_p67 : lw_okq (⟨"CheckedMachineModel", "leave", "()V"⟩, 26) := ⟨⟨by decide +kernel, by decide +kernel⟩, List.mem_of_getElem? (i := 786) (by decide +kernel), List.mem_of_getElem? (i := 1025) (by decide +kernel), List.mem_of_getElem? (i := 1026) (by decide +kernel)⟩
theorem lw_p68 : lw_okq (⟨"CheckedMachineModel", "compute", "(I)V"⟩, 26) := ⟨⟨by decide +kernel, by decide +kernel⟩, List.mem_of_getElem? (i := 786) (by decide +kernel), List.mem_of_getElem? (i := 1033) (by decide +kernel), List.mem_of_getElem? (i := 1034) (by decide +kernel)⟩
theorem lw_p69 : lw_okq (⟨"CheckedMachineModel", "above", "(I)Z"⟩, 26) := ⟨⟨by decide +kernel, by decide +kernel⟩, List.mem_of_getElem? (i := 786) (by decide +kernel), List.mem_of_getElem? (i := 1037) (by decide +kernel), List.mem_of_getElem? (i := 1038) (by decide +kernel)⟩
theorem lw_p70 : lw_okq (⟨"CheckedMachineModel", "transfer", "(IZ)V"⟩, 26) := ⟨⟨by decide +kernel, by decide +kernel⟩, List.mem_of_getElem? (i := 786) (by decide +kernel), List.mem_of_getElem? (i := 1041) (by decide +kernel), List.mem_of_getElem? (i := 1042) (by decide +kernel)⟩
theorem lw_p71 : lw_okq (⟨"CheckedMachineModel", "callNow", "(I)V"⟩, 26) := ⟨⟨by decide +kernel, by decide +kernel⟩, List.mem_of_getElem? (i := 786) (by decide +kernel), List.mem_of_getElem? (i := 1045) (by decide +kernel), List.mem_of_getElem? (i := 1046) (by decide +kernel)⟩
def lw_privs_5 : List (MethodName × Nat) := [(⟨"CheckedMachineModel", "load", "(I)V"⟩, 26), (⟨"CheckedMachineModel", "store", "(I)V"⟩, 26), (⟨"CheckedMachineModel", "callGuess", "(I)V"⟩, 26), (⟨"CheckedMachineModel", "leave", "()V"⟩, 26), (⟨"CheckedMachineModel", "compute", "(I)V"⟩, 26), (⟨"CheckedMachineModel", "above", "(I)Z"⟩, 26), (⟨"CheckedMachineModel", "transfer", "(IZ)V"⟩, 26), (⟨"CheckedMachineModel", "callNow", "(I)V"⟩, 26)]
theorem lw_r5 : ∀ q ∈ lw_privs_5, lw_okq q := List.forall_mem_cons.mpr ⟨lw_p64, List.forall_mem_cons.mpr ⟨lw_p65, List.forall_mem_cons.mpr ⟨lw_p66, List.forall_mem_cons.mpr ⟨lw_p67, List.forall_mem_cons.mpr ⟨lw_p68, List.forall_mem_cons.mpr ⟨lw_p69, List.forall_mem_cons.mpr ⟨lw_p70, List.forall_mem_cons.mpr ⟨lw_p71, fun _ h => absurd h List.not_mem_nil⟩⟩⟩⟩⟩⟩⟩⟩
def lw_privs : List (MethodName × Nat) := lw_privs_1 ++ (lw_privs_2 ++ (lw_privs_3 ++ (lw_privs_4 ++ (lw_privs_5))))
def lw_tbl : List Cond := k2_sels lw_privs ++ tables_1
theorem lw_privs_ok : ∀ q ∈ lw_privs, lw_okq q := by
  show ∀ q ∈ lw_privs_1 ++ (lw_privs_2 ++ (lw_privs_3 ++ (lw_privs_4 ++ (lw_privs_5)))), lw_okq q
  exact List.forall_mem_append.mpr ⟨lw_r1, List.forall_mem_append.mpr ⟨lw_r2, List.forall_mem_append.mpr ⟨lw_r3, List.forall_mem_append.mpr ⟨lw_r4, lw_r5⟩⟩⟩⟩
-- ===== end of PART A; then your names; then what follows =====
end
section
/-! THE WALK OVER ONE WORLD OF NUMBERED CELLS. A cell's number is a pair (kind, place); the world's contents are a function of the numbers. -/
abbrev x_I : Type := Nat × Nat
/-- tables' numbers, classes, array classes, the cells' numbers, their addresses -/
abbrev x_K : Type := va_G × List vw_C × List (ClassId × FieldType) × List x_I × (x_I → Nat)
abbrev x_cl (κ : x_K) : List vw_C := κ.2.1
abbrev x_ty (κ : x_K) : List (ClassId × FieldType) := κ.2.2.1
abbrev x_ids (κ : x_K) : List x_I := κ.2.2.2.1
abbrev x_ad (κ : x_K) : x_I → Nat := κ.2.2.2.2
def x_wd (κ : x_K) (f : x_I → va_E) : va_W := (x_ids κ).map (fun i => (x_ad κ i, f i))
def x_up (f : x_I → va_E) (i : x_I) (e : va_E) : x_I → va_E := fun j => if j = i then e else f j
def x_ok (κ : x_K) : Prop := (x_ids κ).Nodup ∧ ∀ i ∈ x_ids κ, ∀ j ∈ x_ids κ, x_ad κ i = x_ad κ j → i = j
def x_A (κ : x_K) (sz : Nat) : Nat → Prop := fun q => (∃ i ∈ x_ids κ, x_ad κ i = q) ∨ sz ≤ q
theorem x_nth {κ : x_K} {f : x_I → va_E} {k : Nat} {q : Nat × va_E} (h : (x_wd κ f)[k]? = some q) : ∃ i, (x_ids κ)[k]? = some i ∧ i ∈ x_ids κ ∧ q = (x_ad κ i, f i) := by
  unfold x_wd at h
  rw [List.getElem?_map] at h
  cases hi : (x_ids κ)[k]? with
  | none => rw [hi] at h; cases h
  | some i => rw [hi] at h; exact ⟨i, rfl, List.mem_of_getElem? hi, (Option.some.inj h).symm⟩
theorem x_at {κ : x_K} {f : x_I → va_E} {i : x_I} (h : i ∈ x_ids κ) : ∃ k : Nat, (x_wd κ f)[k]? = some (x_ad κ i, f i) := by
  obtain ⟨k, hk⟩ := List.getElem?_of_mem h
  exact ⟨k, by unfold x_wd; rw [List.getElem?_map, hk]; rfl⟩
theorem x_D {κ : x_K} (h : x_ok κ) (f : x_I → va_E) (sz : Nat) : va_D (x_A κ sz) (x_wd κ f) := by
  refine ⟨fun i j p q hi hj hpq => ?_, fun k q hk => ?_⟩
  · obtain ⟨a, a1, a2, rfl⟩ := x_nth hi
    obtain ⟨b, b1, b2, rfl⟩ := x_nth hj
    have hab : a = b := h.2 a a2 b b2 hpq
    subst hab
    have hi' := (List.getElem?_eq_some_iff.mp a1).1
    exact (List.getElem?_inj hi' h.1).mp (a1.trans b1.symm)
  · obtain ⟨a, a1, a2, rfl⟩ := x_nth hk
    exact Or.inl ⟨a, a2, rfl⟩
theorem x_set {κ : x_K} (h : x_ok κ) {f : x_I → va_E} {i : x_I} {k : Nat} (hm : i ∈ x_ids κ) (hk : (x_wd κ f)[k]? = some (x_ad κ i, f i)) (e : va_E) : (x_wd κ f).set k (x_ad κ i, e) = x_wd κ (x_up f i e) := by
  obtain ⟨a, a1, a2, he⟩ := x_nth hk
  have hai : a = i := h.2 a a2 i hm (congrArg Prod.fst he).symm
  subst hai
  have hlt := (List.getElem?_eq_some_iff.mp hk).1
  refine List.ext_getElem? fun j => ?_
  by_cases hj : j = k
  · subst hj
    rw [List.getElem?_set_self hlt]
    unfold x_wd
    rw [List.getElem?_map, a1]
    simp [x_up]
  · rw [List.getElem?_set_ne (Ne.symm hj)]
    unfold x_wd
    rw [List.getElem?_map, List.getElem?_map]
    cases hb : (x_ids κ)[j]? with
    | none => rfl
    | some b =>
      have hne : b ≠ a := fun e1 => by
        subst e1
        exact hj ((List.getElem?_inj (List.getElem?_eq_some_iff.mp hb).1 h.1).mp (hb.trans a1.symm))
      simp [x_up, hne]
section Walk
variable {p : Program} {l : Launch} {e : Env} {R : Room} {s : State} {m : MethodId} {args : Array Value} {below : List Frame} {meth : Method} {c : Code} {cells slots : Nat} {Q : State → Prop}
variable {cc : ByteArray} {nL : Nat} {own : String} {Ts : List Cond} {κ : x_K} {f : x_I → va_E} {pc : Nat} {lv lv' : List (Nat × Value)} {st : List Value}
/-- what a method's walk stands on -/
def x_C (p : Program) (s : State) (m : MethodId) (args : Array Value) (c : Code) (cc : ByteArray) (nL : Nat) (own : String) (Ts : List Cond) (κ : x_K) : Prop :=
  CallFix p m c cc nL s args Ts own ∧ va_K κ.1 (x_cl κ) (x_ty κ) s ∧ x_ok κ
/-- the machine at pc, with these locals and this stack, in any heap that holds the world f -/
def x_V (p : Program) (l : Launch) (e : Env) (R : Room) (s : State) (m : MethodId) (args : Array Value) (below : List Frame) (meth : Method) (c : Code) (κ : x_K) (nL cells slots : Nat) (Q : State → Prop) (f : x_I → va_E) (pc : Nat) (lv : List (Nat × Value)) (st : List Value) : Prop :=
  ∀ (H : Heap) (locs : List Loc) (ls : Array Slot), va_P κ.1 (x_cl κ) (x_wd κ f) H → va_S (x_A κ s.heap.size) s.heap H locs → lv_has ls nL lv → W p l e R s m args below meth c H locs cells slots Q (F0 m pc ls st)
/-- the end of a method: its answer and the world behind it -/
def x_Q {σ : Type} (κ : x_K) (F : σ → x_I → va_E) (X : Option Value × σ) (sz : Nat) : Array Value → State → Outcome → State → Prop := fun _ st o t =>
  o = .returned X.1 ∧ va_P κ.1 (x_cl κ) (x_wd κ (F X.2)) t.heap ∧ va_F (x_A κ sz) st t
/-- A CONTRACT: called with the values vs in the world F a, the method ends with X; mc cells of ms slots may be new -/
def x_M {σ : Type} (l : Launch) (y : MethodName) (w : List Cond) (rm : Room) (κ : x_K) (F : σ → x_I → va_E) (vs : List Value) (a : σ) (X : Option Value × σ) (mc ms : Nat) : Prop :=
  ∀ sz : Nat, Met l y w rm (va_Pc vs (fun U => U.heap.size = sz ∧ va_P κ.1 (x_cl κ) (x_wd κ (F a)) U.heap ∧ va_K κ.1 (x_cl κ) (x_ty κ) U)) (x_Q κ F X sz) mc ms (x_A κ sz)
/-- what a walk owes at its end: X is 'wr q' -/
def x_E {σ τ : Type} (below : List Frame) (κ : x_K) (args : Array Value) (s : State) (mc ms : Nat) (F : σ → x_I → va_E) (wr : τ → Option Value × σ) (q : τ) : State → Prop :=
  MQ below (x_Q κ F (wr q) s.heap.size) args s mc ms (x_A κ s.heap.size)
theorem x_start {σ τ : Type} {y : MethodName} {w w' : List Cond} {rm : Room} {F : σ → x_I → va_E} {vs : List Value} {a : σ} {wr : τ → Option Value × σ} {q : τ} {mc ms maxL : Nat} {ret : Option FieldType} (ok : x_ok κ) (hy : plainName y.cls = true) (hw : w = Cond.code y cc maxL ret :: w') (hlen : (lg_sl vs).length ≤ maxL) {lv0 : List (Nat × Value)} (hlv : lv_args 0 vs = lv0)
    (body : ∀ (p : Program) (e : Env) (s : State) (m : MethodId) (below : List Frame) (meth : Method) (c : Code), x_C p s m vs.toArray c cc maxL y.cls w κ → meth.sig.returnType = ret → meth.locks = false → x_V p l e rm s m vs.toArray below meth c κ maxL 0 0 (x_E below κ vs.toArray s mc ms F wr q) (F a) 0 lv0 []) : x_M l y w rm κ F vs a (wr q) mc ms := by
  intro sz
  refine Met.ofW (cc := cc) (maxL := maxL) (ret := ret) hy hw ?_
  intro p e s m args below meth c s₁ B hml hv
  obtain ⟨rfl, hsz, hP, hK⟩ := hv
  subst hsz
  have hown : s.vm.findClass y.cls = some m.cls := findClass_of_methodNamed B.named
  have hl := lv_entry vs (n := maxL) hlen
  rw [hlv] at hl
  rw [lg_entry_eq]
  exact body p e s m below meth c ⟨⟨B.exec, B.bytes, hml, hown, atoms_spec (ws := w) B.pre⟩, hK, ok⟩ B.returns B.notSynchronized s.heap [] _ hP va_S.rf hl
/-- behind a call -/
theorem x_call {σ : Type} {F : σ → x_I → va_E} {a : σ} {X : Option Value × σ} {mc ms : Nat} {rest st0 : List Value} {args' : Array Value}
    (hr : ∀ (H : Heap) (locs : List Loc) (ls : Array Slot), va_P κ.1 (x_cl κ) (x_wd κ (F a)) H → lv_has ls nL lv → va_Run p l e R s m args below meth c H locs cells slots mc ms (F0 m pc ls st0) rest (x_Q κ F X H.size args') (x_A κ H.size))
    (kk : x_V p l e R s m args below meth c κ nL (cells + mc) (slots + ms) Q (F X.2) (pc + 3) lv (X.1.toList ++ rest)) : x_V p l e R s m args below meth c κ nL cells slots Q (F a) pc lv st0 := by
  intro H locs ls hP hS hl T hT Y
  obtain ⟨v, st₀, t, T', L, h0, Y', hL, e1, e2, ⟨hv, hP', hz, hk⟩, go⟩ := hr H locs ls hP hl T hT Y
  cases hv
  rw [h0] at hz hk
  have hin : ∀ z, z < s.heap.size → x_A κ H.size z → x_A κ s.heap.size z := fun z hz1 h => by
    rcases h with h | h
    · exact Or.inl h
    · have := hS.1
      omega
  have hS' : va_S (x_A κ s.heap.size) s.heap T'.heap (locs ++ L) := by
    refine ⟨Nat.le_trans hS.1 (by rw [e1]; exact hz), fun z h1 h2 => ?_, fun z hz1 => ?_⟩
    · rw [e1, hk z (Nat.lt_of_lt_of_le h1 hS.1) (fun h => h2 (hin z h1 h))]
      exact hS.2.1 z h1 h2
    · rcases List.mem_append.mp hz1 with h | h
      · exact hS.2.2 z h
      · rcases hL z h with h9 | h9
        · exact Or.inl h9
        · exact Or.inr (Nat.le_trans hS.1 h9)
  obtain ⟨t2, a1, b1⟩ := kk T'.heap (locs ++ L) ls (by rw [e1]; exact hP') hS' hl T' rfl Y'
  exact ⟨t2, go t2 a1, b1⟩
theorem x_blind {σ : Type} {F : σ → x_I → va_E} {vs : List Value} {a : σ} {sz : Nat} : FrameBlind (va_Pc vs (fun U => U.heap.size = sz ∧ va_P κ.1 (x_cl κ) (x_wd κ (F a)) U.heap ∧ va_K κ.1 (x_cl κ) (x_ty κ) U)) :=
  fun a U g mk q => by
    obtain ⟨q0, q1, q2, q3⟩ := q
    exact ⟨q0, q1, q2, va_K.moved (u := U) (U := U.calling g mk a) (Vm.Alike.refl U.vm) q3⟩
theorem x_callV {σ : Type} {F : σ → x_I → va_E} {a : σ} {X : Option Value × σ} {mc ms maxL n index ci : Nat} {rest As : List Value} {y : MethodName} {w : List Cond} {rm : Room} {bytes : ByteArray} {ret : Option FieldType} {Cn : String} {i : x_I} {vc : vw_C} {fs : List Value}
    (C : x_C p s m args c cc nL own Ts κ) (hM : x_M l y w rm κ F (.ref (x_ad κ i) :: As) a X mc ms) (cw : CallW R s args own Cn index y bytes maxL ret w rm mc ms n)
    (hi : i ∈ x_ids κ) (hf : F a i = .inr (ci, fs)) (hc : (x_cl κ)[ci]? = some vc) (hcn : vc.1 = Cn) (hn : As.length = n) {st0 : List Value} (hst : st0 = As.reverse ++ .ref (x_ad κ i) :: rest) (hW : (rest.map fun v => v.category).sum ≤ 8) (hd : decode cc pc = .ok (.invokevirtual index, 3)) (hroom : cells + mc ≤ R.cells ∧ slots + ms ≤ R.slots)
    (kk : x_V p l e R s m args below meth c κ nL (cells + mc) (slots + ms) Q (F X.2) (pc + 3) lv (X.1.toList ++ rest)) : x_V p l e R s m args below meth c κ nL cells slots Q (F a) pc lv st0 := by
  refine x_call (X := X) (args' := (Value.ref (x_ad κ i) :: As).toArray) (rest := rest) (fun H locs ls hP hl => ?_) kk
  obtain ⟨k, hk⟩ := x_at (f := F a) hi
  have hrecv := va_recv C.2.1 hP hc (hk.trans (by rw [hf]))
  rw [hcn] at hrecv
  exact va_runV (As := As) (rest := rest) C.1 (hM H.size) cw ⟨x_blind, hrecv, fun U hU hW => ⟨rfl, by rw [hU], by rw [hU]; exact hP, va_K.moved hW.alike C.2.1⟩⟩ rfl hn hl.1 hst (lv_room hW) hd hroom
theorem x_callS {σ : Type} {F : σ → x_I → va_E} {a : σ} {X : Option Value × σ} {mc ms maxL n index : Nat} {rest As : List Value} {y : MethodName} {w : List Cond} {rm : Room} {bytes : ByteArray} {ret : Option FieldType}
    (C : x_C p s m args c cc nL own Ts κ) (hM : x_M l y w rm κ F As a X mc ms) (cw : CallB R s args own index y bytes maxL ret w rm mc ms n ∧ (Cond.static y).before args s = true)
    (hn : As.length = n) {st0 : List Value} (hst : st0 = As.reverse ++ rest) (hW : (rest.map fun v => v.category).sum ≤ 8) (hd : decode cc pc = .ok (.invokestatic index, 3)) (hroom : cells + mc ≤ R.cells ∧ slots + ms ≤ R.slots)
    (kk : x_V p l e R s m args below meth c κ nL (cells + mc) (slots + ms) Q (F X.2) (pc + 3) lv (X.1.toList ++ rest)) : x_V p l e R s m args below meth c κ nL cells slots Q (F a) pc lv st0 := by
  refine x_call (X := X) (args' := As.toArray) (rest := rest) (fun H locs ls hP hl => ?_) kk
  exact va_runS (As := As) (rest := rest) C.1 (hM H.size) cw ⟨x_blind, fun U hU hW => ⟨rfl, by rw [hU], by rw [hU]; exact hP, va_K.moved hW.alike C.2.1⟩⟩ rfl hn hl.1 hst (lv_room hW) hd hroom
-- the same where nothing is made: with an answer, and without
theorem x_callVv {σ : Type} {F : σ → x_I → va_E} {a a' : σ} {X : Option Value × σ} {v : Value} {maxL n index ci : Nat} {rest As : List Value} {y : MethodName} {w : List Cond} {rm : Room} {bytes : ByteArray} {ret : Option FieldType} {Cn : String} {i : x_I} {vc : vw_C} {fs : List Value}
    (C : x_C p s m args c cc nL own Ts κ) (hM : x_M l y w rm κ F (.ref (x_ad κ i) :: As) a X 0 0) (hX : X = (some v, a')) (cw : CallW R s args own Cn index y bytes maxL ret w rm 0 0 n)
    (hi : i ∈ x_ids κ) (hf : F a i = .inr (ci, fs)) (hc : (x_cl κ)[ci]? = some vc) (hcn : vc.1 = Cn) (hn : As.length = n) {st0 : List Value} (hst : st0 = As.reverse ++ .ref (x_ad κ i) :: rest) (hW : (rest.map fun v => v.category).sum ≤ 8) (hd : decode cc pc = .ok (.invokevirtual index, 3)) (hroom : cells ≤ R.cells ∧ slots ≤ R.slots)
    (kk : x_V p l e R s m args below meth c κ nL cells slots Q (F a') (pc + 3) lv (v :: rest)) : x_V p l e R s m args below meth c κ nL cells slots Q (F a) pc lv st0 := by
  subst hX
  exact x_callV (mc := 0) (ms := 0) C hM cw hi hf hc hcn hn hst hW hd hroom kk
theorem x_callV0 {σ : Type} {F : σ → x_I → va_E} {a a' : σ} {X : Option Value × σ} {maxL n index ci : Nat} {rest As : List Value} {y : MethodName} {w : List Cond} {rm : Room} {bytes : ByteArray} {ret : Option FieldType} {Cn : String} {i : x_I} {vc : vw_C} {fs : List Value}
    (C : x_C p s m args c cc nL own Ts κ) (hM : x_M l y w rm κ F (.ref (x_ad κ i) :: As) a X 0 0) (hX : X = (none, a')) (cw : CallW R s args own Cn index y bytes maxL ret w rm 0 0 n)
    (hi : i ∈ x_ids κ) (hf : F a i = .inr (ci, fs)) (hc : (x_cl κ)[ci]? = some vc) (hcn : vc.1 = Cn) (hn : As.length = n) {st0 : List Value} (hst : st0 = As.reverse ++ .ref (x_ad κ i) :: rest) (hW : (rest.map fun v => v.category).sum ≤ 8) (hd : decode cc pc = .ok (.invokevirtual index, 3)) (hroom : cells ≤ R.cells ∧ slots ≤ R.slots)
    (kk : x_V p l e R s m args below meth c κ nL cells slots Q (F a') (pc + 3) lv rest) : x_V p l e R s m args below meth c κ nL cells slots Q (F a) pc lv st0 := by
  subst hX
  exact x_callV (mc := 0) (ms := 0) C hM cw hi hf hc hcn hn hst hW hd hroom kk
theorem x_callSv {σ : Type} {F : σ → x_I → va_E} {a a' : σ} {X : Option Value × σ} {v : Value} {maxL n index : Nat} {rest As : List Value} {y : MethodName} {w : List Cond} {rm : Room} {bytes : ByteArray} {ret : Option FieldType}
    (C : x_C p s m args c cc nL own Ts κ) (hM : x_M l y w rm κ F As a X 0 0) (hX : X = (some v, a')) (cw : CallB R s args own index y bytes maxL ret w rm 0 0 n ∧ (Cond.static y).before args s = true)
    (hn : As.length = n) {st0 : List Value} (hst : st0 = As.reverse ++ rest) (hW : (rest.map fun v => v.category).sum ≤ 8) (hd : decode cc pc = .ok (.invokestatic index, 3)) (hroom : cells ≤ R.cells ∧ slots ≤ R.slots)
    (kk : x_V p l e R s m args below meth c κ nL cells slots Q (F a') (pc + 3) lv (v :: rest)) : x_V p l e R s m args below meth c κ nL cells slots Q (F a) pc lv st0 := by
  subst hX
  exact x_callS (mc := 0) (ms := 0) C hM cw hn hst hW hd hroom kk
theorem x_callS0 {σ : Type} {F : σ → x_I → va_E} {a a' : σ} {X : Option Value × σ} {maxL n index : Nat} {rest As : List Value} {y : MethodName} {w : List Cond} {rm : Room} {bytes : ByteArray} {ret : Option FieldType}
    (C : x_C p s m args c cc nL own Ts κ) (hM : x_M l y w rm κ F As a X 0 0) (hX : X = (none, a')) (cw : CallB R s args own index y bytes maxL ret w rm 0 0 n ∧ (Cond.static y).before args s = true)
    (hn : As.length = n) {st0 : List Value} (hst : st0 = As.reverse ++ rest) (hW : (rest.map fun v => v.category).sum ≤ 8) (hd : decode cc pc = .ok (.invokestatic index, 3)) (hroom : cells ≤ R.cells ∧ slots ≤ R.slots)
    (kk : x_V p l e R s m args below meth c κ nL cells slots Q (F a') (pc + 3) lv rest) : x_V p l e R s m args below meth c κ nL cells slots Q (F a) pc lv st0 := by
  subst hX
  exact x_callS (mc := 0) (ms := 0) C hM cw hn hst hW hd hroom kk
end Walk
end
section
section Rows
variable {p : Program} {l : Launch} {e : Env} {R : Room} {s : State} {m : MethodId} {args : Array Value} {below : List Frame} {meth : Method} {c : Code} {cells slots : Nat} {Q : State → Prop}
variable {cc : ByteArray} {nL : Nat} {own : String} {Ts : List Cond} {κ : x_K} {f : x_I → va_E} {pc : Nat} {lv lv' : List (Nat × Value)} {st : List Value}
theorem x_iconst {n : Int} {v : Int32} (C : x_C p s m args c cc nL own Ts κ) (hd : decode cc pc = .ok (.iconst n, 1)) (hv : Int32.ofInt n = v) (k : x_V p l e R s m args below meth c κ nL cells slots Q f (pc + 1) lv (.int v :: st)) : x_V p l e R s m args below meth c κ nL cells slots Q f pc lv st :=
  fun H locs ls hP hS hl => lv_iconst C.1.1 C.1.2.1 hd hv (k H locs ls hP hS hl)
theorem x_bipush {n : Int} {v : Int32} (C : x_C p s m args c cc nL own Ts κ) (hd : decode cc pc = .ok (.bipush n, 2)) (hv : (Int8.ofInt n).toInt32 = v) (k : x_V p l e R s m args below meth c κ nL cells slots Q f (pc + 2) lv (.int v :: st)) : x_V p l e R s m args below meth c κ nL cells slots Q f pc lv st :=
  fun H locs ls hP hS hl => lv_bipush C.1.1 C.1.2.1 hd hv (k H locs ls hP hS hl)
theorem x_sipush {n : Int} {v : Int32} (C : x_C p s m args c cc nL own Ts κ) (hd : decode cc pc = .ok (.sipush n, 3)) (hv : (Int16.ofInt n).toInt32 = v) (k : x_V p l e R s m args below meth c κ nL cells slots Q f (pc + 3) lv (.int v :: st)) : x_V p l e R s m args below meth c κ nL cells slots Q f pc lv st :=
  fun H locs ls hP hS hl => lv_sipush C.1.1 C.1.2.1 hd hv (k H locs ls hP hS hl)
theorem x_lconst {n : Fin 2} {v : Int64} (C : x_C p s m args c cc nL own Ts κ) (hd : decode cc pc = .ok (.lconst n, 1)) (hv : Int64.ofNat (n : Nat) = v) (k : x_V p l e R s m args below meth c κ nL cells slots Q f (pc + 1) lv (.long v :: st)) : x_V p l e R s m args below meth c κ nL cells slots Q f pc lv st :=
  fun H locs ls hP hS hl => lv_lconst C.1.1 C.1.2.1 hd hv (k H locs ls hP hS hl)
theorem x_null (C : x_C p s m args c cc nL own Ts κ) (hd : decode cc pc = .ok (.aconst_null, 1)) (k : x_V p l e R s m args below meth c κ nL cells slots Q f (pc + 1) lv (.null :: st)) : x_V p l e R s m args below meth c κ nL cells slots Q f pc lv st :=
  fun H locs ls hP hS hl => lv_null C.1.1 C.1.2.1 hd (k H locs ls hP hS hl)
theorem x_ldc {index : Nat} {v : Int32} (C : x_C p s m args c cc nL own Ts κ) (hc : Cond.constant own index v ∈ Ts) (hd : decode cc pc = .ok (.ldc index, 2)) (k : x_V p l e R s m args below meth c κ nL cells slots Q f (pc + 2) lv (.int v :: st)) : x_V p l e R s m args below meth c κ nL cells slots Q f pc lv st :=
  fun H locs ls hP hS hl => lv_ldc C.1.1 C.1.2.1 C.1.2.2.2.1 (C.1.2.2.2.2 _ hc) hd (k H locs ls hP hS hl)
theorem x_ldc2 {index : Nat} {v : Int64} (C : x_C p s m args c cc nL own Ts κ) (hc : Cond.constantLong own index v ∈ Ts) (hd : decode cc pc = .ok (.ldc2_w index, 3)) (k : x_V p l e R s m args below meth c κ nL cells slots Q f (pc + 3) lv (.long v :: st)) : x_V p l e R s m args below meth c κ nL cells slots Q f pc lv st :=
  fun H locs ls hP hS hl => lv_ldc2 C.1.1 C.1.2.1 C.1.2.2.2.1 (C.1.2.2.2.2 _ hc) hd (k H locs ls hP hS hl)
theorem x_iload_n {q : Fin 4} {i : Nat} {x : Int32} (j : Nat) (C : x_C p s m args c cc nL own Ts κ) (hd : decode cc pc = .ok (.iload_n q, 1)) (hi : (q : Nat) = i) (hj : lv[j]? = some (i, .int x)) (k : x_V p l e R s m args below meth c κ nL cells slots Q f (pc + 1) lv (.int x :: st)) : x_V p l e R s m args below meth c κ nL cells slots Q f pc lv st :=
  fun H locs ls hP hS hl => lv_iload_n C.1.1 C.1.2.1 hd hi (lv_at hl j hj) (k H locs ls hP hS hl)
theorem x_iload {i : Nat} {x : Int32} (j : Nat) (C : x_C p s m args c cc nL own Ts κ) (hd : decode cc pc = .ok (.iload i, 2)) (hj : lv[j]? = some (i, .int x)) (k : x_V p l e R s m args below meth c κ nL cells slots Q f (pc + 2) lv (.int x :: st)) : x_V p l e R s m args below meth c κ nL cells slots Q f pc lv st :=
  fun H locs ls hP hS hl => lv_iload C.1.1 C.1.2.1 hd (lv_at hl j hj) (k H locs ls hP hS hl)
theorem x_lload_n {q : Fin 4} {i : Nat} {x : Int64} (j : Nat) (C : x_C p s m args c cc nL own Ts κ) (hd : decode cc pc = .ok (.lload_n q, 1)) (hi : (q : Nat) = i) (hj : lv[j]? = some (i, .long x)) (k : x_V p l e R s m args below meth c κ nL cells slots Q f (pc + 1) lv (.long x :: st)) : x_V p l e R s m args below meth c κ nL cells slots Q f pc lv st :=
  fun H locs ls hP hS hl => lv_lload_n C.1.1 C.1.2.1 hd hi (lv_at hl j hj) (k H locs ls hP hS hl)
theorem x_lload {i : Nat} {x : Int64} (j : Nat) (C : x_C p s m args c cc nL own Ts κ) (hd : decode cc pc = .ok (.lload i, 2)) (hj : lv[j]? = some (i, .long x)) (k : x_V p l e R s m args below meth c κ nL cells slots Q f (pc + 2) lv (.long x :: st)) : x_V p l e R s m args below meth c κ nL cells slots Q f pc lv st :=
  fun H locs ls hP hS hl => lv_lload C.1.1 C.1.2.1 hd (lv_at hl j hj) (k H locs ls hP hS hl)
theorem x_aload_n {q : Fin 4} {i : Nat} {x : Nat} (j : Nat) (C : x_C p s m args c cc nL own Ts κ) (hd : decode cc pc = .ok (.aload_n q, 1)) (hi : (q : Nat) = i) (hj : lv[j]? = some (i, .ref x)) (k : x_V p l e R s m args below meth c κ nL cells slots Q f (pc + 1) lv (.ref x :: st)) : x_V p l e R s m args below meth c κ nL cells slots Q f pc lv st :=
  fun H locs ls hP hS hl => lv_aload_n C.1.1 C.1.2.1 hd hi (lv_at hl j hj) (k H locs ls hP hS hl)
theorem x_aload {i : Nat} {x : Nat} (j : Nat) (C : x_C p s m args c cc nL own Ts κ) (hd : decode cc pc = .ok (.aload i, 2)) (hj : lv[j]? = some (i, .ref x)) (k : x_V p l e R s m args below meth c κ nL cells slots Q f (pc + 2) lv (.ref x :: st)) : x_V p l e R s m args below meth c κ nL cells slots Q f pc lv st :=
  fun H locs ls hP hS hl => lv_aload C.1.1 C.1.2.1 hd (lv_at hl j hj) (k H locs ls hP hS hl)
theorem x_aload_nN {q : Fin 4} {i : Nat} (j : Nat) (C : x_C p s m args c cc nL own Ts κ) (hd : decode cc pc = .ok (.aload_n q, 1)) (hi : (q : Nat) = i) (hj : lv[j]? = some (i, .null)) (k : x_V p l e R s m args below meth c κ nL cells slots Q f (pc + 1) lv (.null :: st)) : x_V p l e R s m args below meth c κ nL cells slots Q f pc lv st :=
  fun H locs ls hP hS hl => lv_aload_nN C.1.1 C.1.2.1 hd hi (lv_at hl j hj) (k H locs ls hP hS hl)
theorem x_aloadN {i : Nat} (j : Nat) (C : x_C p s m args c cc nL own Ts κ) (hd : decode cc pc = .ok (.aload i, 2)) (hj : lv[j]? = some (i, .null)) (k : x_V p l e R s m args below meth c κ nL cells slots Q f (pc + 2) lv (.null :: st)) : x_V p l e R s m args below meth c κ nL cells slots Q f pc lv st :=
  fun H locs ls hP hS hl => lv_aloadN C.1.1 C.1.2.1 hd (lv_at hl j hj) (k H locs ls hP hS hl)
theorem x_istore_n {q : Fin 4} {i : Nat} {x : Int32} (C : x_C p s m args c cc nL own Ts κ) (hd : decode cc pc = .ok (.istore_n q, 1)) (hi : (q : Nat) = i) (hn : i < nL) (hlv : (i, Value.int x) :: lv.filter (fun q => !(q.1 == i) && !(q.1 + 1 == i && q.2.category == 2)) = lv') (k : x_V p l e R s m args below meth c κ nL cells slots Q f (pc + 1) lv' st) : x_V p l e R s m args below meth c κ nL cells slots Q f pc lv (.int x :: st) :=
  fun H locs ls hP hS hl => lv_istore_n C.1.1 C.1.2.1 hd hi hl hn hlv (fun ls' hl' => k H locs ls' hP hS hl')
theorem x_istore {i : Nat} {x : Int32} (C : x_C p s m args c cc nL own Ts κ) (hd : decode cc pc = .ok (.istore i, 2)) (hn : i < nL) (hlv : (i, Value.int x) :: lv.filter (fun q => !(q.1 == i) && !(q.1 + 1 == i && q.2.category == 2)) = lv') (k : x_V p l e R s m args below meth c κ nL cells slots Q f (pc + 2) lv' st) : x_V p l e R s m args below meth c κ nL cells slots Q f pc lv (.int x :: st) :=
  fun H locs ls hP hS hl => lv_istore C.1.1 C.1.2.1 hd hl hn hlv (fun ls' hl' => k H locs ls' hP hS hl')
theorem x_lstore_n {q : Fin 4} {i : Nat} {x : Int64} (C : x_C p s m args c cc nL own Ts κ) (hd : decode cc pc = .ok (.lstore_n q, 1)) (hi : (q : Nat) = i) (hn : i + 1 < nL) (hlv : (i, Value.long x) :: lv.filter (fun q => !(q.1 == i) && (!(q.1 == i + 1) && !(q.1 + 1 == i && q.2.category == 2))) = lv') (k : x_V p l e R s m args below meth c κ nL cells slots Q f (pc + 1) lv' st) : x_V p l e R s m args below meth c κ nL cells slots Q f pc lv (.long x :: st) :=
  fun H locs ls hP hS hl => lv_lstore_n C.1.1 C.1.2.1 hd hi hl hn hlv (fun ls' hl' => k H locs ls' hP hS hl')
theorem x_lstore {i : Nat} {x : Int64} (C : x_C p s m args c cc nL own Ts κ) (hd : decode cc pc = .ok (.lstore i, 2)) (hn : i + 1 < nL) (hlv : (i, Value.long x) :: lv.filter (fun q => !(q.1 == i) && (!(q.1 == i + 1) && !(q.1 + 1 == i && q.2.category == 2))) = lv') (k : x_V p l e R s m args below meth c κ nL cells slots Q f (pc + 2) lv' st) : x_V p l e R s m args below meth c κ nL cells slots Q f pc lv (.long x :: st) :=
  fun H locs ls hP hS hl => lv_lstore C.1.1 C.1.2.1 hd hl hn hlv (fun ls' hl' => k H locs ls' hP hS hl')
theorem x_astore_n {q : Fin 4} {i : Nat} {x : Nat} (C : x_C p s m args c cc nL own Ts κ) (hd : decode cc pc = .ok (.astore_n q, 1)) (hi : (q : Nat) = i) (hn : i < nL) (hlv : (i, Value.ref x) :: lv.filter (fun q => !(q.1 == i) && !(q.1 + 1 == i && q.2.category == 2)) = lv') (k : x_V p l e R s m args below meth c κ nL cells slots Q f (pc + 1) lv' st) : x_V p l e R s m args below meth c κ nL cells slots Q f pc lv (.ref x :: st) :=
  fun H locs ls hP hS hl => lv_astore_n C.1.1 C.1.2.1 hd hi hl hn hlv (fun ls' hl' => k H locs ls' hP hS hl')
theorem x_astore {i : Nat} {x : Nat} (C : x_C p s m args c cc nL own Ts κ) (hd : decode cc pc = .ok (.astore i, 2)) (hn : i < nL) (hlv : (i, Value.ref x) :: lv.filter (fun q => !(q.1 == i) && !(q.1 + 1 == i && q.2.category == 2)) = lv') (k : x_V p l e R s m args below meth c κ nL cells slots Q f (pc + 2) lv' st) : x_V p l e R s m args below meth c κ nL cells slots Q f pc lv (.ref x :: st) :=
  fun H locs ls hP hS hl => lv_astore C.1.1 C.1.2.1 hd hl hn hlv (fun ls' hl' => k H locs ls' hP hS hl')
theorem x_astore_nN {q : Fin 4} {i : Nat} (C : x_C p s m args c cc nL own Ts κ) (hd : decode cc pc = .ok (.astore_n q, 1)) (hi : (q : Nat) = i) (hn : i < nL) (hlv : (i, Value.null) :: lv.filter (fun q => !(q.1 == i) && !(q.1 + 1 == i && q.2.category == 2)) = lv') (k : x_V p l e R s m args below meth c κ nL cells slots Q f (pc + 1) lv' st) : x_V p l e R s m args below meth c κ nL cells slots Q f pc lv (.null :: st) :=
  fun H locs ls hP hS hl => lv_astore_nN C.1.1 C.1.2.1 hd hi hl hn hlv (fun ls' hl' => k H locs ls' hP hS hl')
theorem x_astoreN {i : Nat} (C : x_C p s m args c cc nL own Ts κ) (hd : decode cc pc = .ok (.astore i, 2)) (hn : i < nL) (hlv : (i, Value.null) :: lv.filter (fun q => !(q.1 == i) && !(q.1 + 1 == i && q.2.category == 2)) = lv') (k : x_V p l e R s m args below meth c κ nL cells slots Q f (pc + 2) lv' st) : x_V p l e R s m args below meth c κ nL cells slots Q f pc lv (.null :: st) :=
  fun H locs ls hP hS hl => lv_astoreN C.1.1 C.1.2.1 hd hl hn hlv (fun ls' hl' => k H locs ls' hP hS hl')
theorem x_iinc {i : Nat} {n : Int} {x v : Int32} (j : Nat) (C : x_C p s m args c cc nL own Ts κ) (hd : decode cc pc = .ok (.iinc i n, 3)) (hj : lv[j]? = some (i, .int x)) (hv : x + Int32.ofInt n = v) (hn : i < nL) (hlv : (i, Value.int v) :: lv.filter (fun q => !(q.1 == i) && !(q.1 + 1 == i && q.2.category == 2)) = lv') (k : x_V p l e R s m args below meth c κ nL cells slots Q f (pc + 3) lv' st) : x_V p l e R s m args below meth c κ nL cells slots Q f pc lv st :=
  fun H locs ls hP hS hl => lv_iinc C.1.1 C.1.2.1 hd hl hj hv hn hlv (fun ls' hl' => k H locs ls' hP hS hl')
theorem x_iadd {x y : Int32} (C : x_C p s m args c cc nL own Ts κ) (hd : decode cc pc = .ok (.iadd, 1)) (k : x_V p l e R s m args below meth c κ nL cells slots Q f (pc + 1) lv (.int (x + y) :: st)) : x_V p l e R s m args below meth c κ nL cells slots Q f pc lv (.int y :: .int x :: st) :=
  fun H locs ls hP hS hl => lv_iadd C.1.1 C.1.2.1 hd (k H locs ls hP hS hl)
theorem x_isub {x y : Int32} (C : x_C p s m args c cc nL own Ts κ) (hd : decode cc pc = .ok (.isub, 1)) (k : x_V p l e R s m args below meth c κ nL cells slots Q f (pc + 1) lv (.int (x - y) :: st)) : x_V p l e R s m args below meth c κ nL cells slots Q f pc lv (.int y :: .int x :: st) :=
  fun H locs ls hP hS hl => lv_isub C.1.1 C.1.2.1 hd (k H locs ls hP hS hl)
theorem x_imul {x y : Int32} (C : x_C p s m args c cc nL own Ts κ) (hd : decode cc pc = .ok (.imul, 1)) (k : x_V p l e R s m args below meth c κ nL cells slots Q f (pc + 1) lv (.int (x * y) :: st)) : x_V p l e R s m args below meth c κ nL cells slots Q f pc lv (.int y :: .int x :: st) :=
  fun H locs ls hP hS hl => lv_imul C.1.1 C.1.2.1 hd (k H locs ls hP hS hl)
theorem x_iand {x y : Int32} (C : x_C p s m args c cc nL own Ts κ) (hd : decode cc pc = .ok (.iand, 1)) (k : x_V p l e R s m args below meth c κ nL cells slots Q f (pc + 1) lv (.int (x &&& y) :: st)) : x_V p l e R s m args below meth c κ nL cells slots Q f pc lv (.int y :: .int x :: st) :=
  fun H locs ls hP hS hl => lv_iand C.1.1 C.1.2.1 hd (k H locs ls hP hS hl)
theorem x_ior {x y : Int32} (C : x_C p s m args c cc nL own Ts κ) (hd : decode cc pc = .ok (.ior, 1)) (k : x_V p l e R s m args below meth c κ nL cells slots Q f (pc + 1) lv (.int (x ||| y) :: st)) : x_V p l e R s m args below meth c κ nL cells slots Q f pc lv (.int y :: .int x :: st) :=
  fun H locs ls hP hS hl => lv_ior C.1.1 C.1.2.1 hd (k H locs ls hP hS hl)
theorem x_ixor {x y : Int32} (C : x_C p s m args c cc nL own Ts κ) (hd : decode cc pc = .ok (.ixor, 1)) (k : x_V p l e R s m args below meth c κ nL cells slots Q f (pc + 1) lv (.int (x ^^^ y) :: st)) : x_V p l e R s m args below meth c κ nL cells slots Q f pc lv (.int y :: .int x :: st) :=
  fun H locs ls hP hS hl => lv_ixor C.1.1 C.1.2.1 hd (k H locs ls hP hS hl)
theorem x_ishl {x y : Int32} (C : x_C p s m args c cc nL own Ts κ) (hd : decode cc pc = .ok (.ishl, 1)) (k : x_V p l e R s m args below meth c κ nL cells slots Q f (pc + 1) lv (.int (x <<< (y &&& 31)) :: st)) : x_V p l e R s m args below meth c κ nL cells slots Q f pc lv (.int y :: .int x :: st) :=
  fun H locs ls hP hS hl => lv_ishl C.1.1 C.1.2.1 hd (k H locs ls hP hS hl)
theorem x_ishr {x y : Int32} (C : x_C p s m args c cc nL own Ts κ) (hd : decode cc pc = .ok (.ishr, 1)) (k : x_V p l e R s m args below meth c κ nL cells slots Q f (pc + 1) lv (.int (x >>> (y &&& 31)) :: st)) : x_V p l e R s m args below meth c κ nL cells slots Q f pc lv (.int y :: .int x :: st) :=
  fun H locs ls hP hS hl => lv_ishr C.1.1 C.1.2.1 hd (k H locs ls hP hS hl)
theorem x_ladd {x y : Int64} (C : x_C p s m args c cc nL own Ts κ) (hd : decode cc pc = .ok (.ladd, 1)) (k : x_V p l e R s m args below meth c κ nL cells slots Q f (pc + 1) lv (.long (x + y) :: st)) : x_V p l e R s m args below meth c κ nL cells slots Q f pc lv (.long y :: .long x :: st) :=
  fun H locs ls hP hS hl => lv_ladd C.1.1 C.1.2.1 hd (k H locs ls hP hS hl)
theorem x_lsub {x y : Int64} (C : x_C p s m args c cc nL own Ts κ) (hd : decode cc pc = .ok (.lsub, 1)) (k : x_V p l e R s m args below meth c κ nL cells slots Q f (pc + 1) lv (.long (x - y) :: st)) : x_V p l e R s m args below meth c κ nL cells slots Q f pc lv (.long y :: .long x :: st) :=
  fun H locs ls hP hS hl => lv_lsub C.1.1 C.1.2.1 hd (k H locs ls hP hS hl)
theorem x_lmul {x y : Int64} (C : x_C p s m args c cc nL own Ts κ) (hd : decode cc pc = .ok (.lmul, 1)) (k : x_V p l e R s m args below meth c κ nL cells slots Q f (pc + 1) lv (.long (x * y) :: st)) : x_V p l e R s m args below meth c κ nL cells slots Q f pc lv (.long y :: .long x :: st) :=
  fun H locs ls hP hS hl => lv_lmul C.1.1 C.1.2.1 hd (k H locs ls hP hS hl)
theorem x_land {x y : Int64} (C : x_C p s m args c cc nL own Ts κ) (hd : decode cc pc = .ok (.land, 1)) (k : x_V p l e R s m args below meth c κ nL cells slots Q f (pc + 1) lv (.long (x &&& y) :: st)) : x_V p l e R s m args below meth c κ nL cells slots Q f pc lv (.long y :: .long x :: st) :=
  fun H locs ls hP hS hl => lv_land C.1.1 C.1.2.1 hd (k H locs ls hP hS hl)
theorem x_lor {x y : Int64} (C : x_C p s m args c cc nL own Ts κ) (hd : decode cc pc = .ok (.lor, 1)) (k : x_V p l e R s m args below meth c κ nL cells slots Q f (pc + 1) lv (.long (x ||| y) :: st)) : x_V p l e R s m args below meth c κ nL cells slots Q f pc lv (.long y :: .long x :: st) :=
  fun H locs ls hP hS hl => lv_lor C.1.1 C.1.2.1 hd (k H locs ls hP hS hl)
theorem x_lxor {x y : Int64} (C : x_C p s m args c cc nL own Ts κ) (hd : decode cc pc = .ok (.lxor, 1)) (k : x_V p l e R s m args below meth c κ nL cells slots Q f (pc + 1) lv (.long (x ^^^ y) :: st)) : x_V p l e R s m args below meth c κ nL cells slots Q f pc lv (.long y :: .long x :: st) :=
  fun H locs ls hP hS hl => lv_lxor C.1.1 C.1.2.1 hd (k H locs ls hP hS hl)
theorem x_idiv {x y : Int32} (C : x_C p s m args c cc nL own Ts κ) (hne : ¬ y = 0) (hd : decode cc pc = .ok (.idiv, 1)) (k : x_V p l e R s m args below meth c κ nL cells slots Q f (pc + 1) lv (.int (x / y) :: st)) : x_V p l e R s m args below meth c κ nL cells slots Q f pc lv (.int y :: .int x :: st) :=
  fun H locs ls hP hS hl => lv_idiv C.1.1 C.1.2.1 hd hne (k H locs ls hP hS hl)
theorem x_irem {x y : Int32} (C : x_C p s m args c cc nL own Ts κ) (hne : ¬ y = 0) (hd : decode cc pc = .ok (.irem, 1)) (k : x_V p l e R s m args below meth c κ nL cells slots Q f (pc + 1) lv (.int (x - x / y * y) :: st)) : x_V p l e R s m args below meth c κ nL cells slots Q f pc lv (.int y :: .int x :: st) :=
  fun H locs ls hP hS hl => lv_irem C.1.1 C.1.2.1 hd hne (k H locs ls hP hS hl)
theorem x_ldiv {x y : Int64} (C : x_C p s m args c cc nL own Ts κ) (hne : ¬ y = 0) (hd : decode cc pc = .ok (.ldiv, 1)) (k : x_V p l e R s m args below meth c κ nL cells slots Q f (pc + 1) lv (.long (x / y) :: st)) : x_V p l e R s m args below meth c κ nL cells slots Q f pc lv (.long y :: .long x :: st) :=
  fun H locs ls hP hS hl => lv_ldiv C.1.1 C.1.2.1 hd hne (k H locs ls hP hS hl)
theorem x_lrem {x y : Int64} (C : x_C p s m args c cc nL own Ts κ) (hne : ¬ y = 0) (hd : decode cc pc = .ok (.lrem, 1)) (k : x_V p l e R s m args below meth c κ nL cells slots Q f (pc + 1) lv (.long (x - x / y * y) :: st)) : x_V p l e R s m args below meth c κ nL cells slots Q f pc lv (.long y :: .long x :: st) :=
  fun H locs ls hP hS hl => lv_lrem C.1.1 C.1.2.1 hd hne (k H locs ls hP hS hl)
theorem x_ineg {x : Int32} (C : x_C p s m args c cc nL own Ts κ) (hd : decode cc pc = .ok (.ineg, 1)) (k : x_V p l e R s m args below meth c κ nL cells slots Q f (pc + 1) lv (.int (-x) :: st)) : x_V p l e R s m args below meth c κ nL cells slots Q f pc lv (.int x :: st) :=
  fun H locs ls hP hS hl => lv_ineg C.1.1 C.1.2.1 hd (k H locs ls hP hS hl)
theorem x_lneg {x : Int64} (C : x_C p s m args c cc nL own Ts κ) (hd : decode cc pc = .ok (.lneg, 1)) (k : x_V p l e R s m args below meth c κ nL cells slots Q f (pc + 1) lv (.long (-x) :: st)) : x_V p l e R s m args below meth c κ nL cells slots Q f pc lv (.long x :: st) :=
  fun H locs ls hP hS hl => lv_lneg C.1.1 C.1.2.1 hd (k H locs ls hP hS hl)
theorem x_i2l {x : Int32} (C : x_C p s m args c cc nL own Ts κ) (hd : decode cc pc = .ok (.i2l, 1)) (k : x_V p l e R s m args below meth c κ nL cells slots Q f (pc + 1) lv (.long x.toInt64 :: st)) : x_V p l e R s m args below meth c κ nL cells slots Q f pc lv (.int x :: st) :=
  fun H locs ls hP hS hl => lv_i2l C.1.1 C.1.2.1 hd rfl (k H locs ls hP hS hl)
theorem x_l2i {x : Int64} (C : x_C p s m args c cc nL own Ts κ) (hd : decode cc pc = .ok (.l2i, 1)) (k : x_V p l e R s m args below meth c κ nL cells slots Q f (pc + 1) lv (.int x.toInt32 :: st)) : x_V p l e R s m args below meth c κ nL cells slots Q f pc lv (.long x :: st) :=
  fun H locs ls hP hS hl => lv_l2i C.1.1 C.1.2.1 hd rfl (k H locs ls hP hS hl)
theorem x_lshr {x : Int64} {y : Int32} (C : x_C p s m args c cc nL own Ts κ) (hd : decode cc pc = .ok (.lshr, 1)) (k : x_V p l e R s m args below meth c κ nL cells slots Q f (pc + 1) lv (.long (x >>> (y.toInt64 &&& 63)) :: st)) : x_V p l e R s m args below meth c κ nL cells slots Q f pc lv (.int y :: .long x :: st) :=
  fun H locs ls hP hS hl => lv_lshr C.1.1 C.1.2.1 hd rfl (k H locs ls hP hS hl)
theorem x_lshl {x : Int64} {y : Int32} (C : x_C p s m args c cc nL own Ts κ) (hd : decode cc pc = .ok (.lshl, 1)) (k : x_V p l e R s m args below meth c κ nL cells slots Q f (pc + 1) lv (.long (x <<< (y.toInt64 &&& 63)) :: st)) : x_V p l e R s m args below meth c κ nL cells slots Q f pc lv (.int y :: .long x :: st) :=
  fun H locs ls hP hS hl => lv_lshl C.1.1 C.1.2.1 hd rfl (k H locs ls hP hS hl)
theorem x_lushr {x : Int64} {y : Int32} (C : x_C p s m args c cc nL own Ts κ) (hd : decode cc pc = .ok (.lushr, 1)) (k : x_V p l e R s m args below meth c κ nL cells slots Q f (pc + 1) lv (.long ((x.toUInt64 >>> (y.toInt64.toUInt64 &&& Int64.toUInt64 63)).toInt64) :: st)) : x_V p l e R s m args below meth c κ nL cells slots Q f pc lv (.int y :: .long x :: st) :=
  fun H locs ls hP hS hl => lv_lushr C.1.1 C.1.2.1 hd rfl (k H locs ls hP hS hl)
theorem x_lcmp {x y : Int64} (C : x_C p s m args c cc nL own Ts κ) (hd : decode cc pc = .ok (.lcmp, 1)) (k : x_V p l e R s m args below meth c κ nL cells slots Q f (pc + 1) lv (.int (lg_cmp x y) :: st)) : x_V p l e R s m args below meth c κ nL cells slots Q f pc lv (.long y :: .long x :: st) :=
  fun H locs ls hP hS hl => W.lcmp C.1.1 C.1.2.1 hd (k H locs ls hP hS hl)
theorem x_dup {va : Value} (C : x_C p s m args c cc nL own Ts κ) (hd : decode cc pc = .ok (.dup, 1)) (hva : va.category = 1) (k : x_V p l e R s m args below meth c κ nL cells slots Q f (pc + 1) lv (va :: va :: st)) : x_V p l e R s m args below meth c κ nL cells slots Q f pc lv (va :: st) :=
  fun H locs ls hP hS hl => lv_dup C.1.1 C.1.2.1 hd hva (k H locs ls hP hS hl)
theorem x_pop {va : Value} (C : x_C p s m args c cc nL own Ts κ) (hd : decode cc pc = .ok (.pop, 1)) (hva : va.category = 1) (k : x_V p l e R s m args below meth c κ nL cells slots Q f (pc + 1) lv st) : x_V p l e R s m args below meth c κ nL cells slots Q f pc lv (va :: st) :=
  fun H locs ls hP hS hl => lv_pop C.1.1 C.1.2.1 hd hva (k H locs ls hP hS hl)
theorem x_dup_x1 {va vb : Value} (C : x_C p s m args c cc nL own Ts κ) (hd : decode cc pc = .ok (.dup_x1, 1)) (hva : va.category = 1) (hvb : vb.category = 1) (k : x_V p l e R s m args below meth c κ nL cells slots Q f (pc + 1) lv (va :: vb :: va :: st)) : x_V p l e R s m args below meth c κ nL cells slots Q f pc lv (va :: vb :: st) :=
  fun H locs ls hP hS hl => lv_dup_x1 C.1.1 C.1.2.1 hd hva hvb (k H locs ls hP hS hl)
theorem x_dup2_2 {va : Value} (C : x_C p s m args c cc nL own Ts κ) (hd : decode cc pc = .ok (.dup2, 1)) (hva : va.category = 2) (k : x_V p l e R s m args below meth c κ nL cells slots Q f (pc + 1) lv (va :: va :: st)) : x_V p l e R s m args below meth c κ nL cells slots Q f pc lv (va :: st) :=
  fun H locs ls hP hS hl => lv_dup2_2 C.1.1 C.1.2.1 hd hva (k H locs ls hP hS hl)
theorem x_dup2_11 {va vb : Value} (C : x_C p s m args c cc nL own Ts κ) (hd : decode cc pc = .ok (.dup2, 1)) (hva : va.category = 1) (hvb : vb.category = 1) (k : x_V p l e R s m args below meth c κ nL cells slots Q f (pc + 1) lv (va :: vb :: va :: vb :: st)) : x_V p l e R s m args below meth c κ nL cells slots Q f pc lv (va :: vb :: st) :=
  fun H locs ls hP hS hl => lv_dup2_11 C.1.1 C.1.2.1 hd hva hvb (k H locs ls hP hS hl)
theorem x_goto {off : Int} (tgt : Nat) (C : x_C p s m args c cc nL own Ts κ) (hd : decode cc pc = .ok (.goto off, 3)) (ht : (pc : Int) + off = (tgt : Int)) (k : x_V p l e R s m args below meth c κ nL cells slots Q f tgt lv st) : x_V p l e R s m args below meth c κ nL cells slots Q f pc lv st :=
  fun H locs ls hP hS hl => lv_goto C.1.1 C.1.2.1 hd ht (k H locs ls hP hS hl)
theorem x_ifnullR {x : Nat} {off : Int} (C : x_C p s m args c cc nL own Ts κ) (hd : decode cc pc = .ok (.ifnull off, 3)) (k : x_V p l e R s m args below meth c κ nL cells slots Q f (pc + 3) lv st) : x_V p l e R s m args below meth c κ nL cells slots Q f pc lv (.ref x :: st) :=
  fun H locs ls hP hS hl => lv_ifnull C.1.1 C.1.2.1 hd (k H locs ls hP hS hl)
theorem x_ifnullN {off : Int} (tgt : Nat) (C : x_C p s m args c cc nL own Ts κ) (hd : decode cc pc = .ok (.ifnull off, 3)) (ht : (pc : Int) + off = (tgt : Int)) (k : x_V p l e R s m args below meth c κ nL cells slots Q f tgt lv st) : x_V p l e R s m args below meth c κ nL cells slots Q f pc lv (.null :: st) :=
  fun H locs ls hP hS hl => lv_ifnullN C.1.1 C.1.2.1 hd ht (k H locs ls hP hS hl)
theorem x_ifnonnullR {x : Nat} {off : Int} (tgt : Nat) (C : x_C p s m args c cc nL own Ts κ) (hd : decode cc pc = .ok (.ifnonnull off, 3)) (ht : (pc : Int) + off = (tgt : Int)) (k : x_V p l e R s m args below meth c κ nL cells slots Q f tgt lv st) : x_V p l e R s m args below meth c κ nL cells slots Q f pc lv (.ref x :: st) :=
  fun H locs ls hP hS hl => lv_ifnonnull C.1.1 C.1.2.1 hd ht (k H locs ls hP hS hl)
theorem x_ifnonnullN {off : Int} (C : x_C p s m args c cc nL own Ts κ) (hd : decode cc pc = .ok (.ifnonnull off, 3)) (k : x_V p l e R s m args below meth c κ nL cells slots Q f (pc + 3) lv st) : x_V p l e R s m args below meth c κ nL cells slots Q f pc lv (.null :: st) :=
  fun H locs ls hP hS hl => lv_ifnonnullN C.1.1 C.1.2.1 hd (k H locs ls hP hS hl)
theorem x_if_eq {σ τ : Type} {F : σ → x_I → va_E} {wr : τ → Option Value × σ} {q1 q2 : τ} {mc ms : Nat} {x : Int32} {off : Int} (tgt : Nat) (C : x_C p s m args c cc nL own Ts κ) (hd : decode cc pc = .ok (.ifCond .eq off, 3)) (ht : (pc : Int) + off = (tgt : Int)) (kt : (x = 0) → x_V p l e R s m args below meth c κ nL cells slots (x_E below κ args s mc ms F wr q1) f tgt lv st) (kf : ¬ (x = 0) → x_V p l e R s m args below meth c κ nL cells slots (x_E below κ args s mc ms F wr q2) f (pc + 3) lv st) : x_V p l e R s m args below meth c κ nL cells slots (x_E below κ args s mc ms F wr (if x = 0 then q1 else q2)) f pc lv (.int x :: st) :=
  fun H locs ls hP hS hl => lv_if_eq C.1.1 C.1.2.1 hd ht (fun h => by rw [if_pos h]; exact kt h H locs ls hP hS hl) (fun h => by rw [if_neg h]; exact kf h H locs ls hP hS hl)
theorem x_icmp_eq {σ τ : Type} {F : σ → x_I → va_E} {wr : τ → Option Value × σ} {q1 q2 : τ} {mc ms : Nat} {x y : Int32} {off : Int} (tgt : Nat) (C : x_C p s m args c cc nL own Ts κ) (hd : decode cc pc = .ok (.if_icmp .eq off, 3)) (ht : (pc : Int) + off = (tgt : Int)) (kt : (x = y) → x_V p l e R s m args below meth c κ nL cells slots (x_E below κ args s mc ms F wr q1) f tgt lv st) (kf : ¬ (x = y) → x_V p l e R s m args below meth c κ nL cells slots (x_E below κ args s mc ms F wr q2) f (pc + 3) lv st) : x_V p l e R s m args below meth c κ nL cells slots (x_E below κ args s mc ms F wr (if x = y then q1 else q2)) f pc lv (.int y :: .int x :: st) :=
  fun H locs ls hP hS hl => lv_icmp_eq C.1.1 C.1.2.1 hd ht (fun h => by rw [if_pos h]; exact kt h H locs ls hP hS hl) (fun h => by rw [if_neg h]; exact kf h H locs ls hP hS hl)
theorem x_if_lt {σ τ : Type} {F : σ → x_I → va_E} {wr : τ → Option Value × σ} {q1 q2 : τ} {mc ms : Nat} {x : Int32} {off : Int} (tgt : Nat) (C : x_C p s m args c cc nL own Ts κ) (hd : decode cc pc = .ok (.ifCond .lt off, 3)) (ht : (pc : Int) + off = (tgt : Int)) (kt : (x < 0) → x_V p l e R s m args below meth c κ nL cells slots (x_E below κ args s mc ms F wr q1) f tgt lv st) (kf : ¬ (x < 0) → x_V p l e R s m args below meth c κ nL cells slots (x_E below κ args s mc ms F wr q2) f (pc + 3) lv st) : x_V p l e R s m args below meth c κ nL cells slots (x_E below κ args s mc ms F wr (if x < 0 then q1 else q2)) f pc lv (.int x :: st) :=
  fun H locs ls hP hS hl => lv_if_lt C.1.1 C.1.2.1 hd ht (fun h => by rw [if_pos h]; exact kt h H locs ls hP hS hl) (fun h => by rw [if_neg h]; exact kf h H locs ls hP hS hl)
theorem x_icmp_lt {σ τ : Type} {F : σ → x_I → va_E} {wr : τ → Option Value × σ} {q1 q2 : τ} {mc ms : Nat} {x y : Int32} {off : Int} (tgt : Nat) (C : x_C p s m args c cc nL own Ts κ) (hd : decode cc pc = .ok (.if_icmp .lt off, 3)) (ht : (pc : Int) + off = (tgt : Int)) (kt : (x < y) → x_V p l e R s m args below meth c κ nL cells slots (x_E below κ args s mc ms F wr q1) f tgt lv st) (kf : ¬ (x < y) → x_V p l e R s m args below meth c κ nL cells slots (x_E below κ args s mc ms F wr q2) f (pc + 3) lv st) : x_V p l e R s m args below meth c κ nL cells slots (x_E below κ args s mc ms F wr (if x < y then q1 else q2)) f pc lv (.int y :: .int x :: st) :=
  fun H locs ls hP hS hl => lv_icmp_lt C.1.1 C.1.2.1 hd ht (fun h => by rw [if_pos h]; exact kt h H locs ls hP hS hl) (fun h => by rw [if_neg h]; exact kf h H locs ls hP hS hl)
theorem x_if_ge {σ τ : Type} {F : σ → x_I → va_E} {wr : τ → Option Value × σ} {q1 q2 : τ} {mc ms : Nat} {x : Int32} {off : Int} (tgt : Nat) (C : x_C p s m args c cc nL own Ts κ) (hd : decode cc pc = .ok (.ifCond .ge off, 3)) (ht : (pc : Int) + off = (tgt : Int)) (kt : (0 ≤ x) → x_V p l e R s m args below meth c κ nL cells slots (x_E below κ args s mc ms F wr q1) f tgt lv st) (kf : ¬ (0 ≤ x) → x_V p l e R s m args below meth c κ nL cells slots (x_E below κ args s mc ms F wr q2) f (pc + 3) lv st) : x_V p l e R s m args below meth c κ nL cells slots (x_E below κ args s mc ms F wr (if 0 ≤ x then q1 else q2)) f pc lv (.int x :: st) :=
  fun H locs ls hP hS hl => lv_if_ge C.1.1 C.1.2.1 hd ht (fun h => by rw [if_pos h]; exact kt h H locs ls hP hS hl) (fun h => by rw [if_neg h]; exact kf h H locs ls hP hS hl)
theorem x_icmp_ge {σ τ : Type} {F : σ → x_I → va_E} {wr : τ → Option Value × σ} {q1 q2 : τ} {mc ms : Nat} {x y : Int32} {off : Int} (tgt : Nat) (C : x_C p s m args c cc nL own Ts κ) (hd : decode cc pc = .ok (.if_icmp .ge off, 3)) (ht : (pc : Int) + off = (tgt : Int)) (kt : (y ≤ x) → x_V p l e R s m args below meth c κ nL cells slots (x_E below κ args s mc ms F wr q1) f tgt lv st) (kf : ¬ (y ≤ x) → x_V p l e R s m args below meth c κ nL cells slots (x_E below κ args s mc ms F wr q2) f (pc + 3) lv st) : x_V p l e R s m args below meth c κ nL cells slots (x_E below κ args s mc ms F wr (if y ≤ x then q1 else q2)) f pc lv (.int y :: .int x :: st) :=
  fun H locs ls hP hS hl => lv_icmp_ge C.1.1 C.1.2.1 hd ht (fun h => by rw [if_pos h]; exact kt h H locs ls hP hS hl) (fun h => by rw [if_neg h]; exact kf h H locs ls hP hS hl)
theorem x_if_gt {σ τ : Type} {F : σ → x_I → va_E} {wr : τ → Option Value × σ} {q1 q2 : τ} {mc ms : Nat} {x : Int32} {off : Int} (tgt : Nat) (C : x_C p s m args c cc nL own Ts κ) (hd : decode cc pc = .ok (.ifCond .gt off, 3)) (ht : (pc : Int) + off = (tgt : Int)) (kt : (0 < x) → x_V p l e R s m args below meth c κ nL cells slots (x_E below κ args s mc ms F wr q1) f tgt lv st) (kf : ¬ (0 < x) → x_V p l e R s m args below meth c κ nL cells slots (x_E below κ args s mc ms F wr q2) f (pc + 3) lv st) : x_V p l e R s m args below meth c κ nL cells slots (x_E below κ args s mc ms F wr (if 0 < x then q1 else q2)) f pc lv (.int x :: st) :=
  fun H locs ls hP hS hl => lv_if_gt C.1.1 C.1.2.1 hd ht (fun h => by rw [if_pos h]; exact kt h H locs ls hP hS hl) (fun h => by rw [if_neg h]; exact kf h H locs ls hP hS hl)
theorem x_icmp_gt {σ τ : Type} {F : σ → x_I → va_E} {wr : τ → Option Value × σ} {q1 q2 : τ} {mc ms : Nat} {x y : Int32} {off : Int} (tgt : Nat) (C : x_C p s m args c cc nL own Ts κ) (hd : decode cc pc = .ok (.if_icmp .gt off, 3)) (ht : (pc : Int) + off = (tgt : Int)) (kt : (y < x) → x_V p l e R s m args below meth c κ nL cells slots (x_E below κ args s mc ms F wr q1) f tgt lv st) (kf : ¬ (y < x) → x_V p l e R s m args below meth c κ nL cells slots (x_E below κ args s mc ms F wr q2) f (pc + 3) lv st) : x_V p l e R s m args below meth c κ nL cells slots (x_E below κ args s mc ms F wr (if y < x then q1 else q2)) f pc lv (.int y :: .int x :: st) :=
  fun H locs ls hP hS hl => lv_icmp_gt C.1.1 C.1.2.1 hd ht (fun h => by rw [if_pos h]; exact kt h H locs ls hP hS hl) (fun h => by rw [if_neg h]; exact kf h H locs ls hP hS hl)
theorem x_if_le {σ τ : Type} {F : σ → x_I → va_E} {wr : τ → Option Value × σ} {q1 q2 : τ} {mc ms : Nat} {x : Int32} {off : Int} (tgt : Nat) (C : x_C p s m args c cc nL own Ts κ) (hd : decode cc pc = .ok (.ifCond .le off, 3)) (ht : (pc : Int) + off = (tgt : Int)) (kt : (x ≤ 0) → x_V p l e R s m args below meth c κ nL cells slots (x_E below κ args s mc ms F wr q1) f tgt lv st) (kf : ¬ (x ≤ 0) → x_V p l e R s m args below meth c κ nL cells slots (x_E below κ args s mc ms F wr q2) f (pc + 3) lv st) : x_V p l e R s m args below meth c κ nL cells slots (x_E below κ args s mc ms F wr (if x ≤ 0 then q1 else q2)) f pc lv (.int x :: st) :=
  fun H locs ls hP hS hl => lv_if_le C.1.1 C.1.2.1 hd ht (fun h => by rw [if_pos h]; exact kt h H locs ls hP hS hl) (fun h => by rw [if_neg h]; exact kf h H locs ls hP hS hl)
theorem x_icmp_le {σ τ : Type} {F : σ → x_I → va_E} {wr : τ → Option Value × σ} {q1 q2 : τ} {mc ms : Nat} {x y : Int32} {off : Int} (tgt : Nat) (C : x_C p s m args c cc nL own Ts κ) (hd : decode cc pc = .ok (.if_icmp .le off, 3)) (ht : (pc : Int) + off = (tgt : Int)) (kt : (x ≤ y) → x_V p l e R s m args below meth c κ nL cells slots (x_E below κ args s mc ms F wr q1) f tgt lv st) (kf : ¬ (x ≤ y) → x_V p l e R s m args below meth c κ nL cells slots (x_E below κ args s mc ms F wr q2) f (pc + 3) lv st) : x_V p l e R s m args below meth c κ nL cells slots (x_E below κ args s mc ms F wr (if x ≤ y then q1 else q2)) f pc lv (.int y :: .int x :: st) :=
  fun H locs ls hP hS hl => lv_icmp_le C.1.1 C.1.2.1 hd ht (fun h => by rw [if_pos h]; exact kt h H locs ls hP hS hl) (fun h => by rw [if_neg h]; exact kf h H locs ls hP hS hl)
theorem x_if_ne {σ τ : Type} {F : σ → x_I → va_E} {wr : τ → Option Value × σ} {q1 q2 : τ} {mc ms : Nat} {x : Int32} {off : Int} (tgt : Nat) (C : x_C p s m args c cc nL own Ts κ) (hd : decode cc pc = .ok (.ifCond .ne off, 3)) (ht : (pc : Int) + off = (tgt : Int)) (kf : x = 0 → x_V p l e R s m args below meth c κ nL cells slots (x_E below κ args s mc ms F wr q1) f (pc + 3) lv st) (kt : ¬ x = 0 → x_V p l e R s m args below meth c κ nL cells slots (x_E below κ args s mc ms F wr q2) f tgt lv st) : x_V p l e R s m args below meth c κ nL cells slots (x_E below κ args s mc ms F wr (if x = 0 then q1 else q2)) f pc lv (.int x :: st) :=
  fun H locs ls hP hS hl => lv_if_ne C.1.1 C.1.2.1 hd ht (fun h => by rw [if_neg h]; exact kt h H locs ls hP hS hl) (fun h => by rw [if_pos h]; exact kf h H locs ls hP hS hl)
theorem x_icmp_ne {σ τ : Type} {F : σ → x_I → va_E} {wr : τ → Option Value × σ} {q1 q2 : τ} {mc ms : Nat} {x y : Int32} {off : Int} (tgt : Nat) (C : x_C p s m args c cc nL own Ts κ) (hd : decode cc pc = .ok (.if_icmp .ne off, 3)) (ht : (pc : Int) + off = (tgt : Int)) (kf : x = y → x_V p l e R s m args below meth c κ nL cells slots (x_E below κ args s mc ms F wr q1) f (pc + 3) lv st) (kt : ¬ x = y → x_V p l e R s m args below meth c κ nL cells slots (x_E below κ args s mc ms F wr q2) f tgt lv st) : x_V p l e R s m args below meth c κ nL cells slots (x_E below κ args s mc ms F wr (if x = y then q1 else q2)) f pc lv (.int y :: .int x :: st) :=
  fun H locs ls hP hS hl => lv_icmp_ne C.1.1 C.1.2.1 hd ht (fun h => by rw [if_neg h]; exact kt h H locs ls hP hS hl) (fun h => by rw [if_pos h]; exact kf h H locs ls hP hS hl)
theorem x_lcmp_eq {σ τ : Type} {F : σ → x_I → va_E} {wr : τ → Option Value × σ} {q1 q2 : τ} {mc ms : Nat} {x y : Int64} {off : Int} (tgt : Nat) (C : x_C p s m args c cc nL own Ts κ) (hd0 : decode cc pc = .ok (.lcmp, 1)) (hd : decode cc (pc + 1) = .ok (.ifCond .eq off, 3)) (ht : ((pc + 1 : Nat) : Int) + off = (tgt : Int)) (kt : x = y → x_V p l e R s m args below meth c κ nL cells slots (x_E below κ args s mc ms F wr q1) f tgt lv st) (kf : ¬ x = y → x_V p l e R s m args below meth c κ nL cells slots (x_E below κ args s mc ms F wr q2) f (pc + 1 + 3) lv st) : x_V p l e R s m args below meth c κ nL cells slots (x_E below κ args s mc ms F wr (if x = y then q1 else q2)) f pc lv (.long y :: .long x :: st) :=
  fun H locs ls hP hS hl => W.lcmp C.1.1 C.1.2.1 hd0 (lv_if_eq C.1.1 C.1.2.1 hd ht (fun h => by have h := (lg_cmp_eq x y).mp h; rw [if_pos h]; exact kt h H locs ls hP hS hl) (fun h => by have h : ¬ (x = y) := fun h9 => h ((lg_cmp_eq x y).mpr h9); rw [if_neg h]; exact kf h H locs ls hP hS hl))
theorem x_lcmp_lt {σ τ : Type} {F : σ → x_I → va_E} {wr : τ → Option Value × σ} {q1 q2 : τ} {mc ms : Nat} {x y : Int64} {off : Int} (tgt : Nat) (C : x_C p s m args c cc nL own Ts κ) (hd0 : decode cc pc = .ok (.lcmp, 1)) (hd : decode cc (pc + 1) = .ok (.ifCond .lt off, 3)) (ht : ((pc + 1 : Nat) : Int) + off = (tgt : Int)) (kt : x < y → x_V p l e R s m args below meth c κ nL cells slots (x_E below κ args s mc ms F wr q1) f tgt lv st) (kf : ¬ x < y → x_V p l e R s m args below meth c κ nL cells slots (x_E below κ args s mc ms F wr q2) f (pc + 1 + 3) lv st) : x_V p l e R s m args below meth c κ nL cells slots (x_E below κ args s mc ms F wr (if x < y then q1 else q2)) f pc lv (.long y :: .long x :: st) :=
  fun H locs ls hP hS hl => W.lcmp C.1.1 C.1.2.1 hd0 (lv_if_lt C.1.1 C.1.2.1 hd ht (fun h => by have h := (lg_cmp_lt x y).mp h; rw [if_pos h]; exact kt h H locs ls hP hS hl) (fun h => by have h : ¬ (x < y) := fun h9 => h ((lg_cmp_lt x y).mpr h9); rw [if_neg h]; exact kf h H locs ls hP hS hl))
theorem x_lcmp_ge {σ τ : Type} {F : σ → x_I → va_E} {wr : τ → Option Value × σ} {q1 q2 : τ} {mc ms : Nat} {x y : Int64} {off : Int} (tgt : Nat) (C : x_C p s m args c cc nL own Ts κ) (hd0 : decode cc pc = .ok (.lcmp, 1)) (hd : decode cc (pc + 1) = .ok (.ifCond .ge off, 3)) (ht : ((pc + 1 : Nat) : Int) + off = (tgt : Int)) (kt : y ≤ x → x_V p l e R s m args below meth c κ nL cells slots (x_E below κ args s mc ms F wr q1) f tgt lv st) (kf : ¬ y ≤ x → x_V p l e R s m args below meth c κ nL cells slots (x_E below κ args s mc ms F wr q2) f (pc + 1 + 3) lv st) : x_V p l e R s m args below meth c κ nL cells slots (x_E below κ args s mc ms F wr (if y ≤ x then q1 else q2)) f pc lv (.long y :: .long x :: st) :=
  fun H locs ls hP hS hl => W.lcmp C.1.1 C.1.2.1 hd0 (lv_if_ge C.1.1 C.1.2.1 hd ht (fun h => by have h := (lg_cmp_ge x y).mp h; rw [if_pos h]; exact kt h H locs ls hP hS hl) (fun h => by have h : ¬ (y ≤ x) := fun h9 => h ((lg_cmp_ge x y).mpr h9); rw [if_neg h]; exact kf h H locs ls hP hS hl))
theorem x_lcmp_gt {σ τ : Type} {F : σ → x_I → va_E} {wr : τ → Option Value × σ} {q1 q2 : τ} {mc ms : Nat} {x y : Int64} {off : Int} (tgt : Nat) (C : x_C p s m args c cc nL own Ts κ) (hd0 : decode cc pc = .ok (.lcmp, 1)) (hd : decode cc (pc + 1) = .ok (.ifCond .gt off, 3)) (ht : ((pc + 1 : Nat) : Int) + off = (tgt : Int)) (kt : y < x → x_V p l e R s m args below meth c κ nL cells slots (x_E below κ args s mc ms F wr q1) f tgt lv st) (kf : ¬ y < x → x_V p l e R s m args below meth c κ nL cells slots (x_E below κ args s mc ms F wr q2) f (pc + 1 + 3) lv st) : x_V p l e R s m args below meth c κ nL cells slots (x_E below κ args s mc ms F wr (if y < x then q1 else q2)) f pc lv (.long y :: .long x :: st) :=
  fun H locs ls hP hS hl => W.lcmp C.1.1 C.1.2.1 hd0 (lv_if_gt C.1.1 C.1.2.1 hd ht (fun h => by have h := (lg_cmp_gt x y).mp h; rw [if_pos h]; exact kt h H locs ls hP hS hl) (fun h => by have h : ¬ (y < x) := fun h9 => h ((lg_cmp_gt x y).mpr h9); rw [if_neg h]; exact kf h H locs ls hP hS hl))
theorem x_lcmp_le {σ τ : Type} {F : σ → x_I → va_E} {wr : τ → Option Value × σ} {q1 q2 : τ} {mc ms : Nat} {x y : Int64} {off : Int} (tgt : Nat) (C : x_C p s m args c cc nL own Ts κ) (hd0 : decode cc pc = .ok (.lcmp, 1)) (hd : decode cc (pc + 1) = .ok (.ifCond .le off, 3)) (ht : ((pc + 1 : Nat) : Int) + off = (tgt : Int)) (kt : x ≤ y → x_V p l e R s m args below meth c κ nL cells slots (x_E below κ args s mc ms F wr q1) f tgt lv st) (kf : ¬ x ≤ y → x_V p l e R s m args below meth c κ nL cells slots (x_E below κ args s mc ms F wr q2) f (pc + 1 + 3) lv st) : x_V p l e R s m args below meth c κ nL cells slots (x_E below κ args s mc ms F wr (if x ≤ y then q1 else q2)) f pc lv (.long y :: .long x :: st) :=
  fun H locs ls hP hS hl => W.lcmp C.1.1 C.1.2.1 hd0 (lv_if_le C.1.1 C.1.2.1 hd ht (fun h => by have h := (lg_cmp_le x y).mp h; rw [if_pos h]; exact kt h H locs ls hP hS hl) (fun h => by have h : ¬ (x ≤ y) := fun h9 => h ((lg_cmp_le x y).mpr h9); rw [if_neg h]; exact kf h H locs ls hP hS hl))
theorem x_lcmp_ne {σ τ : Type} {F : σ → x_I → va_E} {wr : τ → Option Value × σ} {q1 q2 : τ} {mc ms : Nat} {x y : Int64} {off : Int} (tgt : Nat) (C : x_C p s m args c cc nL own Ts κ) (hd0 : decode cc pc = .ok (.lcmp, 1)) (hd : decode cc (pc + 1) = .ok (.ifCond .ne off, 3)) (ht : ((pc + 1 : Nat) : Int) + off = (tgt : Int)) (kf : x = y → x_V p l e R s m args below meth c κ nL cells slots (x_E below κ args s mc ms F wr q1) f (pc + 1 + 3) lv st) (kt : ¬ x = y → x_V p l e R s m args below meth c κ nL cells slots (x_E below κ args s mc ms F wr q2) f tgt lv st) : x_V p l e R s m args below meth c κ nL cells slots (x_E below κ args s mc ms F wr (if x = y then q1 else q2)) f pc lv (.long y :: .long x :: st) :=
  fun H locs ls hP hS hl => W.lcmp C.1.1 C.1.2.1 hd0 (lv_if_ne C.1.1 C.1.2.1 hd ht (fun h => by have h : ¬ x = y := fun h9 => h ((lg_cmp_eq x y).mpr h9); rw [if_neg h]; exact kt h H locs ls hP hS hl) (fun h => by have h : x = y := (lg_cmp_eq x y).mp h; rw [if_pos h]; exact kf h H locs ls hP hS hl))
theorem x_ite {σ τ : Type} {F : σ → x_I → va_E} {wr : τ → Option Value × σ} {q1 q2 : τ} {mc ms : Nat} {b : Prop} [hb : Decidable b] (kt : b → x_V p l e R s m args below meth c κ nL cells slots (x_E below κ args s mc ms F wr q1) f pc lv st) (kf : ¬ b → x_V p l e R s m args below meth c κ nL cells slots (x_E below κ args s mc ms F wr q2) f pc lv st) : x_V p l e R s m args below meth c κ nL cells slots (x_E below κ args s mc ms F wr (if b then q1 else q2)) f pc lv st := by
  by_cases h : b
  · rw [if_pos h]; exact kt h
  · rw [if_neg h]; exact kf h
end Rows
end
section
section HeapRows
variable {p : Program} {l : Launch} {e : Env} {R : Room} {s : State} {m : MethodId} {args : Array Value} {below : List Frame} {meth : Method} {c : Code} {cells slots : Nat} {Q : State → Prop}
variable {cc : ByteArray} {nL : Nat} {own : String} {Ts : List Cond} {κ : x_K} {f f' : x_I → va_E} {pc : Nat} {lv lv' : List (Nat × Value)} {st : List Value}
theorem x_get {i : x_I} {ci N index : Nat} {Cn : String} {T : u_T} {fs : List Value} {v : Value} (k : Nat) (C : x_C p s m args c cc nL own Ts κ) (hi : i ∈ x_ids κ) (hf : f i = .inr (ci, fs)) (hc : (x_cl κ)[ci]? = some (Cn, T, N)) (hin : ∀ w ∈ u_ws Cn T N, w ∈ Ts) (hk : k < N) (hlink : Cond.fieldLink own index (T k).1 (T k).2.1 (T k).2.2.1 ∈ Ts) (hv : fs[k]? = some v) (hd : decode cc pc = .ok (.getfield index, 3))
    (kk : x_V p l e R s m args below meth c κ nL cells slots Q f (pc + 3) lv (v :: st)) : x_V p l e R s m args below meth c κ nL cells slots Q f pc lv (.ref (x_ad κ i) :: st) := fun H locs ls hP hS hl => by
  obtain ⟨q, hq⟩ := x_at (f := f) hi
  exact va_get C.1.1 C.1.2.1 C.1.2.2.2.2 hin C.1.2.2.2.1 C.2.1 hP q (hq.trans (by rw [hf])) hc k hk (C.1.2.2.2.2 _ hlink) (fun _ h => h) hv hd (kk H locs ls hP hS hl)
theorem x_put {i : x_I} {ci N index : Nat} {Cn : String} {T : u_T} {ty : Nat → FieldType} {fs : List Value} {v : Value} (k : Nat) (C : x_C p s m args c cc nL own Ts κ) (hi : i ∈ x_ids κ) (hf : f i = .inr (ci, fs)) (hc : (x_cl κ)[ci]? = some (Cn, T, N)) (hin : ∀ w ∈ u_ws Cn T N, w ∈ Ts) (hty : ∀ k, k < N → parseFieldDescriptor (T k).2.2.1 = some (ty k)) (hnm : ∀ a, a < N → ∀ b, b < N → a ≠ b → (T a).2.1 ≠ (T b).2.1) (hk : k < N) (hlink : Cond.fieldLink own index (T k).1 (T k).2.1 (T k).2.2.1 ∈ Ts) (hfin : (T k).2.2.2 = false) (hn : narrow (ty k) v = v) (hfit : fits (ty k) v = true) (hl : k < fs.length) (hd : decode cc pc = .ok (.putfield index, 3)) (hF : x_up f i (.inr (ci, fs.set k v)) = f')
    (kk : x_V p l e R s m args below meth c κ nL cells slots Q f' (pc + 3) lv st) : x_V p l e R s m args below meth c κ nL cells slots Q f pc lv (v :: .ref (x_ad κ i) :: st) := fun H locs ls hP hS hl9 => by
  obtain ⟨q, hq⟩ := x_at (f := f) hi
  have hq' : (x_wd κ f)[q]? = some (x_ad κ i, .inr (ci, fs)) := hq.trans (by rw [hf])
  refine va_put (A := x_A κ s.heap.size) C.1.1 C.1.2.1 C.1.2.2.2.2 hin ty hty hnm C.1.2.2.2.1 C.2.1 hP (x_D C.2.2 f _) hS q hq' hc k hk (C.1.2.2.2.2 _ hlink) (fun _ h => h) hfin (hty k hk) hn hfit hl hd (fun H1 locs1 hP1 _ hS1 => ?_)
  rw [x_set C.2.2 hi hq, hF] at hP1
  exact kk H1 locs1 ls hP1 hS1 hl9
theorem x_iald {i : x_I} {cA : ClassId} {n : Nat} {g : Nat → Int32} {j : Int32} (t0 : Nat) (C : x_C p s m args c cc nL own Ts κ) (hi : i ∈ x_ids κ) (hf : f i = .inl (cA, n, .inl g)) (ht : (x_ty κ)[t0]? = some (cA, .int)) (hin : vp_in j n) (hd : decode cc pc = .ok (.iaload, 1))
    (kk : x_V p l e R s m args below meth c κ nL cells slots Q f (pc + 1) lv (.int (g j.toNatClampNeg) :: st)) : x_V p l e R s m args below meth c κ nL cells slots Q f pc lv (.int j :: .ref (x_ad κ i) :: st) := fun H locs ls hP hS hl => by
  obtain ⟨q, hq⟩ := x_at (f := f) hi
  exact va_iald C.1.1 C.1.2.1 C.2.1 hP q t0 (hq.trans (by rw [hf])) ht hin hd (kk H locs ls hP hS hl)
theorem x_zald {i : x_I} {cA : ClassId} {n : Nat} {g : Nat → Int32} {j : Int32} (t0 : Nat) (C : x_C p s m args c cc nL own Ts κ) (hi : i ∈ x_ids κ) (hf : f i = .inl (cA, n, .inl g)) (ht : (x_ty κ)[t0]? = some (cA, .boolean)) (hin : vp_in j n) (hd : decode cc pc = .ok (.baload, 1))
    (kk : x_V p l e R s m args below meth c κ nL cells slots Q f (pc + 1) lv (.int (g j.toNatClampNeg) :: st)) : x_V p l e R s m args below meth c κ nL cells slots Q f pc lv (.int j :: .ref (x_ad κ i) :: st) := fun H locs ls hP hS hl => by
  obtain ⟨q, hq⟩ := x_at (f := f) hi
  exact va_zald C.1.1 C.1.2.1 C.2.1 hP q t0 (hq.trans (by rw [hf])) ht hin hd (kk H locs ls hP hS hl)
theorem x_lald {i : x_I} {cA : ClassId} {n : Nat} {g : Nat → Int64} {j : Int32} (t0 : Nat) (C : x_C p s m args c cc nL own Ts κ) (hi : i ∈ x_ids κ) (hf : f i = .inl (cA, n, .inr (.inl g))) (ht : (x_ty κ)[t0]? = some (cA, .long)) (hin : vp_in j n) (hd : decode cc pc = .ok (.laload, 1))
    (kk : x_V p l e R s m args below meth c κ nL cells slots Q f (pc + 1) lv (.long (g j.toNatClampNeg) :: st)) : x_V p l e R s m args below meth c κ nL cells slots Q f pc lv (.int j :: .ref (x_ad κ i) :: st) := fun H locs ls hP hS hl => by
  obtain ⟨q, hq⟩ := x_at (f := f) hi
  exact va_lald C.1.1 C.1.2.1 C.2.1 hP q t0 (hq.trans (by rw [hf])) ht hin hd (kk H locs ls hP hS hl)
theorem x_aald {i : x_I} {cA : ClassId} {C9 : String} {n : Nat} {g : Nat → Option Nat} {j : Int32} (t0 : Nat) (C : x_C p s m args c cc nL own Ts κ) (hi : i ∈ x_ids κ) (hf : f i = .inl (cA, n, .inr (.inr (.inr (.inr g))))) (ht : (x_ty κ)[t0]? = some (cA, .object C9)) (hin : vp_in j n) (hd : decode cc pc = .ok (.aaload, 1))
    (kk : x_V p l e R s m args below meth c κ nL cells slots Q f (pc + 1) lv (va_rf (g j.toNatClampNeg) :: st)) : x_V p l e R s m args below meth c κ nL cells slots Q f pc lv (.int j :: .ref (x_ad κ i) :: st) := fun H locs ls hP hS hl => by
  obtain ⟨q, hq⟩ := x_at (f := f) hi
  exact va_aldq C.1.1 C.1.2.1 C.2.1 hP q t0 (hq.trans (by rw [hf])) ht hin hd (kk H locs ls hP hS hl)
theorem x_iast {i : x_I} {cA : ClassId} {n : Nat} {g : Nat → Int32} {j x : Int32} (t0 : Nat) (C : x_C p s m args c cc nL own Ts κ) (hi : i ∈ x_ids κ) (hf : f i = .inl (cA, n, .inl g)) (ht : (x_ty κ)[t0]? = some (cA, .int)) (hin : vp_in j n) (hd : decode cc pc = .ok (.iastore, 1)) (hF : x_up f i (.inl (cA, n, .inl (upd g j.toNatClampNeg x))) = f')
    (kk : x_V p l e R s m args below meth c κ nL cells slots Q f' (pc + 1) lv st) : x_V p l e R s m args below meth c κ nL cells slots Q f pc lv (.int x :: .int j :: .ref (x_ad κ i) :: st) := fun H locs ls hP hS hl => by
  obtain ⟨q, hq⟩ := x_at (f := f) hi
  refine va_iast (A := x_A κ s.heap.size) C.1.1 C.1.2.1 C.2.1 hP (x_D C.2.2 f _) hS q t0 (hq.trans (by rw [hf])) ht hin hd (fun H1 locs1 hP1 _ hS1 => ?_)
  rw [x_set C.2.2 hi hq, hF] at hP1
  exact kk H1 locs1 ls hP1 hS1 hl
theorem x_zast {i : x_I} {cA : ClassId} {n : Nat} {g : Nat → Int32} {j x : Int32} (t0 : Nat) (C : x_C p s m args c cc nL own Ts κ) (hi : i ∈ x_ids κ) (hf : f i = .inl (cA, n, .inl g)) (ht : (x_ty κ)[t0]? = some (cA, .boolean)) (hin : vp_in j n) (hd : decode cc pc = .ok (.bastore, 1)) (hF : x_up f i (.inl (cA, n, .inl (upd g j.toNatClampNeg (vp_nar .boolean x)))) = f')
    (kk : x_V p l e R s m args below meth c κ nL cells slots Q f' (pc + 1) lv st) : x_V p l e R s m args below meth c κ nL cells slots Q f pc lv (.int x :: .int j :: .ref (x_ad κ i) :: st) := fun H locs ls hP hS hl => by
  obtain ⟨q, hq⟩ := x_at (f := f) hi
  refine va_zast (A := x_A κ s.heap.size) C.1.1 C.1.2.1 C.2.1 hP (x_D C.2.2 f _) hS q t0 (hq.trans (by rw [hf])) ht hin hd (fun H1 locs1 hP1 _ hS1 => ?_)
  rw [x_set C.2.2 hi hq, hF] at hP1
  exact kk H1 locs1 ls hP1 hS1 hl
theorem x_last {i : x_I} {cA : ClassId} {n : Nat} {g : Nat → Int64} {j : Int32} {x : Int64} (t0 : Nat) (C : x_C p s m args c cc nL own Ts κ) (hi : i ∈ x_ids κ) (hf : f i = .inl (cA, n, .inr (.inl g))) (ht : (x_ty κ)[t0]? = some (cA, .long)) (hin : vp_in j n) (hd : decode cc pc = .ok (.lastore, 1)) (hF : x_up f i (.inl (cA, n, .inr (.inl (vp_updL g j.toNatClampNeg x)))) = f')
    (kk : x_V p l e R s m args below meth c κ nL cells slots Q f' (pc + 1) lv st) : x_V p l e R s m args below meth c κ nL cells slots Q f pc lv (.long x :: .int j :: .ref (x_ad κ i) :: st) := fun H locs ls hP hS hl => by
  obtain ⟨q, hq⟩ := x_at (f := f) hi
  refine va_last (A := x_A κ s.heap.size) C.1.1 C.1.2.1 C.2.1 hP (x_D C.2.2 f _) hS q t0 (hq.trans (by rw [hf])) ht hin hd (fun H1 locs1 hP1 _ hS1 => ?_)
  rw [x_set C.2.2 hi hq, hF] at hP1
  exact kk H1 locs1 ls hP1 hS1 hl
theorem x_alen {i : x_I} {cA : ClassId} {x : vp_A} {ty : FieldType} {v : Int32} (t0 : Nat) (C : x_C p s m args c cc nL own Ts κ) (hi : i ∈ x_ids κ) (hf : f i = .inl (cA, x)) (ht : (x_ty κ)[t0]? = some (cA, ty)) (hv : Int32.ofNat x.1 = v) (hd : decode cc pc = .ok (.arraylength, 1))
    (kk : x_V p l e R s m args below meth c κ nL cells slots Q f (pc + 1) lv (.int v :: st)) : x_V p l e R s m args below meth c κ nL cells slots Q f pc lv (.ref (x_ad κ i) :: st) := fun H locs ls hP hS hl => by
  obtain ⟨q, hq⟩ := x_at (f := f) hi
  exact va_alen C.1.1 C.1.2.1 C.2.1 hP q t0 (hq.trans (by rw [hf])) ht hv hd (kk H locs ls hP hS hl)
-- answers
theorem x_iret {σ τ : Type} {F : σ → x_I → va_E} {wr : τ → Option Value × σ} {q : τ} {a : σ} {v : Int32} (C : x_C p s m args c cc nL own Ts κ) (hr : meth.sig.returnType = some .int) (hlocks : meth.locks = false) (hX : wr q = (some (.int v), a)) (hd : decode cc pc = .ok (.ireturn, 1)) : x_V p l e R s m args below meth c κ nL cells slots (x_E below κ args s cells slots F wr q) (F a) pc lv [.int v] := fun H locs ls hP hS hl => by
  unfold x_E
  rw [hX]
  exact W.iret C.1.1 C.1.2.1 hr (fun t ht hW => ⟨rfl, by rw [ht]; exact hP, hS.F ht⟩) hS.2.2 hd hlocks
theorem x_zret {σ τ : Type} {F : σ → x_I → va_E} {wr : τ → Option Value × σ} {q : τ} {a : σ} {v : Int32} {ty : FieldType} (C : x_C p s m args c cc nL own Ts κ) (hr : meth.sig.returnType = some ty) (hlocks : meth.locks = false) (hn : narrow ty (.int v) = .int v) (hX : wr q = (some (.int v), a)) (hd : decode cc pc = .ok (.ireturn, 1)) : x_V p l e R s m args below meth c κ nL cells slots (x_E below κ args s cells slots F wr q) (F a) pc lv [.int v] := fun H locs ls hP hS hl => by
  unfold x_E
  rw [hX]
  exact W.zret C.1.1 C.1.2.1 hr hn (fun t ht hW => ⟨rfl, by rw [ht]; exact hP, hS.F ht⟩) hS.2.2 hd hlocks
theorem x_lret {σ τ : Type} {F : σ → x_I → va_E} {wr : τ → Option Value × σ} {q : τ} {a : σ} {v : Int64} (C : x_C p s m args c cc nL own Ts κ) (hr : meth.sig.returnType = some .long) (hlocks : meth.locks = false) (hX : wr q = (some (.long v), a)) (hd : decode cc pc = .ok (.lreturn, 1)) : x_V p l e R s m args below meth c κ nL cells slots (x_E below κ args s cells slots F wr q) (F a) pc lv [.long v] := fun H locs ls hP hS hl => by
  unfold x_E
  rw [hX]
  exact W.lret C.1.1 C.1.2.1 hr (fun t ht hW => ⟨rfl, by rw [ht]; exact hP, hS.F ht⟩) hS.2.2 hd hlocks
theorem x_vret {σ τ : Type} {F : σ → x_I → va_E} {wr : τ → Option Value × σ} {q : τ} {a : σ} (C : x_C p s m args c cc nL own Ts κ) (hr : meth.sig.returnType = none) (hlocks : meth.locks = false) (hX : wr q = (none, a)) (hd : decode cc pc = .ok (.return_, 1)) : x_V p l e R s m args below meth c κ nL cells slots (x_E below κ args s cells slots F wr q) (F a) pc lv [] := fun H locs ls hP hS hl => by
  unfold x_E
  rw [hX]
  exact W.vret C.1.1 C.1.2.1 hr (fun t ht hW => ⟨rfl, by rw [ht]; exact hP, hS.F ht⟩) hS.2.2 hd hlocks
theorem x_aret {σ τ : Type} {F : σ → x_I → va_E} {wr : τ → Option Value × σ} {q : τ} {a : σ} {v : Value} {n : String} (C : x_C p s m args c cc nL own Ts κ) (hr : meth.sig.returnType = some (.object n)) (hlocks : meth.locks = false) (hv : v = .null ∨ ∃ a, v = .ref a) (hX : wr q = (some v, a)) (hd : decode cc pc = .ok (.areturn, 1)) : x_V p l e R s m args below meth c κ nL cells slots (x_E below κ args s cells slots F wr q) (F a) pc lv [v] := fun H locs ls hP hS hl => by
  unfold x_E
  rw [hX]
  exact W.aret C.1.1 C.1.2.1 hr (Or.inl ⟨n, rfl⟩) hv (fun t ht hW => ⟨rfl, by rw [ht]; exact hP, hS.F ht⟩) hS.2.2 hd hlocks
-- Math.max and min of longs
theorem x_maxl {index : Nat} {x y : Int64} (C : x_C p s m args c cc nL own Ts κ) (hlink : Cond.methodLink own index Lib.MathLoose.max_long.x ∈ Ts) (hstat : Cond.static Lib.MathLoose.max_long.x ∈ Ts) (hini : Cond.initialized "java/lang/Math" ∈ Ts) (hcode : Cond.code Lib.MathLoose.max_long.x Lib.MathLoose.max_long.code 4 (some .long) ∈ Ts) (hframes : 1 ≤ R.frames) (hlocals : (st.map fun v => v.category).sum + 15 ≤ R.locals) (hc : cells ≤ R.cells) (hs : slots ≤ R.slots) (hd : decode cc pc = .ok (.invokestatic index, 3))
    (kk : x_V p l e R s m args below meth c κ nL cells slots Q f (pc + 3) lv (.long (if y < x then x else y) :: st)) : x_V p l e R s m args below meth c κ nL cells slots Q f pc lv (.long y :: .long x :: st) := fun H locs ls hP hS hl =>
  va_mmax_long C.1.1 C.1.2.1 (C.1.2.2.1.trans hl.1.symm) C.1.2.2.2.1 (C.1.2.2.2.2 _ hlink) (C.1.2.2.2.2 _ hstat) (C.1.2.2.2.2 _ hini) (C.1.2.2.2.2 _ hcode) hframes hlocals hc hs hd (kk H locs ls hP hS hl)
theorem x_minl {index : Nat} {x y : Int64} (C : x_C p s m args c cc nL own Ts κ) (hlink : Cond.methodLink own index Lib.MathLoose.min_long.x ∈ Ts) (hstat : Cond.static Lib.MathLoose.min_long.x ∈ Ts) (hini : Cond.initialized "java/lang/Math" ∈ Ts) (hcode : Cond.code Lib.MathLoose.min_long.x Lib.MathLoose.min_long.code 4 (some .long) ∈ Ts) (hframes : 1 ≤ R.frames) (hlocals : (st.map fun v => v.category).sum + 15 ≤ R.locals) (hc : cells ≤ R.cells) (hs : slots ≤ R.slots) (hd : decode cc pc = .ok (.invokestatic index, 3))
    (kk : x_V p l e R s m args below meth c κ nL cells slots Q f (pc + 3) lv (.long (if y < x then y else x) :: st)) : x_V p l e R s m args below meth c κ nL cells slots Q f pc lv (.long y :: .long x :: st) := fun H locs ls hP hS hl =>
  va_mmin_long C.1.1 C.1.2.1 (C.1.2.2.1.trans hl.1.symm) C.1.2.2.2.1 (C.1.2.2.2.2 _ hlink) (C.1.2.2.2.2 _ hstat) (C.1.2.2.2.2 _ hini) (C.1.2.2.2.2 _ hcode) hframes hlocals hc hs hd (kk H locs ls hP hS hl)
end HeapRows
end
section
/-! NAMES, written by wip/whole/mk_names.py out of the claim's listing -/
abbrev R_Ck : String := "CheckedMachine$Checker"
abbrev R_Ef : String := "CheckedMachine$Effects"
abbrev R_Gs : String := "CheckedMachine$Guesses"
abbrev R_Jg : String := "CheckedMachine$Judge"
abbrev R_Pg : String := "CheckedMachine$Program"
abbrev R_Rn : String := "CheckedMachine$Runner"
abbrev R_St : String := "CheckedMachine$Step"
abbrev R_CM : String := "CheckedMachine"
abbrev R_Md : String := "CheckedMachineModel"
abbrev R_Fk : String := "CheckedMachine$Fork"
abbrev R_Lw : String := "CheckedMachineLaw"
def T_Ck : u_T := fun k => match k with
  | 0 => ("CheckedMachine$Checker", "program", "LCheckedMachine$Program;", true)
  | 1 => ("CheckedMachine$Checker", "now", "LCheckedMachine$Guesses;", true)
  | 2 => ("CheckedMachine$Checker", "judge", "LCheckedMachine$Judge;", true)
  | 3 => ("CheckedMachine$Checker", "effects", "LCheckedMachine$Effects;", true)
  | 4 => ("CheckedMachine$Checker", "left", "[LCheckedMachine$Guesses;", true)
  | 5 => ("CheckedMachine$Checker", "open", "[Z", true)
  | 6 => ("CheckedMachine$Checker", "verdict", "I", false)
  | 7 => ("CheckedMachine$Checker", "looked", "I", false)
  | 8 => ("CheckedMachine$Checker", "reason", "I", false)
  | 9 => ("CheckedMachine$Checker", "rejectedAt", "I", false)
  | 10 => ("CheckedMachine$Checker", "exited", "Z", false)
  | 11 => ("CheckedMachine$Checker", "least", "J", false)
  | _ => ("CheckedMachine$Checker", "greatest", "J", false)
def t_Ck : Nat → FieldType := fun k => match k with
  | 0 => .object "CheckedMachine$Program"
  | 1 => .object "CheckedMachine$Guesses"
  | 2 => .object "CheckedMachine$Judge"
  | 3 => .object "CheckedMachine$Effects"
  | 4 => .array (.object "CheckedMachine$Guesses")
  | 5 => .array .boolean
  | 6 => .int
  | 7 => .int
  | 8 => .int
  | 9 => .int
  | 10 => .boolean
  | 11 => .long
  | _ => .long
theorem n_Ck : ∀ a, a < 13 → ∀ b, b < 13 → a ≠ b → (T_Ck a).2.1 ≠ (T_Ck b).2.1 := by decide +kernel
theorem t_Ck_ok : ∀ k, k < 13 → parseFieldDescriptor (T_Ck k).2.2.1 = some (t_Ck k) := by decide +kernel
def T_Ef : u_T := fun k => match k with
  | _ => ("CheckedMachine$Effects", "now", "LCheckedMachine$Guesses;", true)
def t_Ef : Nat → FieldType := fun k => match k with
  | _ => .object "CheckedMachine$Guesses"
theorem n_Ef : ∀ a, a < 1 → ∀ b, b < 1 → a ≠ b → (T_Ef a).2.1 ≠ (T_Ef b).2.1 := by decide +kernel
theorem t_Ef_ok : ∀ k, k < 1 → parseFieldDescriptor (T_Ef k).2.2.1 = some (t_Ef k) := by decide +kernel
def T_Gs : u_T := fun k => match k with
  | 0 => ("CheckedMachine$Guesses", "kinds", "[I", true)
  | 1 => ("CheckedMachine$Guesses", "los", "[J", true)
  | _ => ("CheckedMachine$Guesses", "his", "[J", true)
def t_Gs : Nat → FieldType := fun k => match k with
  | 0 => .array .int
  | 1 => .array .long
  | _ => .array .long
theorem n_Gs : ∀ a, a < 3 → ∀ b, b < 3 → a ≠ b → (T_Gs a).2.1 ≠ (T_Gs b).2.1 := by decide +kernel
theorem t_Gs_ok : ∀ k, k < 3 → parseFieldDescriptor (T_Gs k).2.2.1 = some (t_Gs k) := by decide +kernel
def T_Jg : u_T := fun k => match k with
  | 0 => ("CheckedMachine$Judge", "program", "LCheckedMachine$Program;", true)
  | _ => ("CheckedMachine$Judge", "now", "LCheckedMachine$Guesses;", true)
def t_Jg : Nat → FieldType := fun k => match k with
  | 0 => .object "CheckedMachine$Program"
  | _ => .object "CheckedMachine$Guesses"
theorem n_Jg : ∀ a, a < 2 → ∀ b, b < 2 → a ≠ b → (T_Jg a).2.1 ≠ (T_Jg b).2.1 := by decide +kernel
theorem t_Jg_ok : ∀ k, k < 2 → parseFieldDescriptor (T_Jg k).2.2.1 = some (t_Jg k) := by decide +kernel
def T_Pg : u_T := fun k => match k with
  | 0 => ("CheckedMachine$Program", "steps", "[LCheckedMachine$Step;", true)
  | _ => ("CheckedMachine$Program", "size", "I", false)
def t_Pg : Nat → FieldType := fun k => match k with
  | 0 => .array (.object "CheckedMachine$Step")
  | _ => .int
theorem n_Pg : ∀ a, a < 2 → ∀ b, b < 2 → a ≠ b → (T_Pg a).2.1 ≠ (T_Pg b).2.1 := by decide +kernel
theorem t_Pg_ok : ∀ k, k < 2 → parseFieldDescriptor (T_Pg k).2.2.1 = some (t_Pg k) := by decide +kernel
def T_Rn : u_T := fun k => match k with
  | 0 => ("CheckedMachine$Runner", "program", "LCheckedMachine$Program;", true)
  | 1 => ("CheckedMachine$Runner", "map", "[[J", true)
  | 2 => ("CheckedMachine$Runner", "kinds", "[I", true)
  | 3 => ("CheckedMachine$Runner", "values", "[J", true)
  | 4 => ("CheckedMachine$Runner", "stepsRun", "I", false)
  | _ => ("CheckedMachine$Runner", "countCalls", "I", false)
def t_Rn : Nat → FieldType := fun k => match k with
  | 0 => .object "CheckedMachine$Program"
  | 1 => .array (.array .long)
  | 2 => .array .int
  | 3 => .array .long
  | 4 => .int
  | _ => .int
theorem n_Rn : ∀ a, a < 6 → ∀ b, b < 6 → a ≠ b → (T_Rn a).2.1 ≠ (T_Rn b).2.1 := by decide +kernel
theorem t_Rn_ok : ∀ k, k < 6 → parseFieldDescriptor (T_Rn k).2.2.1 = some (t_Rn k) := by decide +kernel
def T_St : u_T := fun k => match k with
  | 0 => ("CheckedMachine$Step", "op", "I", false)
  | 1 => ("CheckedMachine$Step", "d", "I", false)
  | 2 => ("CheckedMachine$Step", "s", "I", false)
  | 3 => ("CheckedMachine$Step", "number", "I", false)
  | _ => ("CheckedMachine$Step", "target", "I", false)
def t_St : Nat → FieldType := fun k => match k with
  | 0 => .int
  | 1 => .int
  | 2 => .int
  | 3 => .int
  | _ => .int
theorem n_St : ∀ a, a < 5 → ∀ b, b < 5 → a ≠ b → (T_St a).2.1 ≠ (T_St b).2.1 := by decide +kernel
theorem t_St_ok : ∀ k, k < 5 → parseFieldDescriptor (T_St k).2.2.1 = some (t_St k) := by decide +kernel
def T_CM : u_T := fun k => match k with
  | 0 => ("CheckedMachine", "program", "LCheckedMachine$Program;", true)
  | 1 => ("CheckedMachine", "checker", "LCheckedMachine$Checker;", true)
  | 2 => ("CheckedMachine", "runner", "LCheckedMachine$Runner;", true)
  | _ => ("CheckedMachine", "checked", "Z", false)
def t_CM : Nat → FieldType := fun k => match k with
  | 0 => .object "CheckedMachine$Program"
  | 1 => .object "CheckedMachine$Checker"
  | 2 => .object "CheckedMachine$Runner"
  | _ => .boolean
theorem n_CM : ∀ a, a < 4 → ∀ b, b < 4 → a ≠ b → (T_CM a).2.1 ≠ (T_CM b).2.1 := by decide +kernel
theorem t_CM_ok : ∀ k, k < 4 → parseFieldDescriptor (T_CM k).2.2.1 = some (t_CM k) := by decide +kernel
def T_Md : u_T := fun k => match k with
  | 0 => ("CheckedMachineModel", "op", "[I", true)
  | 1 => ("CheckedMachineModel", "d", "[I", true)
  | 2 => ("CheckedMachineModel", "s", "[I", true)
  | 3 => ("CheckedMachineModel", "n", "[I", true)
  | 4 => ("CheckedMachineModel", "target", "[I", true)
  | 5 => ("CheckedMachineModel", "size", "I", false)
  | 6 => ("CheckedMachineModel", "reason", "I", false)
  | 7 => ("CheckedMachineModel", "at", "I", false)
  | 8 => ("CheckedMachineModel", "looked", "I", false)
  | 9 => ("CheckedMachineModel", "ran", "I", false)
  | 10 => ("CheckedMachineModel", "calls", "I", false)
  | 11 => ("CheckedMachineModel", "thrown", "I", false)
  | 12 => ("CheckedMachineModel", "checked", "Z", false)
  | 13 => ("CheckedMachineModel", "any", "Z", false)
  | 14 => ("CheckedMachineModel", "least", "J", false)
  | 15 => ("CheckedMachineModel", "most", "J", false)
  | 16 => ("CheckedMachineModel", "kind", "[I", true)
  | 17 => ("CheckedMachineModel", "low", "[J", true)
  | 18 => ("CheckedMachineModel", "high", "[J", true)
  | 19 => ("CheckedMachineModel", "pileKind", "[I", true)
  | 20 => ("CheckedMachineModel", "pileStep", "[I", true)
  | 21 => ("CheckedMachineModel", "pileLow", "[J", true)
  | 22 => ("CheckedMachineModel", "pileHigh", "[J", true)
  | 23 => ("CheckedMachineModel", "map", "[J", true)
  | 24 => ("CheckedMachineModel", "pile", "I", false)
  | _ => ("CheckedMachineModel", "step", "I", false)
def t_Md : Nat → FieldType := fun k => match k with
  | 0 => .array .int
  | 1 => .array .int
  | 2 => .array .int
  | 3 => .array .int
  | 4 => .array .int
  | 5 => .int
  | 6 => .int
  | 7 => .int
  | 8 => .int
  | 9 => .int
  | 10 => .int
  | 11 => .int
  | 12 => .boolean
  | 13 => .boolean
  | 14 => .long
  | 15 => .long
  | 16 => .array .int
  | 17 => .array .long
  | 18 => .array .long
  | 19 => .array .int
  | 20 => .array .int
  | 21 => .array .long
  | 22 => .array .long
  | 23 => .array .long
  | 24 => .int
  | _ => .int
theorem n_Md : ∀ a, a < 26 → ∀ b, b < 26 → a ≠ b → (T_Md a).2.1 ≠ (T_Md b).2.1 := by decide +kernel
theorem t_Md_ok : ∀ k, k < 26 → parseFieldDescriptor (T_Md k).2.2.1 = some (t_Md k) := by decide +kernel
abbrev x_classes : List vw_C := [(R_Ck, T_Ck, 13), (R_Ef, T_Ef, 1), (R_Gs, T_Gs, 3), (R_Jg, T_Jg, 2), (R_Pg, T_Pg, 2), (R_Rn, T_Rn, 6), (R_St, T_St, 5), (R_CM, T_CM, 4), (R_Md, T_Md, 26)]
abbrev b_CM_init : ByteArray := prog_1_method_1_code
abbrev y_CM_init : MethodName := ⟨R_CM, "<init>", "()V"⟩
abbrev b_CM_add : ByteArray := prog_1_method_2_code
abbrev y_CM_add : MethodName := ⟨R_CM, "add", "(IIIII)I"⟩
abbrev b_CM_put : ByteArray := prog_1_method_3_code
abbrev y_CM_put : MethodName := ⟨R_CM, "put", "(IIIIII)V"⟩
abbrev b_CM_cut : ByteArray := prog_1_method_4_code
abbrev y_CM_cut : MethodName := ⟨R_CM, "cut", "(I)V"⟩
abbrev b_CM_check : ByteArray := prog_1_method_5_code
abbrev y_CM_check : MethodName := ⟨R_CM, "check", "()I"⟩
abbrev b_CM_run : ByteArray := prog_1_method_6_code
abbrev y_CM_run : MethodName := ⟨R_CM, "run", "(J)J"⟩
abbrev b_CM_row : ByteArray := prog_1_method_7_code
abbrev y_CM_row : MethodName := ⟨R_CM, "row", "(II)J"⟩
abbrev b_CM_fill : ByteArray := prog_1_method_8_code
abbrev y_CM_fill : MethodName := ⟨R_CM, "fill", "(IIJ)V"⟩
abbrev b_CM_outcome : ByteArray := prog_1_method_9_code
abbrev y_CM_outcome : MethodName := ⟨R_CM, "outcome", "(Z)J"⟩
abbrev b_CM_count : ByteArray := prog_1_method_10_code
abbrev y_CM_count : MethodName := ⟨R_CM, "count", "(I)I"⟩
abbrev b_CM_isInMap : ByteArray := prog_1_method_11_code
abbrev y_CM_isInMap : MethodName := ⟨R_CM, "isInMap", "(II)Z"⟩
abbrev b_Md_init : ByteArray := prog_11_method_1_code
abbrev y_Md_init : MethodName := ⟨R_Md, "<init>", "()V"⟩
abbrev b_Md_thrown : ByteArray := prog_11_method_2_code
abbrev y_Md_thrown : MethodName := ⟨R_Md, "thrown", "()I"⟩
abbrev b_Md_in : ByteArray := prog_11_method_3_code
abbrev y_Md_in : MethodName := ⟨R_Md, "in", "(JJJ)Z"⟩
abbrev b_Md_bad : ByteArray := prog_11_method_4_code
abbrev y_Md_bad : MethodName := ⟨R_Md, "bad", "(Z)Z"⟩
abbrev b_Md_fits : ByteArray := prog_11_method_5_code
abbrev y_Md_fits : MethodName := ⟨R_Md, "fits", "(IIII)Z"⟩
abbrev b_Md_set : ByteArray := prog_11_method_6_code
abbrev y_Md_set : MethodName := ⟨R_Md, "set", "(IIIIII)V"⟩
abbrev b_Md_add : ByteArray := prog_11_method_7_code
abbrev y_Md_add : MethodName := ⟨R_Md, "add", "(IIIII)I"⟩
abbrev b_Md_put : ByteArray := prog_11_method_8_code
abbrev y_Md_put : MethodName := ⟨R_Md, "put", "(IIIIII)V"⟩
abbrev b_Md_cut : ByteArray := prog_11_method_9_code
abbrev y_Md_cut : MethodName := ⟨R_Md, "cut", "(I)V"⟩
abbrev b_Md_know : ByteArray := prog_11_method_10_code
abbrev y_Md_know : MethodName := ⟨R_Md, "know", "(IIJJ)V"⟩
abbrev b_Md_copy : ByteArray := prog_11_method_11_code
abbrev y_Md_copy : MethodName := ⟨R_Md, "copy", "(II)V"⟩
abbrev b_Md_anything : ByteArray := prog_11_method_12_code
abbrev y_Md_anything : MethodName := ⟨R_Md, "anything", "(I)V"⟩
abbrev b_Md_overflows : ByteArray := prog_11_method_13_code
abbrev y_Md_overflows : MethodName := ⟨R_Md, "overflows", "(JJ)Z"⟩
abbrev b_Md_usesD : ByteArray := prog_11_method_14_code
abbrev y_Md_usesD : MethodName := ⟨R_Md, "usesD", "(I)Z"⟩
abbrev b_Md_usesS : ByteArray := prog_11_method_15_code
abbrev y_Md_usesS : MethodName := ⟨R_Md, "usesS", "(I)Z"⟩
abbrev b_Md_place : ByteArray := prog_11_method_16_code
abbrev y_Md_place : MethodName := ⟨R_Md, "place", "(I)Z"⟩
abbrev b_Md_empties : ByteArray := prog_11_method_17_code
abbrev y_Md_empties : MethodName := ⟨R_Md, "empties", "(I)Z"⟩
abbrev b_Md_wrongNumber : ByteArray := prog_11_method_18_code
abbrev y_Md_wrongNumber : MethodName := ⟨R_Md, "wrongNumber", "(I)Z"⟩
abbrev b_Md_wrongKind : ByteArray := prog_11_method_19_code
abbrev y_Md_wrongKind : MethodName := ⟨R_Md, "wrongKind", "(I)Z"⟩
abbrev b_Md_wrongPlace : ByteArray := prog_11_method_20_code
abbrev y_Md_wrongPlace : MethodName := ⟨R_Md, "wrongPlace", "(I)Z"⟩
abbrev b_Md_wrongCells : ByteArray := prog_11_method_21_code
abbrev y_Md_wrongCells : MethodName := ⟨R_Md, "wrongCells", "(I)Z"⟩
abbrev b_Md_wrongStore : ByteArray := prog_11_method_22_code
abbrev y_Md_wrongStore : MethodName := ⟨R_Md, "wrongStore", "(I)Z"⟩
abbrev b_Md_reasonAt : ByteArray := prog_11_method_23_code
abbrev y_Md_reasonAt : MethodName := ⟨R_Md, "reasonAt", "(I)I"⟩
abbrev b_Md_push : ByteArray := prog_11_method_24_code
abbrev y_Md_push : MethodName := ⟨R_Md, "push", "(I)V"⟩
abbrev b_Md_pop : ByteArray := prog_11_method_25_code
abbrev y_Md_pop : MethodName := ⟨R_Md, "pop", "()V"⟩
abbrev b_Md_move : ByteArray := prog_11_method_26_code
abbrev y_Md_move : MethodName := ⟨R_Md, "move", "(IJJ)V"⟩
abbrev b_Md_spread : ByteArray := prog_11_method_27_code
abbrev y_Md_spread : MethodName := ⟨R_Md, "spread", "(IJJ)V"⟩
abbrev b_Md_subtract : ByteArray := prog_11_method_28_code
abbrev y_Md_subtract : MethodName := ⟨R_Md, "subtract", "(II)V"⟩
abbrev b_Md_and : ByteArray := prog_11_method_29_code
abbrev y_Md_and : MethodName := ⟨R_Md, "and", "(IJ)V"⟩
abbrev b_Md_arithmetic : ByteArray := prog_11_method_30_code
abbrev y_Md_arithmetic : MethodName := ⟨R_Md, "arithmetic", "(IIJ)V"⟩
abbrev b_Md_load : ByteArray := prog_11_method_31_code
abbrev y_Md_load : MethodName := ⟨R_Md, "load", "(I)V"⟩
abbrev b_Md_store : ByteArray := prog_11_method_32_code
abbrev y_Md_store : MethodName := ⟨R_Md, "store", "(I)V"⟩
abbrev b_Md_callGuess : ByteArray := prog_11_method_33_code
abbrev y_Md_callGuess : MethodName := ⟨R_Md, "callGuess", "(I)V"⟩
abbrev b_Md_branch : ByteArray := prog_11_method_34_code
abbrev y_Md_branch : MethodName := ⟨R_Md, "branch", "(I)V"⟩
abbrev b_Md_leave : ByteArray := prog_11_method_35_code
abbrev y_Md_leave : MethodName := ⟨R_Md, "leave", "()V"⟩
abbrev b_Md_goOn : ByteArray := prog_11_method_36_code
abbrev y_Md_goOn : MethodName := ⟨R_Md, "goOn", "(I)Z"⟩
abbrev b_Md_check : ByteArray := prog_11_method_37_code
abbrev y_Md_check : MethodName := ⟨R_Md, "check", "()I"⟩
abbrev b_Md_above : ByteArray := prog_11_method_38_code
abbrev y_Md_above : MethodName := ⟨R_Md, "above", "(I)Z"⟩
abbrev b_Md_compute : ByteArray := prog_11_method_39_code
abbrev y_Md_compute : MethodName := ⟨R_Md, "compute", "(I)V"⟩
abbrev b_Md_transfer : ByteArray := prog_11_method_40_code
abbrev y_Md_transfer : MethodName := ⟨R_Md, "transfer", "(IZ)V"⟩
abbrev b_Md_callNow : ByteArray := prog_11_method_41_code
abbrev y_Md_callNow : MethodName := ⟨R_Md, "callNow", "(I)V"⟩
abbrev b_Md_run : ByteArray := prog_11_method_42_code
abbrev y_Md_run : MethodName := ⟨R_Md, "run", "(J)J"⟩
abbrev b_Md_row : ByteArray := prog_11_method_43_code
abbrev y_Md_row : MethodName := ⟨R_Md, "row", "(II)J"⟩
abbrev b_Md_fill : ByteArray := prog_11_method_44_code
abbrev y_Md_fill : MethodName := ⟨R_Md, "fill", "(IIJ)V"⟩
abbrev b_Md_outcome : ByteArray := prog_11_method_45_code
abbrev y_Md_outcome : MethodName := ⟨R_Md, "outcome", "(Z)J"⟩
abbrev b_Md_count : ByteArray := prog_11_method_46_code
abbrev y_Md_count : MethodName := ⟨R_Md, "count", "(I)I"⟩
abbrev b_Ck_init : ByteArray := prog_2_method_1_code
abbrev y_Ck_init : MethodName := ⟨R_Ck, "<init>", "(LCheckedMachine$Program;)V"⟩
abbrev b_Ck_looked : ByteArray := prog_2_method_2_code
abbrev y_Ck_looked : MethodName := ⟨R_Ck, "looked", "()I"⟩
abbrev b_Ck_reason : ByteArray := prog_2_method_3_code
abbrev y_Ck_reason : MethodName := ⟨R_Ck, "reason", "()I"⟩
abbrev b_Ck_rejectedAt : ByteArray := prog_2_method_4_code
abbrev y_Ck_rejectedAt : MethodName := ⟨R_Ck, "rejectedAt", "()I"⟩
abbrev b_Ck_least : ByteArray := prog_2_method_5_code
abbrev y_Ck_least : MethodName := ⟨R_Ck, "least", "()J"⟩
abbrev b_Ck_greatest : ByteArray := prog_2_method_6_code
abbrev y_Ck_greatest : MethodName := ⟨R_Ck, "greatest", "()J"⟩
abbrev b_Ck_goDownAllWays : ByteArray := prog_2_method_7_code
abbrev y_Ck_goDownAllWays : MethodName := ⟨R_Ck, "goDownAllWays", "()I"⟩
abbrev b_Ck_begin : ByteArray := prog_2_method_8_code
abbrev y_Ck_begin : MethodName := ⟨R_Ck, "begin", "()V"⟩
abbrev b_Ck_lookAt : ByteArray := prog_2_method_9_code
abbrev y_Ck_lookAt : MethodName := ⟨R_Ck, "lookAt", "(I)I"⟩
abbrev b_Ck_reject : ByteArray := prog_2_method_10_code
abbrev y_Ck_reject : MethodName := ⟨R_Ck, "reject", "(II)V"⟩
abbrev b_Ck_growOutcomes : ByteArray := prog_2_method_11_code
abbrev y_Ck_growOutcomes : MethodName := ⟨R_Ck, "growOutcomes", "(JJ)V"⟩
abbrev b_Ck_fork : ByteArray := prog_2_method_12_code
abbrev y_Ck_fork : MethodName := ⟨R_Ck, "fork", "(LCheckedMachine$Step;I)I"⟩
abbrev b_Ck_takeUpLatest : ByteArray := prog_2_method_13_code
abbrev y_Ck_takeUpLatest : MethodName := ⟨R_Ck, "takeUpLatest", "()I"⟩
abbrev b_Ef_init : ByteArray := prog_3_method_1_code
abbrev y_Ef_init : MethodName := ⟨R_Ef, "<init>", "(LCheckedMachine$Guesses;)V"⟩
abbrev b_Ef_follow : ByteArray := prog_3_method_2_code
abbrev y_Ef_follow : MethodName := ⟨R_Ef, "follow", "(LCheckedMachine$Step;)V"⟩
abbrev b_Ef_move : ByteArray := prog_3_method_3_code
abbrev y_Ef_move : MethodName := ⟨R_Ef, "move", "(IJJ)V"⟩
abbrev b_Ef_sumWraps : ByteArray := prog_3_method_4_code
abbrev y_Ef_sumWraps : MethodName := ⟨R_Ef, "sumWraps", "(JJJ)Z"⟩
abbrev b_Ef_subtract : ByteArray := prog_3_method_5_code
abbrev y_Ef_subtract : MethodName := ⟨R_Ef, "subtract", "(IJJ)V"⟩
abbrev b_Ef_differenceWraps : ByteArray := prog_3_method_6_code
abbrev y_Ef_differenceWraps : MethodName := ⟨R_Ef, "differenceWraps", "(JJJ)Z"⟩
abbrev b_Ef_multiply : ByteArray := prog_3_method_7_code
abbrev y_Ef_multiply : MethodName := ⟨R_Ef, "multiply", "(IJ)V"⟩
abbrev b_Ef_isFactor : ByteArray := prog_3_method_8_code
abbrev y_Ef_isFactor : MethodName := ⟨R_Ef, "isFactor", "(J)Z"⟩
abbrev b_Ef_mask : ByteArray := prog_3_method_9_code
abbrev y_Ef_mask : MethodName := ⟨R_Ef, "mask", "(IJ)V"⟩
abbrev b_Ef_divide : ByteArray := prog_3_method_10_code
abbrev y_Ef_divide : MethodName := ⟨R_Ef, "divide", "(IJ)V"⟩
abbrev b_Ef_negate : ByteArray := prog_3_method_11_code
abbrev y_Ef_negate : MethodName := ⟨R_Ef, "negate", "(I)V"⟩
abbrev b_Ef_load : ByteArray := prog_3_method_12_code
abbrev y_Ef_load : MethodName := ⟨R_Ef, "load", "(LCheckedMachine$Step;)V"⟩
abbrev b_Ef_store : ByteArray := prog_3_method_13_code
abbrev y_Ef_store : MethodName := ⟨R_Ef, "store", "(LCheckedMachine$Step;)V"⟩
abbrev b_Ef_call : ByteArray := prog_3_method_14_code
abbrev y_Ef_call : MethodName := ⟨R_Ef, "call", "(I)V"⟩
abbrev b_Fk_leadsToTarget : ByteArray := prog_4_method_2_code
abbrev y_Fk_leadsToTarget : MethodName := ⟨R_Fk, "leadsToTarget", "(LCheckedMachine$Step;LCheckedMachine$Guesses;)Z"⟩
abbrev b_Fk_leadsOn : ByteArray := prog_4_method_3_code
abbrev y_Fk_leadsOn : MethodName := ⟨R_Fk, "leadsOn", "(LCheckedMachine$Step;LCheckedMachine$Guesses;)Z"⟩
abbrev b_Fk_goToTarget : ByteArray := prog_4_method_4_code
abbrev y_Fk_goToTarget : MethodName := ⟨R_Fk, "goToTarget", "(LCheckedMachine$Step;LCheckedMachine$Guesses;)V"⟩
abbrev b_Fk_goOn : ByteArray := prog_4_method_5_code
abbrev y_Fk_goOn : MethodName := ⟨R_Fk, "goOn", "(LCheckedMachine$Step;LCheckedMachine$Guesses;)V"⟩
abbrev b_Fk_isMaybe : ByteArray := prog_4_method_6_code
abbrev y_Fk_isMaybe : MethodName := ⟨R_Fk, "isMaybe", "(LCheckedMachine$Step;LCheckedMachine$Guesses;)Z"⟩
abbrev b_Gs_init : ByteArray := prog_5_method_1_code
abbrev y_Gs_init : MethodName := ⟨R_Gs, "<init>", "()V"⟩
abbrev b_Gs_begin : ByteArray := prog_5_method_2_code
abbrev y_Gs_begin : MethodName := ⟨R_Gs, "begin", "()V"⟩
abbrev b_Gs_become : ByteArray := prog_5_method_3_code
abbrev y_Gs_become : MethodName := ⟨R_Gs, "become", "(LCheckedMachine$Guesses;)V"⟩
abbrev b_Gs_kind : ByteArray := prog_5_method_4_code
abbrev y_Gs_kind : MethodName := ⟨R_Gs, "kind", "(I)I"⟩
abbrev b_Gs_lo : ByteArray := prog_5_method_5_code
abbrev y_Gs_lo : MethodName := ⟨R_Gs, "lo", "(I)J"⟩
abbrev b_Gs_hi : ByteArray := prog_5_method_6_code
abbrev y_Gs_hi : MethodName := ⟨R_Gs, "hi", "(I)J"⟩
abbrev b_Gs_isEmpty : ByteArray := prog_5_method_7_code
abbrev y_Gs_isEmpty : MethodName := ⟨R_Gs, "isEmpty", "(I)Z"⟩
abbrev b_Gs_isRange : ByteArray := prog_5_method_8_code
abbrev y_Gs_isRange : MethodName := ⟨R_Gs, "isRange", "(I)Z"⟩
abbrev b_Gs_isPlace : ByteArray := prog_5_method_9_code
abbrev y_Gs_isPlace : MethodName := ⟨R_Gs, "isPlace", "(I)Z"⟩
abbrev b_Gs_set : ByteArray := prog_5_method_10_code
abbrev y_Gs_set : MethodName := ⟨R_Gs, "set", "(IIJJ)V"⟩
abbrev b_Gs_setRange : ByteArray := prog_5_method_11_code
abbrev y_Gs_setRange : MethodName := ⟨R_Gs, "setRange", "(IJJ)V"⟩
abbrev b_Gs_setAny : ByteArray := prog_5_method_12_code
abbrev y_Gs_setAny : MethodName := ⟨R_Gs, "setAny", "(I)V"⟩
abbrev b_Gs_clear : ByteArray := prog_5_method_13_code
abbrev y_Gs_clear : MethodName := ⟨R_Gs, "clear", "(I)V"⟩
abbrev b_Gs_copy : ByteArray := prog_5_method_14_code
abbrev y_Gs_copy : MethodName := ⟨R_Gs, "copy", "(II)V"⟩
abbrev b_Gs_widen : ByteArray := prog_5_method_15_code
abbrev y_Gs_widen : MethodName := ⟨R_Gs, "widen", "(IJJ)V"⟩
abbrev b_Gs_setBetween : ByteArray := prog_5_method_16_code
abbrev y_Gs_setBetween : MethodName := ⟨R_Gs, "setBetween", "(IJJ)V"⟩
abbrev b_Jg_init : ByteArray := prog_6_method_1_code
abbrev y_Jg_init : MethodName := ⟨R_Jg, "<init>", "(LCheckedMachine$Program;LCheckedMachine$Guesses;)V"⟩
abbrev b_Jg_reasonAgainst : ByteArray := prog_6_method_2_code
abbrev y_Jg_reasonAgainst : MethodName := ⟨R_Jg, "reasonAgainst", "(LCheckedMachine$Step;I)I"⟩
abbrev b_Jg_lacksTarget : ByteArray := prog_6_method_3_code
abbrev y_Jg_lacksTarget : MethodName := ⟨R_Jg, "lacksTarget", "(LCheckedMachine$Step;I)Z"⟩
abbrev b_Jg_usesEmpty : ByteArray := prog_6_method_4_code
abbrev y_Jg_usesEmpty : MethodName := ⟨R_Jg, "usesEmpty", "(LCheckedMachine$Step;)Z"⟩
abbrev b_Jg_hasBadNumber : ByteArray := prog_6_method_5_code
abbrev y_Jg_hasBadNumber : MethodName := ⟨R_Jg, "hasBadNumber", "(LCheckedMachine$Step;)Z"⟩
abbrev b_Jg_hasWrongKind : ByteArray := prog_6_method_6_code
abbrev y_Jg_hasWrongKind : MethodName := ⟨R_Jg, "hasWrongKind", "(LCheckedMachine$Step;)Z"⟩
abbrev b_Jg_isRangeOrPlace : ByteArray := prog_6_method_7_code
abbrev y_Jg_isRangeOrPlace : MethodName := ⟨R_Jg, "isRangeOrPlace", "(I)Z"⟩
abbrev b_Jg_isMaybeMissing : ByteArray := prog_6_method_8_code
abbrev y_Jg_isMaybeMissing : MethodName := ⟨R_Jg, "isMaybeMissing", "(LCheckedMachine$Step;)Z"⟩
abbrev b_Jg_callsWithWrongKind : ByteArray := prog_6_method_9_code
abbrev y_Jg_callsWithWrongKind : MethodName := ⟨R_Jg, "callsWithWrongKind", "(LCheckedMachine$Step;)Z"⟩
abbrev b_Jg_storesWrongKind : ByteArray := prog_6_method_10_code
abbrev y_Jg_storesWrongKind : MethodName := ⟨R_Jg, "storesWrongKind", "(LCheckedMachine$Step;)Z"⟩
abbrev b_Jg_isOneCellOfFrame : ByteArray := prog_6_method_11_code
abbrev y_Jg_isOneCellOfFrame : MethodName := ⟨R_Jg, "isOneCellOfFrame", "(I)Z"⟩
abbrev b_Jg_storesOverNoRange : ByteArray := prog_6_method_12_code
abbrev y_Jg_storesOverNoRange : MethodName := ⟨R_Jg, "storesOverNoRange", "(LCheckedMachine$Step;)Z"⟩
abbrev b_Jg_goesOutside : ByteArray := prog_6_method_13_code
abbrev y_Jg_goesOutside : MethodName := ⟨R_Jg, "goesOutside", "(LCheckedMachine$Step;)Z"⟩
abbrev b_Jg_movesTooFar : ByteArray := prog_6_method_14_code
abbrev y_Jg_movesTooFar : MethodName := ⟨R_Jg, "movesTooFar", "(IJJ)Z"⟩
abbrev b_Jg_missesCells : ByteArray := prog_6_method_15_code
abbrev y_Jg_missesCells : MethodName := ⟨R_Jg, "missesCells", "(IJ)Z"⟩
abbrev b_Jg_loadsUnfitCell : ByteArray := prog_6_method_16_code
abbrev y_Jg_loadsUnfitCell : MethodName := ⟨R_Jg, "loadsUnfitCell", "(LCheckedMachine$Step;)Z"⟩
abbrev b_Jg_findsNoRow : ByteArray := prog_6_method_17_code
abbrev y_Jg_findsNoRow : MethodName := ⟨R_Jg, "findsNoRow", "(LCheckedMachine$Step;)Z"⟩
abbrev b_Pg_init : ByteArray := prog_7_method_1_code
abbrev y_Pg_init : MethodName := ⟨R_Pg, "<init>", "()V"⟩
abbrev b_Pg_allows : ByteArray := prog_7_method_2_code
abbrev y_Pg_allows : MethodName := ⟨R_Pg, "allows", "(IIII)Z"⟩
abbrev b_Pg_isRegister : ByteArray := prog_7_method_3_code
abbrev y_Pg_isRegister : MethodName := ⟨R_Pg, "isRegister", "(I)Z"⟩
abbrev b_Pg_size : ByteArray := prog_7_method_4_code
abbrev y_Pg_size : MethodName := ⟨R_Pg, "size", "()I"⟩
abbrev b_Pg_grow : ByteArray := prog_7_method_5_code
abbrev y_Pg_grow : MethodName := ⟨R_Pg, "grow", "()I"⟩
abbrev b_Pg_shorten : ByteArray := prog_7_method_6_code
abbrev y_Pg_shorten : MethodName := ⟨R_Pg, "shorten", "(I)V"⟩
abbrev b_Pg_write : ByteArray := prog_7_method_7_code
abbrev y_Pg_write : MethodName := ⟨R_Pg, "write", "(IIIIII)V"⟩
abbrev b_Pg_stepAt : ByteArray := prog_7_method_8_code
abbrev y_Pg_stepAt : MethodName := ⟨R_Pg, "stepAt", "(I)LCheckedMachine$Step;"⟩
abbrev b_Rn_init : ByteArray := prog_8_method_1_code
abbrev y_Rn_init : MethodName := ⟨R_Rn, "<init>", "(LCheckedMachine$Program;)V"⟩
abbrev b_Rn_stepsRun : ByteArray := prog_8_method_2_code
abbrev y_Rn_stepsRun : MethodName := ⟨R_Rn, "stepsRun", "()I"⟩
abbrev b_Rn_countCalls : ByteArray := prog_8_method_3_code
abbrev y_Rn_countCalls : MethodName := ⟨R_Rn, "countCalls", "()I"⟩
abbrev b_Rn_mapCell : ByteArray := prog_8_method_4_code
abbrev y_Rn_mapCell : MethodName := ⟨R_Rn, "mapCell", "(II)J"⟩
abbrev b_Rn_setMapCell : ByteArray := prog_8_method_5_code
abbrev y_Rn_setMapCell : MethodName := ⟨R_Rn, "setMapCell", "(IIJ)V"⟩
abbrev b_Rn_runThrough : ByteArray := prog_8_method_6_code
abbrev y_Rn_runThrough : MethodName := ⟨R_Rn, "runThrough", "(J)J"⟩
abbrev b_Rn_set : ByteArray := prog_8_method_7_code
abbrev y_Rn_set : MethodName := ⟨R_Rn, "set", "(IIJ)V"⟩
abbrev b_Rn_runStep : ByteArray := prog_8_method_8_code
abbrev y_Rn_runStep : MethodName := ⟨R_Rn, "runStep", "(I)I"⟩
abbrev b_Rn_jumps : ByteArray := prog_8_method_9_code
abbrev y_Rn_jumps : MethodName := ⟨R_Rn, "jumps", "(LCheckedMachine$Step;)Z"⟩
abbrev b_Rn_reckon : ByteArray := prog_8_method_10_code
abbrev y_Rn_reckon : MethodName := ⟨R_Rn, "reckon", "(LCheckedMachine$Step;)V"⟩
abbrev b_Rn_reachOut : ByteArray := prog_8_method_11_code
abbrev y_Rn_reachOut : MethodName := ⟨R_Rn, "reachOut", "(LCheckedMachine$Step;)V"⟩
abbrev b_Rn_load : ByteArray := prog_8_method_12_code
abbrev y_Rn_load : MethodName := ⟨R_Rn, "load", "(IIJ)V"⟩
abbrev b_Rn_store : ByteArray := prog_8_method_13_code
abbrev y_Rn_store : MethodName := ⟨R_Rn, "store", "(IIJ)V"⟩
abbrev b_Rn_call : ByteArray := prog_8_method_14_code
abbrev y_Rn_call : MethodName := ⟨R_Rn, "call", "(I)V"⟩
abbrev b_Rn_findRow : ByteArray := prog_8_method_15_code
abbrev y_Rn_findRow : MethodName := ⟨R_Rn, "findRow", "(J)V"⟩
abbrev b_St_init : ByteArray := prog_9_method_1_code
abbrev y_St_init : MethodName := ⟨R_St, "<init>", "()V"⟩
abbrev b_St_isCallOf : ByteArray := prog_9_method_2_code
abbrev y_St_isCallOf : MethodName := ⟨R_St, "isCallOf", "(I)Z"⟩
abbrev b_St_mayJump : ByteArray := prog_9_method_3_code
abbrev y_St_mayJump : MethodName := ⟨R_St, "mayJump", "()Z"⟩
abbrev b_St_usesD : ByteArray := prog_9_method_4_code
abbrev y_St_usesD : MethodName := ⟨R_St, "usesD", "()Z"⟩
abbrev b_St_usesS : ByteArray := prog_9_method_5_code
abbrev y_St_usesS : MethodName := ⟨R_St, "usesS", "()Z"⟩
abbrev b_Lw_add : ByteArray := method_3_code
abbrev y_Lw_add : MethodName := ⟨R_Lw, "add", "(LCheckedMachine;IIIII[J)I"⟩
abbrev b_Lw_put : ByteArray := method_4_code
abbrev y_Lw_put : MethodName := ⟨R_Lw, "put", "(LCheckedMachine;IIIIII)I"⟩
abbrev b_Lw_cut : ByteArray := method_5_code
abbrev y_Lw_cut : MethodName := ⟨R_Lw, "cut", "(LCheckedMachine;I)I"⟩
abbrev b_Lw_check : ByteArray := method_6_code
abbrev y_Lw_check : MethodName := ⟨R_Lw, "check", "(LCheckedMachine;[J)I"⟩
abbrev b_Lw_run : ByteArray := method_7_code
abbrev y_Lw_run : MethodName := ⟨R_Lw, "run", "(LCheckedMachine;J[J)I"⟩
abbrev b_Lw_row : ByteArray := method_8_code
abbrev y_Lw_row : MethodName := ⟨R_Lw, "row", "(LCheckedMachine;II[J)I"⟩
abbrev b_Lw_fill : ByteArray := method_9_code
abbrev y_Lw_fill : MethodName := ⟨R_Lw, "fill", "(LCheckedMachine;IIJ)I"⟩
abbrev b_Lw_outcome : ByteArray := method_10_code
abbrev y_Lw_outcome : MethodName := ⟨R_Lw, "outcome", "(LCheckedMachine;Z[J)I"⟩
abbrev b_Lw_law : ByteArray := code
abbrev y_Lw_law : MethodName := ⟨R_Lw, "law", "([I)Z"⟩
end
section
theorem d_Ef_init_0 : decode b_Ef_init 0 = .ok (.aload_n 0, 1) := by decide +kernel
theorem d_Ef_init_1 : decode b_Ef_init 1 = .ok (.invokespecial 3, 3) := by decide +kernel
theorem d_Ef_init_4 : decode b_Ef_init 4 = .ok (.aload_n 0, 1) := by decide +kernel
theorem d_Ef_init_5 : decode b_Ef_init 5 = .ok (.aload_n 1, 1) := by decide +kernel
theorem d_Ef_init_6 : decode b_Ef_init 6 = .ok (.putfield 9, 3) := by decide +kernel
theorem d_Ef_init_9 : decode b_Ef_init 9 = .ok (.return_, 1) := by decide +kernel
theorem d_Ef_follow_0 : decode b_Ef_follow 0 = .ok (.aload_n 1, 1) := by decide +kernel
theorem d_Ef_follow_1 : decode b_Ef_follow 1 = .ok (.getfield 15, 3) := by decide +kernel
theorem d_Ef_follow_4 : decode b_Ef_follow 4 = .ok (.istore_n 2, 1) := by decide +kernel
theorem d_Ef_follow_5 : decode b_Ef_follow 5 = .ok (.aload_n 1, 1) := by decide +kernel
theorem d_Ef_follow_6 : decode b_Ef_follow 6 = .ok (.getfield 21, 3) := by decide +kernel
theorem d_Ef_follow_9 : decode b_Ef_follow 9 = .ok (.tableswitch 308 0 16 #[83, 104, 119, 137, 167, 197, 210, 223, 260, 273, 308, 308, 308, 308, 281, 289, 297], 83) := by decide +kernel
theorem d_Ef_follow_92 : decode b_Ef_follow 92 = .ok (.aload_n 0, 1) := by decide +kernel
theorem d_Ef_follow_93 : decode b_Ef_follow 93 = .ok (.getfield 9, 3) := by decide +kernel
theorem d_Ef_follow_96 : decode b_Ef_follow 96 = .ok (.iload_n 2, 1) := by decide +kernel
theorem d_Ef_follow_97 : decode b_Ef_follow 97 = .ok (.aload_n 1, 1) := by decide +kernel
theorem d_Ef_follow_98 : decode b_Ef_follow 98 = .ok (.getfield 24, 3) := by decide +kernel
theorem d_Ef_follow_101 : decode b_Ef_follow 101 = .ok (.i2l, 1) := by decide +kernel
theorem d_Ef_follow_102 : decode b_Ef_follow 102 = .ok (.aload_n 1, 1) := by decide +kernel
theorem d_Ef_follow_103 : decode b_Ef_follow 103 = .ok (.getfield 24, 3) := by decide +kernel
theorem d_Ef_follow_106 : decode b_Ef_follow 106 = .ok (.i2l, 1) := by decide +kernel
theorem d_Ef_follow_107 : decode b_Ef_follow 107 = .ok (.invokevirtual 27, 3) := by decide +kernel
theorem d_Ef_follow_110 : decode b_Ef_follow 110 = .ok (.goto 207, 3) := by decide +kernel
theorem d_Ef_follow_113 : decode b_Ef_follow 113 = .ok (.aload_n 0, 1) := by decide +kernel
theorem d_Ef_follow_114 : decode b_Ef_follow 114 = .ok (.getfield 9, 3) := by decide +kernel
theorem d_Ef_follow_117 : decode b_Ef_follow 117 = .ok (.iload_n 2, 1) := by decide +kernel
theorem d_Ef_follow_118 : decode b_Ef_follow 118 = .ok (.aload_n 1, 1) := by decide +kernel
theorem d_Ef_follow_119 : decode b_Ef_follow 119 = .ok (.getfield 33, 3) := by decide +kernel
theorem d_Ef_follow_122 : decode b_Ef_follow 122 = .ok (.invokevirtual 36, 3) := by decide +kernel
theorem d_Ef_follow_125 : decode b_Ef_follow 125 = .ok (.goto 192, 3) := by decide +kernel
theorem d_Ef_follow_128 : decode b_Ef_follow 128 = .ok (.aload_n 0, 1) := by decide +kernel
theorem d_Ef_follow_129 : decode b_Ef_follow 129 = .ok (.iload_n 2, 1) := by decide +kernel
theorem d_Ef_follow_130 : decode b_Ef_follow 130 = .ok (.aload_n 1, 1) := by decide +kernel
theorem d_Ef_follow_131 : decode b_Ef_follow 131 = .ok (.getfield 24, 3) := by decide +kernel
theorem d_Ef_follow_134 : decode b_Ef_follow 134 = .ok (.i2l, 1) := by decide +kernel
theorem d_Ef_follow_135 : decode b_Ef_follow 135 = .ok (.aload_n 1, 1) := by decide +kernel
theorem d_Ef_follow_136 : decode b_Ef_follow 136 = .ok (.getfield 24, 3) := by decide +kernel
theorem d_Ef_follow_139 : decode b_Ef_follow 139 = .ok (.i2l, 1) := by decide +kernel
theorem d_Ef_follow_140 : decode b_Ef_follow 140 = .ok (.invokevirtual 40, 3) := by decide +kernel
theorem d_Ef_follow_143 : decode b_Ef_follow 143 = .ok (.goto 174, 3) := by decide +kernel
theorem d_Ef_follow_146 : decode b_Ef_follow 146 = .ok (.aload_n 0, 1) := by decide +kernel
theorem d_Ef_follow_147 : decode b_Ef_follow 147 = .ok (.iload_n 2, 1) := by decide +kernel
theorem d_Ef_follow_148 : decode b_Ef_follow 148 = .ok (.aload_n 0, 1) := by decide +kernel
theorem d_Ef_follow_149 : decode b_Ef_follow 149 = .ok (.getfield 9, 3) := by decide +kernel
theorem d_Ef_follow_152 : decode b_Ef_follow 152 = .ok (.aload_n 1, 1) := by decide +kernel
theorem d_Ef_follow_153 : decode b_Ef_follow 153 = .ok (.getfield 33, 3) := by decide +kernel
theorem d_Ef_follow_156 : decode b_Ef_follow 156 = .ok (.invokevirtual 43, 3) := by decide +kernel
theorem d_Ef_follow_159 : decode b_Ef_follow 159 = .ok (.aload_n 0, 1) := by decide +kernel
theorem d_Ef_follow_160 : decode b_Ef_follow 160 = .ok (.getfield 9, 3) := by decide +kernel
theorem d_Ef_follow_163 : decode b_Ef_follow 163 = .ok (.aload_n 1, 1) := by decide +kernel
theorem d_Ef_follow_164 : decode b_Ef_follow 164 = .ok (.getfield 33, 3) := by decide +kernel
theorem d_Ef_follow_167 : decode b_Ef_follow 167 = .ok (.invokevirtual 47, 3) := by decide +kernel
theorem d_Ef_follow_170 : decode b_Ef_follow 170 = .ok (.invokevirtual 40, 3) := by decide +kernel
theorem d_Ef_follow_173 : decode b_Ef_follow 173 = .ok (.goto 144, 3) := by decide +kernel
theorem d_Ef_follow_176 : decode b_Ef_follow 176 = .ok (.aload_n 0, 1) := by decide +kernel
theorem d_Ef_follow_177 : decode b_Ef_follow 177 = .ok (.iload_n 2, 1) := by decide +kernel
theorem d_Ef_follow_178 : decode b_Ef_follow 178 = .ok (.aload_n 0, 1) := by decide +kernel
theorem d_Ef_follow_179 : decode b_Ef_follow 179 = .ok (.getfield 9, 3) := by decide +kernel
theorem d_Ef_follow_182 : decode b_Ef_follow 182 = .ok (.aload_n 1, 1) := by decide +kernel
theorem d_Ef_follow_183 : decode b_Ef_follow 183 = .ok (.getfield 33, 3) := by decide +kernel
theorem d_Ef_follow_186 : decode b_Ef_follow 186 = .ok (.invokevirtual 43, 3) := by decide +kernel
theorem d_Ef_follow_189 : decode b_Ef_follow 189 = .ok (.aload_n 0, 1) := by decide +kernel
theorem d_Ef_follow_190 : decode b_Ef_follow 190 = .ok (.getfield 9, 3) := by decide +kernel
theorem d_Ef_follow_193 : decode b_Ef_follow 193 = .ok (.aload_n 1, 1) := by decide +kernel
theorem d_Ef_follow_194 : decode b_Ef_follow 194 = .ok (.getfield 33, 3) := by decide +kernel
theorem d_Ef_follow_197 : decode b_Ef_follow 197 = .ok (.invokevirtual 47, 3) := by decide +kernel
theorem d_Ef_follow_200 : decode b_Ef_follow 200 = .ok (.invokevirtual 50, 3) := by decide +kernel
theorem d_Ef_follow_203 : decode b_Ef_follow 203 = .ok (.goto 114, 3) := by decide +kernel
theorem d_Ef_follow_206 : decode b_Ef_follow 206 = .ok (.aload_n 0, 1) := by decide +kernel
theorem d_Ef_follow_207 : decode b_Ef_follow 207 = .ok (.iload_n 2, 1) := by decide +kernel
theorem d_Ef_follow_208 : decode b_Ef_follow 208 = .ok (.aload_n 1, 1) := by decide +kernel
theorem d_Ef_follow_209 : decode b_Ef_follow 209 = .ok (.getfield 24, 3) := by decide +kernel
theorem d_Ef_follow_212 : decode b_Ef_follow 212 = .ok (.i2l, 1) := by decide +kernel
theorem d_Ef_follow_213 : decode b_Ef_follow 213 = .ok (.invokevirtual 53, 3) := by decide +kernel
theorem d_Ef_follow_216 : decode b_Ef_follow 216 = .ok (.goto 101, 3) := by decide +kernel
theorem d_Ef_follow_219 : decode b_Ef_follow 219 = .ok (.aload_n 0, 1) := by decide +kernel
theorem d_Ef_follow_220 : decode b_Ef_follow 220 = .ok (.iload_n 2, 1) := by decide +kernel
theorem d_Ef_follow_221 : decode b_Ef_follow 221 = .ok (.aload_n 1, 1) := by decide +kernel
theorem d_Ef_follow_222 : decode b_Ef_follow 222 = .ok (.getfield 24, 3) := by decide +kernel
theorem d_Ef_follow_225 : decode b_Ef_follow 225 = .ok (.i2l, 1) := by decide +kernel
theorem d_Ef_follow_226 : decode b_Ef_follow 226 = .ok (.invokevirtual 57, 3) := by decide +kernel
theorem d_Ef_follow_229 : decode b_Ef_follow 229 = .ok (.goto 88, 3) := by decide +kernel
theorem d_Ef_follow_232 : decode b_Ef_follow 232 = .ok (.aload_n 0, 1) := by decide +kernel
theorem d_Ef_follow_233 : decode b_Ef_follow 233 = .ok (.getfield 9, 3) := by decide +kernel
theorem d_Ef_follow_236 : decode b_Ef_follow 236 = .ok (.iload_n 2, 1) := by decide +kernel
theorem d_Ef_follow_237 : decode b_Ef_follow 237 = .ok (.aload_n 0, 1) := by decide +kernel
theorem d_Ef_follow_238 : decode b_Ef_follow 238 = .ok (.getfield 9, 3) := by decide +kernel
theorem d_Ef_follow_241 : decode b_Ef_follow 241 = .ok (.iload_n 2, 1) := by decide +kernel
theorem d_Ef_follow_242 : decode b_Ef_follow 242 = .ok (.invokevirtual 43, 3) := by decide +kernel
theorem d_Ef_follow_245 : decode b_Ef_follow 245 = .ok (.aload_n 1, 1) := by decide +kernel
theorem d_Ef_follow_246 : decode b_Ef_follow 246 = .ok (.getfield 24, 3) := by decide +kernel
theorem d_Ef_follow_249 : decode b_Ef_follow 249 = .ok (.lshr, 1) := by decide +kernel
theorem d_Ef_follow_250 : decode b_Ef_follow 250 = .ok (.aload_n 0, 1) := by decide +kernel
theorem d_Ef_follow_251 : decode b_Ef_follow 251 = .ok (.getfield 9, 3) := by decide +kernel
theorem d_Ef_follow_254 : decode b_Ef_follow 254 = .ok (.iload_n 2, 1) := by decide +kernel
theorem d_Ef_follow_255 : decode b_Ef_follow 255 = .ok (.invokevirtual 47, 3) := by decide +kernel
theorem d_Ef_follow_258 : decode b_Ef_follow 258 = .ok (.aload_n 1, 1) := by decide +kernel
theorem d_Ef_follow_259 : decode b_Ef_follow 259 = .ok (.getfield 24, 3) := by decide +kernel
theorem d_Ef_follow_262 : decode b_Ef_follow 262 = .ok (.lshr, 1) := by decide +kernel
theorem d_Ef_follow_263 : decode b_Ef_follow 263 = .ok (.invokevirtual 27, 3) := by decide +kernel
theorem d_Ef_follow_266 : decode b_Ef_follow 266 = .ok (.goto 51, 3) := by decide +kernel
theorem d_Ef_follow_269 : decode b_Ef_follow 269 = .ok (.aload_n 0, 1) := by decide +kernel
theorem d_Ef_follow_270 : decode b_Ef_follow 270 = .ok (.iload_n 2, 1) := by decide +kernel
theorem d_Ef_follow_271 : decode b_Ef_follow 271 = .ok (.aload_n 1, 1) := by decide +kernel
theorem d_Ef_follow_272 : decode b_Ef_follow 272 = .ok (.getfield 24, 3) := by decide +kernel
theorem d_Ef_follow_275 : decode b_Ef_follow 275 = .ok (.i2l, 1) := by decide +kernel
theorem d_Ef_follow_276 : decode b_Ef_follow 276 = .ok (.invokevirtual 60, 3) := by decide +kernel
theorem d_Ef_follow_279 : decode b_Ef_follow 279 = .ok (.goto 38, 3) := by decide +kernel
theorem d_Ef_follow_282 : decode b_Ef_follow 282 = .ok (.aload_n 0, 1) := by decide +kernel
theorem d_Ef_follow_283 : decode b_Ef_follow 283 = .ok (.iload_n 2, 1) := by decide +kernel
theorem d_Ef_follow_284 : decode b_Ef_follow 284 = .ok (.invokevirtual 63, 3) := by decide +kernel
theorem d_Ef_follow_287 : decode b_Ef_follow 287 = .ok (.goto 30, 3) := by decide +kernel
theorem d_Ef_follow_290 : decode b_Ef_follow 290 = .ok (.aload_n 0, 1) := by decide +kernel
theorem d_Ef_follow_291 : decode b_Ef_follow 291 = .ok (.aload_n 1, 1) := by decide +kernel
theorem d_Ef_follow_292 : decode b_Ef_follow 292 = .ok (.invokevirtual 67, 3) := by decide +kernel
theorem d_Ef_follow_295 : decode b_Ef_follow 295 = .ok (.goto 22, 3) := by decide +kernel
theorem d_Ef_follow_298 : decode b_Ef_follow 298 = .ok (.aload_n 0, 1) := by decide +kernel
theorem d_Ef_follow_299 : decode b_Ef_follow 299 = .ok (.aload_n 1, 1) := by decide +kernel
theorem d_Ef_follow_300 : decode b_Ef_follow 300 = .ok (.invokevirtual 71, 3) := by decide +kernel
theorem d_Ef_follow_303 : decode b_Ef_follow 303 = .ok (.goto 14, 3) := by decide +kernel
theorem d_Ef_follow_306 : decode b_Ef_follow 306 = .ok (.aload_n 0, 1) := by decide +kernel
theorem d_Ef_follow_307 : decode b_Ef_follow 307 = .ok (.aload_n 1, 1) := by decide +kernel
theorem d_Ef_follow_308 : decode b_Ef_follow 308 = .ok (.getfield 24, 3) := by decide +kernel
theorem d_Ef_follow_311 : decode b_Ef_follow 311 = .ok (.invokevirtual 74, 3) := by decide +kernel
theorem d_Ef_follow_314 : decode b_Ef_follow 314 = .ok (.goto 3, 3) := by decide +kernel
theorem d_Ef_follow_317 : decode b_Ef_follow 317 = .ok (.return_, 1) := by decide +kernel
theorem d_Ef_move_0 : decode b_Ef_move 0 = .ok (.aload_n 0, 1) := by decide +kernel
theorem d_Ef_move_1 : decode b_Ef_move 1 = .ok (.getfield 9, 3) := by decide +kernel
theorem d_Ef_move_4 : decode b_Ef_move 4 = .ok (.iload_n 1, 1) := by decide +kernel
theorem d_Ef_move_5 : decode b_Ef_move 5 = .ok (.invokevirtual 43, 3) := by decide +kernel
theorem d_Ef_move_8 : decode b_Ef_move 8 = .ok (.lload_n 2, 1) := by decide +kernel
theorem d_Ef_move_9 : decode b_Ef_move 9 = .ok (.ladd, 1) := by decide +kernel
theorem d_Ef_move_10 : decode b_Ef_move 10 = .ok (.lstore 6, 2) := by decide +kernel
theorem d_Ef_move_12 : decode b_Ef_move 12 = .ok (.aload_n 0, 1) := by decide +kernel
theorem d_Ef_move_13 : decode b_Ef_move 13 = .ok (.getfield 9, 3) := by decide +kernel
theorem d_Ef_move_16 : decode b_Ef_move 16 = .ok (.iload_n 1, 1) := by decide +kernel
theorem d_Ef_move_17 : decode b_Ef_move 17 = .ok (.invokevirtual 47, 3) := by decide +kernel
theorem d_Ef_move_20 : decode b_Ef_move 20 = .ok (.lload 4, 2) := by decide +kernel
theorem d_Ef_move_22 : decode b_Ef_move 22 = .ok (.ladd, 1) := by decide +kernel
theorem d_Ef_move_23 : decode b_Ef_move 23 = .ok (.lstore 8, 2) := by decide +kernel
theorem d_Ef_move_25 : decode b_Ef_move 25 = .ok (.aload_n 0, 1) := by decide +kernel
theorem d_Ef_move_26 : decode b_Ef_move 26 = .ok (.getfield 9, 3) := by decide +kernel
theorem d_Ef_move_29 : decode b_Ef_move 29 = .ok (.iload_n 1, 1) := by decide +kernel
theorem d_Ef_move_30 : decode b_Ef_move 30 = .ok (.invokevirtual 43, 3) := by decide +kernel
theorem d_Ef_move_33 : decode b_Ef_move 33 = .ok (.lload_n 2, 1) := by decide +kernel
theorem d_Ef_move_34 : decode b_Ef_move 34 = .ok (.lload 6, 2) := by decide +kernel
theorem d_Ef_move_36 : decode b_Ef_move 36 = .ok (.invokestatic 77, 3) := by decide +kernel
theorem d_Ef_move_39 : decode b_Ef_move 39 = .ok (.ifCond .ne 21, 3) := by decide +kernel
theorem d_Ef_move_42 : decode b_Ef_move 42 = .ok (.aload_n 0, 1) := by decide +kernel
theorem d_Ef_move_43 : decode b_Ef_move 43 = .ok (.getfield 9, 3) := by decide +kernel
theorem d_Ef_move_46 : decode b_Ef_move 46 = .ok (.iload_n 1, 1) := by decide +kernel
theorem d_Ef_move_47 : decode b_Ef_move 47 = .ok (.invokevirtual 47, 3) := by decide +kernel
theorem d_Ef_move_50 : decode b_Ef_move 50 = .ok (.lload 4, 2) := by decide +kernel
theorem d_Ef_move_52 : decode b_Ef_move 52 = .ok (.lload 8, 2) := by decide +kernel
theorem d_Ef_move_54 : decode b_Ef_move 54 = .ok (.invokestatic 77, 3) := by decide +kernel
theorem d_Ef_move_57 : decode b_Ef_move 57 = .ok (.ifCond .eq 14, 3) := by decide +kernel
theorem d_Ef_move_60 : decode b_Ef_move 60 = .ok (.aload_n 0, 1) := by decide +kernel
theorem d_Ef_move_61 : decode b_Ef_move 61 = .ok (.getfield 9, 3) := by decide +kernel
theorem d_Ef_move_64 : decode b_Ef_move 64 = .ok (.iload_n 1, 1) := by decide +kernel
theorem d_Ef_move_65 : decode b_Ef_move 65 = .ok (.invokevirtual 81, 3) := by decide +kernel
theorem d_Ef_move_68 : decode b_Ef_move 68 = .ok (.goto 23, 3) := by decide +kernel
theorem d_Ef_move_71 : decode b_Ef_move 71 = .ok (.aload_n 0, 1) := by decide +kernel
theorem d_Ef_move_72 : decode b_Ef_move 72 = .ok (.getfield 9, 3) := by decide +kernel
theorem d_Ef_move_75 : decode b_Ef_move 75 = .ok (.iload_n 1, 1) := by decide +kernel
theorem d_Ef_move_76 : decode b_Ef_move 76 = .ok (.aload_n 0, 1) := by decide +kernel
theorem d_Ef_move_77 : decode b_Ef_move 77 = .ok (.getfield 9, 3) := by decide +kernel
theorem d_Ef_move_80 : decode b_Ef_move 80 = .ok (.iload_n 1, 1) := by decide +kernel
theorem d_Ef_move_81 : decode b_Ef_move 81 = .ok (.invokevirtual 84, 3) := by decide +kernel
theorem d_Ef_move_84 : decode b_Ef_move 84 = .ok (.lload 6, 2) := by decide +kernel
theorem d_Ef_move_86 : decode b_Ef_move 86 = .ok (.lload 8, 2) := by decide +kernel
theorem d_Ef_move_88 : decode b_Ef_move 88 = .ok (.invokevirtual 88, 3) := by decide +kernel
theorem d_Ef_move_91 : decode b_Ef_move 91 = .ok (.return_, 1) := by decide +kernel
theorem d_Ef_sumWraps_0 : decode b_Ef_sumWraps 0 = .ok (.lload_n 0, 1) := by decide +kernel
theorem d_Ef_sumWraps_1 : decode b_Ef_sumWraps 1 = .ok (.lload 4, 2) := by decide +kernel
theorem d_Ef_sumWraps_3 : decode b_Ef_sumWraps 3 = .ok (.lxor, 1) := by decide +kernel
theorem d_Ef_sumWraps_4 : decode b_Ef_sumWraps 4 = .ok (.lload_n 2, 1) := by decide +kernel
theorem d_Ef_sumWraps_5 : decode b_Ef_sumWraps 5 = .ok (.lload 4, 2) := by decide +kernel
theorem d_Ef_sumWraps_7 : decode b_Ef_sumWraps 7 = .ok (.lxor, 1) := by decide +kernel
theorem d_Ef_sumWraps_8 : decode b_Ef_sumWraps 8 = .ok (.land, 1) := by decide +kernel
theorem d_Ef_sumWraps_9 : decode b_Ef_sumWraps 9 = .ok (.lconst 0, 1) := by decide +kernel
theorem d_Ef_sumWraps_10 : decode b_Ef_sumWraps 10 = .ok (.lcmp, 1) := by decide +kernel
theorem d_Ef_sumWraps_11 : decode b_Ef_sumWraps 11 = .ok (.ifCond .ge 7, 3) := by decide +kernel
theorem d_Ef_sumWraps_14 : decode b_Ef_sumWraps 14 = .ok (.iconst 1, 1) := by decide +kernel
theorem d_Ef_sumWraps_15 : decode b_Ef_sumWraps 15 = .ok (.goto 4, 3) := by decide +kernel
theorem d_Ef_sumWraps_18 : decode b_Ef_sumWraps 18 = .ok (.iconst 0, 1) := by decide +kernel
theorem d_Ef_sumWraps_19 : decode b_Ef_sumWraps 19 = .ok (.ireturn, 1) := by decide +kernel
theorem d_Ef_subtract_0 : decode b_Ef_subtract 0 = .ok (.aload_n 0, 1) := by decide +kernel
theorem d_Ef_subtract_1 : decode b_Ef_subtract 1 = .ok (.getfield 9, 3) := by decide +kernel
theorem d_Ef_subtract_4 : decode b_Ef_subtract 4 = .ok (.iload_n 1, 1) := by decide +kernel
theorem d_Ef_subtract_5 : decode b_Ef_subtract 5 = .ok (.invokevirtual 43, 3) := by decide +kernel
theorem d_Ef_subtract_8 : decode b_Ef_subtract 8 = .ok (.lload 4, 2) := by decide +kernel
theorem d_Ef_subtract_10 : decode b_Ef_subtract 10 = .ok (.lsub, 1) := by decide +kernel
theorem d_Ef_subtract_11 : decode b_Ef_subtract 11 = .ok (.lstore 6, 2) := by decide +kernel
theorem d_Ef_subtract_13 : decode b_Ef_subtract 13 = .ok (.aload_n 0, 1) := by decide +kernel
theorem d_Ef_subtract_14 : decode b_Ef_subtract 14 = .ok (.getfield 9, 3) := by decide +kernel
theorem d_Ef_subtract_17 : decode b_Ef_subtract 17 = .ok (.iload_n 1, 1) := by decide +kernel
theorem d_Ef_subtract_18 : decode b_Ef_subtract 18 = .ok (.invokevirtual 47, 3) := by decide +kernel
theorem d_Ef_subtract_21 : decode b_Ef_subtract 21 = .ok (.lload_n 2, 1) := by decide +kernel
theorem d_Ef_subtract_22 : decode b_Ef_subtract 22 = .ok (.lsub, 1) := by decide +kernel
theorem d_Ef_subtract_23 : decode b_Ef_subtract 23 = .ok (.lstore 8, 2) := by decide +kernel
theorem d_Ef_subtract_25 : decode b_Ef_subtract 25 = .ok (.aload_n 0, 1) := by decide +kernel
theorem d_Ef_subtract_26 : decode b_Ef_subtract 26 = .ok (.getfield 9, 3) := by decide +kernel
theorem d_Ef_subtract_29 : decode b_Ef_subtract 29 = .ok (.iload_n 1, 1) := by decide +kernel
theorem d_Ef_subtract_30 : decode b_Ef_subtract 30 = .ok (.invokevirtual 43, 3) := by decide +kernel
theorem d_Ef_subtract_33 : decode b_Ef_subtract 33 = .ok (.lload 4, 2) := by decide +kernel
theorem d_Ef_subtract_35 : decode b_Ef_subtract 35 = .ok (.lload 6, 2) := by decide +kernel
theorem d_Ef_subtract_37 : decode b_Ef_subtract 37 = .ok (.invokestatic 92, 3) := by decide +kernel
theorem d_Ef_subtract_40 : decode b_Ef_subtract 40 = .ok (.ifCond .ne 20, 3) := by decide +kernel
theorem d_Ef_subtract_43 : decode b_Ef_subtract 43 = .ok (.aload_n 0, 1) := by decide +kernel
theorem d_Ef_subtract_44 : decode b_Ef_subtract 44 = .ok (.getfield 9, 3) := by decide +kernel
theorem d_Ef_subtract_47 : decode b_Ef_subtract 47 = .ok (.iload_n 1, 1) := by decide +kernel
theorem d_Ef_subtract_48 : decode b_Ef_subtract 48 = .ok (.invokevirtual 47, 3) := by decide +kernel
theorem d_Ef_subtract_51 : decode b_Ef_subtract 51 = .ok (.lload_n 2, 1) := by decide +kernel
theorem d_Ef_subtract_52 : decode b_Ef_subtract 52 = .ok (.lload 8, 2) := by decide +kernel
theorem d_Ef_subtract_54 : decode b_Ef_subtract 54 = .ok (.invokestatic 92, 3) := by decide +kernel
theorem d_Ef_subtract_57 : decode b_Ef_subtract 57 = .ok (.ifCond .eq 14, 3) := by decide +kernel
theorem d_Ef_subtract_60 : decode b_Ef_subtract 60 = .ok (.aload_n 0, 1) := by decide +kernel
theorem d_Ef_subtract_61 : decode b_Ef_subtract 61 = .ok (.getfield 9, 3) := by decide +kernel
theorem d_Ef_subtract_64 : decode b_Ef_subtract 64 = .ok (.iload_n 1, 1) := by decide +kernel
theorem d_Ef_subtract_65 : decode b_Ef_subtract 65 = .ok (.invokevirtual 81, 3) := by decide +kernel
theorem d_Ef_subtract_68 : decode b_Ef_subtract 68 = .ok (.goto 15, 3) := by decide +kernel
theorem d_Ef_subtract_71 : decode b_Ef_subtract 71 = .ok (.aload_n 0, 1) := by decide +kernel
theorem d_Ef_subtract_72 : decode b_Ef_subtract 72 = .ok (.getfield 9, 3) := by decide +kernel
theorem d_Ef_subtract_75 : decode b_Ef_subtract 75 = .ok (.iload_n 1, 1) := by decide +kernel
theorem d_Ef_subtract_76 : decode b_Ef_subtract 76 = .ok (.lload 6, 2) := by decide +kernel
theorem d_Ef_subtract_78 : decode b_Ef_subtract 78 = .ok (.lload 8, 2) := by decide +kernel
theorem d_Ef_subtract_80 : decode b_Ef_subtract 80 = .ok (.invokevirtual 27, 3) := by decide +kernel
theorem d_Ef_subtract_83 : decode b_Ef_subtract 83 = .ok (.return_, 1) := by decide +kernel
theorem d_Ef_differenceWraps_0 : decode b_Ef_differenceWraps 0 = .ok (.lload_n 0, 1) := by decide +kernel
theorem d_Ef_differenceWraps_1 : decode b_Ef_differenceWraps 1 = .ok (.lload_n 2, 1) := by decide +kernel
theorem d_Ef_differenceWraps_2 : decode b_Ef_differenceWraps 2 = .ok (.lxor, 1) := by decide +kernel
theorem d_Ef_differenceWraps_3 : decode b_Ef_differenceWraps 3 = .ok (.lload_n 0, 1) := by decide +kernel
theorem d_Ef_differenceWraps_4 : decode b_Ef_differenceWraps 4 = .ok (.lload 4, 2) := by decide +kernel
theorem d_Ef_differenceWraps_6 : decode b_Ef_differenceWraps 6 = .ok (.lxor, 1) := by decide +kernel
theorem d_Ef_differenceWraps_7 : decode b_Ef_differenceWraps 7 = .ok (.land, 1) := by decide +kernel
theorem d_Ef_differenceWraps_8 : decode b_Ef_differenceWraps 8 = .ok (.lconst 0, 1) := by decide +kernel
theorem d_Ef_differenceWraps_9 : decode b_Ef_differenceWraps 9 = .ok (.lcmp, 1) := by decide +kernel
theorem d_Ef_differenceWraps_10 : decode b_Ef_differenceWraps 10 = .ok (.ifCond .ge 7, 3) := by decide +kernel
theorem d_Ef_differenceWraps_13 : decode b_Ef_differenceWraps 13 = .ok (.iconst 1, 1) := by decide +kernel
theorem d_Ef_differenceWraps_14 : decode b_Ef_differenceWraps 14 = .ok (.goto 4, 3) := by decide +kernel
theorem d_Ef_differenceWraps_17 : decode b_Ef_differenceWraps 17 = .ok (.iconst 0, 1) := by decide +kernel
theorem d_Ef_differenceWraps_18 : decode b_Ef_differenceWraps 18 = .ok (.ireturn, 1) := by decide +kernel
theorem d_Ef_multiply_0 : decode b_Ef_multiply 0 = .ok (.aload_n 0, 1) := by decide +kernel
theorem d_Ef_multiply_1 : decode b_Ef_multiply 1 = .ok (.getfield 9, 3) := by decide +kernel
theorem d_Ef_multiply_4 : decode b_Ef_multiply 4 = .ok (.iload_n 1, 1) := by decide +kernel
theorem d_Ef_multiply_5 : decode b_Ef_multiply 5 = .ok (.invokevirtual 43, 3) := by decide +kernel
theorem d_Ef_multiply_8 : decode b_Ef_multiply 8 = .ok (.invokestatic 95, 3) := by decide +kernel
theorem d_Ef_multiply_11 : decode b_Ef_multiply 11 = .ok (.ifCond .eq 48, 3) := by decide +kernel
theorem d_Ef_multiply_14 : decode b_Ef_multiply 14 = .ok (.aload_n 0, 1) := by decide +kernel
theorem d_Ef_multiply_15 : decode b_Ef_multiply 15 = .ok (.getfield 9, 3) := by decide +kernel
theorem d_Ef_multiply_18 : decode b_Ef_multiply 18 = .ok (.iload_n 1, 1) := by decide +kernel
theorem d_Ef_multiply_19 : decode b_Ef_multiply 19 = .ok (.invokevirtual 47, 3) := by decide +kernel
theorem d_Ef_multiply_22 : decode b_Ef_multiply 22 = .ok (.invokestatic 95, 3) := by decide +kernel
theorem d_Ef_multiply_25 : decode b_Ef_multiply 25 = .ok (.ifCond .eq 34, 3) := by decide +kernel
theorem d_Ef_multiply_28 : decode b_Ef_multiply 28 = .ok (.aload_n 0, 1) := by decide +kernel
theorem d_Ef_multiply_29 : decode b_Ef_multiply 29 = .ok (.getfield 9, 3) := by decide +kernel
theorem d_Ef_multiply_32 : decode b_Ef_multiply 32 = .ok (.iload_n 1, 1) := by decide +kernel
theorem d_Ef_multiply_33 : decode b_Ef_multiply 33 = .ok (.aload_n 0, 1) := by decide +kernel
theorem d_Ef_multiply_34 : decode b_Ef_multiply 34 = .ok (.getfield 9, 3) := by decide +kernel
theorem d_Ef_multiply_37 : decode b_Ef_multiply 37 = .ok (.iload_n 1, 1) := by decide +kernel
theorem d_Ef_multiply_38 : decode b_Ef_multiply 38 = .ok (.invokevirtual 43, 3) := by decide +kernel
theorem d_Ef_multiply_41 : decode b_Ef_multiply 41 = .ok (.lload_n 2, 1) := by decide +kernel
theorem d_Ef_multiply_42 : decode b_Ef_multiply 42 = .ok (.lmul, 1) := by decide +kernel
theorem d_Ef_multiply_43 : decode b_Ef_multiply 43 = .ok (.aload_n 0, 1) := by decide +kernel
theorem d_Ef_multiply_44 : decode b_Ef_multiply 44 = .ok (.getfield 9, 3) := by decide +kernel
theorem d_Ef_multiply_47 : decode b_Ef_multiply 47 = .ok (.iload_n 1, 1) := by decide +kernel
theorem d_Ef_multiply_48 : decode b_Ef_multiply 48 = .ok (.invokevirtual 47, 3) := by decide +kernel
theorem d_Ef_multiply_51 : decode b_Ef_multiply 51 = .ok (.lload_n 2, 1) := by decide +kernel
theorem d_Ef_multiply_52 : decode b_Ef_multiply 52 = .ok (.lmul, 1) := by decide +kernel
theorem d_Ef_multiply_53 : decode b_Ef_multiply 53 = .ok (.invokevirtual 99, 3) := by decide +kernel
theorem d_Ef_multiply_56 : decode b_Ef_multiply 56 = .ok (.goto 11, 3) := by decide +kernel
theorem d_Ef_multiply_59 : decode b_Ef_multiply 59 = .ok (.aload_n 0, 1) := by decide +kernel
theorem d_Ef_multiply_60 : decode b_Ef_multiply 60 = .ok (.getfield 9, 3) := by decide +kernel
theorem d_Ef_multiply_63 : decode b_Ef_multiply 63 = .ok (.iload_n 1, 1) := by decide +kernel
theorem d_Ef_multiply_64 : decode b_Ef_multiply 64 = .ok (.invokevirtual 81, 3) := by decide +kernel
theorem d_Ef_multiply_67 : decode b_Ef_multiply 67 = .ok (.return_, 1) := by decide +kernel
theorem d_Ef_isFactor_0 : decode b_Ef_isFactor 0 = .ok (.lload_n 0, 1) := by decide +kernel
theorem d_Ef_isFactor_1 : decode b_Ef_isFactor 1 = .ok (.ldc2_w 102, 3) := by decide +kernel
theorem d_Ef_isFactor_4 : decode b_Ef_isFactor 4 = .ok (.lcmp, 1) := by decide +kernel
theorem d_Ef_isFactor_5 : decode b_Ef_isFactor 5 = .ok (.ifCond .lt 15, 3) := by decide +kernel
theorem d_Ef_isFactor_8 : decode b_Ef_isFactor 8 = .ok (.lload_n 0, 1) := by decide +kernel
theorem d_Ef_isFactor_9 : decode b_Ef_isFactor 9 = .ok (.ldc2_w 104, 3) := by decide +kernel
theorem d_Ef_isFactor_12 : decode b_Ef_isFactor 12 = .ok (.lcmp, 1) := by decide +kernel
theorem d_Ef_isFactor_13 : decode b_Ef_isFactor 13 = .ok (.ifCond .gt 7, 3) := by decide +kernel
theorem d_Ef_isFactor_16 : decode b_Ef_isFactor 16 = .ok (.iconst 1, 1) := by decide +kernel
theorem d_Ef_isFactor_17 : decode b_Ef_isFactor 17 = .ok (.goto 4, 3) := by decide +kernel
theorem d_Ef_isFactor_20 : decode b_Ef_isFactor 20 = .ok (.iconst 0, 1) := by decide +kernel
theorem d_Ef_isFactor_21 : decode b_Ef_isFactor 21 = .ok (.ireturn, 1) := by decide +kernel
theorem d_Ef_mask_0 : decode b_Ef_mask 0 = .ok (.aload_n 0, 1) := by decide +kernel
theorem d_Ef_mask_1 : decode b_Ef_mask 1 = .ok (.getfield 9, 3) := by decide +kernel
theorem d_Ef_mask_4 : decode b_Ef_mask 4 = .ok (.iload_n 1, 1) := by decide +kernel
theorem d_Ef_mask_5 : decode b_Ef_mask 5 = .ok (.invokevirtual 43, 3) := by decide +kernel
theorem d_Ef_mask_8 : decode b_Ef_mask 8 = .ok (.aload_n 0, 1) := by decide +kernel
theorem d_Ef_mask_9 : decode b_Ef_mask 9 = .ok (.getfield 9, 3) := by decide +kernel
theorem d_Ef_mask_12 : decode b_Ef_mask 12 = .ok (.iload_n 1, 1) := by decide +kernel
theorem d_Ef_mask_13 : decode b_Ef_mask 13 = .ok (.invokevirtual 47, 3) := by decide +kernel
theorem d_Ef_mask_16 : decode b_Ef_mask 16 = .ok (.lcmp, 1) := by decide +kernel
theorem d_Ef_mask_17 : decode b_Ef_mask 17 = .ok (.ifCond .ne 34, 3) := by decide +kernel
theorem d_Ef_mask_20 : decode b_Ef_mask 20 = .ok (.aload_n 0, 1) := by decide +kernel
theorem d_Ef_mask_21 : decode b_Ef_mask 21 = .ok (.getfield 9, 3) := by decide +kernel
theorem d_Ef_mask_24 : decode b_Ef_mask 24 = .ok (.iload_n 1, 1) := by decide +kernel
theorem d_Ef_mask_25 : decode b_Ef_mask 25 = .ok (.aload_n 0, 1) := by decide +kernel
theorem d_Ef_mask_26 : decode b_Ef_mask 26 = .ok (.getfield 9, 3) := by decide +kernel
theorem d_Ef_mask_29 : decode b_Ef_mask 29 = .ok (.iload_n 1, 1) := by decide +kernel
theorem d_Ef_mask_30 : decode b_Ef_mask 30 = .ok (.invokevirtual 43, 3) := by decide +kernel
theorem d_Ef_mask_33 : decode b_Ef_mask 33 = .ok (.lload_n 2, 1) := by decide +kernel
theorem d_Ef_mask_34 : decode b_Ef_mask 34 = .ok (.land, 1) := by decide +kernel
theorem d_Ef_mask_35 : decode b_Ef_mask 35 = .ok (.aload_n 0, 1) := by decide +kernel
theorem d_Ef_mask_36 : decode b_Ef_mask 36 = .ok (.getfield 9, 3) := by decide +kernel
theorem d_Ef_mask_39 : decode b_Ef_mask 39 = .ok (.iload_n 1, 1) := by decide +kernel
theorem d_Ef_mask_40 : decode b_Ef_mask 40 = .ok (.invokevirtual 43, 3) := by decide +kernel
theorem d_Ef_mask_43 : decode b_Ef_mask 43 = .ok (.lload_n 2, 1) := by decide +kernel
theorem d_Ef_mask_44 : decode b_Ef_mask 44 = .ok (.land, 1) := by decide +kernel
theorem d_Ef_mask_45 : decode b_Ef_mask 45 = .ok (.invokevirtual 27, 3) := by decide +kernel
theorem d_Ef_mask_48 : decode b_Ef_mask 48 = .ok (.goto 58, 3) := by decide +kernel
theorem d_Ef_mask_51 : decode b_Ef_mask 51 = .ok (.lload_n 2, 1) := by decide +kernel
theorem d_Ef_mask_52 : decode b_Ef_mask 52 = .ok (.lconst 0, 1) := by decide +kernel
theorem d_Ef_mask_53 : decode b_Ef_mask 53 = .ok (.lcmp, 1) := by decide +kernel
theorem d_Ef_mask_54 : decode b_Ef_mask 54 = .ok (.ifCond .ge 14, 3) := by decide +kernel
theorem d_Ef_mask_57 : decode b_Ef_mask 57 = .ok (.aload_n 0, 1) := by decide +kernel
theorem d_Ef_mask_58 : decode b_Ef_mask 58 = .ok (.getfield 9, 3) := by decide +kernel
theorem d_Ef_mask_61 : decode b_Ef_mask 61 = .ok (.iload_n 1, 1) := by decide +kernel
theorem d_Ef_mask_62 : decode b_Ef_mask 62 = .ok (.invokevirtual 81, 3) := by decide +kernel
theorem d_Ef_mask_65 : decode b_Ef_mask 65 = .ok (.goto 41, 3) := by decide +kernel
theorem d_Ef_mask_68 : decode b_Ef_mask 68 = .ok (.aload_n 0, 1) := by decide +kernel
theorem d_Ef_mask_69 : decode b_Ef_mask 69 = .ok (.getfield 9, 3) := by decide +kernel
theorem d_Ef_mask_72 : decode b_Ef_mask 72 = .ok (.iload_n 1, 1) := by decide +kernel
theorem d_Ef_mask_73 : decode b_Ef_mask 73 = .ok (.lconst 0, 1) := by decide +kernel
theorem d_Ef_mask_74 : decode b_Ef_mask 74 = .ok (.aload_n 0, 1) := by decide +kernel
theorem d_Ef_mask_75 : decode b_Ef_mask 75 = .ok (.getfield 9, 3) := by decide +kernel
theorem d_Ef_mask_78 : decode b_Ef_mask 78 = .ok (.iload_n 1, 1) := by decide +kernel
theorem d_Ef_mask_79 : decode b_Ef_mask 79 = .ok (.invokevirtual 43, 3) := by decide +kernel
theorem d_Ef_mask_82 : decode b_Ef_mask 82 = .ok (.lconst 0, 1) := by decide +kernel
theorem d_Ef_mask_83 : decode b_Ef_mask 83 = .ok (.lcmp, 1) := by decide +kernel
theorem d_Ef_mask_84 : decode b_Ef_mask 84 = .ok (.ifCond .ge 7, 3) := by decide +kernel
theorem d_Ef_mask_87 : decode b_Ef_mask 87 = .ok (.lload_n 2, 1) := by decide +kernel
theorem d_Ef_mask_88 : decode b_Ef_mask 88 = .ok (.goto 15, 3) := by decide +kernel
theorem d_Ef_mask_91 : decode b_Ef_mask 91 = .ok (.lload_n 2, 1) := by decide +kernel
theorem d_Ef_mask_92 : decode b_Ef_mask 92 = .ok (.aload_n 0, 1) := by decide +kernel
theorem d_Ef_mask_93 : decode b_Ef_mask 93 = .ok (.getfield 9, 3) := by decide +kernel
theorem d_Ef_mask_96 : decode b_Ef_mask 96 = .ok (.iload_n 1, 1) := by decide +kernel
theorem d_Ef_mask_97 : decode b_Ef_mask 97 = .ok (.invokevirtual 47, 3) := by decide +kernel
theorem d_Ef_mask_100 : decode b_Ef_mask 100 = .ok (.invokestatic 106, 3) := by decide +kernel
theorem d_Ef_mask_103 : decode b_Ef_mask 103 = .ok (.invokevirtual 27, 3) := by decide +kernel
theorem d_Ef_mask_106 : decode b_Ef_mask 106 = .ok (.return_, 1) := by decide +kernel
theorem d_Ef_divide_0 : decode b_Ef_divide 0 = .ok (.lload_n 2, 1) := by decide +kernel
theorem d_Ef_divide_1 : decode b_Ef_divide 1 = .ok (.lconst 0, 1) := by decide +kernel
theorem d_Ef_divide_2 : decode b_Ef_divide 2 = .ok (.lcmp, 1) := by decide +kernel
theorem d_Ef_divide_3 : decode b_Ef_divide 3 = .ok (.ifCond .eq 26, 3) := by decide +kernel
theorem d_Ef_divide_6 : decode b_Ef_divide 6 = .ok (.lload_n 2, 1) := by decide +kernel
theorem d_Ef_divide_7 : decode b_Ef_divide 7 = .ok (.ldc2_w 112, 3) := by decide +kernel
theorem d_Ef_divide_10 : decode b_Ef_divide 10 = .ok (.lcmp, 1) := by decide +kernel
theorem d_Ef_divide_11 : decode b_Ef_divide 11 = .ok (.ifCond .ne 29, 3) := by decide +kernel
theorem d_Ef_divide_14 : decode b_Ef_divide 14 = .ok (.aload_n 0, 1) := by decide +kernel
theorem d_Ef_divide_15 : decode b_Ef_divide 15 = .ok (.getfield 9, 3) := by decide +kernel
theorem d_Ef_divide_18 : decode b_Ef_divide 18 = .ok (.iload_n 1, 1) := by decide +kernel
theorem d_Ef_divide_19 : decode b_Ef_divide 19 = .ok (.invokevirtual 43, 3) := by decide +kernel
theorem d_Ef_divide_22 : decode b_Ef_divide 22 = .ok (.ldc2_w 116, 3) := by decide +kernel
theorem d_Ef_divide_25 : decode b_Ef_divide 25 = .ok (.lcmp, 1) := by decide +kernel
theorem d_Ef_divide_26 : decode b_Ef_divide 26 = .ok (.ifCond .ne 14, 3) := by decide +kernel
theorem d_Ef_divide_29 : decode b_Ef_divide 29 = .ok (.aload_n 0, 1) := by decide +kernel
theorem d_Ef_divide_30 : decode b_Ef_divide 30 = .ok (.getfield 9, 3) := by decide +kernel
theorem d_Ef_divide_33 : decode b_Ef_divide 33 = .ok (.iload_n 1, 1) := by decide +kernel
theorem d_Ef_divide_34 : decode b_Ef_divide 34 = .ok (.invokevirtual 81, 3) := by decide +kernel
theorem d_Ef_divide_37 : decode b_Ef_divide 37 = .ok (.goto 31, 3) := by decide +kernel
theorem d_Ef_divide_40 : decode b_Ef_divide 40 = .ok (.aload_n 0, 1) := by decide +kernel
theorem d_Ef_divide_41 : decode b_Ef_divide 41 = .ok (.getfield 9, 3) := by decide +kernel
theorem d_Ef_divide_44 : decode b_Ef_divide 44 = .ok (.iload_n 1, 1) := by decide +kernel
theorem d_Ef_divide_45 : decode b_Ef_divide 45 = .ok (.aload_n 0, 1) := by decide +kernel
theorem d_Ef_divide_46 : decode b_Ef_divide 46 = .ok (.getfield 9, 3) := by decide +kernel
theorem d_Ef_divide_49 : decode b_Ef_divide 49 = .ok (.iload_n 1, 1) := by decide +kernel
theorem d_Ef_divide_50 : decode b_Ef_divide 50 = .ok (.invokevirtual 43, 3) := by decide +kernel
theorem d_Ef_divide_53 : decode b_Ef_divide 53 = .ok (.lload_n 2, 1) := by decide +kernel
theorem d_Ef_divide_54 : decode b_Ef_divide 54 = .ok (.ldiv, 1) := by decide +kernel
theorem d_Ef_divide_55 : decode b_Ef_divide 55 = .ok (.aload_n 0, 1) := by decide +kernel
theorem d_Ef_divide_56 : decode b_Ef_divide 56 = .ok (.getfield 9, 3) := by decide +kernel
theorem d_Ef_divide_59 : decode b_Ef_divide 59 = .ok (.iload_n 1, 1) := by decide +kernel
theorem d_Ef_divide_60 : decode b_Ef_divide 60 = .ok (.invokevirtual 47, 3) := by decide +kernel
theorem d_Ef_divide_63 : decode b_Ef_divide 63 = .ok (.lload_n 2, 1) := by decide +kernel
theorem d_Ef_divide_64 : decode b_Ef_divide 64 = .ok (.ldiv, 1) := by decide +kernel
theorem d_Ef_divide_65 : decode b_Ef_divide 65 = .ok (.invokevirtual 99, 3) := by decide +kernel
theorem d_Ef_divide_68 : decode b_Ef_divide 68 = .ok (.return_, 1) := by decide +kernel
theorem d_Ef_negate_0 : decode b_Ef_negate 0 = .ok (.aload_n 0, 1) := by decide +kernel
theorem d_Ef_negate_1 : decode b_Ef_negate 1 = .ok (.getfield 9, 3) := by decide +kernel
theorem d_Ef_negate_4 : decode b_Ef_negate 4 = .ok (.iload_n 1, 1) := by decide +kernel
theorem d_Ef_negate_5 : decode b_Ef_negate 5 = .ok (.invokevirtual 43, 3) := by decide +kernel
theorem d_Ef_negate_8 : decode b_Ef_negate 8 = .ok (.ldc2_w 116, 3) := by decide +kernel
theorem d_Ef_negate_11 : decode b_Ef_negate 11 = .ok (.lcmp, 1) := by decide +kernel
theorem d_Ef_negate_12 : decode b_Ef_negate 12 = .ok (.ifCond .ne 14, 3) := by decide +kernel
theorem d_Ef_negate_15 : decode b_Ef_negate 15 = .ok (.aload_n 0, 1) := by decide +kernel
theorem d_Ef_negate_16 : decode b_Ef_negate 16 = .ok (.getfield 9, 3) := by decide +kernel
theorem d_Ef_negate_19 : decode b_Ef_negate 19 = .ok (.iload_n 1, 1) := by decide +kernel
theorem d_Ef_negate_20 : decode b_Ef_negate 20 = .ok (.invokevirtual 81, 3) := by decide +kernel
theorem d_Ef_negate_23 : decode b_Ef_negate 23 = .ok (.goto 29, 3) := by decide +kernel
theorem d_Ef_negate_26 : decode b_Ef_negate 26 = .ok (.aload_n 0, 1) := by decide +kernel
theorem d_Ef_negate_27 : decode b_Ef_negate 27 = .ok (.getfield 9, 3) := by decide +kernel
theorem d_Ef_negate_30 : decode b_Ef_negate 30 = .ok (.iload_n 1, 1) := by decide +kernel
theorem d_Ef_negate_31 : decode b_Ef_negate 31 = .ok (.aload_n 0, 1) := by decide +kernel
theorem d_Ef_negate_32 : decode b_Ef_negate 32 = .ok (.getfield 9, 3) := by decide +kernel
theorem d_Ef_negate_35 : decode b_Ef_negate 35 = .ok (.iload_n 1, 1) := by decide +kernel
theorem d_Ef_negate_36 : decode b_Ef_negate 36 = .ok (.invokevirtual 47, 3) := by decide +kernel
theorem d_Ef_negate_39 : decode b_Ef_negate 39 = .ok (.lneg, 1) := by decide +kernel
theorem d_Ef_negate_40 : decode b_Ef_negate 40 = .ok (.aload_n 0, 1) := by decide +kernel
theorem d_Ef_negate_41 : decode b_Ef_negate 41 = .ok (.getfield 9, 3) := by decide +kernel
theorem d_Ef_negate_44 : decode b_Ef_negate 44 = .ok (.iload_n 1, 1) := by decide +kernel
theorem d_Ef_negate_45 : decode b_Ef_negate 45 = .ok (.invokevirtual 43, 3) := by decide +kernel
theorem d_Ef_negate_48 : decode b_Ef_negate 48 = .ok (.lneg, 1) := by decide +kernel
theorem d_Ef_negate_49 : decode b_Ef_negate 49 = .ok (.invokevirtual 27, 3) := by decide +kernel
theorem d_Ef_negate_52 : decode b_Ef_negate 52 = .ok (.return_, 1) := by decide +kernel
theorem d_Ef_load_0 : decode b_Ef_load 0 = .ok (.aload_n 0, 1) := by decide +kernel
theorem d_Ef_load_1 : decode b_Ef_load 1 = .ok (.getfield 9, 3) := by decide +kernel
theorem d_Ef_load_4 : decode b_Ef_load 4 = .ok (.aload_n 1, 1) := by decide +kernel
theorem d_Ef_load_5 : decode b_Ef_load 5 = .ok (.getfield 33, 3) := by decide +kernel
theorem d_Ef_load_8 : decode b_Ef_load 8 = .ok (.invokevirtual 84, 3) := by decide +kernel
theorem d_Ef_load_11 : decode b_Ef_load 11 = .ok (.iconst 2, 1) := by decide +kernel
theorem d_Ef_load_12 : decode b_Ef_load 12 = .ok (.if_icmp .eq 15, 3) := by decide +kernel
theorem d_Ef_load_15 : decode b_Ef_load 15 = .ok (.aload_n 0, 1) := by decide +kernel
theorem d_Ef_load_16 : decode b_Ef_load 16 = .ok (.getfield 9, 3) := by decide +kernel
theorem d_Ef_load_19 : decode b_Ef_load 19 = .ok (.aload_n 1, 1) := by decide +kernel
theorem d_Ef_load_20 : decode b_Ef_load 20 = .ok (.getfield 15, 3) := by decide +kernel
theorem d_Ef_load_23 : decode b_Ef_load 23 = .ok (.invokevirtual 81, 3) := by decide +kernel
theorem d_Ef_load_26 : decode b_Ef_load 26 = .ok (.return_, 1) := by decide +kernel
theorem d_Ef_load_27 : decode b_Ef_load 27 = .ok (.aload_n 0, 1) := by decide +kernel
theorem d_Ef_load_28 : decode b_Ef_load 28 = .ok (.getfield 9, 3) := by decide +kernel
theorem d_Ef_load_31 : decode b_Ef_load 31 = .ok (.aload_n 1, 1) := by decide +kernel
theorem d_Ef_load_32 : decode b_Ef_load 32 = .ok (.getfield 33, 3) := by decide +kernel
theorem d_Ef_load_35 : decode b_Ef_load 35 = .ok (.invokevirtual 43, 3) := by decide +kernel
theorem d_Ef_load_38 : decode b_Ef_load 38 = .ok (.aload_n 1, 1) := by decide +kernel
theorem d_Ef_load_39 : decode b_Ef_load 39 = .ok (.getfield 24, 3) := by decide +kernel
theorem d_Ef_load_42 : decode b_Ef_load 42 = .ok (.i2l, 1) := by decide +kernel
theorem d_Ef_load_43 : decode b_Ef_load 43 = .ok (.ladd, 1) := by decide +kernel
theorem d_Ef_load_44 : decode b_Ef_load 44 = .ok (.lstore_n 2, 1) := by decide +kernel
theorem d_Ef_load_45 : decode b_Ef_load 45 = .ok (.aload_n 0, 1) := by decide +kernel
theorem d_Ef_load_46 : decode b_Ef_load 46 = .ok (.getfield 9, 3) := by decide +kernel
theorem d_Ef_load_49 : decode b_Ef_load 49 = .ok (.aload_n 1, 1) := by decide +kernel
theorem d_Ef_load_50 : decode b_Ef_load 50 = .ok (.getfield 33, 3) := by decide +kernel
theorem d_Ef_load_53 : decode b_Ef_load 53 = .ok (.invokevirtual 47, 3) := by decide +kernel
theorem d_Ef_load_56 : decode b_Ef_load 56 = .ok (.aload_n 1, 1) := by decide +kernel
theorem d_Ef_load_57 : decode b_Ef_load 57 = .ok (.getfield 24, 3) := by decide +kernel
theorem d_Ef_load_60 : decode b_Ef_load 60 = .ok (.i2l, 1) := by decide +kernel
theorem d_Ef_load_61 : decode b_Ef_load 61 = .ok (.ladd, 1) := by decide +kernel
theorem d_Ef_load_62 : decode b_Ef_load 62 = .ok (.lstore 4, 2) := by decide +kernel
theorem d_Ef_load_64 : decode b_Ef_load 64 = .ok (.iconst 0, 1) := by decide +kernel
theorem d_Ef_load_65 : decode b_Ef_load 65 = .ok (.istore 6, 2) := by decide +kernel
theorem d_Ef_load_67 : decode b_Ef_load 67 = .ok (.iload 6, 2) := by decide +kernel
theorem d_Ef_load_69 : decode b_Ef_load 69 = .ok (.bipush 6, 2) := by decide +kernel
theorem d_Ef_load_71 : decode b_Ef_load 71 = .ok (.if_icmp .ge 86, 3) := by decide +kernel
theorem d_Ef_load_74 : decode b_Ef_load 74 = .ok (.bipush 6, 2) := by decide +kernel
theorem d_Ef_load_76 : decode b_Ef_load 76 = .ok (.iload 6, 2) := by decide +kernel
theorem d_Ef_load_78 : decode b_Ef_load 78 = .ok (.iadd, 1) := by decide +kernel
theorem d_Ef_load_79 : decode b_Ef_load 79 = .ok (.istore 7, 2) := by decide +kernel
theorem d_Ef_load_81 : decode b_Ef_load 81 = .ok (.iload 6, 2) := by decide +kernel
theorem d_Ef_load_83 : decode b_Ef_load 83 = .ok (.i2l, 1) := by decide +kernel
theorem d_Ef_load_84 : decode b_Ef_load 84 = .ok (.lload_n 2, 1) := by decide +kernel
theorem d_Ef_load_85 : decode b_Ef_load 85 = .ok (.lcmp, 1) := by decide +kernel
theorem d_Ef_load_86 : decode b_Ef_load 86 = .ok (.ifCond .ne 19, 3) := by decide +kernel
theorem d_Ef_load_89 : decode b_Ef_load 89 = .ok (.aload_n 0, 1) := by decide +kernel
theorem d_Ef_load_90 : decode b_Ef_load 90 = .ok (.getfield 9, 3) := by decide +kernel
theorem d_Ef_load_93 : decode b_Ef_load 93 = .ok (.aload_n 1, 1) := by decide +kernel
theorem d_Ef_load_94 : decode b_Ef_load 94 = .ok (.getfield 15, 3) := by decide +kernel
theorem d_Ef_load_97 : decode b_Ef_load 97 = .ok (.iload 7, 2) := by decide +kernel
theorem d_Ef_load_99 : decode b_Ef_load 99 = .ok (.invokevirtual 36, 3) := by decide +kernel
theorem d_Ef_load_102 : decode b_Ef_load 102 = .ok (.goto 49, 3) := by decide +kernel
theorem d_Ef_load_105 : decode b_Ef_load 105 = .ok (.iload 6, 2) := by decide +kernel
theorem d_Ef_load_107 : decode b_Ef_load 107 = .ok (.i2l, 1) := by decide +kernel
theorem d_Ef_load_108 : decode b_Ef_load 108 = .ok (.lload_n 2, 1) := by decide +kernel
theorem d_Ef_load_109 : decode b_Ef_load 109 = .ok (.lcmp, 1) := by decide +kernel
theorem d_Ef_load_110 : decode b_Ef_load 110 = .ok (.ifCond .le 41, 3) := by decide +kernel
theorem d_Ef_load_113 : decode b_Ef_load 113 = .ok (.iload 6, 2) := by decide +kernel
theorem d_Ef_load_115 : decode b_Ef_load 115 = .ok (.i2l, 1) := by decide +kernel
theorem d_Ef_load_116 : decode b_Ef_load 116 = .ok (.lload 4, 2) := by decide +kernel
theorem d_Ef_load_118 : decode b_Ef_load 118 = .ok (.lcmp, 1) := by decide +kernel
theorem d_Ef_load_119 : decode b_Ef_load 119 = .ok (.ifCond .gt 32, 3) := by decide +kernel
theorem d_Ef_load_122 : decode b_Ef_load 122 = .ok (.aload_n 0, 1) := by decide +kernel
theorem d_Ef_load_123 : decode b_Ef_load 123 = .ok (.getfield 9, 3) := by decide +kernel
theorem d_Ef_load_126 : decode b_Ef_load 126 = .ok (.aload_n 1, 1) := by decide +kernel
theorem d_Ef_load_127 : decode b_Ef_load 127 = .ok (.getfield 15, 3) := by decide +kernel
theorem d_Ef_load_130 : decode b_Ef_load 130 = .ok (.aload_n 0, 1) := by decide +kernel
theorem d_Ef_load_131 : decode b_Ef_load 131 = .ok (.getfield 9, 3) := by decide +kernel
theorem d_Ef_load_134 : decode b_Ef_load 134 = .ok (.iload 7, 2) := by decide +kernel
theorem d_Ef_load_136 : decode b_Ef_load 136 = .ok (.invokevirtual 43, 3) := by decide +kernel
theorem d_Ef_load_139 : decode b_Ef_load 139 = .ok (.aload_n 0, 1) := by decide +kernel
theorem d_Ef_load_140 : decode b_Ef_load 140 = .ok (.getfield 9, 3) := by decide +kernel
theorem d_Ef_load_143 : decode b_Ef_load 143 = .ok (.iload 7, 2) := by decide +kernel
theorem d_Ef_load_145 : decode b_Ef_load 145 = .ok (.invokevirtual 47, 3) := by decide +kernel
theorem d_Ef_load_148 : decode b_Ef_load 148 = .ok (.invokevirtual 118, 3) := by decide +kernel
theorem d_Ef_load_151 : decode b_Ef_load 151 = .ok (.iinc 6 1, 3) := by decide +kernel
theorem d_Ef_load_154 : decode b_Ef_load 154 = .ok (.goto (-87), 3) := by decide +kernel
theorem d_Ef_load_157 : decode b_Ef_load 157 = .ok (.return_, 1) := by decide +kernel
theorem d_Ef_store_0 : decode b_Ef_store 0 = .ok (.aload_n 0, 1) := by decide +kernel
theorem d_Ef_store_1 : decode b_Ef_store 1 = .ok (.getfield 9, 3) := by decide +kernel
theorem d_Ef_store_4 : decode b_Ef_store 4 = .ok (.aload_n 1, 1) := by decide +kernel
theorem d_Ef_store_5 : decode b_Ef_store 5 = .ok (.getfield 15, 3) := by decide +kernel
theorem d_Ef_store_8 : decode b_Ef_store 8 = .ok (.invokevirtual 84, 3) := by decide +kernel
theorem d_Ef_store_11 : decode b_Ef_store 11 = .ok (.iconst 2, 1) := by decide +kernel
theorem d_Ef_store_12 : decode b_Ef_store 12 = .ok (.if_icmp .eq 4, 3) := by decide +kernel
theorem d_Ef_store_15 : decode b_Ef_store 15 = .ok (.return_, 1) := by decide +kernel
theorem d_Ef_store_16 : decode b_Ef_store 16 = .ok (.aload_n 0, 1) := by decide +kernel
theorem d_Ef_store_17 : decode b_Ef_store 17 = .ok (.getfield 9, 3) := by decide +kernel
theorem d_Ef_store_20 : decode b_Ef_store 20 = .ok (.aload_n 1, 1) := by decide +kernel
theorem d_Ef_store_21 : decode b_Ef_store 21 = .ok (.getfield 15, 3) := by decide +kernel
theorem d_Ef_store_24 : decode b_Ef_store 24 = .ok (.invokevirtual 43, 3) := by decide +kernel
theorem d_Ef_store_27 : decode b_Ef_store 27 = .ok (.aload_n 1, 1) := by decide +kernel
theorem d_Ef_store_28 : decode b_Ef_store 28 = .ok (.getfield 24, 3) := by decide +kernel
theorem d_Ef_store_31 : decode b_Ef_store 31 = .ok (.i2l, 1) := by decide +kernel
theorem d_Ef_store_32 : decode b_Ef_store 32 = .ok (.ladd, 1) := by decide +kernel
theorem d_Ef_store_33 : decode b_Ef_store 33 = .ok (.lstore_n 2, 1) := by decide +kernel
theorem d_Ef_store_34 : decode b_Ef_store 34 = .ok (.aload_n 0, 1) := by decide +kernel
theorem d_Ef_store_35 : decode b_Ef_store 35 = .ok (.getfield 9, 3) := by decide +kernel
theorem d_Ef_store_38 : decode b_Ef_store 38 = .ok (.aload_n 1, 1) := by decide +kernel
theorem d_Ef_store_39 : decode b_Ef_store 39 = .ok (.getfield 15, 3) := by decide +kernel
theorem d_Ef_store_42 : decode b_Ef_store 42 = .ok (.invokevirtual 47, 3) := by decide +kernel
theorem d_Ef_store_45 : decode b_Ef_store 45 = .ok (.aload_n 1, 1) := by decide +kernel
theorem d_Ef_store_46 : decode b_Ef_store 46 = .ok (.getfield 24, 3) := by decide +kernel
theorem d_Ef_store_49 : decode b_Ef_store 49 = .ok (.i2l, 1) := by decide +kernel
theorem d_Ef_store_50 : decode b_Ef_store 50 = .ok (.ladd, 1) := by decide +kernel
theorem d_Ef_store_51 : decode b_Ef_store 51 = .ok (.lstore 4, 2) := by decide +kernel
theorem d_Ef_store_53 : decode b_Ef_store 53 = .ok (.iconst 0, 1) := by decide +kernel
theorem d_Ef_store_54 : decode b_Ef_store 54 = .ok (.istore 6, 2) := by decide +kernel
theorem d_Ef_store_56 : decode b_Ef_store 56 = .ok (.iload 6, 2) := by decide +kernel
theorem d_Ef_store_58 : decode b_Ef_store 58 = .ok (.bipush 6, 2) := by decide +kernel
theorem d_Ef_store_60 : decode b_Ef_store 60 = .ok (.if_icmp .ge 107, 3) := by decide +kernel
theorem d_Ef_store_63 : decode b_Ef_store 63 = .ok (.bipush 6, 2) := by decide +kernel
theorem d_Ef_store_65 : decode b_Ef_store 65 = .ok (.iload 6, 2) := by decide +kernel
theorem d_Ef_store_67 : decode b_Ef_store 67 = .ok (.iadd, 1) := by decide +kernel
theorem d_Ef_store_68 : decode b_Ef_store 68 = .ok (.istore 7, 2) := by decide +kernel
theorem d_Ef_store_70 : decode b_Ef_store 70 = .ok (.iload 6, 2) := by decide +kernel
theorem d_Ef_store_72 : decode b_Ef_store 72 = .ok (.i2l, 1) := by decide +kernel
theorem d_Ef_store_73 : decode b_Ef_store 73 = .ok (.lload_n 2, 1) := by decide +kernel
theorem d_Ef_store_74 : decode b_Ef_store 74 = .ok (.lcmp, 1) := by decide +kernel
theorem d_Ef_store_75 : decode b_Ef_store 75 = .ok (.ifCond .ne 26, 3) := by decide +kernel
theorem d_Ef_store_78 : decode b_Ef_store 78 = .ok (.lload_n 2, 1) := by decide +kernel
theorem d_Ef_store_79 : decode b_Ef_store 79 = .ok (.lload 4, 2) := by decide +kernel
theorem d_Ef_store_81 : decode b_Ef_store 81 = .ok (.lcmp, 1) := by decide +kernel
theorem d_Ef_store_82 : decode b_Ef_store 82 = .ok (.ifCond .ne 19, 3) := by decide +kernel
theorem d_Ef_store_85 : decode b_Ef_store 85 = .ok (.aload_n 0, 1) := by decide +kernel
theorem d_Ef_store_86 : decode b_Ef_store 86 = .ok (.getfield 9, 3) := by decide +kernel
theorem d_Ef_store_89 : decode b_Ef_store 89 = .ok (.iload 7, 2) := by decide +kernel
theorem d_Ef_store_91 : decode b_Ef_store 91 = .ok (.aload_n 1, 1) := by decide +kernel
theorem d_Ef_store_92 : decode b_Ef_store 92 = .ok (.getfield 33, 3) := by decide +kernel
theorem d_Ef_store_95 : decode b_Ef_store 95 = .ok (.invokevirtual 36, 3) := by decide +kernel
theorem d_Ef_store_98 : decode b_Ef_store 98 = .ok (.goto 63, 3) := by decide +kernel
theorem d_Ef_store_101 : decode b_Ef_store 101 = .ok (.iload 6, 2) := by decide +kernel
theorem d_Ef_store_103 : decode b_Ef_store 103 = .ok (.i2l, 1) := by decide +kernel
theorem d_Ef_store_104 : decode b_Ef_store 104 = .ok (.lload_n 2, 1) := by decide +kernel
theorem d_Ef_store_105 : decode b_Ef_store 105 = .ok (.lcmp, 1) := by decide +kernel
theorem d_Ef_store_106 : decode b_Ef_store 106 = .ok (.ifCond .lt 55, 3) := by decide +kernel
theorem d_Ef_store_109 : decode b_Ef_store 109 = .ok (.iload 6, 2) := by decide +kernel
theorem d_Ef_store_111 : decode b_Ef_store 111 = .ok (.i2l, 1) := by decide +kernel
theorem d_Ef_store_112 : decode b_Ef_store 112 = .ok (.lload 4, 2) := by decide +kernel
theorem d_Ef_store_114 : decode b_Ef_store 114 = .ok (.lcmp, 1) := by decide +kernel
theorem d_Ef_store_115 : decode b_Ef_store 115 = .ok (.ifCond .gt 46, 3) := by decide +kernel
theorem d_Ef_store_118 : decode b_Ef_store 118 = .ok (.aload_n 0, 1) := by decide +kernel
theorem d_Ef_store_119 : decode b_Ef_store 119 = .ok (.getfield 9, 3) := by decide +kernel
theorem d_Ef_store_122 : decode b_Ef_store 122 = .ok (.iload 7, 2) := by decide +kernel
theorem d_Ef_store_124 : decode b_Ef_store 124 = .ok (.invokevirtual 121, 3) := by decide +kernel
theorem d_Ef_store_127 : decode b_Ef_store 127 = .ok (.ifCond .eq 34, 3) := by decide +kernel
theorem d_Ef_store_130 : decode b_Ef_store 130 = .ok (.aload_n 0, 1) := by decide +kernel
theorem d_Ef_store_131 : decode b_Ef_store 131 = .ok (.getfield 9, 3) := by decide +kernel
theorem d_Ef_store_134 : decode b_Ef_store 134 = .ok (.iload 7, 2) := by decide +kernel
theorem d_Ef_store_136 : decode b_Ef_store 136 = .ok (.aload_n 0, 1) := by decide +kernel
theorem d_Ef_store_137 : decode b_Ef_store 137 = .ok (.getfield 9, 3) := by decide +kernel
theorem d_Ef_store_140 : decode b_Ef_store 140 = .ok (.aload_n 1, 1) := by decide +kernel
theorem d_Ef_store_141 : decode b_Ef_store 141 = .ok (.getfield 33, 3) := by decide +kernel
theorem d_Ef_store_144 : decode b_Ef_store 144 = .ok (.invokevirtual 43, 3) := by decide +kernel
theorem d_Ef_store_147 : decode b_Ef_store 147 = .ok (.aload_n 0, 1) := by decide +kernel
theorem d_Ef_store_148 : decode b_Ef_store 148 = .ok (.getfield 9, 3) := by decide +kernel
theorem d_Ef_store_151 : decode b_Ef_store 151 = .ok (.aload_n 1, 1) := by decide +kernel
theorem d_Ef_store_152 : decode b_Ef_store 152 = .ok (.getfield 33, 3) := by decide +kernel
theorem d_Ef_store_155 : decode b_Ef_store 155 = .ok (.invokevirtual 47, 3) := by decide +kernel
theorem d_Ef_store_158 : decode b_Ef_store 158 = .ok (.invokevirtual 118, 3) := by decide +kernel
theorem d_Ef_store_161 : decode b_Ef_store 161 = .ok (.iinc 6 1, 3) := by decide +kernel
theorem d_Ef_store_164 : decode b_Ef_store 164 = .ok (.goto (-108), 3) := by decide +kernel
theorem d_Ef_store_167 : decode b_Ef_store 167 = .ok (.return_, 1) := by decide +kernel
theorem d_Ef_call_0 : decode b_Ef_call 0 = .ok (.iload_n 1, 1) := by decide +kernel
theorem d_Ef_call_1 : decode b_Ef_call 1 = .ok (.ifCond .ne 18, 3) := by decide +kernel
theorem d_Ef_call_4 : decode b_Ef_call 4 = .ok (.aload_n 0, 1) := by decide +kernel
theorem d_Ef_call_5 : decode b_Ef_call 5 = .ok (.getfield 9, 3) := by decide +kernel
theorem d_Ef_call_8 : decode b_Ef_call 8 = .ok (.iconst 0, 1) := by decide +kernel
theorem d_Ef_call_9 : decode b_Ef_call 9 = .ok (.lconst 0, 1) := by decide +kernel
theorem d_Ef_call_10 : decode b_Ef_call 10 = .ok (.ldc2_w 125, 3) := by decide +kernel
theorem d_Ef_call_13 : decode b_Ef_call 13 = .ok (.invokevirtual 27, 3) := by decide +kernel
theorem d_Ef_call_16 : decode b_Ef_call 16 = .ok (.goto 68, 3) := by decide +kernel
theorem d_Ef_call_19 : decode b_Ef_call 19 = .ok (.iload_n 1, 1) := by decide +kernel
theorem d_Ef_call_20 : decode b_Ef_call 20 = .ok (.iconst 1, 1) := by decide +kernel
theorem d_Ef_call_21 : decode b_Ef_call 21 = .ok (.if_icmp .ne 17, 3) := by decide +kernel
theorem d_Ef_call_24 : decode b_Ef_call 24 = .ok (.aload_n 0, 1) := by decide +kernel
theorem d_Ef_call_25 : decode b_Ef_call 25 = .ok (.getfield 9, 3) := by decide +kernel
theorem d_Ef_call_28 : decode b_Ef_call 28 = .ok (.iconst 0, 1) := by decide +kernel
theorem d_Ef_call_29 : decode b_Ef_call 29 = .ok (.iconst 4, 1) := by decide +kernel
theorem d_Ef_call_30 : decode b_Ef_call 30 = .ok (.lconst 0, 1) := by decide +kernel
theorem d_Ef_call_31 : decode b_Ef_call 31 = .ok (.lconst 0, 1) := by decide +kernel
theorem d_Ef_call_32 : decode b_Ef_call 32 = .ok (.invokevirtual 88, 3) := by decide +kernel
theorem d_Ef_call_35 : decode b_Ef_call 35 = .ok (.goto 49, 3) := by decide +kernel
theorem d_Ef_call_38 : decode b_Ef_call 38 = .ok (.aload_n 0, 1) := by decide +kernel
theorem d_Ef_call_39 : decode b_Ef_call 39 = .ok (.getfield 9, 3) := by decide +kernel
theorem d_Ef_call_42 : decode b_Ef_call 42 = .ok (.iconst 0, 1) := by decide +kernel
theorem d_Ef_call_43 : decode b_Ef_call 43 = .ok (.aload_n 0, 1) := by decide +kernel
theorem d_Ef_call_44 : decode b_Ef_call 44 = .ok (.getfield 9, 3) := by decide +kernel
theorem d_Ef_call_47 : decode b_Ef_call 47 = .ok (.iconst 1, 1) := by decide +kernel
theorem d_Ef_call_48 : decode b_Ef_call 48 = .ok (.invokevirtual 43, 3) := by decide +kernel
theorem d_Ef_call_51 : decode b_Ef_call 51 = .ok (.aload_n 0, 1) := by decide +kernel
theorem d_Ef_call_52 : decode b_Ef_call 52 = .ok (.getfield 9, 3) := by decide +kernel
theorem d_Ef_call_55 : decode b_Ef_call 55 = .ok (.iconst 2, 1) := by decide +kernel
theorem d_Ef_call_56 : decode b_Ef_call 56 = .ok (.invokevirtual 43, 3) := by decide +kernel
theorem d_Ef_call_59 : decode b_Ef_call 59 = .ok (.invokestatic 127, 3) := by decide +kernel
theorem d_Ef_call_62 : decode b_Ef_call 62 = .ok (.aload_n 0, 1) := by decide +kernel
theorem d_Ef_call_63 : decode b_Ef_call 63 = .ok (.getfield 9, 3) := by decide +kernel
theorem d_Ef_call_66 : decode b_Ef_call 66 = .ok (.iconst 1, 1) := by decide +kernel
theorem d_Ef_call_67 : decode b_Ef_call 67 = .ok (.invokevirtual 47, 3) := by decide +kernel
theorem d_Ef_call_70 : decode b_Ef_call 70 = .ok (.aload_n 0, 1) := by decide +kernel
theorem d_Ef_call_71 : decode b_Ef_call 71 = .ok (.getfield 9, 3) := by decide +kernel
theorem d_Ef_call_74 : decode b_Ef_call 74 = .ok (.iconst 2, 1) := by decide +kernel
theorem d_Ef_call_75 : decode b_Ef_call 75 = .ok (.invokevirtual 47, 3) := by decide +kernel
theorem d_Ef_call_78 : decode b_Ef_call 78 = .ok (.invokestatic 127, 3) := by decide +kernel
theorem d_Ef_call_81 : decode b_Ef_call 81 = .ok (.invokevirtual 27, 3) := by decide +kernel
theorem d_Ef_call_84 : decode b_Ef_call 84 = .ok (.aload_n 0, 1) := by decide +kernel
theorem d_Ef_call_85 : decode b_Ef_call 85 = .ok (.getfield 9, 3) := by decide +kernel
theorem d_Ef_call_88 : decode b_Ef_call 88 = .ok (.iconst 1, 1) := by decide +kernel
theorem d_Ef_call_89 : decode b_Ef_call 89 = .ok (.invokevirtual 130, 3) := by decide +kernel
theorem d_Ef_call_92 : decode b_Ef_call 92 = .ok (.aload_n 0, 1) := by decide +kernel
theorem d_Ef_call_93 : decode b_Ef_call 93 = .ok (.getfield 9, 3) := by decide +kernel
theorem d_Ef_call_96 : decode b_Ef_call 96 = .ok (.iconst 2, 1) := by decide +kernel
theorem d_Ef_call_97 : decode b_Ef_call 97 = .ok (.invokevirtual 130, 3) := by decide +kernel
theorem d_Ef_call_100 : decode b_Ef_call 100 = .ok (.aload_n 0, 1) := by decide +kernel
theorem d_Ef_call_101 : decode b_Ef_call 101 = .ok (.getfield 9, 3) := by decide +kernel
theorem d_Ef_call_104 : decode b_Ef_call 104 = .ok (.iconst 3, 1) := by decide +kernel
theorem d_Ef_call_105 : decode b_Ef_call 105 = .ok (.invokevirtual 130, 3) := by decide +kernel
theorem d_Ef_call_108 : decode b_Ef_call 108 = .ok (.return_, 1) := by decide +kernel
theorem d_Fk_leadsToTarget_0 : decode b_Fk_leadsToTarget 0 = .ok (.aload_n 0, 1) := by decide +kernel
theorem d_Fk_leadsToTarget_1 : decode b_Fk_leadsToTarget 1 = .ok (.getfield 9, 3) := by decide +kernel
theorem d_Fk_leadsToTarget_4 : decode b_Fk_leadsToTarget 4 = .ok (.tableswitch 136 10 12 #[28, 76, 99], 28) := by decide +kernel
theorem d_Fk_leadsToTarget_32 : decode b_Fk_leadsToTarget 32 = .ok (.aload_n 0, 1) := by decide +kernel
theorem d_Fk_leadsToTarget_33 : decode b_Fk_leadsToTarget 33 = .ok (.aload_n 1, 1) := by decide +kernel
theorem d_Fk_leadsToTarget_34 : decode b_Fk_leadsToTarget 34 = .ok (.invokestatic 15, 3) := by decide +kernel
theorem d_Fk_leadsToTarget_37 : decode b_Fk_leadsToTarget 37 = .ok (.ifCond .ne 37, 3) := by decide +kernel
theorem d_Fk_leadsToTarget_40 : decode b_Fk_leadsToTarget 40 = .ok (.aload_n 1, 1) := by decide +kernel
theorem d_Fk_leadsToTarget_41 : decode b_Fk_leadsToTarget 41 = .ok (.aload_n 0, 1) := by decide +kernel
theorem d_Fk_leadsToTarget_42 : decode b_Fk_leadsToTarget 42 = .ok (.getfield 21, 3) := by decide +kernel
theorem d_Fk_leadsToTarget_45 : decode b_Fk_leadsToTarget 45 = .ok (.invokevirtual 24, 3) := by decide +kernel
theorem d_Fk_leadsToTarget_48 : decode b_Fk_leadsToTarget 48 = .ok (.aload_n 0, 1) := by decide +kernel
theorem d_Fk_leadsToTarget_49 : decode b_Fk_leadsToTarget 49 = .ok (.getfield 30, 3) := by decide +kernel
theorem d_Fk_leadsToTarget_52 : decode b_Fk_leadsToTarget 52 = .ok (.i2l, 1) := by decide +kernel
theorem d_Fk_leadsToTarget_53 : decode b_Fk_leadsToTarget 53 = .ok (.lcmp, 1) := by decide +kernel
theorem d_Fk_leadsToTarget_54 : decode b_Fk_leadsToTarget 54 = .ok (.ifCond .gt 24, 3) := by decide +kernel
theorem d_Fk_leadsToTarget_57 : decode b_Fk_leadsToTarget 57 = .ok (.aload_n 0, 1) := by decide +kernel
theorem d_Fk_leadsToTarget_58 : decode b_Fk_leadsToTarget 58 = .ok (.getfield 30, 3) := by decide +kernel
theorem d_Fk_leadsToTarget_61 : decode b_Fk_leadsToTarget 61 = .ok (.i2l, 1) := by decide +kernel
theorem d_Fk_leadsToTarget_62 : decode b_Fk_leadsToTarget 62 = .ok (.aload_n 1, 1) := by decide +kernel
theorem d_Fk_leadsToTarget_63 : decode b_Fk_leadsToTarget 63 = .ok (.aload_n 0, 1) := by decide +kernel
theorem d_Fk_leadsToTarget_64 : decode b_Fk_leadsToTarget 64 = .ok (.getfield 21, 3) := by decide +kernel
theorem d_Fk_leadsToTarget_67 : decode b_Fk_leadsToTarget 67 = .ok (.invokevirtual 33, 3) := by decide +kernel
theorem d_Fk_leadsToTarget_70 : decode b_Fk_leadsToTarget 70 = .ok (.lcmp, 1) := by decide +kernel
theorem d_Fk_leadsToTarget_71 : decode b_Fk_leadsToTarget 71 = .ok (.ifCond .gt 7, 3) := by decide +kernel
theorem d_Fk_leadsToTarget_74 : decode b_Fk_leadsToTarget 74 = .ok (.iconst 1, 1) := by decide +kernel
theorem d_Fk_leadsToTarget_75 : decode b_Fk_leadsToTarget 75 = .ok (.goto 4, 3) := by decide +kernel
theorem d_Fk_leadsToTarget_78 : decode b_Fk_leadsToTarget 78 = .ok (.iconst 0, 1) := by decide +kernel
theorem d_Fk_leadsToTarget_79 : decode b_Fk_leadsToTarget 79 = .ok (.ireturn, 1) := by decide +kernel
theorem d_Fk_leadsToTarget_80 : decode b_Fk_leadsToTarget 80 = .ok (.aload_n 1, 1) := by decide +kernel
theorem d_Fk_leadsToTarget_81 : decode b_Fk_leadsToTarget 81 = .ok (.aload_n 0, 1) := by decide +kernel
theorem d_Fk_leadsToTarget_82 : decode b_Fk_leadsToTarget 82 = .ok (.getfield 21, 3) := by decide +kernel
theorem d_Fk_leadsToTarget_85 : decode b_Fk_leadsToTarget 85 = .ok (.invokevirtual 33, 3) := by decide +kernel
theorem d_Fk_leadsToTarget_88 : decode b_Fk_leadsToTarget 88 = .ok (.aload_n 0, 1) := by decide +kernel
theorem d_Fk_leadsToTarget_89 : decode b_Fk_leadsToTarget 89 = .ok (.getfield 30, 3) := by decide +kernel
theorem d_Fk_leadsToTarget_92 : decode b_Fk_leadsToTarget 92 = .ok (.i2l, 1) := by decide +kernel
theorem d_Fk_leadsToTarget_93 : decode b_Fk_leadsToTarget 93 = .ok (.lcmp, 1) := by decide +kernel
theorem d_Fk_leadsToTarget_94 : decode b_Fk_leadsToTarget 94 = .ok (.ifCond .le 7, 3) := by decide +kernel
theorem d_Fk_leadsToTarget_97 : decode b_Fk_leadsToTarget 97 = .ok (.iconst 1, 1) := by decide +kernel
theorem d_Fk_leadsToTarget_98 : decode b_Fk_leadsToTarget 98 = .ok (.goto 4, 3) := by decide +kernel
theorem d_Fk_leadsToTarget_101 : decode b_Fk_leadsToTarget 101 = .ok (.iconst 0, 1) := by decide +kernel
theorem d_Fk_leadsToTarget_102 : decode b_Fk_leadsToTarget 102 = .ok (.ireturn, 1) := by decide +kernel
theorem d_Fk_leadsToTarget_103 : decode b_Fk_leadsToTarget 103 = .ok (.aload_n 0, 1) := by decide +kernel
theorem d_Fk_leadsToTarget_104 : decode b_Fk_leadsToTarget 104 = .ok (.getfield 21, 3) := by decide +kernel
theorem d_Fk_leadsToTarget_107 : decode b_Fk_leadsToTarget 107 = .ok (.aload_n 0, 1) := by decide +kernel
theorem d_Fk_leadsToTarget_108 : decode b_Fk_leadsToTarget 108 = .ok (.getfield 36, 3) := by decide +kernel
theorem d_Fk_leadsToTarget_111 : decode b_Fk_leadsToTarget 111 = .ok (.if_icmp .eq 27, 3) := by decide +kernel
theorem d_Fk_leadsToTarget_114 : decode b_Fk_leadsToTarget 114 = .ok (.aload_n 1, 1) := by decide +kernel
theorem d_Fk_leadsToTarget_115 : decode b_Fk_leadsToTarget 115 = .ok (.aload_n 0, 1) := by decide +kernel
theorem d_Fk_leadsToTarget_116 : decode b_Fk_leadsToTarget 116 = .ok (.getfield 21, 3) := by decide +kernel
theorem d_Fk_leadsToTarget_119 : decode b_Fk_leadsToTarget 119 = .ok (.invokevirtual 24, 3) := by decide +kernel
theorem d_Fk_leadsToTarget_122 : decode b_Fk_leadsToTarget 122 = .ok (.aload_n 1, 1) := by decide +kernel
theorem d_Fk_leadsToTarget_123 : decode b_Fk_leadsToTarget 123 = .ok (.aload_n 0, 1) := by decide +kernel
theorem d_Fk_leadsToTarget_124 : decode b_Fk_leadsToTarget 124 = .ok (.getfield 36, 3) := by decide +kernel
theorem d_Fk_leadsToTarget_127 : decode b_Fk_leadsToTarget 127 = .ok (.invokevirtual 33, 3) := by decide +kernel
theorem d_Fk_leadsToTarget_130 : decode b_Fk_leadsToTarget 130 = .ok (.lcmp, 1) := by decide +kernel
theorem d_Fk_leadsToTarget_131 : decode b_Fk_leadsToTarget 131 = .ok (.ifCond .ge 7, 3) := by decide +kernel
theorem d_Fk_leadsToTarget_134 : decode b_Fk_leadsToTarget 134 = .ok (.iconst 1, 1) := by decide +kernel
theorem d_Fk_leadsToTarget_135 : decode b_Fk_leadsToTarget 135 = .ok (.goto 4, 3) := by decide +kernel
theorem d_Fk_leadsToTarget_138 : decode b_Fk_leadsToTarget 138 = .ok (.iconst 0, 1) := by decide +kernel
theorem d_Fk_leadsToTarget_139 : decode b_Fk_leadsToTarget 139 = .ok (.ireturn, 1) := by decide +kernel
theorem d_Fk_leadsToTarget_140 : decode b_Fk_leadsToTarget 140 = .ok (.iconst 1, 1) := by decide +kernel
theorem d_Fk_leadsToTarget_141 : decode b_Fk_leadsToTarget 141 = .ok (.ireturn, 1) := by decide +kernel
theorem d_Fk_leadsOn_0 : decode b_Fk_leadsOn 0 = .ok (.aload_n 0, 1) := by decide +kernel
theorem d_Fk_leadsOn_1 : decode b_Fk_leadsOn 1 = .ok (.getfield 9, 3) := by decide +kernel
theorem d_Fk_leadsOn_4 : decode b_Fk_leadsOn 4 = .ok (.tableswitch 136 10 12 #[28, 76, 99], 28) := by decide +kernel
theorem d_Fk_leadsOn_32 : decode b_Fk_leadsOn 32 = .ok (.aload_n 0, 1) := by decide +kernel
theorem d_Fk_leadsOn_33 : decode b_Fk_leadsOn 33 = .ok (.aload_n 1, 1) := by decide +kernel
theorem d_Fk_leadsOn_34 : decode b_Fk_leadsOn 34 = .ok (.invokestatic 15, 3) := by decide +kernel
theorem d_Fk_leadsOn_37 : decode b_Fk_leadsOn 37 = .ok (.ifCond .ne 37, 3) := by decide +kernel
theorem d_Fk_leadsOn_40 : decode b_Fk_leadsOn 40 = .ok (.aload_n 1, 1) := by decide +kernel
theorem d_Fk_leadsOn_41 : decode b_Fk_leadsOn 41 = .ok (.aload_n 0, 1) := by decide +kernel
theorem d_Fk_leadsOn_42 : decode b_Fk_leadsOn 42 = .ok (.getfield 21, 3) := by decide +kernel
theorem d_Fk_leadsOn_45 : decode b_Fk_leadsOn 45 = .ok (.invokevirtual 24, 3) := by decide +kernel
theorem d_Fk_leadsOn_48 : decode b_Fk_leadsOn 48 = .ok (.aload_n 0, 1) := by decide +kernel
theorem d_Fk_leadsOn_49 : decode b_Fk_leadsOn 49 = .ok (.getfield 30, 3) := by decide +kernel
theorem d_Fk_leadsOn_52 : decode b_Fk_leadsOn 52 = .ok (.i2l, 1) := by decide +kernel
theorem d_Fk_leadsOn_53 : decode b_Fk_leadsOn 53 = .ok (.lcmp, 1) := by decide +kernel
theorem d_Fk_leadsOn_54 : decode b_Fk_leadsOn 54 = .ok (.ifCond .ne 20, 3) := by decide +kernel
theorem d_Fk_leadsOn_57 : decode b_Fk_leadsOn 57 = .ok (.aload_n 1, 1) := by decide +kernel
theorem d_Fk_leadsOn_58 : decode b_Fk_leadsOn 58 = .ok (.aload_n 0, 1) := by decide +kernel
theorem d_Fk_leadsOn_59 : decode b_Fk_leadsOn 59 = .ok (.getfield 21, 3) := by decide +kernel
theorem d_Fk_leadsOn_62 : decode b_Fk_leadsOn 62 = .ok (.invokevirtual 33, 3) := by decide +kernel
theorem d_Fk_leadsOn_65 : decode b_Fk_leadsOn 65 = .ok (.aload_n 0, 1) := by decide +kernel
theorem d_Fk_leadsOn_66 : decode b_Fk_leadsOn 66 = .ok (.getfield 30, 3) := by decide +kernel
theorem d_Fk_leadsOn_69 : decode b_Fk_leadsOn 69 = .ok (.i2l, 1) := by decide +kernel
theorem d_Fk_leadsOn_70 : decode b_Fk_leadsOn 70 = .ok (.lcmp, 1) := by decide +kernel
theorem d_Fk_leadsOn_71 : decode b_Fk_leadsOn 71 = .ok (.ifCond .eq 7, 3) := by decide +kernel
theorem d_Fk_leadsOn_74 : decode b_Fk_leadsOn 74 = .ok (.iconst 1, 1) := by decide +kernel
theorem d_Fk_leadsOn_75 : decode b_Fk_leadsOn 75 = .ok (.goto 4, 3) := by decide +kernel
theorem d_Fk_leadsOn_78 : decode b_Fk_leadsOn 78 = .ok (.iconst 0, 1) := by decide +kernel
theorem d_Fk_leadsOn_79 : decode b_Fk_leadsOn 79 = .ok (.ireturn, 1) := by decide +kernel
theorem d_Fk_leadsOn_80 : decode b_Fk_leadsOn 80 = .ok (.aload_n 1, 1) := by decide +kernel
theorem d_Fk_leadsOn_81 : decode b_Fk_leadsOn 81 = .ok (.aload_n 0, 1) := by decide +kernel
theorem d_Fk_leadsOn_82 : decode b_Fk_leadsOn 82 = .ok (.getfield 21, 3) := by decide +kernel
theorem d_Fk_leadsOn_85 : decode b_Fk_leadsOn 85 = .ok (.invokevirtual 24, 3) := by decide +kernel
theorem d_Fk_leadsOn_88 : decode b_Fk_leadsOn 88 = .ok (.aload_n 0, 1) := by decide +kernel
theorem d_Fk_leadsOn_89 : decode b_Fk_leadsOn 89 = .ok (.getfield 30, 3) := by decide +kernel
theorem d_Fk_leadsOn_92 : decode b_Fk_leadsOn 92 = .ok (.i2l, 1) := by decide +kernel
theorem d_Fk_leadsOn_93 : decode b_Fk_leadsOn 93 = .ok (.lcmp, 1) := by decide +kernel
theorem d_Fk_leadsOn_94 : decode b_Fk_leadsOn 94 = .ok (.ifCond .gt 7, 3) := by decide +kernel
theorem d_Fk_leadsOn_97 : decode b_Fk_leadsOn 97 = .ok (.iconst 1, 1) := by decide +kernel
theorem d_Fk_leadsOn_98 : decode b_Fk_leadsOn 98 = .ok (.goto 4, 3) := by decide +kernel
theorem d_Fk_leadsOn_101 : decode b_Fk_leadsOn 101 = .ok (.iconst 0, 1) := by decide +kernel
theorem d_Fk_leadsOn_102 : decode b_Fk_leadsOn 102 = .ok (.ireturn, 1) := by decide +kernel
theorem d_Fk_leadsOn_103 : decode b_Fk_leadsOn 103 = .ok (.aload_n 0, 1) := by decide +kernel
theorem d_Fk_leadsOn_104 : decode b_Fk_leadsOn 104 = .ok (.getfield 21, 3) := by decide +kernel
theorem d_Fk_leadsOn_107 : decode b_Fk_leadsOn 107 = .ok (.aload_n 0, 1) := by decide +kernel
theorem d_Fk_leadsOn_108 : decode b_Fk_leadsOn 108 = .ok (.getfield 36, 3) := by decide +kernel
theorem d_Fk_leadsOn_111 : decode b_Fk_leadsOn 111 = .ok (.if_icmp .eq 23, 3) := by decide +kernel
theorem d_Fk_leadsOn_114 : decode b_Fk_leadsOn 114 = .ok (.aload_n 1, 1) := by decide +kernel
theorem d_Fk_leadsOn_115 : decode b_Fk_leadsOn 115 = .ok (.aload_n 0, 1) := by decide +kernel
theorem d_Fk_leadsOn_116 : decode b_Fk_leadsOn 116 = .ok (.getfield 21, 3) := by decide +kernel
theorem d_Fk_leadsOn_119 : decode b_Fk_leadsOn 119 = .ok (.invokevirtual 33, 3) := by decide +kernel
theorem d_Fk_leadsOn_122 : decode b_Fk_leadsOn 122 = .ok (.aload_n 1, 1) := by decide +kernel
theorem d_Fk_leadsOn_123 : decode b_Fk_leadsOn 123 = .ok (.aload_n 0, 1) := by decide +kernel
theorem d_Fk_leadsOn_124 : decode b_Fk_leadsOn 124 = .ok (.getfield 36, 3) := by decide +kernel
theorem d_Fk_leadsOn_127 : decode b_Fk_leadsOn 127 = .ok (.invokevirtual 24, 3) := by decide +kernel
theorem d_Fk_leadsOn_130 : decode b_Fk_leadsOn 130 = .ok (.lcmp, 1) := by decide +kernel
theorem d_Fk_leadsOn_131 : decode b_Fk_leadsOn 131 = .ok (.ifCond .lt 7, 3) := by decide +kernel
theorem d_Fk_leadsOn_134 : decode b_Fk_leadsOn 134 = .ok (.iconst 1, 1) := by decide +kernel
theorem d_Fk_leadsOn_135 : decode b_Fk_leadsOn 135 = .ok (.goto 4, 3) := by decide +kernel
theorem d_Fk_leadsOn_138 : decode b_Fk_leadsOn 138 = .ok (.iconst 0, 1) := by decide +kernel
theorem d_Fk_leadsOn_139 : decode b_Fk_leadsOn 139 = .ok (.ireturn, 1) := by decide +kernel
theorem d_Fk_leadsOn_140 : decode b_Fk_leadsOn 140 = .ok (.iconst 0, 1) := by decide +kernel
theorem d_Fk_leadsOn_141 : decode b_Fk_leadsOn 141 = .ok (.ireturn, 1) := by decide +kernel
theorem d_Fk_goToTarget_0 : decode b_Fk_goToTarget 0 = .ok (.aload_n 0, 1) := by decide +kernel
theorem d_Fk_goToTarget_1 : decode b_Fk_goToTarget 1 = .ok (.getfield 21, 3) := by decide +kernel
theorem d_Fk_goToTarget_4 : decode b_Fk_goToTarget 4 = .ok (.istore_n 2, 1) := by decide +kernel
theorem d_Fk_goToTarget_5 : decode b_Fk_goToTarget 5 = .ok (.aload_n 0, 1) := by decide +kernel
theorem d_Fk_goToTarget_6 : decode b_Fk_goToTarget 6 = .ok (.getfield 30, 3) := by decide +kernel
theorem d_Fk_goToTarget_9 : decode b_Fk_goToTarget 9 = .ok (.i2l, 1) := by decide +kernel
theorem d_Fk_goToTarget_10 : decode b_Fk_goToTarget 10 = .ok (.lstore_n 3, 1) := by decide +kernel
theorem d_Fk_goToTarget_11 : decode b_Fk_goToTarget 11 = .ok (.aload_n 0, 1) := by decide +kernel
theorem d_Fk_goToTarget_12 : decode b_Fk_goToTarget 12 = .ok (.getfield 9, 3) := by decide +kernel
theorem d_Fk_goToTarget_15 : decode b_Fk_goToTarget 15 = .ok (.bipush 10, 2) := by decide +kernel
theorem d_Fk_goToTarget_17 : decode b_Fk_goToTarget 17 = .ok (.if_icmp .ne 13, 3) := by decide +kernel
theorem d_Fk_goToTarget_20 : decode b_Fk_goToTarget 20 = .ok (.aload_n 1, 1) := by decide +kernel
theorem d_Fk_goToTarget_21 : decode b_Fk_goToTarget 21 = .ok (.iload_n 2, 1) := by decide +kernel
theorem d_Fk_goToTarget_22 : decode b_Fk_goToTarget 22 = .ok (.lload_n 3, 1) := by decide +kernel
theorem d_Fk_goToTarget_23 : decode b_Fk_goToTarget 23 = .ok (.lload_n 3, 1) := by decide +kernel
theorem d_Fk_goToTarget_24 : decode b_Fk_goToTarget 24 = .ok (.invokevirtual 39, 3) := by decide +kernel
theorem d_Fk_goToTarget_27 : decode b_Fk_goToTarget 27 = .ok (.goto 106, 3) := by decide +kernel
theorem d_Fk_goToTarget_30 : decode b_Fk_goToTarget 30 = .ok (.aload_n 0, 1) := by decide +kernel
theorem d_Fk_goToTarget_31 : decode b_Fk_goToTarget 31 = .ok (.getfield 9, 3) := by decide +kernel
theorem d_Fk_goToTarget_34 : decode b_Fk_goToTarget 34 = .ok (.bipush 11, 2) := by decide +kernel
theorem d_Fk_goToTarget_36 : decode b_Fk_goToTarget 36 = .ok (.if_icmp .ne 27, 3) := by decide +kernel
theorem d_Fk_goToTarget_39 : decode b_Fk_goToTarget 39 = .ok (.aload_n 1, 1) := by decide +kernel
theorem d_Fk_goToTarget_40 : decode b_Fk_goToTarget 40 = .ok (.iload_n 2, 1) := by decide +kernel
theorem d_Fk_goToTarget_41 : decode b_Fk_goToTarget 41 = .ok (.aload_n 1, 1) := by decide +kernel
theorem d_Fk_goToTarget_42 : decode b_Fk_goToTarget 42 = .ok (.iload_n 2, 1) := by decide +kernel
theorem d_Fk_goToTarget_43 : decode b_Fk_goToTarget 43 = .ok (.invokevirtual 24, 3) := by decide +kernel
theorem d_Fk_goToTarget_46 : decode b_Fk_goToTarget 46 = .ok (.lload_n 3, 1) := by decide +kernel
theorem d_Fk_goToTarget_47 : decode b_Fk_goToTarget 47 = .ok (.lconst 1, 1) := by decide +kernel
theorem d_Fk_goToTarget_48 : decode b_Fk_goToTarget 48 = .ok (.ladd, 1) := by decide +kernel
theorem d_Fk_goToTarget_49 : decode b_Fk_goToTarget 49 = .ok (.invokestatic 43, 3) := by decide +kernel
theorem d_Fk_goToTarget_52 : decode b_Fk_goToTarget 52 = .ok (.aload_n 1, 1) := by decide +kernel
theorem d_Fk_goToTarget_53 : decode b_Fk_goToTarget 53 = .ok (.iload_n 2, 1) := by decide +kernel
theorem d_Fk_goToTarget_54 : decode b_Fk_goToTarget 54 = .ok (.invokevirtual 33, 3) := by decide +kernel
theorem d_Fk_goToTarget_57 : decode b_Fk_goToTarget 57 = .ok (.invokevirtual 39, 3) := by decide +kernel
theorem d_Fk_goToTarget_60 : decode b_Fk_goToTarget 60 = .ok (.goto 73, 3) := by decide +kernel
theorem d_Fk_goToTarget_63 : decode b_Fk_goToTarget 63 = .ok (.aload_n 0, 1) := by decide +kernel
theorem d_Fk_goToTarget_64 : decode b_Fk_goToTarget 64 = .ok (.getfield 9, 3) := by decide +kernel
theorem d_Fk_goToTarget_67 : decode b_Fk_goToTarget 67 = .ok (.bipush 12, 2) := by decide +kernel
theorem d_Fk_goToTarget_69 : decode b_Fk_goToTarget 69 = .ok (.if_icmp .ne 64, 3) := by decide +kernel
theorem d_Fk_goToTarget_72 : decode b_Fk_goToTarget 72 = .ok (.aload_n 1, 1) := by decide +kernel
theorem d_Fk_goToTarget_73 : decode b_Fk_goToTarget 73 = .ok (.iload_n 2, 1) := by decide +kernel
theorem d_Fk_goToTarget_74 : decode b_Fk_goToTarget 74 = .ok (.invokevirtual 24, 3) := by decide +kernel
theorem d_Fk_goToTarget_77 : decode b_Fk_goToTarget 77 = .ok (.lstore 5, 2) := by decide +kernel
theorem d_Fk_goToTarget_79 : decode b_Fk_goToTarget 79 = .ok (.aload_n 1, 1) := by decide +kernel
theorem d_Fk_goToTarget_80 : decode b_Fk_goToTarget 80 = .ok (.aload_n 0, 1) := by decide +kernel
theorem d_Fk_goToTarget_81 : decode b_Fk_goToTarget 81 = .ok (.getfield 36, 3) := by decide +kernel
theorem d_Fk_goToTarget_84 : decode b_Fk_goToTarget 84 = .ok (.invokevirtual 33, 3) := by decide +kernel
theorem d_Fk_goToTarget_87 : decode b_Fk_goToTarget 87 = .ok (.lstore 7, 2) := by decide +kernel
theorem d_Fk_goToTarget_89 : decode b_Fk_goToTarget 89 = .ok (.aload_n 1, 1) := by decide +kernel
theorem d_Fk_goToTarget_90 : decode b_Fk_goToTarget 90 = .ok (.iload_n 2, 1) := by decide +kernel
theorem d_Fk_goToTarget_91 : decode b_Fk_goToTarget 91 = .ok (.lload 5, 2) := by decide +kernel
theorem d_Fk_goToTarget_93 : decode b_Fk_goToTarget 93 = .ok (.aload_n 1, 1) := by decide +kernel
theorem d_Fk_goToTarget_94 : decode b_Fk_goToTarget 94 = .ok (.iload_n 2, 1) := by decide +kernel
theorem d_Fk_goToTarget_95 : decode b_Fk_goToTarget 95 = .ok (.invokevirtual 33, 3) := by decide +kernel
theorem d_Fk_goToTarget_98 : decode b_Fk_goToTarget 98 = .ok (.lload 7, 2) := by decide +kernel
theorem d_Fk_goToTarget_100 : decode b_Fk_goToTarget 100 = .ok (.lconst 1, 1) := by decide +kernel
theorem d_Fk_goToTarget_101 : decode b_Fk_goToTarget 101 = .ok (.lsub, 1) := by decide +kernel
theorem d_Fk_goToTarget_102 : decode b_Fk_goToTarget 102 = .ok (.invokestatic 49, 3) := by decide +kernel
theorem d_Fk_goToTarget_105 : decode b_Fk_goToTarget 105 = .ok (.invokevirtual 39, 3) := by decide +kernel
theorem d_Fk_goToTarget_108 : decode b_Fk_goToTarget 108 = .ok (.aload_n 1, 1) := by decide +kernel
theorem d_Fk_goToTarget_109 : decode b_Fk_goToTarget 109 = .ok (.aload_n 0, 1) := by decide +kernel
theorem d_Fk_goToTarget_110 : decode b_Fk_goToTarget 110 = .ok (.getfield 36, 3) := by decide +kernel
theorem d_Fk_goToTarget_113 : decode b_Fk_goToTarget 113 = .ok (.aload_n 1, 1) := by decide +kernel
theorem d_Fk_goToTarget_114 : decode b_Fk_goToTarget 114 = .ok (.aload_n 0, 1) := by decide +kernel
theorem d_Fk_goToTarget_115 : decode b_Fk_goToTarget 115 = .ok (.getfield 36, 3) := by decide +kernel
theorem d_Fk_goToTarget_118 : decode b_Fk_goToTarget 118 = .ok (.invokevirtual 24, 3) := by decide +kernel
theorem d_Fk_goToTarget_121 : decode b_Fk_goToTarget 121 = .ok (.lload 5, 2) := by decide +kernel
theorem d_Fk_goToTarget_123 : decode b_Fk_goToTarget 123 = .ok (.lconst 1, 1) := by decide +kernel
theorem d_Fk_goToTarget_124 : decode b_Fk_goToTarget 124 = .ok (.ladd, 1) := by decide +kernel
theorem d_Fk_goToTarget_125 : decode b_Fk_goToTarget 125 = .ok (.invokestatic 43, 3) := by decide +kernel
theorem d_Fk_goToTarget_128 : decode b_Fk_goToTarget 128 = .ok (.lload 7, 2) := by decide +kernel
theorem d_Fk_goToTarget_130 : decode b_Fk_goToTarget 130 = .ok (.invokevirtual 39, 3) := by decide +kernel
theorem d_Fk_goToTarget_133 : decode b_Fk_goToTarget 133 = .ok (.return_, 1) := by decide +kernel
theorem d_Fk_goOn_0 : decode b_Fk_goOn 0 = .ok (.aload_n 0, 1) := by decide +kernel
theorem d_Fk_goOn_1 : decode b_Fk_goOn 1 = .ok (.getfield 21, 3) := by decide +kernel
theorem d_Fk_goOn_4 : decode b_Fk_goOn 4 = .ok (.istore_n 2, 1) := by decide +kernel
theorem d_Fk_goOn_5 : decode b_Fk_goOn 5 = .ok (.aload_n 0, 1) := by decide +kernel
theorem d_Fk_goOn_6 : decode b_Fk_goOn 6 = .ok (.getfield 30, 3) := by decide +kernel
theorem d_Fk_goOn_9 : decode b_Fk_goOn 9 = .ok (.i2l, 1) := by decide +kernel
theorem d_Fk_goOn_10 : decode b_Fk_goOn 10 = .ok (.lstore_n 3, 1) := by decide +kernel
theorem d_Fk_goOn_11 : decode b_Fk_goOn 11 = .ok (.aload_n 0, 1) := by decide +kernel
theorem d_Fk_goOn_12 : decode b_Fk_goOn 12 = .ok (.getfield 9, 3) := by decide +kernel
theorem d_Fk_goOn_15 : decode b_Fk_goOn 15 = .ok (.bipush 10, 2) := by decide +kernel
theorem d_Fk_goOn_17 : decode b_Fk_goOn 17 = .ok (.if_icmp .ne 22, 3) := by decide +kernel
theorem d_Fk_goOn_20 : decode b_Fk_goOn 20 = .ok (.aload_n 0, 1) := by decide +kernel
theorem d_Fk_goOn_21 : decode b_Fk_goOn 21 = .ok (.aload_n 1, 1) := by decide +kernel
theorem d_Fk_goOn_22 : decode b_Fk_goOn 22 = .ok (.invokestatic 15, 3) := by decide +kernel
theorem d_Fk_goOn_25 : decode b_Fk_goOn 25 = .ok (.ifCond .eq 14, 3) := by decide +kernel
theorem d_Fk_goOn_28 : decode b_Fk_goOn 28 = .ok (.aload_n 1, 1) := by decide +kernel
theorem d_Fk_goOn_29 : decode b_Fk_goOn 29 = .ok (.iload_n 2, 1) := by decide +kernel
theorem d_Fk_goOn_30 : decode b_Fk_goOn 30 = .ok (.iconst 3, 1) := by decide +kernel
theorem d_Fk_goOn_31 : decode b_Fk_goOn 31 = .ok (.lconst 0, 1) := by decide +kernel
theorem d_Fk_goOn_32 : decode b_Fk_goOn 32 = .ok (.lconst 0, 1) := by decide +kernel
theorem d_Fk_goOn_33 : decode b_Fk_goOn 33 = .ok (.invokevirtual 52, 3) := by decide +kernel
theorem d_Fk_goOn_36 : decode b_Fk_goOn 36 = .ok (.goto 167, 3) := by decide +kernel
theorem d_Fk_goOn_39 : decode b_Fk_goOn 39 = .ok (.aload_n 0, 1) := by decide +kernel
theorem d_Fk_goOn_40 : decode b_Fk_goOn 40 = .ok (.getfield 9, 3) := by decide +kernel
theorem d_Fk_goOn_43 : decode b_Fk_goOn 43 = .ok (.bipush 10, 2) := by decide +kernel
theorem d_Fk_goOn_45 : decode b_Fk_goOn 45 = .ok (.if_icmp .ne 53, 3) := by decide +kernel
theorem d_Fk_goOn_48 : decode b_Fk_goOn 48 = .ok (.aload_n 1, 1) := by decide +kernel
theorem d_Fk_goOn_49 : decode b_Fk_goOn 49 = .ok (.iload_n 2, 1) := by decide +kernel
theorem d_Fk_goOn_50 : decode b_Fk_goOn 50 = .ok (.aload_n 1, 1) := by decide +kernel
theorem d_Fk_goOn_51 : decode b_Fk_goOn 51 = .ok (.iload_n 2, 1) := by decide +kernel
theorem d_Fk_goOn_52 : decode b_Fk_goOn 52 = .ok (.invokevirtual 24, 3) := by decide +kernel
theorem d_Fk_goOn_55 : decode b_Fk_goOn 55 = .ok (.lload_n 3, 1) := by decide +kernel
theorem d_Fk_goOn_56 : decode b_Fk_goOn 56 = .ok (.lcmp, 1) := by decide +kernel
theorem d_Fk_goOn_57 : decode b_Fk_goOn 57 = .ok (.ifCond .ne 9, 3) := by decide +kernel
theorem d_Fk_goOn_60 : decode b_Fk_goOn 60 = .ok (.lload_n 3, 1) := by decide +kernel
theorem d_Fk_goOn_61 : decode b_Fk_goOn 61 = .ok (.lconst 1, 1) := by decide +kernel
theorem d_Fk_goOn_62 : decode b_Fk_goOn 62 = .ok (.ladd, 1) := by decide +kernel
theorem d_Fk_goOn_63 : decode b_Fk_goOn 63 = .ok (.goto 8, 3) := by decide +kernel
theorem d_Fk_goOn_66 : decode b_Fk_goOn 66 = .ok (.aload_n 1, 1) := by decide +kernel
theorem d_Fk_goOn_67 : decode b_Fk_goOn 67 = .ok (.iload_n 2, 1) := by decide +kernel
theorem d_Fk_goOn_68 : decode b_Fk_goOn 68 = .ok (.invokevirtual 24, 3) := by decide +kernel
theorem d_Fk_goOn_71 : decode b_Fk_goOn 71 = .ok (.aload_n 1, 1) := by decide +kernel
theorem d_Fk_goOn_72 : decode b_Fk_goOn 72 = .ok (.iload_n 2, 1) := by decide +kernel
theorem d_Fk_goOn_73 : decode b_Fk_goOn 73 = .ok (.invokevirtual 33, 3) := by decide +kernel
theorem d_Fk_goOn_76 : decode b_Fk_goOn 76 = .ok (.lload_n 3, 1) := by decide +kernel
theorem d_Fk_goOn_77 : decode b_Fk_goOn 77 = .ok (.lcmp, 1) := by decide +kernel
theorem d_Fk_goOn_78 : decode b_Fk_goOn 78 = .ok (.ifCond .ne 9, 3) := by decide +kernel
theorem d_Fk_goOn_81 : decode b_Fk_goOn 81 = .ok (.lload_n 3, 1) := by decide +kernel
theorem d_Fk_goOn_82 : decode b_Fk_goOn 82 = .ok (.lconst 1, 1) := by decide +kernel
theorem d_Fk_goOn_83 : decode b_Fk_goOn 83 = .ok (.lsub, 1) := by decide +kernel
theorem d_Fk_goOn_84 : decode b_Fk_goOn 84 = .ok (.goto 8, 3) := by decide +kernel
theorem d_Fk_goOn_87 : decode b_Fk_goOn 87 = .ok (.aload_n 1, 1) := by decide +kernel
theorem d_Fk_goOn_88 : decode b_Fk_goOn 88 = .ok (.iload_n 2, 1) := by decide +kernel
theorem d_Fk_goOn_89 : decode b_Fk_goOn 89 = .ok (.invokevirtual 33, 3) := by decide +kernel
theorem d_Fk_goOn_92 : decode b_Fk_goOn 92 = .ok (.invokevirtual 39, 3) := by decide +kernel
theorem d_Fk_goOn_95 : decode b_Fk_goOn 95 = .ok (.goto 108, 3) := by decide +kernel
theorem d_Fk_goOn_98 : decode b_Fk_goOn 98 = .ok (.aload_n 0, 1) := by decide +kernel
theorem d_Fk_goOn_99 : decode b_Fk_goOn 99 = .ok (.getfield 9, 3) := by decide +kernel
theorem d_Fk_goOn_102 : decode b_Fk_goOn 102 = .ok (.bipush 11, 2) := by decide +kernel
theorem d_Fk_goOn_104 : decode b_Fk_goOn 104 = .ok (.if_icmp .ne 25, 3) := by decide +kernel
theorem d_Fk_goOn_107 : decode b_Fk_goOn 107 = .ok (.aload_n 1, 1) := by decide +kernel
theorem d_Fk_goOn_108 : decode b_Fk_goOn 108 = .ok (.iload_n 2, 1) := by decide +kernel
theorem d_Fk_goOn_109 : decode b_Fk_goOn 109 = .ok (.aload_n 1, 1) := by decide +kernel
theorem d_Fk_goOn_110 : decode b_Fk_goOn 110 = .ok (.iload_n 2, 1) := by decide +kernel
theorem d_Fk_goOn_111 : decode b_Fk_goOn 111 = .ok (.invokevirtual 24, 3) := by decide +kernel
theorem d_Fk_goOn_114 : decode b_Fk_goOn 114 = .ok (.aload_n 1, 1) := by decide +kernel
theorem d_Fk_goOn_115 : decode b_Fk_goOn 115 = .ok (.iload_n 2, 1) := by decide +kernel
theorem d_Fk_goOn_116 : decode b_Fk_goOn 116 = .ok (.invokevirtual 33, 3) := by decide +kernel
theorem d_Fk_goOn_119 : decode b_Fk_goOn 119 = .ok (.lload_n 3, 1) := by decide +kernel
theorem d_Fk_goOn_120 : decode b_Fk_goOn 120 = .ok (.invokestatic 49, 3) := by decide +kernel
theorem d_Fk_goOn_123 : decode b_Fk_goOn 123 = .ok (.invokevirtual 39, 3) := by decide +kernel
theorem d_Fk_goOn_126 : decode b_Fk_goOn 126 = .ok (.goto 77, 3) := by decide +kernel
theorem d_Fk_goOn_129 : decode b_Fk_goOn 129 = .ok (.aload_n 0, 1) := by decide +kernel
theorem d_Fk_goOn_130 : decode b_Fk_goOn 130 = .ok (.getfield 9, 3) := by decide +kernel
theorem d_Fk_goOn_133 : decode b_Fk_goOn 133 = .ok (.bipush 12, 2) := by decide +kernel
theorem d_Fk_goOn_135 : decode b_Fk_goOn 135 = .ok (.if_icmp .ne 68, 3) := by decide +kernel
theorem d_Fk_goOn_138 : decode b_Fk_goOn 138 = .ok (.iload_n 2, 1) := by decide +kernel
theorem d_Fk_goOn_139 : decode b_Fk_goOn 139 = .ok (.aload_n 0, 1) := by decide +kernel
theorem d_Fk_goOn_140 : decode b_Fk_goOn 140 = .ok (.getfield 36, 3) := by decide +kernel
theorem d_Fk_goOn_143 : decode b_Fk_goOn 143 = .ok (.if_icmp .eq 60, 3) := by decide +kernel
theorem d_Fk_goOn_146 : decode b_Fk_goOn 146 = .ok (.aload_n 1, 1) := by decide +kernel
theorem d_Fk_goOn_147 : decode b_Fk_goOn 147 = .ok (.iload_n 2, 1) := by decide +kernel
theorem d_Fk_goOn_148 : decode b_Fk_goOn 148 = .ok (.invokevirtual 33, 3) := by decide +kernel
theorem d_Fk_goOn_151 : decode b_Fk_goOn 151 = .ok (.lstore 5, 2) := by decide +kernel
theorem d_Fk_goOn_153 : decode b_Fk_goOn 153 = .ok (.aload_n 1, 1) := by decide +kernel
theorem d_Fk_goOn_154 : decode b_Fk_goOn 154 = .ok (.aload_n 0, 1) := by decide +kernel
theorem d_Fk_goOn_155 : decode b_Fk_goOn 155 = .ok (.getfield 36, 3) := by decide +kernel
theorem d_Fk_goOn_158 : decode b_Fk_goOn 158 = .ok (.invokevirtual 24, 3) := by decide +kernel
theorem d_Fk_goOn_161 : decode b_Fk_goOn 161 = .ok (.lstore 7, 2) := by decide +kernel
theorem d_Fk_goOn_163 : decode b_Fk_goOn 163 = .ok (.aload_n 1, 1) := by decide +kernel
theorem d_Fk_goOn_164 : decode b_Fk_goOn 164 = .ok (.iload_n 2, 1) := by decide +kernel
theorem d_Fk_goOn_165 : decode b_Fk_goOn 165 = .ok (.aload_n 1, 1) := by decide +kernel
theorem d_Fk_goOn_166 : decode b_Fk_goOn 166 = .ok (.iload_n 2, 1) := by decide +kernel
theorem d_Fk_goOn_167 : decode b_Fk_goOn 167 = .ok (.invokevirtual 24, 3) := by decide +kernel
theorem d_Fk_goOn_170 : decode b_Fk_goOn 170 = .ok (.lload 7, 2) := by decide +kernel
theorem d_Fk_goOn_172 : decode b_Fk_goOn 172 = .ok (.invokestatic 43, 3) := by decide +kernel
theorem d_Fk_goOn_175 : decode b_Fk_goOn 175 = .ok (.lload 5, 2) := by decide +kernel
theorem d_Fk_goOn_177 : decode b_Fk_goOn 177 = .ok (.invokevirtual 39, 3) := by decide +kernel
theorem d_Fk_goOn_180 : decode b_Fk_goOn 180 = .ok (.aload_n 1, 1) := by decide +kernel
theorem d_Fk_goOn_181 : decode b_Fk_goOn 181 = .ok (.aload_n 0, 1) := by decide +kernel
theorem d_Fk_goOn_182 : decode b_Fk_goOn 182 = .ok (.getfield 36, 3) := by decide +kernel
theorem d_Fk_goOn_185 : decode b_Fk_goOn 185 = .ok (.lload 7, 2) := by decide +kernel
theorem d_Fk_goOn_187 : decode b_Fk_goOn 187 = .ok (.aload_n 1, 1) := by decide +kernel
theorem d_Fk_goOn_188 : decode b_Fk_goOn 188 = .ok (.aload_n 0, 1) := by decide +kernel
theorem d_Fk_goOn_189 : decode b_Fk_goOn 189 = .ok (.getfield 36, 3) := by decide +kernel
theorem d_Fk_goOn_192 : decode b_Fk_goOn 192 = .ok (.invokevirtual 33, 3) := by decide +kernel
theorem d_Fk_goOn_195 : decode b_Fk_goOn 195 = .ok (.lload 5, 2) := by decide +kernel
theorem d_Fk_goOn_197 : decode b_Fk_goOn 197 = .ok (.invokestatic 49, 3) := by decide +kernel
theorem d_Fk_goOn_200 : decode b_Fk_goOn 200 = .ok (.invokevirtual 39, 3) := by decide +kernel
theorem d_Fk_goOn_203 : decode b_Fk_goOn 203 = .ok (.return_, 1) := by decide +kernel
theorem d_Fk_isMaybe_0 : decode b_Fk_isMaybe 0 = .ok (.aload_n 1, 1) := by decide +kernel
theorem d_Fk_isMaybe_1 : decode b_Fk_isMaybe 1 = .ok (.aload_n 0, 1) := by decide +kernel
theorem d_Fk_isMaybe_2 : decode b_Fk_isMaybe 2 = .ok (.getfield 21, 3) := by decide +kernel
theorem d_Fk_isMaybe_5 : decode b_Fk_isMaybe 5 = .ok (.invokevirtual 56, 3) := by decide +kernel
theorem d_Fk_isMaybe_8 : decode b_Fk_isMaybe 8 = .ok (.iconst 4, 1) := by decide +kernel
theorem d_Fk_isMaybe_9 : decode b_Fk_isMaybe 9 = .ok (.if_icmp .ne 7, 3) := by decide +kernel
theorem d_Fk_isMaybe_12 : decode b_Fk_isMaybe 12 = .ok (.iconst 1, 1) := by decide +kernel
theorem d_Fk_isMaybe_13 : decode b_Fk_isMaybe 13 = .ok (.goto 4, 3) := by decide +kernel
theorem d_Fk_isMaybe_16 : decode b_Fk_isMaybe 16 = .ok (.iconst 0, 1) := by decide +kernel
theorem d_Fk_isMaybe_17 : decode b_Fk_isMaybe 17 = .ok (.ireturn, 1) := by decide +kernel
theorem d_Gs_init_0 : decode b_Gs_init 0 = .ok (.aload_n 0, 1) := by decide +kernel
theorem d_Gs_init_1 : decode b_Gs_init 1 = .ok (.invokespecial 3, 3) := by decide +kernel
theorem d_Gs_init_4 : decode b_Gs_init 4 = .ok (.aload_n 0, 1) := by decide +kernel
theorem d_Gs_init_5 : decode b_Gs_init 5 = .ok (.bipush 12, 2) := by decide +kernel
theorem d_Gs_init_7 : decode b_Gs_init 7 = .ok (.newarray .int, 2) := by decide +kernel
theorem d_Gs_init_9 : decode b_Gs_init 9 = .ok (.putfield 9, 3) := by decide +kernel
theorem d_Gs_init_12 : decode b_Gs_init 12 = .ok (.aload_n 0, 1) := by decide +kernel
theorem d_Gs_init_13 : decode b_Gs_init 13 = .ok (.bipush 12, 2) := by decide +kernel
theorem d_Gs_init_15 : decode b_Gs_init 15 = .ok (.newarray .long, 2) := by decide +kernel
theorem d_Gs_init_17 : decode b_Gs_init 17 = .ok (.putfield 15, 3) := by decide +kernel
theorem d_Gs_init_20 : decode b_Gs_init 20 = .ok (.aload_n 0, 1) := by decide +kernel
theorem d_Gs_init_21 : decode b_Gs_init 21 = .ok (.bipush 12, 2) := by decide +kernel
theorem d_Gs_init_23 : decode b_Gs_init 23 = .ok (.newarray .long, 2) := by decide +kernel
theorem d_Gs_init_25 : decode b_Gs_init 25 = .ok (.putfield 19, 3) := by decide +kernel
theorem d_Gs_init_28 : decode b_Gs_init 28 = .ok (.return_, 1) := by decide +kernel
theorem d_Gs_begin_0 : decode b_Gs_begin 0 = .ok (.iconst 0, 1) := by decide +kernel
theorem d_Gs_begin_1 : decode b_Gs_begin 1 = .ok (.istore_n 1, 1) := by decide +kernel
theorem d_Gs_begin_2 : decode b_Gs_begin 2 = .ok (.iload_n 1, 1) := by decide +kernel
theorem d_Gs_begin_3 : decode b_Gs_begin 3 = .ok (.bipush 12, 2) := by decide +kernel
theorem d_Gs_begin_5 : decode b_Gs_begin 5 = .ok (.if_icmp .ge 14, 3) := by decide +kernel
theorem d_Gs_begin_8 : decode b_Gs_begin 8 = .ok (.aload_n 0, 1) := by decide +kernel
theorem d_Gs_begin_9 : decode b_Gs_begin 9 = .ok (.iload_n 1, 1) := by decide +kernel
theorem d_Gs_begin_10 : decode b_Gs_begin 10 = .ok (.invokevirtual 22, 3) := by decide +kernel
theorem d_Gs_begin_13 : decode b_Gs_begin 13 = .ok (.iinc 1 1, 3) := by decide +kernel
theorem d_Gs_begin_16 : decode b_Gs_begin 16 = .ok (.goto (-14), 3) := by decide +kernel
theorem d_Gs_begin_19 : decode b_Gs_begin 19 = .ok (.aload_n 0, 1) := by decide +kernel
theorem d_Gs_begin_20 : decode b_Gs_begin 20 = .ok (.iconst 1, 1) := by decide +kernel
theorem d_Gs_begin_21 : decode b_Gs_begin 21 = .ok (.invokevirtual 26, 3) := by decide +kernel
theorem d_Gs_begin_24 : decode b_Gs_begin 24 = .ok (.aload_n 0, 1) := by decide +kernel
theorem d_Gs_begin_25 : decode b_Gs_begin 25 = .ok (.iconst 2, 1) := by decide +kernel
theorem d_Gs_begin_26 : decode b_Gs_begin 26 = .ok (.iconst 2, 1) := by decide +kernel
theorem d_Gs_begin_27 : decode b_Gs_begin 27 = .ok (.lconst 0, 1) := by decide +kernel
theorem d_Gs_begin_28 : decode b_Gs_begin 28 = .ok (.lconst 0, 1) := by decide +kernel
theorem d_Gs_begin_29 : decode b_Gs_begin 29 = .ok (.invokevirtual 29, 3) := by decide +kernel
theorem d_Gs_begin_32 : decode b_Gs_begin 32 = .ok (.return_, 1) := by decide +kernel
theorem d_Gs_become_0 : decode b_Gs_become 0 = .ok (.aload_n 1, 1) := by decide +kernel
theorem d_Gs_become_1 : decode b_Gs_become 1 = .ok (.getfield 9, 3) := by decide +kernel
theorem d_Gs_become_4 : decode b_Gs_become 4 = .ok (.iconst 0, 1) := by decide +kernel
theorem d_Gs_become_5 : decode b_Gs_become 5 = .ok (.aload_n 0, 1) := by decide +kernel
theorem d_Gs_become_6 : decode b_Gs_become 6 = .ok (.getfield 9, 3) := by decide +kernel
theorem d_Gs_become_9 : decode b_Gs_become 9 = .ok (.iconst 0, 1) := by decide +kernel
theorem d_Gs_become_10 : decode b_Gs_become 10 = .ok (.bipush 12, 2) := by decide +kernel
theorem d_Gs_become_12 : decode b_Gs_become 12 = .ok (.invokestatic 33, 3) := by decide +kernel
theorem d_Gs_become_15 : decode b_Gs_become 15 = .ok (.aload_n 1, 1) := by decide +kernel
theorem d_Gs_become_16 : decode b_Gs_become 16 = .ok (.getfield 15, 3) := by decide +kernel
theorem d_Gs_become_19 : decode b_Gs_become 19 = .ok (.iconst 0, 1) := by decide +kernel
theorem d_Gs_become_20 : decode b_Gs_become 20 = .ok (.aload_n 0, 1) := by decide +kernel
theorem d_Gs_become_21 : decode b_Gs_become 21 = .ok (.getfield 15, 3) := by decide +kernel
theorem d_Gs_become_24 : decode b_Gs_become 24 = .ok (.iconst 0, 1) := by decide +kernel
theorem d_Gs_become_25 : decode b_Gs_become 25 = .ok (.bipush 12, 2) := by decide +kernel
theorem d_Gs_become_27 : decode b_Gs_become 27 = .ok (.invokestatic 33, 3) := by decide +kernel
theorem d_Gs_become_30 : decode b_Gs_become 30 = .ok (.aload_n 1, 1) := by decide +kernel
theorem d_Gs_become_31 : decode b_Gs_become 31 = .ok (.getfield 19, 3) := by decide +kernel
theorem d_Gs_become_34 : decode b_Gs_become 34 = .ok (.iconst 0, 1) := by decide +kernel
theorem d_Gs_become_35 : decode b_Gs_become 35 = .ok (.aload_n 0, 1) := by decide +kernel
theorem d_Gs_become_36 : decode b_Gs_become 36 = .ok (.getfield 19, 3) := by decide +kernel
theorem d_Gs_become_39 : decode b_Gs_become 39 = .ok (.iconst 0, 1) := by decide +kernel
theorem d_Gs_become_40 : decode b_Gs_become 40 = .ok (.bipush 12, 2) := by decide +kernel
theorem d_Gs_become_42 : decode b_Gs_become 42 = .ok (.invokestatic 33, 3) := by decide +kernel
theorem d_Gs_become_45 : decode b_Gs_become 45 = .ok (.return_, 1) := by decide +kernel
theorem d_Gs_kind_0 : decode b_Gs_kind 0 = .ok (.aload_n 0, 1) := by decide +kernel
theorem d_Gs_kind_1 : decode b_Gs_kind 1 = .ok (.getfield 9, 3) := by decide +kernel
theorem d_Gs_kind_4 : decode b_Gs_kind 4 = .ok (.iload_n 1, 1) := by decide +kernel
theorem d_Gs_kind_5 : decode b_Gs_kind 5 = .ok (.iaload, 1) := by decide +kernel
theorem d_Gs_kind_6 : decode b_Gs_kind 6 = .ok (.ireturn, 1) := by decide +kernel
theorem d_Gs_lo_0 : decode b_Gs_lo 0 = .ok (.aload_n 0, 1) := by decide +kernel
theorem d_Gs_lo_1 : decode b_Gs_lo 1 = .ok (.getfield 15, 3) := by decide +kernel
theorem d_Gs_lo_4 : decode b_Gs_lo 4 = .ok (.iload_n 1, 1) := by decide +kernel
theorem d_Gs_lo_5 : decode b_Gs_lo 5 = .ok (.laload, 1) := by decide +kernel
theorem d_Gs_lo_6 : decode b_Gs_lo 6 = .ok (.lreturn, 1) := by decide +kernel
theorem d_Gs_hi_0 : decode b_Gs_hi 0 = .ok (.aload_n 0, 1) := by decide +kernel
theorem d_Gs_hi_1 : decode b_Gs_hi 1 = .ok (.getfield 19, 3) := by decide +kernel
theorem d_Gs_hi_4 : decode b_Gs_hi 4 = .ok (.iload_n 1, 1) := by decide +kernel
theorem d_Gs_hi_5 : decode b_Gs_hi 5 = .ok (.laload, 1) := by decide +kernel
theorem d_Gs_hi_6 : decode b_Gs_hi 6 = .ok (.lreturn, 1) := by decide +kernel
theorem d_Gs_isEmpty_0 : decode b_Gs_isEmpty 0 = .ok (.aload_n 0, 1) := by decide +kernel
theorem d_Gs_isEmpty_1 : decode b_Gs_isEmpty 1 = .ok (.getfield 9, 3) := by decide +kernel
theorem d_Gs_isEmpty_4 : decode b_Gs_isEmpty 4 = .ok (.iload_n 1, 1) := by decide +kernel
theorem d_Gs_isEmpty_5 : decode b_Gs_isEmpty 5 = .ok (.iaload, 1) := by decide +kernel
theorem d_Gs_isEmpty_6 : decode b_Gs_isEmpty 6 = .ok (.ifCond .ne 7, 3) := by decide +kernel
theorem d_Gs_isEmpty_9 : decode b_Gs_isEmpty 9 = .ok (.iconst 1, 1) := by decide +kernel
theorem d_Gs_isEmpty_10 : decode b_Gs_isEmpty 10 = .ok (.goto 4, 3) := by decide +kernel
theorem d_Gs_isEmpty_13 : decode b_Gs_isEmpty 13 = .ok (.iconst 0, 1) := by decide +kernel
theorem d_Gs_isEmpty_14 : decode b_Gs_isEmpty 14 = .ok (.ireturn, 1) := by decide +kernel
theorem d_Gs_isRange_0 : decode b_Gs_isRange 0 = .ok (.aload_n 0, 1) := by decide +kernel
theorem d_Gs_isRange_1 : decode b_Gs_isRange 1 = .ok (.getfield 9, 3) := by decide +kernel
theorem d_Gs_isRange_4 : decode b_Gs_isRange 4 = .ok (.iload_n 1, 1) := by decide +kernel
theorem d_Gs_isRange_5 : decode b_Gs_isRange 5 = .ok (.iaload, 1) := by decide +kernel
theorem d_Gs_isRange_6 : decode b_Gs_isRange 6 = .ok (.iconst 1, 1) := by decide +kernel
theorem d_Gs_isRange_7 : decode b_Gs_isRange 7 = .ok (.if_icmp .ne 7, 3) := by decide +kernel
theorem d_Gs_isRange_10 : decode b_Gs_isRange 10 = .ok (.iconst 1, 1) := by decide +kernel
theorem d_Gs_isRange_11 : decode b_Gs_isRange 11 = .ok (.goto 4, 3) := by decide +kernel
theorem d_Gs_isRange_14 : decode b_Gs_isRange 14 = .ok (.iconst 0, 1) := by decide +kernel
theorem d_Gs_isRange_15 : decode b_Gs_isRange 15 = .ok (.ireturn, 1) := by decide +kernel
theorem d_Gs_isPlace_0 : decode b_Gs_isPlace 0 = .ok (.aload_n 0, 1) := by decide +kernel
theorem d_Gs_isPlace_1 : decode b_Gs_isPlace 1 = .ok (.getfield 9, 3) := by decide +kernel
theorem d_Gs_isPlace_4 : decode b_Gs_isPlace 4 = .ok (.iload_n 1, 1) := by decide +kernel
theorem d_Gs_isPlace_5 : decode b_Gs_isPlace 5 = .ok (.iaload, 1) := by decide +kernel
theorem d_Gs_isPlace_6 : decode b_Gs_isPlace 6 = .ok (.iconst 2, 1) := by decide +kernel
theorem d_Gs_isPlace_7 : decode b_Gs_isPlace 7 = .ok (.if_icmp .eq 13, 3) := by decide +kernel
theorem d_Gs_isPlace_10 : decode b_Gs_isPlace 10 = .ok (.aload_n 0, 1) := by decide +kernel
theorem d_Gs_isPlace_11 : decode b_Gs_isPlace 11 = .ok (.getfield 9, 3) := by decide +kernel
theorem d_Gs_isPlace_14 : decode b_Gs_isPlace 14 = .ok (.iload_n 1, 1) := by decide +kernel
theorem d_Gs_isPlace_15 : decode b_Gs_isPlace 15 = .ok (.iaload, 1) := by decide +kernel
theorem d_Gs_isPlace_16 : decode b_Gs_isPlace 16 = .ok (.iconst 3, 1) := by decide +kernel
theorem d_Gs_isPlace_17 : decode b_Gs_isPlace 17 = .ok (.if_icmp .ne 7, 3) := by decide +kernel
theorem d_Gs_isPlace_20 : decode b_Gs_isPlace 20 = .ok (.iconst 1, 1) := by decide +kernel
theorem d_Gs_isPlace_21 : decode b_Gs_isPlace 21 = .ok (.goto 4, 3) := by decide +kernel
theorem d_Gs_isPlace_24 : decode b_Gs_isPlace 24 = .ok (.iconst 0, 1) := by decide +kernel
theorem d_Gs_isPlace_25 : decode b_Gs_isPlace 25 = .ok (.ireturn, 1) := by decide +kernel
theorem d_Gs_set_0 : decode b_Gs_set 0 = .ok (.aload_n 0, 1) := by decide +kernel
theorem d_Gs_set_1 : decode b_Gs_set 1 = .ok (.getfield 9, 3) := by decide +kernel
theorem d_Gs_set_4 : decode b_Gs_set 4 = .ok (.iload_n 1, 1) := by decide +kernel
theorem d_Gs_set_5 : decode b_Gs_set 5 = .ok (.iload_n 2, 1) := by decide +kernel
theorem d_Gs_set_6 : decode b_Gs_set 6 = .ok (.iastore, 1) := by decide +kernel
theorem d_Gs_set_7 : decode b_Gs_set 7 = .ok (.aload_n 0, 1) := by decide +kernel
theorem d_Gs_set_8 : decode b_Gs_set 8 = .ok (.getfield 15, 3) := by decide +kernel
theorem d_Gs_set_11 : decode b_Gs_set 11 = .ok (.iload_n 1, 1) := by decide +kernel
theorem d_Gs_set_12 : decode b_Gs_set 12 = .ok (.lload_n 3, 1) := by decide +kernel
theorem d_Gs_set_13 : decode b_Gs_set 13 = .ok (.lastore, 1) := by decide +kernel
theorem d_Gs_set_14 : decode b_Gs_set 14 = .ok (.aload_n 0, 1) := by decide +kernel
theorem d_Gs_set_15 : decode b_Gs_set 15 = .ok (.getfield 19, 3) := by decide +kernel
theorem d_Gs_set_18 : decode b_Gs_set 18 = .ok (.iload_n 1, 1) := by decide +kernel
theorem d_Gs_set_19 : decode b_Gs_set 19 = .ok (.lload 5, 2) := by decide +kernel
theorem d_Gs_set_21 : decode b_Gs_set 21 = .ok (.lastore, 1) := by decide +kernel
theorem d_Gs_set_22 : decode b_Gs_set 22 = .ok (.return_, 1) := by decide +kernel
theorem d_Gs_setRange_0 : decode b_Gs_setRange 0 = .ok (.aload_n 0, 1) := by decide +kernel
theorem d_Gs_setRange_1 : decode b_Gs_setRange 1 = .ok (.iload_n 1, 1) := by decide +kernel
theorem d_Gs_setRange_2 : decode b_Gs_setRange 2 = .ok (.iconst 1, 1) := by decide +kernel
theorem d_Gs_setRange_3 : decode b_Gs_setRange 3 = .ok (.lload_n 2, 1) := by decide +kernel
theorem d_Gs_setRange_4 : decode b_Gs_setRange 4 = .ok (.lload 4, 2) := by decide +kernel
theorem d_Gs_setRange_6 : decode b_Gs_setRange 6 = .ok (.invokevirtual 29, 3) := by decide +kernel
theorem d_Gs_setRange_9 : decode b_Gs_setRange 9 = .ok (.return_, 1) := by decide +kernel
theorem d_Gs_setAny_0 : decode b_Gs_setAny 0 = .ok (.aload_n 0, 1) := by decide +kernel
theorem d_Gs_setAny_1 : decode b_Gs_setAny 1 = .ok (.iload_n 1, 1) := by decide +kernel
theorem d_Gs_setAny_2 : decode b_Gs_setAny 2 = .ok (.iconst 1, 1) := by decide +kernel
theorem d_Gs_setAny_3 : decode b_Gs_setAny 3 = .ok (.ldc2_w 41, 3) := by decide +kernel
theorem d_Gs_setAny_6 : decode b_Gs_setAny 6 = .ok (.ldc2_w 43, 3) := by decide +kernel
theorem d_Gs_setAny_9 : decode b_Gs_setAny 9 = .ok (.invokevirtual 29, 3) := by decide +kernel
theorem d_Gs_setAny_12 : decode b_Gs_setAny 12 = .ok (.return_, 1) := by decide +kernel
theorem d_Gs_clear_0 : decode b_Gs_clear 0 = .ok (.aload_n 0, 1) := by decide +kernel
theorem d_Gs_clear_1 : decode b_Gs_clear 1 = .ok (.iload_n 1, 1) := by decide +kernel
theorem d_Gs_clear_2 : decode b_Gs_clear 2 = .ok (.iconst 0, 1) := by decide +kernel
theorem d_Gs_clear_3 : decode b_Gs_clear 3 = .ok (.lconst 0, 1) := by decide +kernel
theorem d_Gs_clear_4 : decode b_Gs_clear 4 = .ok (.lconst 0, 1) := by decide +kernel
theorem d_Gs_clear_5 : decode b_Gs_clear 5 = .ok (.invokevirtual 29, 3) := by decide +kernel
theorem d_Gs_clear_8 : decode b_Gs_clear 8 = .ok (.return_, 1) := by decide +kernel
theorem d_Gs_copy_0 : decode b_Gs_copy 0 = .ok (.aload_n 0, 1) := by decide +kernel
theorem d_Gs_copy_1 : decode b_Gs_copy 1 = .ok (.iload_n 1, 1) := by decide +kernel
theorem d_Gs_copy_2 : decode b_Gs_copy 2 = .ok (.aload_n 0, 1) := by decide +kernel
theorem d_Gs_copy_3 : decode b_Gs_copy 3 = .ok (.getfield 9, 3) := by decide +kernel
theorem d_Gs_copy_6 : decode b_Gs_copy 6 = .ok (.iload_n 2, 1) := by decide +kernel
theorem d_Gs_copy_7 : decode b_Gs_copy 7 = .ok (.iaload, 1) := by decide +kernel
theorem d_Gs_copy_8 : decode b_Gs_copy 8 = .ok (.aload_n 0, 1) := by decide +kernel
theorem d_Gs_copy_9 : decode b_Gs_copy 9 = .ok (.getfield 15, 3) := by decide +kernel
theorem d_Gs_copy_12 : decode b_Gs_copy 12 = .ok (.iload_n 2, 1) := by decide +kernel
theorem d_Gs_copy_13 : decode b_Gs_copy 13 = .ok (.laload, 1) := by decide +kernel
theorem d_Gs_copy_14 : decode b_Gs_copy 14 = .ok (.aload_n 0, 1) := by decide +kernel
theorem d_Gs_copy_15 : decode b_Gs_copy 15 = .ok (.getfield 19, 3) := by decide +kernel
theorem d_Gs_copy_18 : decode b_Gs_copy 18 = .ok (.iload_n 2, 1) := by decide +kernel
theorem d_Gs_copy_19 : decode b_Gs_copy 19 = .ok (.laload, 1) := by decide +kernel
theorem d_Gs_copy_20 : decode b_Gs_copy 20 = .ok (.invokevirtual 29, 3) := by decide +kernel
theorem d_Gs_copy_23 : decode b_Gs_copy 23 = .ok (.return_, 1) := by decide +kernel
theorem d_Gs_widen_0 : decode b_Gs_widen 0 = .ok (.aload_n 0, 1) := by decide +kernel
theorem d_Gs_widen_1 : decode b_Gs_widen 1 = .ok (.iload_n 1, 1) := by decide +kernel
theorem d_Gs_widen_2 : decode b_Gs_widen 2 = .ok (.iconst 1, 1) := by decide +kernel
theorem d_Gs_widen_3 : decode b_Gs_widen 3 = .ok (.aload_n 0, 1) := by decide +kernel
theorem d_Gs_widen_4 : decode b_Gs_widen 4 = .ok (.getfield 15, 3) := by decide +kernel
theorem d_Gs_widen_7 : decode b_Gs_widen 7 = .ok (.iload_n 1, 1) := by decide +kernel
theorem d_Gs_widen_8 : decode b_Gs_widen 8 = .ok (.laload, 1) := by decide +kernel
theorem d_Gs_widen_9 : decode b_Gs_widen 9 = .ok (.lload_n 2, 1) := by decide +kernel
theorem d_Gs_widen_10 : decode b_Gs_widen 10 = .ok (.invokestatic 45, 3) := by decide +kernel
theorem d_Gs_widen_13 : decode b_Gs_widen 13 = .ok (.aload_n 0, 1) := by decide +kernel
theorem d_Gs_widen_14 : decode b_Gs_widen 14 = .ok (.getfield 19, 3) := by decide +kernel
theorem d_Gs_widen_17 : decode b_Gs_widen 17 = .ok (.iload_n 1, 1) := by decide +kernel
theorem d_Gs_widen_18 : decode b_Gs_widen 18 = .ok (.laload, 1) := by decide +kernel
theorem d_Gs_widen_19 : decode b_Gs_widen 19 = .ok (.lload 4, 2) := by decide +kernel
theorem d_Gs_widen_21 : decode b_Gs_widen 21 = .ok (.invokestatic 51, 3) := by decide +kernel
theorem d_Gs_widen_24 : decode b_Gs_widen 24 = .ok (.invokevirtual 29, 3) := by decide +kernel
theorem d_Gs_widen_27 : decode b_Gs_widen 27 = .ok (.return_, 1) := by decide +kernel
theorem d_Gs_setBetween_0 : decode b_Gs_setBetween 0 = .ok (.aload_n 0, 1) := by decide +kernel
theorem d_Gs_setBetween_1 : decode b_Gs_setBetween 1 = .ok (.iload_n 1, 1) := by decide +kernel
theorem d_Gs_setBetween_2 : decode b_Gs_setBetween 2 = .ok (.iconst 1, 1) := by decide +kernel
theorem d_Gs_setBetween_3 : decode b_Gs_setBetween 3 = .ok (.lload_n 2, 1) := by decide +kernel
theorem d_Gs_setBetween_4 : decode b_Gs_setBetween 4 = .ok (.lload 4, 2) := by decide +kernel
theorem d_Gs_setBetween_6 : decode b_Gs_setBetween 6 = .ok (.invokestatic 45, 3) := by decide +kernel
theorem d_Gs_setBetween_9 : decode b_Gs_setBetween 9 = .ok (.lload_n 2, 1) := by decide +kernel
theorem d_Gs_setBetween_10 : decode b_Gs_setBetween 10 = .ok (.lload 4, 2) := by decide +kernel
theorem d_Gs_setBetween_12 : decode b_Gs_setBetween 12 = .ok (.invokestatic 51, 3) := by decide +kernel
theorem d_Gs_setBetween_15 : decode b_Gs_setBetween 15 = .ok (.invokevirtual 29, 3) := by decide +kernel
theorem d_Gs_setBetween_18 : decode b_Gs_setBetween 18 = .ok (.return_, 1) := by decide +kernel
theorem d_Pg_init_0 : decode b_Pg_init 0 = .ok (.aload_n 0, 1) := by decide +kernel
theorem d_Pg_init_1 : decode b_Pg_init 1 = .ok (.invokespecial 3, 3) := by decide +kernel
theorem d_Pg_init_4 : decode b_Pg_init 4 = .ok (.aload_n 0, 1) := by decide +kernel
theorem d_Pg_init_5 : decode b_Pg_init 5 = .ok (.bipush 24, 2) := by decide +kernel
theorem d_Pg_init_7 : decode b_Pg_init 7 = .ok (.anewarray 9, 3) := by decide +kernel
theorem d_Pg_init_10 : decode b_Pg_init 10 = .ok (.putfield 11, 3) := by decide +kernel
theorem d_Pg_init_13 : decode b_Pg_init 13 = .ok (.iconst 0, 1) := by decide +kernel
theorem d_Pg_init_14 : decode b_Pg_init 14 = .ok (.istore_n 1, 1) := by decide +kernel
theorem d_Pg_init_15 : decode b_Pg_init 15 = .ok (.iload_n 1, 1) := by decide +kernel
theorem d_Pg_init_16 : decode b_Pg_init 16 = .ok (.bipush 24, 2) := by decide +kernel
theorem d_Pg_init_18 : decode b_Pg_init 18 = .ok (.if_icmp .ge 22, 3) := by decide +kernel
theorem d_Pg_init_21 : decode b_Pg_init 21 = .ok (.aload_n 0, 1) := by decide +kernel
theorem d_Pg_init_22 : decode b_Pg_init 22 = .ok (.getfield 11, 3) := by decide +kernel
theorem d_Pg_init_25 : decode b_Pg_init 25 = .ok (.iload_n 1, 1) := by decide +kernel
theorem d_Pg_init_26 : decode b_Pg_init 26 = .ok (.new 9, 3) := by decide +kernel
theorem d_Pg_init_29 : decode b_Pg_init 29 = .ok (.dup, 1) := by decide +kernel
theorem d_Pg_init_30 : decode b_Pg_init 30 = .ok (.invokespecial 17, 3) := by decide +kernel
theorem d_Pg_init_33 : decode b_Pg_init 33 = .ok (.aastore, 1) := by decide +kernel
theorem d_Pg_init_34 : decode b_Pg_init 34 = .ok (.iinc 1 1, 3) := by decide +kernel
theorem d_Pg_init_37 : decode b_Pg_init 37 = .ok (.goto (-22), 3) := by decide +kernel
theorem d_Pg_init_40 : decode b_Pg_init 40 = .ok (.aload_n 0, 1) := by decide +kernel
theorem d_Pg_init_41 : decode b_Pg_init 41 = .ok (.iconst 0, 1) := by decide +kernel
theorem d_Pg_init_42 : decode b_Pg_init 42 = .ok (.putfield 18, 3) := by decide +kernel
theorem d_Pg_init_45 : decode b_Pg_init 45 = .ok (.return_, 1) := by decide +kernel
theorem d_Pg_allows_0 : decode b_Pg_allows 0 = .ok (.iload_n 0, 1) := by decide +kernel
theorem d_Pg_allows_1 : decode b_Pg_allows 1 = .ok (.ifCond .lt 37, 3) := by decide +kernel
theorem d_Pg_allows_4 : decode b_Pg_allows 4 = .ok (.iload_n 0, 1) := by decide +kernel
theorem d_Pg_allows_5 : decode b_Pg_allows 5 = .ok (.bipush 17, 2) := by decide +kernel
theorem d_Pg_allows_7 : decode b_Pg_allows 7 = .ok (.if_icmp .gt 31, 3) := by decide +kernel
theorem d_Pg_allows_10 : decode b_Pg_allows 10 = .ok (.iload_n 1, 1) := by decide +kernel
theorem d_Pg_allows_11 : decode b_Pg_allows 11 = .ok (.invokestatic 22, 3) := by decide +kernel
theorem d_Pg_allows_14 : decode b_Pg_allows 14 = .ok (.ifCond .eq 24, 3) := by decide +kernel
theorem d_Pg_allows_17 : decode b_Pg_allows 17 = .ok (.iload_n 2, 1) := by decide +kernel
theorem d_Pg_allows_18 : decode b_Pg_allows 18 = .ok (.invokestatic 22, 3) := by decide +kernel
theorem d_Pg_allows_21 : decode b_Pg_allows 21 = .ok (.ifCond .eq 17, 3) := by decide +kernel
theorem d_Pg_allows_24 : decode b_Pg_allows 24 = .ok (.iload_n 3, 1) := by decide +kernel
theorem d_Pg_allows_25 : decode b_Pg_allows 25 = .ok (.ifCond .lt 13, 3) := by decide +kernel
theorem d_Pg_allows_28 : decode b_Pg_allows 28 = .ok (.iload_n 3, 1) := by decide +kernel
theorem d_Pg_allows_29 : decode b_Pg_allows 29 = .ok (.bipush 24, 2) := by decide +kernel
theorem d_Pg_allows_31 : decode b_Pg_allows 31 = .ok (.if_icmp .ge 7, 3) := by decide +kernel
theorem d_Pg_allows_34 : decode b_Pg_allows 34 = .ok (.iconst 1, 1) := by decide +kernel
theorem d_Pg_allows_35 : decode b_Pg_allows 35 = .ok (.goto 4, 3) := by decide +kernel
theorem d_Pg_allows_38 : decode b_Pg_allows 38 = .ok (.iconst 0, 1) := by decide +kernel
theorem d_Pg_allows_39 : decode b_Pg_allows 39 = .ok (.ireturn, 1) := by decide +kernel
theorem d_Pg_isRegister_0 : decode b_Pg_isRegister 0 = .ok (.iload_n 0, 1) := by decide +kernel
theorem d_Pg_isRegister_1 : decode b_Pg_isRegister 1 = .ok (.ifCond .lt 13, 3) := by decide +kernel
theorem d_Pg_isRegister_4 : decode b_Pg_isRegister 4 = .ok (.iload_n 0, 1) := by decide +kernel
theorem d_Pg_isRegister_5 : decode b_Pg_isRegister 5 = .ok (.bipush 6, 2) := by decide +kernel
theorem d_Pg_isRegister_7 : decode b_Pg_isRegister 7 = .ok (.if_icmp .ge 7, 3) := by decide +kernel
theorem d_Pg_isRegister_10 : decode b_Pg_isRegister 10 = .ok (.iconst 1, 1) := by decide +kernel
theorem d_Pg_isRegister_11 : decode b_Pg_isRegister 11 = .ok (.goto 4, 3) := by decide +kernel
theorem d_Pg_isRegister_14 : decode b_Pg_isRegister 14 = .ok (.iconst 0, 1) := by decide +kernel
theorem d_Pg_isRegister_15 : decode b_Pg_isRegister 15 = .ok (.ireturn, 1) := by decide +kernel
theorem d_Pg_size_0 : decode b_Pg_size 0 = .ok (.aload_n 0, 1) := by decide +kernel
theorem d_Pg_size_1 : decode b_Pg_size 1 = .ok (.getfield 18, 3) := by decide +kernel
theorem d_Pg_size_4 : decode b_Pg_size 4 = .ok (.ireturn, 1) := by decide +kernel
theorem d_Pg_grow_0 : decode b_Pg_grow 0 = .ok (.aload_n 0, 1) := by decide +kernel
theorem d_Pg_grow_1 : decode b_Pg_grow 1 = .ok (.getfield 18, 3) := by decide +kernel
theorem d_Pg_grow_4 : decode b_Pg_grow 4 = .ok (.bipush 24, 2) := by decide +kernel
theorem d_Pg_grow_6 : decode b_Pg_grow 6 = .ok (.if_icmp .ge 13, 3) := by decide +kernel
theorem d_Pg_grow_9 : decode b_Pg_grow 9 = .ok (.aload_n 0, 1) := by decide +kernel
theorem d_Pg_grow_10 : decode b_Pg_grow 10 = .ok (.dup, 1) := by decide +kernel
theorem d_Pg_grow_11 : decode b_Pg_grow 11 = .ok (.getfield 18, 3) := by decide +kernel
theorem d_Pg_grow_14 : decode b_Pg_grow 14 = .ok (.iconst 1, 1) := by decide +kernel
theorem d_Pg_grow_15 : decode b_Pg_grow 15 = .ok (.iadd, 1) := by decide +kernel
theorem d_Pg_grow_16 : decode b_Pg_grow 16 = .ok (.putfield 18, 3) := by decide +kernel
theorem d_Pg_grow_19 : decode b_Pg_grow 19 = .ok (.aload_n 0, 1) := by decide +kernel
theorem d_Pg_grow_20 : decode b_Pg_grow 20 = .ok (.getfield 18, 3) := by decide +kernel
theorem d_Pg_grow_23 : decode b_Pg_grow 23 = .ok (.iconst 1, 1) := by decide +kernel
theorem d_Pg_grow_24 : decode b_Pg_grow 24 = .ok (.isub, 1) := by decide +kernel
theorem d_Pg_grow_25 : decode b_Pg_grow 25 = .ok (.ireturn, 1) := by decide +kernel
theorem d_Pg_shorten_0 : decode b_Pg_shorten 0 = .ok (.aload_n 0, 1) := by decide +kernel
theorem d_Pg_shorten_1 : decode b_Pg_shorten 1 = .ok (.iload_n 1, 1) := by decide +kernel
theorem d_Pg_shorten_2 : decode b_Pg_shorten 2 = .ok (.putfield 18, 3) := by decide +kernel
theorem d_Pg_shorten_5 : decode b_Pg_shorten 5 = .ok (.return_, 1) := by decide +kernel
theorem d_Pg_write_0 : decode b_Pg_write 0 = .ok (.aload_n 0, 1) := by decide +kernel
theorem d_Pg_write_1 : decode b_Pg_write 1 = .ok (.iload_n 1, 1) := by decide +kernel
theorem d_Pg_write_2 : decode b_Pg_write 2 = .ok (.invokevirtual 26, 3) := by decide +kernel
theorem d_Pg_write_5 : decode b_Pg_write 5 = .ok (.astore 7, 2) := by decide +kernel
theorem d_Pg_write_7 : decode b_Pg_write 7 = .ok (.aload 7, 2) := by decide +kernel
theorem d_Pg_write_9 : decode b_Pg_write 9 = .ok (.ifnonnull 4, 3) := by decide +kernel
theorem d_Pg_write_12 : decode b_Pg_write 12 = .ok (.return_, 1) := by decide +kernel
theorem d_Pg_write_13 : decode b_Pg_write 13 = .ok (.aload 7, 2) := by decide +kernel
theorem d_Pg_write_15 : decode b_Pg_write 15 = .ok (.iload_n 2, 1) := by decide +kernel
theorem d_Pg_write_16 : decode b_Pg_write 16 = .ok (.putfield 30, 3) := by decide +kernel
theorem d_Pg_write_19 : decode b_Pg_write 19 = .ok (.aload 7, 2) := by decide +kernel
theorem d_Pg_write_21 : decode b_Pg_write 21 = .ok (.iload_n 3, 1) := by decide +kernel
theorem d_Pg_write_22 : decode b_Pg_write 22 = .ok (.putfield 33, 3) := by decide +kernel
theorem d_Pg_write_25 : decode b_Pg_write 25 = .ok (.aload 7, 2) := by decide +kernel
theorem d_Pg_write_27 : decode b_Pg_write 27 = .ok (.iload 4, 2) := by decide +kernel
theorem d_Pg_write_29 : decode b_Pg_write 29 = .ok (.putfield 36, 3) := by decide +kernel
theorem d_Pg_write_32 : decode b_Pg_write 32 = .ok (.aload 7, 2) := by decide +kernel
theorem d_Pg_write_34 : decode b_Pg_write 34 = .ok (.iload 5, 2) := by decide +kernel
theorem d_Pg_write_36 : decode b_Pg_write 36 = .ok (.putfield 39, 3) := by decide +kernel
theorem d_Pg_write_39 : decode b_Pg_write 39 = .ok (.aload 7, 2) := by decide +kernel
theorem d_Pg_write_41 : decode b_Pg_write 41 = .ok (.iload 6, 2) := by decide +kernel
theorem d_Pg_write_43 : decode b_Pg_write 43 = .ok (.putfield 42, 3) := by decide +kernel
theorem d_Pg_write_46 : decode b_Pg_write 46 = .ok (.return_, 1) := by decide +kernel
theorem d_Pg_stepAt_0 : decode b_Pg_stepAt 0 = .ok (.iload_n 1, 1) := by decide +kernel
theorem d_Pg_stepAt_1 : decode b_Pg_stepAt 1 = .ok (.ifCond .lt 26, 3) := by decide +kernel
theorem d_Pg_stepAt_4 : decode b_Pg_stepAt 4 = .ok (.iload_n 1, 1) := by decide +kernel
theorem d_Pg_stepAt_5 : decode b_Pg_stepAt 5 = .ok (.aload_n 0, 1) := by decide +kernel
theorem d_Pg_stepAt_6 : decode b_Pg_stepAt 6 = .ok (.getfield 18, 3) := by decide +kernel
theorem d_Pg_stepAt_9 : decode b_Pg_stepAt 9 = .ok (.if_icmp .ge 18, 3) := by decide +kernel
theorem d_Pg_stepAt_12 : decode b_Pg_stepAt 12 = .ok (.iload_n 1, 1) := by decide +kernel
theorem d_Pg_stepAt_13 : decode b_Pg_stepAt 13 = .ok (.bipush 24, 2) := by decide +kernel
theorem d_Pg_stepAt_15 : decode b_Pg_stepAt 15 = .ok (.if_icmp .ge 12, 3) := by decide +kernel
theorem d_Pg_stepAt_18 : decode b_Pg_stepAt 18 = .ok (.aload_n 0, 1) := by decide +kernel
theorem d_Pg_stepAt_19 : decode b_Pg_stepAt 19 = .ok (.getfield 11, 3) := by decide +kernel
theorem d_Pg_stepAt_22 : decode b_Pg_stepAt 22 = .ok (.iload_n 1, 1) := by decide +kernel
theorem d_Pg_stepAt_23 : decode b_Pg_stepAt 23 = .ok (.aaload, 1) := by decide +kernel
theorem d_Pg_stepAt_24 : decode b_Pg_stepAt 24 = .ok (.goto 4, 3) := by decide +kernel
theorem d_Pg_stepAt_27 : decode b_Pg_stepAt 27 = .ok (.aconst_null, 1) := by decide +kernel
theorem d_Pg_stepAt_28 : decode b_Pg_stepAt 28 = .ok (.areturn, 1) := by decide +kernel
theorem d_St_init_0 : decode b_St_init 0 = .ok (.aload_n 0, 1) := by decide +kernel
theorem d_St_init_1 : decode b_St_init 1 = .ok (.invokespecial 3, 3) := by decide +kernel
theorem d_St_init_4 : decode b_St_init 4 = .ok (.return_, 1) := by decide +kernel
theorem d_St_isCallOf_0 : decode b_St_isCallOf 0 = .ok (.aload_n 0, 1) := by decide +kernel
theorem d_St_isCallOf_1 : decode b_St_isCallOf 1 = .ok (.getfield 9, 3) := by decide +kernel
theorem d_St_isCallOf_4 : decode b_St_isCallOf 4 = .ok (.bipush 16, 2) := by decide +kernel
theorem d_St_isCallOf_6 : decode b_St_isCallOf 6 = .ok (.if_icmp .ne 15, 3) := by decide +kernel
theorem d_St_isCallOf_9 : decode b_St_isCallOf 9 = .ok (.aload_n 0, 1) := by decide +kernel
theorem d_St_isCallOf_10 : decode b_St_isCallOf 10 = .ok (.getfield 15, 3) := by decide +kernel
theorem d_St_isCallOf_13 : decode b_St_isCallOf 13 = .ok (.iload_n 1, 1) := by decide +kernel
theorem d_St_isCallOf_14 : decode b_St_isCallOf 14 = .ok (.if_icmp .ne 7, 3) := by decide +kernel
theorem d_St_isCallOf_17 : decode b_St_isCallOf 17 = .ok (.iconst 1, 1) := by decide +kernel
theorem d_St_isCallOf_18 : decode b_St_isCallOf 18 = .ok (.goto 4, 3) := by decide +kernel
theorem d_St_isCallOf_21 : decode b_St_isCallOf 21 = .ok (.iconst 0, 1) := by decide +kernel
theorem d_St_isCallOf_22 : decode b_St_isCallOf 22 = .ok (.ireturn, 1) := by decide +kernel
theorem d_St_mayJump_0 : decode b_St_mayJump 0 = .ok (.aload_n 0, 1) := by decide +kernel
theorem d_St_mayJump_1 : decode b_St_mayJump 1 = .ok (.getfield 9, 3) := by decide +kernel
theorem d_St_mayJump_4 : decode b_St_mayJump 4 = .ok (.bipush 10, 2) := by decide +kernel
theorem d_St_mayJump_6 : decode b_St_mayJump 6 = .ok (.if_icmp .lt 16, 3) := by decide +kernel
theorem d_St_mayJump_9 : decode b_St_mayJump 9 = .ok (.aload_n 0, 1) := by decide +kernel
theorem d_St_mayJump_10 : decode b_St_mayJump 10 = .ok (.getfield 9, 3) := by decide +kernel
theorem d_St_mayJump_13 : decode b_St_mayJump 13 = .ok (.bipush 13, 2) := by decide +kernel
theorem d_St_mayJump_15 : decode b_St_mayJump 15 = .ok (.if_icmp .gt 7, 3) := by decide +kernel
theorem d_St_mayJump_18 : decode b_St_mayJump 18 = .ok (.iconst 1, 1) := by decide +kernel
theorem d_St_mayJump_19 : decode b_St_mayJump 19 = .ok (.goto 4, 3) := by decide +kernel
theorem d_St_mayJump_22 : decode b_St_mayJump 22 = .ok (.iconst 0, 1) := by decide +kernel
theorem d_St_mayJump_23 : decode b_St_mayJump 23 = .ok (.ireturn, 1) := by decide +kernel
theorem d_St_usesD_0 : decode b_St_usesD 0 = .ok (.aload_n 0, 1) := by decide +kernel
theorem d_St_usesD_1 : decode b_St_usesD 1 = .ok (.getfield 9, 3) := by decide +kernel
theorem d_St_usesD_4 : decode b_St_usesD 4 = .ok (.iconst 2, 1) := by decide +kernel
theorem d_St_usesD_5 : decode b_St_usesD 5 = .ok (.if_icmp .lt 12, 3) := by decide +kernel
theorem d_St_usesD_8 : decode b_St_usesD 8 = .ok (.aload_n 0, 1) := by decide +kernel
theorem d_St_usesD_9 : decode b_St_usesD 9 = .ok (.getfield 9, 3) := by decide +kernel
theorem d_St_usesD_12 : decode b_St_usesD 12 = .ok (.bipush 12, 2) := by decide +kernel
theorem d_St_usesD_14 : decode b_St_usesD 14 = .ok (.if_icmp .le 12, 3) := by decide +kernel
theorem d_St_usesD_17 : decode b_St_usesD 17 = .ok (.aload_n 0, 1) := by decide +kernel
theorem d_St_usesD_18 : decode b_St_usesD 18 = .ok (.getfield 9, 3) := by decide +kernel
theorem d_St_usesD_21 : decode b_St_usesD 21 = .ok (.bipush 15, 2) := by decide +kernel
theorem d_St_usesD_23 : decode b_St_usesD 23 = .ok (.if_icmp .ne 7, 3) := by decide +kernel
theorem d_St_usesD_26 : decode b_St_usesD 26 = .ok (.iconst 1, 1) := by decide +kernel
theorem d_St_usesD_27 : decode b_St_usesD 27 = .ok (.goto 4, 3) := by decide +kernel
theorem d_St_usesD_30 : decode b_St_usesD 30 = .ok (.iconst 0, 1) := by decide +kernel
theorem d_St_usesD_31 : decode b_St_usesD 31 = .ok (.ireturn, 1) := by decide +kernel
theorem d_St_usesS_0 : decode b_St_usesS 0 = .ok (.aload_n 0, 1) := by decide +kernel
theorem d_St_usesS_1 : decode b_St_usesS 1 = .ok (.getfield 9, 3) := by decide +kernel
theorem d_St_usesS_4 : decode b_St_usesS 4 = .ok (.iconst 1, 1) := by decide +kernel
theorem d_St_usesS_5 : decode b_St_usesS 5 = .ok (.if_icmp .eq 46, 3) := by decide +kernel
theorem d_St_usesS_8 : decode b_St_usesS 8 = .ok (.aload_n 0, 1) := by decide +kernel
theorem d_St_usesS_9 : decode b_St_usesS 9 = .ok (.getfield 9, 3) := by decide +kernel
theorem d_St_usesS_12 : decode b_St_usesS 12 = .ok (.iconst 3, 1) := by decide +kernel
theorem d_St_usesS_13 : decode b_St_usesS 13 = .ok (.if_icmp .eq 38, 3) := by decide +kernel
theorem d_St_usesS_16 : decode b_St_usesS 16 = .ok (.aload_n 0, 1) := by decide +kernel
theorem d_St_usesS_17 : decode b_St_usesS 17 = .ok (.getfield 9, 3) := by decide +kernel
theorem d_St_usesS_20 : decode b_St_usesS 20 = .ok (.iconst 4, 1) := by decide +kernel
theorem d_St_usesS_21 : decode b_St_usesS 21 = .ok (.if_icmp .eq 30, 3) := by decide +kernel
theorem d_St_usesS_24 : decode b_St_usesS 24 = .ok (.aload_n 0, 1) := by decide +kernel
theorem d_St_usesS_25 : decode b_St_usesS 25 = .ok (.getfield 9, 3) := by decide +kernel
theorem d_St_usesS_28 : decode b_St_usesS 28 = .ok (.bipush 12, 2) := by decide +kernel
theorem d_St_usesS_30 : decode b_St_usesS 30 = .ok (.if_icmp .eq 21, 3) := by decide +kernel
theorem d_St_usesS_33 : decode b_St_usesS 33 = .ok (.aload_n 0, 1) := by decide +kernel
theorem d_St_usesS_34 : decode b_St_usesS 34 = .ok (.getfield 9, 3) := by decide +kernel
theorem d_St_usesS_37 : decode b_St_usesS 37 = .ok (.bipush 14, 2) := by decide +kernel
theorem d_St_usesS_39 : decode b_St_usesS 39 = .ok (.if_icmp .eq 12, 3) := by decide +kernel
theorem d_St_usesS_42 : decode b_St_usesS 42 = .ok (.aload_n 0, 1) := by decide +kernel
theorem d_St_usesS_43 : decode b_St_usesS 43 = .ok (.getfield 9, 3) := by decide +kernel
theorem d_St_usesS_46 : decode b_St_usesS 46 = .ok (.bipush 15, 2) := by decide +kernel
theorem d_St_usesS_48 : decode b_St_usesS 48 = .ok (.if_icmp .ne 7, 3) := by decide +kernel
theorem d_St_usesS_51 : decode b_St_usesS 51 = .ok (.iconst 1, 1) := by decide +kernel
theorem d_St_usesS_52 : decode b_St_usesS 52 = .ok (.goto 4, 3) := by decide +kernel
theorem d_St_usesS_55 : decode b_St_usesS 55 = .ok (.iconst 0, 1) := by decide +kernel
theorem d_St_usesS_56 : decode b_St_usesS 56 = .ok (.ireturn, 1) := by decide +kernel
end
section
theorem d_CM_init_0 : decode b_CM_init 0 = .ok (.aload_n 0, 1) := by decide +kernel
theorem d_CM_init_1 : decode b_CM_init 1 = .ok (.invokespecial 3, 3) := by decide +kernel
theorem d_CM_init_4 : decode b_CM_init 4 = .ok (.aload_n 0, 1) := by decide +kernel
theorem d_CM_init_5 : decode b_CM_init 5 = .ok (.new 9, 3) := by decide +kernel
theorem d_CM_init_8 : decode b_CM_init 8 = .ok (.dup, 1) := by decide +kernel
theorem d_CM_init_9 : decode b_CM_init 9 = .ok (.invokespecial 11, 3) := by decide +kernel
theorem d_CM_init_12 : decode b_CM_init 12 = .ok (.putfield 12, 3) := by decide +kernel
theorem d_CM_init_15 : decode b_CM_init 15 = .ok (.aload_n 0, 1) := by decide +kernel
theorem d_CM_init_16 : decode b_CM_init 16 = .ok (.new 16, 3) := by decide +kernel
theorem d_CM_init_19 : decode b_CM_init 19 = .ok (.dup, 1) := by decide +kernel
theorem d_CM_init_20 : decode b_CM_init 20 = .ok (.aload_n 0, 1) := by decide +kernel
theorem d_CM_init_21 : decode b_CM_init 21 = .ok (.getfield 12, 3) := by decide +kernel
theorem d_CM_init_24 : decode b_CM_init 24 = .ok (.invokespecial 18, 3) := by decide +kernel
theorem d_CM_init_27 : decode b_CM_init 27 = .ok (.putfield 21, 3) := by decide +kernel
theorem d_CM_init_30 : decode b_CM_init 30 = .ok (.aload_n 0, 1) := by decide +kernel
theorem d_CM_init_31 : decode b_CM_init 31 = .ok (.new 25, 3) := by decide +kernel
theorem d_CM_init_34 : decode b_CM_init 34 = .ok (.dup, 1) := by decide +kernel
theorem d_CM_init_35 : decode b_CM_init 35 = .ok (.aload_n 0, 1) := by decide +kernel
theorem d_CM_init_36 : decode b_CM_init 36 = .ok (.getfield 12, 3) := by decide +kernel
theorem d_CM_init_39 : decode b_CM_init 39 = .ok (.invokespecial 27, 3) := by decide +kernel
theorem d_CM_init_42 : decode b_CM_init 42 = .ok (.putfield 28, 3) := by decide +kernel
theorem d_CM_init_45 : decode b_CM_init 45 = .ok (.aload_n 0, 1) := by decide +kernel
theorem d_CM_init_46 : decode b_CM_init 46 = .ok (.iconst 0, 1) := by decide +kernel
theorem d_CM_init_47 : decode b_CM_init 47 = .ok (.putfield 32, 3) := by decide +kernel
theorem d_CM_init_50 : decode b_CM_init 50 = .ok (.return_, 1) := by decide +kernel
theorem d_CM_add_0 : decode b_CM_add 0 = .ok (.iload_n 1, 1) := by decide +kernel
theorem d_CM_add_1 : decode b_CM_add 1 = .ok (.iload_n 2, 1) := by decide +kernel
theorem d_CM_add_2 : decode b_CM_add 2 = .ok (.iload_n 3, 1) := by decide +kernel
theorem d_CM_add_3 : decode b_CM_add 3 = .ok (.iload 5, 2) := by decide +kernel
theorem d_CM_add_5 : decode b_CM_add 5 = .ok (.invokestatic 36, 3) := by decide +kernel
theorem d_CM_add_8 : decode b_CM_add 8 = .ok (.ifCond .ne 13, 3) := by decide +kernel
theorem d_CM_add_11 : decode b_CM_add 11 = .ok (.new 40, 3) := by decide +kernel
theorem d_CM_add_14 : decode b_CM_add 14 = .ok (.dup, 1) := by decide +kernel
theorem d_CM_add_15 : decode b_CM_add 15 = .ok (.ldc 42, 2) := by decide +kernel
theorem d_CM_add_17 : decode b_CM_add 17 = .ok (.invokespecial 44, 3) := by decide +kernel
theorem d_CM_add_20 : decode b_CM_add 20 = .ok (.athrow, 1) := by decide +kernel
theorem d_CM_add_21 : decode b_CM_add 21 = .ok (.aload_n 0, 1) := by decide +kernel
theorem d_CM_add_22 : decode b_CM_add 22 = .ok (.getfield 12, 3) := by decide +kernel
theorem d_CM_add_25 : decode b_CM_add 25 = .ok (.invokevirtual 47, 3) := by decide +kernel
theorem d_CM_add_28 : decode b_CM_add 28 = .ok (.bipush 24, 2) := by decide +kernel
theorem d_CM_add_30 : decode b_CM_add 30 = .ok (.if_icmp .lt 13, 3) := by decide +kernel
theorem d_CM_add_33 : decode b_CM_add 33 = .ok (.new 51, 3) := by decide +kernel
theorem d_CM_add_36 : decode b_CM_add 36 = .ok (.dup, 1) := by decide +kernel
theorem d_CM_add_37 : decode b_CM_add 37 = .ok (.ldc 53, 2) := by decide +kernel
theorem d_CM_add_39 : decode b_CM_add 39 = .ok (.invokespecial 55, 3) := by decide +kernel
theorem d_CM_add_42 : decode b_CM_add 42 = .ok (.athrow, 1) := by decide +kernel
theorem d_CM_add_43 : decode b_CM_add 43 = .ok (.aload_n 0, 1) := by decide +kernel
theorem d_CM_add_44 : decode b_CM_add 44 = .ok (.getfield 12, 3) := by decide +kernel
theorem d_CM_add_47 : decode b_CM_add 47 = .ok (.invokevirtual 56, 3) := by decide +kernel
theorem d_CM_add_50 : decode b_CM_add 50 = .ok (.istore 6, 2) := by decide +kernel
theorem d_CM_add_52 : decode b_CM_add 52 = .ok (.aload_n 0, 1) := by decide +kernel
theorem d_CM_add_53 : decode b_CM_add 53 = .ok (.getfield 12, 3) := by decide +kernel
theorem d_CM_add_56 : decode b_CM_add 56 = .ok (.iload 6, 2) := by decide +kernel
theorem d_CM_add_58 : decode b_CM_add 58 = .ok (.iload_n 1, 1) := by decide +kernel
theorem d_CM_add_59 : decode b_CM_add 59 = .ok (.iload_n 2, 1) := by decide +kernel
theorem d_CM_add_60 : decode b_CM_add 60 = .ok (.iload_n 3, 1) := by decide +kernel
theorem d_CM_add_61 : decode b_CM_add 61 = .ok (.iload 4, 2) := by decide +kernel
theorem d_CM_add_63 : decode b_CM_add 63 = .ok (.iload 5, 2) := by decide +kernel
theorem d_CM_add_65 : decode b_CM_add 65 = .ok (.invokevirtual 59, 3) := by decide +kernel
theorem d_CM_add_68 : decode b_CM_add 68 = .ok (.aload_n 0, 1) := by decide +kernel
theorem d_CM_add_69 : decode b_CM_add 69 = .ok (.iconst 0, 1) := by decide +kernel
theorem d_CM_add_70 : decode b_CM_add 70 = .ok (.putfield 32, 3) := by decide +kernel
theorem d_CM_add_73 : decode b_CM_add 73 = .ok (.iload 6, 2) := by decide +kernel
theorem d_CM_add_75 : decode b_CM_add 75 = .ok (.ireturn, 1) := by decide +kernel
theorem d_CM_put_0 : decode b_CM_put 0 = .ok (.iload_n 2, 1) := by decide +kernel
theorem d_CM_put_1 : decode b_CM_put 1 = .ok (.iload_n 3, 1) := by decide +kernel
theorem d_CM_put_2 : decode b_CM_put 2 = .ok (.iload 4, 2) := by decide +kernel
theorem d_CM_put_4 : decode b_CM_put 4 = .ok (.iload 6, 2) := by decide +kernel
theorem d_CM_put_6 : decode b_CM_put 6 = .ok (.invokestatic 36, 3) := by decide +kernel
theorem d_CM_put_9 : decode b_CM_put 9 = .ok (.ifCond .ne 13, 3) := by decide +kernel
theorem d_CM_put_12 : decode b_CM_put 12 = .ok (.new 40, 3) := by decide +kernel
theorem d_CM_put_15 : decode b_CM_put 15 = .ok (.dup, 1) := by decide +kernel
theorem d_CM_put_16 : decode b_CM_put 16 = .ok (.ldc 42, 2) := by decide +kernel
theorem d_CM_put_18 : decode b_CM_put 18 = .ok (.invokespecial 44, 3) := by decide +kernel
theorem d_CM_put_21 : decode b_CM_put 21 = .ok (.athrow, 1) := by decide +kernel
theorem d_CM_put_22 : decode b_CM_put 22 = .ok (.iload_n 1, 1) := by decide +kernel
theorem d_CM_put_23 : decode b_CM_put 23 = .ok (.ifCond .lt 14, 3) := by decide +kernel
theorem d_CM_put_26 : decode b_CM_put 26 = .ok (.iload_n 1, 1) := by decide +kernel
theorem d_CM_put_27 : decode b_CM_put 27 = .ok (.aload_n 0, 1) := by decide +kernel
theorem d_CM_put_28 : decode b_CM_put 28 = .ok (.getfield 12, 3) := by decide +kernel
theorem d_CM_put_31 : decode b_CM_put 31 = .ok (.invokevirtual 47, 3) := by decide +kernel
theorem d_CM_put_34 : decode b_CM_put 34 = .ok (.if_icmp .lt 13, 3) := by decide +kernel
theorem d_CM_put_37 : decode b_CM_put 37 = .ok (.new 63, 3) := by decide +kernel
theorem d_CM_put_40 : decode b_CM_put 40 = .ok (.dup, 1) := by decide +kernel
theorem d_CM_put_41 : decode b_CM_put 41 = .ok (.ldc 65, 2) := by decide +kernel
theorem d_CM_put_43 : decode b_CM_put 43 = .ok (.invokespecial 67, 3) := by decide +kernel
theorem d_CM_put_46 : decode b_CM_put 46 = .ok (.athrow, 1) := by decide +kernel
theorem d_CM_put_47 : decode b_CM_put 47 = .ok (.aload_n 0, 1) := by decide +kernel
theorem d_CM_put_48 : decode b_CM_put 48 = .ok (.getfield 12, 3) := by decide +kernel
theorem d_CM_put_51 : decode b_CM_put 51 = .ok (.iload_n 1, 1) := by decide +kernel
theorem d_CM_put_52 : decode b_CM_put 52 = .ok (.iload_n 2, 1) := by decide +kernel
theorem d_CM_put_53 : decode b_CM_put 53 = .ok (.iload_n 3, 1) := by decide +kernel
theorem d_CM_put_54 : decode b_CM_put 54 = .ok (.iload 4, 2) := by decide +kernel
theorem d_CM_put_56 : decode b_CM_put 56 = .ok (.iload 5, 2) := by decide +kernel
theorem d_CM_put_58 : decode b_CM_put 58 = .ok (.iload 6, 2) := by decide +kernel
theorem d_CM_put_60 : decode b_CM_put 60 = .ok (.invokevirtual 59, 3) := by decide +kernel
theorem d_CM_put_63 : decode b_CM_put 63 = .ok (.aload_n 0, 1) := by decide +kernel
theorem d_CM_put_64 : decode b_CM_put 64 = .ok (.iconst 0, 1) := by decide +kernel
theorem d_CM_put_65 : decode b_CM_put 65 = .ok (.putfield 32, 3) := by decide +kernel
theorem d_CM_put_68 : decode b_CM_put 68 = .ok (.return_, 1) := by decide +kernel
theorem d_CM_cut_0 : decode b_CM_cut 0 = .ok (.iload_n 1, 1) := by decide +kernel
theorem d_CM_cut_1 : decode b_CM_cut 1 = .ok (.ifCond .lt 14, 3) := by decide +kernel
theorem d_CM_cut_4 : decode b_CM_cut 4 = .ok (.iload_n 1, 1) := by decide +kernel
theorem d_CM_cut_5 : decode b_CM_cut 5 = .ok (.aload_n 0, 1) := by decide +kernel
theorem d_CM_cut_6 : decode b_CM_cut 6 = .ok (.getfield 12, 3) := by decide +kernel
theorem d_CM_cut_9 : decode b_CM_cut 9 = .ok (.invokevirtual 47, 3) := by decide +kernel
theorem d_CM_cut_12 : decode b_CM_cut 12 = .ok (.if_icmp .le 13, 3) := by decide +kernel
theorem d_CM_cut_15 : decode b_CM_cut 15 = .ok (.new 40, 3) := by decide +kernel
theorem d_CM_cut_18 : decode b_CM_cut 18 = .ok (.dup, 1) := by decide +kernel
theorem d_CM_cut_19 : decode b_CM_cut 19 = .ok (.ldc 68, 2) := by decide +kernel
theorem d_CM_cut_21 : decode b_CM_cut 21 = .ok (.invokespecial 44, 3) := by decide +kernel
theorem d_CM_cut_24 : decode b_CM_cut 24 = .ok (.athrow, 1) := by decide +kernel
theorem d_CM_cut_25 : decode b_CM_cut 25 = .ok (.aload_n 0, 1) := by decide +kernel
theorem d_CM_cut_26 : decode b_CM_cut 26 = .ok (.getfield 12, 3) := by decide +kernel
theorem d_CM_cut_29 : decode b_CM_cut 29 = .ok (.iload_n 1, 1) := by decide +kernel
theorem d_CM_cut_30 : decode b_CM_cut 30 = .ok (.invokevirtual 70, 3) := by decide +kernel
theorem d_CM_cut_33 : decode b_CM_cut 33 = .ok (.aload_n 0, 1) := by decide +kernel
theorem d_CM_cut_34 : decode b_CM_cut 34 = .ok (.iconst 0, 1) := by decide +kernel
theorem d_CM_cut_35 : decode b_CM_cut 35 = .ok (.putfield 32, 3) := by decide +kernel
theorem d_CM_cut_38 : decode b_CM_cut 38 = .ok (.return_, 1) := by decide +kernel
theorem d_CM_check_0 : decode b_CM_check 0 = .ok (.aload_n 0, 1) := by decide +kernel
theorem d_CM_check_1 : decode b_CM_check 1 = .ok (.getfield 21, 3) := by decide +kernel
theorem d_CM_check_4 : decode b_CM_check 4 = .ok (.invokevirtual 74, 3) := by decide +kernel
theorem d_CM_check_7 : decode b_CM_check 7 = .ok (.istore_n 1, 1) := by decide +kernel
theorem d_CM_check_8 : decode b_CM_check 8 = .ok (.aload_n 0, 1) := by decide +kernel
theorem d_CM_check_9 : decode b_CM_check 9 = .ok (.iload_n 1, 1) := by decide +kernel
theorem d_CM_check_10 : decode b_CM_check 10 = .ok (.ifCond .ne 7, 3) := by decide +kernel
theorem d_CM_check_13 : decode b_CM_check 13 = .ok (.iconst 1, 1) := by decide +kernel
theorem d_CM_check_14 : decode b_CM_check 14 = .ok (.goto 4, 3) := by decide +kernel
theorem d_CM_check_17 : decode b_CM_check 17 = .ok (.iconst 0, 1) := by decide +kernel
theorem d_CM_check_18 : decode b_CM_check 18 = .ok (.putfield 32, 3) := by decide +kernel
theorem d_CM_check_21 : decode b_CM_check 21 = .ok (.iload_n 1, 1) := by decide +kernel
theorem d_CM_check_22 : decode b_CM_check 22 = .ok (.iconst 1, 1) := by decide +kernel
theorem d_CM_check_23 : decode b_CM_check 23 = .ok (.if_icmp .ne 13, 3) := by decide +kernel
theorem d_CM_check_26 : decode b_CM_check 26 = .ok (.new 40, 3) := by decide +kernel
theorem d_CM_check_29 : decode b_CM_check 29 = .ok (.dup, 1) := by decide +kernel
theorem d_CM_check_30 : decode b_CM_check 30 = .ok (.ldc 77, 2) := by decide +kernel
theorem d_CM_check_32 : decode b_CM_check 32 = .ok (.invokespecial 44, 3) := by decide +kernel
theorem d_CM_check_35 : decode b_CM_check 35 = .ok (.athrow, 1) := by decide +kernel
theorem d_CM_check_36 : decode b_CM_check 36 = .ok (.iload_n 1, 1) := by decide +kernel
theorem d_CM_check_37 : decode b_CM_check 37 = .ok (.iconst 2, 1) := by decide +kernel
theorem d_CM_check_38 : decode b_CM_check 38 = .ok (.if_icmp .ne 13, 3) := by decide +kernel
theorem d_CM_check_41 : decode b_CM_check 41 = .ok (.new 79, 3) := by decide +kernel
theorem d_CM_check_44 : decode b_CM_check 44 = .ok (.dup, 1) := by decide +kernel
theorem d_CM_check_45 : decode b_CM_check 45 = .ok (.ldc 81, 2) := by decide +kernel
theorem d_CM_check_47 : decode b_CM_check 47 = .ok (.invokespecial 83, 3) := by decide +kernel
theorem d_CM_check_50 : decode b_CM_check 50 = .ok (.athrow, 1) := by decide +kernel
theorem d_CM_check_51 : decode b_CM_check 51 = .ok (.aload_n 0, 1) := by decide +kernel
theorem d_CM_check_52 : decode b_CM_check 52 = .ok (.getfield 21, 3) := by decide +kernel
theorem d_CM_check_55 : decode b_CM_check 55 = .ok (.invokevirtual 84, 3) := by decide +kernel
theorem d_CM_check_58 : decode b_CM_check 58 = .ok (.ireturn, 1) := by decide +kernel
theorem d_CM_run_0 : decode b_CM_run 0 = .ok (.aload_n 0, 1) := by decide +kernel
theorem d_CM_run_1 : decode b_CM_run 1 = .ok (.getfield 32, 3) := by decide +kernel
theorem d_CM_run_4 : decode b_CM_run 4 = .ok (.ifCond .ne 13, 3) := by decide +kernel
theorem d_CM_run_7 : decode b_CM_run 7 = .ok (.new 51, 3) := by decide +kernel
theorem d_CM_run_10 : decode b_CM_run 10 = .ok (.dup, 1) := by decide +kernel
theorem d_CM_run_11 : decode b_CM_run 11 = .ok (.ldc 87, 2) := by decide +kernel
theorem d_CM_run_13 : decode b_CM_run 13 = .ok (.invokespecial 55, 3) := by decide +kernel
theorem d_CM_run_16 : decode b_CM_run 16 = .ok (.athrow, 1) := by decide +kernel
theorem d_CM_run_17 : decode b_CM_run 17 = .ok (.aload_n 0, 1) := by decide +kernel
theorem d_CM_run_18 : decode b_CM_run 18 = .ok (.getfield 28, 3) := by decide +kernel
theorem d_CM_run_21 : decode b_CM_run 21 = .ok (.lload_n 1, 1) := by decide +kernel
theorem d_CM_run_22 : decode b_CM_run 22 = .ok (.invokevirtual 89, 3) := by decide +kernel
theorem d_CM_run_25 : decode b_CM_run 25 = .ok (.lreturn, 1) := by decide +kernel
theorem d_CM_row_0 : decode b_CM_row 0 = .ok (.iload_n 1, 1) := by decide +kernel
theorem d_CM_row_1 : decode b_CM_row 1 = .ok (.iload_n 2, 1) := by decide +kernel
theorem d_CM_row_2 : decode b_CM_row 2 = .ok (.invokestatic 93, 3) := by decide +kernel
theorem d_CM_row_5 : decode b_CM_row 5 = .ok (.ifCond .ne 13, 3) := by decide +kernel
theorem d_CM_row_8 : decode b_CM_row 8 = .ok (.new 40, 3) := by decide +kernel
theorem d_CM_row_11 : decode b_CM_row 11 = .ok (.dup, 1) := by decide +kernel
theorem d_CM_row_12 : decode b_CM_row 12 = .ok (.ldc 97, 2) := by decide +kernel
theorem d_CM_row_14 : decode b_CM_row 14 = .ok (.invokespecial 44, 3) := by decide +kernel
theorem d_CM_row_17 : decode b_CM_row 17 = .ok (.athrow, 1) := by decide +kernel
theorem d_CM_row_18 : decode b_CM_row 18 = .ok (.aload_n 0, 1) := by decide +kernel
theorem d_CM_row_19 : decode b_CM_row 19 = .ok (.getfield 28, 3) := by decide +kernel
theorem d_CM_row_22 : decode b_CM_row 22 = .ok (.iload_n 1, 1) := by decide +kernel
theorem d_CM_row_23 : decode b_CM_row 23 = .ok (.iload_n 2, 1) := by decide +kernel
theorem d_CM_row_24 : decode b_CM_row 24 = .ok (.invokevirtual 99, 3) := by decide +kernel
theorem d_CM_row_27 : decode b_CM_row 27 = .ok (.lreturn, 1) := by decide +kernel
theorem d_CM_fill_0 : decode b_CM_fill 0 = .ok (.iload_n 1, 1) := by decide +kernel
theorem d_CM_fill_1 : decode b_CM_fill 1 = .ok (.iload_n 2, 1) := by decide +kernel
theorem d_CM_fill_2 : decode b_CM_fill 2 = .ok (.invokestatic 93, 3) := by decide +kernel
theorem d_CM_fill_5 : decode b_CM_fill 5 = .ok (.ifCond .ne 13, 3) := by decide +kernel
theorem d_CM_fill_8 : decode b_CM_fill 8 = .ok (.new 40, 3) := by decide +kernel
theorem d_CM_fill_11 : decode b_CM_fill 11 = .ok (.dup, 1) := by decide +kernel
theorem d_CM_fill_12 : decode b_CM_fill 12 = .ok (.ldc 97, 2) := by decide +kernel
theorem d_CM_fill_14 : decode b_CM_fill 14 = .ok (.invokespecial 44, 3) := by decide +kernel
theorem d_CM_fill_17 : decode b_CM_fill 17 = .ok (.athrow, 1) := by decide +kernel
theorem d_CM_fill_18 : decode b_CM_fill 18 = .ok (.aload_n 0, 1) := by decide +kernel
theorem d_CM_fill_19 : decode b_CM_fill 19 = .ok (.getfield 28, 3) := by decide +kernel
theorem d_CM_fill_22 : decode b_CM_fill 22 = .ok (.iload_n 1, 1) := by decide +kernel
theorem d_CM_fill_23 : decode b_CM_fill 23 = .ok (.iload_n 2, 1) := by decide +kernel
theorem d_CM_fill_24 : decode b_CM_fill 24 = .ok (.lload_n 3, 1) := by decide +kernel
theorem d_CM_fill_25 : decode b_CM_fill 25 = .ok (.invokevirtual 103, 3) := by decide +kernel
theorem d_CM_fill_28 : decode b_CM_fill 28 = .ok (.return_, 1) := by decide +kernel
theorem d_CM_outcome_0 : decode b_CM_outcome 0 = .ok (.aload_n 0, 1) := by decide +kernel
theorem d_CM_outcome_1 : decode b_CM_outcome 1 = .ok (.getfield 32, 3) := by decide +kernel
theorem d_CM_outcome_4 : decode b_CM_outcome 4 = .ok (.ifCond .ne 13, 3) := by decide +kernel
theorem d_CM_outcome_7 : decode b_CM_outcome 7 = .ok (.new 51, 3) := by decide +kernel
theorem d_CM_outcome_10 : decode b_CM_outcome 10 = .ok (.dup, 1) := by decide +kernel
theorem d_CM_outcome_11 : decode b_CM_outcome 11 = .ok (.ldc 87, 2) := by decide +kernel
theorem d_CM_outcome_13 : decode b_CM_outcome 13 = .ok (.invokespecial 55, 3) := by decide +kernel
theorem d_CM_outcome_16 : decode b_CM_outcome 16 = .ok (.athrow, 1) := by decide +kernel
theorem d_CM_outcome_17 : decode b_CM_outcome 17 = .ok (.iload_n 1, 1) := by decide +kernel
theorem d_CM_outcome_18 : decode b_CM_outcome 18 = .ok (.ifCond .eq 13, 3) := by decide +kernel
theorem d_CM_outcome_21 : decode b_CM_outcome 21 = .ok (.aload_n 0, 1) := by decide +kernel
theorem d_CM_outcome_22 : decode b_CM_outcome 22 = .ok (.getfield 21, 3) := by decide +kernel
theorem d_CM_outcome_25 : decode b_CM_outcome 25 = .ok (.invokevirtual 107, 3) := by decide +kernel
theorem d_CM_outcome_28 : decode b_CM_outcome 28 = .ok (.goto 10, 3) := by decide +kernel
theorem d_CM_outcome_31 : decode b_CM_outcome 31 = .ok (.aload_n 0, 1) := by decide +kernel
theorem d_CM_outcome_32 : decode b_CM_outcome 32 = .ok (.getfield 21, 3) := by decide +kernel
theorem d_CM_outcome_35 : decode b_CM_outcome 35 = .ok (.invokevirtual 111, 3) := by decide +kernel
theorem d_CM_outcome_38 : decode b_CM_outcome 38 = .ok (.lreturn, 1) := by decide +kernel
theorem d_CM_count_0 : decode b_CM_count 0 = .ok (.iload_n 1, 1) := by decide +kernel
theorem d_CM_count_1 : decode b_CM_count 1 = .ok (.tableswitch 104 0 6 #[43, 51, 64, 72, 80, 88, 96], 43) := by decide +kernel
theorem d_CM_count_44 : decode b_CM_count 44 = .ok (.aload_n 0, 1) := by decide +kernel
theorem d_CM_count_45 : decode b_CM_count 45 = .ok (.getfield 12, 3) := by decide +kernel
theorem d_CM_count_48 : decode b_CM_count 48 = .ok (.invokevirtual 47, 3) := by decide +kernel
theorem d_CM_count_51 : decode b_CM_count 51 = .ok (.ireturn, 1) := by decide +kernel
theorem d_CM_count_52 : decode b_CM_count 52 = .ok (.aload_n 0, 1) := by decide +kernel
theorem d_CM_count_53 : decode b_CM_count 53 = .ok (.getfield 32, 3) := by decide +kernel
theorem d_CM_count_56 : decode b_CM_count 56 = .ok (.ifCond .eq 7, 3) := by decide +kernel
theorem d_CM_count_59 : decode b_CM_count 59 = .ok (.iconst 1, 1) := by decide +kernel
theorem d_CM_count_60 : decode b_CM_count 60 = .ok (.goto 4, 3) := by decide +kernel
theorem d_CM_count_63 : decode b_CM_count 63 = .ok (.iconst 0, 1) := by decide +kernel
theorem d_CM_count_64 : decode b_CM_count 64 = .ok (.ireturn, 1) := by decide +kernel
theorem d_CM_count_65 : decode b_CM_count 65 = .ok (.aload_n 0, 1) := by decide +kernel
theorem d_CM_count_66 : decode b_CM_count 66 = .ok (.getfield 21, 3) := by decide +kernel
theorem d_CM_count_69 : decode b_CM_count 69 = .ok (.invokevirtual 114, 3) := by decide +kernel
theorem d_CM_count_72 : decode b_CM_count 72 = .ok (.ireturn, 1) := by decide +kernel
theorem d_CM_count_73 : decode b_CM_count 73 = .ok (.aload_n 0, 1) := by decide +kernel
theorem d_CM_count_74 : decode b_CM_count 74 = .ok (.getfield 21, 3) := by decide +kernel
theorem d_CM_count_77 : decode b_CM_count 77 = .ok (.invokevirtual 117, 3) := by decide +kernel
theorem d_CM_count_80 : decode b_CM_count 80 = .ok (.ireturn, 1) := by decide +kernel
theorem d_CM_count_81 : decode b_CM_count 81 = .ok (.aload_n 0, 1) := by decide +kernel
theorem d_CM_count_82 : decode b_CM_count 82 = .ok (.getfield 21, 3) := by decide +kernel
theorem d_CM_count_85 : decode b_CM_count 85 = .ok (.invokevirtual 84, 3) := by decide +kernel
theorem d_CM_count_88 : decode b_CM_count 88 = .ok (.ireturn, 1) := by decide +kernel
theorem d_CM_count_89 : decode b_CM_count 89 = .ok (.aload_n 0, 1) := by decide +kernel
theorem d_CM_count_90 : decode b_CM_count 90 = .ok (.getfield 28, 3) := by decide +kernel
theorem d_CM_count_93 : decode b_CM_count 93 = .ok (.invokevirtual 120, 3) := by decide +kernel
theorem d_CM_count_96 : decode b_CM_count 96 = .ok (.ireturn, 1) := by decide +kernel
theorem d_CM_count_97 : decode b_CM_count 97 = .ok (.aload_n 0, 1) := by decide +kernel
theorem d_CM_count_98 : decode b_CM_count 98 = .ok (.getfield 28, 3) := by decide +kernel
theorem d_CM_count_101 : decode b_CM_count 101 = .ok (.invokevirtual 123, 3) := by decide +kernel
theorem d_CM_count_104 : decode b_CM_count 104 = .ok (.ireturn, 1) := by decide +kernel
theorem d_CM_count_105 : decode b_CM_count 105 = .ok (.iconst (-1), 1) := by decide +kernel
theorem d_CM_count_106 : decode b_CM_count 106 = .ok (.ireturn, 1) := by decide +kernel
theorem d_CM_isInMap_0 : decode b_CM_isInMap 0 = .ok (.iload_n 0, 1) := by decide +kernel
theorem d_CM_isInMap_1 : decode b_CM_isInMap 1 = .ok (.ifCond .lt 22, 3) := by decide +kernel
theorem d_CM_isInMap_4 : decode b_CM_isInMap 4 = .ok (.iload_n 0, 1) := by decide +kernel
theorem d_CM_isInMap_5 : decode b_CM_isInMap 5 = .ok (.bipush 6, 2) := by decide +kernel
theorem d_CM_isInMap_7 : decode b_CM_isInMap 7 = .ok (.if_icmp .ge 16, 3) := by decide +kernel
theorem d_CM_isInMap_10 : decode b_CM_isInMap 10 = .ok (.iload_n 1, 1) := by decide +kernel
theorem d_CM_isInMap_11 : decode b_CM_isInMap 11 = .ok (.ifCond .lt 12, 3) := by decide +kernel
theorem d_CM_isInMap_14 : decode b_CM_isInMap 14 = .ok (.iload_n 1, 1) := by decide +kernel
theorem d_CM_isInMap_15 : decode b_CM_isInMap 15 = .ok (.iconst 2, 1) := by decide +kernel
theorem d_CM_isInMap_16 : decode b_CM_isInMap 16 = .ok (.if_icmp .ge 7, 3) := by decide +kernel
theorem d_CM_isInMap_19 : decode b_CM_isInMap 19 = .ok (.iconst 1, 1) := by decide +kernel
theorem d_CM_isInMap_20 : decode b_CM_isInMap 20 = .ok (.goto 4, 3) := by decide +kernel
theorem d_CM_isInMap_23 : decode b_CM_isInMap 23 = .ok (.iconst 0, 1) := by decide +kernel
theorem d_CM_isInMap_24 : decode b_CM_isInMap 24 = .ok (.ireturn, 1) := by decide +kernel
theorem d_Ck_init_0 : decode b_Ck_init 0 = .ok (.aload_n 0, 1) := by decide +kernel
theorem d_Ck_init_1 : decode b_Ck_init 1 = .ok (.invokespecial 3, 3) := by decide +kernel
theorem d_Ck_init_4 : decode b_Ck_init 4 = .ok (.aload_n 0, 1) := by decide +kernel
theorem d_Ck_init_5 : decode b_Ck_init 5 = .ok (.aload_n 1, 1) := by decide +kernel
theorem d_Ck_init_6 : decode b_Ck_init 6 = .ok (.putfield 9, 3) := by decide +kernel
theorem d_Ck_init_9 : decode b_Ck_init 9 = .ok (.aload_n 0, 1) := by decide +kernel
theorem d_Ck_init_10 : decode b_Ck_init 10 = .ok (.new 15, 3) := by decide +kernel
theorem d_Ck_init_13 : decode b_Ck_init 13 = .ok (.dup, 1) := by decide +kernel
theorem d_Ck_init_14 : decode b_Ck_init 14 = .ok (.invokespecial 17, 3) := by decide +kernel
theorem d_Ck_init_17 : decode b_Ck_init 17 = .ok (.putfield 18, 3) := by decide +kernel
theorem d_Ck_init_20 : decode b_Ck_init 20 = .ok (.aload_n 0, 1) := by decide +kernel
theorem d_Ck_init_21 : decode b_Ck_init 21 = .ok (.new 22, 3) := by decide +kernel
theorem d_Ck_init_24 : decode b_Ck_init 24 = .ok (.dup, 1) := by decide +kernel
theorem d_Ck_init_25 : decode b_Ck_init 25 = .ok (.aload_n 1, 1) := by decide +kernel
theorem d_Ck_init_26 : decode b_Ck_init 26 = .ok (.aload_n 0, 1) := by decide +kernel
theorem d_Ck_init_27 : decode b_Ck_init 27 = .ok (.getfield 18, 3) := by decide +kernel
theorem d_Ck_init_30 : decode b_Ck_init 30 = .ok (.invokespecial 24, 3) := by decide +kernel
theorem d_Ck_init_33 : decode b_Ck_init 33 = .ok (.putfield 27, 3) := by decide +kernel
theorem d_Ck_init_36 : decode b_Ck_init 36 = .ok (.aload_n 0, 1) := by decide +kernel
theorem d_Ck_init_37 : decode b_Ck_init 37 = .ok (.new 31, 3) := by decide +kernel
theorem d_Ck_init_40 : decode b_Ck_init 40 = .ok (.dup, 1) := by decide +kernel
theorem d_Ck_init_41 : decode b_Ck_init 41 = .ok (.aload_n 0, 1) := by decide +kernel
theorem d_Ck_init_42 : decode b_Ck_init 42 = .ok (.getfield 18, 3) := by decide +kernel
theorem d_Ck_init_45 : decode b_Ck_init 45 = .ok (.invokespecial 33, 3) := by decide +kernel
theorem d_Ck_init_48 : decode b_Ck_init 48 = .ok (.putfield 36, 3) := by decide +kernel
theorem d_Ck_init_51 : decode b_Ck_init 51 = .ok (.aload_n 0, 1) := by decide +kernel
theorem d_Ck_init_52 : decode b_Ck_init 52 = .ok (.bipush 24, 2) := by decide +kernel
theorem d_Ck_init_54 : decode b_Ck_init 54 = .ok (.anewarray 15, 3) := by decide +kernel
theorem d_Ck_init_57 : decode b_Ck_init 57 = .ok (.putfield 40, 3) := by decide +kernel
theorem d_Ck_init_60 : decode b_Ck_init 60 = .ok (.iconst 0, 1) := by decide +kernel
theorem d_Ck_init_61 : decode b_Ck_init 61 = .ok (.istore_n 2, 1) := by decide +kernel
theorem d_Ck_init_62 : decode b_Ck_init 62 = .ok (.iload_n 2, 1) := by decide +kernel
theorem d_Ck_init_63 : decode b_Ck_init 63 = .ok (.bipush 24, 2) := by decide +kernel
theorem d_Ck_init_65 : decode b_Ck_init 65 = .ok (.if_icmp .ge 22, 3) := by decide +kernel
theorem d_Ck_init_68 : decode b_Ck_init 68 = .ok (.aload_n 0, 1) := by decide +kernel
theorem d_Ck_init_69 : decode b_Ck_init 69 = .ok (.getfield 40, 3) := by decide +kernel
theorem d_Ck_init_72 : decode b_Ck_init 72 = .ok (.iload_n 2, 1) := by decide +kernel
theorem d_Ck_init_73 : decode b_Ck_init 73 = .ok (.new 15, 3) := by decide +kernel
theorem d_Ck_init_76 : decode b_Ck_init 76 = .ok (.dup, 1) := by decide +kernel
theorem d_Ck_init_77 : decode b_Ck_init 77 = .ok (.invokespecial 17, 3) := by decide +kernel
theorem d_Ck_init_80 : decode b_Ck_init 80 = .ok (.aastore, 1) := by decide +kernel
theorem d_Ck_init_81 : decode b_Ck_init 81 = .ok (.iinc 2 1, 3) := by decide +kernel
theorem d_Ck_init_84 : decode b_Ck_init 84 = .ok (.goto (-22), 3) := by decide +kernel
theorem d_Ck_init_87 : decode b_Ck_init 87 = .ok (.aload_n 0, 1) := by decide +kernel
theorem d_Ck_init_88 : decode b_Ck_init 88 = .ok (.bipush 24, 2) := by decide +kernel
theorem d_Ck_init_90 : decode b_Ck_init 90 = .ok (.newarray .boolean, 2) := by decide +kernel
theorem d_Ck_init_92 : decode b_Ck_init 92 = .ok (.putfield 44, 3) := by decide +kernel
theorem d_Ck_init_95 : decode b_Ck_init 95 = .ok (.return_, 1) := by decide +kernel
theorem d_Ck_looked_0 : decode b_Ck_looked 0 = .ok (.aload_n 0, 1) := by decide +kernel
theorem d_Ck_looked_1 : decode b_Ck_looked 1 = .ok (.getfield 48, 3) := by decide +kernel
theorem d_Ck_looked_4 : decode b_Ck_looked 4 = .ok (.ireturn, 1) := by decide +kernel
theorem d_Ck_reason_0 : decode b_Ck_reason 0 = .ok (.aload_n 0, 1) := by decide +kernel
theorem d_Ck_reason_1 : decode b_Ck_reason 1 = .ok (.getfield 52, 3) := by decide +kernel
theorem d_Ck_reason_4 : decode b_Ck_reason 4 = .ok (.ireturn, 1) := by decide +kernel
theorem d_Ck_rejectedAt_0 : decode b_Ck_rejectedAt 0 = .ok (.aload_n 0, 1) := by decide +kernel
theorem d_Ck_rejectedAt_1 : decode b_Ck_rejectedAt 1 = .ok (.getfield 55, 3) := by decide +kernel
theorem d_Ck_rejectedAt_4 : decode b_Ck_rejectedAt 4 = .ok (.ireturn, 1) := by decide +kernel
theorem d_Ck_least_0 : decode b_Ck_least 0 = .ok (.aload_n 0, 1) := by decide +kernel
theorem d_Ck_least_1 : decode b_Ck_least 1 = .ok (.getfield 58, 3) := by decide +kernel
theorem d_Ck_least_4 : decode b_Ck_least 4 = .ok (.lreturn, 1) := by decide +kernel
theorem d_Ck_greatest_0 : decode b_Ck_greatest 0 = .ok (.aload_n 0, 1) := by decide +kernel
theorem d_Ck_greatest_1 : decode b_Ck_greatest 1 = .ok (.getfield 62, 3) := by decide +kernel
theorem d_Ck_greatest_4 : decode b_Ck_greatest 4 = .ok (.lreturn, 1) := by decide +kernel
theorem d_Ck_goDownAllWays_0 : decode b_Ck_goDownAllWays 0 = .ok (.aload_n 0, 1) := by decide +kernel
theorem d_Ck_goDownAllWays_1 : decode b_Ck_goDownAllWays 1 = .ok (.invokevirtual 65, 3) := by decide +kernel
theorem d_Ck_goDownAllWays_4 : decode b_Ck_goDownAllWays 4 = .ok (.iconst 0, 1) := by decide +kernel
theorem d_Ck_goDownAllWays_5 : decode b_Ck_goDownAllWays 5 = .ok (.istore_n 1, 1) := by decide +kernel
theorem d_Ck_goDownAllWays_6 : decode b_Ck_goDownAllWays 6 = .ok (.iconst 0, 1) := by decide +kernel
theorem d_Ck_goDownAllWays_7 : decode b_Ck_goDownAllWays 7 = .ok (.istore_n 2, 1) := by decide +kernel
theorem d_Ck_goDownAllWays_8 : decode b_Ck_goDownAllWays 8 = .ok (.iload_n 2, 1) := by decide +kernel
theorem d_Ck_goDownAllWays_9 : decode b_Ck_goDownAllWays 9 = .ok (.sipush 300, 3) := by decide +kernel
theorem d_Ck_goDownAllWays_12 : decode b_Ck_goDownAllWays 12 = .ok (.if_icmp .ge 30, 3) := by decide +kernel
theorem d_Ck_goDownAllWays_15 : decode b_Ck_goDownAllWays 15 = .ok (.iload_n 1, 1) := by decide +kernel
theorem d_Ck_goDownAllWays_16 : decode b_Ck_goDownAllWays 16 = .ok (.iconst (-1), 1) := by decide +kernel
theorem d_Ck_goDownAllWays_17 : decode b_Ck_goDownAllWays 17 = .ok (.if_icmp .eq 25, 3) := by decide +kernel
theorem d_Ck_goDownAllWays_20 : decode b_Ck_goDownAllWays 20 = .ok (.aload_n 0, 1) := by decide +kernel
theorem d_Ck_goDownAllWays_21 : decode b_Ck_goDownAllWays 21 = .ok (.dup, 1) := by decide +kernel
theorem d_Ck_goDownAllWays_22 : decode b_Ck_goDownAllWays 22 = .ok (.getfield 48, 3) := by decide +kernel
theorem d_Ck_goDownAllWays_25 : decode b_Ck_goDownAllWays 25 = .ok (.iconst 1, 1) := by decide +kernel
theorem d_Ck_goDownAllWays_26 : decode b_Ck_goDownAllWays 26 = .ok (.iadd, 1) := by decide +kernel
theorem d_Ck_goDownAllWays_27 : decode b_Ck_goDownAllWays 27 = .ok (.putfield 48, 3) := by decide +kernel
theorem d_Ck_goDownAllWays_30 : decode b_Ck_goDownAllWays 30 = .ok (.aload_n 0, 1) := by decide +kernel
theorem d_Ck_goDownAllWays_31 : decode b_Ck_goDownAllWays 31 = .ok (.iload_n 1, 1) := by decide +kernel
theorem d_Ck_goDownAllWays_32 : decode b_Ck_goDownAllWays 32 = .ok (.invokevirtual 68, 3) := by decide +kernel
theorem d_Ck_goDownAllWays_35 : decode b_Ck_goDownAllWays 35 = .ok (.istore_n 1, 1) := by decide +kernel
theorem d_Ck_goDownAllWays_36 : decode b_Ck_goDownAllWays 36 = .ok (.iinc 2 1, 3) := by decide +kernel
theorem d_Ck_goDownAllWays_39 : decode b_Ck_goDownAllWays 39 = .ok (.goto (-31), 3) := by decide +kernel
theorem d_Ck_goDownAllWays_42 : decode b_Ck_goDownAllWays 42 = .ok (.iload_n 1, 1) := by decide +kernel
theorem d_Ck_goDownAllWays_43 : decode b_Ck_goDownAllWays 43 = .ok (.iconst (-1), 1) := by decide +kernel
theorem d_Ck_goDownAllWays_44 : decode b_Ck_goDownAllWays 44 = .ok (.if_icmp .eq 8, 3) := by decide +kernel
theorem d_Ck_goDownAllWays_47 : decode b_Ck_goDownAllWays 47 = .ok (.aload_n 0, 1) := by decide +kernel
theorem d_Ck_goDownAllWays_48 : decode b_Ck_goDownAllWays 48 = .ok (.iconst 2, 1) := by decide +kernel
theorem d_Ck_goDownAllWays_49 : decode b_Ck_goDownAllWays 49 = .ok (.putfield 72, 3) := by decide +kernel
theorem d_Ck_goDownAllWays_52 : decode b_Ck_goDownAllWays 52 = .ok (.aload_n 0, 1) := by decide +kernel
theorem d_Ck_goDownAllWays_53 : decode b_Ck_goDownAllWays 53 = .ok (.getfield 72, 3) := by decide +kernel
theorem d_Ck_goDownAllWays_56 : decode b_Ck_goDownAllWays 56 = .ok (.ireturn, 1) := by decide +kernel
theorem d_Ck_begin_0 : decode b_Ck_begin 0 = .ok (.aload_n 0, 1) := by decide +kernel
theorem d_Ck_begin_1 : decode b_Ck_begin 1 = .ok (.getfield 18, 3) := by decide +kernel
theorem d_Ck_begin_4 : decode b_Ck_begin 4 = .ok (.invokevirtual 75, 3) := by decide +kernel
theorem d_Ck_begin_7 : decode b_Ck_begin 7 = .ok (.iconst 0, 1) := by decide +kernel
theorem d_Ck_begin_8 : decode b_Ck_begin 8 = .ok (.istore_n 1, 1) := by decide +kernel
theorem d_Ck_begin_9 : decode b_Ck_begin 9 = .ok (.iload_n 1, 1) := by decide +kernel
theorem d_Ck_begin_10 : decode b_Ck_begin 10 = .ok (.bipush 24, 2) := by decide +kernel
theorem d_Ck_begin_12 : decode b_Ck_begin 12 = .ok (.if_icmp .ge 16, 3) := by decide +kernel
theorem d_Ck_begin_15 : decode b_Ck_begin 15 = .ok (.aload_n 0, 1) := by decide +kernel
theorem d_Ck_begin_16 : decode b_Ck_begin 16 = .ok (.getfield 44, 3) := by decide +kernel
theorem d_Ck_begin_19 : decode b_Ck_begin 19 = .ok (.iload_n 1, 1) := by decide +kernel
theorem d_Ck_begin_20 : decode b_Ck_begin 20 = .ok (.iconst 0, 1) := by decide +kernel
theorem d_Ck_begin_21 : decode b_Ck_begin 21 = .ok (.bastore, 1) := by decide +kernel
theorem d_Ck_begin_22 : decode b_Ck_begin 22 = .ok (.iinc 1 1, 3) := by decide +kernel
theorem d_Ck_begin_25 : decode b_Ck_begin 25 = .ok (.goto (-16), 3) := by decide +kernel
theorem d_Ck_begin_28 : decode b_Ck_begin 28 = .ok (.aload_n 0, 1) := by decide +kernel
theorem d_Ck_begin_29 : decode b_Ck_begin 29 = .ok (.iconst 0, 1) := by decide +kernel
theorem d_Ck_begin_30 : decode b_Ck_begin 30 = .ok (.putfield 72, 3) := by decide +kernel
theorem d_Ck_begin_33 : decode b_Ck_begin 33 = .ok (.aload_n 0, 1) := by decide +kernel
theorem d_Ck_begin_34 : decode b_Ck_begin 34 = .ok (.iconst 0, 1) := by decide +kernel
theorem d_Ck_begin_35 : decode b_Ck_begin 35 = .ok (.putfield 48, 3) := by decide +kernel
theorem d_Ck_begin_38 : decode b_Ck_begin 38 = .ok (.aload_n 0, 1) := by decide +kernel
theorem d_Ck_begin_39 : decode b_Ck_begin 39 = .ok (.iconst 0, 1) := by decide +kernel
theorem d_Ck_begin_40 : decode b_Ck_begin 40 = .ok (.putfield 76, 3) := by decide +kernel
theorem d_Ck_begin_43 : decode b_Ck_begin 43 = .ok (.return_, 1) := by decide +kernel
theorem d_Ck_lookAt_0 : decode b_Ck_lookAt 0 = .ok (.aload_n 0, 1) := by decide +kernel
theorem d_Ck_lookAt_1 : decode b_Ck_lookAt 1 = .ok (.getfield 9, 3) := by decide +kernel
theorem d_Ck_lookAt_4 : decode b_Ck_lookAt 4 = .ok (.iload_n 1, 1) := by decide +kernel
theorem d_Ck_lookAt_5 : decode b_Ck_lookAt 5 = .ok (.invokevirtual 80, 3) := by decide +kernel
theorem d_Ck_lookAt_8 : decode b_Ck_lookAt 8 = .ok (.astore_n 2, 1) := by decide +kernel
theorem d_Ck_lookAt_9 : decode b_Ck_lookAt 9 = .ok (.aload_n 0, 1) := by decide +kernel
theorem d_Ck_lookAt_10 : decode b_Ck_lookAt 10 = .ok (.getfield 27, 3) := by decide +kernel
theorem d_Ck_lookAt_13 : decode b_Ck_lookAt 13 = .ok (.aload_n 2, 1) := by decide +kernel
theorem d_Ck_lookAt_14 : decode b_Ck_lookAt 14 = .ok (.iload_n 1, 1) := by decide +kernel
theorem d_Ck_lookAt_15 : decode b_Ck_lookAt 15 = .ok (.invokevirtual 86, 3) := by decide +kernel
theorem d_Ck_lookAt_18 : decode b_Ck_lookAt 18 = .ok (.istore_n 3, 1) := by decide +kernel
theorem d_Ck_lookAt_19 : decode b_Ck_lookAt 19 = .ok (.aload_n 2, 1) := by decide +kernel
theorem d_Ck_lookAt_20 : decode b_Ck_lookAt 20 = .ok (.ifnull 7, 3) := by decide +kernel
theorem d_Ck_lookAt_23 : decode b_Ck_lookAt 23 = .ok (.iload_n 3, 1) := by decide +kernel
theorem d_Ck_lookAt_24 : decode b_Ck_lookAt 24 = .ok (.ifCond .eq 11, 3) := by decide +kernel
theorem d_Ck_lookAt_27 : decode b_Ck_lookAt 27 = .ok (.aload_n 0, 1) := by decide +kernel
theorem d_Ck_lookAt_28 : decode b_Ck_lookAt 28 = .ok (.iload_n 3, 1) := by decide +kernel
theorem d_Ck_lookAt_29 : decode b_Ck_lookAt 29 = .ok (.iload_n 1, 1) := by decide +kernel
theorem d_Ck_lookAt_30 : decode b_Ck_lookAt 30 = .ok (.invokevirtual 90, 3) := by decide +kernel
theorem d_Ck_lookAt_33 : decode b_Ck_lookAt 33 = .ok (.iconst (-1), 1) := by decide +kernel
theorem d_Ck_lookAt_34 : decode b_Ck_lookAt 34 = .ok (.ireturn, 1) := by decide +kernel
theorem d_Ck_lookAt_35 : decode b_Ck_lookAt 35 = .ok (.aload_n 2, 1) := by decide +kernel
theorem d_Ck_lookAt_36 : decode b_Ck_lookAt 36 = .ok (.getfield 94, 3) := by decide +kernel
theorem d_Ck_lookAt_39 : decode b_Ck_lookAt 39 = .ok (.bipush 17, 2) := by decide +kernel
theorem d_Ck_lookAt_41 : decode b_Ck_lookAt 41 = .ok (.if_icmp .ne 28, 3) := by decide +kernel
theorem d_Ck_lookAt_44 : decode b_Ck_lookAt 44 = .ok (.aload_n 0, 1) := by decide +kernel
theorem d_Ck_lookAt_45 : decode b_Ck_lookAt 45 = .ok (.aload_n 0, 1) := by decide +kernel
theorem d_Ck_lookAt_46 : decode b_Ck_lookAt 46 = .ok (.getfield 18, 3) := by decide +kernel
theorem d_Ck_lookAt_49 : decode b_Ck_lookAt 49 = .ok (.iconst 0, 1) := by decide +kernel
theorem d_Ck_lookAt_50 : decode b_Ck_lookAt 50 = .ok (.invokevirtual 99, 3) := by decide +kernel
theorem d_Ck_lookAt_53 : decode b_Ck_lookAt 53 = .ok (.aload_n 0, 1) := by decide +kernel
theorem d_Ck_lookAt_54 : decode b_Ck_lookAt 54 = .ok (.getfield 18, 3) := by decide +kernel
theorem d_Ck_lookAt_57 : decode b_Ck_lookAt 57 = .ok (.iconst 0, 1) := by decide +kernel
theorem d_Ck_lookAt_58 : decode b_Ck_lookAt 58 = .ok (.invokevirtual 103, 3) := by decide +kernel
theorem d_Ck_lookAt_61 : decode b_Ck_lookAt 61 = .ok (.invokevirtual 106, 3) := by decide +kernel
theorem d_Ck_lookAt_64 : decode b_Ck_lookAt 64 = .ok (.aload_n 0, 1) := by decide +kernel
theorem d_Ck_lookAt_65 : decode b_Ck_lookAt 65 = .ok (.invokevirtual 110, 3) := by decide +kernel
theorem d_Ck_lookAt_68 : decode b_Ck_lookAt 68 = .ok (.ireturn, 1) := by decide +kernel
theorem d_Ck_lookAt_69 : decode b_Ck_lookAt 69 = .ok (.aload_n 2, 1) := by decide +kernel
theorem d_Ck_lookAt_70 : decode b_Ck_lookAt 70 = .ok (.invokevirtual 114, 3) := by decide +kernel
theorem d_Ck_lookAt_73 : decode b_Ck_lookAt 73 = .ok (.ifCond .eq 10, 3) := by decide +kernel
theorem d_Ck_lookAt_76 : decode b_Ck_lookAt 76 = .ok (.aload_n 0, 1) := by decide +kernel
theorem d_Ck_lookAt_77 : decode b_Ck_lookAt 77 = .ok (.aload_n 2, 1) := by decide +kernel
theorem d_Ck_lookAt_78 : decode b_Ck_lookAt 78 = .ok (.iload_n 1, 1) := by decide +kernel
theorem d_Ck_lookAt_79 : decode b_Ck_lookAt 79 = .ok (.invokevirtual 118, 3) := by decide +kernel
theorem d_Ck_lookAt_82 : decode b_Ck_lookAt 82 = .ok (.ireturn, 1) := by decide +kernel
theorem d_Ck_lookAt_83 : decode b_Ck_lookAt 83 = .ok (.aload_n 0, 1) := by decide +kernel
theorem d_Ck_lookAt_84 : decode b_Ck_lookAt 84 = .ok (.getfield 36, 3) := by decide +kernel
theorem d_Ck_lookAt_87 : decode b_Ck_lookAt 87 = .ok (.aload_n 2, 1) := by decide +kernel
theorem d_Ck_lookAt_88 : decode b_Ck_lookAt 88 = .ok (.invokevirtual 121, 3) := by decide +kernel
theorem d_Ck_lookAt_91 : decode b_Ck_lookAt 91 = .ok (.iload_n 1, 1) := by decide +kernel
theorem d_Ck_lookAt_92 : decode b_Ck_lookAt 92 = .ok (.iconst 1, 1) := by decide +kernel
theorem d_Ck_lookAt_93 : decode b_Ck_lookAt 93 = .ok (.iadd, 1) := by decide +kernel
theorem d_Ck_lookAt_94 : decode b_Ck_lookAt 94 = .ok (.ireturn, 1) := by decide +kernel
theorem d_Ck_reject_0 : decode b_Ck_reject 0 = .ok (.aload_n 0, 1) := by decide +kernel
theorem d_Ck_reject_1 : decode b_Ck_reject 1 = .ok (.iconst 1, 1) := by decide +kernel
theorem d_Ck_reject_2 : decode b_Ck_reject 2 = .ok (.putfield 72, 3) := by decide +kernel
theorem d_Ck_reject_5 : decode b_Ck_reject 5 = .ok (.aload_n 0, 1) := by decide +kernel
theorem d_Ck_reject_6 : decode b_Ck_reject 6 = .ok (.iload_n 1, 1) := by decide +kernel
theorem d_Ck_reject_7 : decode b_Ck_reject 7 = .ok (.putfield 52, 3) := by decide +kernel
theorem d_Ck_reject_10 : decode b_Ck_reject 10 = .ok (.aload_n 0, 1) := by decide +kernel
theorem d_Ck_reject_11 : decode b_Ck_reject 11 = .ok (.iload_n 2, 1) := by decide +kernel
theorem d_Ck_reject_12 : decode b_Ck_reject 12 = .ok (.putfield 55, 3) := by decide +kernel
theorem d_Ck_reject_15 : decode b_Ck_reject 15 = .ok (.return_, 1) := by decide +kernel
theorem d_Ck_growOutcomes_0 : decode b_Ck_growOutcomes 0 = .ok (.aload_n 0, 1) := by decide +kernel
theorem d_Ck_growOutcomes_1 : decode b_Ck_growOutcomes 1 = .ok (.aload_n 0, 1) := by decide +kernel
theorem d_Ck_growOutcomes_2 : decode b_Ck_growOutcomes 2 = .ok (.getfield 76, 3) := by decide +kernel
theorem d_Ck_growOutcomes_5 : decode b_Ck_growOutcomes 5 = .ok (.ifCond .eq 14, 3) := by decide +kernel
theorem d_Ck_growOutcomes_8 : decode b_Ck_growOutcomes 8 = .ok (.aload_n 0, 1) := by decide +kernel
theorem d_Ck_growOutcomes_9 : decode b_Ck_growOutcomes 9 = .ok (.getfield 58, 3) := by decide +kernel
theorem d_Ck_growOutcomes_12 : decode b_Ck_growOutcomes 12 = .ok (.lload_n 1, 1) := by decide +kernel
theorem d_Ck_growOutcomes_13 : decode b_Ck_growOutcomes 13 = .ok (.invokestatic 125, 3) := by decide +kernel
theorem d_Ck_growOutcomes_16 : decode b_Ck_growOutcomes 16 = .ok (.goto 4, 3) := by decide +kernel
theorem d_Ck_growOutcomes_19 : decode b_Ck_growOutcomes 19 = .ok (.lload_n 1, 1) := by decide +kernel
theorem d_Ck_growOutcomes_20 : decode b_Ck_growOutcomes 20 = .ok (.putfield 58, 3) := by decide +kernel
theorem d_Ck_growOutcomes_23 : decode b_Ck_growOutcomes 23 = .ok (.aload_n 0, 1) := by decide +kernel
theorem d_Ck_growOutcomes_24 : decode b_Ck_growOutcomes 24 = .ok (.aload_n 0, 1) := by decide +kernel
theorem d_Ck_growOutcomes_25 : decode b_Ck_growOutcomes 25 = .ok (.getfield 76, 3) := by decide +kernel
theorem d_Ck_growOutcomes_28 : decode b_Ck_growOutcomes 28 = .ok (.ifCond .eq 14, 3) := by decide +kernel
theorem d_Ck_growOutcomes_31 : decode b_Ck_growOutcomes 31 = .ok (.aload_n 0, 1) := by decide +kernel
theorem d_Ck_growOutcomes_32 : decode b_Ck_growOutcomes 32 = .ok (.getfield 62, 3) := by decide +kernel
theorem d_Ck_growOutcomes_35 : decode b_Ck_growOutcomes 35 = .ok (.lload_n 3, 1) := by decide +kernel
theorem d_Ck_growOutcomes_36 : decode b_Ck_growOutcomes 36 = .ok (.invokestatic 131, 3) := by decide +kernel
theorem d_Ck_growOutcomes_39 : decode b_Ck_growOutcomes 39 = .ok (.goto 4, 3) := by decide +kernel
theorem d_Ck_growOutcomes_42 : decode b_Ck_growOutcomes 42 = .ok (.lload_n 3, 1) := by decide +kernel
theorem d_Ck_growOutcomes_43 : decode b_Ck_growOutcomes 43 = .ok (.putfield 62, 3) := by decide +kernel
theorem d_Ck_growOutcomes_46 : decode b_Ck_growOutcomes 46 = .ok (.aload_n 0, 1) := by decide +kernel
theorem d_Ck_growOutcomes_47 : decode b_Ck_growOutcomes 47 = .ok (.iconst 1, 1) := by decide +kernel
theorem d_Ck_growOutcomes_48 : decode b_Ck_growOutcomes 48 = .ok (.putfield 76, 3) := by decide +kernel
theorem d_Ck_growOutcomes_51 : decode b_Ck_growOutcomes 51 = .ok (.return_, 1) := by decide +kernel
theorem d_Ck_fork_0 : decode b_Ck_fork 0 = .ok (.aload_n 1, 1) := by decide +kernel
theorem d_Ck_fork_1 : decode b_Ck_fork 1 = .ok (.aload_n 0, 1) := by decide +kernel
theorem d_Ck_fork_2 : decode b_Ck_fork 2 = .ok (.getfield 18, 3) := by decide +kernel
theorem d_Ck_fork_5 : decode b_Ck_fork 5 = .ok (.invokestatic 134, 3) := by decide +kernel
theorem d_Ck_fork_8 : decode b_Ck_fork 8 = .ok (.istore_n 3, 1) := by decide +kernel
theorem d_Ck_fork_9 : decode b_Ck_fork 9 = .ok (.aload_n 1, 1) := by decide +kernel
theorem d_Ck_fork_10 : decode b_Ck_fork 10 = .ok (.aload_n 0, 1) := by decide +kernel
theorem d_Ck_fork_11 : decode b_Ck_fork 11 = .ok (.getfield 18, 3) := by decide +kernel
theorem d_Ck_fork_14 : decode b_Ck_fork 14 = .ok (.invokestatic 140, 3) := by decide +kernel
theorem d_Ck_fork_17 : decode b_Ck_fork 17 = .ok (.ifCond .ne 16, 3) := by decide +kernel
theorem d_Ck_fork_20 : decode b_Ck_fork 20 = .ok (.aload_n 1, 1) := by decide +kernel
theorem d_Ck_fork_21 : decode b_Ck_fork 21 = .ok (.aload_n 0, 1) := by decide +kernel
theorem d_Ck_fork_22 : decode b_Ck_fork 22 = .ok (.getfield 18, 3) := by decide +kernel
theorem d_Ck_fork_25 : decode b_Ck_fork 25 = .ok (.invokestatic 143, 3) := by decide +kernel
theorem d_Ck_fork_28 : decode b_Ck_fork 28 = .ok (.aload_n 1, 1) := by decide +kernel
theorem d_Ck_fork_29 : decode b_Ck_fork 29 = .ok (.getfield 147, 3) := by decide +kernel
theorem d_Ck_fork_32 : decode b_Ck_fork 32 = .ok (.ireturn, 1) := by decide +kernel
theorem d_Ck_fork_33 : decode b_Ck_fork 33 = .ok (.iload_n 3, 1) := by decide +kernel
theorem d_Ck_fork_34 : decode b_Ck_fork 34 = .ok (.ifCond .eq 33, 3) := by decide +kernel
theorem d_Ck_fork_37 : decode b_Ck_fork 37 = .ok (.aload_n 0, 1) := by decide +kernel
theorem d_Ck_fork_38 : decode b_Ck_fork 38 = .ok (.getfield 40, 3) := by decide +kernel
theorem d_Ck_fork_41 : decode b_Ck_fork 41 = .ok (.iload_n 2, 1) := by decide +kernel
theorem d_Ck_fork_42 : decode b_Ck_fork 42 = .ok (.aaload, 1) := by decide +kernel
theorem d_Ck_fork_43 : decode b_Ck_fork 43 = .ok (.aload_n 0, 1) := by decide +kernel
theorem d_Ck_fork_44 : decode b_Ck_fork 44 = .ok (.getfield 18, 3) := by decide +kernel
theorem d_Ck_fork_47 : decode b_Ck_fork 47 = .ok (.invokevirtual 150, 3) := by decide +kernel
theorem d_Ck_fork_50 : decode b_Ck_fork 50 = .ok (.aload_n 1, 1) := by decide +kernel
theorem d_Ck_fork_51 : decode b_Ck_fork 51 = .ok (.aload_n 0, 1) := by decide +kernel
theorem d_Ck_fork_52 : decode b_Ck_fork 52 = .ok (.getfield 40, 3) := by decide +kernel
theorem d_Ck_fork_55 : decode b_Ck_fork 55 = .ok (.iload_n 2, 1) := by decide +kernel
theorem d_Ck_fork_56 : decode b_Ck_fork 56 = .ok (.aaload, 1) := by decide +kernel
theorem d_Ck_fork_57 : decode b_Ck_fork 57 = .ok (.invokestatic 143, 3) := by decide +kernel
theorem d_Ck_fork_60 : decode b_Ck_fork 60 = .ok (.aload_n 0, 1) := by decide +kernel
theorem d_Ck_fork_61 : decode b_Ck_fork 61 = .ok (.getfield 44, 3) := by decide +kernel
theorem d_Ck_fork_64 : decode b_Ck_fork 64 = .ok (.iload_n 2, 1) := by decide +kernel
theorem d_Ck_fork_65 : decode b_Ck_fork 65 = .ok (.iconst 1, 1) := by decide +kernel
theorem d_Ck_fork_66 : decode b_Ck_fork 66 = .ok (.bastore, 1) := by decide +kernel
theorem d_Ck_fork_67 : decode b_Ck_fork 67 = .ok (.aload_n 1, 1) := by decide +kernel
theorem d_Ck_fork_68 : decode b_Ck_fork 68 = .ok (.aload_n 0, 1) := by decide +kernel
theorem d_Ck_fork_69 : decode b_Ck_fork 69 = .ok (.getfield 18, 3) := by decide +kernel
theorem d_Ck_fork_72 : decode b_Ck_fork 72 = .ok (.invokestatic 153, 3) := by decide +kernel
theorem d_Ck_fork_75 : decode b_Ck_fork 75 = .ok (.iload_n 2, 1) := by decide +kernel
theorem d_Ck_fork_76 : decode b_Ck_fork 76 = .ok (.iconst 1, 1) := by decide +kernel
theorem d_Ck_fork_77 : decode b_Ck_fork 77 = .ok (.iadd, 1) := by decide +kernel
theorem d_Ck_fork_78 : decode b_Ck_fork 78 = .ok (.ireturn, 1) := by decide +kernel
theorem d_Ck_takeUpLatest_0 : decode b_Ck_takeUpLatest 0 = .ok (.bipush 23, 2) := by decide +kernel
theorem d_Ck_takeUpLatest_2 : decode b_Ck_takeUpLatest 2 = .ok (.istore_n 1, 1) := by decide +kernel
theorem d_Ck_takeUpLatest_3 : decode b_Ck_takeUpLatest 3 = .ok (.iload_n 1, 1) := by decide +kernel
theorem d_Ck_takeUpLatest_4 : decode b_Ck_takeUpLatest 4 = .ok (.ifCond .lt 56, 3) := by decide +kernel
theorem d_Ck_takeUpLatest_7 : decode b_Ck_takeUpLatest 7 = .ok (.aload_n 0, 1) := by decide +kernel
theorem d_Ck_takeUpLatest_8 : decode b_Ck_takeUpLatest 8 = .ok (.getfield 9, 3) := by decide +kernel
theorem d_Ck_takeUpLatest_11 : decode b_Ck_takeUpLatest 11 = .ok (.iload_n 1, 1) := by decide +kernel
theorem d_Ck_takeUpLatest_12 : decode b_Ck_takeUpLatest 12 = .ok (.invokevirtual 80, 3) := by decide +kernel
theorem d_Ck_takeUpLatest_15 : decode b_Ck_takeUpLatest 15 = .ok (.astore_n 2, 1) := by decide +kernel
theorem d_Ck_takeUpLatest_16 : decode b_Ck_takeUpLatest 16 = .ok (.aload_n 0, 1) := by decide +kernel
theorem d_Ck_takeUpLatest_17 : decode b_Ck_takeUpLatest 17 = .ok (.getfield 44, 3) := by decide +kernel
theorem d_Ck_takeUpLatest_20 : decode b_Ck_takeUpLatest 20 = .ok (.iload_n 1, 1) := by decide +kernel
theorem d_Ck_takeUpLatest_21 : decode b_Ck_takeUpLatest 21 = .ok (.baload, 1) := by decide +kernel
theorem d_Ck_takeUpLatest_22 : decode b_Ck_takeUpLatest 22 = .ok (.ifCond .eq 32, 3) := by decide +kernel
theorem d_Ck_takeUpLatest_25 : decode b_Ck_takeUpLatest 25 = .ok (.aload_n 2, 1) := by decide +kernel
theorem d_Ck_takeUpLatest_26 : decode b_Ck_takeUpLatest 26 = .ok (.ifnull 28, 3) := by decide +kernel
theorem d_Ck_takeUpLatest_29 : decode b_Ck_takeUpLatest 29 = .ok (.aload_n 0, 1) := by decide +kernel
theorem d_Ck_takeUpLatest_30 : decode b_Ck_takeUpLatest 30 = .ok (.getfield 44, 3) := by decide +kernel
theorem d_Ck_takeUpLatest_33 : decode b_Ck_takeUpLatest 33 = .ok (.iload_n 1, 1) := by decide +kernel
theorem d_Ck_takeUpLatest_34 : decode b_Ck_takeUpLatest 34 = .ok (.iconst 0, 1) := by decide +kernel
theorem d_Ck_takeUpLatest_35 : decode b_Ck_takeUpLatest 35 = .ok (.bastore, 1) := by decide +kernel
theorem d_Ck_takeUpLatest_36 : decode b_Ck_takeUpLatest 36 = .ok (.aload_n 0, 1) := by decide +kernel
theorem d_Ck_takeUpLatest_37 : decode b_Ck_takeUpLatest 37 = .ok (.getfield 18, 3) := by decide +kernel
theorem d_Ck_takeUpLatest_40 : decode b_Ck_takeUpLatest 40 = .ok (.aload_n 0, 1) := by decide +kernel
theorem d_Ck_takeUpLatest_41 : decode b_Ck_takeUpLatest 41 = .ok (.getfield 40, 3) := by decide +kernel
theorem d_Ck_takeUpLatest_44 : decode b_Ck_takeUpLatest 44 = .ok (.iload_n 1, 1) := by decide +kernel
theorem d_Ck_takeUpLatest_45 : decode b_Ck_takeUpLatest 45 = .ok (.aaload, 1) := by decide +kernel
theorem d_Ck_takeUpLatest_46 : decode b_Ck_takeUpLatest 46 = .ok (.invokevirtual 150, 3) := by decide +kernel
theorem d_Ck_takeUpLatest_49 : decode b_Ck_takeUpLatest 49 = .ok (.aload_n 2, 1) := by decide +kernel
theorem d_Ck_takeUpLatest_50 : decode b_Ck_takeUpLatest 50 = .ok (.getfield 147, 3) := by decide +kernel
theorem d_Ck_takeUpLatest_53 : decode b_Ck_takeUpLatest 53 = .ok (.ireturn, 1) := by decide +kernel
theorem d_Ck_takeUpLatest_54 : decode b_Ck_takeUpLatest 54 = .ok (.iinc 1 (-1), 3) := by decide +kernel
theorem d_Ck_takeUpLatest_57 : decode b_Ck_takeUpLatest 57 = .ok (.goto (-54), 3) := by decide +kernel
theorem d_Ck_takeUpLatest_60 : decode b_Ck_takeUpLatest 60 = .ok (.iconst (-1), 1) := by decide +kernel
theorem d_Ck_takeUpLatest_61 : decode b_Ck_takeUpLatest 61 = .ok (.ireturn, 1) := by decide +kernel
theorem d_Jg_init_0 : decode b_Jg_init 0 = .ok (.aload_n 0, 1) := by decide +kernel
theorem d_Jg_init_1 : decode b_Jg_init 1 = .ok (.invokespecial 3, 3) := by decide +kernel
theorem d_Jg_init_4 : decode b_Jg_init 4 = .ok (.aload_n 0, 1) := by decide +kernel
theorem d_Jg_init_5 : decode b_Jg_init 5 = .ok (.aload_n 1, 1) := by decide +kernel
theorem d_Jg_init_6 : decode b_Jg_init 6 = .ok (.putfield 9, 3) := by decide +kernel
theorem d_Jg_init_9 : decode b_Jg_init 9 = .ok (.aload_n 0, 1) := by decide +kernel
theorem d_Jg_init_10 : decode b_Jg_init 10 = .ok (.aload_n 2, 1) := by decide +kernel
theorem d_Jg_init_11 : decode b_Jg_init 11 = .ok (.putfield 15, 3) := by decide +kernel
theorem d_Jg_init_14 : decode b_Jg_init 14 = .ok (.return_, 1) := by decide +kernel
theorem d_Jg_reasonAgainst_0 : decode b_Jg_reasonAgainst 0 = .ok (.aload_n 1, 1) := by decide +kernel
theorem d_Jg_reasonAgainst_1 : decode b_Jg_reasonAgainst 1 = .ok (.ifnull 12, 3) := by decide +kernel
theorem d_Jg_reasonAgainst_4 : decode b_Jg_reasonAgainst 4 = .ok (.aload_n 0, 1) := by decide +kernel
theorem d_Jg_reasonAgainst_5 : decode b_Jg_reasonAgainst 5 = .ok (.aload_n 1, 1) := by decide +kernel
theorem d_Jg_reasonAgainst_6 : decode b_Jg_reasonAgainst 6 = .ok (.iload_n 2, 1) := by decide +kernel
theorem d_Jg_reasonAgainst_7 : decode b_Jg_reasonAgainst 7 = .ok (.invokevirtual 19, 3) := by decide +kernel
theorem d_Jg_reasonAgainst_10 : decode b_Jg_reasonAgainst 10 = .ok (.ifCond .eq 5, 3) := by decide +kernel
theorem d_Jg_reasonAgainst_13 : decode b_Jg_reasonAgainst 13 = .ok (.iconst 1, 1) := by decide +kernel
theorem d_Jg_reasonAgainst_14 : decode b_Jg_reasonAgainst 14 = .ok (.ireturn, 1) := by decide +kernel
theorem d_Jg_reasonAgainst_15 : decode b_Jg_reasonAgainst 15 = .ok (.aload_n 0, 1) := by decide +kernel
theorem d_Jg_reasonAgainst_16 : decode b_Jg_reasonAgainst 16 = .ok (.aload_n 1, 1) := by decide +kernel
theorem d_Jg_reasonAgainst_17 : decode b_Jg_reasonAgainst 17 = .ok (.invokevirtual 23, 3) := by decide +kernel
theorem d_Jg_reasonAgainst_20 : decode b_Jg_reasonAgainst 20 = .ok (.ifCond .eq 5, 3) := by decide +kernel
theorem d_Jg_reasonAgainst_23 : decode b_Jg_reasonAgainst 23 = .ok (.iconst 2, 1) := by decide +kernel
theorem d_Jg_reasonAgainst_24 : decode b_Jg_reasonAgainst 24 = .ok (.ireturn, 1) := by decide +kernel
theorem d_Jg_reasonAgainst_25 : decode b_Jg_reasonAgainst 25 = .ok (.aload_n 1, 1) := by decide +kernel
theorem d_Jg_reasonAgainst_26 : decode b_Jg_reasonAgainst 26 = .ok (.invokestatic 27, 3) := by decide +kernel
theorem d_Jg_reasonAgainst_29 : decode b_Jg_reasonAgainst 29 = .ok (.ifCond .eq 5, 3) := by decide +kernel
theorem d_Jg_reasonAgainst_32 : decode b_Jg_reasonAgainst 32 = .ok (.iconst 3, 1) := by decide +kernel
theorem d_Jg_reasonAgainst_33 : decode b_Jg_reasonAgainst 33 = .ok (.ireturn, 1) := by decide +kernel
theorem d_Jg_reasonAgainst_34 : decode b_Jg_reasonAgainst 34 = .ok (.aload_n 0, 1) := by decide +kernel
theorem d_Jg_reasonAgainst_35 : decode b_Jg_reasonAgainst 35 = .ok (.aload_n 1, 1) := by decide +kernel
theorem d_Jg_reasonAgainst_36 : decode b_Jg_reasonAgainst 36 = .ok (.invokevirtual 30, 3) := by decide +kernel
theorem d_Jg_reasonAgainst_39 : decode b_Jg_reasonAgainst 39 = .ok (.ifCond .ne 11, 3) := by decide +kernel
theorem d_Jg_reasonAgainst_42 : decode b_Jg_reasonAgainst 42 = .ok (.aload_n 0, 1) := by decide +kernel
theorem d_Jg_reasonAgainst_43 : decode b_Jg_reasonAgainst 43 = .ok (.aload_n 1, 1) := by decide +kernel
theorem d_Jg_reasonAgainst_44 : decode b_Jg_reasonAgainst 44 = .ok (.invokevirtual 33, 3) := by decide +kernel
theorem d_Jg_reasonAgainst_47 : decode b_Jg_reasonAgainst 47 = .ok (.ifCond .eq 5, 3) := by decide +kernel
theorem d_Jg_reasonAgainst_50 : decode b_Jg_reasonAgainst 50 = .ok (.iconst 4, 1) := by decide +kernel
theorem d_Jg_reasonAgainst_51 : decode b_Jg_reasonAgainst 51 = .ok (.ireturn, 1) := by decide +kernel
theorem d_Jg_reasonAgainst_52 : decode b_Jg_reasonAgainst 52 = .ok (.aload_n 0, 1) := by decide +kernel
theorem d_Jg_reasonAgainst_53 : decode b_Jg_reasonAgainst 53 = .ok (.aload_n 1, 1) := by decide +kernel
theorem d_Jg_reasonAgainst_54 : decode b_Jg_reasonAgainst 54 = .ok (.invokevirtual 36, 3) := by decide +kernel
theorem d_Jg_reasonAgainst_57 : decode b_Jg_reasonAgainst 57 = .ok (.ifCond .eq 5, 3) := by decide +kernel
theorem d_Jg_reasonAgainst_60 : decode b_Jg_reasonAgainst 60 = .ok (.iconst 5, 1) := by decide +kernel
theorem d_Jg_reasonAgainst_61 : decode b_Jg_reasonAgainst 61 = .ok (.ireturn, 1) := by decide +kernel
theorem d_Jg_reasonAgainst_62 : decode b_Jg_reasonAgainst 62 = .ok (.aload_n 0, 1) := by decide +kernel
theorem d_Jg_reasonAgainst_63 : decode b_Jg_reasonAgainst 63 = .ok (.aload_n 1, 1) := by decide +kernel
theorem d_Jg_reasonAgainst_64 : decode b_Jg_reasonAgainst 64 = .ok (.invokevirtual 39, 3) := by decide +kernel
theorem d_Jg_reasonAgainst_67 : decode b_Jg_reasonAgainst 67 = .ok (.ifCond .eq 6, 3) := by decide +kernel
theorem d_Jg_reasonAgainst_70 : decode b_Jg_reasonAgainst 70 = .ok (.bipush 6, 2) := by decide +kernel
theorem d_Jg_reasonAgainst_72 : decode b_Jg_reasonAgainst 72 = .ok (.ireturn, 1) := by decide +kernel
theorem d_Jg_reasonAgainst_73 : decode b_Jg_reasonAgainst 73 = .ok (.aload_n 0, 1) := by decide +kernel
theorem d_Jg_reasonAgainst_74 : decode b_Jg_reasonAgainst 74 = .ok (.aload_n 1, 1) := by decide +kernel
theorem d_Jg_reasonAgainst_75 : decode b_Jg_reasonAgainst 75 = .ok (.invokevirtual 42, 3) := by decide +kernel
theorem d_Jg_reasonAgainst_78 : decode b_Jg_reasonAgainst 78 = .ok (.ifCond .eq 8, 3) := by decide +kernel
theorem d_Jg_reasonAgainst_81 : decode b_Jg_reasonAgainst 81 = .ok (.bipush 7, 2) := by decide +kernel
theorem d_Jg_reasonAgainst_83 : decode b_Jg_reasonAgainst 83 = .ok (.goto 4, 3) := by decide +kernel
theorem d_Jg_reasonAgainst_86 : decode b_Jg_reasonAgainst 86 = .ok (.iconst 0, 1) := by decide +kernel
theorem d_Jg_reasonAgainst_87 : decode b_Jg_reasonAgainst 87 = .ok (.ireturn, 1) := by decide +kernel
theorem d_Jg_lacksTarget_0 : decode b_Jg_lacksTarget 0 = .ok (.aload_n 1, 1) := by decide +kernel
theorem d_Jg_lacksTarget_1 : decode b_Jg_lacksTarget 1 = .ok (.invokevirtual 45, 3) := by decide +kernel
theorem d_Jg_lacksTarget_4 : decode b_Jg_lacksTarget 4 = .ok (.ifCond .eq 29, 3) := by decide +kernel
theorem d_Jg_lacksTarget_7 : decode b_Jg_lacksTarget 7 = .ok (.aload_n 1, 1) := by decide +kernel
theorem d_Jg_lacksTarget_8 : decode b_Jg_lacksTarget 8 = .ok (.getfield 51, 3) := by decide +kernel
theorem d_Jg_lacksTarget_11 : decode b_Jg_lacksTarget 11 = .ok (.iload_n 2, 1) := by decide +kernel
theorem d_Jg_lacksTarget_12 : decode b_Jg_lacksTarget 12 = .ok (.if_icmp .le 17, 3) := by decide +kernel
theorem d_Jg_lacksTarget_15 : decode b_Jg_lacksTarget 15 = .ok (.aload_n 1, 1) := by decide +kernel
theorem d_Jg_lacksTarget_16 : decode b_Jg_lacksTarget 16 = .ok (.getfield 51, 3) := by decide +kernel
theorem d_Jg_lacksTarget_19 : decode b_Jg_lacksTarget 19 = .ok (.aload_n 0, 1) := by decide +kernel
theorem d_Jg_lacksTarget_20 : decode b_Jg_lacksTarget 20 = .ok (.getfield 9, 3) := by decide +kernel
theorem d_Jg_lacksTarget_23 : decode b_Jg_lacksTarget 23 = .ok (.invokevirtual 55, 3) := by decide +kernel
theorem d_Jg_lacksTarget_26 : decode b_Jg_lacksTarget 26 = .ok (.if_icmp .lt 7, 3) := by decide +kernel
theorem d_Jg_lacksTarget_29 : decode b_Jg_lacksTarget 29 = .ok (.iconst 1, 1) := by decide +kernel
theorem d_Jg_lacksTarget_30 : decode b_Jg_lacksTarget 30 = .ok (.goto 4, 3) := by decide +kernel
theorem d_Jg_lacksTarget_33 : decode b_Jg_lacksTarget 33 = .ok (.iconst 0, 1) := by decide +kernel
theorem d_Jg_lacksTarget_34 : decode b_Jg_lacksTarget 34 = .ok (.ireturn, 1) := by decide +kernel
theorem d_Jg_usesEmpty_0 : decode b_Jg_usesEmpty 0 = .ok (.aload_n 1, 1) := by decide +kernel
theorem d_Jg_usesEmpty_1 : decode b_Jg_usesEmpty 1 = .ok (.getfield 61, 3) := by decide +kernel
theorem d_Jg_usesEmpty_4 : decode b_Jg_usesEmpty 4 = .ok (.bipush 16, 2) := by decide +kernel
theorem d_Jg_usesEmpty_6 : decode b_Jg_usesEmpty 6 = .ok (.if_icmp .ne 58, 3) := by decide +kernel
theorem d_Jg_usesEmpty_9 : decode b_Jg_usesEmpty 9 = .ok (.aload_n 1, 1) := by decide +kernel
theorem d_Jg_usesEmpty_10 : decode b_Jg_usesEmpty 10 = .ok (.getfield 64, 3) := by decide +kernel
theorem d_Jg_usesEmpty_13 : decode b_Jg_usesEmpty 13 = .ok (.iconst 1, 1) := by decide +kernel
theorem d_Jg_usesEmpty_14 : decode b_Jg_usesEmpty 14 = .ok (.if_icmp .ne 14, 3) := by decide +kernel
theorem d_Jg_usesEmpty_17 : decode b_Jg_usesEmpty 17 = .ok (.aload_n 0, 1) := by decide +kernel
theorem d_Jg_usesEmpty_18 : decode b_Jg_usesEmpty 18 = .ok (.getfield 15, 3) := by decide +kernel
theorem d_Jg_usesEmpty_21 : decode b_Jg_usesEmpty 21 = .ok (.iconst 1, 1) := by decide +kernel
theorem d_Jg_usesEmpty_22 : decode b_Jg_usesEmpty 22 = .ok (.invokevirtual 67, 3) := by decide +kernel
theorem d_Jg_usesEmpty_25 : decode b_Jg_usesEmpty 25 = .ok (.ifCond .ne 33, 3) := by decide +kernel
theorem d_Jg_usesEmpty_28 : decode b_Jg_usesEmpty 28 = .ok (.aload_n 1, 1) := by decide +kernel
theorem d_Jg_usesEmpty_29 : decode b_Jg_usesEmpty 29 = .ok (.getfield 64, 3) := by decide +kernel
theorem d_Jg_usesEmpty_32 : decode b_Jg_usesEmpty 32 = .ok (.iconst 2, 1) := by decide +kernel
theorem d_Jg_usesEmpty_33 : decode b_Jg_usesEmpty 33 = .ok (.if_icmp .ne 29, 3) := by decide +kernel
theorem d_Jg_usesEmpty_36 : decode b_Jg_usesEmpty 36 = .ok (.aload_n 0, 1) := by decide +kernel
theorem d_Jg_usesEmpty_37 : decode b_Jg_usesEmpty 37 = .ok (.getfield 15, 3) := by decide +kernel
theorem d_Jg_usesEmpty_40 : decode b_Jg_usesEmpty 40 = .ok (.iconst 1, 1) := by decide +kernel
theorem d_Jg_usesEmpty_41 : decode b_Jg_usesEmpty 41 = .ok (.invokevirtual 67, 3) := by decide +kernel
theorem d_Jg_usesEmpty_44 : decode b_Jg_usesEmpty 44 = .ok (.ifCond .ne 14, 3) := by decide +kernel
theorem d_Jg_usesEmpty_47 : decode b_Jg_usesEmpty 47 = .ok (.aload_n 0, 1) := by decide +kernel
theorem d_Jg_usesEmpty_48 : decode b_Jg_usesEmpty 48 = .ok (.getfield 15, 3) := by decide +kernel
theorem d_Jg_usesEmpty_51 : decode b_Jg_usesEmpty 51 = .ok (.iconst 2, 1) := by decide +kernel
theorem d_Jg_usesEmpty_52 : decode b_Jg_usesEmpty 52 = .ok (.invokevirtual 67, 3) := by decide +kernel
theorem d_Jg_usesEmpty_55 : decode b_Jg_usesEmpty 55 = .ok (.ifCond .eq 7, 3) := by decide +kernel
theorem d_Jg_usesEmpty_58 : decode b_Jg_usesEmpty 58 = .ok (.iconst 1, 1) := by decide +kernel
theorem d_Jg_usesEmpty_59 : decode b_Jg_usesEmpty 59 = .ok (.goto 4, 3) := by decide +kernel
theorem d_Jg_usesEmpty_62 : decode b_Jg_usesEmpty 62 = .ok (.iconst 0, 1) := by decide +kernel
theorem d_Jg_usesEmpty_63 : decode b_Jg_usesEmpty 63 = .ok (.ireturn, 1) := by decide +kernel
theorem d_Jg_usesEmpty_64 : decode b_Jg_usesEmpty 64 = .ok (.aload_n 1, 1) := by decide +kernel
theorem d_Jg_usesEmpty_65 : decode b_Jg_usesEmpty 65 = .ok (.getfield 61, 3) := by decide +kernel
theorem d_Jg_usesEmpty_68 : decode b_Jg_usesEmpty 68 = .ok (.bipush 17, 2) := by decide +kernel
theorem d_Jg_usesEmpty_70 : decode b_Jg_usesEmpty 70 = .ok (.if_icmp .ne 12, 3) := by decide +kernel
theorem d_Jg_usesEmpty_73 : decode b_Jg_usesEmpty 73 = .ok (.aload_n 0, 1) := by decide +kernel
theorem d_Jg_usesEmpty_74 : decode b_Jg_usesEmpty 74 = .ok (.getfield 15, 3) := by decide +kernel
theorem d_Jg_usesEmpty_77 : decode b_Jg_usesEmpty 77 = .ok (.iconst 0, 1) := by decide +kernel
theorem d_Jg_usesEmpty_78 : decode b_Jg_usesEmpty 78 = .ok (.invokevirtual 67, 3) := by decide +kernel
theorem d_Jg_usesEmpty_81 : decode b_Jg_usesEmpty 81 = .ok (.ireturn, 1) := by decide +kernel
theorem d_Jg_usesEmpty_82 : decode b_Jg_usesEmpty 82 = .ok (.aload_n 1, 1) := by decide +kernel
theorem d_Jg_usesEmpty_83 : decode b_Jg_usesEmpty 83 = .ok (.invokevirtual 73, 3) := by decide +kernel
theorem d_Jg_usesEmpty_86 : decode b_Jg_usesEmpty 86 = .ok (.ifCond .eq 17, 3) := by decide +kernel
theorem d_Jg_usesEmpty_89 : decode b_Jg_usesEmpty 89 = .ok (.aload_n 0, 1) := by decide +kernel
theorem d_Jg_usesEmpty_90 : decode b_Jg_usesEmpty 90 = .ok (.getfield 15, 3) := by decide +kernel
theorem d_Jg_usesEmpty_93 : decode b_Jg_usesEmpty 93 = .ok (.aload_n 1, 1) := by decide +kernel
theorem d_Jg_usesEmpty_94 : decode b_Jg_usesEmpty 94 = .ok (.getfield 76, 3) := by decide +kernel
theorem d_Jg_usesEmpty_97 : decode b_Jg_usesEmpty 97 = .ok (.invokevirtual 67, 3) := by decide +kernel
theorem d_Jg_usesEmpty_100 : decode b_Jg_usesEmpty 100 = .ok (.ifCond .ne 24, 3) := by decide +kernel
theorem d_Jg_usesEmpty_103 : decode b_Jg_usesEmpty 103 = .ok (.aload_n 1, 1) := by decide +kernel
theorem d_Jg_usesEmpty_104 : decode b_Jg_usesEmpty 104 = .ok (.invokevirtual 79, 3) := by decide +kernel
theorem d_Jg_usesEmpty_107 : decode b_Jg_usesEmpty 107 = .ok (.ifCond .eq 21, 3) := by decide +kernel
theorem d_Jg_usesEmpty_110 : decode b_Jg_usesEmpty 110 = .ok (.aload_n 0, 1) := by decide +kernel
theorem d_Jg_usesEmpty_111 : decode b_Jg_usesEmpty 111 = .ok (.getfield 15, 3) := by decide +kernel
theorem d_Jg_usesEmpty_114 : decode b_Jg_usesEmpty 114 = .ok (.aload_n 1, 1) := by decide +kernel
theorem d_Jg_usesEmpty_115 : decode b_Jg_usesEmpty 115 = .ok (.getfield 82, 3) := by decide +kernel
theorem d_Jg_usesEmpty_118 : decode b_Jg_usesEmpty 118 = .ok (.invokevirtual 67, 3) := by decide +kernel
theorem d_Jg_usesEmpty_121 : decode b_Jg_usesEmpty 121 = .ok (.ifCond .eq 7, 3) := by decide +kernel
theorem d_Jg_usesEmpty_124 : decode b_Jg_usesEmpty 124 = .ok (.iconst 1, 1) := by decide +kernel
theorem d_Jg_usesEmpty_125 : decode b_Jg_usesEmpty 125 = .ok (.goto 4, 3) := by decide +kernel
theorem d_Jg_usesEmpty_128 : decode b_Jg_usesEmpty 128 = .ok (.iconst 0, 1) := by decide +kernel
theorem d_Jg_usesEmpty_129 : decode b_Jg_usesEmpty 129 = .ok (.ireturn, 1) := by decide +kernel
theorem d_Jg_hasBadNumber_0 : decode b_Jg_hasBadNumber 0 = .ok (.aload_n 0, 1) := by decide +kernel
theorem d_Jg_hasBadNumber_1 : decode b_Jg_hasBadNumber 1 = .ok (.getfield 61, 3) := by decide +kernel
theorem d_Jg_hasBadNumber_4 : decode b_Jg_hasBadNumber 4 = .ok (.lookupswitch 92 #[(7, 36), (8, 58), (16, 71)], 36) := by decide +kernel
theorem d_Jg_hasBadNumber_40 : decode b_Jg_hasBadNumber 40 = .ok (.aload_n 0, 1) := by decide +kernel
theorem d_Jg_hasBadNumber_41 : decode b_Jg_hasBadNumber 41 = .ok (.getfield 64, 3) := by decide +kernel
theorem d_Jg_hasBadNumber_44 : decode b_Jg_hasBadNumber 44 = .ok (.ifCond .lt 12, 3) := by decide +kernel
theorem d_Jg_hasBadNumber_47 : decode b_Jg_hasBadNumber 47 = .ok (.aload_n 0, 1) := by decide +kernel
theorem d_Jg_hasBadNumber_48 : decode b_Jg_hasBadNumber 48 = .ok (.getfield 64, 3) := by decide +kernel
theorem d_Jg_hasBadNumber_51 : decode b_Jg_hasBadNumber 51 = .ok (.bipush 63, 2) := by decide +kernel
theorem d_Jg_hasBadNumber_53 : decode b_Jg_hasBadNumber 53 = .ok (.if_icmp .le 7, 3) := by decide +kernel
theorem d_Jg_hasBadNumber_56 : decode b_Jg_hasBadNumber 56 = .ok (.iconst 1, 1) := by decide +kernel
theorem d_Jg_hasBadNumber_57 : decode b_Jg_hasBadNumber 57 = .ok (.goto 4, 3) := by decide +kernel
theorem d_Jg_hasBadNumber_60 : decode b_Jg_hasBadNumber 60 = .ok (.iconst 0, 1) := by decide +kernel
theorem d_Jg_hasBadNumber_61 : decode b_Jg_hasBadNumber 61 = .ok (.ireturn, 1) := by decide +kernel
theorem d_Jg_hasBadNumber_62 : decode b_Jg_hasBadNumber 62 = .ok (.aload_n 0, 1) := by decide +kernel
theorem d_Jg_hasBadNumber_63 : decode b_Jg_hasBadNumber 63 = .ok (.getfield 64, 3) := by decide +kernel
theorem d_Jg_hasBadNumber_66 : decode b_Jg_hasBadNumber 66 = .ok (.ifCond .ne 7, 3) := by decide +kernel
theorem d_Jg_hasBadNumber_69 : decode b_Jg_hasBadNumber 69 = .ok (.iconst 1, 1) := by decide +kernel
theorem d_Jg_hasBadNumber_70 : decode b_Jg_hasBadNumber 70 = .ok (.goto 4, 3) := by decide +kernel
theorem d_Jg_hasBadNumber_73 : decode b_Jg_hasBadNumber 73 = .ok (.iconst 0, 1) := by decide +kernel
theorem d_Jg_hasBadNumber_74 : decode b_Jg_hasBadNumber 74 = .ok (.ireturn, 1) := by decide +kernel
theorem d_Jg_hasBadNumber_75 : decode b_Jg_hasBadNumber 75 = .ok (.aload_n 0, 1) := by decide +kernel
theorem d_Jg_hasBadNumber_76 : decode b_Jg_hasBadNumber 76 = .ok (.getfield 64, 3) := by decide +kernel
theorem d_Jg_hasBadNumber_79 : decode b_Jg_hasBadNumber 79 = .ok (.ifCond .lt 11, 3) := by decide +kernel
theorem d_Jg_hasBadNumber_82 : decode b_Jg_hasBadNumber 82 = .ok (.aload_n 0, 1) := by decide +kernel
theorem d_Jg_hasBadNumber_83 : decode b_Jg_hasBadNumber 83 = .ok (.getfield 64, 3) := by decide +kernel
theorem d_Jg_hasBadNumber_86 : decode b_Jg_hasBadNumber 86 = .ok (.iconst 2, 1) := by decide +kernel
theorem d_Jg_hasBadNumber_87 : decode b_Jg_hasBadNumber 87 = .ok (.if_icmp .le 7, 3) := by decide +kernel
theorem d_Jg_hasBadNumber_90 : decode b_Jg_hasBadNumber 90 = .ok (.iconst 1, 1) := by decide +kernel
theorem d_Jg_hasBadNumber_91 : decode b_Jg_hasBadNumber 91 = .ok (.goto 4, 3) := by decide +kernel
theorem d_Jg_hasBadNumber_94 : decode b_Jg_hasBadNumber 94 = .ok (.iconst 0, 1) := by decide +kernel
theorem d_Jg_hasBadNumber_95 : decode b_Jg_hasBadNumber 95 = .ok (.ireturn, 1) := by decide +kernel
theorem d_Jg_hasBadNumber_96 : decode b_Jg_hasBadNumber 96 = .ok (.iconst 0, 1) := by decide +kernel
theorem d_Jg_hasBadNumber_97 : decode b_Jg_hasBadNumber 97 = .ok (.ireturn, 1) := by decide +kernel
theorem d_Jg_hasWrongKind_0 : decode b_Jg_hasWrongKind 0 = .ok (.aload_n 1, 1) := by decide +kernel
theorem d_Jg_hasWrongKind_1 : decode b_Jg_hasWrongKind 1 = .ok (.getfield 61, 3) := by decide +kernel
theorem d_Jg_hasWrongKind_4 : decode b_Jg_hasWrongKind 4 = .ok (.tableswitch 211 1 17 #[84, 86, 103, 211, 211, 211, 211, 211, 211, 134, 211, 211, 211, 162, 182, 188, 194], 84) := by decide +kernel
theorem d_Jg_hasWrongKind_88 : decode b_Jg_hasWrongKind 88 = .ok (.iconst 0, 1) := by decide +kernel
theorem d_Jg_hasWrongKind_89 : decode b_Jg_hasWrongKind 89 = .ok (.ireturn, 1) := by decide +kernel
theorem d_Jg_hasWrongKind_90 : decode b_Jg_hasWrongKind 90 = .ok (.aload_n 0, 1) := by decide +kernel
theorem d_Jg_hasWrongKind_91 : decode b_Jg_hasWrongKind 91 = .ok (.aload_n 1, 1) := by decide +kernel
theorem d_Jg_hasWrongKind_92 : decode b_Jg_hasWrongKind 92 = .ok (.getfield 76, 3) := by decide +kernel
theorem d_Jg_hasWrongKind_95 : decode b_Jg_hasWrongKind 95 = .ok (.invokevirtual 85, 3) := by decide +kernel
theorem d_Jg_hasWrongKind_98 : decode b_Jg_hasWrongKind 98 = .ok (.ifCond .ne 7, 3) := by decide +kernel
theorem d_Jg_hasWrongKind_101 : decode b_Jg_hasWrongKind 101 = .ok (.iconst 1, 1) := by decide +kernel
theorem d_Jg_hasWrongKind_102 : decode b_Jg_hasWrongKind 102 = .ok (.goto 4, 3) := by decide +kernel
theorem d_Jg_hasWrongKind_105 : decode b_Jg_hasWrongKind 105 = .ok (.iconst 0, 1) := by decide +kernel
theorem d_Jg_hasWrongKind_106 : decode b_Jg_hasWrongKind 106 = .ok (.ireturn, 1) := by decide +kernel
theorem d_Jg_hasWrongKind_107 : decode b_Jg_hasWrongKind 107 = .ok (.aload_n 0, 1) := by decide +kernel
theorem d_Jg_hasWrongKind_108 : decode b_Jg_hasWrongKind 108 = .ok (.aload_n 1, 1) := by decide +kernel
theorem d_Jg_hasWrongKind_109 : decode b_Jg_hasWrongKind 109 = .ok (.getfield 76, 3) := by decide +kernel
theorem d_Jg_hasWrongKind_112 : decode b_Jg_hasWrongKind 112 = .ok (.invokevirtual 85, 3) := by decide +kernel
theorem d_Jg_hasWrongKind_115 : decode b_Jg_hasWrongKind 115 = .ok (.ifCond .eq 17, 3) := by decide +kernel
theorem d_Jg_hasWrongKind_118 : decode b_Jg_hasWrongKind 118 = .ok (.aload_n 0, 1) := by decide +kernel
theorem d_Jg_hasWrongKind_119 : decode b_Jg_hasWrongKind 119 = .ok (.getfield 15, 3) := by decide +kernel
theorem d_Jg_hasWrongKind_122 : decode b_Jg_hasWrongKind 122 = .ok (.aload_n 1, 1) := by decide +kernel
theorem d_Jg_hasWrongKind_123 : decode b_Jg_hasWrongKind 123 = .ok (.getfield 82, 3) := by decide +kernel
theorem d_Jg_hasWrongKind_126 : decode b_Jg_hasWrongKind 126 = .ok (.invokevirtual 88, 3) := by decide +kernel
theorem d_Jg_hasWrongKind_129 : decode b_Jg_hasWrongKind 129 = .ok (.ifCond .ne 7, 3) := by decide +kernel
theorem d_Jg_hasWrongKind_132 : decode b_Jg_hasWrongKind 132 = .ok (.iconst 1, 1) := by decide +kernel
theorem d_Jg_hasWrongKind_133 : decode b_Jg_hasWrongKind 133 = .ok (.goto 4, 3) := by decide +kernel
theorem d_Jg_hasWrongKind_136 : decode b_Jg_hasWrongKind 136 = .ok (.iconst 0, 1) := by decide +kernel
theorem d_Jg_hasWrongKind_137 : decode b_Jg_hasWrongKind 137 = .ok (.ireturn, 1) := by decide +kernel
theorem d_Jg_hasWrongKind_138 : decode b_Jg_hasWrongKind 138 = .ok (.aload_n 0, 1) := by decide +kernel
theorem d_Jg_hasWrongKind_139 : decode b_Jg_hasWrongKind 139 = .ok (.getfield 15, 3) := by decide +kernel
theorem d_Jg_hasWrongKind_142 : decode b_Jg_hasWrongKind 142 = .ok (.aload_n 1, 1) := by decide +kernel
theorem d_Jg_hasWrongKind_143 : decode b_Jg_hasWrongKind 143 = .ok (.getfield 76, 3) := by decide +kernel
theorem d_Jg_hasWrongKind_146 : decode b_Jg_hasWrongKind 146 = .ok (.invokevirtual 88, 3) := by decide +kernel
theorem d_Jg_hasWrongKind_149 : decode b_Jg_hasWrongKind 149 = .ok (.ifCond .ne 15, 3) := by decide +kernel
theorem d_Jg_hasWrongKind_152 : decode b_Jg_hasWrongKind 152 = .ok (.aload_n 0, 1) := by decide +kernel
theorem d_Jg_hasWrongKind_153 : decode b_Jg_hasWrongKind 153 = .ok (.aload_n 1, 1) := by decide +kernel
theorem d_Jg_hasWrongKind_154 : decode b_Jg_hasWrongKind 154 = .ok (.invokevirtual 91, 3) := by decide +kernel
theorem d_Jg_hasWrongKind_157 : decode b_Jg_hasWrongKind 157 = .ok (.ifCond .ne 7, 3) := by decide +kernel
theorem d_Jg_hasWrongKind_160 : decode b_Jg_hasWrongKind 160 = .ok (.iconst 1, 1) := by decide +kernel
theorem d_Jg_hasWrongKind_161 : decode b_Jg_hasWrongKind 161 = .ok (.goto 4, 3) := by decide +kernel
theorem d_Jg_hasWrongKind_164 : decode b_Jg_hasWrongKind 164 = .ok (.iconst 0, 1) := by decide +kernel
theorem d_Jg_hasWrongKind_165 : decode b_Jg_hasWrongKind 165 = .ok (.ireturn, 1) := by decide +kernel
theorem d_Jg_hasWrongKind_166 : decode b_Jg_hasWrongKind 166 = .ok (.aload_n 0, 1) := by decide +kernel
theorem d_Jg_hasWrongKind_167 : decode b_Jg_hasWrongKind 167 = .ok (.getfield 15, 3) := by decide +kernel
theorem d_Jg_hasWrongKind_170 : decode b_Jg_hasWrongKind 170 = .ok (.aload_n 1, 1) := by decide +kernel
theorem d_Jg_hasWrongKind_171 : decode b_Jg_hasWrongKind 171 = .ok (.getfield 82, 3) := by decide +kernel
theorem d_Jg_hasWrongKind_174 : decode b_Jg_hasWrongKind 174 = .ok (.invokevirtual 94, 3) := by decide +kernel
theorem d_Jg_hasWrongKind_177 : decode b_Jg_hasWrongKind 177 = .ok (.ifCond .ne 7, 3) := by decide +kernel
theorem d_Jg_hasWrongKind_180 : decode b_Jg_hasWrongKind 180 = .ok (.iconst 1, 1) := by decide +kernel
theorem d_Jg_hasWrongKind_181 : decode b_Jg_hasWrongKind 181 = .ok (.goto 4, 3) := by decide +kernel
theorem d_Jg_hasWrongKind_184 : decode b_Jg_hasWrongKind 184 = .ok (.iconst 0, 1) := by decide +kernel
theorem d_Jg_hasWrongKind_185 : decode b_Jg_hasWrongKind 185 = .ok (.ireturn, 1) := by decide +kernel
theorem d_Jg_hasWrongKind_186 : decode b_Jg_hasWrongKind 186 = .ok (.aload_n 0, 1) := by decide +kernel
theorem d_Jg_hasWrongKind_187 : decode b_Jg_hasWrongKind 187 = .ok (.aload_n 1, 1) := by decide +kernel
theorem d_Jg_hasWrongKind_188 : decode b_Jg_hasWrongKind 188 = .ok (.invokevirtual 97, 3) := by decide +kernel
theorem d_Jg_hasWrongKind_191 : decode b_Jg_hasWrongKind 191 = .ok (.ireturn, 1) := by decide +kernel
theorem d_Jg_hasWrongKind_192 : decode b_Jg_hasWrongKind 192 = .ok (.aload_n 0, 1) := by decide +kernel
theorem d_Jg_hasWrongKind_193 : decode b_Jg_hasWrongKind 193 = .ok (.aload_n 1, 1) := by decide +kernel
theorem d_Jg_hasWrongKind_194 : decode b_Jg_hasWrongKind 194 = .ok (.invokevirtual 100, 3) := by decide +kernel
theorem d_Jg_hasWrongKind_197 : decode b_Jg_hasWrongKind 197 = .ok (.ireturn, 1) := by decide +kernel
theorem d_Jg_hasWrongKind_198 : decode b_Jg_hasWrongKind 198 = .ok (.aload_n 0, 1) := by decide +kernel
theorem d_Jg_hasWrongKind_199 : decode b_Jg_hasWrongKind 199 = .ok (.getfield 15, 3) := by decide +kernel
theorem d_Jg_hasWrongKind_202 : decode b_Jg_hasWrongKind 202 = .ok (.iconst 0, 1) := by decide +kernel
theorem d_Jg_hasWrongKind_203 : decode b_Jg_hasWrongKind 203 = .ok (.invokevirtual 88, 3) := by decide +kernel
theorem d_Jg_hasWrongKind_206 : decode b_Jg_hasWrongKind 206 = .ok (.ifCond .ne 7, 3) := by decide +kernel
theorem d_Jg_hasWrongKind_209 : decode b_Jg_hasWrongKind 209 = .ok (.iconst 1, 1) := by decide +kernel
theorem d_Jg_hasWrongKind_210 : decode b_Jg_hasWrongKind 210 = .ok (.goto 4, 3) := by decide +kernel
theorem d_Jg_hasWrongKind_213 : decode b_Jg_hasWrongKind 213 = .ok (.iconst 0, 1) := by decide +kernel
theorem d_Jg_hasWrongKind_214 : decode b_Jg_hasWrongKind 214 = .ok (.ireturn, 1) := by decide +kernel
theorem d_Jg_hasWrongKind_215 : decode b_Jg_hasWrongKind 215 = .ok (.aload_n 1, 1) := by decide +kernel
theorem d_Jg_hasWrongKind_216 : decode b_Jg_hasWrongKind 216 = .ok (.invokevirtual 73, 3) := by decide +kernel
theorem d_Jg_hasWrongKind_219 : decode b_Jg_hasWrongKind 219 = .ok (.ifCond .eq 17, 3) := by decide +kernel
theorem d_Jg_hasWrongKind_222 : decode b_Jg_hasWrongKind 222 = .ok (.aload_n 0, 1) := by decide +kernel
theorem d_Jg_hasWrongKind_223 : decode b_Jg_hasWrongKind 223 = .ok (.getfield 15, 3) := by decide +kernel
theorem d_Jg_hasWrongKind_226 : decode b_Jg_hasWrongKind 226 = .ok (.aload_n 1, 1) := by decide +kernel
theorem d_Jg_hasWrongKind_227 : decode b_Jg_hasWrongKind 227 = .ok (.getfield 76, 3) := by decide +kernel
theorem d_Jg_hasWrongKind_230 : decode b_Jg_hasWrongKind 230 = .ok (.invokevirtual 88, 3) := by decide +kernel
theorem d_Jg_hasWrongKind_233 : decode b_Jg_hasWrongKind 233 = .ok (.ifCond .eq 24, 3) := by decide +kernel
theorem d_Jg_hasWrongKind_236 : decode b_Jg_hasWrongKind 236 = .ok (.aload_n 1, 1) := by decide +kernel
theorem d_Jg_hasWrongKind_237 : decode b_Jg_hasWrongKind 237 = .ok (.invokevirtual 79, 3) := by decide +kernel
theorem d_Jg_hasWrongKind_240 : decode b_Jg_hasWrongKind 240 = .ok (.ifCond .eq 21, 3) := by decide +kernel
theorem d_Jg_hasWrongKind_243 : decode b_Jg_hasWrongKind 243 = .ok (.aload_n 0, 1) := by decide +kernel
theorem d_Jg_hasWrongKind_244 : decode b_Jg_hasWrongKind 244 = .ok (.getfield 15, 3) := by decide +kernel
theorem d_Jg_hasWrongKind_247 : decode b_Jg_hasWrongKind 247 = .ok (.aload_n 1, 1) := by decide +kernel
theorem d_Jg_hasWrongKind_248 : decode b_Jg_hasWrongKind 248 = .ok (.getfield 82, 3) := by decide +kernel
theorem d_Jg_hasWrongKind_251 : decode b_Jg_hasWrongKind 251 = .ok (.invokevirtual 88, 3) := by decide +kernel
theorem d_Jg_hasWrongKind_254 : decode b_Jg_hasWrongKind 254 = .ok (.ifCond .ne 7, 3) := by decide +kernel
theorem d_Jg_hasWrongKind_257 : decode b_Jg_hasWrongKind 257 = .ok (.iconst 1, 1) := by decide +kernel
theorem d_Jg_hasWrongKind_258 : decode b_Jg_hasWrongKind 258 = .ok (.goto 4, 3) := by decide +kernel
theorem d_Jg_hasWrongKind_261 : decode b_Jg_hasWrongKind 261 = .ok (.iconst 0, 1) := by decide +kernel
theorem d_Jg_hasWrongKind_262 : decode b_Jg_hasWrongKind 262 = .ok (.ireturn, 1) := by decide +kernel
theorem d_Jg_isRangeOrPlace_0 : decode b_Jg_isRangeOrPlace 0 = .ok (.aload_n 0, 1) := by decide +kernel
theorem d_Jg_isRangeOrPlace_1 : decode b_Jg_isRangeOrPlace 1 = .ok (.getfield 15, 3) := by decide +kernel
theorem d_Jg_isRangeOrPlace_4 : decode b_Jg_isRangeOrPlace 4 = .ok (.iload_n 1, 1) := by decide +kernel
theorem d_Jg_isRangeOrPlace_5 : decode b_Jg_isRangeOrPlace 5 = .ok (.invokevirtual 88, 3) := by decide +kernel
theorem d_Jg_isRangeOrPlace_8 : decode b_Jg_isRangeOrPlace 8 = .ok (.ifCond .ne 14, 3) := by decide +kernel
theorem d_Jg_isRangeOrPlace_11 : decode b_Jg_isRangeOrPlace 11 = .ok (.aload_n 0, 1) := by decide +kernel
theorem d_Jg_isRangeOrPlace_12 : decode b_Jg_isRangeOrPlace 12 = .ok (.getfield 15, 3) := by decide +kernel
theorem d_Jg_isRangeOrPlace_15 : decode b_Jg_isRangeOrPlace 15 = .ok (.iload_n 1, 1) := by decide +kernel
theorem d_Jg_isRangeOrPlace_16 : decode b_Jg_isRangeOrPlace 16 = .ok (.invokevirtual 94, 3) := by decide +kernel
theorem d_Jg_isRangeOrPlace_19 : decode b_Jg_isRangeOrPlace 19 = .ok (.ifCond .eq 7, 3) := by decide +kernel
theorem d_Jg_isRangeOrPlace_22 : decode b_Jg_isRangeOrPlace 22 = .ok (.iconst 1, 1) := by decide +kernel
theorem d_Jg_isRangeOrPlace_23 : decode b_Jg_isRangeOrPlace 23 = .ok (.goto 4, 3) := by decide +kernel
theorem d_Jg_isRangeOrPlace_26 : decode b_Jg_isRangeOrPlace 26 = .ok (.iconst 0, 1) := by decide +kernel
theorem d_Jg_isRangeOrPlace_27 : decode b_Jg_isRangeOrPlace 27 = .ok (.ireturn, 1) := by decide +kernel
theorem d_Jg_isMaybeMissing_0 : decode b_Jg_isMaybeMissing 0 = .ok (.aload_n 0, 1) := by decide +kernel
theorem d_Jg_isMaybeMissing_1 : decode b_Jg_isMaybeMissing 1 = .ok (.getfield 15, 3) := by decide +kernel
theorem d_Jg_isMaybeMissing_4 : decode b_Jg_isMaybeMissing 4 = .ok (.aload_n 1, 1) := by decide +kernel
theorem d_Jg_isMaybeMissing_5 : decode b_Jg_isMaybeMissing 5 = .ok (.getfield 76, 3) := by decide +kernel
theorem d_Jg_isMaybeMissing_8 : decode b_Jg_isMaybeMissing 8 = .ok (.invokevirtual 103, 3) := by decide +kernel
theorem d_Jg_isMaybeMissing_11 : decode b_Jg_isMaybeMissing 11 = .ok (.iconst 4, 1) := by decide +kernel
theorem d_Jg_isMaybeMissing_12 : decode b_Jg_isMaybeMissing 12 = .ok (.if_icmp .ne 14, 3) := by decide +kernel
theorem d_Jg_isMaybeMissing_15 : decode b_Jg_isMaybeMissing 15 = .ok (.aload_n 1, 1) := by decide +kernel
theorem d_Jg_isMaybeMissing_16 : decode b_Jg_isMaybeMissing 16 = .ok (.getfield 64, 3) := by decide +kernel
theorem d_Jg_isMaybeMissing_19 : decode b_Jg_isMaybeMissing 19 = .ok (.ifCond .ne 7, 3) := by decide +kernel
theorem d_Jg_isMaybeMissing_22 : decode b_Jg_isMaybeMissing 22 = .ok (.iconst 1, 1) := by decide +kernel
theorem d_Jg_isMaybeMissing_23 : decode b_Jg_isMaybeMissing 23 = .ok (.goto 4, 3) := by decide +kernel
theorem d_Jg_isMaybeMissing_26 : decode b_Jg_isMaybeMissing 26 = .ok (.iconst 0, 1) := by decide +kernel
theorem d_Jg_isMaybeMissing_27 : decode b_Jg_isMaybeMissing 27 = .ok (.ireturn, 1) := by decide +kernel
theorem d_Jg_callsWithWrongKind_0 : decode b_Jg_callsWithWrongKind 0 = .ok (.aload_n 1, 1) := by decide +kernel
theorem d_Jg_callsWithWrongKind_1 : decode b_Jg_callsWithWrongKind 1 = .ok (.getfield 64, 3) := by decide +kernel
theorem d_Jg_callsWithWrongKind_4 : decode b_Jg_callsWithWrongKind 4 = .ok (.iconst 1, 1) := by decide +kernel
theorem d_Jg_callsWithWrongKind_5 : decode b_Jg_callsWithWrongKind 5 = .ok (.if_icmp .ne 14, 3) := by decide +kernel
theorem d_Jg_callsWithWrongKind_8 : decode b_Jg_callsWithWrongKind 8 = .ok (.aload_n 0, 1) := by decide +kernel
theorem d_Jg_callsWithWrongKind_9 : decode b_Jg_callsWithWrongKind 9 = .ok (.getfield 15, 3) := by decide +kernel
theorem d_Jg_callsWithWrongKind_12 : decode b_Jg_callsWithWrongKind 12 = .ok (.iconst 1, 1) := by decide +kernel
theorem d_Jg_callsWithWrongKind_13 : decode b_Jg_callsWithWrongKind 13 = .ok (.invokevirtual 88, 3) := by decide +kernel
theorem d_Jg_callsWithWrongKind_16 : decode b_Jg_callsWithWrongKind 16 = .ok (.ifCond .eq 33, 3) := by decide +kernel
theorem d_Jg_callsWithWrongKind_19 : decode b_Jg_callsWithWrongKind 19 = .ok (.aload_n 1, 1) := by decide +kernel
theorem d_Jg_callsWithWrongKind_20 : decode b_Jg_callsWithWrongKind 20 = .ok (.getfield 64, 3) := by decide +kernel
theorem d_Jg_callsWithWrongKind_23 : decode b_Jg_callsWithWrongKind 23 = .ok (.iconst 2, 1) := by decide +kernel
theorem d_Jg_callsWithWrongKind_24 : decode b_Jg_callsWithWrongKind 24 = .ok (.if_icmp .ne 29, 3) := by decide +kernel
theorem d_Jg_callsWithWrongKind_27 : decode b_Jg_callsWithWrongKind 27 = .ok (.aload_n 0, 1) := by decide +kernel
theorem d_Jg_callsWithWrongKind_28 : decode b_Jg_callsWithWrongKind 28 = .ok (.getfield 15, 3) := by decide +kernel
theorem d_Jg_callsWithWrongKind_31 : decode b_Jg_callsWithWrongKind 31 = .ok (.iconst 1, 1) := by decide +kernel
theorem d_Jg_callsWithWrongKind_32 : decode b_Jg_callsWithWrongKind 32 = .ok (.invokevirtual 88, 3) := by decide +kernel
theorem d_Jg_callsWithWrongKind_35 : decode b_Jg_callsWithWrongKind 35 = .ok (.ifCond .eq 14, 3) := by decide +kernel
theorem d_Jg_callsWithWrongKind_38 : decode b_Jg_callsWithWrongKind 38 = .ok (.aload_n 0, 1) := by decide +kernel
theorem d_Jg_callsWithWrongKind_39 : decode b_Jg_callsWithWrongKind 39 = .ok (.getfield 15, 3) := by decide +kernel
theorem d_Jg_callsWithWrongKind_42 : decode b_Jg_callsWithWrongKind 42 = .ok (.iconst 2, 1) := by decide +kernel
theorem d_Jg_callsWithWrongKind_43 : decode b_Jg_callsWithWrongKind 43 = .ok (.invokevirtual 88, 3) := by decide +kernel
theorem d_Jg_callsWithWrongKind_46 : decode b_Jg_callsWithWrongKind 46 = .ok (.ifCond .ne 7, 3) := by decide +kernel
theorem d_Jg_callsWithWrongKind_49 : decode b_Jg_callsWithWrongKind 49 = .ok (.iconst 1, 1) := by decide +kernel
theorem d_Jg_callsWithWrongKind_50 : decode b_Jg_callsWithWrongKind 50 = .ok (.goto 4, 3) := by decide +kernel
theorem d_Jg_callsWithWrongKind_53 : decode b_Jg_callsWithWrongKind 53 = .ok (.iconst 0, 1) := by decide +kernel
theorem d_Jg_callsWithWrongKind_54 : decode b_Jg_callsWithWrongKind 54 = .ok (.ireturn, 1) := by decide +kernel
theorem d_Jg_storesWrongKind_0 : decode b_Jg_storesWrongKind 0 = .ok (.aload_n 0, 1) := by decide +kernel
theorem d_Jg_storesWrongKind_1 : decode b_Jg_storesWrongKind 1 = .ok (.getfield 15, 3) := by decide +kernel
theorem d_Jg_storesWrongKind_4 : decode b_Jg_storesWrongKind 4 = .ok (.aload_n 1, 1) := by decide +kernel
theorem d_Jg_storesWrongKind_5 : decode b_Jg_storesWrongKind 5 = .ok (.getfield 76, 3) := by decide +kernel
theorem d_Jg_storesWrongKind_8 : decode b_Jg_storesWrongKind 8 = .ok (.invokevirtual 94, 3) := by decide +kernel
theorem d_Jg_storesWrongKind_11 : decode b_Jg_storesWrongKind 11 = .ok (.ifCond .ne 5, 3) := by decide +kernel
theorem d_Jg_storesWrongKind_14 : decode b_Jg_storesWrongKind 14 = .ok (.iconst 1, 1) := by decide +kernel
theorem d_Jg_storesWrongKind_15 : decode b_Jg_storesWrongKind 15 = .ok (.ireturn, 1) := by decide +kernel
theorem d_Jg_storesWrongKind_16 : decode b_Jg_storesWrongKind 16 = .ok (.aload_n 0, 1) := by decide +kernel
theorem d_Jg_storesWrongKind_17 : decode b_Jg_storesWrongKind 17 = .ok (.aload_n 1, 1) := by decide +kernel
theorem d_Jg_storesWrongKind_18 : decode b_Jg_storesWrongKind 18 = .ok (.getfield 76, 3) := by decide +kernel
theorem d_Jg_storesWrongKind_21 : decode b_Jg_storesWrongKind 21 = .ok (.invokevirtual 107, 3) := by decide +kernel
theorem d_Jg_storesWrongKind_24 : decode b_Jg_storesWrongKind 24 = .ok (.ifCond .ne 21, 3) := by decide +kernel
theorem d_Jg_storesWrongKind_27 : decode b_Jg_storesWrongKind 27 = .ok (.aload_n 0, 1) := by decide +kernel
theorem d_Jg_storesWrongKind_28 : decode b_Jg_storesWrongKind 28 = .ok (.getfield 15, 3) := by decide +kernel
theorem d_Jg_storesWrongKind_31 : decode b_Jg_storesWrongKind 31 = .ok (.aload_n 1, 1) := by decide +kernel
theorem d_Jg_storesWrongKind_32 : decode b_Jg_storesWrongKind 32 = .ok (.getfield 82, 3) := by decide +kernel
theorem d_Jg_storesWrongKind_35 : decode b_Jg_storesWrongKind 35 = .ok (.invokevirtual 88, 3) := by decide +kernel
theorem d_Jg_storesWrongKind_38 : decode b_Jg_storesWrongKind 38 = .ok (.ifCond .ne 7, 3) := by decide +kernel
theorem d_Jg_storesWrongKind_41 : decode b_Jg_storesWrongKind 41 = .ok (.iconst 1, 1) := by decide +kernel
theorem d_Jg_storesWrongKind_42 : decode b_Jg_storesWrongKind 42 = .ok (.goto 4, 3) := by decide +kernel
theorem d_Jg_storesWrongKind_45 : decode b_Jg_storesWrongKind 45 = .ok (.iconst 0, 1) := by decide +kernel
theorem d_Jg_storesWrongKind_46 : decode b_Jg_storesWrongKind 46 = .ok (.ireturn, 1) := by decide +kernel
theorem d_Jg_isOneCellOfFrame_0 : decode b_Jg_isOneCellOfFrame 0 = .ok (.aload_n 0, 1) := by decide +kernel
theorem d_Jg_isOneCellOfFrame_1 : decode b_Jg_isOneCellOfFrame 1 = .ok (.getfield 15, 3) := by decide +kernel
theorem d_Jg_isOneCellOfFrame_4 : decode b_Jg_isOneCellOfFrame 4 = .ok (.iload_n 1, 1) := by decide +kernel
theorem d_Jg_isOneCellOfFrame_5 : decode b_Jg_isOneCellOfFrame 5 = .ok (.invokevirtual 103, 3) := by decide +kernel
theorem d_Jg_isOneCellOfFrame_8 : decode b_Jg_isOneCellOfFrame 8 = .ok (.iconst 2, 1) := by decide +kernel
theorem d_Jg_isOneCellOfFrame_9 : decode b_Jg_isOneCellOfFrame 9 = .ok (.if_icmp .ne 27, 3) := by decide +kernel
theorem d_Jg_isOneCellOfFrame_12 : decode b_Jg_isOneCellOfFrame 12 = .ok (.aload_n 0, 1) := by decide +kernel
theorem d_Jg_isOneCellOfFrame_13 : decode b_Jg_isOneCellOfFrame 13 = .ok (.getfield 15, 3) := by decide +kernel
theorem d_Jg_isOneCellOfFrame_16 : decode b_Jg_isOneCellOfFrame 16 = .ok (.iload_n 1, 1) := by decide +kernel
theorem d_Jg_isOneCellOfFrame_17 : decode b_Jg_isOneCellOfFrame 17 = .ok (.invokevirtual 110, 3) := by decide +kernel
theorem d_Jg_isOneCellOfFrame_20 : decode b_Jg_isOneCellOfFrame 20 = .ok (.aload_n 0, 1) := by decide +kernel
theorem d_Jg_isOneCellOfFrame_21 : decode b_Jg_isOneCellOfFrame 21 = .ok (.getfield 15, 3) := by decide +kernel
theorem d_Jg_isOneCellOfFrame_24 : decode b_Jg_isOneCellOfFrame 24 = .ok (.iload_n 1, 1) := by decide +kernel
theorem d_Jg_isOneCellOfFrame_25 : decode b_Jg_isOneCellOfFrame 25 = .ok (.invokevirtual 114, 3) := by decide +kernel
theorem d_Jg_isOneCellOfFrame_28 : decode b_Jg_isOneCellOfFrame 28 = .ok (.lcmp, 1) := by decide +kernel
theorem d_Jg_isOneCellOfFrame_29 : decode b_Jg_isOneCellOfFrame 29 = .ok (.ifCond .ne 7, 3) := by decide +kernel
theorem d_Jg_isOneCellOfFrame_32 : decode b_Jg_isOneCellOfFrame 32 = .ok (.iconst 1, 1) := by decide +kernel
theorem d_Jg_isOneCellOfFrame_33 : decode b_Jg_isOneCellOfFrame 33 = .ok (.goto 4, 3) := by decide +kernel
theorem d_Jg_isOneCellOfFrame_36 : decode b_Jg_isOneCellOfFrame 36 = .ok (.iconst 0, 1) := by decide +kernel
theorem d_Jg_isOneCellOfFrame_37 : decode b_Jg_isOneCellOfFrame 37 = .ok (.ireturn, 1) := by decide +kernel
theorem d_Jg_storesOverNoRange_0 : decode b_Jg_storesOverNoRange 0 = .ok (.aload_n 1, 1) := by decide +kernel
theorem d_Jg_storesOverNoRange_1 : decode b_Jg_storesOverNoRange 1 = .ok (.getfield 61, 3) := by decide +kernel
theorem d_Jg_storesOverNoRange_4 : decode b_Jg_storesOverNoRange 4 = .ok (.bipush 15, 2) := by decide +kernel
theorem d_Jg_storesOverNoRange_6 : decode b_Jg_storesOverNoRange 6 = .ok (.if_icmp .ne 29, 3) := by decide +kernel
theorem d_Jg_storesOverNoRange_9 : decode b_Jg_storesOverNoRange 9 = .ok (.aload_n 0, 1) := by decide +kernel
theorem d_Jg_storesOverNoRange_10 : decode b_Jg_storesOverNoRange 10 = .ok (.getfield 15, 3) := by decide +kernel
theorem d_Jg_storesOverNoRange_13 : decode b_Jg_storesOverNoRange 13 = .ok (.aload_n 1, 1) := by decide +kernel
theorem d_Jg_storesOverNoRange_14 : decode b_Jg_storesOverNoRange 14 = .ok (.getfield 76, 3) := by decide +kernel
theorem d_Jg_storesOverNoRange_17 : decode b_Jg_storesOverNoRange 17 = .ok (.invokevirtual 103, 3) := by decide +kernel
theorem d_Jg_storesOverNoRange_20 : decode b_Jg_storesOverNoRange 20 = .ok (.iconst 2, 1) := by decide +kernel
theorem d_Jg_storesOverNoRange_21 : decode b_Jg_storesOverNoRange 21 = .ok (.if_icmp .ne 14, 3) := by decide +kernel
theorem d_Jg_storesOverNoRange_24 : decode b_Jg_storesOverNoRange 24 = .ok (.aload_n 0, 1) := by decide +kernel
theorem d_Jg_storesOverNoRange_25 : decode b_Jg_storesOverNoRange 25 = .ok (.aload_n 1, 1) := by decide +kernel
theorem d_Jg_storesOverNoRange_26 : decode b_Jg_storesOverNoRange 26 = .ok (.getfield 76, 3) := by decide +kernel
theorem d_Jg_storesOverNoRange_29 : decode b_Jg_storesOverNoRange 29 = .ok (.invokevirtual 107, 3) := by decide +kernel
theorem d_Jg_storesOverNoRange_32 : decode b_Jg_storesOverNoRange 32 = .ok (.ifCond .eq 5, 3) := by decide +kernel
theorem d_Jg_storesOverNoRange_35 : decode b_Jg_storesOverNoRange 35 = .ok (.iconst 0, 1) := by decide +kernel
theorem d_Jg_storesOverNoRange_36 : decode b_Jg_storesOverNoRange 36 = .ok (.ireturn, 1) := by decide +kernel
theorem d_Jg_storesOverNoRange_37 : decode b_Jg_storesOverNoRange 37 = .ok (.aload_n 0, 1) := by decide +kernel
theorem d_Jg_storesOverNoRange_38 : decode b_Jg_storesOverNoRange 38 = .ok (.getfield 15, 3) := by decide +kernel
theorem d_Jg_storesOverNoRange_41 : decode b_Jg_storesOverNoRange 41 = .ok (.aload_n 1, 1) := by decide +kernel
theorem d_Jg_storesOverNoRange_42 : decode b_Jg_storesOverNoRange 42 = .ok (.getfield 76, 3) := by decide +kernel
theorem d_Jg_storesOverNoRange_45 : decode b_Jg_storesOverNoRange 45 = .ok (.invokevirtual 110, 3) := by decide +kernel
theorem d_Jg_storesOverNoRange_48 : decode b_Jg_storesOverNoRange 48 = .ok (.aload_n 1, 1) := by decide +kernel
theorem d_Jg_storesOverNoRange_49 : decode b_Jg_storesOverNoRange 49 = .ok (.getfield 64, 3) := by decide +kernel
theorem d_Jg_storesOverNoRange_52 : decode b_Jg_storesOverNoRange 52 = .ok (.i2l, 1) := by decide +kernel
theorem d_Jg_storesOverNoRange_53 : decode b_Jg_storesOverNoRange 53 = .ok (.ladd, 1) := by decide +kernel
theorem d_Jg_storesOverNoRange_54 : decode b_Jg_storesOverNoRange 54 = .ok (.lstore_n 2, 1) := by decide +kernel
theorem d_Jg_storesOverNoRange_55 : decode b_Jg_storesOverNoRange 55 = .ok (.aload_n 0, 1) := by decide +kernel
theorem d_Jg_storesOverNoRange_56 : decode b_Jg_storesOverNoRange 56 = .ok (.getfield 15, 3) := by decide +kernel
theorem d_Jg_storesOverNoRange_59 : decode b_Jg_storesOverNoRange 59 = .ok (.aload_n 1, 1) := by decide +kernel
theorem d_Jg_storesOverNoRange_60 : decode b_Jg_storesOverNoRange 60 = .ok (.getfield 76, 3) := by decide +kernel
theorem d_Jg_storesOverNoRange_63 : decode b_Jg_storesOverNoRange 63 = .ok (.invokevirtual 114, 3) := by decide +kernel
theorem d_Jg_storesOverNoRange_66 : decode b_Jg_storesOverNoRange 66 = .ok (.aload_n 1, 1) := by decide +kernel
theorem d_Jg_storesOverNoRange_67 : decode b_Jg_storesOverNoRange 67 = .ok (.getfield 64, 3) := by decide +kernel
theorem d_Jg_storesOverNoRange_70 : decode b_Jg_storesOverNoRange 70 = .ok (.i2l, 1) := by decide +kernel
theorem d_Jg_storesOverNoRange_71 : decode b_Jg_storesOverNoRange 71 = .ok (.ladd, 1) := by decide +kernel
theorem d_Jg_storesOverNoRange_72 : decode b_Jg_storesOverNoRange 72 = .ok (.lstore 4, 2) := by decide +kernel
theorem d_Jg_storesOverNoRange_74 : decode b_Jg_storesOverNoRange 74 = .ok (.iconst 0, 1) := by decide +kernel
theorem d_Jg_storesOverNoRange_75 : decode b_Jg_storesOverNoRange 75 = .ok (.istore 6, 2) := by decide +kernel
theorem d_Jg_storesOverNoRange_77 : decode b_Jg_storesOverNoRange 77 = .ok (.iload 6, 2) := by decide +kernel
theorem d_Jg_storesOverNoRange_79 : decode b_Jg_storesOverNoRange 79 = .ok (.bipush 6, 2) := by decide +kernel
theorem d_Jg_storesOverNoRange_81 : decode b_Jg_storesOverNoRange 81 = .ok (.if_icmp .ge 59, 3) := by decide +kernel
theorem d_Jg_storesOverNoRange_84 : decode b_Jg_storesOverNoRange 84 = .ok (.bipush 6, 2) := by decide +kernel
theorem d_Jg_storesOverNoRange_86 : decode b_Jg_storesOverNoRange 86 = .ok (.iload 6, 2) := by decide +kernel
theorem d_Jg_storesOverNoRange_88 : decode b_Jg_storesOverNoRange 88 = .ok (.iadd, 1) := by decide +kernel
theorem d_Jg_storesOverNoRange_89 : decode b_Jg_storesOverNoRange 89 = .ok (.istore 7, 2) := by decide +kernel
theorem d_Jg_storesOverNoRange_91 : decode b_Jg_storesOverNoRange 91 = .ok (.iload 6, 2) := by decide +kernel
theorem d_Jg_storesOverNoRange_93 : decode b_Jg_storesOverNoRange 93 = .ok (.i2l, 1) := by decide +kernel
theorem d_Jg_storesOverNoRange_94 : decode b_Jg_storesOverNoRange 94 = .ok (.lload_n 2, 1) := by decide +kernel
theorem d_Jg_storesOverNoRange_95 : decode b_Jg_storesOverNoRange 95 = .ok (.lcmp, 1) := by decide +kernel
theorem d_Jg_storesOverNoRange_96 : decode b_Jg_storesOverNoRange 96 = .ok (.ifCond .lt 38, 3) := by decide +kernel
theorem d_Jg_storesOverNoRange_99 : decode b_Jg_storesOverNoRange 99 = .ok (.iload 6, 2) := by decide +kernel
theorem d_Jg_storesOverNoRange_101 : decode b_Jg_storesOverNoRange 101 = .ok (.i2l, 1) := by decide +kernel
theorem d_Jg_storesOverNoRange_102 : decode b_Jg_storesOverNoRange 102 = .ok (.lload 4, 2) := by decide +kernel
theorem d_Jg_storesOverNoRange_104 : decode b_Jg_storesOverNoRange 104 = .ok (.lcmp, 1) := by decide +kernel
theorem d_Jg_storesOverNoRange_105 : decode b_Jg_storesOverNoRange 105 = .ok (.ifCond .gt 29, 3) := by decide +kernel
theorem d_Jg_storesOverNoRange_108 : decode b_Jg_storesOverNoRange 108 = .ok (.aload_n 0, 1) := by decide +kernel
theorem d_Jg_storesOverNoRange_109 : decode b_Jg_storesOverNoRange 109 = .ok (.getfield 15, 3) := by decide +kernel
theorem d_Jg_storesOverNoRange_112 : decode b_Jg_storesOverNoRange 112 = .ok (.iload 7, 2) := by decide +kernel
theorem d_Jg_storesOverNoRange_114 : decode b_Jg_storesOverNoRange 114 = .ok (.invokevirtual 67, 3) := by decide +kernel
theorem d_Jg_storesOverNoRange_117 : decode b_Jg_storesOverNoRange 117 = .ok (.ifCond .ne 17, 3) := by decide +kernel
theorem d_Jg_storesOverNoRange_120 : decode b_Jg_storesOverNoRange 120 = .ok (.aload_n 0, 1) := by decide +kernel
theorem d_Jg_storesOverNoRange_121 : decode b_Jg_storesOverNoRange 121 = .ok (.getfield 15, 3) := by decide +kernel
theorem d_Jg_storesOverNoRange_124 : decode b_Jg_storesOverNoRange 124 = .ok (.iload 7, 2) := by decide +kernel
theorem d_Jg_storesOverNoRange_126 : decode b_Jg_storesOverNoRange 126 = .ok (.invokevirtual 88, 3) := by decide +kernel
theorem d_Jg_storesOverNoRange_129 : decode b_Jg_storesOverNoRange 129 = .ok (.ifCond .ne 5, 3) := by decide +kernel
theorem d_Jg_storesOverNoRange_132 : decode b_Jg_storesOverNoRange 132 = .ok (.iconst 1, 1) := by decide +kernel
theorem d_Jg_storesOverNoRange_133 : decode b_Jg_storesOverNoRange 133 = .ok (.ireturn, 1) := by decide +kernel
theorem d_Jg_storesOverNoRange_134 : decode b_Jg_storesOverNoRange 134 = .ok (.iinc 6 1, 3) := by decide +kernel
theorem d_Jg_storesOverNoRange_137 : decode b_Jg_storesOverNoRange 137 = .ok (.goto (-60), 3) := by decide +kernel
theorem d_Jg_storesOverNoRange_140 : decode b_Jg_storesOverNoRange 140 = .ok (.iconst 0, 1) := by decide +kernel
theorem d_Jg_storesOverNoRange_141 : decode b_Jg_storesOverNoRange 141 = .ok (.ireturn, 1) := by decide +kernel
theorem d_Jg_goesOutside_0 : decode b_Jg_goesOutside 0 = .ok (.aload_n 1, 1) := by decide +kernel
theorem d_Jg_goesOutside_1 : decode b_Jg_goesOutside 1 = .ok (.getfield 61, 3) := by decide +kernel
theorem d_Jg_goesOutside_4 : decode b_Jg_goesOutside 4 = .ok (.lookupswitch 122 #[(2, 44), (3, 63), (14, 94), (15, 108)], 44) := by decide +kernel
theorem d_Jg_goesOutside_48 : decode b_Jg_goesOutside 48 = .ok (.aload_n 0, 1) := by decide +kernel
theorem d_Jg_goesOutside_49 : decode b_Jg_goesOutside 49 = .ok (.aload_n 1, 1) := by decide +kernel
theorem d_Jg_goesOutside_50 : decode b_Jg_goesOutside 50 = .ok (.getfield 76, 3) := by decide +kernel
theorem d_Jg_goesOutside_53 : decode b_Jg_goesOutside 53 = .ok (.aload_n 1, 1) := by decide +kernel
theorem d_Jg_goesOutside_54 : decode b_Jg_goesOutside 54 = .ok (.getfield 64, 3) := by decide +kernel
theorem d_Jg_goesOutside_57 : decode b_Jg_goesOutside 57 = .ok (.i2l, 1) := by decide +kernel
theorem d_Jg_goesOutside_58 : decode b_Jg_goesOutside 58 = .ok (.aload_n 1, 1) := by decide +kernel
theorem d_Jg_goesOutside_59 : decode b_Jg_goesOutside 59 = .ok (.getfield 64, 3) := by decide +kernel
theorem d_Jg_goesOutside_62 : decode b_Jg_goesOutside 62 = .ok (.i2l, 1) := by decide +kernel
theorem d_Jg_goesOutside_63 : decode b_Jg_goesOutside 63 = .ok (.invokevirtual 117, 3) := by decide +kernel
theorem d_Jg_goesOutside_66 : decode b_Jg_goesOutside 66 = .ok (.ireturn, 1) := by decide +kernel
theorem d_Jg_goesOutside_67 : decode b_Jg_goesOutside 67 = .ok (.aload_n 0, 1) := by decide +kernel
theorem d_Jg_goesOutside_68 : decode b_Jg_goesOutside 68 = .ok (.aload_n 1, 1) := by decide +kernel
theorem d_Jg_goesOutside_69 : decode b_Jg_goesOutside 69 = .ok (.getfield 76, 3) := by decide +kernel
theorem d_Jg_goesOutside_72 : decode b_Jg_goesOutside 72 = .ok (.aload_n 0, 1) := by decide +kernel
theorem d_Jg_goesOutside_73 : decode b_Jg_goesOutside 73 = .ok (.getfield 15, 3) := by decide +kernel
theorem d_Jg_goesOutside_76 : decode b_Jg_goesOutside 76 = .ok (.aload_n 1, 1) := by decide +kernel
theorem d_Jg_goesOutside_77 : decode b_Jg_goesOutside 77 = .ok (.getfield 82, 3) := by decide +kernel
theorem d_Jg_goesOutside_80 : decode b_Jg_goesOutside 80 = .ok (.invokevirtual 110, 3) := by decide +kernel
theorem d_Jg_goesOutside_83 : decode b_Jg_goesOutside 83 = .ok (.aload_n 0, 1) := by decide +kernel
theorem d_Jg_goesOutside_84 : decode b_Jg_goesOutside 84 = .ok (.getfield 15, 3) := by decide +kernel
theorem d_Jg_goesOutside_87 : decode b_Jg_goesOutside 87 = .ok (.aload_n 1, 1) := by decide +kernel
theorem d_Jg_goesOutside_88 : decode b_Jg_goesOutside 88 = .ok (.getfield 82, 3) := by decide +kernel
theorem d_Jg_goesOutside_91 : decode b_Jg_goesOutside 91 = .ok (.invokevirtual 114, 3) := by decide +kernel
theorem d_Jg_goesOutside_94 : decode b_Jg_goesOutside 94 = .ok (.invokevirtual 117, 3) := by decide +kernel
theorem d_Jg_goesOutside_97 : decode b_Jg_goesOutside 97 = .ok (.ireturn, 1) := by decide +kernel
theorem d_Jg_goesOutside_98 : decode b_Jg_goesOutside 98 = .ok (.aload_n 0, 1) := by decide +kernel
theorem d_Jg_goesOutside_99 : decode b_Jg_goesOutside 99 = .ok (.aload_n 1, 1) := by decide +kernel
theorem d_Jg_goesOutside_100 : decode b_Jg_goesOutside 100 = .ok (.getfield 82, 3) := by decide +kernel
theorem d_Jg_goesOutside_103 : decode b_Jg_goesOutside 103 = .ok (.aload_n 1, 1) := by decide +kernel
theorem d_Jg_goesOutside_104 : decode b_Jg_goesOutside 104 = .ok (.getfield 64, 3) := by decide +kernel
theorem d_Jg_goesOutside_107 : decode b_Jg_goesOutside 107 = .ok (.i2l, 1) := by decide +kernel
theorem d_Jg_goesOutside_108 : decode b_Jg_goesOutside 108 = .ok (.invokevirtual 121, 3) := by decide +kernel
theorem d_Jg_goesOutside_111 : decode b_Jg_goesOutside 111 = .ok (.ireturn, 1) := by decide +kernel
theorem d_Jg_goesOutside_112 : decode b_Jg_goesOutside 112 = .ok (.aload_n 0, 1) := by decide +kernel
theorem d_Jg_goesOutside_113 : decode b_Jg_goesOutside 113 = .ok (.aload_n 1, 1) := by decide +kernel
theorem d_Jg_goesOutside_114 : decode b_Jg_goesOutside 114 = .ok (.getfield 76, 3) := by decide +kernel
theorem d_Jg_goesOutside_117 : decode b_Jg_goesOutside 117 = .ok (.aload_n 1, 1) := by decide +kernel
theorem d_Jg_goesOutside_118 : decode b_Jg_goesOutside 118 = .ok (.getfield 64, 3) := by decide +kernel
theorem d_Jg_goesOutside_121 : decode b_Jg_goesOutside 121 = .ok (.i2l, 1) := by decide +kernel
theorem d_Jg_goesOutside_122 : decode b_Jg_goesOutside 122 = .ok (.invokevirtual 121, 3) := by decide +kernel
theorem d_Jg_goesOutside_125 : decode b_Jg_goesOutside 125 = .ok (.ireturn, 1) := by decide +kernel
theorem d_Jg_goesOutside_126 : decode b_Jg_goesOutside 126 = .ok (.iconst 0, 1) := by decide +kernel
theorem d_Jg_goesOutside_127 : decode b_Jg_goesOutside 127 = .ok (.ireturn, 1) := by decide +kernel
theorem d_Jg_movesTooFar_0 : decode b_Jg_movesTooFar 0 = .ok (.aload_n 0, 1) := by decide +kernel
theorem d_Jg_movesTooFar_1 : decode b_Jg_movesTooFar 1 = .ok (.getfield 15, 3) := by decide +kernel
theorem d_Jg_movesTooFar_4 : decode b_Jg_movesTooFar 4 = .ok (.iload_n 1, 1) := by decide +kernel
theorem d_Jg_movesTooFar_5 : decode b_Jg_movesTooFar 5 = .ok (.invokevirtual 94, 3) := by decide +kernel
theorem d_Jg_movesTooFar_8 : decode b_Jg_movesTooFar 8 = .ok (.ifCond .eq 77, 3) := by decide +kernel
theorem d_Jg_movesTooFar_11 : decode b_Jg_movesTooFar 11 = .ok (.aload_n 0, 1) := by decide +kernel
theorem d_Jg_movesTooFar_12 : decode b_Jg_movesTooFar 12 = .ok (.getfield 15, 3) := by decide +kernel
theorem d_Jg_movesTooFar_15 : decode b_Jg_movesTooFar 15 = .ok (.iload_n 1, 1) := by decide +kernel
theorem d_Jg_movesTooFar_16 : decode b_Jg_movesTooFar 16 = .ok (.invokevirtual 110, 3) := by decide +kernel
theorem d_Jg_movesTooFar_19 : decode b_Jg_movesTooFar 19 = .ok (.lload_n 2, 1) := by decide +kernel
theorem d_Jg_movesTooFar_20 : decode b_Jg_movesTooFar 20 = .ok (.ladd, 1) := by decide +kernel
theorem d_Jg_movesTooFar_21 : decode b_Jg_movesTooFar 21 = .ok (.ldc2_w 125, 3) := by decide +kernel
theorem d_Jg_movesTooFar_24 : decode b_Jg_movesTooFar 24 = .ok (.lcmp, 1) := by decide +kernel
theorem d_Jg_movesTooFar_25 : decode b_Jg_movesTooFar 25 = .ok (.ifCond .lt 56, 3) := by decide +kernel
theorem d_Jg_movesTooFar_28 : decode b_Jg_movesTooFar 28 = .ok (.aload_n 0, 1) := by decide +kernel
theorem d_Jg_movesTooFar_29 : decode b_Jg_movesTooFar 29 = .ok (.getfield 15, 3) := by decide +kernel
theorem d_Jg_movesTooFar_32 : decode b_Jg_movesTooFar 32 = .ok (.iload_n 1, 1) := by decide +kernel
theorem d_Jg_movesTooFar_33 : decode b_Jg_movesTooFar 33 = .ok (.invokevirtual 110, 3) := by decide +kernel
theorem d_Jg_movesTooFar_36 : decode b_Jg_movesTooFar 36 = .ok (.lload_n 2, 1) := by decide +kernel
theorem d_Jg_movesTooFar_37 : decode b_Jg_movesTooFar 37 = .ok (.ladd, 1) := by decide +kernel
theorem d_Jg_movesTooFar_38 : decode b_Jg_movesTooFar 38 = .ok (.ldc2_w 127, 3) := by decide +kernel
theorem d_Jg_movesTooFar_41 : decode b_Jg_movesTooFar 41 = .ok (.lcmp, 1) := by decide +kernel
theorem d_Jg_movesTooFar_42 : decode b_Jg_movesTooFar 42 = .ok (.ifCond .gt 39, 3) := by decide +kernel
theorem d_Jg_movesTooFar_45 : decode b_Jg_movesTooFar 45 = .ok (.aload_n 0, 1) := by decide +kernel
theorem d_Jg_movesTooFar_46 : decode b_Jg_movesTooFar 46 = .ok (.getfield 15, 3) := by decide +kernel
theorem d_Jg_movesTooFar_49 : decode b_Jg_movesTooFar 49 = .ok (.iload_n 1, 1) := by decide +kernel
theorem d_Jg_movesTooFar_50 : decode b_Jg_movesTooFar 50 = .ok (.invokevirtual 114, 3) := by decide +kernel
theorem d_Jg_movesTooFar_53 : decode b_Jg_movesTooFar 53 = .ok (.lload 4, 2) := by decide +kernel
theorem d_Jg_movesTooFar_55 : decode b_Jg_movesTooFar 55 = .ok (.ladd, 1) := by decide +kernel
theorem d_Jg_movesTooFar_56 : decode b_Jg_movesTooFar 56 = .ok (.ldc2_w 125, 3) := by decide +kernel
theorem d_Jg_movesTooFar_59 : decode b_Jg_movesTooFar 59 = .ok (.lcmp, 1) := by decide +kernel
theorem d_Jg_movesTooFar_60 : decode b_Jg_movesTooFar 60 = .ok (.ifCond .lt 21, 3) := by decide +kernel
theorem d_Jg_movesTooFar_63 : decode b_Jg_movesTooFar 63 = .ok (.aload_n 0, 1) := by decide +kernel
theorem d_Jg_movesTooFar_64 : decode b_Jg_movesTooFar 64 = .ok (.getfield 15, 3) := by decide +kernel
theorem d_Jg_movesTooFar_67 : decode b_Jg_movesTooFar 67 = .ok (.iload_n 1, 1) := by decide +kernel
theorem d_Jg_movesTooFar_68 : decode b_Jg_movesTooFar 68 = .ok (.invokevirtual 114, 3) := by decide +kernel
theorem d_Jg_movesTooFar_71 : decode b_Jg_movesTooFar 71 = .ok (.lload 4, 2) := by decide +kernel
theorem d_Jg_movesTooFar_73 : decode b_Jg_movesTooFar 73 = .ok (.ladd, 1) := by decide +kernel
theorem d_Jg_movesTooFar_74 : decode b_Jg_movesTooFar 74 = .ok (.ldc2_w 127, 3) := by decide +kernel
theorem d_Jg_movesTooFar_77 : decode b_Jg_movesTooFar 77 = .ok (.lcmp, 1) := by decide +kernel
theorem d_Jg_movesTooFar_78 : decode b_Jg_movesTooFar 78 = .ok (.ifCond .le 7, 3) := by decide +kernel
theorem d_Jg_movesTooFar_81 : decode b_Jg_movesTooFar 81 = .ok (.iconst 1, 1) := by decide +kernel
theorem d_Jg_movesTooFar_82 : decode b_Jg_movesTooFar 82 = .ok (.goto 4, 3) := by decide +kernel
theorem d_Jg_movesTooFar_85 : decode b_Jg_movesTooFar 85 = .ok (.iconst 0, 1) := by decide +kernel
theorem d_Jg_movesTooFar_86 : decode b_Jg_movesTooFar 86 = .ok (.ireturn, 1) := by decide +kernel
theorem d_Jg_missesCells_0 : decode b_Jg_missesCells 0 = .ok (.aload_n 0, 1) := by decide +kernel
theorem d_Jg_missesCells_1 : decode b_Jg_missesCells 1 = .ok (.getfield 15, 3) := by decide +kernel
theorem d_Jg_missesCells_4 : decode b_Jg_missesCells 4 = .ok (.iload_n 1, 1) := by decide +kernel
theorem d_Jg_missesCells_5 : decode b_Jg_missesCells 5 = .ok (.invokevirtual 103, 3) := by decide +kernel
theorem d_Jg_missesCells_8 : decode b_Jg_missesCells 8 = .ok (.iconst 2, 1) := by decide +kernel
theorem d_Jg_missesCells_9 : decode b_Jg_missesCells 9 = .ok (.if_icmp .ne 8, 3) := by decide +kernel
theorem d_Jg_missesCells_12 : decode b_Jg_missesCells 12 = .ok (.bipush 6, 2) := by decide +kernel
theorem d_Jg_missesCells_14 : decode b_Jg_missesCells 14 = .ok (.goto 4, 3) := by decide +kernel
theorem d_Jg_missesCells_17 : decode b_Jg_missesCells 17 = .ok (.iconst 2, 1) := by decide +kernel
theorem d_Jg_missesCells_18 : decode b_Jg_missesCells 18 = .ok (.istore 4, 2) := by decide +kernel
theorem d_Jg_missesCells_20 : decode b_Jg_missesCells 20 = .ok (.aload_n 0, 1) := by decide +kernel
theorem d_Jg_missesCells_21 : decode b_Jg_missesCells 21 = .ok (.getfield 15, 3) := by decide +kernel
theorem d_Jg_missesCells_24 : decode b_Jg_missesCells 24 = .ok (.iload_n 1, 1) := by decide +kernel
theorem d_Jg_missesCells_25 : decode b_Jg_missesCells 25 = .ok (.invokevirtual 110, 3) := by decide +kernel
theorem d_Jg_missesCells_28 : decode b_Jg_missesCells 28 = .ok (.lload_n 2, 1) := by decide +kernel
theorem d_Jg_missesCells_29 : decode b_Jg_missesCells 29 = .ok (.ladd, 1) := by decide +kernel
theorem d_Jg_missesCells_30 : decode b_Jg_missesCells 30 = .ok (.lconst 0, 1) := by decide +kernel
theorem d_Jg_missesCells_31 : decode b_Jg_missesCells 31 = .ok (.lcmp, 1) := by decide +kernel
theorem d_Jg_missesCells_32 : decode b_Jg_missesCells 32 = .ok (.ifCond .lt 20, 3) := by decide +kernel
theorem d_Jg_missesCells_35 : decode b_Jg_missesCells 35 = .ok (.aload_n 0, 1) := by decide +kernel
theorem d_Jg_missesCells_36 : decode b_Jg_missesCells 36 = .ok (.getfield 15, 3) := by decide +kernel
theorem d_Jg_missesCells_39 : decode b_Jg_missesCells 39 = .ok (.iload_n 1, 1) := by decide +kernel
theorem d_Jg_missesCells_40 : decode b_Jg_missesCells 40 = .ok (.invokevirtual 114, 3) := by decide +kernel
theorem d_Jg_missesCells_43 : decode b_Jg_missesCells 43 = .ok (.lload_n 2, 1) := by decide +kernel
theorem d_Jg_missesCells_44 : decode b_Jg_missesCells 44 = .ok (.ladd, 1) := by decide +kernel
theorem d_Jg_missesCells_45 : decode b_Jg_missesCells 45 = .ok (.iload 4, 2) := by decide +kernel
theorem d_Jg_missesCells_47 : decode b_Jg_missesCells 47 = .ok (.i2l, 1) := by decide +kernel
theorem d_Jg_missesCells_48 : decode b_Jg_missesCells 48 = .ok (.lcmp, 1) := by decide +kernel
theorem d_Jg_missesCells_49 : decode b_Jg_missesCells 49 = .ok (.ifCond .lt 7, 3) := by decide +kernel
theorem d_Jg_missesCells_52 : decode b_Jg_missesCells 52 = .ok (.iconst 1, 1) := by decide +kernel
theorem d_Jg_missesCells_53 : decode b_Jg_missesCells 53 = .ok (.goto 4, 3) := by decide +kernel
theorem d_Jg_missesCells_56 : decode b_Jg_missesCells 56 = .ok (.iconst 0, 1) := by decide +kernel
theorem d_Jg_missesCells_57 : decode b_Jg_missesCells 57 = .ok (.ireturn, 1) := by decide +kernel
theorem d_Jg_loadsUnfitCell_0 : decode b_Jg_loadsUnfitCell 0 = .ok (.aload_n 1, 1) := by decide +kernel
theorem d_Jg_loadsUnfitCell_1 : decode b_Jg_loadsUnfitCell 1 = .ok (.getfield 61, 3) := by decide +kernel
theorem d_Jg_loadsUnfitCell_4 : decode b_Jg_loadsUnfitCell 4 = .ok (.bipush 14, 2) := by decide +kernel
theorem d_Jg_loadsUnfitCell_6 : decode b_Jg_loadsUnfitCell 6 = .ok (.if_icmp .ne 18, 3) := by decide +kernel
theorem d_Jg_loadsUnfitCell_9 : decode b_Jg_loadsUnfitCell 9 = .ok (.aload_n 0, 1) := by decide +kernel
theorem d_Jg_loadsUnfitCell_10 : decode b_Jg_loadsUnfitCell 10 = .ok (.getfield 15, 3) := by decide +kernel
theorem d_Jg_loadsUnfitCell_13 : decode b_Jg_loadsUnfitCell 13 = .ok (.aload_n 1, 1) := by decide +kernel
theorem d_Jg_loadsUnfitCell_14 : decode b_Jg_loadsUnfitCell 14 = .ok (.getfield 82, 3) := by decide +kernel
theorem d_Jg_loadsUnfitCell_17 : decode b_Jg_loadsUnfitCell 17 = .ok (.invokevirtual 103, 3) := by decide +kernel
theorem d_Jg_loadsUnfitCell_20 : decode b_Jg_loadsUnfitCell 20 = .ok (.iconst 2, 1) := by decide +kernel
theorem d_Jg_loadsUnfitCell_21 : decode b_Jg_loadsUnfitCell 21 = .ok (.if_icmp .eq 5, 3) := by decide +kernel
theorem d_Jg_loadsUnfitCell_24 : decode b_Jg_loadsUnfitCell 24 = .ok (.iconst 0, 1) := by decide +kernel
theorem d_Jg_loadsUnfitCell_25 : decode b_Jg_loadsUnfitCell 25 = .ok (.ireturn, 1) := by decide +kernel
theorem d_Jg_loadsUnfitCell_26 : decode b_Jg_loadsUnfitCell 26 = .ok (.aload_n 0, 1) := by decide +kernel
theorem d_Jg_loadsUnfitCell_27 : decode b_Jg_loadsUnfitCell 27 = .ok (.getfield 15, 3) := by decide +kernel
theorem d_Jg_loadsUnfitCell_30 : decode b_Jg_loadsUnfitCell 30 = .ok (.aload_n 1, 1) := by decide +kernel
theorem d_Jg_loadsUnfitCell_31 : decode b_Jg_loadsUnfitCell 31 = .ok (.getfield 82, 3) := by decide +kernel
theorem d_Jg_loadsUnfitCell_34 : decode b_Jg_loadsUnfitCell 34 = .ok (.invokevirtual 110, 3) := by decide +kernel
theorem d_Jg_loadsUnfitCell_37 : decode b_Jg_loadsUnfitCell 37 = .ok (.aload_n 1, 1) := by decide +kernel
theorem d_Jg_loadsUnfitCell_38 : decode b_Jg_loadsUnfitCell 38 = .ok (.getfield 64, 3) := by decide +kernel
theorem d_Jg_loadsUnfitCell_41 : decode b_Jg_loadsUnfitCell 41 = .ok (.i2l, 1) := by decide +kernel
theorem d_Jg_loadsUnfitCell_42 : decode b_Jg_loadsUnfitCell 42 = .ok (.ladd, 1) := by decide +kernel
theorem d_Jg_loadsUnfitCell_43 : decode b_Jg_loadsUnfitCell 43 = .ok (.lstore_n 2, 1) := by decide +kernel
theorem d_Jg_loadsUnfitCell_44 : decode b_Jg_loadsUnfitCell 44 = .ok (.aload_n 0, 1) := by decide +kernel
theorem d_Jg_loadsUnfitCell_45 : decode b_Jg_loadsUnfitCell 45 = .ok (.getfield 15, 3) := by decide +kernel
theorem d_Jg_loadsUnfitCell_48 : decode b_Jg_loadsUnfitCell 48 = .ok (.aload_n 1, 1) := by decide +kernel
theorem d_Jg_loadsUnfitCell_49 : decode b_Jg_loadsUnfitCell 49 = .ok (.getfield 82, 3) := by decide +kernel
theorem d_Jg_loadsUnfitCell_52 : decode b_Jg_loadsUnfitCell 52 = .ok (.invokevirtual 114, 3) := by decide +kernel
theorem d_Jg_loadsUnfitCell_55 : decode b_Jg_loadsUnfitCell 55 = .ok (.aload_n 1, 1) := by decide +kernel
theorem d_Jg_loadsUnfitCell_56 : decode b_Jg_loadsUnfitCell 56 = .ok (.getfield 64, 3) := by decide +kernel
theorem d_Jg_loadsUnfitCell_59 : decode b_Jg_loadsUnfitCell 59 = .ok (.i2l, 1) := by decide +kernel
theorem d_Jg_loadsUnfitCell_60 : decode b_Jg_loadsUnfitCell 60 = .ok (.ladd, 1) := by decide +kernel
theorem d_Jg_loadsUnfitCell_61 : decode b_Jg_loadsUnfitCell 61 = .ok (.lstore 4, 2) := by decide +kernel
theorem d_Jg_loadsUnfitCell_63 : decode b_Jg_loadsUnfitCell 63 = .ok (.iconst 0, 1) := by decide +kernel
theorem d_Jg_loadsUnfitCell_64 : decode b_Jg_loadsUnfitCell 64 = .ok (.istore 6, 2) := by decide +kernel
theorem d_Jg_loadsUnfitCell_66 : decode b_Jg_loadsUnfitCell 66 = .ok (.iload 6, 2) := by decide +kernel
theorem d_Jg_loadsUnfitCell_68 : decode b_Jg_loadsUnfitCell 68 = .ok (.bipush 6, 2) := by decide +kernel
theorem d_Jg_loadsUnfitCell_70 : decode b_Jg_loadsUnfitCell 70 = .ok (.if_icmp .ge 78, 3) := by decide +kernel
theorem d_Jg_loadsUnfitCell_73 : decode b_Jg_loadsUnfitCell 73 = .ok (.bipush 6, 2) := by decide +kernel
theorem d_Jg_loadsUnfitCell_75 : decode b_Jg_loadsUnfitCell 75 = .ok (.iload 6, 2) := by decide +kernel
theorem d_Jg_loadsUnfitCell_77 : decode b_Jg_loadsUnfitCell 77 = .ok (.iadd, 1) := by decide +kernel
theorem d_Jg_loadsUnfitCell_78 : decode b_Jg_loadsUnfitCell 78 = .ok (.istore 7, 2) := by decide +kernel
theorem d_Jg_loadsUnfitCell_80 : decode b_Jg_loadsUnfitCell 80 = .ok (.lload_n 2, 1) := by decide +kernel
theorem d_Jg_loadsUnfitCell_81 : decode b_Jg_loadsUnfitCell 81 = .ok (.lload 4, 2) := by decide +kernel
theorem d_Jg_loadsUnfitCell_83 : decode b_Jg_loadsUnfitCell 83 = .ok (.lcmp, 1) := by decide +kernel
theorem d_Jg_loadsUnfitCell_84 : decode b_Jg_loadsUnfitCell 84 = .ok (.ifCond .ne 23, 3) := by decide +kernel
theorem d_Jg_loadsUnfitCell_87 : decode b_Jg_loadsUnfitCell 87 = .ok (.aload_n 0, 1) := by decide +kernel
theorem d_Jg_loadsUnfitCell_88 : decode b_Jg_loadsUnfitCell 88 = .ok (.getfield 15, 3) := by decide +kernel
theorem d_Jg_loadsUnfitCell_91 : decode b_Jg_loadsUnfitCell 91 = .ok (.iload 7, 2) := by decide +kernel
theorem d_Jg_loadsUnfitCell_93 : decode b_Jg_loadsUnfitCell 93 = .ok (.invokevirtual 67, 3) := by decide +kernel
theorem d_Jg_loadsUnfitCell_96 : decode b_Jg_loadsUnfitCell 96 = .ok (.ifCond .ne 7, 3) := by decide +kernel
theorem d_Jg_loadsUnfitCell_99 : decode b_Jg_loadsUnfitCell 99 = .ok (.iconst 1, 1) := by decide +kernel
theorem d_Jg_loadsUnfitCell_100 : decode b_Jg_loadsUnfitCell 100 = .ok (.goto 16, 3) := by decide +kernel
theorem d_Jg_loadsUnfitCell_103 : decode b_Jg_loadsUnfitCell 103 = .ok (.iconst 0, 1) := by decide +kernel
theorem d_Jg_loadsUnfitCell_104 : decode b_Jg_loadsUnfitCell 104 = .ok (.goto 12, 3) := by decide +kernel
theorem d_Jg_loadsUnfitCell_107 : decode b_Jg_loadsUnfitCell 107 = .ok (.aload_n 0, 1) := by decide +kernel
theorem d_Jg_loadsUnfitCell_108 : decode b_Jg_loadsUnfitCell 108 = .ok (.getfield 15, 3) := by decide +kernel
theorem d_Jg_loadsUnfitCell_111 : decode b_Jg_loadsUnfitCell 111 = .ok (.iload 7, 2) := by decide +kernel
theorem d_Jg_loadsUnfitCell_113 : decode b_Jg_loadsUnfitCell 113 = .ok (.invokevirtual 88, 3) := by decide +kernel
theorem d_Jg_loadsUnfitCell_116 : decode b_Jg_loadsUnfitCell 116 = .ok (.istore 8, 2) := by decide +kernel
theorem d_Jg_loadsUnfitCell_118 : decode b_Jg_loadsUnfitCell 118 = .ok (.iload 6, 2) := by decide +kernel
theorem d_Jg_loadsUnfitCell_120 : decode b_Jg_loadsUnfitCell 120 = .ok (.i2l, 1) := by decide +kernel
theorem d_Jg_loadsUnfitCell_121 : decode b_Jg_loadsUnfitCell 121 = .ok (.lload_n 2, 1) := by decide +kernel
theorem d_Jg_loadsUnfitCell_122 : decode b_Jg_loadsUnfitCell 122 = .ok (.lcmp, 1) := by decide +kernel
theorem d_Jg_loadsUnfitCell_123 : decode b_Jg_loadsUnfitCell 123 = .ok (.ifCond .lt 19, 3) := by decide +kernel
theorem d_Jg_loadsUnfitCell_126 : decode b_Jg_loadsUnfitCell 126 = .ok (.iload 6, 2) := by decide +kernel
theorem d_Jg_loadsUnfitCell_128 : decode b_Jg_loadsUnfitCell 128 = .ok (.i2l, 1) := by decide +kernel
theorem d_Jg_loadsUnfitCell_129 : decode b_Jg_loadsUnfitCell 129 = .ok (.lload 4, 2) := by decide +kernel
theorem d_Jg_loadsUnfitCell_131 : decode b_Jg_loadsUnfitCell 131 = .ok (.lcmp, 1) := by decide +kernel
theorem d_Jg_loadsUnfitCell_132 : decode b_Jg_loadsUnfitCell 132 = .ok (.ifCond .gt 10, 3) := by decide +kernel
theorem d_Jg_loadsUnfitCell_135 : decode b_Jg_loadsUnfitCell 135 = .ok (.iload 8, 2) := by decide +kernel
theorem d_Jg_loadsUnfitCell_137 : decode b_Jg_loadsUnfitCell 137 = .ok (.ifCond .ne 5, 3) := by decide +kernel
theorem d_Jg_loadsUnfitCell_140 : decode b_Jg_loadsUnfitCell 140 = .ok (.iconst 1, 1) := by decide +kernel
theorem d_Jg_loadsUnfitCell_141 : decode b_Jg_loadsUnfitCell 141 = .ok (.ireturn, 1) := by decide +kernel
theorem d_Jg_loadsUnfitCell_142 : decode b_Jg_loadsUnfitCell 142 = .ok (.iinc 6 1, 3) := by decide +kernel
theorem d_Jg_loadsUnfitCell_145 : decode b_Jg_loadsUnfitCell 145 = .ok (.goto (-79), 3) := by decide +kernel
theorem d_Jg_loadsUnfitCell_148 : decode b_Jg_loadsUnfitCell 148 = .ok (.iconst 0, 1) := by decide +kernel
theorem d_Jg_loadsUnfitCell_149 : decode b_Jg_loadsUnfitCell 149 = .ok (.ireturn, 1) := by decide +kernel
theorem d_Jg_findsNoRow_0 : decode b_Jg_findsNoRow 0 = .ok (.aload_n 1, 1) := by decide +kernel
theorem d_Jg_findsNoRow_1 : decode b_Jg_findsNoRow 1 = .ok (.iconst 1, 1) := by decide +kernel
theorem d_Jg_findsNoRow_2 : decode b_Jg_findsNoRow 2 = .ok (.invokevirtual 129, 3) := by decide +kernel
theorem d_Jg_findsNoRow_5 : decode b_Jg_findsNoRow 5 = .ok (.ifCond .eq 35, 3) := by decide +kernel
theorem d_Jg_findsNoRow_8 : decode b_Jg_findsNoRow 8 = .ok (.aload_n 0, 1) := by decide +kernel
theorem d_Jg_findsNoRow_9 : decode b_Jg_findsNoRow 9 = .ok (.getfield 15, 3) := by decide +kernel
theorem d_Jg_findsNoRow_12 : decode b_Jg_findsNoRow 12 = .ok (.iconst 1, 1) := by decide +kernel
theorem d_Jg_findsNoRow_13 : decode b_Jg_findsNoRow 13 = .ok (.invokevirtual 110, 3) := by decide +kernel
theorem d_Jg_findsNoRow_16 : decode b_Jg_findsNoRow 16 = .ok (.lconst 0, 1) := by decide +kernel
theorem d_Jg_findsNoRow_17 : decode b_Jg_findsNoRow 17 = .ok (.lcmp, 1) := by decide +kernel
theorem d_Jg_findsNoRow_18 : decode b_Jg_findsNoRow 18 = .ok (.ifCond .lt 18, 3) := by decide +kernel
theorem d_Jg_findsNoRow_21 : decode b_Jg_findsNoRow 21 = .ok (.aload_n 0, 1) := by decide +kernel
theorem d_Jg_findsNoRow_22 : decode b_Jg_findsNoRow 22 = .ok (.getfield 15, 3) := by decide +kernel
theorem d_Jg_findsNoRow_25 : decode b_Jg_findsNoRow 25 = .ok (.iconst 1, 1) := by decide +kernel
theorem d_Jg_findsNoRow_26 : decode b_Jg_findsNoRow 26 = .ok (.invokevirtual 114, 3) := by decide +kernel
theorem d_Jg_findsNoRow_29 : decode b_Jg_findsNoRow 29 = .ok (.ldc2_w 132, 3) := by decide +kernel
theorem d_Jg_findsNoRow_32 : decode b_Jg_findsNoRow 32 = .ok (.lcmp, 1) := by decide +kernel
theorem d_Jg_findsNoRow_33 : decode b_Jg_findsNoRow 33 = .ok (.ifCond .le 7, 3) := by decide +kernel
theorem d_Jg_findsNoRow_36 : decode b_Jg_findsNoRow 36 = .ok (.iconst 1, 1) := by decide +kernel
theorem d_Jg_findsNoRow_37 : decode b_Jg_findsNoRow 37 = .ok (.goto 4, 3) := by decide +kernel
theorem d_Jg_findsNoRow_40 : decode b_Jg_findsNoRow 40 = .ok (.iconst 0, 1) := by decide +kernel
theorem d_Jg_findsNoRow_41 : decode b_Jg_findsNoRow 41 = .ok (.ireturn, 1) := by decide +kernel
theorem d_Rn_init_0 : decode b_Rn_init 0 = .ok (.aload_n 0, 1) := by decide +kernel
theorem d_Rn_init_1 : decode b_Rn_init 1 = .ok (.invokespecial 3, 3) := by decide +kernel
theorem d_Rn_init_4 : decode b_Rn_init 4 = .ok (.aload_n 0, 1) := by decide +kernel
theorem d_Rn_init_5 : decode b_Rn_init 5 = .ok (.aload_n 1, 1) := by decide +kernel
theorem d_Rn_init_6 : decode b_Rn_init 6 = .ok (.putfield 9, 3) := by decide +kernel
theorem d_Rn_init_9 : decode b_Rn_init 9 = .ok (.aload_n 0, 1) := by decide +kernel
theorem d_Rn_init_10 : decode b_Rn_init 10 = .ok (.bipush 6, 2) := by decide +kernel
theorem d_Rn_init_12 : decode b_Rn_init 12 = .ok (.iconst 2, 1) := by decide +kernel
theorem d_Rn_init_13 : decode b_Rn_init 13 = .ok (.multianewarray 15 2, 4) := by decide +kernel
theorem d_Rn_init_17 : decode b_Rn_init 17 = .ok (.putfield 17, 3) := by decide +kernel
theorem d_Rn_init_20 : decode b_Rn_init 20 = .ok (.aload_n 0, 1) := by decide +kernel
theorem d_Rn_init_21 : decode b_Rn_init 21 = .ok (.bipush 12, 2) := by decide +kernel
theorem d_Rn_init_23 : decode b_Rn_init 23 = .ok (.newarray .int, 2) := by decide +kernel
theorem d_Rn_init_25 : decode b_Rn_init 25 = .ok (.putfield 20, 3) := by decide +kernel
theorem d_Rn_init_28 : decode b_Rn_init 28 = .ok (.aload_n 0, 1) := by decide +kernel
theorem d_Rn_init_29 : decode b_Rn_init 29 = .ok (.bipush 12, 2) := by decide +kernel
theorem d_Rn_init_31 : decode b_Rn_init 31 = .ok (.newarray .long, 2) := by decide +kernel
theorem d_Rn_init_33 : decode b_Rn_init 33 = .ok (.putfield 24, 3) := by decide +kernel
theorem d_Rn_init_36 : decode b_Rn_init 36 = .ok (.aload_n 0, 1) := by decide +kernel
theorem d_Rn_init_37 : decode b_Rn_init 37 = .ok (.iconst 0, 1) := by decide +kernel
theorem d_Rn_init_38 : decode b_Rn_init 38 = .ok (.putfield 28, 3) := by decide +kernel
theorem d_Rn_init_41 : decode b_Rn_init 41 = .ok (.aload_n 0, 1) := by decide +kernel
theorem d_Rn_init_42 : decode b_Rn_init 42 = .ok (.iconst 0, 1) := by decide +kernel
theorem d_Rn_init_43 : decode b_Rn_init 43 = .ok (.putfield 32, 3) := by decide +kernel
theorem d_Rn_init_46 : decode b_Rn_init 46 = .ok (.return_, 1) := by decide +kernel
theorem d_Rn_stepsRun_0 : decode b_Rn_stepsRun 0 = .ok (.aload_n 0, 1) := by decide +kernel
theorem d_Rn_stepsRun_1 : decode b_Rn_stepsRun 1 = .ok (.getfield 28, 3) := by decide +kernel
theorem d_Rn_stepsRun_4 : decode b_Rn_stepsRun 4 = .ok (.ireturn, 1) := by decide +kernel
theorem d_Rn_countCalls_0 : decode b_Rn_countCalls 0 = .ok (.aload_n 0, 1) := by decide +kernel
theorem d_Rn_countCalls_1 : decode b_Rn_countCalls 1 = .ok (.getfield 32, 3) := by decide +kernel
theorem d_Rn_countCalls_4 : decode b_Rn_countCalls 4 = .ok (.ireturn, 1) := by decide +kernel
theorem d_Rn_mapCell_0 : decode b_Rn_mapCell 0 = .ok (.iload_n 1, 1) := by decide +kernel
theorem d_Rn_mapCell_1 : decode b_Rn_mapCell 1 = .ok (.iload_n 2, 1) := by decide +kernel
theorem d_Rn_mapCell_2 : decode b_Rn_mapCell 2 = .ok (.invokestatic 35, 3) := by decide +kernel
theorem d_Rn_mapCell_5 : decode b_Rn_mapCell 5 = .ok (.ifCond .eq 14, 3) := by decide +kernel
theorem d_Rn_mapCell_8 : decode b_Rn_mapCell 8 = .ok (.aload_n 0, 1) := by decide +kernel
theorem d_Rn_mapCell_9 : decode b_Rn_mapCell 9 = .ok (.getfield 17, 3) := by decide +kernel
theorem d_Rn_mapCell_12 : decode b_Rn_mapCell 12 = .ok (.iload_n 1, 1) := by decide +kernel
theorem d_Rn_mapCell_13 : decode b_Rn_mapCell 13 = .ok (.aaload, 1) := by decide +kernel
theorem d_Rn_mapCell_14 : decode b_Rn_mapCell 14 = .ok (.iload_n 2, 1) := by decide +kernel
theorem d_Rn_mapCell_15 : decode b_Rn_mapCell 15 = .ok (.laload, 1) := by decide +kernel
theorem d_Rn_mapCell_16 : decode b_Rn_mapCell 16 = .ok (.goto 4, 3) := by decide +kernel
theorem d_Rn_mapCell_19 : decode b_Rn_mapCell 19 = .ok (.lconst 0, 1) := by decide +kernel
theorem d_Rn_mapCell_20 : decode b_Rn_mapCell 20 = .ok (.lreturn, 1) := by decide +kernel
theorem d_Rn_setMapCell_0 : decode b_Rn_setMapCell 0 = .ok (.iload_n 1, 1) := by decide +kernel
theorem d_Rn_setMapCell_1 : decode b_Rn_setMapCell 1 = .ok (.iload_n 2, 1) := by decide +kernel
theorem d_Rn_setMapCell_2 : decode b_Rn_setMapCell 2 = .ok (.invokestatic 35, 3) := by decide +kernel
theorem d_Rn_setMapCell_5 : decode b_Rn_setMapCell 5 = .ok (.ifCond .eq 12, 3) := by decide +kernel
theorem d_Rn_setMapCell_8 : decode b_Rn_setMapCell 8 = .ok (.aload_n 0, 1) := by decide +kernel
theorem d_Rn_setMapCell_9 : decode b_Rn_setMapCell 9 = .ok (.getfield 17, 3) := by decide +kernel
theorem d_Rn_setMapCell_12 : decode b_Rn_setMapCell 12 = .ok (.iload_n 1, 1) := by decide +kernel
theorem d_Rn_setMapCell_13 : decode b_Rn_setMapCell 13 = .ok (.aaload, 1) := by decide +kernel
theorem d_Rn_setMapCell_14 : decode b_Rn_setMapCell 14 = .ok (.iload_n 2, 1) := by decide +kernel
theorem d_Rn_setMapCell_15 : decode b_Rn_setMapCell 15 = .ok (.lload_n 3, 1) := by decide +kernel
theorem d_Rn_setMapCell_16 : decode b_Rn_setMapCell 16 = .ok (.lastore, 1) := by decide +kernel
theorem d_Rn_setMapCell_17 : decode b_Rn_setMapCell 17 = .ok (.return_, 1) := by decide +kernel
theorem d_Rn_runThrough_0 : decode b_Rn_runThrough 0 = .ok (.iconst 0, 1) := by decide +kernel
theorem d_Rn_runThrough_1 : decode b_Rn_runThrough 1 = .ok (.istore_n 3, 1) := by decide +kernel
theorem d_Rn_runThrough_2 : decode b_Rn_runThrough 2 = .ok (.iload_n 3, 1) := by decide +kernel
theorem d_Rn_runThrough_3 : decode b_Rn_runThrough 3 = .ok (.bipush 12, 2) := by decide +kernel
theorem d_Rn_runThrough_5 : decode b_Rn_runThrough 5 = .ok (.if_icmp .ge 16, 3) := by decide +kernel
theorem d_Rn_runThrough_8 : decode b_Rn_runThrough 8 = .ok (.aload_n 0, 1) := by decide +kernel
theorem d_Rn_runThrough_9 : decode b_Rn_runThrough 9 = .ok (.iload_n 3, 1) := by decide +kernel
theorem d_Rn_runThrough_10 : decode b_Rn_runThrough 10 = .ok (.iconst 0, 1) := by decide +kernel
theorem d_Rn_runThrough_11 : decode b_Rn_runThrough 11 = .ok (.lconst 0, 1) := by decide +kernel
theorem d_Rn_runThrough_12 : decode b_Rn_runThrough 12 = .ok (.invokevirtual 39, 3) := by decide +kernel
theorem d_Rn_runThrough_15 : decode b_Rn_runThrough 15 = .ok (.iinc 3 1, 3) := by decide +kernel
theorem d_Rn_runThrough_18 : decode b_Rn_runThrough 18 = .ok (.goto (-16), 3) := by decide +kernel
theorem d_Rn_runThrough_21 : decode b_Rn_runThrough 21 = .ok (.aload_n 0, 1) := by decide +kernel
theorem d_Rn_runThrough_22 : decode b_Rn_runThrough 22 = .ok (.iconst 1, 1) := by decide +kernel
theorem d_Rn_runThrough_23 : decode b_Rn_runThrough 23 = .ok (.iconst 1, 1) := by decide +kernel
theorem d_Rn_runThrough_24 : decode b_Rn_runThrough 24 = .ok (.lload_n 1, 1) := by decide +kernel
theorem d_Rn_runThrough_25 : decode b_Rn_runThrough 25 = .ok (.invokevirtual 39, 3) := by decide +kernel
theorem d_Rn_runThrough_28 : decode b_Rn_runThrough 28 = .ok (.aload_n 0, 1) := by decide +kernel
theorem d_Rn_runThrough_29 : decode b_Rn_runThrough 29 = .ok (.iconst 2, 1) := by decide +kernel
theorem d_Rn_runThrough_30 : decode b_Rn_runThrough 30 = .ok (.iconst 2, 1) := by decide +kernel
theorem d_Rn_runThrough_31 : decode b_Rn_runThrough 31 = .ok (.lconst 0, 1) := by decide +kernel
theorem d_Rn_runThrough_32 : decode b_Rn_runThrough 32 = .ok (.invokevirtual 39, 3) := by decide +kernel
theorem d_Rn_runThrough_35 : decode b_Rn_runThrough 35 = .ok (.aload_n 0, 1) := by decide +kernel
theorem d_Rn_runThrough_36 : decode b_Rn_runThrough 36 = .ok (.iconst 0, 1) := by decide +kernel
theorem d_Rn_runThrough_37 : decode b_Rn_runThrough 37 = .ok (.putfield 28, 3) := by decide +kernel
theorem d_Rn_runThrough_40 : decode b_Rn_runThrough 40 = .ok (.iconst 0, 1) := by decide +kernel
theorem d_Rn_runThrough_41 : decode b_Rn_runThrough 41 = .ok (.istore_n 3, 1) := by decide +kernel
theorem d_Rn_runThrough_42 : decode b_Rn_runThrough 42 = .ok (.iconst 0, 1) := by decide +kernel
theorem d_Rn_runThrough_43 : decode b_Rn_runThrough 43 = .ok (.istore 4, 2) := by decide +kernel
theorem d_Rn_runThrough_45 : decode b_Rn_runThrough 45 = .ok (.iload 4, 2) := by decide +kernel
theorem d_Rn_runThrough_47 : decode b_Rn_runThrough 47 = .ok (.bipush 24, 2) := by decide +kernel
theorem d_Rn_runThrough_49 : decode b_Rn_runThrough 49 = .ok (.if_icmp .ge 30, 3) := by decide +kernel
theorem d_Rn_runThrough_52 : decode b_Rn_runThrough 52 = .ok (.iload_n 3, 1) := by decide +kernel
theorem d_Rn_runThrough_53 : decode b_Rn_runThrough 53 = .ok (.iconst (-1), 1) := by decide +kernel
theorem d_Rn_runThrough_54 : decode b_Rn_runThrough 54 = .ok (.if_icmp .eq 25, 3) := by decide +kernel
theorem d_Rn_runThrough_57 : decode b_Rn_runThrough 57 = .ok (.aload_n 0, 1) := by decide +kernel
theorem d_Rn_runThrough_58 : decode b_Rn_runThrough 58 = .ok (.dup, 1) := by decide +kernel
theorem d_Rn_runThrough_59 : decode b_Rn_runThrough 59 = .ok (.getfield 28, 3) := by decide +kernel
theorem d_Rn_runThrough_62 : decode b_Rn_runThrough 62 = .ok (.iconst 1, 1) := by decide +kernel
theorem d_Rn_runThrough_63 : decode b_Rn_runThrough 63 = .ok (.iadd, 1) := by decide +kernel
theorem d_Rn_runThrough_64 : decode b_Rn_runThrough 64 = .ok (.putfield 28, 3) := by decide +kernel
theorem d_Rn_runThrough_67 : decode b_Rn_runThrough 67 = .ok (.aload_n 0, 1) := by decide +kernel
theorem d_Rn_runThrough_68 : decode b_Rn_runThrough 68 = .ok (.iload_n 3, 1) := by decide +kernel
theorem d_Rn_runThrough_69 : decode b_Rn_runThrough 69 = .ok (.invokevirtual 43, 3) := by decide +kernel
theorem d_Rn_runThrough_72 : decode b_Rn_runThrough 72 = .ok (.istore_n 3, 1) := by decide +kernel
theorem d_Rn_runThrough_73 : decode b_Rn_runThrough 73 = .ok (.iinc 4 1, 3) := by decide +kernel
theorem d_Rn_runThrough_76 : decode b_Rn_runThrough 76 = .ok (.goto (-31), 3) := by decide +kernel
theorem d_Rn_runThrough_79 : decode b_Rn_runThrough 79 = .ok (.aload_n 0, 1) := by decide +kernel
theorem d_Rn_runThrough_80 : decode b_Rn_runThrough 80 = .ok (.getfield 24, 3) := by decide +kernel
theorem d_Rn_runThrough_83 : decode b_Rn_runThrough 83 = .ok (.iconst 0, 1) := by decide +kernel
theorem d_Rn_runThrough_84 : decode b_Rn_runThrough 84 = .ok (.laload, 1) := by decide +kernel
theorem d_Rn_runThrough_85 : decode b_Rn_runThrough 85 = .ok (.lreturn, 1) := by decide +kernel
theorem d_Rn_set_0 : decode b_Rn_set 0 = .ok (.aload_n 0, 1) := by decide +kernel
theorem d_Rn_set_1 : decode b_Rn_set 1 = .ok (.getfield 20, 3) := by decide +kernel
theorem d_Rn_set_4 : decode b_Rn_set 4 = .ok (.iload_n 1, 1) := by decide +kernel
theorem d_Rn_set_5 : decode b_Rn_set 5 = .ok (.iload_n 2, 1) := by decide +kernel
theorem d_Rn_set_6 : decode b_Rn_set 6 = .ok (.iastore, 1) := by decide +kernel
theorem d_Rn_set_7 : decode b_Rn_set 7 = .ok (.aload_n 0, 1) := by decide +kernel
theorem d_Rn_set_8 : decode b_Rn_set 8 = .ok (.getfield 24, 3) := by decide +kernel
theorem d_Rn_set_11 : decode b_Rn_set 11 = .ok (.iload_n 1, 1) := by decide +kernel
theorem d_Rn_set_12 : decode b_Rn_set 12 = .ok (.lload_n 3, 1) := by decide +kernel
theorem d_Rn_set_13 : decode b_Rn_set 13 = .ok (.lastore, 1) := by decide +kernel
theorem d_Rn_set_14 : decode b_Rn_set 14 = .ok (.return_, 1) := by decide +kernel
theorem d_Rn_runStep_0 : decode b_Rn_runStep 0 = .ok (.aload_n 0, 1) := by decide +kernel
theorem d_Rn_runStep_1 : decode b_Rn_runStep 1 = .ok (.getfield 9, 3) := by decide +kernel
theorem d_Rn_runStep_4 : decode b_Rn_runStep 4 = .ok (.iload_n 1, 1) := by decide +kernel
theorem d_Rn_runStep_5 : decode b_Rn_runStep 5 = .ok (.invokevirtual 47, 3) := by decide +kernel
theorem d_Rn_runStep_8 : decode b_Rn_runStep 8 = .ok (.astore_n 2, 1) := by decide +kernel
theorem d_Rn_runStep_9 : decode b_Rn_runStep 9 = .ok (.aload_n 2, 1) := by decide +kernel
theorem d_Rn_runStep_10 : decode b_Rn_runStep 10 = .ok (.ifnull 12, 3) := by decide +kernel
theorem d_Rn_runStep_13 : decode b_Rn_runStep 13 = .ok (.aload_n 2, 1) := by decide +kernel
theorem d_Rn_runStep_14 : decode b_Rn_runStep 14 = .ok (.getfield 53, 3) := by decide +kernel
theorem d_Rn_runStep_17 : decode b_Rn_runStep 17 = .ok (.bipush 17, 2) := by decide +kernel
theorem d_Rn_runStep_19 : decode b_Rn_runStep 19 = .ok (.if_icmp .ne 5, 3) := by decide +kernel
theorem d_Rn_runStep_22 : decode b_Rn_runStep 22 = .ok (.iconst (-1), 1) := by decide +kernel
theorem d_Rn_runStep_23 : decode b_Rn_runStep 23 = .ok (.ireturn, 1) := by decide +kernel
theorem d_Rn_runStep_24 : decode b_Rn_runStep 24 = .ok (.aload_n 2, 1) := by decide +kernel
theorem d_Rn_runStep_25 : decode b_Rn_runStep 25 = .ok (.invokevirtual 58, 3) := by decide +kernel
theorem d_Rn_runStep_28 : decode b_Rn_runStep 28 = .ok (.ifCond .eq 22, 3) := by decide +kernel
theorem d_Rn_runStep_31 : decode b_Rn_runStep 31 = .ok (.aload_n 0, 1) := by decide +kernel
theorem d_Rn_runStep_32 : decode b_Rn_runStep 32 = .ok (.aload_n 2, 1) := by decide +kernel
theorem d_Rn_runStep_33 : decode b_Rn_runStep 33 = .ok (.invokevirtual 62, 3) := by decide +kernel
theorem d_Rn_runStep_36 : decode b_Rn_runStep 36 = .ok (.ifCond .eq 10, 3) := by decide +kernel
theorem d_Rn_runStep_39 : decode b_Rn_runStep 39 = .ok (.aload_n 2, 1) := by decide +kernel
theorem d_Rn_runStep_40 : decode b_Rn_runStep 40 = .ok (.getfield 66, 3) := by decide +kernel
theorem d_Rn_runStep_43 : decode b_Rn_runStep 43 = .ok (.goto 6, 3) := by decide +kernel
theorem d_Rn_runStep_46 : decode b_Rn_runStep 46 = .ok (.iload_n 1, 1) := by decide +kernel
theorem d_Rn_runStep_47 : decode b_Rn_runStep 47 = .ok (.iconst 1, 1) := by decide +kernel
theorem d_Rn_runStep_48 : decode b_Rn_runStep 48 = .ok (.iadd, 1) := by decide +kernel
theorem d_Rn_runStep_49 : decode b_Rn_runStep 49 = .ok (.ireturn, 1) := by decide +kernel
theorem d_Rn_runStep_50 : decode b_Rn_runStep 50 = .ok (.aload_n 2, 1) := by decide +kernel
theorem d_Rn_runStep_51 : decode b_Rn_runStep 51 = .ok (.getfield 53, 3) := by decide +kernel
theorem d_Rn_runStep_54 : decode b_Rn_runStep 54 = .ok (.bipush 14, 2) := by decide +kernel
theorem d_Rn_runStep_56 : decode b_Rn_runStep 56 = .ok (.if_icmp .lt 11, 3) := by decide +kernel
theorem d_Rn_runStep_59 : decode b_Rn_runStep 59 = .ok (.aload_n 0, 1) := by decide +kernel
theorem d_Rn_runStep_60 : decode b_Rn_runStep 60 = .ok (.aload_n 2, 1) := by decide +kernel
theorem d_Rn_runStep_61 : decode b_Rn_runStep 61 = .ok (.invokevirtual 69, 3) := by decide +kernel
theorem d_Rn_runStep_64 : decode b_Rn_runStep 64 = .ok (.goto 8, 3) := by decide +kernel
theorem d_Rn_runStep_67 : decode b_Rn_runStep 67 = .ok (.aload_n 0, 1) := by decide +kernel
theorem d_Rn_runStep_68 : decode b_Rn_runStep 68 = .ok (.aload_n 2, 1) := by decide +kernel
theorem d_Rn_runStep_69 : decode b_Rn_runStep 69 = .ok (.invokevirtual 73, 3) := by decide +kernel
theorem d_Rn_runStep_72 : decode b_Rn_runStep 72 = .ok (.iload_n 1, 1) := by decide +kernel
theorem d_Rn_runStep_73 : decode b_Rn_runStep 73 = .ok (.iconst 1, 1) := by decide +kernel
theorem d_Rn_runStep_74 : decode b_Rn_runStep 74 = .ok (.iadd, 1) := by decide +kernel
theorem d_Rn_runStep_75 : decode b_Rn_runStep 75 = .ok (.ireturn, 1) := by decide +kernel
theorem d_Rn_jumps_0 : decode b_Rn_jumps 0 = .ok (.aload_n 1, 1) := by decide +kernel
theorem d_Rn_jumps_1 : decode b_Rn_jumps 1 = .ok (.getfield 53, 3) := by decide +kernel
theorem d_Rn_jumps_4 : decode b_Rn_jumps 4 = .ok (.tableswitch 117 10 12 #[28, 65, 89], 28) := by decide +kernel
theorem d_Rn_jumps_32 : decode b_Rn_jumps 32 = .ok (.aload_n 0, 1) := by decide +kernel
theorem d_Rn_jumps_33 : decode b_Rn_jumps 33 = .ok (.getfield 20, 3) := by decide +kernel
theorem d_Rn_jumps_36 : decode b_Rn_jumps 36 = .ok (.aload_n 1, 1) := by decide +kernel
theorem d_Rn_jumps_37 : decode b_Rn_jumps 37 = .ok (.getfield 76, 3) := by decide +kernel
theorem d_Rn_jumps_40 : decode b_Rn_jumps 40 = .ok (.iaload, 1) := by decide +kernel
theorem d_Rn_jumps_41 : decode b_Rn_jumps 41 = .ok (.iconst 1, 1) := by decide +kernel
theorem d_Rn_jumps_42 : decode b_Rn_jumps 42 = .ok (.if_icmp .ne 25, 3) := by decide +kernel
theorem d_Rn_jumps_45 : decode b_Rn_jumps 45 = .ok (.aload_n 0, 1) := by decide +kernel
theorem d_Rn_jumps_46 : decode b_Rn_jumps 46 = .ok (.getfield 24, 3) := by decide +kernel
theorem d_Rn_jumps_49 : decode b_Rn_jumps 49 = .ok (.aload_n 1, 1) := by decide +kernel
theorem d_Rn_jumps_50 : decode b_Rn_jumps 50 = .ok (.getfield 76, 3) := by decide +kernel
theorem d_Rn_jumps_53 : decode b_Rn_jumps 53 = .ok (.laload, 1) := by decide +kernel
theorem d_Rn_jumps_54 : decode b_Rn_jumps 54 = .ok (.aload_n 1, 1) := by decide +kernel
theorem d_Rn_jumps_55 : decode b_Rn_jumps 55 = .ok (.getfield 79, 3) := by decide +kernel
theorem d_Rn_jumps_58 : decode b_Rn_jumps 58 = .ok (.i2l, 1) := by decide +kernel
theorem d_Rn_jumps_59 : decode b_Rn_jumps 59 = .ok (.lcmp, 1) := by decide +kernel
theorem d_Rn_jumps_60 : decode b_Rn_jumps 60 = .ok (.ifCond .ne 7, 3) := by decide +kernel
theorem d_Rn_jumps_63 : decode b_Rn_jumps 63 = .ok (.iconst 1, 1) := by decide +kernel
theorem d_Rn_jumps_64 : decode b_Rn_jumps 64 = .ok (.goto 4, 3) := by decide +kernel
theorem d_Rn_jumps_67 : decode b_Rn_jumps 67 = .ok (.iconst 0, 1) := by decide +kernel
theorem d_Rn_jumps_68 : decode b_Rn_jumps 68 = .ok (.ireturn, 1) := by decide +kernel
theorem d_Rn_jumps_69 : decode b_Rn_jumps 69 = .ok (.aload_n 0, 1) := by decide +kernel
theorem d_Rn_jumps_70 : decode b_Rn_jumps 70 = .ok (.getfield 24, 3) := by decide +kernel
theorem d_Rn_jumps_73 : decode b_Rn_jumps 73 = .ok (.aload_n 1, 1) := by decide +kernel
theorem d_Rn_jumps_74 : decode b_Rn_jumps 74 = .ok (.getfield 76, 3) := by decide +kernel
theorem d_Rn_jumps_77 : decode b_Rn_jumps 77 = .ok (.laload, 1) := by decide +kernel
theorem d_Rn_jumps_78 : decode b_Rn_jumps 78 = .ok (.aload_n 1, 1) := by decide +kernel
theorem d_Rn_jumps_79 : decode b_Rn_jumps 79 = .ok (.getfield 79, 3) := by decide +kernel
theorem d_Rn_jumps_82 : decode b_Rn_jumps 82 = .ok (.i2l, 1) := by decide +kernel
theorem d_Rn_jumps_83 : decode b_Rn_jumps 83 = .ok (.lcmp, 1) := by decide +kernel
theorem d_Rn_jumps_84 : decode b_Rn_jumps 84 = .ok (.ifCond .le 7, 3) := by decide +kernel
theorem d_Rn_jumps_87 : decode b_Rn_jumps 87 = .ok (.iconst 1, 1) := by decide +kernel
theorem d_Rn_jumps_88 : decode b_Rn_jumps 88 = .ok (.goto 4, 3) := by decide +kernel
theorem d_Rn_jumps_91 : decode b_Rn_jumps 91 = .ok (.iconst 0, 1) := by decide +kernel
theorem d_Rn_jumps_92 : decode b_Rn_jumps 92 = .ok (.ireturn, 1) := by decide +kernel
theorem d_Rn_jumps_93 : decode b_Rn_jumps 93 = .ok (.aload_n 0, 1) := by decide +kernel
theorem d_Rn_jumps_94 : decode b_Rn_jumps 94 = .ok (.getfield 24, 3) := by decide +kernel
theorem d_Rn_jumps_97 : decode b_Rn_jumps 97 = .ok (.aload_n 1, 1) := by decide +kernel
theorem d_Rn_jumps_98 : decode b_Rn_jumps 98 = .ok (.getfield 76, 3) := by decide +kernel
theorem d_Rn_jumps_101 : decode b_Rn_jumps 101 = .ok (.laload, 1) := by decide +kernel
theorem d_Rn_jumps_102 : decode b_Rn_jumps 102 = .ok (.aload_n 0, 1) := by decide +kernel
theorem d_Rn_jumps_103 : decode b_Rn_jumps 103 = .ok (.getfield 24, 3) := by decide +kernel
theorem d_Rn_jumps_106 : decode b_Rn_jumps 106 = .ok (.aload_n 1, 1) := by decide +kernel
theorem d_Rn_jumps_107 : decode b_Rn_jumps 107 = .ok (.getfield 82, 3) := by decide +kernel
theorem d_Rn_jumps_110 : decode b_Rn_jumps 110 = .ok (.laload, 1) := by decide +kernel
theorem d_Rn_jumps_111 : decode b_Rn_jumps 111 = .ok (.lcmp, 1) := by decide +kernel
theorem d_Rn_jumps_112 : decode b_Rn_jumps 112 = .ok (.ifCond .ge 7, 3) := by decide +kernel
theorem d_Rn_jumps_115 : decode b_Rn_jumps 115 = .ok (.iconst 1, 1) := by decide +kernel
theorem d_Rn_jumps_116 : decode b_Rn_jumps 116 = .ok (.goto 4, 3) := by decide +kernel
theorem d_Rn_jumps_119 : decode b_Rn_jumps 119 = .ok (.iconst 0, 1) := by decide +kernel
theorem d_Rn_jumps_120 : decode b_Rn_jumps 120 = .ok (.ireturn, 1) := by decide +kernel
theorem d_Rn_jumps_121 : decode b_Rn_jumps 121 = .ok (.iconst 1, 1) := by decide +kernel
theorem d_Rn_jumps_122 : decode b_Rn_jumps 122 = .ok (.ireturn, 1) := by decide +kernel
theorem d_Rn_reckon_0 : decode b_Rn_reckon 0 = .ok (.aload_n 1, 1) := by decide +kernel
theorem d_Rn_reckon_1 : decode b_Rn_reckon 1 = .ok (.getfield 76, 3) := by decide +kernel
theorem d_Rn_reckon_4 : decode b_Rn_reckon 4 = .ok (.istore_n 2, 1) := by decide +kernel
theorem d_Rn_reckon_5 : decode b_Rn_reckon 5 = .ok (.aload_n 1, 1) := by decide +kernel
theorem d_Rn_reckon_6 : decode b_Rn_reckon 6 = .ok (.getfield 79, 3) := by decide +kernel
theorem d_Rn_reckon_9 : decode b_Rn_reckon 9 = .ok (.i2l, 1) := by decide +kernel
theorem d_Rn_reckon_10 : decode b_Rn_reckon 10 = .ok (.lstore_n 3, 1) := by decide +kernel
theorem d_Rn_reckon_11 : decode b_Rn_reckon 11 = .ok (.aload_n 1, 1) := by decide +kernel
theorem d_Rn_reckon_12 : decode b_Rn_reckon 12 = .ok (.getfield 53, 3) := by decide +kernel
theorem d_Rn_reckon_15 : decode b_Rn_reckon 15 = .ok (.tableswitch 229 0 9 #[53, 63, 89, 102, 123, 144, 157, 170, 186, 213], 53) := by decide +kernel
theorem d_Rn_reckon_68 : decode b_Rn_reckon 68 = .ok (.aload_n 0, 1) := by decide +kernel
theorem d_Rn_reckon_69 : decode b_Rn_reckon 69 = .ok (.iload_n 2, 1) := by decide +kernel
theorem d_Rn_reckon_70 : decode b_Rn_reckon 70 = .ok (.iconst 1, 1) := by decide +kernel
theorem d_Rn_reckon_71 : decode b_Rn_reckon 71 = .ok (.lload_n 3, 1) := by decide +kernel
theorem d_Rn_reckon_72 : decode b_Rn_reckon 72 = .ok (.invokevirtual 39, 3) := by decide +kernel
theorem d_Rn_reckon_75 : decode b_Rn_reckon 75 = .ok (.goto 169, 3) := by decide +kernel
theorem d_Rn_reckon_78 : decode b_Rn_reckon 78 = .ok (.aload_n 0, 1) := by decide +kernel
theorem d_Rn_reckon_79 : decode b_Rn_reckon 79 = .ok (.iload_n 2, 1) := by decide +kernel
theorem d_Rn_reckon_80 : decode b_Rn_reckon 80 = .ok (.aload_n 0, 1) := by decide +kernel
theorem d_Rn_reckon_81 : decode b_Rn_reckon 81 = .ok (.getfield 20, 3) := by decide +kernel
theorem d_Rn_reckon_84 : decode b_Rn_reckon 84 = .ok (.aload_n 1, 1) := by decide +kernel
theorem d_Rn_reckon_85 : decode b_Rn_reckon 85 = .ok (.getfield 82, 3) := by decide +kernel
theorem d_Rn_reckon_88 : decode b_Rn_reckon 88 = .ok (.iaload, 1) := by decide +kernel
theorem d_Rn_reckon_89 : decode b_Rn_reckon 89 = .ok (.aload_n 0, 1) := by decide +kernel
theorem d_Rn_reckon_90 : decode b_Rn_reckon 90 = .ok (.getfield 24, 3) := by decide +kernel
theorem d_Rn_reckon_93 : decode b_Rn_reckon 93 = .ok (.aload_n 1, 1) := by decide +kernel
theorem d_Rn_reckon_94 : decode b_Rn_reckon 94 = .ok (.getfield 82, 3) := by decide +kernel
theorem d_Rn_reckon_97 : decode b_Rn_reckon 97 = .ok (.laload, 1) := by decide +kernel
theorem d_Rn_reckon_98 : decode b_Rn_reckon 98 = .ok (.invokevirtual 39, 3) := by decide +kernel
theorem d_Rn_reckon_101 : decode b_Rn_reckon 101 = .ok (.goto 143, 3) := by decide +kernel
theorem d_Rn_reckon_104 : decode b_Rn_reckon 104 = .ok (.aload_n 0, 1) := by decide +kernel
theorem d_Rn_reckon_105 : decode b_Rn_reckon 105 = .ok (.getfield 24, 3) := by decide +kernel
theorem d_Rn_reckon_108 : decode b_Rn_reckon 108 = .ok (.iload_n 2, 1) := by decide +kernel
theorem d_Rn_reckon_109 : decode b_Rn_reckon 109 = .ok (.dup2, 1) := by decide +kernel
theorem d_Rn_reckon_110 : decode b_Rn_reckon 110 = .ok (.laload, 1) := by decide +kernel
theorem d_Rn_reckon_111 : decode b_Rn_reckon 111 = .ok (.lload_n 3, 1) := by decide +kernel
theorem d_Rn_reckon_112 : decode b_Rn_reckon 112 = .ok (.ladd, 1) := by decide +kernel
theorem d_Rn_reckon_113 : decode b_Rn_reckon 113 = .ok (.lastore, 1) := by decide +kernel
theorem d_Rn_reckon_114 : decode b_Rn_reckon 114 = .ok (.goto 130, 3) := by decide +kernel
theorem d_Rn_reckon_117 : decode b_Rn_reckon 117 = .ok (.aload_n 0, 1) := by decide +kernel
theorem d_Rn_reckon_118 : decode b_Rn_reckon 118 = .ok (.getfield 24, 3) := by decide +kernel
theorem d_Rn_reckon_121 : decode b_Rn_reckon 121 = .ok (.iload_n 2, 1) := by decide +kernel
theorem d_Rn_reckon_122 : decode b_Rn_reckon 122 = .ok (.dup2, 1) := by decide +kernel
theorem d_Rn_reckon_123 : decode b_Rn_reckon 123 = .ok (.laload, 1) := by decide +kernel
theorem d_Rn_reckon_124 : decode b_Rn_reckon 124 = .ok (.aload_n 0, 1) := by decide +kernel
theorem d_Rn_reckon_125 : decode b_Rn_reckon 125 = .ok (.getfield 24, 3) := by decide +kernel
theorem d_Rn_reckon_128 : decode b_Rn_reckon 128 = .ok (.aload_n 1, 1) := by decide +kernel
theorem d_Rn_reckon_129 : decode b_Rn_reckon 129 = .ok (.getfield 82, 3) := by decide +kernel
theorem d_Rn_reckon_132 : decode b_Rn_reckon 132 = .ok (.laload, 1) := by decide +kernel
theorem d_Rn_reckon_133 : decode b_Rn_reckon 133 = .ok (.ladd, 1) := by decide +kernel
theorem d_Rn_reckon_134 : decode b_Rn_reckon 134 = .ok (.lastore, 1) := by decide +kernel
theorem d_Rn_reckon_135 : decode b_Rn_reckon 135 = .ok (.goto 109, 3) := by decide +kernel
theorem d_Rn_reckon_138 : decode b_Rn_reckon 138 = .ok (.aload_n 0, 1) := by decide +kernel
theorem d_Rn_reckon_139 : decode b_Rn_reckon 139 = .ok (.getfield 24, 3) := by decide +kernel
theorem d_Rn_reckon_142 : decode b_Rn_reckon 142 = .ok (.iload_n 2, 1) := by decide +kernel
theorem d_Rn_reckon_143 : decode b_Rn_reckon 143 = .ok (.dup2, 1) := by decide +kernel
theorem d_Rn_reckon_144 : decode b_Rn_reckon 144 = .ok (.laload, 1) := by decide +kernel
theorem d_Rn_reckon_145 : decode b_Rn_reckon 145 = .ok (.aload_n 0, 1) := by decide +kernel
theorem d_Rn_reckon_146 : decode b_Rn_reckon 146 = .ok (.getfield 24, 3) := by decide +kernel
theorem d_Rn_reckon_149 : decode b_Rn_reckon 149 = .ok (.aload_n 1, 1) := by decide +kernel
theorem d_Rn_reckon_150 : decode b_Rn_reckon 150 = .ok (.getfield 82, 3) := by decide +kernel
theorem d_Rn_reckon_153 : decode b_Rn_reckon 153 = .ok (.laload, 1) := by decide +kernel
theorem d_Rn_reckon_154 : decode b_Rn_reckon 154 = .ok (.lsub, 1) := by decide +kernel
theorem d_Rn_reckon_155 : decode b_Rn_reckon 155 = .ok (.lastore, 1) := by decide +kernel
theorem d_Rn_reckon_156 : decode b_Rn_reckon 156 = .ok (.goto 88, 3) := by decide +kernel
theorem d_Rn_reckon_159 : decode b_Rn_reckon 159 = .ok (.aload_n 0, 1) := by decide +kernel
theorem d_Rn_reckon_160 : decode b_Rn_reckon 160 = .ok (.getfield 24, 3) := by decide +kernel
theorem d_Rn_reckon_163 : decode b_Rn_reckon 163 = .ok (.iload_n 2, 1) := by decide +kernel
theorem d_Rn_reckon_164 : decode b_Rn_reckon 164 = .ok (.dup2, 1) := by decide +kernel
theorem d_Rn_reckon_165 : decode b_Rn_reckon 165 = .ok (.laload, 1) := by decide +kernel
theorem d_Rn_reckon_166 : decode b_Rn_reckon 166 = .ok (.lload_n 3, 1) := by decide +kernel
theorem d_Rn_reckon_167 : decode b_Rn_reckon 167 = .ok (.lmul, 1) := by decide +kernel
theorem d_Rn_reckon_168 : decode b_Rn_reckon 168 = .ok (.lastore, 1) := by decide +kernel
theorem d_Rn_reckon_169 : decode b_Rn_reckon 169 = .ok (.goto 75, 3) := by decide +kernel
theorem d_Rn_reckon_172 : decode b_Rn_reckon 172 = .ok (.aload_n 0, 1) := by decide +kernel
theorem d_Rn_reckon_173 : decode b_Rn_reckon 173 = .ok (.getfield 24, 3) := by decide +kernel
theorem d_Rn_reckon_176 : decode b_Rn_reckon 176 = .ok (.iload_n 2, 1) := by decide +kernel
theorem d_Rn_reckon_177 : decode b_Rn_reckon 177 = .ok (.dup2, 1) := by decide +kernel
theorem d_Rn_reckon_178 : decode b_Rn_reckon 178 = .ok (.laload, 1) := by decide +kernel
theorem d_Rn_reckon_179 : decode b_Rn_reckon 179 = .ok (.lload_n 3, 1) := by decide +kernel
theorem d_Rn_reckon_180 : decode b_Rn_reckon 180 = .ok (.land, 1) := by decide +kernel
theorem d_Rn_reckon_181 : decode b_Rn_reckon 181 = .ok (.lastore, 1) := by decide +kernel
theorem d_Rn_reckon_182 : decode b_Rn_reckon 182 = .ok (.goto 62, 3) := by decide +kernel
theorem d_Rn_reckon_185 : decode b_Rn_reckon 185 = .ok (.aload_n 0, 1) := by decide +kernel
theorem d_Rn_reckon_186 : decode b_Rn_reckon 186 = .ok (.getfield 24, 3) := by decide +kernel
theorem d_Rn_reckon_189 : decode b_Rn_reckon 189 = .ok (.iload_n 2, 1) := by decide +kernel
theorem d_Rn_reckon_190 : decode b_Rn_reckon 190 = .ok (.dup2, 1) := by decide +kernel
theorem d_Rn_reckon_191 : decode b_Rn_reckon 191 = .ok (.laload, 1) := by decide +kernel
theorem d_Rn_reckon_192 : decode b_Rn_reckon 192 = .ok (.aload_n 1, 1) := by decide +kernel
theorem d_Rn_reckon_193 : decode b_Rn_reckon 193 = .ok (.getfield 79, 3) := by decide +kernel
theorem d_Rn_reckon_196 : decode b_Rn_reckon 196 = .ok (.lshr, 1) := by decide +kernel
theorem d_Rn_reckon_197 : decode b_Rn_reckon 197 = .ok (.lastore, 1) := by decide +kernel
theorem d_Rn_reckon_198 : decode b_Rn_reckon 198 = .ok (.goto 46, 3) := by decide +kernel
theorem d_Rn_reckon_201 : decode b_Rn_reckon 201 = .ok (.aload_n 0, 1) := by decide +kernel
theorem d_Rn_reckon_202 : decode b_Rn_reckon 202 = .ok (.getfield 24, 3) := by decide +kernel
theorem d_Rn_reckon_205 : decode b_Rn_reckon 205 = .ok (.iload_n 2, 1) := by decide +kernel
theorem d_Rn_reckon_206 : decode b_Rn_reckon 206 = .ok (.lload_n 3, 1) := by decide +kernel
theorem d_Rn_reckon_207 : decode b_Rn_reckon 207 = .ok (.lconst 0, 1) := by decide +kernel
theorem d_Rn_reckon_208 : decode b_Rn_reckon 208 = .ok (.lcmp, 1) := by decide +kernel
theorem d_Rn_reckon_209 : decode b_Rn_reckon 209 = .ok (.ifCond .ne 7, 3) := by decide +kernel
theorem d_Rn_reckon_212 : decode b_Rn_reckon 212 = .ok (.lconst 0, 1) := by decide +kernel
theorem d_Rn_reckon_213 : decode b_Rn_reckon 213 = .ok (.goto 11, 3) := by decide +kernel
theorem d_Rn_reckon_216 : decode b_Rn_reckon 216 = .ok (.aload_n 0, 1) := by decide +kernel
theorem d_Rn_reckon_217 : decode b_Rn_reckon 217 = .ok (.getfield 24, 3) := by decide +kernel
theorem d_Rn_reckon_220 : decode b_Rn_reckon 220 = .ok (.iload_n 2, 1) := by decide +kernel
theorem d_Rn_reckon_221 : decode b_Rn_reckon 221 = .ok (.laload, 1) := by decide +kernel
theorem d_Rn_reckon_222 : decode b_Rn_reckon 222 = .ok (.lload_n 3, 1) := by decide +kernel
theorem d_Rn_reckon_223 : decode b_Rn_reckon 223 = .ok (.ldiv, 1) := by decide +kernel
theorem d_Rn_reckon_224 : decode b_Rn_reckon 224 = .ok (.lastore, 1) := by decide +kernel
theorem d_Rn_reckon_225 : decode b_Rn_reckon 225 = .ok (.goto 19, 3) := by decide +kernel
theorem d_Rn_reckon_228 : decode b_Rn_reckon 228 = .ok (.aload_n 0, 1) := by decide +kernel
theorem d_Rn_reckon_229 : decode b_Rn_reckon 229 = .ok (.getfield 24, 3) := by decide +kernel
theorem d_Rn_reckon_232 : decode b_Rn_reckon 232 = .ok (.iload_n 2, 1) := by decide +kernel
theorem d_Rn_reckon_233 : decode b_Rn_reckon 233 = .ok (.aload_n 0, 1) := by decide +kernel
theorem d_Rn_reckon_234 : decode b_Rn_reckon 234 = .ok (.getfield 24, 3) := by decide +kernel
theorem d_Rn_reckon_237 : decode b_Rn_reckon 237 = .ok (.iload_n 2, 1) := by decide +kernel
theorem d_Rn_reckon_238 : decode b_Rn_reckon 238 = .ok (.laload, 1) := by decide +kernel
theorem d_Rn_reckon_239 : decode b_Rn_reckon 239 = .ok (.lneg, 1) := by decide +kernel
theorem d_Rn_reckon_240 : decode b_Rn_reckon 240 = .ok (.lastore, 1) := by decide +kernel
theorem d_Rn_reckon_241 : decode b_Rn_reckon 241 = .ok (.goto 3, 3) := by decide +kernel
theorem d_Rn_reckon_244 : decode b_Rn_reckon 244 = .ok (.return_, 1) := by decide +kernel
theorem d_Rn_reachOut_0 : decode b_Rn_reachOut 0 = .ok (.aload_n 1, 1) := by decide +kernel
theorem d_Rn_reachOut_1 : decode b_Rn_reachOut 1 = .ok (.getfield 53, 3) := by decide +kernel
theorem d_Rn_reachOut_4 : decode b_Rn_reachOut 4 = .ok (.bipush 14, 2) := by decide +kernel
theorem d_Rn_reachOut_6 : decode b_Rn_reachOut 6 = .ok (.if_icmp .ne 38, 3) := by decide +kernel
theorem d_Rn_reachOut_9 : decode b_Rn_reachOut 9 = .ok (.aload_n 0, 1) := by decide +kernel
theorem d_Rn_reachOut_10 : decode b_Rn_reachOut 10 = .ok (.aload_n 1, 1) := by decide +kernel
theorem d_Rn_reachOut_11 : decode b_Rn_reachOut 11 = .ok (.getfield 76, 3) := by decide +kernel
theorem d_Rn_reachOut_14 : decode b_Rn_reachOut 14 = .ok (.aload_n 0, 1) := by decide +kernel
theorem d_Rn_reachOut_15 : decode b_Rn_reachOut 15 = .ok (.getfield 20, 3) := by decide +kernel
theorem d_Rn_reachOut_18 : decode b_Rn_reachOut 18 = .ok (.aload_n 1, 1) := by decide +kernel
theorem d_Rn_reachOut_19 : decode b_Rn_reachOut 19 = .ok (.getfield 82, 3) := by decide +kernel
theorem d_Rn_reachOut_22 : decode b_Rn_reachOut 22 = .ok (.iaload, 1) := by decide +kernel
theorem d_Rn_reachOut_23 : decode b_Rn_reachOut 23 = .ok (.aload_n 0, 1) := by decide +kernel
theorem d_Rn_reachOut_24 : decode b_Rn_reachOut 24 = .ok (.getfield 24, 3) := by decide +kernel
theorem d_Rn_reachOut_27 : decode b_Rn_reachOut 27 = .ok (.aload_n 1, 1) := by decide +kernel
theorem d_Rn_reachOut_28 : decode b_Rn_reachOut 28 = .ok (.getfield 82, 3) := by decide +kernel
theorem d_Rn_reachOut_31 : decode b_Rn_reachOut 31 = .ok (.laload, 1) := by decide +kernel
theorem d_Rn_reachOut_32 : decode b_Rn_reachOut 32 = .ok (.aload_n 1, 1) := by decide +kernel
theorem d_Rn_reachOut_33 : decode b_Rn_reachOut 33 = .ok (.getfield 79, 3) := by decide +kernel
theorem d_Rn_reachOut_36 : decode b_Rn_reachOut 36 = .ok (.i2l, 1) := by decide +kernel
theorem d_Rn_reachOut_37 : decode b_Rn_reachOut 37 = .ok (.ladd, 1) := by decide +kernel
theorem d_Rn_reachOut_38 : decode b_Rn_reachOut 38 = .ok (.invokevirtual 85, 3) := by decide +kernel
theorem d_Rn_reachOut_41 : decode b_Rn_reachOut 41 = .ok (.goto 55, 3) := by decide +kernel
theorem d_Rn_reachOut_44 : decode b_Rn_reachOut 44 = .ok (.aload_n 1, 1) := by decide +kernel
theorem d_Rn_reachOut_45 : decode b_Rn_reachOut 45 = .ok (.getfield 53, 3) := by decide +kernel
theorem d_Rn_reachOut_48 : decode b_Rn_reachOut 48 = .ok (.bipush 15, 2) := by decide +kernel
theorem d_Rn_reachOut_50 : decode b_Rn_reachOut 50 = .ok (.if_icmp .ne 38, 3) := by decide +kernel
theorem d_Rn_reachOut_53 : decode b_Rn_reachOut 53 = .ok (.aload_n 0, 1) := by decide +kernel
theorem d_Rn_reachOut_54 : decode b_Rn_reachOut 54 = .ok (.aload_n 1, 1) := by decide +kernel
theorem d_Rn_reachOut_55 : decode b_Rn_reachOut 55 = .ok (.getfield 82, 3) := by decide +kernel
theorem d_Rn_reachOut_58 : decode b_Rn_reachOut 58 = .ok (.aload_n 0, 1) := by decide +kernel
theorem d_Rn_reachOut_59 : decode b_Rn_reachOut 59 = .ok (.getfield 20, 3) := by decide +kernel
theorem d_Rn_reachOut_62 : decode b_Rn_reachOut 62 = .ok (.aload_n 1, 1) := by decide +kernel
theorem d_Rn_reachOut_63 : decode b_Rn_reachOut 63 = .ok (.getfield 76, 3) := by decide +kernel
theorem d_Rn_reachOut_66 : decode b_Rn_reachOut 66 = .ok (.iaload, 1) := by decide +kernel
theorem d_Rn_reachOut_67 : decode b_Rn_reachOut 67 = .ok (.aload_n 0, 1) := by decide +kernel
theorem d_Rn_reachOut_68 : decode b_Rn_reachOut 68 = .ok (.getfield 24, 3) := by decide +kernel
theorem d_Rn_reachOut_71 : decode b_Rn_reachOut 71 = .ok (.aload_n 1, 1) := by decide +kernel
theorem d_Rn_reachOut_72 : decode b_Rn_reachOut 72 = .ok (.getfield 76, 3) := by decide +kernel
theorem d_Rn_reachOut_75 : decode b_Rn_reachOut 75 = .ok (.laload, 1) := by decide +kernel
theorem d_Rn_reachOut_76 : decode b_Rn_reachOut 76 = .ok (.aload_n 1, 1) := by decide +kernel
theorem d_Rn_reachOut_77 : decode b_Rn_reachOut 77 = .ok (.getfield 79, 3) := by decide +kernel
theorem d_Rn_reachOut_80 : decode b_Rn_reachOut 80 = .ok (.i2l, 1) := by decide +kernel
theorem d_Rn_reachOut_81 : decode b_Rn_reachOut 81 = .ok (.ladd, 1) := by decide +kernel
theorem d_Rn_reachOut_82 : decode b_Rn_reachOut 82 = .ok (.invokevirtual 88, 3) := by decide +kernel
theorem d_Rn_reachOut_85 : decode b_Rn_reachOut 85 = .ok (.goto 11, 3) := by decide +kernel
theorem d_Rn_reachOut_88 : decode b_Rn_reachOut 88 = .ok (.aload_n 0, 1) := by decide +kernel
theorem d_Rn_reachOut_89 : decode b_Rn_reachOut 89 = .ok (.aload_n 1, 1) := by decide +kernel
theorem d_Rn_reachOut_90 : decode b_Rn_reachOut 90 = .ok (.getfield 79, 3) := by decide +kernel
theorem d_Rn_reachOut_93 : decode b_Rn_reachOut 93 = .ok (.invokevirtual 91, 3) := by decide +kernel
theorem d_Rn_reachOut_96 : decode b_Rn_reachOut 96 = .ok (.return_, 1) := by decide +kernel
theorem d_Rn_load_0 : decode b_Rn_load 0 = .ok (.iload_n 2, 1) := by decide +kernel
theorem d_Rn_load_1 : decode b_Rn_load 1 = .ok (.iconst 2, 1) := by decide +kernel
theorem d_Rn_load_2 : decode b_Rn_load 2 = .ok (.if_icmp .eq 21, 3) := by decide +kernel
theorem d_Rn_load_5 : decode b_Rn_load 5 = .ok (.aload_n 0, 1) := by decide +kernel
theorem d_Rn_load_6 : decode b_Rn_load 6 = .ok (.iload_n 1, 1) := by decide +kernel
theorem d_Rn_load_7 : decode b_Rn_load 7 = .ok (.iconst 1, 1) := by decide +kernel
theorem d_Rn_load_8 : decode b_Rn_load 8 = .ok (.aload_n 0, 1) := by decide +kernel
theorem d_Rn_load_9 : decode b_Rn_load 9 = .ok (.iload_n 2, 1) := by decide +kernel
theorem d_Rn_load_10 : decode b_Rn_load 10 = .ok (.iconst 3, 1) := by decide +kernel
theorem d_Rn_load_11 : decode b_Rn_load 11 = .ok (.isub, 1) := by decide +kernel
theorem d_Rn_load_12 : decode b_Rn_load 12 = .ok (.lload_n 3, 1) := by decide +kernel
theorem d_Rn_load_13 : decode b_Rn_load 13 = .ok (.l2i, 1) := by decide +kernel
theorem d_Rn_load_14 : decode b_Rn_load 14 = .ok (.invokevirtual 95, 3) := by decide +kernel
theorem d_Rn_load_17 : decode b_Rn_load 17 = .ok (.invokevirtual 39, 3) := by decide +kernel
theorem d_Rn_load_20 : decode b_Rn_load 20 = .ok (.goto 43, 3) := by decide +kernel
theorem d_Rn_load_23 : decode b_Rn_load 23 = .ok (.lload_n 3, 1) := by decide +kernel
theorem d_Rn_load_24 : decode b_Rn_load 24 = .ok (.lconst 0, 1) := by decide +kernel
theorem d_Rn_load_25 : decode b_Rn_load 25 = .ok (.lcmp, 1) := by decide +kernel
theorem d_Rn_load_26 : decode b_Rn_load 26 = .ok (.ifCond .lt 37, 3) := by decide +kernel
theorem d_Rn_load_29 : decode b_Rn_load 29 = .ok (.lload_n 3, 1) := by decide +kernel
theorem d_Rn_load_30 : decode b_Rn_load 30 = .ok (.ldc2_w 99, 3) := by decide +kernel
theorem d_Rn_load_33 : decode b_Rn_load 33 = .ok (.lcmp, 1) := by decide +kernel
theorem d_Rn_load_34 : decode b_Rn_load 34 = .ok (.ifCond .ge 29, 3) := by decide +kernel
theorem d_Rn_load_37 : decode b_Rn_load 37 = .ok (.bipush 6, 2) := by decide +kernel
theorem d_Rn_load_39 : decode b_Rn_load 39 = .ok (.lload_n 3, 1) := by decide +kernel
theorem d_Rn_load_40 : decode b_Rn_load 40 = .ok (.l2i, 1) := by decide +kernel
theorem d_Rn_load_41 : decode b_Rn_load 41 = .ok (.iadd, 1) := by decide +kernel
theorem d_Rn_load_42 : decode b_Rn_load 42 = .ok (.istore 5, 2) := by decide +kernel
theorem d_Rn_load_44 : decode b_Rn_load 44 = .ok (.aload_n 0, 1) := by decide +kernel
theorem d_Rn_load_45 : decode b_Rn_load 45 = .ok (.iload_n 1, 1) := by decide +kernel
theorem d_Rn_load_46 : decode b_Rn_load 46 = .ok (.aload_n 0, 1) := by decide +kernel
theorem d_Rn_load_47 : decode b_Rn_load 47 = .ok (.getfield 20, 3) := by decide +kernel
theorem d_Rn_load_50 : decode b_Rn_load 50 = .ok (.iload 5, 2) := by decide +kernel
theorem d_Rn_load_52 : decode b_Rn_load 52 = .ok (.iaload, 1) := by decide +kernel
theorem d_Rn_load_53 : decode b_Rn_load 53 = .ok (.aload_n 0, 1) := by decide +kernel
theorem d_Rn_load_54 : decode b_Rn_load 54 = .ok (.getfield 24, 3) := by decide +kernel
theorem d_Rn_load_57 : decode b_Rn_load 57 = .ok (.iload 5, 2) := by decide +kernel
theorem d_Rn_load_59 : decode b_Rn_load 59 = .ok (.laload, 1) := by decide +kernel
theorem d_Rn_load_60 : decode b_Rn_load 60 = .ok (.invokevirtual 39, 3) := by decide +kernel
theorem d_Rn_load_63 : decode b_Rn_load 63 = .ok (.return_, 1) := by decide +kernel
theorem d_Rn_store_0 : decode b_Rn_store 0 = .ok (.iload_n 2, 1) := by decide +kernel
theorem d_Rn_store_1 : decode b_Rn_store 1 = .ok (.iconst 2, 1) := by decide +kernel
theorem d_Rn_store_2 : decode b_Rn_store 2 = .ok (.if_icmp .eq 21, 3) := by decide +kernel
theorem d_Rn_store_5 : decode b_Rn_store 5 = .ok (.aload_n 0, 1) := by decide +kernel
theorem d_Rn_store_6 : decode b_Rn_store 6 = .ok (.iload_n 2, 1) := by decide +kernel
theorem d_Rn_store_7 : decode b_Rn_store 7 = .ok (.iconst 3, 1) := by decide +kernel
theorem d_Rn_store_8 : decode b_Rn_store 8 = .ok (.isub, 1) := by decide +kernel
theorem d_Rn_store_9 : decode b_Rn_store 9 = .ok (.lload_n 3, 1) := by decide +kernel
theorem d_Rn_store_10 : decode b_Rn_store 10 = .ok (.l2i, 1) := by decide +kernel
theorem d_Rn_store_11 : decode b_Rn_store 11 = .ok (.aload_n 0, 1) := by decide +kernel
theorem d_Rn_store_12 : decode b_Rn_store 12 = .ok (.getfield 24, 3) := by decide +kernel
theorem d_Rn_store_15 : decode b_Rn_store 15 = .ok (.iload_n 1, 1) := by decide +kernel
theorem d_Rn_store_16 : decode b_Rn_store 16 = .ok (.laload, 1) := by decide +kernel
theorem d_Rn_store_17 : decode b_Rn_store 17 = .ok (.invokevirtual 101, 3) := by decide +kernel
theorem d_Rn_store_20 : decode b_Rn_store 20 = .ok (.goto 38, 3) := by decide +kernel
theorem d_Rn_store_23 : decode b_Rn_store 23 = .ok (.lload_n 3, 1) := by decide +kernel
theorem d_Rn_store_24 : decode b_Rn_store 24 = .ok (.lconst 0, 1) := by decide +kernel
theorem d_Rn_store_25 : decode b_Rn_store 25 = .ok (.lcmp, 1) := by decide +kernel
theorem d_Rn_store_26 : decode b_Rn_store 26 = .ok (.ifCond .lt 32, 3) := by decide +kernel
theorem d_Rn_store_29 : decode b_Rn_store 29 = .ok (.lload_n 3, 1) := by decide +kernel
theorem d_Rn_store_30 : decode b_Rn_store 30 = .ok (.ldc2_w 99, 3) := by decide +kernel
theorem d_Rn_store_33 : decode b_Rn_store 33 = .ok (.lcmp, 1) := by decide +kernel
theorem d_Rn_store_34 : decode b_Rn_store 34 = .ok (.ifCond .ge 24, 3) := by decide +kernel
theorem d_Rn_store_37 : decode b_Rn_store 37 = .ok (.aload_n 0, 1) := by decide +kernel
theorem d_Rn_store_38 : decode b_Rn_store 38 = .ok (.bipush 6, 2) := by decide +kernel
theorem d_Rn_store_40 : decode b_Rn_store 40 = .ok (.lload_n 3, 1) := by decide +kernel
theorem d_Rn_store_41 : decode b_Rn_store 41 = .ok (.l2i, 1) := by decide +kernel
theorem d_Rn_store_42 : decode b_Rn_store 42 = .ok (.iadd, 1) := by decide +kernel
theorem d_Rn_store_43 : decode b_Rn_store 43 = .ok (.aload_n 0, 1) := by decide +kernel
theorem d_Rn_store_44 : decode b_Rn_store 44 = .ok (.getfield 20, 3) := by decide +kernel
theorem d_Rn_store_47 : decode b_Rn_store 47 = .ok (.iload_n 1, 1) := by decide +kernel
theorem d_Rn_store_48 : decode b_Rn_store 48 = .ok (.iaload, 1) := by decide +kernel
theorem d_Rn_store_49 : decode b_Rn_store 49 = .ok (.aload_n 0, 1) := by decide +kernel
theorem d_Rn_store_50 : decode b_Rn_store 50 = .ok (.getfield 24, 3) := by decide +kernel
theorem d_Rn_store_53 : decode b_Rn_store 53 = .ok (.iload_n 1, 1) := by decide +kernel
theorem d_Rn_store_54 : decode b_Rn_store 54 = .ok (.laload, 1) := by decide +kernel
theorem d_Rn_store_55 : decode b_Rn_store 55 = .ok (.invokevirtual 39, 3) := by decide +kernel
theorem d_Rn_store_58 : decode b_Rn_store 58 = .ok (.return_, 1) := by decide +kernel
theorem d_Rn_call_0 : decode b_Rn_call 0 = .ok (.iload_n 1, 1) := by decide +kernel
theorem d_Rn_call_1 : decode b_Rn_call 1 = .ok (.ifCond .ne 30, 3) := by decide +kernel
theorem d_Rn_call_4 : decode b_Rn_call 4 = .ok (.aload_n 0, 1) := by decide +kernel
theorem d_Rn_call_5 : decode b_Rn_call 5 = .ok (.iconst 0, 1) := by decide +kernel
theorem d_Rn_call_6 : decode b_Rn_call 6 = .ok (.iconst 1, 1) := by decide +kernel
theorem d_Rn_call_7 : decode b_Rn_call 7 = .ok (.aload_n 0, 1) := by decide +kernel
theorem d_Rn_call_8 : decode b_Rn_call 8 = .ok (.getfield 32, 3) := by decide +kernel
theorem d_Rn_call_11 : decode b_Rn_call 11 = .ok (.bipush 100, 2) := by decide +kernel
theorem d_Rn_call_13 : decode b_Rn_call 13 = .ok (.irem, 1) := by decide +kernel
theorem d_Rn_call_14 : decode b_Rn_call 14 = .ok (.i2l, 1) := by decide +kernel
theorem d_Rn_call_15 : decode b_Rn_call 15 = .ok (.invokevirtual 39, 3) := by decide +kernel
theorem d_Rn_call_18 : decode b_Rn_call 18 = .ok (.aload_n 0, 1) := by decide +kernel
theorem d_Rn_call_19 : decode b_Rn_call 19 = .ok (.dup, 1) := by decide +kernel
theorem d_Rn_call_20 : decode b_Rn_call 20 = .ok (.getfield 32, 3) := by decide +kernel
theorem d_Rn_call_23 : decode b_Rn_call 23 = .ok (.iconst 1, 1) := by decide +kernel
theorem d_Rn_call_24 : decode b_Rn_call 24 = .ok (.iadd, 1) := by decide +kernel
theorem d_Rn_call_25 : decode b_Rn_call 25 = .ok (.putfield 32, 3) := by decide +kernel
theorem d_Rn_call_28 : decode b_Rn_call 28 = .ok (.goto 42, 3) := by decide +kernel
theorem d_Rn_call_31 : decode b_Rn_call 31 = .ok (.iload_n 1, 1) := by decide +kernel
theorem d_Rn_call_32 : decode b_Rn_call 32 = .ok (.iconst 1, 1) := by decide +kernel
theorem d_Rn_call_33 : decode b_Rn_call 33 = .ok (.if_icmp .ne 16, 3) := by decide +kernel
theorem d_Rn_call_36 : decode b_Rn_call 36 = .ok (.aload_n 0, 1) := by decide +kernel
theorem d_Rn_call_37 : decode b_Rn_call 37 = .ok (.aload_n 0, 1) := by decide +kernel
theorem d_Rn_call_38 : decode b_Rn_call 38 = .ok (.getfield 24, 3) := by decide +kernel
theorem d_Rn_call_41 : decode b_Rn_call 41 = .ok (.iconst 1, 1) := by decide +kernel
theorem d_Rn_call_42 : decode b_Rn_call 42 = .ok (.laload, 1) := by decide +kernel
theorem d_Rn_call_43 : decode b_Rn_call 43 = .ok (.invokevirtual 104, 3) := by decide +kernel
theorem d_Rn_call_46 : decode b_Rn_call 46 = .ok (.goto 24, 3) := by decide +kernel
theorem d_Rn_call_49 : decode b_Rn_call 49 = .ok (.aload_n 0, 1) := by decide +kernel
theorem d_Rn_call_50 : decode b_Rn_call 50 = .ok (.iconst 0, 1) := by decide +kernel
theorem d_Rn_call_51 : decode b_Rn_call 51 = .ok (.iconst 1, 1) := by decide +kernel
theorem d_Rn_call_52 : decode b_Rn_call 52 = .ok (.aload_n 0, 1) := by decide +kernel
theorem d_Rn_call_53 : decode b_Rn_call 53 = .ok (.getfield 24, 3) := by decide +kernel
theorem d_Rn_call_56 : decode b_Rn_call 56 = .ok (.iconst 1, 1) := by decide +kernel
theorem d_Rn_call_57 : decode b_Rn_call 57 = .ok (.laload, 1) := by decide +kernel
theorem d_Rn_call_58 : decode b_Rn_call 58 = .ok (.aload_n 0, 1) := by decide +kernel
theorem d_Rn_call_59 : decode b_Rn_call 59 = .ok (.getfield 24, 3) := by decide +kernel
theorem d_Rn_call_62 : decode b_Rn_call 62 = .ok (.iconst 2, 1) := by decide +kernel
theorem d_Rn_call_63 : decode b_Rn_call 63 = .ok (.laload, 1) := by decide +kernel
theorem d_Rn_call_64 : decode b_Rn_call 64 = .ok (.invokestatic 108, 3) := by decide +kernel
theorem d_Rn_call_67 : decode b_Rn_call 67 = .ok (.invokevirtual 39, 3) := by decide +kernel
theorem d_Rn_call_70 : decode b_Rn_call 70 = .ok (.aload_n 0, 1) := by decide +kernel
theorem d_Rn_call_71 : decode b_Rn_call 71 = .ok (.iconst 1, 1) := by decide +kernel
theorem d_Rn_call_72 : decode b_Rn_call 72 = .ok (.iconst 0, 1) := by decide +kernel
theorem d_Rn_call_73 : decode b_Rn_call 73 = .ok (.lconst 0, 1) := by decide +kernel
theorem d_Rn_call_74 : decode b_Rn_call 74 = .ok (.invokevirtual 39, 3) := by decide +kernel
theorem d_Rn_call_77 : decode b_Rn_call 77 = .ok (.aload_n 0, 1) := by decide +kernel
theorem d_Rn_call_78 : decode b_Rn_call 78 = .ok (.iconst 2, 1) := by decide +kernel
theorem d_Rn_call_79 : decode b_Rn_call 79 = .ok (.iconst 0, 1) := by decide +kernel
theorem d_Rn_call_80 : decode b_Rn_call 80 = .ok (.lconst 0, 1) := by decide +kernel
theorem d_Rn_call_81 : decode b_Rn_call 81 = .ok (.invokevirtual 39, 3) := by decide +kernel
theorem d_Rn_call_84 : decode b_Rn_call 84 = .ok (.aload_n 0, 1) := by decide +kernel
theorem d_Rn_call_85 : decode b_Rn_call 85 = .ok (.iconst 3, 1) := by decide +kernel
theorem d_Rn_call_86 : decode b_Rn_call 86 = .ok (.iconst 0, 1) := by decide +kernel
theorem d_Rn_call_87 : decode b_Rn_call 87 = .ok (.lconst 0, 1) := by decide +kernel
theorem d_Rn_call_88 : decode b_Rn_call 88 = .ok (.invokevirtual 39, 3) := by decide +kernel
theorem d_Rn_call_91 : decode b_Rn_call 91 = .ok (.return_, 1) := by decide +kernel
theorem d_Rn_findRow_0 : decode b_Rn_findRow 0 = .ok (.lload_n 1, 1) := by decide +kernel
theorem d_Rn_findRow_1 : decode b_Rn_findRow 1 = .ok (.lconst 0, 1) := by decide +kernel
theorem d_Rn_findRow_2 : decode b_Rn_findRow 2 = .ok (.lcmp, 1) := by decide +kernel
theorem d_Rn_findRow_3 : decode b_Rn_findRow 3 = .ok (.ifCond .lt 24, 3) := by decide +kernel
theorem d_Rn_findRow_6 : decode b_Rn_findRow 6 = .ok (.lload_n 1, 1) := by decide +kernel
theorem d_Rn_findRow_7 : decode b_Rn_findRow 7 = .ok (.ldc2_w 99, 3) := by decide +kernel
theorem d_Rn_findRow_10 : decode b_Rn_findRow 10 = .ok (.lcmp, 1) := by decide +kernel
theorem d_Rn_findRow_11 : decode b_Rn_findRow 11 = .ok (.ifCond .ge 16, 3) := by decide +kernel
theorem d_Rn_findRow_14 : decode b_Rn_findRow 14 = .ok (.aload_n 0, 1) := by decide +kernel
theorem d_Rn_findRow_15 : decode b_Rn_findRow 15 = .ok (.iconst 0, 1) := by decide +kernel
theorem d_Rn_findRow_16 : decode b_Rn_findRow 16 = .ok (.iconst 3, 1) := by decide +kernel
theorem d_Rn_findRow_17 : decode b_Rn_findRow 17 = .ok (.lload_n 1, 1) := by decide +kernel
theorem d_Rn_findRow_18 : decode b_Rn_findRow 18 = .ok (.l2i, 1) := by decide +kernel
theorem d_Rn_findRow_19 : decode b_Rn_findRow 19 = .ok (.iadd, 1) := by decide +kernel
theorem d_Rn_findRow_20 : decode b_Rn_findRow 20 = .ok (.lconst 0, 1) := by decide +kernel
theorem d_Rn_findRow_21 : decode b_Rn_findRow 21 = .ok (.invokevirtual 39, 3) := by decide +kernel
theorem d_Rn_findRow_24 : decode b_Rn_findRow 24 = .ok (.goto 10, 3) := by decide +kernel
theorem d_Rn_findRow_27 : decode b_Rn_findRow 27 = .ok (.aload_n 0, 1) := by decide +kernel
theorem d_Rn_findRow_28 : decode b_Rn_findRow 28 = .ok (.iconst 0, 1) := by decide +kernel
theorem d_Rn_findRow_29 : decode b_Rn_findRow 29 = .ok (.iconst 1, 1) := by decide +kernel
theorem d_Rn_findRow_30 : decode b_Rn_findRow 30 = .ok (.lconst 0, 1) := by decide +kernel
theorem d_Rn_findRow_31 : decode b_Rn_findRow 31 = .ok (.invokevirtual 39, 3) := by decide +kernel
theorem d_Rn_findRow_34 : decode b_Rn_findRow 34 = .ok (.return_, 1) := by decide +kernel
end
section
theorem d_Md_init_0 : decode b_Md_init 0 = .ok (.aload_n 0, 1) := by decide +kernel
theorem d_Md_init_1 : decode b_Md_init 1 = .ok (.invokespecial 1, 3) := by decide +kernel
theorem d_Md_init_4 : decode b_Md_init 4 = .ok (.aload_n 0, 1) := by decide +kernel
theorem d_Md_init_5 : decode b_Md_init 5 = .ok (.bipush 24, 2) := by decide +kernel
theorem d_Md_init_7 : decode b_Md_init 7 = .ok (.newarray .int, 2) := by decide +kernel
theorem d_Md_init_9 : decode b_Md_init 9 = .ok (.putfield 7, 3) := by decide +kernel
theorem d_Md_init_12 : decode b_Md_init 12 = .ok (.aload_n 0, 1) := by decide +kernel
theorem d_Md_init_13 : decode b_Md_init 13 = .ok (.bipush 24, 2) := by decide +kernel
theorem d_Md_init_15 : decode b_Md_init 15 = .ok (.newarray .int, 2) := by decide +kernel
theorem d_Md_init_17 : decode b_Md_init 17 = .ok (.putfield 13, 3) := by decide +kernel
theorem d_Md_init_20 : decode b_Md_init 20 = .ok (.aload_n 0, 1) := by decide +kernel
theorem d_Md_init_21 : decode b_Md_init 21 = .ok (.bipush 24, 2) := by decide +kernel
theorem d_Md_init_23 : decode b_Md_init 23 = .ok (.newarray .int, 2) := by decide +kernel
theorem d_Md_init_25 : decode b_Md_init 25 = .ok (.putfield 16, 3) := by decide +kernel
theorem d_Md_init_28 : decode b_Md_init 28 = .ok (.aload_n 0, 1) := by decide +kernel
theorem d_Md_init_29 : decode b_Md_init 29 = .ok (.bipush 24, 2) := by decide +kernel
theorem d_Md_init_31 : decode b_Md_init 31 = .ok (.newarray .int, 2) := by decide +kernel
theorem d_Md_init_33 : decode b_Md_init 33 = .ok (.putfield 19, 3) := by decide +kernel
theorem d_Md_init_36 : decode b_Md_init 36 = .ok (.aload_n 0, 1) := by decide +kernel
theorem d_Md_init_37 : decode b_Md_init 37 = .ok (.bipush 24, 2) := by decide +kernel
theorem d_Md_init_39 : decode b_Md_init 39 = .ok (.newarray .int, 2) := by decide +kernel
theorem d_Md_init_41 : decode b_Md_init 41 = .ok (.putfield 22, 3) := by decide +kernel
theorem d_Md_init_44 : decode b_Md_init 44 = .ok (.aload_n 0, 1) := by decide +kernel
theorem d_Md_init_45 : decode b_Md_init 45 = .ok (.bipush 12, 2) := by decide +kernel
theorem d_Md_init_47 : decode b_Md_init 47 = .ok (.newarray .int, 2) := by decide +kernel
theorem d_Md_init_49 : decode b_Md_init 49 = .ok (.putfield 25, 3) := by decide +kernel
theorem d_Md_init_52 : decode b_Md_init 52 = .ok (.aload_n 0, 1) := by decide +kernel
theorem d_Md_init_53 : decode b_Md_init 53 = .ok (.bipush 12, 2) := by decide +kernel
theorem d_Md_init_55 : decode b_Md_init 55 = .ok (.newarray .long, 2) := by decide +kernel
theorem d_Md_init_57 : decode b_Md_init 57 = .ok (.putfield 28, 3) := by decide +kernel
theorem d_Md_init_60 : decode b_Md_init 60 = .ok (.aload_n 0, 1) := by decide +kernel
theorem d_Md_init_61 : decode b_Md_init 61 = .ok (.bipush 12, 2) := by decide +kernel
theorem d_Md_init_63 : decode b_Md_init 63 = .ok (.newarray .long, 2) := by decide +kernel
theorem d_Md_init_65 : decode b_Md_init 65 = .ok (.putfield 32, 3) := by decide +kernel
theorem d_Md_init_68 : decode b_Md_init 68 = .ok (.aload_n 0, 1) := by decide +kernel
theorem d_Md_init_69 : decode b_Md_init 69 = .ok (.sipush 360, 3) := by decide +kernel
theorem d_Md_init_72 : decode b_Md_init 72 = .ok (.newarray .int, 2) := by decide +kernel
theorem d_Md_init_74 : decode b_Md_init 74 = .ok (.putfield 35, 3) := by decide +kernel
theorem d_Md_init_77 : decode b_Md_init 77 = .ok (.aload_n 0, 1) := by decide +kernel
theorem d_Md_init_78 : decode b_Md_init 78 = .ok (.bipush 30, 2) := by decide +kernel
theorem d_Md_init_80 : decode b_Md_init 80 = .ok (.newarray .int, 2) := by decide +kernel
theorem d_Md_init_82 : decode b_Md_init 82 = .ok (.putfield 38, 3) := by decide +kernel
theorem d_Md_init_85 : decode b_Md_init 85 = .ok (.aload_n 0, 1) := by decide +kernel
theorem d_Md_init_86 : decode b_Md_init 86 = .ok (.sipush 360, 3) := by decide +kernel
theorem d_Md_init_89 : decode b_Md_init 89 = .ok (.newarray .long, 2) := by decide +kernel
theorem d_Md_init_91 : decode b_Md_init 91 = .ok (.putfield 41, 3) := by decide +kernel
theorem d_Md_init_94 : decode b_Md_init 94 = .ok (.aload_n 0, 1) := by decide +kernel
theorem d_Md_init_95 : decode b_Md_init 95 = .ok (.sipush 360, 3) := by decide +kernel
theorem d_Md_init_98 : decode b_Md_init 98 = .ok (.newarray .long, 2) := by decide +kernel
theorem d_Md_init_100 : decode b_Md_init 100 = .ok (.putfield 44, 3) := by decide +kernel
theorem d_Md_init_103 : decode b_Md_init 103 = .ok (.aload_n 0, 1) := by decide +kernel
theorem d_Md_init_104 : decode b_Md_init 104 = .ok (.bipush 12, 2) := by decide +kernel
theorem d_Md_init_106 : decode b_Md_init 106 = .ok (.newarray .long, 2) := by decide +kernel
theorem d_Md_init_108 : decode b_Md_init 108 = .ok (.putfield 47, 3) := by decide +kernel
theorem d_Md_init_111 : decode b_Md_init 111 = .ok (.return_, 1) := by decide +kernel
theorem d_Md_thrown_0 : decode b_Md_thrown 0 = .ok (.aload_n 0, 1) := by decide +kernel
theorem d_Md_thrown_1 : decode b_Md_thrown 1 = .ok (.getfield 50, 3) := by decide +kernel
theorem d_Md_thrown_4 : decode b_Md_thrown 4 = .ok (.ireturn, 1) := by decide +kernel
theorem d_Md_in_0 : decode b_Md_in 0 = .ok (.lload_n 0, 1) := by decide +kernel
theorem d_Md_in_1 : decode b_Md_in 1 = .ok (.lload_n 2, 1) := by decide +kernel
theorem d_Md_in_2 : decode b_Md_in 2 = .ok (.lcmp, 1) := by decide +kernel
theorem d_Md_in_3 : decode b_Md_in 3 = .ok (.ifCond .lt 14, 3) := by decide +kernel
theorem d_Md_in_6 : decode b_Md_in 6 = .ok (.lload_n 0, 1) := by decide +kernel
theorem d_Md_in_7 : decode b_Md_in 7 = .ok (.lload 4, 2) := by decide +kernel
theorem d_Md_in_9 : decode b_Md_in 9 = .ok (.lcmp, 1) := by decide +kernel
theorem d_Md_in_10 : decode b_Md_in 10 = .ok (.ifCond .gt 7, 3) := by decide +kernel
theorem d_Md_in_13 : decode b_Md_in 13 = .ok (.iconst 1, 1) := by decide +kernel
theorem d_Md_in_14 : decode b_Md_in 14 = .ok (.goto 4, 3) := by decide +kernel
theorem d_Md_in_17 : decode b_Md_in 17 = .ok (.iconst 0, 1) := by decide +kernel
theorem d_Md_in_18 : decode b_Md_in 18 = .ok (.ireturn, 1) := by decide +kernel
theorem d_Md_bad_0 : decode b_Md_bad 0 = .ok (.aload_n 0, 1) := by decide +kernel
theorem d_Md_bad_1 : decode b_Md_bad 1 = .ok (.iload_n 1, 1) := by decide +kernel
theorem d_Md_bad_2 : decode b_Md_bad 2 = .ok (.ifCond .eq 7, 3) := by decide +kernel
theorem d_Md_bad_5 : decode b_Md_bad 5 = .ok (.iconst 0, 1) := by decide +kernel
theorem d_Md_bad_6 : decode b_Md_bad 6 = .ok (.goto 4, 3) := by decide +kernel
theorem d_Md_bad_9 : decode b_Md_bad 9 = .ok (.iconst 1, 1) := by decide +kernel
theorem d_Md_bad_10 : decode b_Md_bad 10 = .ok (.putfield 50, 3) := by decide +kernel
theorem d_Md_bad_13 : decode b_Md_bad 13 = .ok (.iload_n 1, 1) := by decide +kernel
theorem d_Md_bad_14 : decode b_Md_bad 14 = .ok (.ifCond .ne 7, 3) := by decide +kernel
theorem d_Md_bad_17 : decode b_Md_bad 17 = .ok (.iconst 1, 1) := by decide +kernel
theorem d_Md_bad_18 : decode b_Md_bad 18 = .ok (.goto 4, 3) := by decide +kernel
theorem d_Md_bad_21 : decode b_Md_bad 21 = .ok (.iconst 0, 1) := by decide +kernel
theorem d_Md_bad_22 : decode b_Md_bad 22 = .ok (.ireturn, 1) := by decide +kernel
theorem d_Md_fits_0 : decode b_Md_fits 0 = .ok (.iload_n 1, 1) := by decide +kernel
theorem d_Md_fits_1 : decode b_Md_fits 1 = .ok (.i2l, 1) := by decide +kernel
theorem d_Md_fits_2 : decode b_Md_fits 2 = .ok (.lconst 0, 1) := by decide +kernel
theorem d_Md_fits_3 : decode b_Md_fits 3 = .ok (.ldc2_w 54, 3) := by decide +kernel
theorem d_Md_fits_6 : decode b_Md_fits 6 = .ok (.invokestatic 56, 3) := by decide +kernel
theorem d_Md_fits_9 : decode b_Md_fits 9 = .ok (.ifCond .eq 44, 3) := by decide +kernel
theorem d_Md_fits_12 : decode b_Md_fits 12 = .ok (.iload_n 2, 1) := by decide +kernel
theorem d_Md_fits_13 : decode b_Md_fits 13 = .ok (.i2l, 1) := by decide +kernel
theorem d_Md_fits_14 : decode b_Md_fits 14 = .ok (.lconst 0, 1) := by decide +kernel
theorem d_Md_fits_15 : decode b_Md_fits 15 = .ok (.ldc2_w 60, 3) := by decide +kernel
theorem d_Md_fits_18 : decode b_Md_fits 18 = .ok (.invokestatic 56, 3) := by decide +kernel
theorem d_Md_fits_21 : decode b_Md_fits 21 = .ok (.ifCond .eq 32, 3) := by decide +kernel
theorem d_Md_fits_24 : decode b_Md_fits 24 = .ok (.iload_n 3, 1) := by decide +kernel
theorem d_Md_fits_25 : decode b_Md_fits 25 = .ok (.i2l, 1) := by decide +kernel
theorem d_Md_fits_26 : decode b_Md_fits 26 = .ok (.lconst 0, 1) := by decide +kernel
theorem d_Md_fits_27 : decode b_Md_fits 27 = .ok (.ldc2_w 60, 3) := by decide +kernel
theorem d_Md_fits_30 : decode b_Md_fits 30 = .ok (.invokestatic 56, 3) := by decide +kernel
theorem d_Md_fits_33 : decode b_Md_fits 33 = .ok (.ifCond .eq 20, 3) := by decide +kernel
theorem d_Md_fits_36 : decode b_Md_fits 36 = .ok (.iload 4, 2) := by decide +kernel
theorem d_Md_fits_38 : decode b_Md_fits 38 = .ok (.i2l, 1) := by decide +kernel
theorem d_Md_fits_39 : decode b_Md_fits 39 = .ok (.lconst 0, 1) := by decide +kernel
theorem d_Md_fits_40 : decode b_Md_fits 40 = .ok (.ldc2_w 62, 3) := by decide +kernel
theorem d_Md_fits_43 : decode b_Md_fits 43 = .ok (.invokestatic 56, 3) := by decide +kernel
theorem d_Md_fits_46 : decode b_Md_fits 46 = .ok (.ifCond .eq 7, 3) := by decide +kernel
theorem d_Md_fits_49 : decode b_Md_fits 49 = .ok (.iconst 1, 1) := by decide +kernel
theorem d_Md_fits_50 : decode b_Md_fits 50 = .ok (.goto 4, 3) := by decide +kernel
theorem d_Md_fits_53 : decode b_Md_fits 53 = .ok (.iconst 0, 1) := by decide +kernel
theorem d_Md_fits_54 : decode b_Md_fits 54 = .ok (.ireturn, 1) := by decide +kernel
theorem d_Md_set_0 : decode b_Md_set 0 = .ok (.aload_n 0, 1) := by decide +kernel
theorem d_Md_set_1 : decode b_Md_set 1 = .ok (.getfield 7, 3) := by decide +kernel
theorem d_Md_set_4 : decode b_Md_set 4 = .ok (.iload_n 1, 1) := by decide +kernel
theorem d_Md_set_5 : decode b_Md_set 5 = .ok (.iload_n 2, 1) := by decide +kernel
theorem d_Md_set_6 : decode b_Md_set 6 = .ok (.iastore, 1) := by decide +kernel
theorem d_Md_set_7 : decode b_Md_set 7 = .ok (.aload_n 0, 1) := by decide +kernel
theorem d_Md_set_8 : decode b_Md_set 8 = .ok (.getfield 13, 3) := by decide +kernel
theorem d_Md_set_11 : decode b_Md_set 11 = .ok (.iload_n 1, 1) := by decide +kernel
theorem d_Md_set_12 : decode b_Md_set 12 = .ok (.iload_n 3, 1) := by decide +kernel
theorem d_Md_set_13 : decode b_Md_set 13 = .ok (.iastore, 1) := by decide +kernel
theorem d_Md_set_14 : decode b_Md_set 14 = .ok (.aload_n 0, 1) := by decide +kernel
theorem d_Md_set_15 : decode b_Md_set 15 = .ok (.getfield 16, 3) := by decide +kernel
theorem d_Md_set_18 : decode b_Md_set 18 = .ok (.iload_n 1, 1) := by decide +kernel
theorem d_Md_set_19 : decode b_Md_set 19 = .ok (.iload 4, 2) := by decide +kernel
theorem d_Md_set_21 : decode b_Md_set 21 = .ok (.iastore, 1) := by decide +kernel
theorem d_Md_set_22 : decode b_Md_set 22 = .ok (.aload_n 0, 1) := by decide +kernel
theorem d_Md_set_23 : decode b_Md_set 23 = .ok (.getfield 19, 3) := by decide +kernel
theorem d_Md_set_26 : decode b_Md_set 26 = .ok (.iload_n 1, 1) := by decide +kernel
theorem d_Md_set_27 : decode b_Md_set 27 = .ok (.iload 5, 2) := by decide +kernel
theorem d_Md_set_29 : decode b_Md_set 29 = .ok (.iastore, 1) := by decide +kernel
theorem d_Md_set_30 : decode b_Md_set 30 = .ok (.aload_n 0, 1) := by decide +kernel
theorem d_Md_set_31 : decode b_Md_set 31 = .ok (.getfield 22, 3) := by decide +kernel
theorem d_Md_set_34 : decode b_Md_set 34 = .ok (.iload_n 1, 1) := by decide +kernel
theorem d_Md_set_35 : decode b_Md_set 35 = .ok (.iload 6, 2) := by decide +kernel
theorem d_Md_set_37 : decode b_Md_set 37 = .ok (.iastore, 1) := by decide +kernel
theorem d_Md_set_38 : decode b_Md_set 38 = .ok (.aload_n 0, 1) := by decide +kernel
theorem d_Md_set_39 : decode b_Md_set 39 = .ok (.iconst 0, 1) := by decide +kernel
theorem d_Md_set_40 : decode b_Md_set 40 = .ok (.putfield 64, 3) := by decide +kernel
theorem d_Md_set_43 : decode b_Md_set 43 = .ok (.return_, 1) := by decide +kernel
theorem d_Md_add_0 : decode b_Md_add 0 = .ok (.aload_n 0, 1) := by decide +kernel
theorem d_Md_add_1 : decode b_Md_add 1 = .ok (.aload_n 0, 1) := by decide +kernel
theorem d_Md_add_2 : decode b_Md_add 2 = .ok (.iload_n 1, 1) := by decide +kernel
theorem d_Md_add_3 : decode b_Md_add 3 = .ok (.iload_n 2, 1) := by decide +kernel
theorem d_Md_add_4 : decode b_Md_add 4 = .ok (.iload_n 3, 1) := by decide +kernel
theorem d_Md_add_5 : decode b_Md_add 5 = .ok (.iload 5, 2) := by decide +kernel
theorem d_Md_add_7 : decode b_Md_add 7 = .ok (.invokevirtual 68, 3) := by decide +kernel
theorem d_Md_add_10 : decode b_Md_add 10 = .ok (.invokevirtual 72, 3) := by decide +kernel
theorem d_Md_add_13 : decode b_Md_add 13 = .ok (.ifCond .eq 5, 3) := by decide +kernel
theorem d_Md_add_16 : decode b_Md_add 16 = .ok (.iconst 0, 1) := by decide +kernel
theorem d_Md_add_17 : decode b_Md_add 17 = .ok (.ireturn, 1) := by decide +kernel
theorem d_Md_add_18 : decode b_Md_add 18 = .ok (.aload_n 0, 1) := by decide +kernel
theorem d_Md_add_19 : decode b_Md_add 19 = .ok (.getfield 76, 3) := by decide +kernel
theorem d_Md_add_22 : decode b_Md_add 22 = .ok (.bipush 24, 2) := by decide +kernel
theorem d_Md_add_24 : decode b_Md_add 24 = .ok (.if_icmp .ne 10, 3) := by decide +kernel
theorem d_Md_add_27 : decode b_Md_add 27 = .ok (.aload_n 0, 1) := by decide +kernel
theorem d_Md_add_28 : decode b_Md_add 28 = .ok (.iconst 2, 1) := by decide +kernel
theorem d_Md_add_29 : decode b_Md_add 29 = .ok (.putfield 50, 3) := by decide +kernel
theorem d_Md_add_32 : decode b_Md_add 32 = .ok (.iconst 0, 1) := by decide +kernel
theorem d_Md_add_33 : decode b_Md_add 33 = .ok (.ireturn, 1) := by decide +kernel
theorem d_Md_add_34 : decode b_Md_add 34 = .ok (.aload_n 0, 1) := by decide +kernel
theorem d_Md_add_35 : decode b_Md_add 35 = .ok (.aload_n 0, 1) := by decide +kernel
theorem d_Md_add_36 : decode b_Md_add 36 = .ok (.getfield 76, 3) := by decide +kernel
theorem d_Md_add_39 : decode b_Md_add 39 = .ok (.iload_n 1, 1) := by decide +kernel
theorem d_Md_add_40 : decode b_Md_add 40 = .ok (.iload_n 2, 1) := by decide +kernel
theorem d_Md_add_41 : decode b_Md_add 41 = .ok (.iload_n 3, 1) := by decide +kernel
theorem d_Md_add_42 : decode b_Md_add 42 = .ok (.iload 4, 2) := by decide +kernel
theorem d_Md_add_44 : decode b_Md_add 44 = .ok (.iload 5, 2) := by decide +kernel
theorem d_Md_add_46 : decode b_Md_add 46 = .ok (.invokevirtual 79, 3) := by decide +kernel
theorem d_Md_add_49 : decode b_Md_add 49 = .ok (.aload_n 0, 1) := by decide +kernel
theorem d_Md_add_50 : decode b_Md_add 50 = .ok (.dup, 1) := by decide +kernel
theorem d_Md_add_51 : decode b_Md_add 51 = .ok (.getfield 76, 3) := by decide +kernel
theorem d_Md_add_54 : decode b_Md_add 54 = .ok (.iconst 1, 1) := by decide +kernel
theorem d_Md_add_55 : decode b_Md_add 55 = .ok (.iadd, 1) := by decide +kernel
theorem d_Md_add_56 : decode b_Md_add 56 = .ok (.putfield 76, 3) := by decide +kernel
theorem d_Md_add_59 : decode b_Md_add 59 = .ok (.aload_n 0, 1) := by decide +kernel
theorem d_Md_add_60 : decode b_Md_add 60 = .ok (.getfield 76, 3) := by decide +kernel
theorem d_Md_add_63 : decode b_Md_add 63 = .ok (.iconst 1, 1) := by decide +kernel
theorem d_Md_add_64 : decode b_Md_add 64 = .ok (.isub, 1) := by decide +kernel
theorem d_Md_add_65 : decode b_Md_add 65 = .ok (.ireturn, 1) := by decide +kernel
theorem d_Md_put_0 : decode b_Md_put 0 = .ok (.aload_n 0, 1) := by decide +kernel
theorem d_Md_put_1 : decode b_Md_put 1 = .ok (.aload_n 0, 1) := by decide +kernel
theorem d_Md_put_2 : decode b_Md_put 2 = .ok (.iload_n 2, 1) := by decide +kernel
theorem d_Md_put_3 : decode b_Md_put 3 = .ok (.iload_n 3, 1) := by decide +kernel
theorem d_Md_put_4 : decode b_Md_put 4 = .ok (.iload 4, 2) := by decide +kernel
theorem d_Md_put_6 : decode b_Md_put 6 = .ok (.iload 6, 2) := by decide +kernel
theorem d_Md_put_8 : decode b_Md_put 8 = .ok (.invokevirtual 68, 3) := by decide +kernel
theorem d_Md_put_11 : decode b_Md_put 11 = .ok (.invokevirtual 72, 3) := by decide +kernel
theorem d_Md_put_14 : decode b_Md_put 14 = .ok (.ifCond .eq 4, 3) := by decide +kernel
theorem d_Md_put_17 : decode b_Md_put 17 = .ok (.return_, 1) := by decide +kernel
theorem d_Md_put_18 : decode b_Md_put 18 = .ok (.iload_n 1, 1) := by decide +kernel
theorem d_Md_put_19 : decode b_Md_put 19 = .ok (.i2l, 1) := by decide +kernel
theorem d_Md_put_20 : decode b_Md_put 20 = .ok (.lconst 0, 1) := by decide +kernel
theorem d_Md_put_21 : decode b_Md_put 21 = .ok (.aload_n 0, 1) := by decide +kernel
theorem d_Md_put_22 : decode b_Md_put 22 = .ok (.getfield 76, 3) := by decide +kernel
theorem d_Md_put_25 : decode b_Md_put 25 = .ok (.iconst 1, 1) := by decide +kernel
theorem d_Md_put_26 : decode b_Md_put 26 = .ok (.isub, 1) := by decide +kernel
theorem d_Md_put_27 : decode b_Md_put 27 = .ok (.i2l, 1) := by decide +kernel
theorem d_Md_put_28 : decode b_Md_put 28 = .ok (.invokestatic 56, 3) := by decide +kernel
theorem d_Md_put_31 : decode b_Md_put 31 = .ok (.ifCond .ne 11, 3) := by decide +kernel
theorem d_Md_put_34 : decode b_Md_put 34 = .ok (.aload_n 0, 1) := by decide +kernel
theorem d_Md_put_35 : decode b_Md_put 35 = .ok (.iconst 2, 1) := by decide +kernel
theorem d_Md_put_36 : decode b_Md_put 36 = .ok (.putfield 50, 3) := by decide +kernel
theorem d_Md_put_39 : decode b_Md_put 39 = .ok (.goto 16, 3) := by decide +kernel
theorem d_Md_put_42 : decode b_Md_put 42 = .ok (.aload_n 0, 1) := by decide +kernel
theorem d_Md_put_43 : decode b_Md_put 43 = .ok (.iload_n 1, 1) := by decide +kernel
theorem d_Md_put_44 : decode b_Md_put 44 = .ok (.iload_n 2, 1) := by decide +kernel
theorem d_Md_put_45 : decode b_Md_put 45 = .ok (.iload_n 3, 1) := by decide +kernel
theorem d_Md_put_46 : decode b_Md_put 46 = .ok (.iload 4, 2) := by decide +kernel
theorem d_Md_put_48 : decode b_Md_put 48 = .ok (.iload 5, 2) := by decide +kernel
theorem d_Md_put_50 : decode b_Md_put 50 = .ok (.iload 6, 2) := by decide +kernel
theorem d_Md_put_52 : decode b_Md_put 52 = .ok (.invokevirtual 79, 3) := by decide +kernel
theorem d_Md_put_55 : decode b_Md_put 55 = .ok (.return_, 1) := by decide +kernel
theorem d_Md_cut_0 : decode b_Md_cut 0 = .ok (.aload_n 0, 1) := by decide +kernel
theorem d_Md_cut_1 : decode b_Md_cut 1 = .ok (.iload_n 1, 1) := by decide +kernel
theorem d_Md_cut_2 : decode b_Md_cut 2 = .ok (.i2l, 1) := by decide +kernel
theorem d_Md_cut_3 : decode b_Md_cut 3 = .ok (.lconst 0, 1) := by decide +kernel
theorem d_Md_cut_4 : decode b_Md_cut 4 = .ok (.aload_n 0, 1) := by decide +kernel
theorem d_Md_cut_5 : decode b_Md_cut 5 = .ok (.getfield 76, 3) := by decide +kernel
theorem d_Md_cut_8 : decode b_Md_cut 8 = .ok (.i2l, 1) := by decide +kernel
theorem d_Md_cut_9 : decode b_Md_cut 9 = .ok (.invokestatic 56, 3) := by decide +kernel
theorem d_Md_cut_12 : decode b_Md_cut 12 = .ok (.invokevirtual 72, 3) := by decide +kernel
theorem d_Md_cut_15 : decode b_Md_cut 15 = .ok (.ifCond .eq 4, 3) := by decide +kernel
theorem d_Md_cut_18 : decode b_Md_cut 18 = .ok (.return_, 1) := by decide +kernel
theorem d_Md_cut_19 : decode b_Md_cut 19 = .ok (.aload_n 0, 1) := by decide +kernel
theorem d_Md_cut_20 : decode b_Md_cut 20 = .ok (.iload_n 1, 1) := by decide +kernel
theorem d_Md_cut_21 : decode b_Md_cut 21 = .ok (.putfield 76, 3) := by decide +kernel
theorem d_Md_cut_24 : decode b_Md_cut 24 = .ok (.aload_n 0, 1) := by decide +kernel
theorem d_Md_cut_25 : decode b_Md_cut 25 = .ok (.iconst 0, 1) := by decide +kernel
theorem d_Md_cut_26 : decode b_Md_cut 26 = .ok (.putfield 64, 3) := by decide +kernel
theorem d_Md_cut_29 : decode b_Md_cut 29 = .ok (.return_, 1) := by decide +kernel
theorem d_Md_know_0 : decode b_Md_know 0 = .ok (.aload_n 0, 1) := by decide +kernel
theorem d_Md_know_1 : decode b_Md_know 1 = .ok (.getfield 25, 3) := by decide +kernel
theorem d_Md_know_4 : decode b_Md_know 4 = .ok (.iload_n 1, 1) := by decide +kernel
theorem d_Md_know_5 : decode b_Md_know 5 = .ok (.iload_n 2, 1) := by decide +kernel
theorem d_Md_know_6 : decode b_Md_know 6 = .ok (.iastore, 1) := by decide +kernel
theorem d_Md_know_7 : decode b_Md_know 7 = .ok (.aload_n 0, 1) := by decide +kernel
theorem d_Md_know_8 : decode b_Md_know 8 = .ok (.getfield 28, 3) := by decide +kernel
theorem d_Md_know_11 : decode b_Md_know 11 = .ok (.iload_n 1, 1) := by decide +kernel
theorem d_Md_know_12 : decode b_Md_know 12 = .ok (.lload_n 3, 1) := by decide +kernel
theorem d_Md_know_13 : decode b_Md_know 13 = .ok (.lastore, 1) := by decide +kernel
theorem d_Md_know_14 : decode b_Md_know 14 = .ok (.aload_n 0, 1) := by decide +kernel
theorem d_Md_know_15 : decode b_Md_know 15 = .ok (.getfield 32, 3) := by decide +kernel
theorem d_Md_know_18 : decode b_Md_know 18 = .ok (.iload_n 1, 1) := by decide +kernel
theorem d_Md_know_19 : decode b_Md_know 19 = .ok (.lload 5, 2) := by decide +kernel
theorem d_Md_know_21 : decode b_Md_know 21 = .ok (.lastore, 1) := by decide +kernel
theorem d_Md_know_22 : decode b_Md_know 22 = .ok (.return_, 1) := by decide +kernel
theorem d_Md_copy_0 : decode b_Md_copy 0 = .ok (.aload_n 0, 1) := by decide +kernel
theorem d_Md_copy_1 : decode b_Md_copy 1 = .ok (.iload_n 2, 1) := by decide +kernel
theorem d_Md_copy_2 : decode b_Md_copy 2 = .ok (.aload_n 0, 1) := by decide +kernel
theorem d_Md_copy_3 : decode b_Md_copy 3 = .ok (.getfield 25, 3) := by decide +kernel
theorem d_Md_copy_6 : decode b_Md_copy 6 = .ok (.iload_n 1, 1) := by decide +kernel
theorem d_Md_copy_7 : decode b_Md_copy 7 = .ok (.iaload, 1) := by decide +kernel
theorem d_Md_copy_8 : decode b_Md_copy 8 = .ok (.aload_n 0, 1) := by decide +kernel
theorem d_Md_copy_9 : decode b_Md_copy 9 = .ok (.getfield 28, 3) := by decide +kernel
theorem d_Md_copy_12 : decode b_Md_copy 12 = .ok (.iload_n 1, 1) := by decide +kernel
theorem d_Md_copy_13 : decode b_Md_copy 13 = .ok (.laload, 1) := by decide +kernel
theorem d_Md_copy_14 : decode b_Md_copy 14 = .ok (.aload_n 0, 1) := by decide +kernel
theorem d_Md_copy_15 : decode b_Md_copy 15 = .ok (.getfield 32, 3) := by decide +kernel
theorem d_Md_copy_18 : decode b_Md_copy 18 = .ok (.iload_n 1, 1) := by decide +kernel
theorem d_Md_copy_19 : decode b_Md_copy 19 = .ok (.laload, 1) := by decide +kernel
theorem d_Md_copy_20 : decode b_Md_copy 20 = .ok (.invokevirtual 83, 3) := by decide +kernel
theorem d_Md_copy_23 : decode b_Md_copy 23 = .ok (.return_, 1) := by decide +kernel
theorem d_Md_anything_0 : decode b_Md_anything 0 = .ok (.aload_n 0, 1) := by decide +kernel
theorem d_Md_anything_1 : decode b_Md_anything 1 = .ok (.iload_n 1, 1) := by decide +kernel
theorem d_Md_anything_2 : decode b_Md_anything 2 = .ok (.iconst 1, 1) := by decide +kernel
theorem d_Md_anything_3 : decode b_Md_anything 3 = .ok (.ldc2_w 87, 3) := by decide +kernel
theorem d_Md_anything_6 : decode b_Md_anything 6 = .ok (.ldc2_w 89, 3) := by decide +kernel
theorem d_Md_anything_9 : decode b_Md_anything 9 = .ok (.invokevirtual 83, 3) := by decide +kernel
theorem d_Md_anything_12 : decode b_Md_anything 12 = .ok (.return_, 1) := by decide +kernel
theorem d_Md_overflows_0 : decode b_Md_overflows 0 = .ok (.lload_n 0, 1) := by decide +kernel
theorem d_Md_overflows_1 : decode b_Md_overflows 1 = .ok (.lload_n 2, 1) := by decide +kernel
theorem d_Md_overflows_2 : decode b_Md_overflows 2 = .ok (.ladd, 1) := by decide +kernel
theorem d_Md_overflows_3 : decode b_Md_overflows 3 = .ok (.lstore 4, 2) := by decide +kernel
theorem d_Md_overflows_5 : decode b_Md_overflows 5 = .ok (.lload_n 0, 1) := by decide +kernel
theorem d_Md_overflows_6 : decode b_Md_overflows 6 = .ok (.lload 4, 2) := by decide +kernel
theorem d_Md_overflows_8 : decode b_Md_overflows 8 = .ok (.lxor, 1) := by decide +kernel
theorem d_Md_overflows_9 : decode b_Md_overflows 9 = .ok (.lload_n 2, 1) := by decide +kernel
theorem d_Md_overflows_10 : decode b_Md_overflows 10 = .ok (.lload 4, 2) := by decide +kernel
theorem d_Md_overflows_12 : decode b_Md_overflows 12 = .ok (.lxor, 1) := by decide +kernel
theorem d_Md_overflows_13 : decode b_Md_overflows 13 = .ok (.land, 1) := by decide +kernel
theorem d_Md_overflows_14 : decode b_Md_overflows 14 = .ok (.lconst 0, 1) := by decide +kernel
theorem d_Md_overflows_15 : decode b_Md_overflows 15 = .ok (.lcmp, 1) := by decide +kernel
theorem d_Md_overflows_16 : decode b_Md_overflows 16 = .ok (.ifCond .ge 7, 3) := by decide +kernel
theorem d_Md_overflows_19 : decode b_Md_overflows 19 = .ok (.iconst 1, 1) := by decide +kernel
theorem d_Md_overflows_20 : decode b_Md_overflows 20 = .ok (.goto 4, 3) := by decide +kernel
theorem d_Md_overflows_23 : decode b_Md_overflows 23 = .ok (.iconst 0, 1) := by decide +kernel
theorem d_Md_overflows_24 : decode b_Md_overflows 24 = .ok (.ireturn, 1) := by decide +kernel
theorem d_Md_usesD_0 : decode b_Md_usesD 0 = .ok (.iload_n 1, 1) := by decide +kernel
theorem d_Md_usesD_1 : decode b_Md_usesD 1 = .ok (.iconst 1, 1) := by decide +kernel
theorem d_Md_usesD_2 : decode b_Md_usesD 2 = .ok (.if_icmp .le 9, 3) := by decide +kernel
theorem d_Md_usesD_5 : decode b_Md_usesD 5 = .ok (.iload_n 1, 1) := by decide +kernel
theorem d_Md_usesD_6 : decode b_Md_usesD 6 = .ok (.bipush 13, 2) := by decide +kernel
theorem d_Md_usesD_8 : decode b_Md_usesD 8 = .ok (.if_icmp .lt 9, 3) := by decide +kernel
theorem d_Md_usesD_11 : decode b_Md_usesD 11 = .ok (.iload_n 1, 1) := by decide +kernel
theorem d_Md_usesD_12 : decode b_Md_usesD 12 = .ok (.bipush 15, 2) := by decide +kernel
theorem d_Md_usesD_14 : decode b_Md_usesD 14 = .ok (.if_icmp .ne 7, 3) := by decide +kernel
theorem d_Md_usesD_17 : decode b_Md_usesD 17 = .ok (.iconst 1, 1) := by decide +kernel
theorem d_Md_usesD_18 : decode b_Md_usesD 18 = .ok (.goto 4, 3) := by decide +kernel
theorem d_Md_usesD_21 : decode b_Md_usesD 21 = .ok (.iconst 0, 1) := by decide +kernel
theorem d_Md_usesD_22 : decode b_Md_usesD 22 = .ok (.ireturn, 1) := by decide +kernel
theorem d_Md_usesS_0 : decode b_Md_usesS 0 = .ok (.iload_n 1, 1) := by decide +kernel
theorem d_Md_usesS_1 : decode b_Md_usesS 1 = .ok (.iconst 1, 1) := by decide +kernel
theorem d_Md_usesS_2 : decode b_Md_usesS 2 = .ok (.if_icmp .eq 31, 3) := by decide +kernel
theorem d_Md_usesS_5 : decode b_Md_usesS 5 = .ok (.iload_n 1, 1) := by decide +kernel
theorem d_Md_usesS_6 : decode b_Md_usesS 6 = .ok (.iconst 3, 1) := by decide +kernel
theorem d_Md_usesS_7 : decode b_Md_usesS 7 = .ok (.if_icmp .eq 26, 3) := by decide +kernel
theorem d_Md_usesS_10 : decode b_Md_usesS 10 = .ok (.iload_n 1, 1) := by decide +kernel
theorem d_Md_usesS_11 : decode b_Md_usesS 11 = .ok (.iconst 4, 1) := by decide +kernel
theorem d_Md_usesS_12 : decode b_Md_usesS 12 = .ok (.if_icmp .eq 21, 3) := by decide +kernel
theorem d_Md_usesS_15 : decode b_Md_usesS 15 = .ok (.iload_n 1, 1) := by decide +kernel
theorem d_Md_usesS_16 : decode b_Md_usesS 16 = .ok (.bipush 12, 2) := by decide +kernel
theorem d_Md_usesS_18 : decode b_Md_usesS 18 = .ok (.if_icmp .eq 15, 3) := by decide +kernel
theorem d_Md_usesS_21 : decode b_Md_usesS 21 = .ok (.iload_n 1, 1) := by decide +kernel
theorem d_Md_usesS_22 : decode b_Md_usesS 22 = .ok (.bipush 14, 2) := by decide +kernel
theorem d_Md_usesS_24 : decode b_Md_usesS 24 = .ok (.if_icmp .eq 9, 3) := by decide +kernel
theorem d_Md_usesS_27 : decode b_Md_usesS 27 = .ok (.iload_n 1, 1) := by decide +kernel
theorem d_Md_usesS_28 : decode b_Md_usesS 28 = .ok (.bipush 15, 2) := by decide +kernel
theorem d_Md_usesS_30 : decode b_Md_usesS 30 = .ok (.if_icmp .ne 7, 3) := by decide +kernel
theorem d_Md_usesS_33 : decode b_Md_usesS 33 = .ok (.iconst 1, 1) := by decide +kernel
theorem d_Md_usesS_34 : decode b_Md_usesS 34 = .ok (.goto 4, 3) := by decide +kernel
theorem d_Md_usesS_37 : decode b_Md_usesS 37 = .ok (.iconst 0, 1) := by decide +kernel
theorem d_Md_usesS_38 : decode b_Md_usesS 38 = .ok (.ireturn, 1) := by decide +kernel
theorem d_Md_place_0 : decode b_Md_place 0 = .ok (.aload_n 0, 1) := by decide +kernel
theorem d_Md_place_1 : decode b_Md_place 1 = .ok (.getfield 25, 3) := by decide +kernel
theorem d_Md_place_4 : decode b_Md_place 4 = .ok (.iload_n 1, 1) := by decide +kernel
theorem d_Md_place_5 : decode b_Md_place 5 = .ok (.iaload, 1) := by decide +kernel
theorem d_Md_place_6 : decode b_Md_place 6 = .ok (.iconst 2, 1) := by decide +kernel
theorem d_Md_place_7 : decode b_Md_place 7 = .ok (.if_icmp .eq 13, 3) := by decide +kernel
theorem d_Md_place_10 : decode b_Md_place 10 = .ok (.aload_n 0, 1) := by decide +kernel
theorem d_Md_place_11 : decode b_Md_place 11 = .ok (.getfield 25, 3) := by decide +kernel
theorem d_Md_place_14 : decode b_Md_place 14 = .ok (.iload_n 1, 1) := by decide +kernel
theorem d_Md_place_15 : decode b_Md_place 15 = .ok (.iaload, 1) := by decide +kernel
theorem d_Md_place_16 : decode b_Md_place 16 = .ok (.iconst 3, 1) := by decide +kernel
theorem d_Md_place_17 : decode b_Md_place 17 = .ok (.if_icmp .ne 7, 3) := by decide +kernel
theorem d_Md_place_20 : decode b_Md_place 20 = .ok (.iconst 1, 1) := by decide +kernel
theorem d_Md_place_21 : decode b_Md_place 21 = .ok (.goto 4, 3) := by decide +kernel
theorem d_Md_place_24 : decode b_Md_place 24 = .ok (.iconst 0, 1) := by decide +kernel
theorem d_Md_place_25 : decode b_Md_place 25 = .ok (.ireturn, 1) := by decide +kernel
theorem d_Md_empties_0 : decode b_Md_empties 0 = .ok (.aload_n 0, 1) := by decide +kernel
theorem d_Md_empties_1 : decode b_Md_empties 1 = .ok (.getfield 7, 3) := by decide +kernel
theorem d_Md_empties_4 : decode b_Md_empties 4 = .ok (.iload_n 1, 1) := by decide +kernel
theorem d_Md_empties_5 : decode b_Md_empties 5 = .ok (.iaload, 1) := by decide +kernel
theorem d_Md_empties_6 : decode b_Md_empties 6 = .ok (.istore_n 2, 1) := by decide +kernel
theorem d_Md_empties_7 : decode b_Md_empties 7 = .ok (.iload_n 2, 1) := by decide +kernel
theorem d_Md_empties_8 : decode b_Md_empties 8 = .ok (.bipush 16, 2) := by decide +kernel
theorem d_Md_empties_10 : decode b_Md_empties 10 = .ok (.if_icmp .ge 53, 3) := by decide +kernel
theorem d_Md_empties_13 : decode b_Md_empties 13 = .ok (.aload_n 0, 1) := by decide +kernel
theorem d_Md_empties_14 : decode b_Md_empties 14 = .ok (.iload_n 2, 1) := by decide +kernel
theorem d_Md_empties_15 : decode b_Md_empties 15 = .ok (.invokevirtual 91, 3) := by decide +kernel
theorem d_Md_empties_18 : decode b_Md_empties 18 = .ok (.ifCond .eq 17, 3) := by decide +kernel
theorem d_Md_empties_21 : decode b_Md_empties 21 = .ok (.aload_n 0, 1) := by decide +kernel
theorem d_Md_empties_22 : decode b_Md_empties 22 = .ok (.getfield 25, 3) := by decide +kernel
theorem d_Md_empties_25 : decode b_Md_empties 25 = .ok (.aload_n 0, 1) := by decide +kernel
theorem d_Md_empties_26 : decode b_Md_empties 26 = .ok (.getfield 13, 3) := by decide +kernel
theorem d_Md_empties_29 : decode b_Md_empties 29 = .ok (.iload_n 1, 1) := by decide +kernel
theorem d_Md_empties_30 : decode b_Md_empties 30 = .ok (.iaload, 1) := by decide +kernel
theorem d_Md_empties_31 : decode b_Md_empties 31 = .ok (.iaload, 1) := by decide +kernel
theorem d_Md_empties_32 : decode b_Md_empties 32 = .ok (.ifCond .eq 25, 3) := by decide +kernel
theorem d_Md_empties_35 : decode b_Md_empties 35 = .ok (.aload_n 0, 1) := by decide +kernel
theorem d_Md_empties_36 : decode b_Md_empties 36 = .ok (.iload_n 2, 1) := by decide +kernel
theorem d_Md_empties_37 : decode b_Md_empties 37 = .ok (.invokevirtual 95, 3) := by decide +kernel
theorem d_Md_empties_40 : decode b_Md_empties 40 = .ok (.ifCond .eq 21, 3) := by decide +kernel
theorem d_Md_empties_43 : decode b_Md_empties 43 = .ok (.aload_n 0, 1) := by decide +kernel
theorem d_Md_empties_44 : decode b_Md_empties 44 = .ok (.getfield 25, 3) := by decide +kernel
theorem d_Md_empties_47 : decode b_Md_empties 47 = .ok (.aload_n 0, 1) := by decide +kernel
theorem d_Md_empties_48 : decode b_Md_empties 48 = .ok (.getfield 16, 3) := by decide +kernel
theorem d_Md_empties_51 : decode b_Md_empties 51 = .ok (.iload_n 1, 1) := by decide +kernel
theorem d_Md_empties_52 : decode b_Md_empties 52 = .ok (.iaload, 1) := by decide +kernel
theorem d_Md_empties_53 : decode b_Md_empties 53 = .ok (.iaload, 1) := by decide +kernel
theorem d_Md_empties_54 : decode b_Md_empties 54 = .ok (.ifCond .ne 7, 3) := by decide +kernel
theorem d_Md_empties_57 : decode b_Md_empties 57 = .ok (.iconst 1, 1) := by decide +kernel
theorem d_Md_empties_58 : decode b_Md_empties 58 = .ok (.goto 4, 3) := by decide +kernel
theorem d_Md_empties_61 : decode b_Md_empties 61 = .ok (.iconst 0, 1) := by decide +kernel
theorem d_Md_empties_62 : decode b_Md_empties 62 = .ok (.ireturn, 1) := by decide +kernel
theorem d_Md_empties_63 : decode b_Md_empties 63 = .ok (.iload_n 2, 1) := by decide +kernel
theorem d_Md_empties_64 : decode b_Md_empties 64 = .ok (.bipush 17, 2) := by decide +kernel
theorem d_Md_empties_66 : decode b_Md_empties 66 = .ok (.if_icmp .ne 18, 3) := by decide +kernel
theorem d_Md_empties_69 : decode b_Md_empties 69 = .ok (.aload_n 0, 1) := by decide +kernel
theorem d_Md_empties_70 : decode b_Md_empties 70 = .ok (.getfield 25, 3) := by decide +kernel
theorem d_Md_empties_73 : decode b_Md_empties 73 = .ok (.iconst 0, 1) := by decide +kernel
theorem d_Md_empties_74 : decode b_Md_empties 74 = .ok (.iaload, 1) := by decide +kernel
theorem d_Md_empties_75 : decode b_Md_empties 75 = .ok (.ifCond .ne 7, 3) := by decide +kernel
theorem d_Md_empties_78 : decode b_Md_empties 78 = .ok (.iconst 1, 1) := by decide +kernel
theorem d_Md_empties_79 : decode b_Md_empties 79 = .ok (.goto 4, 3) := by decide +kernel
theorem d_Md_empties_82 : decode b_Md_empties 82 = .ok (.iconst 0, 1) := by decide +kernel
theorem d_Md_empties_83 : decode b_Md_empties 83 = .ok (.ireturn, 1) := by decide +kernel
theorem d_Md_empties_84 : decode b_Md_empties 84 = .ok (.aload_n 0, 1) := by decide +kernel
theorem d_Md_empties_85 : decode b_Md_empties 85 = .ok (.getfield 19, 3) := by decide +kernel
theorem d_Md_empties_88 : decode b_Md_empties 88 = .ok (.iload_n 1, 1) := by decide +kernel
theorem d_Md_empties_89 : decode b_Md_empties 89 = .ok (.iaload, 1) := by decide +kernel
theorem d_Md_empties_90 : decode b_Md_empties 90 = .ok (.iconst 1, 1) := by decide +kernel
theorem d_Md_empties_91 : decode b_Md_empties 91 = .ok (.if_icmp .eq 13, 3) := by decide +kernel
theorem d_Md_empties_94 : decode b_Md_empties 94 = .ok (.aload_n 0, 1) := by decide +kernel
theorem d_Md_empties_95 : decode b_Md_empties 95 = .ok (.getfield 19, 3) := by decide +kernel
theorem d_Md_empties_98 : decode b_Md_empties 98 = .ok (.iload_n 1, 1) := by decide +kernel
theorem d_Md_empties_99 : decode b_Md_empties 99 = .ok (.iaload, 1) := by decide +kernel
theorem d_Md_empties_100 : decode b_Md_empties 100 = .ok (.iconst 2, 1) := by decide +kernel
theorem d_Md_empties_101 : decode b_Md_empties 101 = .ok (.if_icmp .ne 12, 3) := by decide +kernel
theorem d_Md_empties_104 : decode b_Md_empties 104 = .ok (.aload_n 0, 1) := by decide +kernel
theorem d_Md_empties_105 : decode b_Md_empties 105 = .ok (.getfield 25, 3) := by decide +kernel
theorem d_Md_empties_108 : decode b_Md_empties 108 = .ok (.iconst 1, 1) := by decide +kernel
theorem d_Md_empties_109 : decode b_Md_empties 109 = .ok (.iaload, 1) := by decide +kernel
theorem d_Md_empties_110 : decode b_Md_empties 110 = .ok (.ifCond .eq 22, 3) := by decide +kernel
theorem d_Md_empties_113 : decode b_Md_empties 113 = .ok (.aload_n 0, 1) := by decide +kernel
theorem d_Md_empties_114 : decode b_Md_empties 114 = .ok (.getfield 19, 3) := by decide +kernel
theorem d_Md_empties_117 : decode b_Md_empties 117 = .ok (.iload_n 1, 1) := by decide +kernel
theorem d_Md_empties_118 : decode b_Md_empties 118 = .ok (.iaload, 1) := by decide +kernel
theorem d_Md_empties_119 : decode b_Md_empties 119 = .ok (.iconst 2, 1) := by decide +kernel
theorem d_Md_empties_120 : decode b_Md_empties 120 = .ok (.if_icmp .ne 16, 3) := by decide +kernel
theorem d_Md_empties_123 : decode b_Md_empties 123 = .ok (.aload_n 0, 1) := by decide +kernel
theorem d_Md_empties_124 : decode b_Md_empties 124 = .ok (.getfield 25, 3) := by decide +kernel
theorem d_Md_empties_127 : decode b_Md_empties 127 = .ok (.iconst 2, 1) := by decide +kernel
theorem d_Md_empties_128 : decode b_Md_empties 128 = .ok (.iaload, 1) := by decide +kernel
theorem d_Md_empties_129 : decode b_Md_empties 129 = .ok (.ifCond .ne 7, 3) := by decide +kernel
theorem d_Md_empties_132 : decode b_Md_empties 132 = .ok (.iconst 1, 1) := by decide +kernel
theorem d_Md_empties_133 : decode b_Md_empties 133 = .ok (.goto 4, 3) := by decide +kernel
theorem d_Md_empties_136 : decode b_Md_empties 136 = .ok (.iconst 0, 1) := by decide +kernel
theorem d_Md_empties_137 : decode b_Md_empties 137 = .ok (.ireturn, 1) := by decide +kernel
theorem d_Md_wrongNumber_0 : decode b_Md_wrongNumber 0 = .ok (.aload_n 0, 1) := by decide +kernel
theorem d_Md_wrongNumber_1 : decode b_Md_wrongNumber 1 = .ok (.getfield 7, 3) := by decide +kernel
theorem d_Md_wrongNumber_4 : decode b_Md_wrongNumber 4 = .ok (.iload_n 1, 1) := by decide +kernel
theorem d_Md_wrongNumber_5 : decode b_Md_wrongNumber 5 = .ok (.iaload, 1) := by decide +kernel
theorem d_Md_wrongNumber_6 : decode b_Md_wrongNumber 6 = .ok (.istore_n 2, 1) := by decide +kernel
theorem d_Md_wrongNumber_7 : decode b_Md_wrongNumber 7 = .ok (.iload_n 2, 1) := by decide +kernel
theorem d_Md_wrongNumber_8 : decode b_Md_wrongNumber 8 = .ok (.bipush 7, 2) := by decide +kernel
theorem d_Md_wrongNumber_10 : decode b_Md_wrongNumber 10 = .ok (.if_icmp .ne 20, 3) := by decide +kernel
theorem d_Md_wrongNumber_13 : decode b_Md_wrongNumber 13 = .ok (.aload_n 0, 1) := by decide +kernel
theorem d_Md_wrongNumber_14 : decode b_Md_wrongNumber 14 = .ok (.getfield 19, 3) := by decide +kernel
theorem d_Md_wrongNumber_17 : decode b_Md_wrongNumber 17 = .ok (.iload_n 1, 1) := by decide +kernel
theorem d_Md_wrongNumber_18 : decode b_Md_wrongNumber 18 = .ok (.iaload, 1) := by decide +kernel
theorem d_Md_wrongNumber_19 : decode b_Md_wrongNumber 19 = .ok (.i2l, 1) := by decide +kernel
theorem d_Md_wrongNumber_20 : decode b_Md_wrongNumber 20 = .ok (.lconst 0, 1) := by decide +kernel
theorem d_Md_wrongNumber_21 : decode b_Md_wrongNumber 21 = .ok (.ldc2_w 98, 3) := by decide +kernel
theorem d_Md_wrongNumber_24 : decode b_Md_wrongNumber 24 = .ok (.invokestatic 56, 3) := by decide +kernel
theorem d_Md_wrongNumber_27 : decode b_Md_wrongNumber 27 = .ok (.ifCond .eq 41, 3) := by decide +kernel
theorem d_Md_wrongNumber_30 : decode b_Md_wrongNumber 30 = .ok (.iload_n 2, 1) := by decide +kernel
theorem d_Md_wrongNumber_31 : decode b_Md_wrongNumber 31 = .ok (.bipush 8, 2) := by decide +kernel
theorem d_Md_wrongNumber_33 : decode b_Md_wrongNumber 33 = .ok (.if_icmp .ne 12, 3) := by decide +kernel
theorem d_Md_wrongNumber_36 : decode b_Md_wrongNumber 36 = .ok (.aload_n 0, 1) := by decide +kernel
theorem d_Md_wrongNumber_37 : decode b_Md_wrongNumber 37 = .ok (.getfield 19, 3) := by decide +kernel
theorem d_Md_wrongNumber_40 : decode b_Md_wrongNumber 40 = .ok (.iload_n 1, 1) := by decide +kernel
theorem d_Md_wrongNumber_41 : decode b_Md_wrongNumber 41 = .ok (.iaload, 1) := by decide +kernel
theorem d_Md_wrongNumber_42 : decode b_Md_wrongNumber 42 = .ok (.ifCond .eq 26, 3) := by decide +kernel
theorem d_Md_wrongNumber_45 : decode b_Md_wrongNumber 45 = .ok (.iload_n 2, 1) := by decide +kernel
theorem d_Md_wrongNumber_46 : decode b_Md_wrongNumber 46 = .ok (.bipush 16, 2) := by decide +kernel
theorem d_Md_wrongNumber_48 : decode b_Md_wrongNumber 48 = .ok (.if_icmp .ne 24, 3) := by decide +kernel
theorem d_Md_wrongNumber_51 : decode b_Md_wrongNumber 51 = .ok (.aload_n 0, 1) := by decide +kernel
theorem d_Md_wrongNumber_52 : decode b_Md_wrongNumber 52 = .ok (.getfield 19, 3) := by decide +kernel
theorem d_Md_wrongNumber_55 : decode b_Md_wrongNumber 55 = .ok (.iload_n 1, 1) := by decide +kernel
theorem d_Md_wrongNumber_56 : decode b_Md_wrongNumber 56 = .ok (.iaload, 1) := by decide +kernel
theorem d_Md_wrongNumber_57 : decode b_Md_wrongNumber 57 = .ok (.i2l, 1) := by decide +kernel
theorem d_Md_wrongNumber_58 : decode b_Md_wrongNumber 58 = .ok (.lconst 0, 1) := by decide +kernel
theorem d_Md_wrongNumber_59 : decode b_Md_wrongNumber 59 = .ok (.ldc2_w 100, 3) := by decide +kernel
theorem d_Md_wrongNumber_62 : decode b_Md_wrongNumber 62 = .ok (.invokestatic 56, 3) := by decide +kernel
theorem d_Md_wrongNumber_65 : decode b_Md_wrongNumber 65 = .ok (.ifCond .ne 7, 3) := by decide +kernel
theorem d_Md_wrongNumber_68 : decode b_Md_wrongNumber 68 = .ok (.iconst 1, 1) := by decide +kernel
theorem d_Md_wrongNumber_69 : decode b_Md_wrongNumber 69 = .ok (.goto 4, 3) := by decide +kernel
theorem d_Md_wrongNumber_72 : decode b_Md_wrongNumber 72 = .ok (.iconst 0, 1) := by decide +kernel
theorem d_Md_wrongNumber_73 : decode b_Md_wrongNumber 73 = .ok (.ireturn, 1) := by decide +kernel
theorem d_Md_wrongKind_0 : decode b_Md_wrongKind 0 = .ok (.aload_n 0, 1) := by decide +kernel
theorem d_Md_wrongKind_1 : decode b_Md_wrongKind 1 = .ok (.getfield 7, 3) := by decide +kernel
theorem d_Md_wrongKind_4 : decode b_Md_wrongKind 4 = .ok (.iload_n 1, 1) := by decide +kernel
theorem d_Md_wrongKind_5 : decode b_Md_wrongKind 5 = .ok (.iaload, 1) := by decide +kernel
theorem d_Md_wrongKind_6 : decode b_Md_wrongKind 6 = .ok (.istore_n 2, 1) := by decide +kernel
theorem d_Md_wrongKind_7 : decode b_Md_wrongKind 7 = .ok (.aload_n 0, 1) := by decide +kernel
theorem d_Md_wrongKind_8 : decode b_Md_wrongKind 8 = .ok (.getfield 13, 3) := by decide +kernel
theorem d_Md_wrongKind_11 : decode b_Md_wrongKind 11 = .ok (.iload_n 1, 1) := by decide +kernel
theorem d_Md_wrongKind_12 : decode b_Md_wrongKind 12 = .ok (.iaload, 1) := by decide +kernel
theorem d_Md_wrongKind_13 : decode b_Md_wrongKind 13 = .ok (.istore_n 3, 1) := by decide +kernel
theorem d_Md_wrongKind_14 : decode b_Md_wrongKind 14 = .ok (.aload_n 0, 1) := by decide +kernel
theorem d_Md_wrongKind_15 : decode b_Md_wrongKind 15 = .ok (.getfield 16, 3) := by decide +kernel
theorem d_Md_wrongKind_18 : decode b_Md_wrongKind 18 = .ok (.iload_n 1, 1) := by decide +kernel
theorem d_Md_wrongKind_19 : decode b_Md_wrongKind 19 = .ok (.iaload, 1) := by decide +kernel
theorem d_Md_wrongKind_20 : decode b_Md_wrongKind 20 = .ok (.istore 4, 2) := by decide +kernel
theorem d_Md_wrongKind_22 : decode b_Md_wrongKind 22 = .ok (.iload_n 2, 1) := by decide +kernel
theorem d_Md_wrongKind_23 : decode b_Md_wrongKind 23 = .ok (.iconst 2, 1) := by decide +kernel
theorem d_Md_wrongKind_24 : decode b_Md_wrongKind 24 = .ok (.if_icmp .lt 9, 3) := by decide +kernel
theorem d_Md_wrongKind_27 : decode b_Md_wrongKind 27 = .ok (.iload_n 2, 1) := by decide +kernel
theorem d_Md_wrongKind_28 : decode b_Md_wrongKind 28 = .ok (.bipush 13, 2) := by decide +kernel
theorem d_Md_wrongKind_30 : decode b_Md_wrongKind 30 = .ok (.if_icmp .ne 5, 3) := by decide +kernel
theorem d_Md_wrongKind_33 : decode b_Md_wrongKind 33 = .ok (.iconst 0, 1) := by decide +kernel
theorem d_Md_wrongKind_34 : decode b_Md_wrongKind 34 = .ok (.ireturn, 1) := by decide +kernel
theorem d_Md_wrongKind_35 : decode b_Md_wrongKind 35 = .ok (.iload_n 2, 1) := by decide +kernel
theorem d_Md_wrongKind_36 : decode b_Md_wrongKind 36 = .ok (.iconst 2, 1) := by decide +kernel
theorem d_Md_wrongKind_37 : decode b_Md_wrongKind 37 = .ok (.if_icmp .ne 27, 3) := by decide +kernel
theorem d_Md_wrongKind_40 : decode b_Md_wrongKind 40 = .ok (.aload_n 0, 1) := by decide +kernel
theorem d_Md_wrongKind_41 : decode b_Md_wrongKind 41 = .ok (.getfield 25, 3) := by decide +kernel
theorem d_Md_wrongKind_44 : decode b_Md_wrongKind 44 = .ok (.iload_n 3, 1) := by decide +kernel
theorem d_Md_wrongKind_45 : decode b_Md_wrongKind 45 = .ok (.iaload, 1) := by decide +kernel
theorem d_Md_wrongKind_46 : decode b_Md_wrongKind 46 = .ok (.iconst 1, 1) := by decide +kernel
theorem d_Md_wrongKind_47 : decode b_Md_wrongKind 47 = .ok (.if_icmp .eq 15, 3) := by decide +kernel
theorem d_Md_wrongKind_50 : decode b_Md_wrongKind 50 = .ok (.aload_n 0, 1) := by decide +kernel
theorem d_Md_wrongKind_51 : decode b_Md_wrongKind 51 = .ok (.iload_n 3, 1) := by decide +kernel
theorem d_Md_wrongKind_52 : decode b_Md_wrongKind 52 = .ok (.invokevirtual 102, 3) := by decide +kernel
theorem d_Md_wrongKind_55 : decode b_Md_wrongKind 55 = .ok (.ifCond .ne 7, 3) := by decide +kernel
theorem d_Md_wrongKind_58 : decode b_Md_wrongKind 58 = .ok (.iconst 1, 1) := by decide +kernel
theorem d_Md_wrongKind_59 : decode b_Md_wrongKind 59 = .ok (.goto 4, 3) := by decide +kernel
theorem d_Md_wrongKind_62 : decode b_Md_wrongKind 62 = .ok (.iconst 0, 1) := by decide +kernel
theorem d_Md_wrongKind_63 : decode b_Md_wrongKind 63 = .ok (.ireturn, 1) := by decide +kernel
theorem d_Md_wrongKind_64 : decode b_Md_wrongKind 64 = .ok (.iload_n 2, 1) := by decide +kernel
theorem d_Md_wrongKind_65 : decode b_Md_wrongKind 65 = .ok (.iconst 3, 1) := by decide +kernel
theorem d_Md_wrongKind_66 : decode b_Md_wrongKind 66 = .ok (.if_icmp .ne 38, 3) := by decide +kernel
theorem d_Md_wrongKind_69 : decode b_Md_wrongKind 69 = .ok (.aload_n 0, 1) := by decide +kernel
theorem d_Md_wrongKind_70 : decode b_Md_wrongKind 70 = .ok (.getfield 25, 3) := by decide +kernel
theorem d_Md_wrongKind_73 : decode b_Md_wrongKind 73 = .ok (.iload_n 3, 1) := by decide +kernel
theorem d_Md_wrongKind_74 : decode b_Md_wrongKind 74 = .ok (.iaload, 1) := by decide +kernel
theorem d_Md_wrongKind_75 : decode b_Md_wrongKind 75 = .ok (.iconst 1, 1) := by decide +kernel
theorem d_Md_wrongKind_76 : decode b_Md_wrongKind 76 = .ok (.if_icmp .eq 11, 3) := by decide +kernel
theorem d_Md_wrongKind_79 : decode b_Md_wrongKind 79 = .ok (.aload_n 0, 1) := by decide +kernel
theorem d_Md_wrongKind_80 : decode b_Md_wrongKind 80 = .ok (.iload_n 3, 1) := by decide +kernel
theorem d_Md_wrongKind_81 : decode b_Md_wrongKind 81 = .ok (.invokevirtual 102, 3) := by decide +kernel
theorem d_Md_wrongKind_84 : decode b_Md_wrongKind 84 = .ok (.ifCond .eq 14, 3) := by decide +kernel
theorem d_Md_wrongKind_87 : decode b_Md_wrongKind 87 = .ok (.aload_n 0, 1) := by decide +kernel
theorem d_Md_wrongKind_88 : decode b_Md_wrongKind 88 = .ok (.getfield 25, 3) := by decide +kernel
theorem d_Md_wrongKind_91 : decode b_Md_wrongKind 91 = .ok (.iload 4, 2) := by decide +kernel
theorem d_Md_wrongKind_93 : decode b_Md_wrongKind 93 = .ok (.iaload, 1) := by decide +kernel
theorem d_Md_wrongKind_94 : decode b_Md_wrongKind 94 = .ok (.iconst 1, 1) := by decide +kernel
theorem d_Md_wrongKind_95 : decode b_Md_wrongKind 95 = .ok (.if_icmp .eq 7, 3) := by decide +kernel
theorem d_Md_wrongKind_98 : decode b_Md_wrongKind 98 = .ok (.iconst 1, 1) := by decide +kernel
theorem d_Md_wrongKind_99 : decode b_Md_wrongKind 99 = .ok (.goto 4, 3) := by decide +kernel
theorem d_Md_wrongKind_102 : decode b_Md_wrongKind 102 = .ok (.iconst 0, 1) := by decide +kernel
theorem d_Md_wrongKind_103 : decode b_Md_wrongKind 103 = .ok (.ireturn, 1) := by decide +kernel
theorem d_Md_wrongKind_104 : decode b_Md_wrongKind 104 = .ok (.iload_n 2, 1) := by decide +kernel
theorem d_Md_wrongKind_105 : decode b_Md_wrongKind 105 = .ok (.iconst 4, 1) := by decide +kernel
theorem d_Md_wrongKind_106 : decode b_Md_wrongKind 106 = .ok (.if_icmp .eq 9, 3) := by decide +kernel
theorem d_Md_wrongKind_109 : decode b_Md_wrongKind 109 = .ok (.iload_n 2, 1) := by decide +kernel
theorem d_Md_wrongKind_110 : decode b_Md_wrongKind 110 = .ok (.bipush 12, 2) := by decide +kernel
theorem d_Md_wrongKind_112 : decode b_Md_wrongKind 112 = .ok (.if_icmp .ne 30, 3) := by decide +kernel
theorem d_Md_wrongKind_115 : decode b_Md_wrongKind 115 = .ok (.aload_n 0, 1) := by decide +kernel
theorem d_Md_wrongKind_116 : decode b_Md_wrongKind 116 = .ok (.getfield 25, 3) := by decide +kernel
theorem d_Md_wrongKind_119 : decode b_Md_wrongKind 119 = .ok (.iload_n 3, 1) := by decide +kernel
theorem d_Md_wrongKind_120 : decode b_Md_wrongKind 120 = .ok (.iaload, 1) := by decide +kernel
theorem d_Md_wrongKind_121 : decode b_Md_wrongKind 121 = .ok (.iconst 1, 1) := by decide +kernel
theorem d_Md_wrongKind_122 : decode b_Md_wrongKind 122 = .ok (.if_icmp .ne 14, 3) := by decide +kernel
theorem d_Md_wrongKind_125 : decode b_Md_wrongKind 125 = .ok (.aload_n 0, 1) := by decide +kernel
theorem d_Md_wrongKind_126 : decode b_Md_wrongKind 126 = .ok (.getfield 25, 3) := by decide +kernel
theorem d_Md_wrongKind_129 : decode b_Md_wrongKind 129 = .ok (.iload 4, 2) := by decide +kernel
theorem d_Md_wrongKind_131 : decode b_Md_wrongKind 131 = .ok (.iaload, 1) := by decide +kernel
theorem d_Md_wrongKind_132 : decode b_Md_wrongKind 132 = .ok (.iconst 1, 1) := by decide +kernel
theorem d_Md_wrongKind_133 : decode b_Md_wrongKind 133 = .ok (.if_icmp .eq 7, 3) := by decide +kernel
theorem d_Md_wrongKind_136 : decode b_Md_wrongKind 136 = .ok (.iconst 1, 1) := by decide +kernel
theorem d_Md_wrongKind_137 : decode b_Md_wrongKind 137 = .ok (.goto 4, 3) := by decide +kernel
theorem d_Md_wrongKind_140 : decode b_Md_wrongKind 140 = .ok (.iconst 0, 1) := by decide +kernel
theorem d_Md_wrongKind_141 : decode b_Md_wrongKind 141 = .ok (.ireturn, 1) := by decide +kernel
theorem d_Md_wrongKind_142 : decode b_Md_wrongKind 142 = .ok (.iload_n 2, 1) := by decide +kernel
theorem d_Md_wrongKind_143 : decode b_Md_wrongKind 143 = .ok (.bipush 10, 2) := by decide +kernel
theorem d_Md_wrongKind_145 : decode b_Md_wrongKind 145 = .ok (.if_icmp .ne 38, 3) := by decide +kernel
theorem d_Md_wrongKind_148 : decode b_Md_wrongKind 148 = .ok (.aload_n 0, 1) := by decide +kernel
theorem d_Md_wrongKind_149 : decode b_Md_wrongKind 149 = .ok (.getfield 25, 3) := by decide +kernel
theorem d_Md_wrongKind_152 : decode b_Md_wrongKind 152 = .ok (.iload_n 3, 1) := by decide +kernel
theorem d_Md_wrongKind_153 : decode b_Md_wrongKind 153 = .ok (.iaload, 1) := by decide +kernel
theorem d_Md_wrongKind_154 : decode b_Md_wrongKind 154 = .ok (.iconst 1, 1) := by decide +kernel
theorem d_Md_wrongKind_155 : decode b_Md_wrongKind 155 = .ok (.if_icmp .eq 26, 3) := by decide +kernel
theorem d_Md_wrongKind_158 : decode b_Md_wrongKind 158 = .ok (.aload_n 0, 1) := by decide +kernel
theorem d_Md_wrongKind_159 : decode b_Md_wrongKind 159 = .ok (.getfield 25, 3) := by decide +kernel
theorem d_Md_wrongKind_162 : decode b_Md_wrongKind 162 = .ok (.iload_n 3, 1) := by decide +kernel
theorem d_Md_wrongKind_163 : decode b_Md_wrongKind 163 = .ok (.iaload, 1) := by decide +kernel
theorem d_Md_wrongKind_164 : decode b_Md_wrongKind 164 = .ok (.iconst 4, 1) := by decide +kernel
theorem d_Md_wrongKind_165 : decode b_Md_wrongKind 165 = .ok (.if_icmp .ne 12, 3) := by decide +kernel
theorem d_Md_wrongKind_168 : decode b_Md_wrongKind 168 = .ok (.aload_n 0, 1) := by decide +kernel
theorem d_Md_wrongKind_169 : decode b_Md_wrongKind 169 = .ok (.getfield 19, 3) := by decide +kernel
theorem d_Md_wrongKind_172 : decode b_Md_wrongKind 172 = .ok (.iload_n 1, 1) := by decide +kernel
theorem d_Md_wrongKind_173 : decode b_Md_wrongKind 173 = .ok (.iaload, 1) := by decide +kernel
theorem d_Md_wrongKind_174 : decode b_Md_wrongKind 174 = .ok (.ifCond .eq 7, 3) := by decide +kernel
theorem d_Md_wrongKind_177 : decode b_Md_wrongKind 177 = .ok (.iconst 1, 1) := by decide +kernel
theorem d_Md_wrongKind_178 : decode b_Md_wrongKind 178 = .ok (.goto 4, 3) := by decide +kernel
theorem d_Md_wrongKind_181 : decode b_Md_wrongKind 181 = .ok (.iconst 0, 1) := by decide +kernel
theorem d_Md_wrongKind_182 : decode b_Md_wrongKind 182 = .ok (.ireturn, 1) := by decide +kernel
theorem d_Md_wrongKind_183 : decode b_Md_wrongKind 183 = .ok (.iload_n 2, 1) := by decide +kernel
theorem d_Md_wrongKind_184 : decode b_Md_wrongKind 184 = .ok (.bipush 12, 2) := by decide +kernel
theorem d_Md_wrongKind_186 : decode b_Md_wrongKind 186 = .ok (.if_icmp .ge 19, 3) := by decide +kernel
theorem d_Md_wrongKind_189 : decode b_Md_wrongKind 189 = .ok (.aload_n 0, 1) := by decide +kernel
theorem d_Md_wrongKind_190 : decode b_Md_wrongKind 190 = .ok (.getfield 25, 3) := by decide +kernel
theorem d_Md_wrongKind_193 : decode b_Md_wrongKind 193 = .ok (.iload_n 3, 1) := by decide +kernel
theorem d_Md_wrongKind_194 : decode b_Md_wrongKind 194 = .ok (.iaload, 1) := by decide +kernel
theorem d_Md_wrongKind_195 : decode b_Md_wrongKind 195 = .ok (.iconst 1, 1) := by decide +kernel
theorem d_Md_wrongKind_196 : decode b_Md_wrongKind 196 = .ok (.if_icmp .eq 7, 3) := by decide +kernel
theorem d_Md_wrongKind_199 : decode b_Md_wrongKind 199 = .ok (.iconst 1, 1) := by decide +kernel
theorem d_Md_wrongKind_200 : decode b_Md_wrongKind 200 = .ok (.goto 4, 3) := by decide +kernel
theorem d_Md_wrongKind_203 : decode b_Md_wrongKind 203 = .ok (.iconst 0, 1) := by decide +kernel
theorem d_Md_wrongKind_204 : decode b_Md_wrongKind 204 = .ok (.ireturn, 1) := by decide +kernel
theorem d_Md_wrongKind_205 : decode b_Md_wrongKind 205 = .ok (.iload_n 2, 1) := by decide +kernel
theorem d_Md_wrongKind_206 : decode b_Md_wrongKind 206 = .ok (.bipush 14, 2) := by decide +kernel
theorem d_Md_wrongKind_208 : decode b_Md_wrongKind 208 = .ok (.if_icmp .ne 18, 3) := by decide +kernel
theorem d_Md_wrongKind_211 : decode b_Md_wrongKind 211 = .ok (.aload_n 0, 1) := by decide +kernel
theorem d_Md_wrongKind_212 : decode b_Md_wrongKind 212 = .ok (.iload 4, 2) := by decide +kernel
theorem d_Md_wrongKind_214 : decode b_Md_wrongKind 214 = .ok (.invokevirtual 102, 3) := by decide +kernel
theorem d_Md_wrongKind_217 : decode b_Md_wrongKind 217 = .ok (.ifCond .ne 7, 3) := by decide +kernel
theorem d_Md_wrongKind_220 : decode b_Md_wrongKind 220 = .ok (.iconst 1, 1) := by decide +kernel
theorem d_Md_wrongKind_221 : decode b_Md_wrongKind 221 = .ok (.goto 4, 3) := by decide +kernel
theorem d_Md_wrongKind_224 : decode b_Md_wrongKind 224 = .ok (.iconst 0, 1) := by decide +kernel
theorem d_Md_wrongKind_225 : decode b_Md_wrongKind 225 = .ok (.ireturn, 1) := by decide +kernel
theorem d_Md_wrongKind_226 : decode b_Md_wrongKind 226 = .ok (.iload_n 2, 1) := by decide +kernel
theorem d_Md_wrongKind_227 : decode b_Md_wrongKind 227 = .ok (.bipush 15, 2) := by decide +kernel
theorem d_Md_wrongKind_229 : decode b_Md_wrongKind 229 = .ok (.if_icmp .ne 54, 3) := by decide +kernel
theorem d_Md_wrongKind_232 : decode b_Md_wrongKind 232 = .ok (.aload_n 0, 1) := by decide +kernel
theorem d_Md_wrongKind_233 : decode b_Md_wrongKind 233 = .ok (.iload_n 3, 1) := by decide +kernel
theorem d_Md_wrongKind_234 : decode b_Md_wrongKind 234 = .ok (.invokevirtual 102, 3) := by decide +kernel
theorem d_Md_wrongKind_237 : decode b_Md_wrongKind 237 = .ok (.ifCond .eq 40, 3) := by decide +kernel
theorem d_Md_wrongKind_240 : decode b_Md_wrongKind 240 = .ok (.aload_n 0, 1) := by decide +kernel
theorem d_Md_wrongKind_241 : decode b_Md_wrongKind 241 = .ok (.getfield 25, 3) := by decide +kernel
theorem d_Md_wrongKind_244 : decode b_Md_wrongKind 244 = .ok (.iload_n 3, 1) := by decide +kernel
theorem d_Md_wrongKind_245 : decode b_Md_wrongKind 245 = .ok (.iaload, 1) := by decide +kernel
theorem d_Md_wrongKind_246 : decode b_Md_wrongKind 246 = .ok (.iconst 3, 1) := by decide +kernel
theorem d_Md_wrongKind_247 : decode b_Md_wrongKind 247 = .ok (.if_icmp .eq 19, 3) := by decide +kernel
theorem d_Md_wrongKind_250 : decode b_Md_wrongKind 250 = .ok (.aload_n 0, 1) := by decide +kernel
theorem d_Md_wrongKind_251 : decode b_Md_wrongKind 251 = .ok (.getfield 28, 3) := by decide +kernel
theorem d_Md_wrongKind_254 : decode b_Md_wrongKind 254 = .ok (.iload_n 3, 1) := by decide +kernel
theorem d_Md_wrongKind_255 : decode b_Md_wrongKind 255 = .ok (.laload, 1) := by decide +kernel
theorem d_Md_wrongKind_256 : decode b_Md_wrongKind 256 = .ok (.aload_n 0, 1) := by decide +kernel
theorem d_Md_wrongKind_257 : decode b_Md_wrongKind 257 = .ok (.getfield 32, 3) := by decide +kernel
theorem d_Md_wrongKind_260 : decode b_Md_wrongKind 260 = .ok (.iload_n 3, 1) := by decide +kernel
theorem d_Md_wrongKind_261 : decode b_Md_wrongKind 261 = .ok (.laload, 1) := by decide +kernel
theorem d_Md_wrongKind_262 : decode b_Md_wrongKind 262 = .ok (.lcmp, 1) := by decide +kernel
theorem d_Md_wrongKind_263 : decode b_Md_wrongKind 263 = .ok (.ifCond .eq 18, 3) := by decide +kernel
theorem d_Md_wrongKind_266 : decode b_Md_wrongKind 266 = .ok (.aload_n 0, 1) := by decide +kernel
theorem d_Md_wrongKind_267 : decode b_Md_wrongKind 267 = .ok (.getfield 25, 3) := by decide +kernel
theorem d_Md_wrongKind_270 : decode b_Md_wrongKind 270 = .ok (.iload 4, 2) := by decide +kernel
theorem d_Md_wrongKind_272 : decode b_Md_wrongKind 272 = .ok (.iaload, 1) := by decide +kernel
theorem d_Md_wrongKind_273 : decode b_Md_wrongKind 273 = .ok (.iconst 1, 1) := by decide +kernel
theorem d_Md_wrongKind_274 : decode b_Md_wrongKind 274 = .ok (.if_icmp .eq 7, 3) := by decide +kernel
theorem d_Md_wrongKind_277 : decode b_Md_wrongKind 277 = .ok (.iconst 1, 1) := by decide +kernel
theorem d_Md_wrongKind_278 : decode b_Md_wrongKind 278 = .ok (.goto 4, 3) := by decide +kernel
theorem d_Md_wrongKind_281 : decode b_Md_wrongKind 281 = .ok (.iconst 0, 1) := by decide +kernel
theorem d_Md_wrongKind_282 : decode b_Md_wrongKind 282 = .ok (.ireturn, 1) := by decide +kernel
theorem d_Md_wrongKind_283 : decode b_Md_wrongKind 283 = .ok (.iload_n 2, 1) := by decide +kernel
theorem d_Md_wrongKind_284 : decode b_Md_wrongKind 284 = .ok (.bipush 17, 2) := by decide +kernel
theorem d_Md_wrongKind_286 : decode b_Md_wrongKind 286 = .ok (.if_icmp .ne 19, 3) := by decide +kernel
theorem d_Md_wrongKind_289 : decode b_Md_wrongKind 289 = .ok (.aload_n 0, 1) := by decide +kernel
theorem d_Md_wrongKind_290 : decode b_Md_wrongKind 290 = .ok (.getfield 25, 3) := by decide +kernel
theorem d_Md_wrongKind_293 : decode b_Md_wrongKind 293 = .ok (.iconst 0, 1) := by decide +kernel
theorem d_Md_wrongKind_294 : decode b_Md_wrongKind 294 = .ok (.iaload, 1) := by decide +kernel
theorem d_Md_wrongKind_295 : decode b_Md_wrongKind 295 = .ok (.iconst 1, 1) := by decide +kernel
theorem d_Md_wrongKind_296 : decode b_Md_wrongKind 296 = .ok (.if_icmp .eq 7, 3) := by decide +kernel
theorem d_Md_wrongKind_299 : decode b_Md_wrongKind 299 = .ok (.iconst 1, 1) := by decide +kernel
theorem d_Md_wrongKind_300 : decode b_Md_wrongKind 300 = .ok (.goto 4, 3) := by decide +kernel
theorem d_Md_wrongKind_303 : decode b_Md_wrongKind 303 = .ok (.iconst 0, 1) := by decide +kernel
theorem d_Md_wrongKind_304 : decode b_Md_wrongKind 304 = .ok (.ireturn, 1) := by decide +kernel
theorem d_Md_wrongKind_305 : decode b_Md_wrongKind 305 = .ok (.aload_n 0, 1) := by decide +kernel
theorem d_Md_wrongKind_306 : decode b_Md_wrongKind 306 = .ok (.getfield 19, 3) := by decide +kernel
theorem d_Md_wrongKind_309 : decode b_Md_wrongKind 309 = .ok (.iload_n 1, 1) := by decide +kernel
theorem d_Md_wrongKind_310 : decode b_Md_wrongKind 310 = .ok (.iaload, 1) := by decide +kernel
theorem d_Md_wrongKind_311 : decode b_Md_wrongKind 311 = .ok (.ifCond .le 13, 3) := by decide +kernel
theorem d_Md_wrongKind_314 : decode b_Md_wrongKind 314 = .ok (.aload_n 0, 1) := by decide +kernel
theorem d_Md_wrongKind_315 : decode b_Md_wrongKind 315 = .ok (.getfield 25, 3) := by decide +kernel
theorem d_Md_wrongKind_318 : decode b_Md_wrongKind 318 = .ok (.iconst 1, 1) := by decide +kernel
theorem d_Md_wrongKind_319 : decode b_Md_wrongKind 319 = .ok (.iaload, 1) := by decide +kernel
theorem d_Md_wrongKind_320 : decode b_Md_wrongKind 320 = .ok (.iconst 1, 1) := by decide +kernel
theorem d_Md_wrongKind_321 : decode b_Md_wrongKind 321 = .ok (.if_icmp .ne 23, 3) := by decide +kernel
theorem d_Md_wrongKind_324 : decode b_Md_wrongKind 324 = .ok (.aload_n 0, 1) := by decide +kernel
theorem d_Md_wrongKind_325 : decode b_Md_wrongKind 325 = .ok (.getfield 19, 3) := by decide +kernel
theorem d_Md_wrongKind_328 : decode b_Md_wrongKind 328 = .ok (.iload_n 1, 1) := by decide +kernel
theorem d_Md_wrongKind_329 : decode b_Md_wrongKind 329 = .ok (.iaload, 1) := by decide +kernel
theorem d_Md_wrongKind_330 : decode b_Md_wrongKind 330 = .ok (.iconst 2, 1) := by decide +kernel
theorem d_Md_wrongKind_331 : decode b_Md_wrongKind 331 = .ok (.if_icmp .ne 17, 3) := by decide +kernel
theorem d_Md_wrongKind_334 : decode b_Md_wrongKind 334 = .ok (.aload_n 0, 1) := by decide +kernel
theorem d_Md_wrongKind_335 : decode b_Md_wrongKind 335 = .ok (.getfield 25, 3) := by decide +kernel
theorem d_Md_wrongKind_338 : decode b_Md_wrongKind 338 = .ok (.iconst 2, 1) := by decide +kernel
theorem d_Md_wrongKind_339 : decode b_Md_wrongKind 339 = .ok (.iaload, 1) := by decide +kernel
theorem d_Md_wrongKind_340 : decode b_Md_wrongKind 340 = .ok (.iconst 1, 1) := by decide +kernel
theorem d_Md_wrongKind_341 : decode b_Md_wrongKind 341 = .ok (.if_icmp .eq 7, 3) := by decide +kernel
theorem d_Md_wrongKind_344 : decode b_Md_wrongKind 344 = .ok (.iconst 1, 1) := by decide +kernel
theorem d_Md_wrongKind_345 : decode b_Md_wrongKind 345 = .ok (.goto 4, 3) := by decide +kernel
theorem d_Md_wrongKind_348 : decode b_Md_wrongKind 348 = .ok (.iconst 0, 1) := by decide +kernel
theorem d_Md_wrongKind_349 : decode b_Md_wrongKind 349 = .ok (.ireturn, 1) := by decide +kernel
theorem d_Md_wrongPlace_0 : decode b_Md_wrongPlace 0 = .ok (.aload_n 0, 1) := by decide +kernel
theorem d_Md_wrongPlace_1 : decode b_Md_wrongPlace 1 = .ok (.getfield 7, 3) := by decide +kernel
theorem d_Md_wrongPlace_4 : decode b_Md_wrongPlace 4 = .ok (.iload_n 1, 1) := by decide +kernel
theorem d_Md_wrongPlace_5 : decode b_Md_wrongPlace 5 = .ok (.iaload, 1) := by decide +kernel
theorem d_Md_wrongPlace_6 : decode b_Md_wrongPlace 6 = .ok (.istore_n 2, 1) := by decide +kernel
theorem d_Md_wrongPlace_7 : decode b_Md_wrongPlace 7 = .ok (.aload_n 0, 1) := by decide +kernel
theorem d_Md_wrongPlace_8 : decode b_Md_wrongPlace 8 = .ok (.getfield 13, 3) := by decide +kernel
theorem d_Md_wrongPlace_11 : decode b_Md_wrongPlace 11 = .ok (.iload_n 1, 1) := by decide +kernel
theorem d_Md_wrongPlace_12 : decode b_Md_wrongPlace 12 = .ok (.iaload, 1) := by decide +kernel
theorem d_Md_wrongPlace_13 : decode b_Md_wrongPlace 13 = .ok (.istore_n 3, 1) := by decide +kernel
theorem d_Md_wrongPlace_14 : decode b_Md_wrongPlace 14 = .ok (.aload_n 0, 1) := by decide +kernel
theorem d_Md_wrongPlace_15 : decode b_Md_wrongPlace 15 = .ok (.getfield 16, 3) := by decide +kernel
theorem d_Md_wrongPlace_18 : decode b_Md_wrongPlace 18 = .ok (.iload_n 1, 1) := by decide +kernel
theorem d_Md_wrongPlace_19 : decode b_Md_wrongPlace 19 = .ok (.iaload, 1) := by decide +kernel
theorem d_Md_wrongPlace_20 : decode b_Md_wrongPlace 20 = .ok (.istore 4, 2) := by decide +kernel
theorem d_Md_wrongPlace_22 : decode b_Md_wrongPlace 22 = .ok (.iload_n 2, 1) := by decide +kernel
theorem d_Md_wrongPlace_23 : decode b_Md_wrongPlace 23 = .ok (.iconst 2, 1) := by decide +kernel
theorem d_Md_wrongPlace_24 : decode b_Md_wrongPlace 24 = .ok (.if_icmp .eq 8, 3) := by decide +kernel
theorem d_Md_wrongPlace_27 : decode b_Md_wrongPlace 27 = .ok (.iload_n 2, 1) := by decide +kernel
theorem d_Md_wrongPlace_28 : decode b_Md_wrongPlace 28 = .ok (.iconst 3, 1) := by decide +kernel
theorem d_Md_wrongPlace_29 : decode b_Md_wrongPlace 29 = .ok (.if_icmp .ne 135, 3) := by decide +kernel
theorem d_Md_wrongPlace_32 : decode b_Md_wrongPlace 32 = .ok (.aload_n 0, 1) := by decide +kernel
theorem d_Md_wrongPlace_33 : decode b_Md_wrongPlace 33 = .ok (.iload_n 3, 1) := by decide +kernel
theorem d_Md_wrongPlace_34 : decode b_Md_wrongPlace 34 = .ok (.invokevirtual 102, 3) := by decide +kernel
theorem d_Md_wrongPlace_37 : decode b_Md_wrongPlace 37 = .ok (.ifCond .eq 127, 3) := by decide +kernel
theorem d_Md_wrongPlace_40 : decode b_Md_wrongPlace 40 = .ok (.iload_n 2, 1) := by decide +kernel
theorem d_Md_wrongPlace_41 : decode b_Md_wrongPlace 41 = .ok (.iconst 2, 1) := by decide +kernel
theorem d_Md_wrongPlace_42 : decode b_Md_wrongPlace 42 = .ok (.if_icmp .ne 13, 3) := by decide +kernel
theorem d_Md_wrongPlace_45 : decode b_Md_wrongPlace 45 = .ok (.aload_n 0, 1) := by decide +kernel
theorem d_Md_wrongPlace_46 : decode b_Md_wrongPlace 46 = .ok (.getfield 19, 3) := by decide +kernel
theorem d_Md_wrongPlace_49 : decode b_Md_wrongPlace 49 = .ok (.iload_n 1, 1) := by decide +kernel
theorem d_Md_wrongPlace_50 : decode b_Md_wrongPlace 50 = .ok (.iaload, 1) := by decide +kernel
theorem d_Md_wrongPlace_51 : decode b_Md_wrongPlace 51 = .ok (.i2l, 1) := by decide +kernel
theorem d_Md_wrongPlace_52 : decode b_Md_wrongPlace 52 = .ok (.goto 10, 3) := by decide +kernel
theorem d_Md_wrongPlace_55 : decode b_Md_wrongPlace 55 = .ok (.aload_n 0, 1) := by decide +kernel
theorem d_Md_wrongPlace_56 : decode b_Md_wrongPlace 56 = .ok (.getfield 28, 3) := by decide +kernel
theorem d_Md_wrongPlace_59 : decode b_Md_wrongPlace 59 = .ok (.iload 4, 2) := by decide +kernel
theorem d_Md_wrongPlace_61 : decode b_Md_wrongPlace 61 = .ok (.laload, 1) := by decide +kernel
theorem d_Md_wrongPlace_62 : decode b_Md_wrongPlace 62 = .ok (.lstore 5, 2) := by decide +kernel
theorem d_Md_wrongPlace_64 : decode b_Md_wrongPlace 64 = .ok (.iload_n 2, 1) := by decide +kernel
theorem d_Md_wrongPlace_65 : decode b_Md_wrongPlace 65 = .ok (.iconst 2, 1) := by decide +kernel
theorem d_Md_wrongPlace_66 : decode b_Md_wrongPlace 66 = .ok (.if_icmp .ne 13, 3) := by decide +kernel
theorem d_Md_wrongPlace_69 : decode b_Md_wrongPlace 69 = .ok (.aload_n 0, 1) := by decide +kernel
theorem d_Md_wrongPlace_70 : decode b_Md_wrongPlace 70 = .ok (.getfield 19, 3) := by decide +kernel
theorem d_Md_wrongPlace_73 : decode b_Md_wrongPlace 73 = .ok (.iload_n 1, 1) := by decide +kernel
theorem d_Md_wrongPlace_74 : decode b_Md_wrongPlace 74 = .ok (.iaload, 1) := by decide +kernel
theorem d_Md_wrongPlace_75 : decode b_Md_wrongPlace 75 = .ok (.i2l, 1) := by decide +kernel
theorem d_Md_wrongPlace_76 : decode b_Md_wrongPlace 76 = .ok (.goto 10, 3) := by decide +kernel
theorem d_Md_wrongPlace_79 : decode b_Md_wrongPlace 79 = .ok (.aload_n 0, 1) := by decide +kernel
theorem d_Md_wrongPlace_80 : decode b_Md_wrongPlace 80 = .ok (.getfield 32, 3) := by decide +kernel
theorem d_Md_wrongPlace_83 : decode b_Md_wrongPlace 83 = .ok (.iload 4, 2) := by decide +kernel
theorem d_Md_wrongPlace_85 : decode b_Md_wrongPlace 85 = .ok (.laload, 1) := by decide +kernel
theorem d_Md_wrongPlace_86 : decode b_Md_wrongPlace 86 = .ok (.lstore 7, 2) := by decide +kernel
theorem d_Md_wrongPlace_88 : decode b_Md_wrongPlace 88 = .ok (.aload_n 0, 1) := by decide +kernel
theorem d_Md_wrongPlace_89 : decode b_Md_wrongPlace 89 = .ok (.getfield 28, 3) := by decide +kernel
theorem d_Md_wrongPlace_92 : decode b_Md_wrongPlace 92 = .ok (.iload_n 3, 1) := by decide +kernel
theorem d_Md_wrongPlace_93 : decode b_Md_wrongPlace 93 = .ok (.laload, 1) := by decide +kernel
theorem d_Md_wrongPlace_94 : decode b_Md_wrongPlace 94 = .ok (.lload 5, 2) := by decide +kernel
theorem d_Md_wrongPlace_96 : decode b_Md_wrongPlace 96 = .ok (.invokestatic 105, 3) := by decide +kernel
theorem d_Md_wrongPlace_99 : decode b_Md_wrongPlace 99 = .ok (.ifCond .ne 59, 3) := by decide +kernel
theorem d_Md_wrongPlace_102 : decode b_Md_wrongPlace 102 = .ok (.aload_n 0, 1) := by decide +kernel
theorem d_Md_wrongPlace_103 : decode b_Md_wrongPlace 103 = .ok (.getfield 32, 3) := by decide +kernel
theorem d_Md_wrongPlace_106 : decode b_Md_wrongPlace 106 = .ok (.iload_n 3, 1) := by decide +kernel
theorem d_Md_wrongPlace_107 : decode b_Md_wrongPlace 107 = .ok (.laload, 1) := by decide +kernel
theorem d_Md_wrongPlace_108 : decode b_Md_wrongPlace 108 = .ok (.lload 7, 2) := by decide +kernel
theorem d_Md_wrongPlace_110 : decode b_Md_wrongPlace 110 = .ok (.invokestatic 105, 3) := by decide +kernel
theorem d_Md_wrongPlace_113 : decode b_Md_wrongPlace 113 = .ok (.ifCond .ne 45, 3) := by decide +kernel
theorem d_Md_wrongPlace_116 : decode b_Md_wrongPlace 116 = .ok (.aload_n 0, 1) := by decide +kernel
theorem d_Md_wrongPlace_117 : decode b_Md_wrongPlace 117 = .ok (.getfield 28, 3) := by decide +kernel
theorem d_Md_wrongPlace_120 : decode b_Md_wrongPlace 120 = .ok (.iload_n 3, 1) := by decide +kernel
theorem d_Md_wrongPlace_121 : decode b_Md_wrongPlace 121 = .ok (.laload, 1) := by decide +kernel
theorem d_Md_wrongPlace_122 : decode b_Md_wrongPlace 122 = .ok (.lload 5, 2) := by decide +kernel
theorem d_Md_wrongPlace_124 : decode b_Md_wrongPlace 124 = .ok (.ladd, 1) := by decide +kernel
theorem d_Md_wrongPlace_125 : decode b_Md_wrongPlace 125 = .ok (.ldc2_w 109, 3) := by decide +kernel
theorem d_Md_wrongPlace_128 : decode b_Md_wrongPlace 128 = .ok (.ldc2_w 111, 3) := by decide +kernel
theorem d_Md_wrongPlace_131 : decode b_Md_wrongPlace 131 = .ok (.invokestatic 56, 3) := by decide +kernel
theorem d_Md_wrongPlace_134 : decode b_Md_wrongPlace 134 = .ok (.ifCond .eq 24, 3) := by decide +kernel
theorem d_Md_wrongPlace_137 : decode b_Md_wrongPlace 137 = .ok (.aload_n 0, 1) := by decide +kernel
theorem d_Md_wrongPlace_138 : decode b_Md_wrongPlace 138 = .ok (.getfield 32, 3) := by decide +kernel
theorem d_Md_wrongPlace_141 : decode b_Md_wrongPlace 141 = .ok (.iload_n 3, 1) := by decide +kernel
theorem d_Md_wrongPlace_142 : decode b_Md_wrongPlace 142 = .ok (.laload, 1) := by decide +kernel
theorem d_Md_wrongPlace_143 : decode b_Md_wrongPlace 143 = .ok (.lload 7, 2) := by decide +kernel
theorem d_Md_wrongPlace_145 : decode b_Md_wrongPlace 145 = .ok (.ladd, 1) := by decide +kernel
theorem d_Md_wrongPlace_146 : decode b_Md_wrongPlace 146 = .ok (.ldc2_w 109, 3) := by decide +kernel
theorem d_Md_wrongPlace_149 : decode b_Md_wrongPlace 149 = .ok (.ldc2_w 111, 3) := by decide +kernel
theorem d_Md_wrongPlace_152 : decode b_Md_wrongPlace 152 = .ok (.invokestatic 56, 3) := by decide +kernel
theorem d_Md_wrongPlace_155 : decode b_Md_wrongPlace 155 = .ok (.ifCond .ne 7, 3) := by decide +kernel
theorem d_Md_wrongPlace_158 : decode b_Md_wrongPlace 158 = .ok (.iconst 1, 1) := by decide +kernel
theorem d_Md_wrongPlace_159 : decode b_Md_wrongPlace 159 = .ok (.goto 4, 3) := by decide +kernel
theorem d_Md_wrongPlace_162 : decode b_Md_wrongPlace 162 = .ok (.iconst 0, 1) := by decide +kernel
theorem d_Md_wrongPlace_163 : decode b_Md_wrongPlace 163 = .ok (.ireturn, 1) := by decide +kernel
theorem d_Md_wrongPlace_164 : decode b_Md_wrongPlace 164 = .ok (.iload_n 2, 1) := by decide +kernel
theorem d_Md_wrongPlace_165 : decode b_Md_wrongPlace 165 = .ok (.bipush 14, 2) := by decide +kernel
theorem d_Md_wrongPlace_167 : decode b_Md_wrongPlace 167 = .ok (.if_icmp .eq 11, 3) := by decide +kernel
theorem d_Md_wrongPlace_170 : decode b_Md_wrongPlace 170 = .ok (.iload_n 2, 1) := by decide +kernel
theorem d_Md_wrongPlace_171 : decode b_Md_wrongPlace 171 = .ok (.bipush 15, 2) := by decide +kernel
theorem d_Md_wrongPlace_173 : decode b_Md_wrongPlace 173 = .ok (.if_icmp .eq 5, 3) := by decide +kernel
theorem d_Md_wrongPlace_176 : decode b_Md_wrongPlace 176 = .ok (.iconst 0, 1) := by decide +kernel
theorem d_Md_wrongPlace_177 : decode b_Md_wrongPlace 177 = .ok (.ireturn, 1) := by decide +kernel
theorem d_Md_wrongPlace_178 : decode b_Md_wrongPlace 178 = .ok (.iload_n 2, 1) := by decide +kernel
theorem d_Md_wrongPlace_179 : decode b_Md_wrongPlace 179 = .ok (.bipush 14, 2) := by decide +kernel
theorem d_Md_wrongPlace_181 : decode b_Md_wrongPlace 181 = .ok (.if_icmp .ne 8, 3) := by decide +kernel
theorem d_Md_wrongPlace_184 : decode b_Md_wrongPlace 184 = .ok (.iload 4, 2) := by decide +kernel
theorem d_Md_wrongPlace_186 : decode b_Md_wrongPlace 186 = .ok (.goto 4, 3) := by decide +kernel
theorem d_Md_wrongPlace_189 : decode b_Md_wrongPlace 189 = .ok (.iload_n 3, 1) := by decide +kernel
theorem d_Md_wrongPlace_190 : decode b_Md_wrongPlace 190 = .ok (.istore 5, 2) := by decide +kernel
theorem d_Md_wrongPlace_192 : decode b_Md_wrongPlace 192 = .ok (.aload_n 0, 1) := by decide +kernel
theorem d_Md_wrongPlace_193 : decode b_Md_wrongPlace 193 = .ok (.getfield 25, 3) := by decide +kernel
theorem d_Md_wrongPlace_196 : decode b_Md_wrongPlace 196 = .ok (.iload 5, 2) := by decide +kernel
theorem d_Md_wrongPlace_198 : decode b_Md_wrongPlace 198 = .ok (.iaload, 1) := by decide +kernel
theorem d_Md_wrongPlace_199 : decode b_Md_wrongPlace 199 = .ok (.iconst 3, 1) := by decide +kernel
theorem d_Md_wrongPlace_200 : decode b_Md_wrongPlace 200 = .ok (.if_icmp .ne 7, 3) := by decide +kernel
theorem d_Md_wrongPlace_203 : decode b_Md_wrongPlace 203 = .ok (.lconst 1, 1) := by decide +kernel
theorem d_Md_wrongPlace_204 : decode b_Md_wrongPlace 204 = .ok (.goto 6, 3) := by decide +kernel
theorem d_Md_wrongPlace_207 : decode b_Md_wrongPlace 207 = .ok (.ldc2_w 60, 3) := by decide +kernel
theorem d_Md_wrongPlace_210 : decode b_Md_wrongPlace 210 = .ok (.lstore 6, 2) := by decide +kernel
theorem d_Md_wrongPlace_212 : decode b_Md_wrongPlace 212 = .ok (.aload_n 0, 1) := by decide +kernel
theorem d_Md_wrongPlace_213 : decode b_Md_wrongPlace 213 = .ok (.getfield 28, 3) := by decide +kernel
theorem d_Md_wrongPlace_216 : decode b_Md_wrongPlace 216 = .ok (.iload 5, 2) := by decide +kernel
theorem d_Md_wrongPlace_218 : decode b_Md_wrongPlace 218 = .ok (.laload, 1) := by decide +kernel
theorem d_Md_wrongPlace_219 : decode b_Md_wrongPlace 219 = .ok (.aload_n 0, 1) := by decide +kernel
theorem d_Md_wrongPlace_220 : decode b_Md_wrongPlace 220 = .ok (.getfield 19, 3) := by decide +kernel
theorem d_Md_wrongPlace_223 : decode b_Md_wrongPlace 223 = .ok (.iload_n 1, 1) := by decide +kernel
theorem d_Md_wrongPlace_224 : decode b_Md_wrongPlace 224 = .ok (.iaload, 1) := by decide +kernel
theorem d_Md_wrongPlace_225 : decode b_Md_wrongPlace 225 = .ok (.i2l, 1) := by decide +kernel
theorem d_Md_wrongPlace_226 : decode b_Md_wrongPlace 226 = .ok (.ladd, 1) := by decide +kernel
theorem d_Md_wrongPlace_227 : decode b_Md_wrongPlace 227 = .ok (.lconst 0, 1) := by decide +kernel
theorem d_Md_wrongPlace_228 : decode b_Md_wrongPlace 228 = .ok (.lload 6, 2) := by decide +kernel
theorem d_Md_wrongPlace_230 : decode b_Md_wrongPlace 230 = .ok (.invokestatic 56, 3) := by decide +kernel
theorem d_Md_wrongPlace_233 : decode b_Md_wrongPlace 233 = .ok (.ifCond .eq 27, 3) := by decide +kernel
theorem d_Md_wrongPlace_236 : decode b_Md_wrongPlace 236 = .ok (.aload_n 0, 1) := by decide +kernel
theorem d_Md_wrongPlace_237 : decode b_Md_wrongPlace 237 = .ok (.getfield 32, 3) := by decide +kernel
theorem d_Md_wrongPlace_240 : decode b_Md_wrongPlace 240 = .ok (.iload 5, 2) := by decide +kernel
theorem d_Md_wrongPlace_242 : decode b_Md_wrongPlace 242 = .ok (.laload, 1) := by decide +kernel
theorem d_Md_wrongPlace_243 : decode b_Md_wrongPlace 243 = .ok (.aload_n 0, 1) := by decide +kernel
theorem d_Md_wrongPlace_244 : decode b_Md_wrongPlace 244 = .ok (.getfield 19, 3) := by decide +kernel
theorem d_Md_wrongPlace_247 : decode b_Md_wrongPlace 247 = .ok (.iload_n 1, 1) := by decide +kernel
theorem d_Md_wrongPlace_248 : decode b_Md_wrongPlace 248 = .ok (.iaload, 1) := by decide +kernel
theorem d_Md_wrongPlace_249 : decode b_Md_wrongPlace 249 = .ok (.i2l, 1) := by decide +kernel
theorem d_Md_wrongPlace_250 : decode b_Md_wrongPlace 250 = .ok (.ladd, 1) := by decide +kernel
theorem d_Md_wrongPlace_251 : decode b_Md_wrongPlace 251 = .ok (.lconst 0, 1) := by decide +kernel
theorem d_Md_wrongPlace_252 : decode b_Md_wrongPlace 252 = .ok (.lload 6, 2) := by decide +kernel
theorem d_Md_wrongPlace_254 : decode b_Md_wrongPlace 254 = .ok (.invokestatic 56, 3) := by decide +kernel
theorem d_Md_wrongPlace_257 : decode b_Md_wrongPlace 257 = .ok (.ifCond .ne 7, 3) := by decide +kernel
theorem d_Md_wrongPlace_260 : decode b_Md_wrongPlace 260 = .ok (.iconst 1, 1) := by decide +kernel
theorem d_Md_wrongPlace_261 : decode b_Md_wrongPlace 261 = .ok (.goto 4, 3) := by decide +kernel
theorem d_Md_wrongPlace_264 : decode b_Md_wrongPlace 264 = .ok (.iconst 0, 1) := by decide +kernel
theorem d_Md_wrongPlace_265 : decode b_Md_wrongPlace 265 = .ok (.ireturn, 1) := by decide +kernel
theorem d_Md_wrongCells_0 : decode b_Md_wrongCells 0 = .ok (.aload_n 0, 1) := by decide +kernel
theorem d_Md_wrongCells_1 : decode b_Md_wrongCells 1 = .ok (.getfield 16, 3) := by decide +kernel
theorem d_Md_wrongCells_4 : decode b_Md_wrongCells 4 = .ok (.iload_n 1, 1) := by decide +kernel
theorem d_Md_wrongCells_5 : decode b_Md_wrongCells 5 = .ok (.iaload, 1) := by decide +kernel
theorem d_Md_wrongCells_6 : decode b_Md_wrongCells 6 = .ok (.istore_n 2, 1) := by decide +kernel
theorem d_Md_wrongCells_7 : decode b_Md_wrongCells 7 = .ok (.aload_n 0, 1) := by decide +kernel
theorem d_Md_wrongCells_8 : decode b_Md_wrongCells 8 = .ok (.getfield 7, 3) := by decide +kernel
theorem d_Md_wrongCells_11 : decode b_Md_wrongCells 11 = .ok (.iload_n 1, 1) := by decide +kernel
theorem d_Md_wrongCells_12 : decode b_Md_wrongCells 12 = .ok (.iaload, 1) := by decide +kernel
theorem d_Md_wrongCells_13 : decode b_Md_wrongCells 13 = .ok (.bipush 14, 2) := by decide +kernel
theorem d_Md_wrongCells_15 : decode b_Md_wrongCells 15 = .ok (.if_icmp .ne 13, 3) := by decide +kernel
theorem d_Md_wrongCells_18 : decode b_Md_wrongCells 18 = .ok (.aload_n 0, 1) := by decide +kernel
theorem d_Md_wrongCells_19 : decode b_Md_wrongCells 19 = .ok (.getfield 25, 3) := by decide +kernel
theorem d_Md_wrongCells_22 : decode b_Md_wrongCells 22 = .ok (.iload_n 2, 1) := by decide +kernel
theorem d_Md_wrongCells_23 : decode b_Md_wrongCells 23 = .ok (.iaload, 1) := by decide +kernel
theorem d_Md_wrongCells_24 : decode b_Md_wrongCells 24 = .ok (.iconst 3, 1) := by decide +kernel
theorem d_Md_wrongCells_25 : decode b_Md_wrongCells 25 = .ok (.if_icmp .ne 5, 3) := by decide +kernel
theorem d_Md_wrongCells_28 : decode b_Md_wrongCells 28 = .ok (.iconst 0, 1) := by decide +kernel
theorem d_Md_wrongCells_29 : decode b_Md_wrongCells 29 = .ok (.ireturn, 1) := by decide +kernel
theorem d_Md_wrongCells_30 : decode b_Md_wrongCells 30 = .ok (.aload_n 0, 1) := by decide +kernel
theorem d_Md_wrongCells_31 : decode b_Md_wrongCells 31 = .ok (.getfield 28, 3) := by decide +kernel
theorem d_Md_wrongCells_34 : decode b_Md_wrongCells 34 = .ok (.iload_n 2, 1) := by decide +kernel
theorem d_Md_wrongCells_35 : decode b_Md_wrongCells 35 = .ok (.laload, 1) := by decide +kernel
theorem d_Md_wrongCells_36 : decode b_Md_wrongCells 36 = .ok (.aload_n 0, 1) := by decide +kernel
theorem d_Md_wrongCells_37 : decode b_Md_wrongCells 37 = .ok (.getfield 19, 3) := by decide +kernel
theorem d_Md_wrongCells_40 : decode b_Md_wrongCells 40 = .ok (.iload_n 1, 1) := by decide +kernel
theorem d_Md_wrongCells_41 : decode b_Md_wrongCells 41 = .ok (.iaload, 1) := by decide +kernel
theorem d_Md_wrongCells_42 : decode b_Md_wrongCells 42 = .ok (.i2l, 1) := by decide +kernel
theorem d_Md_wrongCells_43 : decode b_Md_wrongCells 43 = .ok (.ladd, 1) := by decide +kernel
theorem d_Md_wrongCells_44 : decode b_Md_wrongCells 44 = .ok (.lstore_n 3, 1) := by decide +kernel
theorem d_Md_wrongCells_45 : decode b_Md_wrongCells 45 = .ok (.lload_n 3, 1) := by decide +kernel
theorem d_Md_wrongCells_46 : decode b_Md_wrongCells 46 = .ok (.aload_n 0, 1) := by decide +kernel
theorem d_Md_wrongCells_47 : decode b_Md_wrongCells 47 = .ok (.getfield 32, 3) := by decide +kernel
theorem d_Md_wrongCells_50 : decode b_Md_wrongCells 50 = .ok (.iload_n 2, 1) := by decide +kernel
theorem d_Md_wrongCells_51 : decode b_Md_wrongCells 51 = .ok (.laload, 1) := by decide +kernel
theorem d_Md_wrongCells_52 : decode b_Md_wrongCells 52 = .ok (.aload_n 0, 1) := by decide +kernel
theorem d_Md_wrongCells_53 : decode b_Md_wrongCells 53 = .ok (.getfield 19, 3) := by decide +kernel
theorem d_Md_wrongCells_56 : decode b_Md_wrongCells 56 = .ok (.iload_n 1, 1) := by decide +kernel
theorem d_Md_wrongCells_57 : decode b_Md_wrongCells 57 = .ok (.iaload, 1) := by decide +kernel
theorem d_Md_wrongCells_58 : decode b_Md_wrongCells 58 = .ok (.i2l, 1) := by decide +kernel
theorem d_Md_wrongCells_59 : decode b_Md_wrongCells 59 = .ok (.ladd, 1) := by decide +kernel
theorem d_Md_wrongCells_60 : decode b_Md_wrongCells 60 = .ok (.lcmp, 1) := by decide +kernel
theorem d_Md_wrongCells_61 : decode b_Md_wrongCells 61 = .ok (.ifCond .gt 51, 3) := by decide +kernel
theorem d_Md_wrongCells_64 : decode b_Md_wrongCells 64 = .ok (.aload_n 0, 1) := by decide +kernel
theorem d_Md_wrongCells_65 : decode b_Md_wrongCells 65 = .ok (.getfield 25, 3) := by decide +kernel
theorem d_Md_wrongCells_68 : decode b_Md_wrongCells 68 = .ok (.bipush 6, 2) := by decide +kernel
theorem d_Md_wrongCells_70 : decode b_Md_wrongCells 70 = .ok (.lload_n 3, 1) := by decide +kernel
theorem d_Md_wrongCells_71 : decode b_Md_wrongCells 71 = .ok (.l2i, 1) := by decide +kernel
theorem d_Md_wrongCells_72 : decode b_Md_wrongCells 72 = .ok (.iadd, 1) := by decide +kernel
theorem d_Md_wrongCells_73 : decode b_Md_wrongCells 73 = .ok (.iaload, 1) := by decide +kernel
theorem d_Md_wrongCells_74 : decode b_Md_wrongCells 74 = .ok (.istore 5, 2) := by decide +kernel
theorem d_Md_wrongCells_76 : decode b_Md_wrongCells 76 = .ok (.iload 5, 2) := by decide +kernel
theorem d_Md_wrongCells_78 : decode b_Md_wrongCells 78 = .ok (.ifCond .eq 25, 3) := by decide +kernel
theorem d_Md_wrongCells_81 : decode b_Md_wrongCells 81 = .ok (.aload_n 0, 1) := by decide +kernel
theorem d_Md_wrongCells_82 : decode b_Md_wrongCells 82 = .ok (.getfield 28, 3) := by decide +kernel
theorem d_Md_wrongCells_85 : decode b_Md_wrongCells 85 = .ok (.iload_n 2, 1) := by decide +kernel
theorem d_Md_wrongCells_86 : decode b_Md_wrongCells 86 = .ok (.laload, 1) := by decide +kernel
theorem d_Md_wrongCells_87 : decode b_Md_wrongCells 87 = .ok (.aload_n 0, 1) := by decide +kernel
theorem d_Md_wrongCells_88 : decode b_Md_wrongCells 88 = .ok (.getfield 32, 3) := by decide +kernel
theorem d_Md_wrongCells_91 : decode b_Md_wrongCells 91 = .ok (.iload_n 2, 1) := by decide +kernel
theorem d_Md_wrongCells_92 : decode b_Md_wrongCells 92 = .ok (.laload, 1) := by decide +kernel
theorem d_Md_wrongCells_93 : decode b_Md_wrongCells 93 = .ok (.lcmp, 1) := by decide +kernel
theorem d_Md_wrongCells_94 : decode b_Md_wrongCells 94 = .ok (.ifCond .eq 11, 3) := by decide +kernel
theorem d_Md_wrongCells_97 : decode b_Md_wrongCells 97 = .ok (.iload 5, 2) := by decide +kernel
theorem d_Md_wrongCells_99 : decode b_Md_wrongCells 99 = .ok (.iconst 1, 1) := by decide +kernel
theorem d_Md_wrongCells_100 : decode b_Md_wrongCells 100 = .ok (.if_icmp .eq 5, 3) := by decide +kernel
theorem d_Md_wrongCells_103 : decode b_Md_wrongCells 103 = .ok (.iconst 1, 1) := by decide +kernel
theorem d_Md_wrongCells_104 : decode b_Md_wrongCells 104 = .ok (.ireturn, 1) := by decide +kernel
theorem d_Md_wrongCells_105 : decode b_Md_wrongCells 105 = .ok (.lload_n 3, 1) := by decide +kernel
theorem d_Md_wrongCells_106 : decode b_Md_wrongCells 106 = .ok (.lconst 1, 1) := by decide +kernel
theorem d_Md_wrongCells_107 : decode b_Md_wrongCells 107 = .ok (.ladd, 1) := by decide +kernel
theorem d_Md_wrongCells_108 : decode b_Md_wrongCells 108 = .ok (.lstore_n 3, 1) := by decide +kernel
theorem d_Md_wrongCells_109 : decode b_Md_wrongCells 109 = .ok (.goto (-64), 3) := by decide +kernel
theorem d_Md_wrongCells_112 : decode b_Md_wrongCells 112 = .ok (.iconst 0, 1) := by decide +kernel
theorem d_Md_wrongCells_113 : decode b_Md_wrongCells 113 = .ok (.ireturn, 1) := by decide +kernel
theorem d_Md_wrongStore_0 : decode b_Md_wrongStore 0 = .ok (.aload_n 0, 1) := by decide +kernel
theorem d_Md_wrongStore_1 : decode b_Md_wrongStore 1 = .ok (.getfield 13, 3) := by decide +kernel
theorem d_Md_wrongStore_4 : decode b_Md_wrongStore 4 = .ok (.iload_n 1, 1) := by decide +kernel
theorem d_Md_wrongStore_5 : decode b_Md_wrongStore 5 = .ok (.iaload, 1) := by decide +kernel
theorem d_Md_wrongStore_6 : decode b_Md_wrongStore 6 = .ok (.istore_n 2, 1) := by decide +kernel
theorem d_Md_wrongStore_7 : decode b_Md_wrongStore 7 = .ok (.aload_n 0, 1) := by decide +kernel
theorem d_Md_wrongStore_8 : decode b_Md_wrongStore 8 = .ok (.getfield 7, 3) := by decide +kernel
theorem d_Md_wrongStore_11 : decode b_Md_wrongStore 11 = .ok (.iload_n 1, 1) := by decide +kernel
theorem d_Md_wrongStore_12 : decode b_Md_wrongStore 12 = .ok (.iaload, 1) := by decide +kernel
theorem d_Md_wrongStore_13 : decode b_Md_wrongStore 13 = .ok (.bipush 15, 2) := by decide +kernel
theorem d_Md_wrongStore_15 : decode b_Md_wrongStore 15 = .ok (.if_icmp .ne 29, 3) := by decide +kernel
theorem d_Md_wrongStore_18 : decode b_Md_wrongStore 18 = .ok (.aload_n 0, 1) := by decide +kernel
theorem d_Md_wrongStore_19 : decode b_Md_wrongStore 19 = .ok (.getfield 25, 3) := by decide +kernel
theorem d_Md_wrongStore_22 : decode b_Md_wrongStore 22 = .ok (.iload_n 2, 1) := by decide +kernel
theorem d_Md_wrongStore_23 : decode b_Md_wrongStore 23 = .ok (.iaload, 1) := by decide +kernel
theorem d_Md_wrongStore_24 : decode b_Md_wrongStore 24 = .ok (.iconst 3, 1) := by decide +kernel
theorem d_Md_wrongStore_25 : decode b_Md_wrongStore 25 = .ok (.if_icmp .eq 19, 3) := by decide +kernel
theorem d_Md_wrongStore_28 : decode b_Md_wrongStore 28 = .ok (.aload_n 0, 1) := by decide +kernel
theorem d_Md_wrongStore_29 : decode b_Md_wrongStore 29 = .ok (.getfield 28, 3) := by decide +kernel
theorem d_Md_wrongStore_32 : decode b_Md_wrongStore 32 = .ok (.iload_n 2, 1) := by decide +kernel
theorem d_Md_wrongStore_33 : decode b_Md_wrongStore 33 = .ok (.laload, 1) := by decide +kernel
theorem d_Md_wrongStore_34 : decode b_Md_wrongStore 34 = .ok (.aload_n 0, 1) := by decide +kernel
theorem d_Md_wrongStore_35 : decode b_Md_wrongStore 35 = .ok (.getfield 32, 3) := by decide +kernel
theorem d_Md_wrongStore_38 : decode b_Md_wrongStore 38 = .ok (.iload_n 2, 1) := by decide +kernel
theorem d_Md_wrongStore_39 : decode b_Md_wrongStore 39 = .ok (.laload, 1) := by decide +kernel
theorem d_Md_wrongStore_40 : decode b_Md_wrongStore 40 = .ok (.lcmp, 1) := by decide +kernel
theorem d_Md_wrongStore_41 : decode b_Md_wrongStore 41 = .ok (.ifCond .ne 5, 3) := by decide +kernel
theorem d_Md_wrongStore_44 : decode b_Md_wrongStore 44 = .ok (.iconst 0, 1) := by decide +kernel
theorem d_Md_wrongStore_45 : decode b_Md_wrongStore 45 = .ok (.ireturn, 1) := by decide +kernel
theorem d_Md_wrongStore_46 : decode b_Md_wrongStore 46 = .ok (.aload_n 0, 1) := by decide +kernel
theorem d_Md_wrongStore_47 : decode b_Md_wrongStore 47 = .ok (.getfield 28, 3) := by decide +kernel
theorem d_Md_wrongStore_50 : decode b_Md_wrongStore 50 = .ok (.iload_n 2, 1) := by decide +kernel
theorem d_Md_wrongStore_51 : decode b_Md_wrongStore 51 = .ok (.laload, 1) := by decide +kernel
theorem d_Md_wrongStore_52 : decode b_Md_wrongStore 52 = .ok (.aload_n 0, 1) := by decide +kernel
theorem d_Md_wrongStore_53 : decode b_Md_wrongStore 53 = .ok (.getfield 19, 3) := by decide +kernel
theorem d_Md_wrongStore_56 : decode b_Md_wrongStore 56 = .ok (.iload_n 1, 1) := by decide +kernel
theorem d_Md_wrongStore_57 : decode b_Md_wrongStore 57 = .ok (.iaload, 1) := by decide +kernel
theorem d_Md_wrongStore_58 : decode b_Md_wrongStore 58 = .ok (.i2l, 1) := by decide +kernel
theorem d_Md_wrongStore_59 : decode b_Md_wrongStore 59 = .ok (.ladd, 1) := by decide +kernel
theorem d_Md_wrongStore_60 : decode b_Md_wrongStore 60 = .ok (.lstore_n 3, 1) := by decide +kernel
theorem d_Md_wrongStore_61 : decode b_Md_wrongStore 61 = .ok (.lload_n 3, 1) := by decide +kernel
theorem d_Md_wrongStore_62 : decode b_Md_wrongStore 62 = .ok (.aload_n 0, 1) := by decide +kernel
theorem d_Md_wrongStore_63 : decode b_Md_wrongStore 63 = .ok (.getfield 32, 3) := by decide +kernel
theorem d_Md_wrongStore_66 : decode b_Md_wrongStore 66 = .ok (.iload_n 2, 1) := by decide +kernel
theorem d_Md_wrongStore_67 : decode b_Md_wrongStore 67 = .ok (.laload, 1) := by decide +kernel
theorem d_Md_wrongStore_68 : decode b_Md_wrongStore 68 = .ok (.aload_n 0, 1) := by decide +kernel
theorem d_Md_wrongStore_69 : decode b_Md_wrongStore 69 = .ok (.getfield 19, 3) := by decide +kernel
theorem d_Md_wrongStore_72 : decode b_Md_wrongStore 72 = .ok (.iload_n 1, 1) := by decide +kernel
theorem d_Md_wrongStore_73 : decode b_Md_wrongStore 73 = .ok (.iaload, 1) := by decide +kernel
theorem d_Md_wrongStore_74 : decode b_Md_wrongStore 74 = .ok (.i2l, 1) := by decide +kernel
theorem d_Md_wrongStore_75 : decode b_Md_wrongStore 75 = .ok (.ladd, 1) := by decide +kernel
theorem d_Md_wrongStore_76 : decode b_Md_wrongStore 76 = .ok (.lcmp, 1) := by decide +kernel
theorem d_Md_wrongStore_77 : decode b_Md_wrongStore 77 = .ok (.ifCond .gt 37, 3) := by decide +kernel
theorem d_Md_wrongStore_80 : decode b_Md_wrongStore 80 = .ok (.lload_n 3, 1) := by decide +kernel
theorem d_Md_wrongStore_81 : decode b_Md_wrongStore 81 = .ok (.lconst 0, 1) := by decide +kernel
theorem d_Md_wrongStore_82 : decode b_Md_wrongStore 82 = .ok (.ldc2_w 60, 3) := by decide +kernel
theorem d_Md_wrongStore_85 : decode b_Md_wrongStore 85 = .ok (.invokestatic 56, 3) := by decide +kernel
theorem d_Md_wrongStore_88 : decode b_Md_wrongStore 88 = .ok (.ifCond .eq 19, 3) := by decide +kernel
theorem d_Md_wrongStore_91 : decode b_Md_wrongStore 91 = .ok (.aload_n 0, 1) := by decide +kernel
theorem d_Md_wrongStore_92 : decode b_Md_wrongStore 92 = .ok (.getfield 25, 3) := by decide +kernel
theorem d_Md_wrongStore_95 : decode b_Md_wrongStore 95 = .ok (.bipush 6, 2) := by decide +kernel
theorem d_Md_wrongStore_97 : decode b_Md_wrongStore 97 = .ok (.lload_n 3, 1) := by decide +kernel
theorem d_Md_wrongStore_98 : decode b_Md_wrongStore 98 = .ok (.l2i, 1) := by decide +kernel
theorem d_Md_wrongStore_99 : decode b_Md_wrongStore 99 = .ok (.iadd, 1) := by decide +kernel
theorem d_Md_wrongStore_100 : decode b_Md_wrongStore 100 = .ok (.iaload, 1) := by decide +kernel
theorem d_Md_wrongStore_101 : decode b_Md_wrongStore 101 = .ok (.iconst 1, 1) := by decide +kernel
theorem d_Md_wrongStore_102 : decode b_Md_wrongStore 102 = .ok (.if_icmp .le 5, 3) := by decide +kernel
theorem d_Md_wrongStore_105 : decode b_Md_wrongStore 105 = .ok (.iconst 1, 1) := by decide +kernel
theorem d_Md_wrongStore_106 : decode b_Md_wrongStore 106 = .ok (.ireturn, 1) := by decide +kernel
theorem d_Md_wrongStore_107 : decode b_Md_wrongStore 107 = .ok (.lload_n 3, 1) := by decide +kernel
theorem d_Md_wrongStore_108 : decode b_Md_wrongStore 108 = .ok (.lconst 1, 1) := by decide +kernel
theorem d_Md_wrongStore_109 : decode b_Md_wrongStore 109 = .ok (.ladd, 1) := by decide +kernel
theorem d_Md_wrongStore_110 : decode b_Md_wrongStore 110 = .ok (.lstore_n 3, 1) := by decide +kernel
theorem d_Md_wrongStore_111 : decode b_Md_wrongStore 111 = .ok (.goto (-50), 3) := by decide +kernel
theorem d_Md_wrongStore_114 : decode b_Md_wrongStore 114 = .ok (.iconst 0, 1) := by decide +kernel
theorem d_Md_wrongStore_115 : decode b_Md_wrongStore 115 = .ok (.ireturn, 1) := by decide +kernel
theorem d_Md_reasonAt_0 : decode b_Md_reasonAt 0 = .ok (.iload_n 1, 1) := by decide +kernel
theorem d_Md_reasonAt_1 : decode b_Md_reasonAt 1 = .ok (.aload_n 0, 1) := by decide +kernel
theorem d_Md_reasonAt_2 : decode b_Md_reasonAt 2 = .ok (.getfield 76, 3) := by decide +kernel
theorem d_Md_reasonAt_5 : decode b_Md_reasonAt 5 = .ok (.if_icmp .ge 45, 3) := by decide +kernel
theorem d_Md_reasonAt_8 : decode b_Md_reasonAt 8 = .ok (.aload_n 0, 1) := by decide +kernel
theorem d_Md_reasonAt_9 : decode b_Md_reasonAt 9 = .ok (.getfield 7, 3) := by decide +kernel
theorem d_Md_reasonAt_12 : decode b_Md_reasonAt 12 = .ok (.iload_n 1, 1) := by decide +kernel
theorem d_Md_reasonAt_13 : decode b_Md_reasonAt 13 = .ok (.iaload, 1) := by decide +kernel
theorem d_Md_reasonAt_14 : decode b_Md_reasonAt 14 = .ok (.i2l, 1) := by decide +kernel
theorem d_Md_reasonAt_15 : decode b_Md_reasonAt 15 = .ok (.ldc2_w 113, 3) := by decide +kernel
theorem d_Md_reasonAt_18 : decode b_Md_reasonAt 18 = .ok (.ldc2_w 115, 3) := by decide +kernel
theorem d_Md_reasonAt_21 : decode b_Md_reasonAt 21 = .ok (.invokestatic 56, 3) := by decide +kernel
theorem d_Md_reasonAt_24 : decode b_Md_reasonAt 24 = .ok (.ifCond .eq 28, 3) := by decide +kernel
theorem d_Md_reasonAt_27 : decode b_Md_reasonAt 27 = .ok (.aload_n 0, 1) := by decide +kernel
theorem d_Md_reasonAt_28 : decode b_Md_reasonAt 28 = .ok (.getfield 22, 3) := by decide +kernel
theorem d_Md_reasonAt_31 : decode b_Md_reasonAt 31 = .ok (.iload_n 1, 1) := by decide +kernel
theorem d_Md_reasonAt_32 : decode b_Md_reasonAt 32 = .ok (.iaload, 1) := by decide +kernel
theorem d_Md_reasonAt_33 : decode b_Md_reasonAt 33 = .ok (.aload_n 0, 1) := by decide +kernel
theorem d_Md_reasonAt_34 : decode b_Md_reasonAt 34 = .ok (.getfield 76, 3) := by decide +kernel
theorem d_Md_reasonAt_37 : decode b_Md_reasonAt 37 = .ok (.if_icmp .ge 13, 3) := by decide +kernel
theorem d_Md_reasonAt_40 : decode b_Md_reasonAt 40 = .ok (.aload_n 0, 1) := by decide +kernel
theorem d_Md_reasonAt_41 : decode b_Md_reasonAt 41 = .ok (.getfield 22, 3) := by decide +kernel
theorem d_Md_reasonAt_44 : decode b_Md_reasonAt 44 = .ok (.iload_n 1, 1) := by decide +kernel
theorem d_Md_reasonAt_45 : decode b_Md_reasonAt 45 = .ok (.iaload, 1) := by decide +kernel
theorem d_Md_reasonAt_46 : decode b_Md_reasonAt 46 = .ok (.iload_n 1, 1) := by decide +kernel
theorem d_Md_reasonAt_47 : decode b_Md_reasonAt 47 = .ok (.if_icmp .gt 5, 3) := by decide +kernel
theorem d_Md_reasonAt_50 : decode b_Md_reasonAt 50 = .ok (.iconst 1, 1) := by decide +kernel
theorem d_Md_reasonAt_51 : decode b_Md_reasonAt 51 = .ok (.ireturn, 1) := by decide +kernel
theorem d_Md_reasonAt_52 : decode b_Md_reasonAt 52 = .ok (.aload_n 0, 1) := by decide +kernel
theorem d_Md_reasonAt_53 : decode b_Md_reasonAt 53 = .ok (.iload_n 1, 1) := by decide +kernel
theorem d_Md_reasonAt_54 : decode b_Md_reasonAt 54 = .ok (.invokevirtual 117, 3) := by decide +kernel
theorem d_Md_reasonAt_57 : decode b_Md_reasonAt 57 = .ok (.ifCond .eq 5, 3) := by decide +kernel
theorem d_Md_reasonAt_60 : decode b_Md_reasonAt 60 = .ok (.iconst 2, 1) := by decide +kernel
theorem d_Md_reasonAt_61 : decode b_Md_reasonAt 61 = .ok (.ireturn, 1) := by decide +kernel
theorem d_Md_reasonAt_62 : decode b_Md_reasonAt 62 = .ok (.aload_n 0, 1) := by decide +kernel
theorem d_Md_reasonAt_63 : decode b_Md_reasonAt 63 = .ok (.iload_n 1, 1) := by decide +kernel
theorem d_Md_reasonAt_64 : decode b_Md_reasonAt 64 = .ok (.invokevirtual 120, 3) := by decide +kernel
theorem d_Md_reasonAt_67 : decode b_Md_reasonAt 67 = .ok (.ifCond .eq 5, 3) := by decide +kernel
theorem d_Md_reasonAt_70 : decode b_Md_reasonAt 70 = .ok (.iconst 3, 1) := by decide +kernel
theorem d_Md_reasonAt_71 : decode b_Md_reasonAt 71 = .ok (.ireturn, 1) := by decide +kernel
theorem d_Md_reasonAt_72 : decode b_Md_reasonAt 72 = .ok (.aload_n 0, 1) := by decide +kernel
theorem d_Md_reasonAt_73 : decode b_Md_reasonAt 73 = .ok (.iload_n 1, 1) := by decide +kernel
theorem d_Md_reasonAt_74 : decode b_Md_reasonAt 74 = .ok (.invokevirtual 123, 3) := by decide +kernel
theorem d_Md_reasonAt_77 : decode b_Md_reasonAt 77 = .ok (.ifCond .eq 5, 3) := by decide +kernel
theorem d_Md_reasonAt_80 : decode b_Md_reasonAt 80 = .ok (.iconst 4, 1) := by decide +kernel
theorem d_Md_reasonAt_81 : decode b_Md_reasonAt 81 = .ok (.ireturn, 1) := by decide +kernel
theorem d_Md_reasonAt_82 : decode b_Md_reasonAt 82 = .ok (.aload_n 0, 1) := by decide +kernel
theorem d_Md_reasonAt_83 : decode b_Md_reasonAt 83 = .ok (.iload_n 1, 1) := by decide +kernel
theorem d_Md_reasonAt_84 : decode b_Md_reasonAt 84 = .ok (.invokevirtual 126, 3) := by decide +kernel
theorem d_Md_reasonAt_87 : decode b_Md_reasonAt 87 = .ok (.ifCond .eq 5, 3) := by decide +kernel
theorem d_Md_reasonAt_90 : decode b_Md_reasonAt 90 = .ok (.iconst 4, 1) := by decide +kernel
theorem d_Md_reasonAt_91 : decode b_Md_reasonAt 91 = .ok (.ireturn, 1) := by decide +kernel
theorem d_Md_reasonAt_92 : decode b_Md_reasonAt 92 = .ok (.aload_n 0, 1) := by decide +kernel
theorem d_Md_reasonAt_93 : decode b_Md_reasonAt 93 = .ok (.iload_n 1, 1) := by decide +kernel
theorem d_Md_reasonAt_94 : decode b_Md_reasonAt 94 = .ok (.invokevirtual 129, 3) := by decide +kernel
theorem d_Md_reasonAt_97 : decode b_Md_reasonAt 97 = .ok (.ifCond .eq 5, 3) := by decide +kernel
theorem d_Md_reasonAt_100 : decode b_Md_reasonAt 100 = .ok (.iconst 5, 1) := by decide +kernel
theorem d_Md_reasonAt_101 : decode b_Md_reasonAt 101 = .ok (.ireturn, 1) := by decide +kernel
theorem d_Md_reasonAt_102 : decode b_Md_reasonAt 102 = .ok (.aload_n 0, 1) := by decide +kernel
theorem d_Md_reasonAt_103 : decode b_Md_reasonAt 103 = .ok (.iload_n 1, 1) := by decide +kernel
theorem d_Md_reasonAt_104 : decode b_Md_reasonAt 104 = .ok (.invokevirtual 132, 3) := by decide +kernel
theorem d_Md_reasonAt_107 : decode b_Md_reasonAt 107 = .ok (.ifCond .eq 6, 3) := by decide +kernel
theorem d_Md_reasonAt_110 : decode b_Md_reasonAt 110 = .ok (.bipush 6, 2) := by decide +kernel
theorem d_Md_reasonAt_112 : decode b_Md_reasonAt 112 = .ok (.ireturn, 1) := by decide +kernel
theorem d_Md_reasonAt_113 : decode b_Md_reasonAt 113 = .ok (.aload_n 0, 1) := by decide +kernel
theorem d_Md_reasonAt_114 : decode b_Md_reasonAt 114 = .ok (.getfield 7, 3) := by decide +kernel
theorem d_Md_reasonAt_117 : decode b_Md_reasonAt 117 = .ok (.iload_n 1, 1) := by decide +kernel
theorem d_Md_reasonAt_118 : decode b_Md_reasonAt 118 = .ok (.iaload, 1) := by decide +kernel
theorem d_Md_reasonAt_119 : decode b_Md_reasonAt 119 = .ok (.bipush 16, 2) := by decide +kernel
theorem d_Md_reasonAt_121 : decode b_Md_reasonAt 121 = .ok (.if_icmp .ne 42, 3) := by decide +kernel
theorem d_Md_reasonAt_124 : decode b_Md_reasonAt 124 = .ok (.aload_n 0, 1) := by decide +kernel
theorem d_Md_reasonAt_125 : decode b_Md_reasonAt 125 = .ok (.getfield 19, 3) := by decide +kernel
theorem d_Md_reasonAt_128 : decode b_Md_reasonAt 128 = .ok (.iload_n 1, 1) := by decide +kernel
theorem d_Md_reasonAt_129 : decode b_Md_reasonAt 129 = .ok (.iaload, 1) := by decide +kernel
theorem d_Md_reasonAt_130 : decode b_Md_reasonAt 130 = .ok (.iconst 1, 1) := by decide +kernel
theorem d_Md_reasonAt_131 : decode b_Md_reasonAt 131 = .ok (.if_icmp .ne 32, 3) := by decide +kernel
theorem d_Md_reasonAt_134 : decode b_Md_reasonAt 134 = .ok (.aload_n 0, 1) := by decide +kernel
theorem d_Md_reasonAt_135 : decode b_Md_reasonAt 135 = .ok (.getfield 28, 3) := by decide +kernel
theorem d_Md_reasonAt_138 : decode b_Md_reasonAt 138 = .ok (.iconst 1, 1) := by decide +kernel
theorem d_Md_reasonAt_139 : decode b_Md_reasonAt 139 = .ok (.laload, 1) := by decide +kernel
theorem d_Md_reasonAt_140 : decode b_Md_reasonAt 140 = .ok (.lconst 0, 1) := by decide +kernel
theorem d_Md_reasonAt_141 : decode b_Md_reasonAt 141 = .ok (.lcmp, 1) := by decide +kernel
theorem d_Md_reasonAt_142 : decode b_Md_reasonAt 142 = .ok (.ifCond .lt 16, 3) := by decide +kernel
theorem d_Md_reasonAt_145 : decode b_Md_reasonAt 145 = .ok (.aload_n 0, 1) := by decide +kernel
theorem d_Md_reasonAt_146 : decode b_Md_reasonAt 146 = .ok (.getfield 32, 3) := by decide +kernel
theorem d_Md_reasonAt_149 : decode b_Md_reasonAt 149 = .ok (.iconst 1, 1) := by decide +kernel
theorem d_Md_reasonAt_150 : decode b_Md_reasonAt 150 = .ok (.laload, 1) := by decide +kernel
theorem d_Md_reasonAt_151 : decode b_Md_reasonAt 151 = .ok (.ldc2_w 135, 3) := by decide +kernel
theorem d_Md_reasonAt_154 : decode b_Md_reasonAt 154 = .ok (.lcmp, 1) := by decide +kernel
theorem d_Md_reasonAt_155 : decode b_Md_reasonAt 155 = .ok (.ifCond .le 8, 3) := by decide +kernel
theorem d_Md_reasonAt_158 : decode b_Md_reasonAt 158 = .ok (.bipush 7, 2) := by decide +kernel
theorem d_Md_reasonAt_160 : decode b_Md_reasonAt 160 = .ok (.goto 4, 3) := by decide +kernel
theorem d_Md_reasonAt_163 : decode b_Md_reasonAt 163 = .ok (.iconst 0, 1) := by decide +kernel
theorem d_Md_reasonAt_164 : decode b_Md_reasonAt 164 = .ok (.ireturn, 1) := by decide +kernel
theorem d_Md_push_0 : decode b_Md_push 0 = .ok (.iconst 0, 1) := by decide +kernel
theorem d_Md_push_1 : decode b_Md_push 1 = .ok (.istore_n 2, 1) := by decide +kernel
theorem d_Md_push_2 : decode b_Md_push 2 = .ok (.iload_n 2, 1) := by decide +kernel
theorem d_Md_push_3 : decode b_Md_push 3 = .ok (.bipush 12, 2) := by decide +kernel
theorem d_Md_push_5 : decode b_Md_push 5 = .ok (.if_icmp .ge 69, 3) := by decide +kernel
theorem d_Md_push_8 : decode b_Md_push 8 = .ok (.aload_n 0, 1) := by decide +kernel
theorem d_Md_push_9 : decode b_Md_push 9 = .ok (.getfield 35, 3) := by decide +kernel
theorem d_Md_push_12 : decode b_Md_push 12 = .ok (.aload_n 0, 1) := by decide +kernel
theorem d_Md_push_13 : decode b_Md_push 13 = .ok (.getfield 137, 3) := by decide +kernel
theorem d_Md_push_16 : decode b_Md_push 16 = .ok (.bipush 12, 2) := by decide +kernel
theorem d_Md_push_18 : decode b_Md_push 18 = .ok (.imul, 1) := by decide +kernel
theorem d_Md_push_19 : decode b_Md_push 19 = .ok (.iload_n 2, 1) := by decide +kernel
theorem d_Md_push_20 : decode b_Md_push 20 = .ok (.iadd, 1) := by decide +kernel
theorem d_Md_push_21 : decode b_Md_push 21 = .ok (.aload_n 0, 1) := by decide +kernel
theorem d_Md_push_22 : decode b_Md_push 22 = .ok (.getfield 25, 3) := by decide +kernel
theorem d_Md_push_25 : decode b_Md_push 25 = .ok (.iload_n 2, 1) := by decide +kernel
theorem d_Md_push_26 : decode b_Md_push 26 = .ok (.iaload, 1) := by decide +kernel
theorem d_Md_push_27 : decode b_Md_push 27 = .ok (.iastore, 1) := by decide +kernel
theorem d_Md_push_28 : decode b_Md_push 28 = .ok (.aload_n 0, 1) := by decide +kernel
theorem d_Md_push_29 : decode b_Md_push 29 = .ok (.getfield 41, 3) := by decide +kernel
theorem d_Md_push_32 : decode b_Md_push 32 = .ok (.aload_n 0, 1) := by decide +kernel
theorem d_Md_push_33 : decode b_Md_push 33 = .ok (.getfield 137, 3) := by decide +kernel
theorem d_Md_push_36 : decode b_Md_push 36 = .ok (.bipush 12, 2) := by decide +kernel
theorem d_Md_push_38 : decode b_Md_push 38 = .ok (.imul, 1) := by decide +kernel
theorem d_Md_push_39 : decode b_Md_push 39 = .ok (.iload_n 2, 1) := by decide +kernel
theorem d_Md_push_40 : decode b_Md_push 40 = .ok (.iadd, 1) := by decide +kernel
theorem d_Md_push_41 : decode b_Md_push 41 = .ok (.aload_n 0, 1) := by decide +kernel
theorem d_Md_push_42 : decode b_Md_push 42 = .ok (.getfield 28, 3) := by decide +kernel
theorem d_Md_push_45 : decode b_Md_push 45 = .ok (.iload_n 2, 1) := by decide +kernel
theorem d_Md_push_46 : decode b_Md_push 46 = .ok (.laload, 1) := by decide +kernel
theorem d_Md_push_47 : decode b_Md_push 47 = .ok (.lastore, 1) := by decide +kernel
theorem d_Md_push_48 : decode b_Md_push 48 = .ok (.aload_n 0, 1) := by decide +kernel
theorem d_Md_push_49 : decode b_Md_push 49 = .ok (.getfield 44, 3) := by decide +kernel
theorem d_Md_push_52 : decode b_Md_push 52 = .ok (.aload_n 0, 1) := by decide +kernel
theorem d_Md_push_53 : decode b_Md_push 53 = .ok (.getfield 137, 3) := by decide +kernel
theorem d_Md_push_56 : decode b_Md_push 56 = .ok (.bipush 12, 2) := by decide +kernel
theorem d_Md_push_58 : decode b_Md_push 58 = .ok (.imul, 1) := by decide +kernel
theorem d_Md_push_59 : decode b_Md_push 59 = .ok (.iload_n 2, 1) := by decide +kernel
theorem d_Md_push_60 : decode b_Md_push 60 = .ok (.iadd, 1) := by decide +kernel
theorem d_Md_push_61 : decode b_Md_push 61 = .ok (.aload_n 0, 1) := by decide +kernel
theorem d_Md_push_62 : decode b_Md_push 62 = .ok (.getfield 32, 3) := by decide +kernel
theorem d_Md_push_65 : decode b_Md_push 65 = .ok (.iload_n 2, 1) := by decide +kernel
theorem d_Md_push_66 : decode b_Md_push 66 = .ok (.laload, 1) := by decide +kernel
theorem d_Md_push_67 : decode b_Md_push 67 = .ok (.lastore, 1) := by decide +kernel
theorem d_Md_push_68 : decode b_Md_push 68 = .ok (.iinc 2 1, 3) := by decide +kernel
theorem d_Md_push_71 : decode b_Md_push 71 = .ok (.goto (-69), 3) := by decide +kernel
theorem d_Md_push_74 : decode b_Md_push 74 = .ok (.aload_n 0, 1) := by decide +kernel
theorem d_Md_push_75 : decode b_Md_push 75 = .ok (.getfield 38, 3) := by decide +kernel
theorem d_Md_push_78 : decode b_Md_push 78 = .ok (.aload_n 0, 1) := by decide +kernel
theorem d_Md_push_79 : decode b_Md_push 79 = .ok (.getfield 137, 3) := by decide +kernel
theorem d_Md_push_82 : decode b_Md_push 82 = .ok (.iload_n 1, 1) := by decide +kernel
theorem d_Md_push_83 : decode b_Md_push 83 = .ok (.iastore, 1) := by decide +kernel
theorem d_Md_push_84 : decode b_Md_push 84 = .ok (.aload_n 0, 1) := by decide +kernel
theorem d_Md_push_85 : decode b_Md_push 85 = .ok (.dup, 1) := by decide +kernel
theorem d_Md_push_86 : decode b_Md_push 86 = .ok (.getfield 137, 3) := by decide +kernel
theorem d_Md_push_89 : decode b_Md_push 89 = .ok (.iconst 1, 1) := by decide +kernel
theorem d_Md_push_90 : decode b_Md_push 90 = .ok (.iadd, 1) := by decide +kernel
theorem d_Md_push_91 : decode b_Md_push 91 = .ok (.putfield 137, 3) := by decide +kernel
theorem d_Md_push_94 : decode b_Md_push 94 = .ok (.return_, 1) := by decide +kernel
theorem d_Md_pop_0 : decode b_Md_pop 0 = .ok (.aload_n 0, 1) := by decide +kernel
theorem d_Md_pop_1 : decode b_Md_pop 1 = .ok (.dup, 1) := by decide +kernel
theorem d_Md_pop_2 : decode b_Md_pop 2 = .ok (.getfield 137, 3) := by decide +kernel
theorem d_Md_pop_5 : decode b_Md_pop 5 = .ok (.iconst 1, 1) := by decide +kernel
theorem d_Md_pop_6 : decode b_Md_pop 6 = .ok (.isub, 1) := by decide +kernel
theorem d_Md_pop_7 : decode b_Md_pop 7 = .ok (.putfield 137, 3) := by decide +kernel
theorem d_Md_pop_10 : decode b_Md_pop 10 = .ok (.iconst 0, 1) := by decide +kernel
theorem d_Md_pop_11 : decode b_Md_pop 11 = .ok (.istore_n 1, 1) := by decide +kernel
theorem d_Md_pop_12 : decode b_Md_pop 12 = .ok (.iload_n 1, 1) := by decide +kernel
theorem d_Md_pop_13 : decode b_Md_pop 13 = .ok (.bipush 12, 2) := by decide +kernel
theorem d_Md_pop_15 : decode b_Md_pop 15 = .ok (.if_icmp .ge 56, 3) := by decide +kernel
theorem d_Md_pop_18 : decode b_Md_pop 18 = .ok (.aload_n 0, 1) := by decide +kernel
theorem d_Md_pop_19 : decode b_Md_pop 19 = .ok (.iload_n 1, 1) := by decide +kernel
theorem d_Md_pop_20 : decode b_Md_pop 20 = .ok (.aload_n 0, 1) := by decide +kernel
theorem d_Md_pop_21 : decode b_Md_pop 21 = .ok (.getfield 35, 3) := by decide +kernel
theorem d_Md_pop_24 : decode b_Md_pop 24 = .ok (.aload_n 0, 1) := by decide +kernel
theorem d_Md_pop_25 : decode b_Md_pop 25 = .ok (.getfield 137, 3) := by decide +kernel
theorem d_Md_pop_28 : decode b_Md_pop 28 = .ok (.bipush 12, 2) := by decide +kernel
theorem d_Md_pop_30 : decode b_Md_pop 30 = .ok (.imul, 1) := by decide +kernel
theorem d_Md_pop_31 : decode b_Md_pop 31 = .ok (.iload_n 1, 1) := by decide +kernel
theorem d_Md_pop_32 : decode b_Md_pop 32 = .ok (.iadd, 1) := by decide +kernel
theorem d_Md_pop_33 : decode b_Md_pop 33 = .ok (.iaload, 1) := by decide +kernel
theorem d_Md_pop_34 : decode b_Md_pop 34 = .ok (.aload_n 0, 1) := by decide +kernel
theorem d_Md_pop_35 : decode b_Md_pop 35 = .ok (.getfield 41, 3) := by decide +kernel
theorem d_Md_pop_38 : decode b_Md_pop 38 = .ok (.aload_n 0, 1) := by decide +kernel
theorem d_Md_pop_39 : decode b_Md_pop 39 = .ok (.getfield 137, 3) := by decide +kernel
theorem d_Md_pop_42 : decode b_Md_pop 42 = .ok (.bipush 12, 2) := by decide +kernel
theorem d_Md_pop_44 : decode b_Md_pop 44 = .ok (.imul, 1) := by decide +kernel
theorem d_Md_pop_45 : decode b_Md_pop 45 = .ok (.iload_n 1, 1) := by decide +kernel
theorem d_Md_pop_46 : decode b_Md_pop 46 = .ok (.iadd, 1) := by decide +kernel
theorem d_Md_pop_47 : decode b_Md_pop 47 = .ok (.laload, 1) := by decide +kernel
theorem d_Md_pop_48 : decode b_Md_pop 48 = .ok (.aload_n 0, 1) := by decide +kernel
theorem d_Md_pop_49 : decode b_Md_pop 49 = .ok (.getfield 44, 3) := by decide +kernel
theorem d_Md_pop_52 : decode b_Md_pop 52 = .ok (.aload_n 0, 1) := by decide +kernel
theorem d_Md_pop_53 : decode b_Md_pop 53 = .ok (.getfield 137, 3) := by decide +kernel
theorem d_Md_pop_56 : decode b_Md_pop 56 = .ok (.bipush 12, 2) := by decide +kernel
theorem d_Md_pop_58 : decode b_Md_pop 58 = .ok (.imul, 1) := by decide +kernel
theorem d_Md_pop_59 : decode b_Md_pop 59 = .ok (.iload_n 1, 1) := by decide +kernel
theorem d_Md_pop_60 : decode b_Md_pop 60 = .ok (.iadd, 1) := by decide +kernel
theorem d_Md_pop_61 : decode b_Md_pop 61 = .ok (.laload, 1) := by decide +kernel
theorem d_Md_pop_62 : decode b_Md_pop 62 = .ok (.invokevirtual 83, 3) := by decide +kernel
theorem d_Md_pop_65 : decode b_Md_pop 65 = .ok (.iinc 1 1, 3) := by decide +kernel
theorem d_Md_pop_68 : decode b_Md_pop 68 = .ok (.goto (-56), 3) := by decide +kernel
theorem d_Md_pop_71 : decode b_Md_pop 71 = .ok (.aload_n 0, 1) := by decide +kernel
theorem d_Md_pop_72 : decode b_Md_pop 72 = .ok (.aload_n 0, 1) := by decide +kernel
theorem d_Md_pop_73 : decode b_Md_pop 73 = .ok (.getfield 38, 3) := by decide +kernel
theorem d_Md_pop_76 : decode b_Md_pop 76 = .ok (.aload_n 0, 1) := by decide +kernel
theorem d_Md_pop_77 : decode b_Md_pop 77 = .ok (.getfield 137, 3) := by decide +kernel
theorem d_Md_pop_80 : decode b_Md_pop 80 = .ok (.iaload, 1) := by decide +kernel
theorem d_Md_pop_81 : decode b_Md_pop 81 = .ok (.putfield 140, 3) := by decide +kernel
theorem d_Md_pop_84 : decode b_Md_pop 84 = .ok (.return_, 1) := by decide +kernel
theorem d_Md_move_0 : decode b_Md_move 0 = .ok (.aload_n 0, 1) := by decide +kernel
theorem d_Md_move_1 : decode b_Md_move 1 = .ok (.getfield 28, 3) := by decide +kernel
theorem d_Md_move_4 : decode b_Md_move 4 = .ok (.iload_n 1, 1) := by decide +kernel
theorem d_Md_move_5 : decode b_Md_move 5 = .ok (.laload, 1) := by decide +kernel
theorem d_Md_move_6 : decode b_Md_move 6 = .ok (.lload_n 2, 1) := by decide +kernel
theorem d_Md_move_7 : decode b_Md_move 7 = .ok (.invokestatic 105, 3) := by decide +kernel
theorem d_Md_move_10 : decode b_Md_move 10 = .ok (.ifCond .ne 17, 3) := by decide +kernel
theorem d_Md_move_13 : decode b_Md_move 13 = .ok (.aload_n 0, 1) := by decide +kernel
theorem d_Md_move_14 : decode b_Md_move 14 = .ok (.getfield 32, 3) := by decide +kernel
theorem d_Md_move_17 : decode b_Md_move 17 = .ok (.iload_n 1, 1) := by decide +kernel
theorem d_Md_move_18 : decode b_Md_move 18 = .ok (.laload, 1) := by decide +kernel
theorem d_Md_move_19 : decode b_Md_move 19 = .ok (.lload 4, 2) := by decide +kernel
theorem d_Md_move_21 : decode b_Md_move 21 = .ok (.invokestatic 105, 3) := by decide +kernel
theorem d_Md_move_24 : decode b_Md_move 24 = .ok (.ifCond .eq 11, 3) := by decide +kernel
theorem d_Md_move_27 : decode b_Md_move 27 = .ok (.aload_n 0, 1) := by decide +kernel
theorem d_Md_move_28 : decode b_Md_move 28 = .ok (.iload_n 1, 1) := by decide +kernel
theorem d_Md_move_29 : decode b_Md_move 29 = .ok (.invokevirtual 143, 3) := by decide +kernel
theorem d_Md_move_32 : decode b_Md_move 32 = .ok (.goto 31, 3) := by decide +kernel
theorem d_Md_move_35 : decode b_Md_move 35 = .ok (.aload_n 0, 1) := by decide +kernel
theorem d_Md_move_36 : decode b_Md_move 36 = .ok (.iload_n 1, 1) := by decide +kernel
theorem d_Md_move_37 : decode b_Md_move 37 = .ok (.aload_n 0, 1) := by decide +kernel
theorem d_Md_move_38 : decode b_Md_move 38 = .ok (.getfield 25, 3) := by decide +kernel
theorem d_Md_move_41 : decode b_Md_move 41 = .ok (.iload_n 1, 1) := by decide +kernel
theorem d_Md_move_42 : decode b_Md_move 42 = .ok (.iaload, 1) := by decide +kernel
theorem d_Md_move_43 : decode b_Md_move 43 = .ok (.aload_n 0, 1) := by decide +kernel
theorem d_Md_move_44 : decode b_Md_move 44 = .ok (.getfield 28, 3) := by decide +kernel
theorem d_Md_move_47 : decode b_Md_move 47 = .ok (.iload_n 1, 1) := by decide +kernel
theorem d_Md_move_48 : decode b_Md_move 48 = .ok (.laload, 1) := by decide +kernel
theorem d_Md_move_49 : decode b_Md_move 49 = .ok (.lload_n 2, 1) := by decide +kernel
theorem d_Md_move_50 : decode b_Md_move 50 = .ok (.ladd, 1) := by decide +kernel
theorem d_Md_move_51 : decode b_Md_move 51 = .ok (.aload_n 0, 1) := by decide +kernel
theorem d_Md_move_52 : decode b_Md_move 52 = .ok (.getfield 32, 3) := by decide +kernel
theorem d_Md_move_55 : decode b_Md_move 55 = .ok (.iload_n 1, 1) := by decide +kernel
theorem d_Md_move_56 : decode b_Md_move 56 = .ok (.laload, 1) := by decide +kernel
theorem d_Md_move_57 : decode b_Md_move 57 = .ok (.lload 4, 2) := by decide +kernel
theorem d_Md_move_59 : decode b_Md_move 59 = .ok (.ladd, 1) := by decide +kernel
theorem d_Md_move_60 : decode b_Md_move 60 = .ok (.invokevirtual 83, 3) := by decide +kernel
theorem d_Md_move_63 : decode b_Md_move 63 = .ok (.return_, 1) := by decide +kernel
theorem d_Md_spread_0 : decode b_Md_spread 0 = .ok (.aload_n 0, 1) := by decide +kernel
theorem d_Md_spread_1 : decode b_Md_spread 1 = .ok (.iload_n 1, 1) := by decide +kernel
theorem d_Md_spread_2 : decode b_Md_spread 2 = .ok (.iconst 1, 1) := by decide +kernel
theorem d_Md_spread_3 : decode b_Md_spread 3 = .ok (.lload_n 2, 1) := by decide +kernel
theorem d_Md_spread_4 : decode b_Md_spread 4 = .ok (.lload 4, 2) := by decide +kernel
theorem d_Md_spread_6 : decode b_Md_spread 6 = .ok (.lcmp, 1) := by decide +kernel
theorem d_Md_spread_7 : decode b_Md_spread 7 = .ok (.ifCond .ge 7, 3) := by decide +kernel
theorem d_Md_spread_10 : decode b_Md_spread 10 = .ok (.lload_n 2, 1) := by decide +kernel
theorem d_Md_spread_11 : decode b_Md_spread 11 = .ok (.goto 5, 3) := by decide +kernel
theorem d_Md_spread_14 : decode b_Md_spread 14 = .ok (.lload 4, 2) := by decide +kernel
theorem d_Md_spread_16 : decode b_Md_spread 16 = .ok (.lload_n 2, 1) := by decide +kernel
theorem d_Md_spread_17 : decode b_Md_spread 17 = .ok (.lload 4, 2) := by decide +kernel
theorem d_Md_spread_19 : decode b_Md_spread 19 = .ok (.lcmp, 1) := by decide +kernel
theorem d_Md_spread_20 : decode b_Md_spread 20 = .ok (.ifCond .ge 8, 3) := by decide +kernel
theorem d_Md_spread_23 : decode b_Md_spread 23 = .ok (.lload 4, 2) := by decide +kernel
theorem d_Md_spread_25 : decode b_Md_spread 25 = .ok (.goto 4, 3) := by decide +kernel
theorem d_Md_spread_28 : decode b_Md_spread 28 = .ok (.lload_n 2, 1) := by decide +kernel
theorem d_Md_spread_29 : decode b_Md_spread 29 = .ok (.invokevirtual 83, 3) := by decide +kernel
theorem d_Md_spread_32 : decode b_Md_spread 32 = .ok (.return_, 1) := by decide +kernel
theorem d_Md_subtract_0 : decode b_Md_subtract 0 = .ok (.aload_n 0, 1) := by decide +kernel
theorem d_Md_subtract_1 : decode b_Md_subtract 1 = .ok (.getfield 28, 3) := by decide +kernel
theorem d_Md_subtract_4 : decode b_Md_subtract 4 = .ok (.iload_n 1, 1) := by decide +kernel
theorem d_Md_subtract_5 : decode b_Md_subtract 5 = .ok (.laload, 1) := by decide +kernel
theorem d_Md_subtract_6 : decode b_Md_subtract 6 = .ok (.aload_n 0, 1) := by decide +kernel
theorem d_Md_subtract_7 : decode b_Md_subtract 7 = .ok (.getfield 32, 3) := by decide +kernel
theorem d_Md_subtract_10 : decode b_Md_subtract 10 = .ok (.iload_n 2, 1) := by decide +kernel
theorem d_Md_subtract_11 : decode b_Md_subtract 11 = .ok (.laload, 1) := by decide +kernel
theorem d_Md_subtract_12 : decode b_Md_subtract 12 = .ok (.lsub, 1) := by decide +kernel
theorem d_Md_subtract_13 : decode b_Md_subtract 13 = .ok (.lstore_n 3, 1) := by decide +kernel
theorem d_Md_subtract_14 : decode b_Md_subtract 14 = .ok (.aload_n 0, 1) := by decide +kernel
theorem d_Md_subtract_15 : decode b_Md_subtract 15 = .ok (.getfield 32, 3) := by decide +kernel
theorem d_Md_subtract_18 : decode b_Md_subtract 18 = .ok (.iload_n 1, 1) := by decide +kernel
theorem d_Md_subtract_19 : decode b_Md_subtract 19 = .ok (.laload, 1) := by decide +kernel
theorem d_Md_subtract_20 : decode b_Md_subtract 20 = .ok (.aload_n 0, 1) := by decide +kernel
theorem d_Md_subtract_21 : decode b_Md_subtract 21 = .ok (.getfield 28, 3) := by decide +kernel
theorem d_Md_subtract_24 : decode b_Md_subtract 24 = .ok (.iload_n 2, 1) := by decide +kernel
theorem d_Md_subtract_25 : decode b_Md_subtract 25 = .ok (.laload, 1) := by decide +kernel
theorem d_Md_subtract_26 : decode b_Md_subtract 26 = .ok (.lsub, 1) := by decide +kernel
theorem d_Md_subtract_27 : decode b_Md_subtract 27 = .ok (.lstore 5, 2) := by decide +kernel
theorem d_Md_subtract_29 : decode b_Md_subtract 29 = .ok (.aload_n 0, 1) := by decide +kernel
theorem d_Md_subtract_30 : decode b_Md_subtract 30 = .ok (.getfield 28, 3) := by decide +kernel
theorem d_Md_subtract_33 : decode b_Md_subtract 33 = .ok (.iload_n 1, 1) := by decide +kernel
theorem d_Md_subtract_34 : decode b_Md_subtract 34 = .ok (.laload, 1) := by decide +kernel
theorem d_Md_subtract_35 : decode b_Md_subtract 35 = .ok (.aload_n 0, 1) := by decide +kernel
theorem d_Md_subtract_36 : decode b_Md_subtract 36 = .ok (.getfield 32, 3) := by decide +kernel
theorem d_Md_subtract_39 : decode b_Md_subtract 39 = .ok (.iload_n 2, 1) := by decide +kernel
theorem d_Md_subtract_40 : decode b_Md_subtract 40 = .ok (.laload, 1) := by decide +kernel
theorem d_Md_subtract_41 : decode b_Md_subtract 41 = .ok (.lxor, 1) := by decide +kernel
theorem d_Md_subtract_42 : decode b_Md_subtract 42 = .ok (.aload_n 0, 1) := by decide +kernel
theorem d_Md_subtract_43 : decode b_Md_subtract 43 = .ok (.getfield 28, 3) := by decide +kernel
theorem d_Md_subtract_46 : decode b_Md_subtract 46 = .ok (.iload_n 1, 1) := by decide +kernel
theorem d_Md_subtract_47 : decode b_Md_subtract 47 = .ok (.laload, 1) := by decide +kernel
theorem d_Md_subtract_48 : decode b_Md_subtract 48 = .ok (.lload_n 3, 1) := by decide +kernel
theorem d_Md_subtract_49 : decode b_Md_subtract 49 = .ok (.lxor, 1) := by decide +kernel
theorem d_Md_subtract_50 : decode b_Md_subtract 50 = .ok (.land, 1) := by decide +kernel
theorem d_Md_subtract_51 : decode b_Md_subtract 51 = .ok (.lconst 0, 1) := by decide +kernel
theorem d_Md_subtract_52 : decode b_Md_subtract 52 = .ok (.lcmp, 1) := by decide +kernel
theorem d_Md_subtract_53 : decode b_Md_subtract 53 = .ok (.ifCond .lt 31, 3) := by decide +kernel
theorem d_Md_subtract_56 : decode b_Md_subtract 56 = .ok (.aload_n 0, 1) := by decide +kernel
theorem d_Md_subtract_57 : decode b_Md_subtract 57 = .ok (.getfield 32, 3) := by decide +kernel
theorem d_Md_subtract_60 : decode b_Md_subtract 60 = .ok (.iload_n 1, 1) := by decide +kernel
theorem d_Md_subtract_61 : decode b_Md_subtract 61 = .ok (.laload, 1) := by decide +kernel
theorem d_Md_subtract_62 : decode b_Md_subtract 62 = .ok (.aload_n 0, 1) := by decide +kernel
theorem d_Md_subtract_63 : decode b_Md_subtract 63 = .ok (.getfield 28, 3) := by decide +kernel
theorem d_Md_subtract_66 : decode b_Md_subtract 66 = .ok (.iload_n 2, 1) := by decide +kernel
theorem d_Md_subtract_67 : decode b_Md_subtract 67 = .ok (.laload, 1) := by decide +kernel
theorem d_Md_subtract_68 : decode b_Md_subtract 68 = .ok (.lxor, 1) := by decide +kernel
theorem d_Md_subtract_69 : decode b_Md_subtract 69 = .ok (.aload_n 0, 1) := by decide +kernel
theorem d_Md_subtract_70 : decode b_Md_subtract 70 = .ok (.getfield 32, 3) := by decide +kernel
theorem d_Md_subtract_73 : decode b_Md_subtract 73 = .ok (.iload_n 1, 1) := by decide +kernel
theorem d_Md_subtract_74 : decode b_Md_subtract 74 = .ok (.laload, 1) := by decide +kernel
theorem d_Md_subtract_75 : decode b_Md_subtract 75 = .ok (.lload 5, 2) := by decide +kernel
theorem d_Md_subtract_77 : decode b_Md_subtract 77 = .ok (.lxor, 1) := by decide +kernel
theorem d_Md_subtract_78 : decode b_Md_subtract 78 = .ok (.land, 1) := by decide +kernel
theorem d_Md_subtract_79 : decode b_Md_subtract 79 = .ok (.lconst 0, 1) := by decide +kernel
theorem d_Md_subtract_80 : decode b_Md_subtract 80 = .ok (.lcmp, 1) := by decide +kernel
theorem d_Md_subtract_81 : decode b_Md_subtract 81 = .ok (.ifCond .ge 11, 3) := by decide +kernel
theorem d_Md_subtract_84 : decode b_Md_subtract 84 = .ok (.aload_n 0, 1) := by decide +kernel
theorem d_Md_subtract_85 : decode b_Md_subtract 85 = .ok (.iload_n 1, 1) := by decide +kernel
theorem d_Md_subtract_86 : decode b_Md_subtract 86 = .ok (.invokevirtual 143, 3) := by decide +kernel
theorem d_Md_subtract_89 : decode b_Md_subtract 89 = .ok (.goto 12, 3) := by decide +kernel
theorem d_Md_subtract_92 : decode b_Md_subtract 92 = .ok (.aload_n 0, 1) := by decide +kernel
theorem d_Md_subtract_93 : decode b_Md_subtract 93 = .ok (.iload_n 1, 1) := by decide +kernel
theorem d_Md_subtract_94 : decode b_Md_subtract 94 = .ok (.iconst 1, 1) := by decide +kernel
theorem d_Md_subtract_95 : decode b_Md_subtract 95 = .ok (.lload_n 3, 1) := by decide +kernel
theorem d_Md_subtract_96 : decode b_Md_subtract 96 = .ok (.lload 5, 2) := by decide +kernel
theorem d_Md_subtract_98 : decode b_Md_subtract 98 = .ok (.invokevirtual 83, 3) := by decide +kernel
theorem d_Md_subtract_101 : decode b_Md_subtract 101 = .ok (.return_, 1) := by decide +kernel
theorem d_Md_and_0 : decode b_Md_and 0 = .ok (.aload_n 0, 1) := by decide +kernel
theorem d_Md_and_1 : decode b_Md_and 1 = .ok (.getfield 28, 3) := by decide +kernel
theorem d_Md_and_4 : decode b_Md_and 4 = .ok (.iload_n 1, 1) := by decide +kernel
theorem d_Md_and_5 : decode b_Md_and 5 = .ok (.laload, 1) := by decide +kernel
theorem d_Md_and_6 : decode b_Md_and 6 = .ok (.aload_n 0, 1) := by decide +kernel
theorem d_Md_and_7 : decode b_Md_and 7 = .ok (.getfield 32, 3) := by decide +kernel
theorem d_Md_and_10 : decode b_Md_and 10 = .ok (.iload_n 1, 1) := by decide +kernel
theorem d_Md_and_11 : decode b_Md_and 11 = .ok (.laload, 1) := by decide +kernel
theorem d_Md_and_12 : decode b_Md_and 12 = .ok (.lcmp, 1) := by decide +kernel
theorem d_Md_and_13 : decode b_Md_and 13 = .ok (.ifCond .ne 28, 3) := by decide +kernel
theorem d_Md_and_16 : decode b_Md_and 16 = .ok (.aload_n 0, 1) := by decide +kernel
theorem d_Md_and_17 : decode b_Md_and 17 = .ok (.iload_n 1, 1) := by decide +kernel
theorem d_Md_and_18 : decode b_Md_and 18 = .ok (.iconst 1, 1) := by decide +kernel
theorem d_Md_and_19 : decode b_Md_and 19 = .ok (.aload_n 0, 1) := by decide +kernel
theorem d_Md_and_20 : decode b_Md_and 20 = .ok (.getfield 28, 3) := by decide +kernel
theorem d_Md_and_23 : decode b_Md_and 23 = .ok (.iload_n 1, 1) := by decide +kernel
theorem d_Md_and_24 : decode b_Md_and 24 = .ok (.laload, 1) := by decide +kernel
theorem d_Md_and_25 : decode b_Md_and 25 = .ok (.lload_n 2, 1) := by decide +kernel
theorem d_Md_and_26 : decode b_Md_and 26 = .ok (.land, 1) := by decide +kernel
theorem d_Md_and_27 : decode b_Md_and 27 = .ok (.aload_n 0, 1) := by decide +kernel
theorem d_Md_and_28 : decode b_Md_and 28 = .ok (.getfield 28, 3) := by decide +kernel
theorem d_Md_and_31 : decode b_Md_and 31 = .ok (.iload_n 1, 1) := by decide +kernel
theorem d_Md_and_32 : decode b_Md_and 32 = .ok (.laload, 1) := by decide +kernel
theorem d_Md_and_33 : decode b_Md_and 33 = .ok (.lload_n 2, 1) := by decide +kernel
theorem d_Md_and_34 : decode b_Md_and 34 = .ok (.land, 1) := by decide +kernel
theorem d_Md_and_35 : decode b_Md_and 35 = .ok (.invokevirtual 83, 3) := by decide +kernel
theorem d_Md_and_38 : decode b_Md_and 38 = .ok (.goto 56, 3) := by decide +kernel
theorem d_Md_and_41 : decode b_Md_and 41 = .ok (.lload_n 2, 1) := by decide +kernel
theorem d_Md_and_42 : decode b_Md_and 42 = .ok (.lconst 0, 1) := by decide +kernel
theorem d_Md_and_43 : decode b_Md_and 43 = .ok (.lcmp, 1) := by decide +kernel
theorem d_Md_and_44 : decode b_Md_and 44 = .ok (.ifCond .ge 11, 3) := by decide +kernel
theorem d_Md_and_47 : decode b_Md_and 47 = .ok (.aload_n 0, 1) := by decide +kernel
theorem d_Md_and_48 : decode b_Md_and 48 = .ok (.iload_n 1, 1) := by decide +kernel
theorem d_Md_and_49 : decode b_Md_and 49 = .ok (.invokevirtual 143, 3) := by decide +kernel
theorem d_Md_and_52 : decode b_Md_and 52 = .ok (.goto 42, 3) := by decide +kernel
theorem d_Md_and_55 : decode b_Md_and 55 = .ok (.aload_n 0, 1) := by decide +kernel
theorem d_Md_and_56 : decode b_Md_and 56 = .ok (.iload_n 1, 1) := by decide +kernel
theorem d_Md_and_57 : decode b_Md_and 57 = .ok (.iconst 1, 1) := by decide +kernel
theorem d_Md_and_58 : decode b_Md_and 58 = .ok (.lconst 0, 1) := by decide +kernel
theorem d_Md_and_59 : decode b_Md_and 59 = .ok (.aload_n 0, 1) := by decide +kernel
theorem d_Md_and_60 : decode b_Md_and 60 = .ok (.getfield 28, 3) := by decide +kernel
theorem d_Md_and_63 : decode b_Md_and 63 = .ok (.iload_n 1, 1) := by decide +kernel
theorem d_Md_and_64 : decode b_Md_and 64 = .ok (.laload, 1) := by decide +kernel
theorem d_Md_and_65 : decode b_Md_and 65 = .ok (.lconst 0, 1) := by decide +kernel
theorem d_Md_and_66 : decode b_Md_and 66 = .ok (.lcmp, 1) := by decide +kernel
theorem d_Md_and_67 : decode b_Md_and 67 = .ok (.ifCond .lt 23, 3) := by decide +kernel
theorem d_Md_and_70 : decode b_Md_and 70 = .ok (.aload_n 0, 1) := by decide +kernel
theorem d_Md_and_71 : decode b_Md_and 71 = .ok (.getfield 32, 3) := by decide +kernel
theorem d_Md_and_74 : decode b_Md_and 74 = .ok (.iload_n 1, 1) := by decide +kernel
theorem d_Md_and_75 : decode b_Md_and 75 = .ok (.laload, 1) := by decide +kernel
theorem d_Md_and_76 : decode b_Md_and 76 = .ok (.lload_n 2, 1) := by decide +kernel
theorem d_Md_and_77 : decode b_Md_and 77 = .ok (.lcmp, 1) := by decide +kernel
theorem d_Md_and_78 : decode b_Md_and 78 = .ok (.ifCond .ge 12, 3) := by decide +kernel
theorem d_Md_and_81 : decode b_Md_and 81 = .ok (.aload_n 0, 1) := by decide +kernel
theorem d_Md_and_82 : decode b_Md_and 82 = .ok (.getfield 32, 3) := by decide +kernel
theorem d_Md_and_85 : decode b_Md_and 85 = .ok (.iload_n 1, 1) := by decide +kernel
theorem d_Md_and_86 : decode b_Md_and 86 = .ok (.laload, 1) := by decide +kernel
theorem d_Md_and_87 : decode b_Md_and 87 = .ok (.goto 4, 3) := by decide +kernel
theorem d_Md_and_90 : decode b_Md_and 90 = .ok (.lload_n 2, 1) := by decide +kernel
theorem d_Md_and_91 : decode b_Md_and 91 = .ok (.invokevirtual 83, 3) := by decide +kernel
theorem d_Md_and_94 : decode b_Md_and 94 = .ok (.return_, 1) := by decide +kernel
theorem d_Md_arithmetic_0 : decode b_Md_arithmetic 0 = .ok (.aload_n 0, 1) := by decide +kernel
theorem d_Md_arithmetic_1 : decode b_Md_arithmetic 1 = .ok (.getfield 28, 3) := by decide +kernel
theorem d_Md_arithmetic_4 : decode b_Md_arithmetic 4 = .ok (.iload_n 2, 1) := by decide +kernel
theorem d_Md_arithmetic_5 : decode b_Md_arithmetic 5 = .ok (.laload, 1) := by decide +kernel
theorem d_Md_arithmetic_6 : decode b_Md_arithmetic 6 = .ok (.lstore 5, 2) := by decide +kernel
theorem d_Md_arithmetic_8 : decode b_Md_arithmetic 8 = .ok (.aload_n 0, 1) := by decide +kernel
theorem d_Md_arithmetic_9 : decode b_Md_arithmetic 9 = .ok (.getfield 32, 3) := by decide +kernel
theorem d_Md_arithmetic_12 : decode b_Md_arithmetic 12 = .ok (.iload_n 2, 1) := by decide +kernel
theorem d_Md_arithmetic_13 : decode b_Md_arithmetic 13 = .ok (.laload, 1) := by decide +kernel
theorem d_Md_arithmetic_14 : decode b_Md_arithmetic 14 = .ok (.lstore 7, 2) := by decide +kernel
theorem d_Md_arithmetic_16 : decode b_Md_arithmetic 16 = .ok (.iload_n 1, 1) := by decide +kernel
theorem d_Md_arithmetic_17 : decode b_Md_arithmetic 17 = .ok (.iconst 5, 1) := by decide +kernel
theorem d_Md_arithmetic_18 : decode b_Md_arithmetic 18 = .ok (.if_icmp .ne 52, 3) := by decide +kernel
theorem d_Md_arithmetic_21 : decode b_Md_arithmetic 21 = .ok (.lload 5, 2) := by decide +kernel
theorem d_Md_arithmetic_23 : decode b_Md_arithmetic 23 = .ok (.ldc2_w 147, 3) := by decide +kernel
theorem d_Md_arithmetic_26 : decode b_Md_arithmetic 26 = .ok (.ldc2_w 149, 3) := by decide +kernel
theorem d_Md_arithmetic_29 : decode b_Md_arithmetic 29 = .ok (.invokestatic 56, 3) := by decide +kernel
theorem d_Md_arithmetic_32 : decode b_Md_arithmetic 32 = .ok (.ifCond .eq 33, 3) := by decide +kernel
theorem d_Md_arithmetic_35 : decode b_Md_arithmetic 35 = .ok (.lload 7, 2) := by decide +kernel
theorem d_Md_arithmetic_37 : decode b_Md_arithmetic 37 = .ok (.ldc2_w 147, 3) := by decide +kernel
theorem d_Md_arithmetic_40 : decode b_Md_arithmetic 40 = .ok (.ldc2_w 149, 3) := by decide +kernel
theorem d_Md_arithmetic_43 : decode b_Md_arithmetic 43 = .ok (.invokestatic 56, 3) := by decide +kernel
theorem d_Md_arithmetic_46 : decode b_Md_arithmetic 46 = .ok (.ifCond .eq 19, 3) := by decide +kernel
theorem d_Md_arithmetic_49 : decode b_Md_arithmetic 49 = .ok (.aload_n 0, 1) := by decide +kernel
theorem d_Md_arithmetic_50 : decode b_Md_arithmetic 50 = .ok (.iload_n 2, 1) := by decide +kernel
theorem d_Md_arithmetic_51 : decode b_Md_arithmetic 51 = .ok (.lload 5, 2) := by decide +kernel
theorem d_Md_arithmetic_53 : decode b_Md_arithmetic 53 = .ok (.lload_n 3, 1) := by decide +kernel
theorem d_Md_arithmetic_54 : decode b_Md_arithmetic 54 = .ok (.lmul, 1) := by decide +kernel
theorem d_Md_arithmetic_55 : decode b_Md_arithmetic 55 = .ok (.lload 7, 2) := by decide +kernel
theorem d_Md_arithmetic_57 : decode b_Md_arithmetic 57 = .ok (.lload_n 3, 1) := by decide +kernel
theorem d_Md_arithmetic_58 : decode b_Md_arithmetic 58 = .ok (.lmul, 1) := by decide +kernel
theorem d_Md_arithmetic_59 : decode b_Md_arithmetic 59 = .ok (.invokevirtual 151, 3) := by decide +kernel
theorem d_Md_arithmetic_62 : decode b_Md_arithmetic 62 = .ok (.goto 8, 3) := by decide +kernel
theorem d_Md_arithmetic_65 : decode b_Md_arithmetic 65 = .ok (.aload_n 0, 1) := by decide +kernel
theorem d_Md_arithmetic_66 : decode b_Md_arithmetic 66 = .ok (.iload_n 2, 1) := by decide +kernel
theorem d_Md_arithmetic_67 : decode b_Md_arithmetic 67 = .ok (.invokevirtual 143, 3) := by decide +kernel
theorem d_Md_arithmetic_70 : decode b_Md_arithmetic 70 = .ok (.iload_n 1, 1) := by decide +kernel
theorem d_Md_arithmetic_71 : decode b_Md_arithmetic 71 = .ok (.bipush 6, 2) := by decide +kernel
theorem d_Md_arithmetic_73 : decode b_Md_arithmetic 73 = .ok (.if_icmp .ne 9, 3) := by decide +kernel
theorem d_Md_arithmetic_76 : decode b_Md_arithmetic 76 = .ok (.aload_n 0, 1) := by decide +kernel
theorem d_Md_arithmetic_77 : decode b_Md_arithmetic 77 = .ok (.iload_n 2, 1) := by decide +kernel
theorem d_Md_arithmetic_78 : decode b_Md_arithmetic 78 = .ok (.lload_n 3, 1) := by decide +kernel
theorem d_Md_arithmetic_79 : decode b_Md_arithmetic 79 = .ok (.invokevirtual 155, 3) := by decide +kernel
theorem d_Md_arithmetic_82 : decode b_Md_arithmetic 82 = .ok (.iload_n 1, 1) := by decide +kernel
theorem d_Md_arithmetic_83 : decode b_Md_arithmetic 83 = .ok (.bipush 7, 2) := by decide +kernel
theorem d_Md_arithmetic_85 : decode b_Md_arithmetic 85 = .ok (.if_icmp .ne 19, 3) := by decide +kernel
theorem d_Md_arithmetic_88 : decode b_Md_arithmetic 88 = .ok (.aload_n 0, 1) := by decide +kernel
theorem d_Md_arithmetic_89 : decode b_Md_arithmetic 89 = .ok (.iload_n 2, 1) := by decide +kernel
theorem d_Md_arithmetic_90 : decode b_Md_arithmetic 90 = .ok (.iconst 1, 1) := by decide +kernel
theorem d_Md_arithmetic_91 : decode b_Md_arithmetic 91 = .ok (.lload 5, 2) := by decide +kernel
theorem d_Md_arithmetic_93 : decode b_Md_arithmetic 93 = .ok (.lload_n 3, 1) := by decide +kernel
theorem d_Md_arithmetic_94 : decode b_Md_arithmetic 94 = .ok (.l2i, 1) := by decide +kernel
theorem d_Md_arithmetic_95 : decode b_Md_arithmetic 95 = .ok (.lshr, 1) := by decide +kernel
theorem d_Md_arithmetic_96 : decode b_Md_arithmetic 96 = .ok (.lload 7, 2) := by decide +kernel
theorem d_Md_arithmetic_98 : decode b_Md_arithmetic 98 = .ok (.lload_n 3, 1) := by decide +kernel
theorem d_Md_arithmetic_99 : decode b_Md_arithmetic 99 = .ok (.l2i, 1) := by decide +kernel
theorem d_Md_arithmetic_100 : decode b_Md_arithmetic 100 = .ok (.lshr, 1) := by decide +kernel
theorem d_Md_arithmetic_101 : decode b_Md_arithmetic 101 = .ok (.invokevirtual 83, 3) := by decide +kernel
theorem d_Md_arithmetic_104 : decode b_Md_arithmetic 104 = .ok (.iload_n 1, 1) := by decide +kernel
theorem d_Md_arithmetic_105 : decode b_Md_arithmetic 105 = .ok (.bipush 8, 2) := by decide +kernel
theorem d_Md_arithmetic_107 : decode b_Md_arithmetic 107 = .ok (.if_icmp .ne 41, 3) := by decide +kernel
theorem d_Md_arithmetic_110 : decode b_Md_arithmetic 110 = .ok (.lload_n 3, 1) := by decide +kernel
theorem d_Md_arithmetic_111 : decode b_Md_arithmetic 111 = .ok (.ldc2_w 159, 3) := by decide +kernel
theorem d_Md_arithmetic_114 : decode b_Md_arithmetic 114 = .ok (.lcmp, 1) := by decide +kernel
theorem d_Md_arithmetic_115 : decode b_Md_arithmetic 115 = .ok (.ifCond .ne 20, 3) := by decide +kernel
theorem d_Md_arithmetic_118 : decode b_Md_arithmetic 118 = .ok (.lload 5, 2) := by decide +kernel
theorem d_Md_arithmetic_120 : decode b_Md_arithmetic 120 = .ok (.ldc2_w 87, 3) := by decide +kernel
theorem d_Md_arithmetic_123 : decode b_Md_arithmetic 123 = .ok (.lcmp, 1) := by decide +kernel
theorem d_Md_arithmetic_124 : decode b_Md_arithmetic 124 = .ok (.ifCond .ne 11, 3) := by decide +kernel
theorem d_Md_arithmetic_127 : decode b_Md_arithmetic 127 = .ok (.aload_n 0, 1) := by decide +kernel
theorem d_Md_arithmetic_128 : decode b_Md_arithmetic 128 = .ok (.iload_n 2, 1) := by decide +kernel
theorem d_Md_arithmetic_129 : decode b_Md_arithmetic 129 = .ok (.invokevirtual 143, 3) := by decide +kernel
theorem d_Md_arithmetic_132 : decode b_Md_arithmetic 132 = .ok (.goto 16, 3) := by decide +kernel
theorem d_Md_arithmetic_135 : decode b_Md_arithmetic 135 = .ok (.aload_n 0, 1) := by decide +kernel
theorem d_Md_arithmetic_136 : decode b_Md_arithmetic 136 = .ok (.iload_n 2, 1) := by decide +kernel
theorem d_Md_arithmetic_137 : decode b_Md_arithmetic 137 = .ok (.lload 5, 2) := by decide +kernel
theorem d_Md_arithmetic_139 : decode b_Md_arithmetic 139 = .ok (.lload_n 3, 1) := by decide +kernel
theorem d_Md_arithmetic_140 : decode b_Md_arithmetic 140 = .ok (.ldiv, 1) := by decide +kernel
theorem d_Md_arithmetic_141 : decode b_Md_arithmetic 141 = .ok (.lload 7, 2) := by decide +kernel
theorem d_Md_arithmetic_143 : decode b_Md_arithmetic 143 = .ok (.lload_n 3, 1) := by decide +kernel
theorem d_Md_arithmetic_144 : decode b_Md_arithmetic 144 = .ok (.ldiv, 1) := by decide +kernel
theorem d_Md_arithmetic_145 : decode b_Md_arithmetic 145 = .ok (.invokevirtual 151, 3) := by decide +kernel
theorem d_Md_arithmetic_148 : decode b_Md_arithmetic 148 = .ok (.iload_n 1, 1) := by decide +kernel
theorem d_Md_arithmetic_149 : decode b_Md_arithmetic 149 = .ok (.bipush 9, 2) := by decide +kernel
theorem d_Md_arithmetic_151 : decode b_Md_arithmetic 151 = .ok (.if_icmp .ne 32, 3) := by decide +kernel
theorem d_Md_arithmetic_154 : decode b_Md_arithmetic 154 = .ok (.lload 5, 2) := by decide +kernel
theorem d_Md_arithmetic_156 : decode b_Md_arithmetic 156 = .ok (.ldc2_w 87, 3) := by decide +kernel
theorem d_Md_arithmetic_159 : decode b_Md_arithmetic 159 = .ok (.lcmp, 1) := by decide +kernel
theorem d_Md_arithmetic_160 : decode b_Md_arithmetic 160 = .ok (.ifCond .ne 11, 3) := by decide +kernel
theorem d_Md_arithmetic_163 : decode b_Md_arithmetic 163 = .ok (.aload_n 0, 1) := by decide +kernel
theorem d_Md_arithmetic_164 : decode b_Md_arithmetic 164 = .ok (.iload_n 2, 1) := by decide +kernel
theorem d_Md_arithmetic_165 : decode b_Md_arithmetic 165 = .ok (.invokevirtual 143, 3) := by decide +kernel
theorem d_Md_arithmetic_168 : decode b_Md_arithmetic 168 = .ok (.goto 15, 3) := by decide +kernel
theorem d_Md_arithmetic_171 : decode b_Md_arithmetic 171 = .ok (.aload_n 0, 1) := by decide +kernel
theorem d_Md_arithmetic_172 : decode b_Md_arithmetic 172 = .ok (.iload_n 2, 1) := by decide +kernel
theorem d_Md_arithmetic_173 : decode b_Md_arithmetic 173 = .ok (.iconst 1, 1) := by decide +kernel
theorem d_Md_arithmetic_174 : decode b_Md_arithmetic 174 = .ok (.lload 7, 2) := by decide +kernel
theorem d_Md_arithmetic_176 : decode b_Md_arithmetic 176 = .ok (.lneg, 1) := by decide +kernel
theorem d_Md_arithmetic_177 : decode b_Md_arithmetic 177 = .ok (.lload 5, 2) := by decide +kernel
theorem d_Md_arithmetic_179 : decode b_Md_arithmetic 179 = .ok (.lneg, 1) := by decide +kernel
theorem d_Md_arithmetic_180 : decode b_Md_arithmetic 180 = .ok (.invokevirtual 83, 3) := by decide +kernel
theorem d_Md_arithmetic_183 : decode b_Md_arithmetic 183 = .ok (.return_, 1) := by decide +kernel
theorem d_Md_load_0 : decode b_Md_load 0 = .ok (.aload_n 0, 1) := by decide +kernel
theorem d_Md_load_1 : decode b_Md_load 1 = .ok (.getfield 16, 3) := by decide +kernel
theorem d_Md_load_4 : decode b_Md_load 4 = .ok (.iload_n 1, 1) := by decide +kernel
theorem d_Md_load_5 : decode b_Md_load 5 = .ok (.iaload, 1) := by decide +kernel
theorem d_Md_load_6 : decode b_Md_load 6 = .ok (.istore_n 2, 1) := by decide +kernel
theorem d_Md_load_7 : decode b_Md_load 7 = .ok (.bipush 6, 2) := by decide +kernel
theorem d_Md_load_9 : decode b_Md_load 9 = .ok (.aload_n 0, 1) := by decide +kernel
theorem d_Md_load_10 : decode b_Md_load 10 = .ok (.getfield 28, 3) := by decide +kernel
theorem d_Md_load_13 : decode b_Md_load 13 = .ok (.iload_n 2, 1) := by decide +kernel
theorem d_Md_load_14 : decode b_Md_load 14 = .ok (.laload, 1) := by decide +kernel
theorem d_Md_load_15 : decode b_Md_load 15 = .ok (.aload_n 0, 1) := by decide +kernel
theorem d_Md_load_16 : decode b_Md_load 16 = .ok (.getfield 19, 3) := by decide +kernel
theorem d_Md_load_19 : decode b_Md_load 19 = .ok (.iload_n 1, 1) := by decide +kernel
theorem d_Md_load_20 : decode b_Md_load 20 = .ok (.iaload, 1) := by decide +kernel
theorem d_Md_load_21 : decode b_Md_load 21 = .ok (.i2l, 1) := by decide +kernel
theorem d_Md_load_22 : decode b_Md_load 22 = .ok (.ladd, 1) := by decide +kernel
theorem d_Md_load_23 : decode b_Md_load 23 = .ok (.l2i, 1) := by decide +kernel
theorem d_Md_load_24 : decode b_Md_load 24 = .ok (.iadd, 1) := by decide +kernel
theorem d_Md_load_25 : decode b_Md_load 25 = .ok (.istore_n 3, 1) := by decide +kernel
theorem d_Md_load_26 : decode b_Md_load 26 = .ok (.bipush 6, 2) := by decide +kernel
theorem d_Md_load_28 : decode b_Md_load 28 = .ok (.aload_n 0, 1) := by decide +kernel
theorem d_Md_load_29 : decode b_Md_load 29 = .ok (.getfield 32, 3) := by decide +kernel
theorem d_Md_load_32 : decode b_Md_load 32 = .ok (.iload_n 2, 1) := by decide +kernel
theorem d_Md_load_33 : decode b_Md_load 33 = .ok (.laload, 1) := by decide +kernel
theorem d_Md_load_34 : decode b_Md_load 34 = .ok (.aload_n 0, 1) := by decide +kernel
theorem d_Md_load_35 : decode b_Md_load 35 = .ok (.getfield 19, 3) := by decide +kernel
theorem d_Md_load_38 : decode b_Md_load 38 = .ok (.iload_n 1, 1) := by decide +kernel
theorem d_Md_load_39 : decode b_Md_load 39 = .ok (.iaload, 1) := by decide +kernel
theorem d_Md_load_40 : decode b_Md_load 40 = .ok (.i2l, 1) := by decide +kernel
theorem d_Md_load_41 : decode b_Md_load 41 = .ok (.ladd, 1) := by decide +kernel
theorem d_Md_load_42 : decode b_Md_load 42 = .ok (.l2i, 1) := by decide +kernel
theorem d_Md_load_43 : decode b_Md_load 43 = .ok (.iadd, 1) := by decide +kernel
theorem d_Md_load_44 : decode b_Md_load 44 = .ok (.istore 4, 2) := by decide +kernel
theorem d_Md_load_46 : decode b_Md_load 46 = .ok (.aload_n 0, 1) := by decide +kernel
theorem d_Md_load_47 : decode b_Md_load 47 = .ok (.getfield 25, 3) := by decide +kernel
theorem d_Md_load_50 : decode b_Md_load 50 = .ok (.iload_n 2, 1) := by decide +kernel
theorem d_Md_load_51 : decode b_Md_load 51 = .ok (.iaload, 1) := by decide +kernel
theorem d_Md_load_52 : decode b_Md_load 52 = .ok (.iconst 3, 1) := by decide +kernel
theorem d_Md_load_53 : decode b_Md_load 53 = .ok (.if_icmp .ne 14, 3) := by decide +kernel
theorem d_Md_load_56 : decode b_Md_load 56 = .ok (.aload_n 0, 1) := by decide +kernel
theorem d_Md_load_57 : decode b_Md_load 57 = .ok (.aload_n 0, 1) := by decide +kernel
theorem d_Md_load_58 : decode b_Md_load 58 = .ok (.getfield 13, 3) := by decide +kernel
theorem d_Md_load_61 : decode b_Md_load 61 = .ok (.iload_n 1, 1) := by decide +kernel
theorem d_Md_load_62 : decode b_Md_load 62 = .ok (.iaload, 1) := by decide +kernel
theorem d_Md_load_63 : decode b_Md_load 63 = .ok (.invokevirtual 143, 3) := by decide +kernel
theorem d_Md_load_66 : decode b_Md_load 66 = .ok (.return_, 1) := by decide +kernel
theorem d_Md_load_67 : decode b_Md_load 67 = .ok (.aload_n 0, 1) := by decide +kernel
theorem d_Md_load_68 : decode b_Md_load 68 = .ok (.getfield 25, 3) := by decide +kernel
theorem d_Md_load_71 : decode b_Md_load 71 = .ok (.iload_n 3, 1) := by decide +kernel
theorem d_Md_load_72 : decode b_Md_load 72 = .ok (.iaload, 1) := by decide +kernel
theorem d_Md_load_73 : decode b_Md_load 73 = .ok (.istore 5, 2) := by decide +kernel
theorem d_Md_load_75 : decode b_Md_load 75 = .ok (.aload_n 0, 1) := by decide +kernel
theorem d_Md_load_76 : decode b_Md_load 76 = .ok (.getfield 28, 3) := by decide +kernel
theorem d_Md_load_79 : decode b_Md_load 79 = .ok (.iload_n 3, 1) := by decide +kernel
theorem d_Md_load_80 : decode b_Md_load 80 = .ok (.laload, 1) := by decide +kernel
theorem d_Md_load_81 : decode b_Md_load 81 = .ok (.lstore 6, 2) := by decide +kernel
theorem d_Md_load_83 : decode b_Md_load 83 = .ok (.aload_n 0, 1) := by decide +kernel
theorem d_Md_load_84 : decode b_Md_load 84 = .ok (.getfield 32, 3) := by decide +kernel
theorem d_Md_load_87 : decode b_Md_load 87 = .ok (.iload_n 3, 1) := by decide +kernel
theorem d_Md_load_88 : decode b_Md_load 88 = .ok (.laload, 1) := by decide +kernel
theorem d_Md_load_89 : decode b_Md_load 89 = .ok (.lstore 8, 2) := by decide +kernel
theorem d_Md_load_91 : decode b_Md_load 91 = .ok (.iload_n 3, 1) := by decide +kernel
theorem d_Md_load_92 : decode b_Md_load 92 = .ok (.iconst 1, 1) := by decide +kernel
theorem d_Md_load_93 : decode b_Md_load 93 = .ok (.iadd, 1) := by decide +kernel
theorem d_Md_load_94 : decode b_Md_load 94 = .ok (.istore 10, 2) := by decide +kernel
theorem d_Md_load_96 : decode b_Md_load 96 = .ok (.iload 10, 2) := by decide +kernel
theorem d_Md_load_98 : decode b_Md_load 98 = .ok (.iload 4, 2) := by decide +kernel
theorem d_Md_load_100 : decode b_Md_load 100 = .ok (.if_icmp .gt 53, 3) := by decide +kernel
theorem d_Md_load_103 : decode b_Md_load 103 = .ok (.aload_n 0, 1) := by decide +kernel
theorem d_Md_load_104 : decode b_Md_load 104 = .ok (.getfield 28, 3) := by decide +kernel
theorem d_Md_load_107 : decode b_Md_load 107 = .ok (.iload 10, 2) := by decide +kernel
theorem d_Md_load_109 : decode b_Md_load 109 = .ok (.laload, 1) := by decide +kernel
theorem d_Md_load_110 : decode b_Md_load 110 = .ok (.lload 6, 2) := by decide +kernel
theorem d_Md_load_112 : decode b_Md_load 112 = .ok (.lcmp, 1) := by decide +kernel
theorem d_Md_load_113 : decode b_Md_load 113 = .ok (.ifCond .ge 12, 3) := by decide +kernel
theorem d_Md_load_116 : decode b_Md_load 116 = .ok (.aload_n 0, 1) := by decide +kernel
theorem d_Md_load_117 : decode b_Md_load 117 = .ok (.getfield 28, 3) := by decide +kernel
theorem d_Md_load_120 : decode b_Md_load 120 = .ok (.iload 10, 2) := by decide +kernel
theorem d_Md_load_122 : decode b_Md_load 122 = .ok (.laload, 1) := by decide +kernel
theorem d_Md_load_123 : decode b_Md_load 123 = .ok (.lstore 6, 2) := by decide +kernel
theorem d_Md_load_125 : decode b_Md_load 125 = .ok (.aload_n 0, 1) := by decide +kernel
theorem d_Md_load_126 : decode b_Md_load 126 = .ok (.getfield 32, 3) := by decide +kernel
theorem d_Md_load_129 : decode b_Md_load 129 = .ok (.iload 10, 2) := by decide +kernel
theorem d_Md_load_131 : decode b_Md_load 131 = .ok (.laload, 1) := by decide +kernel
theorem d_Md_load_132 : decode b_Md_load 132 = .ok (.lload 8, 2) := by decide +kernel
theorem d_Md_load_134 : decode b_Md_load 134 = .ok (.lcmp, 1) := by decide +kernel
theorem d_Md_load_135 : decode b_Md_load 135 = .ok (.ifCond .le 12, 3) := by decide +kernel
theorem d_Md_load_138 : decode b_Md_load 138 = .ok (.aload_n 0, 1) := by decide +kernel
theorem d_Md_load_139 : decode b_Md_load 139 = .ok (.getfield 32, 3) := by decide +kernel
theorem d_Md_load_142 : decode b_Md_load 142 = .ok (.iload 10, 2) := by decide +kernel
theorem d_Md_load_144 : decode b_Md_load 144 = .ok (.laload, 1) := by decide +kernel
theorem d_Md_load_145 : decode b_Md_load 145 = .ok (.lstore 8, 2) := by decide +kernel
theorem d_Md_load_147 : decode b_Md_load 147 = .ok (.iinc 10 1, 3) := by decide +kernel
theorem d_Md_load_150 : decode b_Md_load 150 = .ok (.goto (-54), 3) := by decide +kernel
theorem d_Md_load_153 : decode b_Md_load 153 = .ok (.aload_n 0, 1) := by decide +kernel
theorem d_Md_load_154 : decode b_Md_load 154 = .ok (.aload_n 0, 1) := by decide +kernel
theorem d_Md_load_155 : decode b_Md_load 155 = .ok (.getfield 13, 3) := by decide +kernel
theorem d_Md_load_158 : decode b_Md_load 158 = .ok (.iload_n 1, 1) := by decide +kernel
theorem d_Md_load_159 : decode b_Md_load 159 = .ok (.iaload, 1) := by decide +kernel
theorem d_Md_load_160 : decode b_Md_load 160 = .ok (.iload 5, 2) := by decide +kernel
theorem d_Md_load_162 : decode b_Md_load 162 = .ok (.lload 6, 2) := by decide +kernel
theorem d_Md_load_164 : decode b_Md_load 164 = .ok (.lload 8, 2) := by decide +kernel
theorem d_Md_load_166 : decode b_Md_load 166 = .ok (.invokevirtual 83, 3) := by decide +kernel
theorem d_Md_load_169 : decode b_Md_load 169 = .ok (.return_, 1) := by decide +kernel
end
section
theorem d_Md_store_0 : decode b_Md_store 0 = .ok (.aload_n 0, 1) := by decide +kernel
theorem d_Md_store_1 : decode b_Md_store 1 = .ok (.getfield 13, 3) := by decide +kernel
theorem d_Md_store_4 : decode b_Md_store 4 = .ok (.iload_n 1, 1) := by decide +kernel
theorem d_Md_store_5 : decode b_Md_store 5 = .ok (.iaload, 1) := by decide +kernel
theorem d_Md_store_6 : decode b_Md_store 6 = .ok (.istore_n 2, 1) := by decide +kernel
theorem d_Md_store_7 : decode b_Md_store 7 = .ok (.bipush 6, 2) := by decide +kernel
theorem d_Md_store_9 : decode b_Md_store 9 = .ok (.aload_n 0, 1) := by decide +kernel
theorem d_Md_store_10 : decode b_Md_store 10 = .ok (.getfield 28, 3) := by decide +kernel
theorem d_Md_store_13 : decode b_Md_store 13 = .ok (.iload_n 2, 1) := by decide +kernel
theorem d_Md_store_14 : decode b_Md_store 14 = .ok (.laload, 1) := by decide +kernel
theorem d_Md_store_15 : decode b_Md_store 15 = .ok (.aload_n 0, 1) := by decide +kernel
theorem d_Md_store_16 : decode b_Md_store 16 = .ok (.getfield 19, 3) := by decide +kernel
theorem d_Md_store_19 : decode b_Md_store 19 = .ok (.iload_n 1, 1) := by decide +kernel
theorem d_Md_store_20 : decode b_Md_store 20 = .ok (.iaload, 1) := by decide +kernel
theorem d_Md_store_21 : decode b_Md_store 21 = .ok (.i2l, 1) := by decide +kernel
theorem d_Md_store_22 : decode b_Md_store 22 = .ok (.ladd, 1) := by decide +kernel
theorem d_Md_store_23 : decode b_Md_store 23 = .ok (.l2i, 1) := by decide +kernel
theorem d_Md_store_24 : decode b_Md_store 24 = .ok (.iadd, 1) := by decide +kernel
theorem d_Md_store_25 : decode b_Md_store 25 = .ok (.istore_n 3, 1) := by decide +kernel
theorem d_Md_store_26 : decode b_Md_store 26 = .ok (.bipush 6, 2) := by decide +kernel
theorem d_Md_store_28 : decode b_Md_store 28 = .ok (.aload_n 0, 1) := by decide +kernel
theorem d_Md_store_29 : decode b_Md_store 29 = .ok (.getfield 32, 3) := by decide +kernel
theorem d_Md_store_32 : decode b_Md_store 32 = .ok (.iload_n 2, 1) := by decide +kernel
theorem d_Md_store_33 : decode b_Md_store 33 = .ok (.laload, 1) := by decide +kernel
theorem d_Md_store_34 : decode b_Md_store 34 = .ok (.aload_n 0, 1) := by decide +kernel
theorem d_Md_store_35 : decode b_Md_store 35 = .ok (.getfield 19, 3) := by decide +kernel
theorem d_Md_store_38 : decode b_Md_store 38 = .ok (.iload_n 1, 1) := by decide +kernel
theorem d_Md_store_39 : decode b_Md_store 39 = .ok (.iaload, 1) := by decide +kernel
theorem d_Md_store_40 : decode b_Md_store 40 = .ok (.i2l, 1) := by decide +kernel
theorem d_Md_store_41 : decode b_Md_store 41 = .ok (.ladd, 1) := by decide +kernel
theorem d_Md_store_42 : decode b_Md_store 42 = .ok (.l2i, 1) := by decide +kernel
theorem d_Md_store_43 : decode b_Md_store 43 = .ok (.iadd, 1) := by decide +kernel
theorem d_Md_store_44 : decode b_Md_store 44 = .ok (.istore 4, 2) := by decide +kernel
theorem d_Md_store_46 : decode b_Md_store 46 = .ok (.aload_n 0, 1) := by decide +kernel
theorem d_Md_store_47 : decode b_Md_store 47 = .ok (.getfield 16, 3) := by decide +kernel
theorem d_Md_store_50 : decode b_Md_store 50 = .ok (.iload_n 1, 1) := by decide +kernel
theorem d_Md_store_51 : decode b_Md_store 51 = .ok (.iaload, 1) := by decide +kernel
theorem d_Md_store_52 : decode b_Md_store 52 = .ok (.istore 5, 2) := by decide +kernel
theorem d_Md_store_54 : decode b_Md_store 54 = .ok (.aload_n 0, 1) := by decide +kernel
theorem d_Md_store_55 : decode b_Md_store 55 = .ok (.getfield 25, 3) := by decide +kernel
theorem d_Md_store_58 : decode b_Md_store 58 = .ok (.iload_n 2, 1) := by decide +kernel
theorem d_Md_store_59 : decode b_Md_store 59 = .ok (.iaload, 1) := by decide +kernel
theorem d_Md_store_60 : decode b_Md_store 60 = .ok (.iconst 3, 1) := by decide +kernel
theorem d_Md_store_61 : decode b_Md_store 61 = .ok (.if_icmp .ne 4, 3) := by decide +kernel
theorem d_Md_store_64 : decode b_Md_store 64 = .ok (.return_, 1) := by decide +kernel
theorem d_Md_store_65 : decode b_Md_store 65 = .ok (.iload_n 3, 1) := by decide +kernel
theorem d_Md_store_66 : decode b_Md_store 66 = .ok (.iload 4, 2) := by decide +kernel
theorem d_Md_store_68 : decode b_Md_store 68 = .ok (.if_icmp .ne 10, 3) := by decide +kernel
theorem d_Md_store_71 : decode b_Md_store 71 = .ok (.aload_n 0, 1) := by decide +kernel
theorem d_Md_store_72 : decode b_Md_store 72 = .ok (.iload 5, 2) := by decide +kernel
theorem d_Md_store_74 : decode b_Md_store 74 = .ok (.iload_n 3, 1) := by decide +kernel
theorem d_Md_store_75 : decode b_Md_store 75 = .ok (.invokevirtual 161, 3) := by decide +kernel
theorem d_Md_store_78 : decode b_Md_store 78 = .ok (.iload_n 3, 1) := by decide +kernel
theorem d_Md_store_79 : decode b_Md_store 79 = .ok (.istore 6, 2) := by decide +kernel
theorem d_Md_store_81 : decode b_Md_store 81 = .ok (.iload 6, 2) := by decide +kernel
theorem d_Md_store_83 : decode b_Md_store 83 = .ok (.iload 4, 2) := by decide +kernel
theorem d_Md_store_85 : decode b_Md_store 85 = .ok (.if_icmp .gt 92, 3) := by decide +kernel
theorem d_Md_store_88 : decode b_Md_store 88 = .ok (.iload_n 3, 1) := by decide +kernel
theorem d_Md_store_89 : decode b_Md_store 89 = .ok (.iload 4, 2) := by decide +kernel
theorem d_Md_store_91 : decode b_Md_store 91 = .ok (.if_icmp .ge 86, 3) := by decide +kernel
theorem d_Md_store_94 : decode b_Md_store 94 = .ok (.aload_n 0, 1) := by decide +kernel
theorem d_Md_store_95 : decode b_Md_store 95 = .ok (.getfield 25, 3) := by decide +kernel
theorem d_Md_store_98 : decode b_Md_store 98 = .ok (.iload 6, 2) := by decide +kernel
theorem d_Md_store_100 : decode b_Md_store 100 = .ok (.iaload, 1) := by decide +kernel
theorem d_Md_store_101 : decode b_Md_store 101 = .ok (.ifCond .ne 6, 3) := by decide +kernel
theorem d_Md_store_104 : decode b_Md_store 104 = .ok (.goto 67, 3) := by decide +kernel
theorem d_Md_store_107 : decode b_Md_store 107 = .ok (.aload_n 0, 1) := by decide +kernel
theorem d_Md_store_108 : decode b_Md_store 108 = .ok (.getfield 28, 3) := by decide +kernel
theorem d_Md_store_111 : decode b_Md_store 111 = .ok (.iload 5, 2) := by decide +kernel
theorem d_Md_store_113 : decode b_Md_store 113 = .ok (.laload, 1) := by decide +kernel
theorem d_Md_store_114 : decode b_Md_store 114 = .ok (.aload_n 0, 1) := by decide +kernel
theorem d_Md_store_115 : decode b_Md_store 115 = .ok (.getfield 28, 3) := by decide +kernel
theorem d_Md_store_118 : decode b_Md_store 118 = .ok (.iload 6, 2) := by decide +kernel
theorem d_Md_store_120 : decode b_Md_store 120 = .ok (.laload, 1) := by decide +kernel
theorem d_Md_store_121 : decode b_Md_store 121 = .ok (.lcmp, 1) := by decide +kernel
theorem d_Md_store_122 : decode b_Md_store 122 = .ok (.ifCond .ge 17, 3) := by decide +kernel
theorem d_Md_store_125 : decode b_Md_store 125 = .ok (.aload_n 0, 1) := by decide +kernel
theorem d_Md_store_126 : decode b_Md_store 126 = .ok (.getfield 28, 3) := by decide +kernel
theorem d_Md_store_129 : decode b_Md_store 129 = .ok (.iload 6, 2) := by decide +kernel
theorem d_Md_store_131 : decode b_Md_store 131 = .ok (.aload_n 0, 1) := by decide +kernel
theorem d_Md_store_132 : decode b_Md_store 132 = .ok (.getfield 28, 3) := by decide +kernel
theorem d_Md_store_135 : decode b_Md_store 135 = .ok (.iload 5, 2) := by decide +kernel
theorem d_Md_store_137 : decode b_Md_store 137 = .ok (.laload, 1) := by decide +kernel
theorem d_Md_store_138 : decode b_Md_store 138 = .ok (.lastore, 1) := by decide +kernel
theorem d_Md_store_139 : decode b_Md_store 139 = .ok (.aload_n 0, 1) := by decide +kernel
theorem d_Md_store_140 : decode b_Md_store 140 = .ok (.getfield 32, 3) := by decide +kernel
theorem d_Md_store_143 : decode b_Md_store 143 = .ok (.iload 5, 2) := by decide +kernel
theorem d_Md_store_145 : decode b_Md_store 145 = .ok (.laload, 1) := by decide +kernel
theorem d_Md_store_146 : decode b_Md_store 146 = .ok (.aload_n 0, 1) := by decide +kernel
theorem d_Md_store_147 : decode b_Md_store 147 = .ok (.getfield 32, 3) := by decide +kernel
theorem d_Md_store_150 : decode b_Md_store 150 = .ok (.iload 6, 2) := by decide +kernel
theorem d_Md_store_152 : decode b_Md_store 152 = .ok (.laload, 1) := by decide +kernel
theorem d_Md_store_153 : decode b_Md_store 153 = .ok (.lcmp, 1) := by decide +kernel
theorem d_Md_store_154 : decode b_Md_store 154 = .ok (.ifCond .le 17, 3) := by decide +kernel
theorem d_Md_store_157 : decode b_Md_store 157 = .ok (.aload_n 0, 1) := by decide +kernel
theorem d_Md_store_158 : decode b_Md_store 158 = .ok (.getfield 32, 3) := by decide +kernel
theorem d_Md_store_161 : decode b_Md_store 161 = .ok (.iload 6, 2) := by decide +kernel
theorem d_Md_store_163 : decode b_Md_store 163 = .ok (.aload_n 0, 1) := by decide +kernel
theorem d_Md_store_164 : decode b_Md_store 164 = .ok (.getfield 32, 3) := by decide +kernel
theorem d_Md_store_167 : decode b_Md_store 167 = .ok (.iload 5, 2) := by decide +kernel
theorem d_Md_store_169 : decode b_Md_store 169 = .ok (.laload, 1) := by decide +kernel
theorem d_Md_store_170 : decode b_Md_store 170 = .ok (.lastore, 1) := by decide +kernel
theorem d_Md_store_171 : decode b_Md_store 171 = .ok (.iinc 6 1, 3) := by decide +kernel
theorem d_Md_store_174 : decode b_Md_store 174 = .ok (.goto (-93), 3) := by decide +kernel
theorem d_Md_store_177 : decode b_Md_store 177 = .ok (.return_, 1) := by decide +kernel
theorem d_Md_callGuess_0 : decode b_Md_callGuess 0 = .ok (.iload_n 1, 1) := by decide +kernel
theorem d_Md_callGuess_1 : decode b_Md_callGuess 1 = .ok (.ifCond .ne 13, 3) := by decide +kernel
theorem d_Md_callGuess_4 : decode b_Md_callGuess 4 = .ok (.aload_n 0, 1) := by decide +kernel
theorem d_Md_callGuess_5 : decode b_Md_callGuess 5 = .ok (.iconst 0, 1) := by decide +kernel
theorem d_Md_callGuess_6 : decode b_Md_callGuess 6 = .ok (.iconst 1, 1) := by decide +kernel
theorem d_Md_callGuess_7 : decode b_Md_callGuess 7 = .ok (.lconst 0, 1) := by decide +kernel
theorem d_Md_callGuess_8 : decode b_Md_callGuess 8 = .ok (.ldc2_w 165, 3) := by decide +kernel
theorem d_Md_callGuess_11 : decode b_Md_callGuess 11 = .ok (.invokevirtual 83, 3) := by decide +kernel
theorem d_Md_callGuess_14 : decode b_Md_callGuess 14 = .ok (.iload_n 1, 1) := by decide +kernel
theorem d_Md_callGuess_15 : decode b_Md_callGuess 15 = .ok (.iconst 1, 1) := by decide +kernel
theorem d_Md_callGuess_16 : decode b_Md_callGuess 16 = .ok (.if_icmp .ne 11, 3) := by decide +kernel
theorem d_Md_callGuess_19 : decode b_Md_callGuess 19 = .ok (.aload_n 0, 1) := by decide +kernel
theorem d_Md_callGuess_20 : decode b_Md_callGuess 20 = .ok (.iconst 0, 1) := by decide +kernel
theorem d_Md_callGuess_21 : decode b_Md_callGuess 21 = .ok (.iconst 4, 1) := by decide +kernel
theorem d_Md_callGuess_22 : decode b_Md_callGuess 22 = .ok (.lconst 0, 1) := by decide +kernel
theorem d_Md_callGuess_23 : decode b_Md_callGuess 23 = .ok (.lconst 0, 1) := by decide +kernel
theorem d_Md_callGuess_24 : decode b_Md_callGuess 24 = .ok (.invokevirtual 83, 3) := by decide +kernel
theorem d_Md_callGuess_27 : decode b_Md_callGuess 27 = .ok (.iload_n 1, 1) := by decide +kernel
theorem d_Md_callGuess_28 : decode b_Md_callGuess 28 = .ok (.iconst 2, 1) := by decide +kernel
theorem d_Md_callGuess_29 : decode b_Md_callGuess 29 = .ok (.if_icmp .ne 71, 3) := by decide +kernel
theorem d_Md_callGuess_32 : decode b_Md_callGuess 32 = .ok (.aload_n 0, 1) := by decide +kernel
theorem d_Md_callGuess_33 : decode b_Md_callGuess 33 = .ok (.iconst 0, 1) := by decide +kernel
theorem d_Md_callGuess_34 : decode b_Md_callGuess 34 = .ok (.iconst 1, 1) := by decide +kernel
theorem d_Md_callGuess_35 : decode b_Md_callGuess 35 = .ok (.aload_n 0, 1) := by decide +kernel
theorem d_Md_callGuess_36 : decode b_Md_callGuess 36 = .ok (.getfield 28, 3) := by decide +kernel
theorem d_Md_callGuess_39 : decode b_Md_callGuess 39 = .ok (.iconst 1, 1) := by decide +kernel
theorem d_Md_callGuess_40 : decode b_Md_callGuess 40 = .ok (.laload, 1) := by decide +kernel
theorem d_Md_callGuess_41 : decode b_Md_callGuess 41 = .ok (.aload_n 0, 1) := by decide +kernel
theorem d_Md_callGuess_42 : decode b_Md_callGuess 42 = .ok (.getfield 28, 3) := by decide +kernel
theorem d_Md_callGuess_45 : decode b_Md_callGuess 45 = .ok (.iconst 2, 1) := by decide +kernel
theorem d_Md_callGuess_46 : decode b_Md_callGuess 46 = .ok (.laload, 1) := by decide +kernel
theorem d_Md_callGuess_47 : decode b_Md_callGuess 47 = .ok (.lcmp, 1) := by decide +kernel
theorem d_Md_callGuess_48 : decode b_Md_callGuess 48 = .ok (.ifCond .le 12, 3) := by decide +kernel
theorem d_Md_callGuess_51 : decode b_Md_callGuess 51 = .ok (.aload_n 0, 1) := by decide +kernel
theorem d_Md_callGuess_52 : decode b_Md_callGuess 52 = .ok (.getfield 28, 3) := by decide +kernel
theorem d_Md_callGuess_55 : decode b_Md_callGuess 55 = .ok (.iconst 1, 1) := by decide +kernel
theorem d_Md_callGuess_56 : decode b_Md_callGuess 56 = .ok (.laload, 1) := by decide +kernel
theorem d_Md_callGuess_57 : decode b_Md_callGuess 57 = .ok (.goto 9, 3) := by decide +kernel
theorem d_Md_callGuess_60 : decode b_Md_callGuess 60 = .ok (.aload_n 0, 1) := by decide +kernel
theorem d_Md_callGuess_61 : decode b_Md_callGuess 61 = .ok (.getfield 28, 3) := by decide +kernel
theorem d_Md_callGuess_64 : decode b_Md_callGuess 64 = .ok (.iconst 2, 1) := by decide +kernel
theorem d_Md_callGuess_65 : decode b_Md_callGuess 65 = .ok (.laload, 1) := by decide +kernel
theorem d_Md_callGuess_66 : decode b_Md_callGuess 66 = .ok (.aload_n 0, 1) := by decide +kernel
theorem d_Md_callGuess_67 : decode b_Md_callGuess 67 = .ok (.getfield 32, 3) := by decide +kernel
theorem d_Md_callGuess_70 : decode b_Md_callGuess 70 = .ok (.iconst 1, 1) := by decide +kernel
theorem d_Md_callGuess_71 : decode b_Md_callGuess 71 = .ok (.laload, 1) := by decide +kernel
theorem d_Md_callGuess_72 : decode b_Md_callGuess 72 = .ok (.aload_n 0, 1) := by decide +kernel
theorem d_Md_callGuess_73 : decode b_Md_callGuess 73 = .ok (.getfield 32, 3) := by decide +kernel
theorem d_Md_callGuess_76 : decode b_Md_callGuess 76 = .ok (.iconst 2, 1) := by decide +kernel
theorem d_Md_callGuess_77 : decode b_Md_callGuess 77 = .ok (.laload, 1) := by decide +kernel
theorem d_Md_callGuess_78 : decode b_Md_callGuess 78 = .ok (.lcmp, 1) := by decide +kernel
theorem d_Md_callGuess_79 : decode b_Md_callGuess 79 = .ok (.ifCond .le 12, 3) := by decide +kernel
theorem d_Md_callGuess_82 : decode b_Md_callGuess 82 = .ok (.aload_n 0, 1) := by decide +kernel
theorem d_Md_callGuess_83 : decode b_Md_callGuess 83 = .ok (.getfield 32, 3) := by decide +kernel
theorem d_Md_callGuess_86 : decode b_Md_callGuess 86 = .ok (.iconst 1, 1) := by decide +kernel
theorem d_Md_callGuess_87 : decode b_Md_callGuess 87 = .ok (.laload, 1) := by decide +kernel
theorem d_Md_callGuess_88 : decode b_Md_callGuess 88 = .ok (.goto 9, 3) := by decide +kernel
theorem d_Md_callGuess_91 : decode b_Md_callGuess 91 = .ok (.aload_n 0, 1) := by decide +kernel
theorem d_Md_callGuess_92 : decode b_Md_callGuess 92 = .ok (.getfield 32, 3) := by decide +kernel
theorem d_Md_callGuess_95 : decode b_Md_callGuess 95 = .ok (.iconst 2, 1) := by decide +kernel
theorem d_Md_callGuess_96 : decode b_Md_callGuess 96 = .ok (.laload, 1) := by decide +kernel
theorem d_Md_callGuess_97 : decode b_Md_callGuess 97 = .ok (.invokevirtual 83, 3) := by decide +kernel
theorem d_Md_callGuess_100 : decode b_Md_callGuess 100 = .ok (.iconst 1, 1) := by decide +kernel
theorem d_Md_callGuess_101 : decode b_Md_callGuess 101 = .ok (.istore_n 2, 1) := by decide +kernel
theorem d_Md_callGuess_102 : decode b_Md_callGuess 102 = .ok (.iload_n 2, 1) := by decide +kernel
theorem d_Md_callGuess_103 : decode b_Md_callGuess 103 = .ok (.iconst 4, 1) := by decide +kernel
theorem d_Md_callGuess_104 : decode b_Md_callGuess 104 = .ok (.if_icmp .ge 17, 3) := by decide +kernel
theorem d_Md_callGuess_107 : decode b_Md_callGuess 107 = .ok (.aload_n 0, 1) := by decide +kernel
theorem d_Md_callGuess_108 : decode b_Md_callGuess 108 = .ok (.iload_n 2, 1) := by decide +kernel
theorem d_Md_callGuess_109 : decode b_Md_callGuess 109 = .ok (.iconst 0, 1) := by decide +kernel
theorem d_Md_callGuess_110 : decode b_Md_callGuess 110 = .ok (.lconst 0, 1) := by decide +kernel
theorem d_Md_callGuess_111 : decode b_Md_callGuess 111 = .ok (.lconst 0, 1) := by decide +kernel
theorem d_Md_callGuess_112 : decode b_Md_callGuess 112 = .ok (.invokevirtual 83, 3) := by decide +kernel
theorem d_Md_callGuess_115 : decode b_Md_callGuess 115 = .ok (.iinc 2 1, 3) := by decide +kernel
theorem d_Md_callGuess_118 : decode b_Md_callGuess 118 = .ok (.goto (-16), 3) := by decide +kernel
theorem d_Md_callGuess_121 : decode b_Md_callGuess 121 = .ok (.return_, 1) := by decide +kernel
theorem d_Md_branch_0 : decode b_Md_branch 0 = .ok (.aload_n 0, 1) := by decide +kernel
theorem d_Md_branch_1 : decode b_Md_branch 1 = .ok (.getfield 7, 3) := by decide +kernel
theorem d_Md_branch_4 : decode b_Md_branch 4 = .ok (.iload_n 1, 1) := by decide +kernel
theorem d_Md_branch_5 : decode b_Md_branch 5 = .ok (.iaload, 1) := by decide +kernel
theorem d_Md_branch_6 : decode b_Md_branch 6 = .ok (.istore_n 2, 1) := by decide +kernel
theorem d_Md_branch_7 : decode b_Md_branch 7 = .ok (.aload_n 0, 1) := by decide +kernel
theorem d_Md_branch_8 : decode b_Md_branch 8 = .ok (.getfield 13, 3) := by decide +kernel
theorem d_Md_branch_11 : decode b_Md_branch 11 = .ok (.iload_n 1, 1) := by decide +kernel
theorem d_Md_branch_12 : decode b_Md_branch 12 = .ok (.iaload, 1) := by decide +kernel
theorem d_Md_branch_13 : decode b_Md_branch 13 = .ok (.istore_n 3, 1) := by decide +kernel
theorem d_Md_branch_14 : decode b_Md_branch 14 = .ok (.aload_n 0, 1) := by decide +kernel
theorem d_Md_branch_15 : decode b_Md_branch 15 = .ok (.getfield 16, 3) := by decide +kernel
theorem d_Md_branch_18 : decode b_Md_branch 18 = .ok (.iload_n 1, 1) := by decide +kernel
theorem d_Md_branch_19 : decode b_Md_branch 19 = .ok (.iaload, 1) := by decide +kernel
theorem d_Md_branch_20 : decode b_Md_branch 20 = .ok (.istore 4, 2) := by decide +kernel
theorem d_Md_branch_22 : decode b_Md_branch 22 = .ok (.aload_n 0, 1) := by decide +kernel
theorem d_Md_branch_23 : decode b_Md_branch 23 = .ok (.getfield 25, 3) := by decide +kernel
theorem d_Md_branch_26 : decode b_Md_branch 26 = .ok (.iload_n 3, 1) := by decide +kernel
theorem d_Md_branch_27 : decode b_Md_branch 27 = .ok (.iaload, 1) := by decide +kernel
theorem d_Md_branch_28 : decode b_Md_branch 28 = .ok (.istore 5, 2) := by decide +kernel
theorem d_Md_branch_30 : decode b_Md_branch 30 = .ok (.aload_n 0, 1) := by decide +kernel
theorem d_Md_branch_31 : decode b_Md_branch 31 = .ok (.getfield 19, 3) := by decide +kernel
theorem d_Md_branch_34 : decode b_Md_branch 34 = .ok (.iload_n 1, 1) := by decide +kernel
theorem d_Md_branch_35 : decode b_Md_branch 35 = .ok (.iaload, 1) := by decide +kernel
theorem d_Md_branch_36 : decode b_Md_branch 36 = .ok (.i2l, 1) := by decide +kernel
theorem d_Md_branch_37 : decode b_Md_branch 37 = .ok (.lstore 6, 2) := by decide +kernel
theorem d_Md_branch_39 : decode b_Md_branch 39 = .ok (.aload_n 0, 1) := by decide +kernel
theorem d_Md_branch_40 : decode b_Md_branch 40 = .ok (.getfield 28, 3) := by decide +kernel
theorem d_Md_branch_43 : decode b_Md_branch 43 = .ok (.iload_n 3, 1) := by decide +kernel
theorem d_Md_branch_44 : decode b_Md_branch 44 = .ok (.laload, 1) := by decide +kernel
theorem d_Md_branch_45 : decode b_Md_branch 45 = .ok (.lstore 8, 2) := by decide +kernel
theorem d_Md_branch_47 : decode b_Md_branch 47 = .ok (.aload_n 0, 1) := by decide +kernel
theorem d_Md_branch_48 : decode b_Md_branch 48 = .ok (.getfield 32, 3) := by decide +kernel
theorem d_Md_branch_51 : decode b_Md_branch 51 = .ok (.iload_n 3, 1) := by decide +kernel
theorem d_Md_branch_52 : decode b_Md_branch 52 = .ok (.laload, 1) := by decide +kernel
theorem d_Md_branch_53 : decode b_Md_branch 53 = .ok (.lstore 10, 2) := by decide +kernel
theorem d_Md_branch_55 : decode b_Md_branch 55 = .ok (.aload_n 0, 1) := by decide +kernel
theorem d_Md_branch_56 : decode b_Md_branch 56 = .ok (.getfield 28, 3) := by decide +kernel
theorem d_Md_branch_59 : decode b_Md_branch 59 = .ok (.iload 4, 2) := by decide +kernel
theorem d_Md_branch_61 : decode b_Md_branch 61 = .ok (.laload, 1) := by decide +kernel
theorem d_Md_branch_62 : decode b_Md_branch 62 = .ok (.lstore 12, 2) := by decide +kernel
theorem d_Md_branch_64 : decode b_Md_branch 64 = .ok (.aload_n 0, 1) := by decide +kernel
theorem d_Md_branch_65 : decode b_Md_branch 65 = .ok (.getfield 32, 3) := by decide +kernel
theorem d_Md_branch_68 : decode b_Md_branch 68 = .ok (.iload 4, 2) := by decide +kernel
theorem d_Md_branch_70 : decode b_Md_branch 70 = .ok (.laload, 1) := by decide +kernel
theorem d_Md_branch_71 : decode b_Md_branch 71 = .ok (.lstore 14, 2) := by decide +kernel
theorem d_Md_branch_73 : decode b_Md_branch 73 = .ok (.iconst 1, 1) := by decide +kernel
theorem d_Md_branch_74 : decode b_Md_branch 74 = .ok (.istore 16, 2) := by decide +kernel
theorem d_Md_branch_76 : decode b_Md_branch 76 = .ok (.iconst 1, 1) := by decide +kernel
theorem d_Md_branch_77 : decode b_Md_branch 77 = .ok (.istore 17, 2) := by decide +kernel
theorem d_Md_branch_79 : decode b_Md_branch 79 = .ok (.iload_n 2, 1) := by decide +kernel
theorem d_Md_branch_80 : decode b_Md_branch 80 = .ok (.bipush 10, 2) := by decide +kernel
theorem d_Md_branch_82 : decode b_Md_branch 82 = .ok (.if_icmp .ne 73, 3) := by decide +kernel
theorem d_Md_branch_85 : decode b_Md_branch 85 = .ok (.iload 5, 2) := by decide +kernel
theorem d_Md_branch_87 : decode b_Md_branch 87 = .ok (.iconst 1, 1) := by decide +kernel
theorem d_Md_branch_88 : decode b_Md_branch 88 = .ok (.if_icmp .ne 67, 3) := by decide +kernel
theorem d_Md_branch_91 : decode b_Md_branch 91 = .ok (.lload 8, 2) := by decide +kernel
theorem d_Md_branch_93 : decode b_Md_branch 93 = .ok (.lload 6, 2) := by decide +kernel
theorem d_Md_branch_95 : decode b_Md_branch 95 = .ok (.lcmp, 1) := by decide +kernel
theorem d_Md_branch_96 : decode b_Md_branch 96 = .ok (.ifCond .gt 15, 3) := by decide +kernel
theorem d_Md_branch_99 : decode b_Md_branch 99 = .ok (.lload 6, 2) := by decide +kernel
theorem d_Md_branch_101 : decode b_Md_branch 101 = .ok (.lload 10, 2) := by decide +kernel
theorem d_Md_branch_103 : decode b_Md_branch 103 = .ok (.lcmp, 1) := by decide +kernel
theorem d_Md_branch_104 : decode b_Md_branch 104 = .ok (.ifCond .gt 7, 3) := by decide +kernel
theorem d_Md_branch_107 : decode b_Md_branch 107 = .ok (.iconst 1, 1) := by decide +kernel
theorem d_Md_branch_108 : decode b_Md_branch 108 = .ok (.goto 4, 3) := by decide +kernel
theorem d_Md_branch_111 : decode b_Md_branch 111 = .ok (.iconst 0, 1) := by decide +kernel
theorem d_Md_branch_112 : decode b_Md_branch 112 = .ok (.istore 16, 2) := by decide +kernel
theorem d_Md_branch_114 : decode b_Md_branch 114 = .ok (.lload 8, 2) := by decide +kernel
theorem d_Md_branch_116 : decode b_Md_branch 116 = .ok (.lload 6, 2) := by decide +kernel
theorem d_Md_branch_118 : decode b_Md_branch 118 = .ok (.lcmp, 1) := by decide +kernel
theorem d_Md_branch_119 : decode b_Md_branch 119 = .ok (.ifCond .ne 11, 3) := by decide +kernel
theorem d_Md_branch_122 : decode b_Md_branch 122 = .ok (.lload 10, 2) := by decide +kernel
theorem d_Md_branch_124 : decode b_Md_branch 124 = .ok (.lload 6, 2) := by decide +kernel
theorem d_Md_branch_126 : decode b_Md_branch 126 = .ok (.lcmp, 1) := by decide +kernel
theorem d_Md_branch_127 : decode b_Md_branch 127 = .ok (.ifCond .eq 7, 3) := by decide +kernel
theorem d_Md_branch_130 : decode b_Md_branch 130 = .ok (.iconst 1, 1) := by decide +kernel
theorem d_Md_branch_131 : decode b_Md_branch 131 = .ok (.goto 4, 3) := by decide +kernel
theorem d_Md_branch_134 : decode b_Md_branch 134 = .ok (.iconst 0, 1) := by decide +kernel
theorem d_Md_branch_135 : decode b_Md_branch 135 = .ok (.istore 17, 2) := by decide +kernel
theorem d_Md_branch_137 : decode b_Md_branch 137 = .ok (.iload 16, 2) := by decide +kernel
theorem d_Md_branch_139 : decode b_Md_branch 139 = .ok (.ifCond .eq 188, 3) := by decide +kernel
theorem d_Md_branch_142 : decode b_Md_branch 142 = .ok (.aload_n 0, 1) := by decide +kernel
theorem d_Md_branch_143 : decode b_Md_branch 143 = .ok (.iload_n 3, 1) := by decide +kernel
theorem d_Md_branch_144 : decode b_Md_branch 144 = .ok (.iconst 1, 1) := by decide +kernel
theorem d_Md_branch_145 : decode b_Md_branch 145 = .ok (.lload 6, 2) := by decide +kernel
theorem d_Md_branch_147 : decode b_Md_branch 147 = .ok (.lload 6, 2) := by decide +kernel
theorem d_Md_branch_149 : decode b_Md_branch 149 = .ok (.invokevirtual 83, 3) := by decide +kernel
theorem d_Md_branch_152 : decode b_Md_branch 152 = .ok (.goto 175, 3) := by decide +kernel
theorem d_Md_branch_155 : decode b_Md_branch 155 = .ok (.iload_n 2, 1) := by decide +kernel
theorem d_Md_branch_156 : decode b_Md_branch 156 = .ok (.bipush 10, 2) := by decide +kernel
theorem d_Md_branch_158 : decode b_Md_branch 158 = .ok (.if_icmp .ne 14, 3) := by decide +kernel
theorem d_Md_branch_161 : decode b_Md_branch 161 = .ok (.aload_n 0, 1) := by decide +kernel
theorem d_Md_branch_162 : decode b_Md_branch 162 = .ok (.iload_n 3, 1) := by decide +kernel
theorem d_Md_branch_163 : decode b_Md_branch 163 = .ok (.iconst 1, 1) := by decide +kernel
theorem d_Md_branch_164 : decode b_Md_branch 164 = .ok (.lconst 0, 1) := by decide +kernel
theorem d_Md_branch_165 : decode b_Md_branch 165 = .ok (.lconst 0, 1) := by decide +kernel
theorem d_Md_branch_166 : decode b_Md_branch 166 = .ok (.invokevirtual 83, 3) := by decide +kernel
theorem d_Md_branch_169 : decode b_Md_branch 169 = .ok (.goto 158, 3) := by decide +kernel
theorem d_Md_branch_172 : decode b_Md_branch 172 = .ok (.iload_n 2, 1) := by decide +kernel
theorem d_Md_branch_173 : decode b_Md_branch 173 = .ok (.bipush 11, 2) := by decide +kernel
theorem d_Md_branch_175 : decode b_Md_branch 175 = .ok (.if_icmp .ne 59, 3) := by decide +kernel
theorem d_Md_branch_178 : decode b_Md_branch 178 = .ok (.lload 10, 2) := by decide +kernel
theorem d_Md_branch_180 : decode b_Md_branch 180 = .ok (.lload 6, 2) := by decide +kernel
theorem d_Md_branch_182 : decode b_Md_branch 182 = .ok (.lcmp, 1) := by decide +kernel
theorem d_Md_branch_183 : decode b_Md_branch 183 = .ok (.ifCond .le 7, 3) := by decide +kernel
theorem d_Md_branch_186 : decode b_Md_branch 186 = .ok (.iconst 1, 1) := by decide +kernel
theorem d_Md_branch_187 : decode b_Md_branch 187 = .ok (.goto 4, 3) := by decide +kernel
theorem d_Md_branch_190 : decode b_Md_branch 190 = .ok (.iconst 0, 1) := by decide +kernel
theorem d_Md_branch_191 : decode b_Md_branch 191 = .ok (.istore 16, 2) := by decide +kernel
theorem d_Md_branch_193 : decode b_Md_branch 193 = .ok (.lload 8, 2) := by decide +kernel
theorem d_Md_branch_195 : decode b_Md_branch 195 = .ok (.lload 6, 2) := by decide +kernel
theorem d_Md_branch_197 : decode b_Md_branch 197 = .ok (.lcmp, 1) := by decide +kernel
theorem d_Md_branch_198 : decode b_Md_branch 198 = .ok (.ifCond .gt 7, 3) := by decide +kernel
theorem d_Md_branch_201 : decode b_Md_branch 201 = .ok (.iconst 1, 1) := by decide +kernel
theorem d_Md_branch_202 : decode b_Md_branch 202 = .ok (.goto 4, 3) := by decide +kernel
theorem d_Md_branch_205 : decode b_Md_branch 205 = .ok (.iconst 0, 1) := by decide +kernel
theorem d_Md_branch_206 : decode b_Md_branch 206 = .ok (.istore 17, 2) := by decide +kernel
theorem d_Md_branch_208 : decode b_Md_branch 208 = .ok (.iload 16, 2) := by decide +kernel
theorem d_Md_branch_210 : decode b_Md_branch 210 = .ok (.ifCond .eq 117, 3) := by decide +kernel
theorem d_Md_branch_213 : decode b_Md_branch 213 = .ok (.lload 8, 2) := by decide +kernel
theorem d_Md_branch_215 : decode b_Md_branch 215 = .ok (.lload 6, 2) := by decide +kernel
theorem d_Md_branch_217 : decode b_Md_branch 217 = .ok (.lcmp, 1) := by decide +kernel
theorem d_Md_branch_218 : decode b_Md_branch 218 = .ok (.ifCond .gt 109, 3) := by decide +kernel
theorem d_Md_branch_221 : decode b_Md_branch 221 = .ok (.aload_n 0, 1) := by decide +kernel
theorem d_Md_branch_222 : decode b_Md_branch 222 = .ok (.getfield 28, 3) := by decide +kernel
theorem d_Md_branch_225 : decode b_Md_branch 225 = .ok (.iload_n 3, 1) := by decide +kernel
theorem d_Md_branch_226 : decode b_Md_branch 226 = .ok (.lload 6, 2) := by decide +kernel
theorem d_Md_branch_228 : decode b_Md_branch 228 = .ok (.lconst 1, 1) := by decide +kernel
theorem d_Md_branch_229 : decode b_Md_branch 229 = .ok (.ladd, 1) := by decide +kernel
theorem d_Md_branch_230 : decode b_Md_branch 230 = .ok (.lastore, 1) := by decide +kernel
theorem d_Md_branch_231 : decode b_Md_branch 231 = .ok (.goto 96, 3) := by decide +kernel
theorem d_Md_branch_234 : decode b_Md_branch 234 = .ok (.iload_n 3, 1) := by decide +kernel
theorem d_Md_branch_235 : decode b_Md_branch 235 = .ok (.iload 4, 2) := by decide +kernel
theorem d_Md_branch_237 : decode b_Md_branch 237 = .ok (.if_icmp .ne 9, 3) := by decide +kernel
theorem d_Md_branch_240 : decode b_Md_branch 240 = .ok (.iconst 0, 1) := by decide +kernel
theorem d_Md_branch_241 : decode b_Md_branch 241 = .ok (.istore 16, 2) := by decide +kernel
theorem d_Md_branch_243 : decode b_Md_branch 243 = .ok (.goto 84, 3) := by decide +kernel
theorem d_Md_branch_246 : decode b_Md_branch 246 = .ok (.lload 8, 2) := by decide +kernel
theorem d_Md_branch_248 : decode b_Md_branch 248 = .ok (.lload 14, 2) := by decide +kernel
theorem d_Md_branch_250 : decode b_Md_branch 250 = .ok (.lcmp, 1) := by decide +kernel
theorem d_Md_branch_251 : decode b_Md_branch 251 = .ok (.ifCond .ge 7, 3) := by decide +kernel
theorem d_Md_branch_254 : decode b_Md_branch 254 = .ok (.iconst 1, 1) := by decide +kernel
theorem d_Md_branch_255 : decode b_Md_branch 255 = .ok (.goto 4, 3) := by decide +kernel
theorem d_Md_branch_258 : decode b_Md_branch 258 = .ok (.iconst 0, 1) := by decide +kernel
theorem d_Md_branch_259 : decode b_Md_branch 259 = .ok (.istore 16, 2) := by decide +kernel
theorem d_Md_branch_261 : decode b_Md_branch 261 = .ok (.lload 10, 2) := by decide +kernel
theorem d_Md_branch_263 : decode b_Md_branch 263 = .ok (.lload 12, 2) := by decide +kernel
theorem d_Md_branch_265 : decode b_Md_branch 265 = .ok (.lcmp, 1) := by decide +kernel
theorem d_Md_branch_266 : decode b_Md_branch 266 = .ok (.ifCond .lt 7, 3) := by decide +kernel
theorem d_Md_branch_269 : decode b_Md_branch 269 = .ok (.iconst 1, 1) := by decide +kernel
theorem d_Md_branch_270 : decode b_Md_branch 270 = .ok (.goto 4, 3) := by decide +kernel
theorem d_Md_branch_273 : decode b_Md_branch 273 = .ok (.iconst 0, 1) := by decide +kernel
theorem d_Md_branch_274 : decode b_Md_branch 274 = .ok (.istore 17, 2) := by decide +kernel
theorem d_Md_branch_276 : decode b_Md_branch 276 = .ok (.iload 16, 2) := by decide +kernel
theorem d_Md_branch_278 : decode b_Md_branch 278 = .ok (.ifCond .eq 23, 3) := by decide +kernel
theorem d_Md_branch_281 : decode b_Md_branch 281 = .ok (.lload 10, 2) := by decide +kernel
theorem d_Md_branch_283 : decode b_Md_branch 283 = .ok (.lload 14, 2) := by decide +kernel
theorem d_Md_branch_285 : decode b_Md_branch 285 = .ok (.lconst 1, 1) := by decide +kernel
theorem d_Md_branch_286 : decode b_Md_branch 286 = .ok (.lsub, 1) := by decide +kernel
theorem d_Md_branch_287 : decode b_Md_branch 287 = .ok (.lcmp, 1) := by decide +kernel
theorem d_Md_branch_288 : decode b_Md_branch 288 = .ok (.ifCond .le 13, 3) := by decide +kernel
theorem d_Md_branch_291 : decode b_Md_branch 291 = .ok (.aload_n 0, 1) := by decide +kernel
theorem d_Md_branch_292 : decode b_Md_branch 292 = .ok (.getfield 32, 3) := by decide +kernel
theorem d_Md_branch_295 : decode b_Md_branch 295 = .ok (.iload_n 3, 1) := by decide +kernel
theorem d_Md_branch_296 : decode b_Md_branch 296 = .ok (.lload 14, 2) := by decide +kernel
theorem d_Md_branch_298 : decode b_Md_branch 298 = .ok (.lconst 1, 1) := by decide +kernel
theorem d_Md_branch_299 : decode b_Md_branch 299 = .ok (.lsub, 1) := by decide +kernel
theorem d_Md_branch_300 : decode b_Md_branch 300 = .ok (.lastore, 1) := by decide +kernel
theorem d_Md_branch_301 : decode b_Md_branch 301 = .ok (.iload 16, 2) := by decide +kernel
theorem d_Md_branch_303 : decode b_Md_branch 303 = .ok (.ifCond .eq 24, 3) := by decide +kernel
theorem d_Md_branch_306 : decode b_Md_branch 306 = .ok (.lload 12, 2) := by decide +kernel
theorem d_Md_branch_308 : decode b_Md_branch 308 = .ok (.lload 8, 2) := by decide +kernel
theorem d_Md_branch_310 : decode b_Md_branch 310 = .ok (.lconst 1, 1) := by decide +kernel
theorem d_Md_branch_311 : decode b_Md_branch 311 = .ok (.ladd, 1) := by decide +kernel
theorem d_Md_branch_312 : decode b_Md_branch 312 = .ok (.lcmp, 1) := by decide +kernel
theorem d_Md_branch_313 : decode b_Md_branch 313 = .ok (.ifCond .ge 14, 3) := by decide +kernel
theorem d_Md_branch_316 : decode b_Md_branch 316 = .ok (.aload_n 0, 1) := by decide +kernel
theorem d_Md_branch_317 : decode b_Md_branch 317 = .ok (.getfield 28, 3) := by decide +kernel
theorem d_Md_branch_320 : decode b_Md_branch 320 = .ok (.iload 4, 2) := by decide +kernel
theorem d_Md_branch_322 : decode b_Md_branch 322 = .ok (.lload 8, 2) := by decide +kernel
theorem d_Md_branch_324 : decode b_Md_branch 324 = .ok (.lconst 1, 1) := by decide +kernel
theorem d_Md_branch_325 : decode b_Md_branch 325 = .ok (.ladd, 1) := by decide +kernel
theorem d_Md_branch_326 : decode b_Md_branch 326 = .ok (.lastore, 1) := by decide +kernel
theorem d_Md_branch_327 : decode b_Md_branch 327 = .ok (.iload 16, 2) := by decide +kernel
theorem d_Md_branch_329 : decode b_Md_branch 329 = .ok (.ifCond .eq 13, 3) := by decide +kernel
theorem d_Md_branch_332 : decode b_Md_branch 332 = .ok (.aload_n 0, 1) := by decide +kernel
theorem d_Md_branch_333 : decode b_Md_branch 333 = .ok (.aload_n 0, 1) := by decide +kernel
theorem d_Md_branch_334 : decode b_Md_branch 334 = .ok (.getfield 22, 3) := by decide +kernel
theorem d_Md_branch_337 : decode b_Md_branch 337 = .ok (.iload_n 1, 1) := by decide +kernel
theorem d_Md_branch_338 : decode b_Md_branch 338 = .ok (.iaload, 1) := by decide +kernel
theorem d_Md_branch_339 : decode b_Md_branch 339 = .ok (.invokevirtual 167, 3) := by decide +kernel
theorem d_Md_branch_342 : decode b_Md_branch 342 = .ok (.aload_n 0, 1) := by decide +kernel
theorem d_Md_branch_343 : decode b_Md_branch 343 = .ok (.iload_n 3, 1) := by decide +kernel
theorem d_Md_branch_344 : decode b_Md_branch 344 = .ok (.iload 5, 2) := by decide +kernel
theorem d_Md_branch_346 : decode b_Md_branch 346 = .ok (.lload 8, 2) := by decide +kernel
theorem d_Md_branch_348 : decode b_Md_branch 348 = .ok (.lload 10, 2) := by decide +kernel
theorem d_Md_branch_350 : decode b_Md_branch 350 = .ok (.invokevirtual 83, 3) := by decide +kernel
theorem d_Md_branch_353 : decode b_Md_branch 353 = .ok (.iload_n 3, 1) := by decide +kernel
theorem d_Md_branch_354 : decode b_Md_branch 354 = .ok (.iload 4, 2) := by decide +kernel
theorem d_Md_branch_356 : decode b_Md_branch 356 = .ok (.if_icmp .eq 20, 3) := by decide +kernel
theorem d_Md_branch_359 : decode b_Md_branch 359 = .ok (.aload_n 0, 1) := by decide +kernel
theorem d_Md_branch_360 : decode b_Md_branch 360 = .ok (.iload 4, 2) := by decide +kernel
theorem d_Md_branch_362 : decode b_Md_branch 362 = .ok (.aload_n 0, 1) := by decide +kernel
theorem d_Md_branch_363 : decode b_Md_branch 363 = .ok (.getfield 25, 3) := by decide +kernel
theorem d_Md_branch_366 : decode b_Md_branch 366 = .ok (.iload 4, 2) := by decide +kernel
theorem d_Md_branch_368 : decode b_Md_branch 368 = .ok (.iaload, 1) := by decide +kernel
theorem d_Md_branch_369 : decode b_Md_branch 369 = .ok (.lload 12, 2) := by decide +kernel
theorem d_Md_branch_371 : decode b_Md_branch 371 = .ok (.lload 14, 2) := by decide +kernel
theorem d_Md_branch_373 : decode b_Md_branch 373 = .ok (.invokevirtual 83, 3) := by decide +kernel
theorem d_Md_branch_376 : decode b_Md_branch 376 = .ok (.iload 17, 2) := by decide +kernel
theorem d_Md_branch_378 : decode b_Md_branch 378 = .ok (.ifCond .ne 8, 3) := by decide +kernel
theorem d_Md_branch_381 : decode b_Md_branch 381 = .ok (.aload_n 0, 1) := by decide +kernel
theorem d_Md_branch_382 : decode b_Md_branch 382 = .ok (.invokevirtual 170, 3) := by decide +kernel
theorem d_Md_branch_385 : decode b_Md_branch 385 = .ok (.return_, 1) := by decide +kernel
theorem d_Md_branch_386 : decode b_Md_branch 386 = .ok (.iload_n 2, 1) := by decide +kernel
theorem d_Md_branch_387 : decode b_Md_branch 387 = .ok (.bipush 10, 2) := by decide +kernel
theorem d_Md_branch_389 : decode b_Md_branch 389 = .ok (.if_icmp .ne 27, 3) := by decide +kernel
theorem d_Md_branch_392 : decode b_Md_branch 392 = .ok (.iload 5, 2) := by decide +kernel
theorem d_Md_branch_394 : decode b_Md_branch 394 = .ok (.iconst 1, 1) := by decide +kernel
theorem d_Md_branch_395 : decode b_Md_branch 395 = .ok (.if_icmp .ne 21, 3) := by decide +kernel
theorem d_Md_branch_398 : decode b_Md_branch 398 = .ok (.lload 8, 2) := by decide +kernel
theorem d_Md_branch_400 : decode b_Md_branch 400 = .ok (.lload 6, 2) := by decide +kernel
theorem d_Md_branch_402 : decode b_Md_branch 402 = .ok (.lcmp, 1) := by decide +kernel
theorem d_Md_branch_403 : decode b_Md_branch 403 = .ok (.ifCond .ne 13, 3) := by decide +kernel
theorem d_Md_branch_406 : decode b_Md_branch 406 = .ok (.aload_n 0, 1) := by decide +kernel
theorem d_Md_branch_407 : decode b_Md_branch 407 = .ok (.getfield 28, 3) := by decide +kernel
theorem d_Md_branch_410 : decode b_Md_branch 410 = .ok (.iload_n 3, 1) := by decide +kernel
theorem d_Md_branch_411 : decode b_Md_branch 411 = .ok (.lload 6, 2) := by decide +kernel
theorem d_Md_branch_413 : decode b_Md_branch 413 = .ok (.lconst 1, 1) := by decide +kernel
theorem d_Md_branch_414 : decode b_Md_branch 414 = .ok (.ladd, 1) := by decide +kernel
theorem d_Md_branch_415 : decode b_Md_branch 415 = .ok (.lastore, 1) := by decide +kernel
theorem d_Md_branch_416 : decode b_Md_branch 416 = .ok (.iload_n 2, 1) := by decide +kernel
theorem d_Md_branch_417 : decode b_Md_branch 417 = .ok (.bipush 10, 2) := by decide +kernel
theorem d_Md_branch_419 : decode b_Md_branch 419 = .ok (.if_icmp .ne 27, 3) := by decide +kernel
theorem d_Md_branch_422 : decode b_Md_branch 422 = .ok (.iload 5, 2) := by decide +kernel
theorem d_Md_branch_424 : decode b_Md_branch 424 = .ok (.iconst 1, 1) := by decide +kernel
theorem d_Md_branch_425 : decode b_Md_branch 425 = .ok (.if_icmp .ne 21, 3) := by decide +kernel
theorem d_Md_branch_428 : decode b_Md_branch 428 = .ok (.lload 10, 2) := by decide +kernel
theorem d_Md_branch_430 : decode b_Md_branch 430 = .ok (.lload 6, 2) := by decide +kernel
theorem d_Md_branch_432 : decode b_Md_branch 432 = .ok (.lcmp, 1) := by decide +kernel
theorem d_Md_branch_433 : decode b_Md_branch 433 = .ok (.ifCond .ne 13, 3) := by decide +kernel
theorem d_Md_branch_436 : decode b_Md_branch 436 = .ok (.aload_n 0, 1) := by decide +kernel
theorem d_Md_branch_437 : decode b_Md_branch 437 = .ok (.getfield 32, 3) := by decide +kernel
theorem d_Md_branch_440 : decode b_Md_branch 440 = .ok (.iload_n 3, 1) := by decide +kernel
theorem d_Md_branch_441 : decode b_Md_branch 441 = .ok (.lload 6, 2) := by decide +kernel
theorem d_Md_branch_443 : decode b_Md_branch 443 = .ok (.lconst 1, 1) := by decide +kernel
theorem d_Md_branch_444 : decode b_Md_branch 444 = .ok (.lsub, 1) := by decide +kernel
theorem d_Md_branch_445 : decode b_Md_branch 445 = .ok (.lastore, 1) := by decide +kernel
theorem d_Md_branch_446 : decode b_Md_branch 446 = .ok (.iload_n 2, 1) := by decide +kernel
theorem d_Md_branch_447 : decode b_Md_branch 447 = .ok (.bipush 10, 2) := by decide +kernel
theorem d_Md_branch_449 : decode b_Md_branch 449 = .ok (.if_icmp .ne 17, 3) := by decide +kernel
theorem d_Md_branch_452 : decode b_Md_branch 452 = .ok (.iload 5, 2) := by decide +kernel
theorem d_Md_branch_454 : decode b_Md_branch 454 = .ok (.iconst 4, 1) := by decide +kernel
theorem d_Md_branch_455 : decode b_Md_branch 455 = .ok (.if_icmp .ne 11, 3) := by decide +kernel
theorem d_Md_branch_458 : decode b_Md_branch 458 = .ok (.aload_n 0, 1) := by decide +kernel
theorem d_Md_branch_459 : decode b_Md_branch 459 = .ok (.iload_n 3, 1) := by decide +kernel
theorem d_Md_branch_460 : decode b_Md_branch 460 = .ok (.iconst 3, 1) := by decide +kernel
theorem d_Md_branch_461 : decode b_Md_branch 461 = .ok (.lconst 0, 1) := by decide +kernel
theorem d_Md_branch_462 : decode b_Md_branch 462 = .ok (.lconst 0, 1) := by decide +kernel
theorem d_Md_branch_463 : decode b_Md_branch 463 = .ok (.invokevirtual 83, 3) := by decide +kernel
theorem d_Md_branch_466 : decode b_Md_branch 466 = .ok (.iload_n 2, 1) := by decide +kernel
theorem d_Md_branch_467 : decode b_Md_branch 467 = .ok (.bipush 11, 2) := by decide +kernel
theorem d_Md_branch_469 : decode b_Md_branch 469 = .ok (.if_icmp .ne 19, 3) := by decide +kernel
theorem d_Md_branch_472 : decode b_Md_branch 472 = .ok (.lload 10, 2) := by decide +kernel
theorem d_Md_branch_474 : decode b_Md_branch 474 = .ok (.lload 6, 2) := by decide +kernel
theorem d_Md_branch_476 : decode b_Md_branch 476 = .ok (.lcmp, 1) := by decide +kernel
theorem d_Md_branch_477 : decode b_Md_branch 477 = .ok (.ifCond .le 11, 3) := by decide +kernel
theorem d_Md_branch_480 : decode b_Md_branch 480 = .ok (.aload_n 0, 1) := by decide +kernel
theorem d_Md_branch_481 : decode b_Md_branch 481 = .ok (.getfield 32, 3) := by decide +kernel
theorem d_Md_branch_484 : decode b_Md_branch 484 = .ok (.iload_n 3, 1) := by decide +kernel
theorem d_Md_branch_485 : decode b_Md_branch 485 = .ok (.lload 6, 2) := by decide +kernel
theorem d_Md_branch_487 : decode b_Md_branch 487 = .ok (.lastore, 1) := by decide +kernel
theorem d_Md_branch_488 : decode b_Md_branch 488 = .ok (.iload_n 2, 1) := by decide +kernel
theorem d_Md_branch_489 : decode b_Md_branch 489 = .ok (.bipush 12, 2) := by decide +kernel
theorem d_Md_branch_491 : decode b_Md_branch 491 = .ok (.if_icmp .ne 25, 3) := by decide +kernel
theorem d_Md_branch_494 : decode b_Md_branch 494 = .ok (.iload_n 3, 1) := by decide +kernel
theorem d_Md_branch_495 : decode b_Md_branch 495 = .ok (.iload 4, 2) := by decide +kernel
theorem d_Md_branch_497 : decode b_Md_branch 497 = .ok (.if_icmp .eq 19, 3) := by decide +kernel
theorem d_Md_branch_500 : decode b_Md_branch 500 = .ok (.lload 8, 2) := by decide +kernel
theorem d_Md_branch_502 : decode b_Md_branch 502 = .ok (.lload 12, 2) := by decide +kernel
theorem d_Md_branch_504 : decode b_Md_branch 504 = .ok (.lcmp, 1) := by decide +kernel
theorem d_Md_branch_505 : decode b_Md_branch 505 = .ok (.ifCond .ge 11, 3) := by decide +kernel
theorem d_Md_branch_508 : decode b_Md_branch 508 = .ok (.aload_n 0, 1) := by decide +kernel
theorem d_Md_branch_509 : decode b_Md_branch 509 = .ok (.getfield 28, 3) := by decide +kernel
theorem d_Md_branch_512 : decode b_Md_branch 512 = .ok (.iload_n 3, 1) := by decide +kernel
theorem d_Md_branch_513 : decode b_Md_branch 513 = .ok (.lload 12, 2) := by decide +kernel
theorem d_Md_branch_515 : decode b_Md_branch 515 = .ok (.lastore, 1) := by decide +kernel
theorem d_Md_branch_516 : decode b_Md_branch 516 = .ok (.iload_n 2, 1) := by decide +kernel
theorem d_Md_branch_517 : decode b_Md_branch 517 = .ok (.bipush 12, 2) := by decide +kernel
theorem d_Md_branch_519 : decode b_Md_branch 519 = .ok (.if_icmp .ne 26, 3) := by decide +kernel
theorem d_Md_branch_522 : decode b_Md_branch 522 = .ok (.iload_n 3, 1) := by decide +kernel
theorem d_Md_branch_523 : decode b_Md_branch 523 = .ok (.iload 4, 2) := by decide +kernel
theorem d_Md_branch_525 : decode b_Md_branch 525 = .ok (.if_icmp .eq 20, 3) := by decide +kernel
theorem d_Md_branch_528 : decode b_Md_branch 528 = .ok (.lload 14, 2) := by decide +kernel
theorem d_Md_branch_530 : decode b_Md_branch 530 = .ok (.lload 10, 2) := by decide +kernel
theorem d_Md_branch_532 : decode b_Md_branch 532 = .ok (.lcmp, 1) := by decide +kernel
theorem d_Md_branch_533 : decode b_Md_branch 533 = .ok (.ifCond .le 12, 3) := by decide +kernel
theorem d_Md_branch_536 : decode b_Md_branch 536 = .ok (.aload_n 0, 1) := by decide +kernel
theorem d_Md_branch_537 : decode b_Md_branch 537 = .ok (.getfield 32, 3) := by decide +kernel
theorem d_Md_branch_540 : decode b_Md_branch 540 = .ok (.iload 4, 2) := by decide +kernel
theorem d_Md_branch_542 : decode b_Md_branch 542 = .ok (.lload 10, 2) := by decide +kernel
theorem d_Md_branch_544 : decode b_Md_branch 544 = .ok (.lastore, 1) := by decide +kernel
theorem d_Md_branch_545 : decode b_Md_branch 545 = .ok (.aload_n 0, 1) := by decide +kernel
theorem d_Md_branch_546 : decode b_Md_branch 546 = .ok (.iload_n 1, 1) := by decide +kernel
theorem d_Md_branch_547 : decode b_Md_branch 547 = .ok (.iconst 1, 1) := by decide +kernel
theorem d_Md_branch_548 : decode b_Md_branch 548 = .ok (.iadd, 1) := by decide +kernel
theorem d_Md_branch_549 : decode b_Md_branch 549 = .ok (.putfield 140, 3) := by decide +kernel
theorem d_Md_branch_552 : decode b_Md_branch 552 = .ok (.return_, 1) := by decide +kernel
theorem d_Md_leave_0 : decode b_Md_leave 0 = .ok (.aload_n 0, 1) := by decide +kernel
theorem d_Md_leave_1 : decode b_Md_leave 1 = .ok (.getfield 173, 3) := by decide +kernel
theorem d_Md_leave_4 : decode b_Md_leave 4 = .ok (.ifCond .eq 17, 3) := by decide +kernel
theorem d_Md_leave_7 : decode b_Md_leave 7 = .ok (.aload_n 0, 1) := by decide +kernel
theorem d_Md_leave_8 : decode b_Md_leave 8 = .ok (.getfield 28, 3) := by decide +kernel
theorem d_Md_leave_11 : decode b_Md_leave 11 = .ok (.iconst 0, 1) := by decide +kernel
theorem d_Md_leave_12 : decode b_Md_leave 12 = .ok (.laload, 1) := by decide +kernel
theorem d_Md_leave_13 : decode b_Md_leave 13 = .ok (.aload_n 0, 1) := by decide +kernel
theorem d_Md_leave_14 : decode b_Md_leave 14 = .ok (.getfield 176, 3) := by decide +kernel
theorem d_Md_leave_17 : decode b_Md_leave 17 = .ok (.lcmp, 1) := by decide +kernel
theorem d_Md_leave_18 : decode b_Md_leave 18 = .ok (.ifCond .ge 13, 3) := by decide +kernel
theorem d_Md_leave_21 : decode b_Md_leave 21 = .ok (.aload_n 0, 1) := by decide +kernel
theorem d_Md_leave_22 : decode b_Md_leave 22 = .ok (.aload_n 0, 1) := by decide +kernel
theorem d_Md_leave_23 : decode b_Md_leave 23 = .ok (.getfield 28, 3) := by decide +kernel
theorem d_Md_leave_26 : decode b_Md_leave 26 = .ok (.iconst 0, 1) := by decide +kernel
theorem d_Md_leave_27 : decode b_Md_leave 27 = .ok (.laload, 1) := by decide +kernel
theorem d_Md_leave_28 : decode b_Md_leave 28 = .ok (.putfield 176, 3) := by decide +kernel
theorem d_Md_leave_31 : decode b_Md_leave 31 = .ok (.aload_n 0, 1) := by decide +kernel
theorem d_Md_leave_32 : decode b_Md_leave 32 = .ok (.getfield 173, 3) := by decide +kernel
theorem d_Md_leave_35 : decode b_Md_leave 35 = .ok (.ifCond .eq 17, 3) := by decide +kernel
theorem d_Md_leave_38 : decode b_Md_leave 38 = .ok (.aload_n 0, 1) := by decide +kernel
theorem d_Md_leave_39 : decode b_Md_leave 39 = .ok (.getfield 32, 3) := by decide +kernel
theorem d_Md_leave_42 : decode b_Md_leave 42 = .ok (.iconst 0, 1) := by decide +kernel
theorem d_Md_leave_43 : decode b_Md_leave 43 = .ok (.laload, 1) := by decide +kernel
theorem d_Md_leave_44 : decode b_Md_leave 44 = .ok (.aload_n 0, 1) := by decide +kernel
theorem d_Md_leave_45 : decode b_Md_leave 45 = .ok (.getfield 180, 3) := by decide +kernel
theorem d_Md_leave_48 : decode b_Md_leave 48 = .ok (.lcmp, 1) := by decide +kernel
theorem d_Md_leave_49 : decode b_Md_leave 49 = .ok (.ifCond .le 13, 3) := by decide +kernel
theorem d_Md_leave_52 : decode b_Md_leave 52 = .ok (.aload_n 0, 1) := by decide +kernel
theorem d_Md_leave_53 : decode b_Md_leave 53 = .ok (.aload_n 0, 1) := by decide +kernel
theorem d_Md_leave_54 : decode b_Md_leave 54 = .ok (.getfield 32, 3) := by decide +kernel
theorem d_Md_leave_57 : decode b_Md_leave 57 = .ok (.iconst 0, 1) := by decide +kernel
theorem d_Md_leave_58 : decode b_Md_leave 58 = .ok (.laload, 1) := by decide +kernel
theorem d_Md_leave_59 : decode b_Md_leave 59 = .ok (.putfield 180, 3) := by decide +kernel
theorem d_Md_leave_62 : decode b_Md_leave 62 = .ok (.aload_n 0, 1) := by decide +kernel
theorem d_Md_leave_63 : decode b_Md_leave 63 = .ok (.iconst 1, 1) := by decide +kernel
theorem d_Md_leave_64 : decode b_Md_leave 64 = .ok (.putfield 173, 3) := by decide +kernel
theorem d_Md_leave_67 : decode b_Md_leave 67 = .ok (.return_, 1) := by decide +kernel
theorem d_Md_goOn_0 : decode b_Md_goOn 0 = .ok (.aload_n 0, 1) := by decide +kernel
theorem d_Md_goOn_1 : decode b_Md_goOn 1 = .ok (.getfield 7, 3) := by decide +kernel
theorem d_Md_goOn_4 : decode b_Md_goOn 4 = .ok (.iload_n 1, 1) := by decide +kernel
theorem d_Md_goOn_5 : decode b_Md_goOn 5 = .ok (.iaload, 1) := by decide +kernel
theorem d_Md_goOn_6 : decode b_Md_goOn 6 = .ok (.istore_n 2, 1) := by decide +kernel
theorem d_Md_goOn_7 : decode b_Md_goOn 7 = .ok (.aload_n 0, 1) := by decide +kernel
theorem d_Md_goOn_8 : decode b_Md_goOn 8 = .ok (.getfield 13, 3) := by decide +kernel
theorem d_Md_goOn_11 : decode b_Md_goOn 11 = .ok (.iload_n 1, 1) := by decide +kernel
theorem d_Md_goOn_12 : decode b_Md_goOn 12 = .ok (.iaload, 1) := by decide +kernel
theorem d_Md_goOn_13 : decode b_Md_goOn 13 = .ok (.istore_n 3, 1) := by decide +kernel
theorem d_Md_goOn_14 : decode b_Md_goOn 14 = .ok (.aload_n 0, 1) := by decide +kernel
theorem d_Md_goOn_15 : decode b_Md_goOn 15 = .ok (.iload_n 1, 1) := by decide +kernel
theorem d_Md_goOn_16 : decode b_Md_goOn 16 = .ok (.iconst 1, 1) := by decide +kernel
theorem d_Md_goOn_17 : decode b_Md_goOn 17 = .ok (.iadd, 1) := by decide +kernel
theorem d_Md_goOn_18 : decode b_Md_goOn 18 = .ok (.putfield 140, 3) := by decide +kernel
theorem d_Md_goOn_21 : decode b_Md_goOn 21 = .ok (.iload_n 2, 1) := by decide +kernel
theorem d_Md_goOn_22 : decode b_Md_goOn 22 = .ok (.ifCond .ne 23, 3) := by decide +kernel
theorem d_Md_goOn_25 : decode b_Md_goOn 25 = .ok (.aload_n 0, 1) := by decide +kernel
theorem d_Md_goOn_26 : decode b_Md_goOn 26 = .ok (.iload_n 3, 1) := by decide +kernel
theorem d_Md_goOn_27 : decode b_Md_goOn 27 = .ok (.iconst 1, 1) := by decide +kernel
theorem d_Md_goOn_28 : decode b_Md_goOn 28 = .ok (.aload_n 0, 1) := by decide +kernel
theorem d_Md_goOn_29 : decode b_Md_goOn 29 = .ok (.getfield 19, 3) := by decide +kernel
theorem d_Md_goOn_32 : decode b_Md_goOn 32 = .ok (.iload_n 1, 1) := by decide +kernel
theorem d_Md_goOn_33 : decode b_Md_goOn 33 = .ok (.iaload, 1) := by decide +kernel
theorem d_Md_goOn_34 : decode b_Md_goOn 34 = .ok (.i2l, 1) := by decide +kernel
theorem d_Md_goOn_35 : decode b_Md_goOn 35 = .ok (.aload_n 0, 1) := by decide +kernel
theorem d_Md_goOn_36 : decode b_Md_goOn 36 = .ok (.getfield 19, 3) := by decide +kernel
theorem d_Md_goOn_39 : decode b_Md_goOn 39 = .ok (.iload_n 1, 1) := by decide +kernel
theorem d_Md_goOn_40 : decode b_Md_goOn 40 = .ok (.iaload, 1) := by decide +kernel
theorem d_Md_goOn_41 : decode b_Md_goOn 41 = .ok (.i2l, 1) := by decide +kernel
theorem d_Md_goOn_42 : decode b_Md_goOn 42 = .ok (.invokevirtual 83, 3) := by decide +kernel
theorem d_Md_goOn_45 : decode b_Md_goOn 45 = .ok (.iload_n 2, 1) := by decide +kernel
theorem d_Md_goOn_46 : decode b_Md_goOn 46 = .ok (.iconst 1, 1) := by decide +kernel
theorem d_Md_goOn_47 : decode b_Md_goOn 47 = .ok (.if_icmp .ne 14, 3) := by decide +kernel
theorem d_Md_goOn_50 : decode b_Md_goOn 50 = .ok (.aload_n 0, 1) := by decide +kernel
theorem d_Md_goOn_51 : decode b_Md_goOn 51 = .ok (.aload_n 0, 1) := by decide +kernel
theorem d_Md_goOn_52 : decode b_Md_goOn 52 = .ok (.getfield 16, 3) := by decide +kernel
theorem d_Md_goOn_55 : decode b_Md_goOn 55 = .ok (.iload_n 1, 1) := by decide +kernel
theorem d_Md_goOn_56 : decode b_Md_goOn 56 = .ok (.iaload, 1) := by decide +kernel
theorem d_Md_goOn_57 : decode b_Md_goOn 57 = .ok (.iload_n 3, 1) := by decide +kernel
theorem d_Md_goOn_58 : decode b_Md_goOn 58 = .ok (.invokevirtual 161, 3) := by decide +kernel
theorem d_Md_goOn_61 : decode b_Md_goOn 61 = .ok (.iload_n 2, 1) := by decide +kernel
theorem d_Md_goOn_62 : decode b_Md_goOn 62 = .ok (.iconst 2, 1) := by decide +kernel
theorem d_Md_goOn_63 : decode b_Md_goOn 63 = .ok (.if_icmp .ne 22, 3) := by decide +kernel
theorem d_Md_goOn_66 : decode b_Md_goOn 66 = .ok (.aload_n 0, 1) := by decide +kernel
theorem d_Md_goOn_67 : decode b_Md_goOn 67 = .ok (.iload_n 3, 1) := by decide +kernel
theorem d_Md_goOn_68 : decode b_Md_goOn 68 = .ok (.aload_n 0, 1) := by decide +kernel
theorem d_Md_goOn_69 : decode b_Md_goOn 69 = .ok (.getfield 19, 3) := by decide +kernel
theorem d_Md_goOn_72 : decode b_Md_goOn 72 = .ok (.iload_n 1, 1) := by decide +kernel
theorem d_Md_goOn_73 : decode b_Md_goOn 73 = .ok (.iaload, 1) := by decide +kernel
theorem d_Md_goOn_74 : decode b_Md_goOn 74 = .ok (.i2l, 1) := by decide +kernel
theorem d_Md_goOn_75 : decode b_Md_goOn 75 = .ok (.aload_n 0, 1) := by decide +kernel
theorem d_Md_goOn_76 : decode b_Md_goOn 76 = .ok (.getfield 19, 3) := by decide +kernel
theorem d_Md_goOn_79 : decode b_Md_goOn 79 = .ok (.iload_n 1, 1) := by decide +kernel
theorem d_Md_goOn_80 : decode b_Md_goOn 80 = .ok (.iaload, 1) := by decide +kernel
theorem d_Md_goOn_81 : decode b_Md_goOn 81 = .ok (.i2l, 1) := by decide +kernel
theorem d_Md_goOn_82 : decode b_Md_goOn 82 = .ok (.invokevirtual 183, 3) := by decide +kernel
theorem d_Md_goOn_85 : decode b_Md_goOn 85 = .ok (.iload_n 2, 1) := by decide +kernel
theorem d_Md_goOn_86 : decode b_Md_goOn 86 = .ok (.iconst 3, 1) := by decide +kernel
theorem d_Md_goOn_87 : decode b_Md_goOn 87 = .ok (.if_icmp .ne 30, 3) := by decide +kernel
theorem d_Md_goOn_90 : decode b_Md_goOn 90 = .ok (.aload_n 0, 1) := by decide +kernel
theorem d_Md_goOn_91 : decode b_Md_goOn 91 = .ok (.iload_n 3, 1) := by decide +kernel
theorem d_Md_goOn_92 : decode b_Md_goOn 92 = .ok (.aload_n 0, 1) := by decide +kernel
theorem d_Md_goOn_93 : decode b_Md_goOn 93 = .ok (.getfield 28, 3) := by decide +kernel
theorem d_Md_goOn_96 : decode b_Md_goOn 96 = .ok (.aload_n 0, 1) := by decide +kernel
theorem d_Md_goOn_97 : decode b_Md_goOn 97 = .ok (.getfield 16, 3) := by decide +kernel
theorem d_Md_goOn_100 : decode b_Md_goOn 100 = .ok (.iload_n 1, 1) := by decide +kernel
theorem d_Md_goOn_101 : decode b_Md_goOn 101 = .ok (.iaload, 1) := by decide +kernel
theorem d_Md_goOn_102 : decode b_Md_goOn 102 = .ok (.laload, 1) := by decide +kernel
theorem d_Md_goOn_103 : decode b_Md_goOn 103 = .ok (.aload_n 0, 1) := by decide +kernel
theorem d_Md_goOn_104 : decode b_Md_goOn 104 = .ok (.getfield 32, 3) := by decide +kernel
theorem d_Md_goOn_107 : decode b_Md_goOn 107 = .ok (.aload_n 0, 1) := by decide +kernel
theorem d_Md_goOn_108 : decode b_Md_goOn 108 = .ok (.getfield 16, 3) := by decide +kernel
theorem d_Md_goOn_111 : decode b_Md_goOn 111 = .ok (.iload_n 1, 1) := by decide +kernel
theorem d_Md_goOn_112 : decode b_Md_goOn 112 = .ok (.iaload, 1) := by decide +kernel
theorem d_Md_goOn_113 : decode b_Md_goOn 113 = .ok (.laload, 1) := by decide +kernel
theorem d_Md_goOn_114 : decode b_Md_goOn 114 = .ok (.invokevirtual 183, 3) := by decide +kernel
theorem d_Md_goOn_117 : decode b_Md_goOn 117 = .ok (.iload_n 2, 1) := by decide +kernel
theorem d_Md_goOn_118 : decode b_Md_goOn 118 = .ok (.iconst 4, 1) := by decide +kernel
theorem d_Md_goOn_119 : decode b_Md_goOn 119 = .ok (.if_icmp .ne 14, 3) := by decide +kernel
theorem d_Md_goOn_122 : decode b_Md_goOn 122 = .ok (.aload_n 0, 1) := by decide +kernel
theorem d_Md_goOn_123 : decode b_Md_goOn 123 = .ok (.iload_n 3, 1) := by decide +kernel
theorem d_Md_goOn_124 : decode b_Md_goOn 124 = .ok (.aload_n 0, 1) := by decide +kernel
theorem d_Md_goOn_125 : decode b_Md_goOn 125 = .ok (.getfield 16, 3) := by decide +kernel
theorem d_Md_goOn_128 : decode b_Md_goOn 128 = .ok (.iload_n 1, 1) := by decide +kernel
theorem d_Md_goOn_129 : decode b_Md_goOn 129 = .ok (.iaload, 1) := by decide +kernel
theorem d_Md_goOn_130 : decode b_Md_goOn 130 = .ok (.invokevirtual 186, 3) := by decide +kernel
theorem d_Md_goOn_133 : decode b_Md_goOn 133 = .ok (.iload_n 2, 1) := by decide +kernel
theorem d_Md_goOn_134 : decode b_Md_goOn 134 = .ok (.iconst 4, 1) := by decide +kernel
theorem d_Md_goOn_135 : decode b_Md_goOn 135 = .ok (.if_icmp .le 22, 3) := by decide +kernel
theorem d_Md_goOn_138 : decode b_Md_goOn 138 = .ok (.iload_n 2, 1) := by decide +kernel
theorem d_Md_goOn_139 : decode b_Md_goOn 139 = .ok (.bipush 10, 2) := by decide +kernel
theorem d_Md_goOn_141 : decode b_Md_goOn 141 = .ok (.if_icmp .ge 16, 3) := by decide +kernel
theorem d_Md_goOn_144 : decode b_Md_goOn 144 = .ok (.aload_n 0, 1) := by decide +kernel
theorem d_Md_goOn_145 : decode b_Md_goOn 145 = .ok (.iload_n 2, 1) := by decide +kernel
theorem d_Md_goOn_146 : decode b_Md_goOn 146 = .ok (.iload_n 3, 1) := by decide +kernel
theorem d_Md_goOn_147 : decode b_Md_goOn 147 = .ok (.aload_n 0, 1) := by decide +kernel
theorem d_Md_goOn_148 : decode b_Md_goOn 148 = .ok (.getfield 19, 3) := by decide +kernel
theorem d_Md_goOn_151 : decode b_Md_goOn 151 = .ok (.iload_n 1, 1) := by decide +kernel
theorem d_Md_goOn_152 : decode b_Md_goOn 152 = .ok (.iaload, 1) := by decide +kernel
theorem d_Md_goOn_153 : decode b_Md_goOn 153 = .ok (.i2l, 1) := by decide +kernel
theorem d_Md_goOn_154 : decode b_Md_goOn 154 = .ok (.invokevirtual 189, 3) := by decide +kernel
theorem d_Md_goOn_157 : decode b_Md_goOn 157 = .ok (.iload_n 2, 1) := by decide +kernel
theorem d_Md_goOn_158 : decode b_Md_goOn 158 = .ok (.bipush 9, 2) := by decide +kernel
theorem d_Md_goOn_160 : decode b_Md_goOn 160 = .ok (.if_icmp .le 14, 3) := by decide +kernel
theorem d_Md_goOn_163 : decode b_Md_goOn 163 = .ok (.iload_n 2, 1) := by decide +kernel
theorem d_Md_goOn_164 : decode b_Md_goOn 164 = .ok (.bipush 13, 2) := by decide +kernel
theorem d_Md_goOn_166 : decode b_Md_goOn 166 = .ok (.if_icmp .ge 8, 3) := by decide +kernel
theorem d_Md_goOn_169 : decode b_Md_goOn 169 = .ok (.aload_n 0, 1) := by decide +kernel
theorem d_Md_goOn_170 : decode b_Md_goOn 170 = .ok (.iload_n 1, 1) := by decide +kernel
theorem d_Md_goOn_171 : decode b_Md_goOn 171 = .ok (.invokevirtual 193, 3) := by decide +kernel
theorem d_Md_goOn_174 : decode b_Md_goOn 174 = .ok (.iload_n 2, 1) := by decide +kernel
theorem d_Md_goOn_175 : decode b_Md_goOn 175 = .ok (.bipush 13, 2) := by decide +kernel
theorem d_Md_goOn_177 : decode b_Md_goOn 177 = .ok (.if_icmp .ne 13, 3) := by decide +kernel
theorem d_Md_goOn_180 : decode b_Md_goOn 180 = .ok (.aload_n 0, 1) := by decide +kernel
theorem d_Md_goOn_181 : decode b_Md_goOn 181 = .ok (.aload_n 0, 1) := by decide +kernel
theorem d_Md_goOn_182 : decode b_Md_goOn 182 = .ok (.getfield 22, 3) := by decide +kernel
theorem d_Md_goOn_185 : decode b_Md_goOn 185 = .ok (.iload_n 1, 1) := by decide +kernel
theorem d_Md_goOn_186 : decode b_Md_goOn 186 = .ok (.iaload, 1) := by decide +kernel
theorem d_Md_goOn_187 : decode b_Md_goOn 187 = .ok (.putfield 140, 3) := by decide +kernel
theorem d_Md_goOn_190 : decode b_Md_goOn 190 = .ok (.iload_n 2, 1) := by decide +kernel
theorem d_Md_goOn_191 : decode b_Md_goOn 191 = .ok (.bipush 14, 2) := by decide +kernel
theorem d_Md_goOn_193 : decode b_Md_goOn 193 = .ok (.if_icmp .ne 8, 3) := by decide +kernel
theorem d_Md_goOn_196 : decode b_Md_goOn 196 = .ok (.aload_n 0, 1) := by decide +kernel
theorem d_Md_goOn_197 : decode b_Md_goOn 197 = .ok (.iload_n 1, 1) := by decide +kernel
theorem d_Md_goOn_198 : decode b_Md_goOn 198 = .ok (.invokevirtual 196, 3) := by decide +kernel
theorem d_Md_goOn_201 : decode b_Md_goOn 201 = .ok (.iload_n 2, 1) := by decide +kernel
theorem d_Md_goOn_202 : decode b_Md_goOn 202 = .ok (.bipush 15, 2) := by decide +kernel
theorem d_Md_goOn_204 : decode b_Md_goOn 204 = .ok (.if_icmp .ne 8, 3) := by decide +kernel
theorem d_Md_goOn_207 : decode b_Md_goOn 207 = .ok (.aload_n 0, 1) := by decide +kernel
theorem d_Md_goOn_208 : decode b_Md_goOn 208 = .ok (.iload_n 1, 1) := by decide +kernel
theorem d_Md_goOn_209 : decode b_Md_goOn 209 = .ok (.invokevirtual 199, 3) := by decide +kernel
theorem d_Md_goOn_212 : decode b_Md_goOn 212 = .ok (.iload_n 2, 1) := by decide +kernel
theorem d_Md_goOn_213 : decode b_Md_goOn 213 = .ok (.bipush 16, 2) := by decide +kernel
theorem d_Md_goOn_215 : decode b_Md_goOn 215 = .ok (.if_icmp .ne 13, 3) := by decide +kernel
theorem d_Md_goOn_218 : decode b_Md_goOn 218 = .ok (.aload_n 0, 1) := by decide +kernel
theorem d_Md_goOn_219 : decode b_Md_goOn 219 = .ok (.aload_n 0, 1) := by decide +kernel
theorem d_Md_goOn_220 : decode b_Md_goOn 220 = .ok (.getfield 19, 3) := by decide +kernel
theorem d_Md_goOn_223 : decode b_Md_goOn 223 = .ok (.iload_n 1, 1) := by decide +kernel
theorem d_Md_goOn_224 : decode b_Md_goOn 224 = .ok (.iaload, 1) := by decide +kernel
theorem d_Md_goOn_225 : decode b_Md_goOn 225 = .ok (.invokevirtual 202, 3) := by decide +kernel
theorem d_Md_goOn_228 : decode b_Md_goOn 228 = .ok (.iload_n 2, 1) := by decide +kernel
theorem d_Md_goOn_229 : decode b_Md_goOn 229 = .ok (.bipush 17, 2) := by decide +kernel
theorem d_Md_goOn_231 : decode b_Md_goOn 231 = .ok (.if_icmp .eq 5, 3) := by decide +kernel
theorem d_Md_goOn_234 : decode b_Md_goOn 234 = .ok (.iconst 1, 1) := by decide +kernel
theorem d_Md_goOn_235 : decode b_Md_goOn 235 = .ok (.ireturn, 1) := by decide +kernel
theorem d_Md_goOn_236 : decode b_Md_goOn 236 = .ok (.aload_n 0, 1) := by decide +kernel
theorem d_Md_goOn_237 : decode b_Md_goOn 237 = .ok (.invokevirtual 205, 3) := by decide +kernel
theorem d_Md_goOn_240 : decode b_Md_goOn 240 = .ok (.aload_n 0, 1) := by decide +kernel
theorem d_Md_goOn_241 : decode b_Md_goOn 241 = .ok (.getfield 137, 3) := by decide +kernel
theorem d_Md_goOn_244 : decode b_Md_goOn 244 = .ok (.ifCond .ne 5, 3) := by decide +kernel
theorem d_Md_goOn_247 : decode b_Md_goOn 247 = .ok (.iconst 0, 1) := by decide +kernel
theorem d_Md_goOn_248 : decode b_Md_goOn 248 = .ok (.ireturn, 1) := by decide +kernel
theorem d_Md_goOn_249 : decode b_Md_goOn 249 = .ok (.aload_n 0, 1) := by decide +kernel
theorem d_Md_goOn_250 : decode b_Md_goOn 250 = .ok (.invokevirtual 170, 3) := by decide +kernel
theorem d_Md_goOn_253 : decode b_Md_goOn 253 = .ok (.iconst 1, 1) := by decide +kernel
theorem d_Md_goOn_254 : decode b_Md_goOn 254 = .ok (.ireturn, 1) := by decide +kernel
theorem d_Md_check_0 : decode b_Md_check 0 = .ok (.aload_n 0, 1) := by decide +kernel
theorem d_Md_check_1 : decode b_Md_check 1 = .ok (.iconst 0, 1) := by decide +kernel
theorem d_Md_check_2 : decode b_Md_check 2 = .ok (.putfield 50, 3) := by decide +kernel
theorem d_Md_check_5 : decode b_Md_check 5 = .ok (.aload_n 0, 1) := by decide +kernel
theorem d_Md_check_6 : decode b_Md_check 6 = .ok (.iconst 0, 1) := by decide +kernel
theorem d_Md_check_7 : decode b_Md_check 7 = .ok (.putfield 64, 3) := by decide +kernel
theorem d_Md_check_10 : decode b_Md_check 10 = .ok (.aload_n 0, 1) := by decide +kernel
theorem d_Md_check_11 : decode b_Md_check 11 = .ok (.iconst 0, 1) := by decide +kernel
theorem d_Md_check_12 : decode b_Md_check 12 = .ok (.putfield 173, 3) := by decide +kernel
theorem d_Md_check_15 : decode b_Md_check 15 = .ok (.aload_n 0, 1) := by decide +kernel
theorem d_Md_check_16 : decode b_Md_check 16 = .ok (.iconst 0, 1) := by decide +kernel
theorem d_Md_check_17 : decode b_Md_check 17 = .ok (.putfield 208, 3) := by decide +kernel
theorem d_Md_check_20 : decode b_Md_check 20 = .ok (.aload_n 0, 1) := by decide +kernel
theorem d_Md_check_21 : decode b_Md_check 21 = .ok (.iconst 0, 1) := by decide +kernel
theorem d_Md_check_22 : decode b_Md_check 22 = .ok (.putfield 137, 3) := by decide +kernel
theorem d_Md_check_25 : decode b_Md_check 25 = .ok (.aload_n 0, 1) := by decide +kernel
theorem d_Md_check_26 : decode b_Md_check 26 = .ok (.iconst 0, 1) := by decide +kernel
theorem d_Md_check_27 : decode b_Md_check 27 = .ok (.putfield 140, 3) := by decide +kernel
theorem d_Md_check_30 : decode b_Md_check 30 = .ok (.iconst 0, 1) := by decide +kernel
theorem d_Md_check_31 : decode b_Md_check 31 = .ok (.istore_n 1, 1) := by decide +kernel
theorem d_Md_check_32 : decode b_Md_check 32 = .ok (.iload_n 1, 1) := by decide +kernel
theorem d_Md_check_33 : decode b_Md_check 33 = .ok (.bipush 12, 2) := by decide +kernel
theorem d_Md_check_35 : decode b_Md_check 35 = .ok (.if_icmp .ge 17, 3) := by decide +kernel
theorem d_Md_check_38 : decode b_Md_check 38 = .ok (.aload_n 0, 1) := by decide +kernel
theorem d_Md_check_39 : decode b_Md_check 39 = .ok (.iload_n 1, 1) := by decide +kernel
theorem d_Md_check_40 : decode b_Md_check 40 = .ok (.iconst 0, 1) := by decide +kernel
theorem d_Md_check_41 : decode b_Md_check 41 = .ok (.lconst 0, 1) := by decide +kernel
theorem d_Md_check_42 : decode b_Md_check 42 = .ok (.lconst 0, 1) := by decide +kernel
theorem d_Md_check_43 : decode b_Md_check 43 = .ok (.invokevirtual 83, 3) := by decide +kernel
theorem d_Md_check_46 : decode b_Md_check 46 = .ok (.iinc 1 1, 3) := by decide +kernel
theorem d_Md_check_49 : decode b_Md_check 49 = .ok (.goto (-17), 3) := by decide +kernel
theorem d_Md_check_52 : decode b_Md_check 52 = .ok (.aload_n 0, 1) := by decide +kernel
theorem d_Md_check_53 : decode b_Md_check 53 = .ok (.iconst 1, 1) := by decide +kernel
theorem d_Md_check_54 : decode b_Md_check 54 = .ok (.invokevirtual 143, 3) := by decide +kernel
theorem d_Md_check_57 : decode b_Md_check 57 = .ok (.aload_n 0, 1) := by decide +kernel
theorem d_Md_check_58 : decode b_Md_check 58 = .ok (.iconst 2, 1) := by decide +kernel
theorem d_Md_check_59 : decode b_Md_check 59 = .ok (.iconst 2, 1) := by decide +kernel
theorem d_Md_check_60 : decode b_Md_check 60 = .ok (.lconst 0, 1) := by decide +kernel
theorem d_Md_check_61 : decode b_Md_check 61 = .ok (.lconst 0, 1) := by decide +kernel
theorem d_Md_check_62 : decode b_Md_check 62 = .ok (.invokevirtual 83, 3) := by decide +kernel
theorem d_Md_check_65 : decode b_Md_check 65 = .ok (.iconst 1, 1) := by decide +kernel
theorem d_Md_check_66 : decode b_Md_check 66 = .ok (.istore_n 1, 1) := by decide +kernel
theorem d_Md_check_67 : decode b_Md_check 67 = .ok (.iload_n 1, 1) := by decide +kernel
theorem d_Md_check_68 : decode b_Md_check 68 = .ok (.ifCond .eq 75, 3) := by decide +kernel
theorem d_Md_check_71 : decode b_Md_check 71 = .ok (.aload_n 0, 1) := by decide +kernel
theorem d_Md_check_72 : decode b_Md_check 72 = .ok (.getfield 208, 3) := by decide +kernel
theorem d_Md_check_75 : decode b_Md_check 75 = .ok (.sipush 300, 3) := by decide +kernel
theorem d_Md_check_78 : decode b_Md_check 78 = .ok (.if_icmp .ne 10, 3) := by decide +kernel
theorem d_Md_check_81 : decode b_Md_check 81 = .ok (.aload_n 0, 1) := by decide +kernel
theorem d_Md_check_82 : decode b_Md_check 82 = .ok (.iconst 2, 1) := by decide +kernel
theorem d_Md_check_83 : decode b_Md_check 83 = .ok (.putfield 50, 3) := by decide +kernel
theorem d_Md_check_86 : decode b_Md_check 86 = .ok (.iconst 0, 1) := by decide +kernel
theorem d_Md_check_87 : decode b_Md_check 87 = .ok (.ireturn, 1) := by decide +kernel
theorem d_Md_check_88 : decode b_Md_check 88 = .ok (.aload_n 0, 1) := by decide +kernel
theorem d_Md_check_89 : decode b_Md_check 89 = .ok (.dup, 1) := by decide +kernel
theorem d_Md_check_90 : decode b_Md_check 90 = .ok (.getfield 208, 3) := by decide +kernel
theorem d_Md_check_93 : decode b_Md_check 93 = .ok (.iconst 1, 1) := by decide +kernel
theorem d_Md_check_94 : decode b_Md_check 94 = .ok (.iadd, 1) := by decide +kernel
theorem d_Md_check_95 : decode b_Md_check 95 = .ok (.putfield 208, 3) := by decide +kernel
theorem d_Md_check_98 : decode b_Md_check 98 = .ok (.aload_n 0, 1) := by decide +kernel
theorem d_Md_check_99 : decode b_Md_check 99 = .ok (.aload_n 0, 1) := by decide +kernel
theorem d_Md_check_100 : decode b_Md_check 100 = .ok (.getfield 140, 3) := by decide +kernel
theorem d_Md_check_103 : decode b_Md_check 103 = .ok (.invokevirtual 211, 3) := by decide +kernel
theorem d_Md_check_106 : decode b_Md_check 106 = .ok (.istore_n 2, 1) := by decide +kernel
theorem d_Md_check_107 : decode b_Md_check 107 = .ok (.iload_n 2, 1) := by decide +kernel
theorem d_Md_check_108 : decode b_Md_check 108 = .ok (.ifCond .le 23, 3) := by decide +kernel
theorem d_Md_check_111 : decode b_Md_check 111 = .ok (.aload_n 0, 1) := by decide +kernel
theorem d_Md_check_112 : decode b_Md_check 112 = .ok (.iload_n 2, 1) := by decide +kernel
theorem d_Md_check_113 : decode b_Md_check 113 = .ok (.putfield 215, 3) := by decide +kernel
theorem d_Md_check_116 : decode b_Md_check 116 = .ok (.aload_n 0, 1) := by decide +kernel
theorem d_Md_check_117 : decode b_Md_check 117 = .ok (.aload_n 0, 1) := by decide +kernel
theorem d_Md_check_118 : decode b_Md_check 118 = .ok (.getfield 140, 3) := by decide +kernel
theorem d_Md_check_121 : decode b_Md_check 121 = .ok (.putfield 218, 3) := by decide +kernel
theorem d_Md_check_124 : decode b_Md_check 124 = .ok (.aload_n 0, 1) := by decide +kernel
theorem d_Md_check_125 : decode b_Md_check 125 = .ok (.iconst 1, 1) := by decide +kernel
theorem d_Md_check_126 : decode b_Md_check 126 = .ok (.putfield 50, 3) := by decide +kernel
theorem d_Md_check_129 : decode b_Md_check 129 = .ok (.iconst 0, 1) := by decide +kernel
theorem d_Md_check_130 : decode b_Md_check 130 = .ok (.ireturn, 1) := by decide +kernel
theorem d_Md_check_131 : decode b_Md_check 131 = .ok (.aload_n 0, 1) := by decide +kernel
theorem d_Md_check_132 : decode b_Md_check 132 = .ok (.aload_n 0, 1) := by decide +kernel
theorem d_Md_check_133 : decode b_Md_check 133 = .ok (.getfield 140, 3) := by decide +kernel
theorem d_Md_check_136 : decode b_Md_check 136 = .ok (.invokevirtual 221, 3) := by decide +kernel
theorem d_Md_check_139 : decode b_Md_check 139 = .ok (.istore_n 1, 1) := by decide +kernel
theorem d_Md_check_140 : decode b_Md_check 140 = .ok (.goto (-73), 3) := by decide +kernel
theorem d_Md_check_143 : decode b_Md_check 143 = .ok (.aload_n 0, 1) := by decide +kernel
theorem d_Md_check_144 : decode b_Md_check 144 = .ok (.iconst 1, 1) := by decide +kernel
theorem d_Md_check_145 : decode b_Md_check 145 = .ok (.putfield 64, 3) := by decide +kernel
theorem d_Md_check_148 : decode b_Md_check 148 = .ok (.aload_n 0, 1) := by decide +kernel
theorem d_Md_check_149 : decode b_Md_check 149 = .ok (.getfield 208, 3) := by decide +kernel
theorem d_Md_check_152 : decode b_Md_check 152 = .ok (.ireturn, 1) := by decide +kernel
theorem d_Md_above_0 : decode b_Md_above 0 = .ok (.aload_n 0, 1) := by decide +kernel
theorem d_Md_above_1 : decode b_Md_above 1 = .ok (.getfield 7, 3) := by decide +kernel
theorem d_Md_above_4 : decode b_Md_above 4 = .ok (.iload_n 1, 1) := by decide +kernel
theorem d_Md_above_5 : decode b_Md_above 5 = .ok (.iaload, 1) := by decide +kernel
theorem d_Md_above_6 : decode b_Md_above 6 = .ok (.istore_n 2, 1) := by decide +kernel
theorem d_Md_above_7 : decode b_Md_above 7 = .ok (.aload_n 0, 1) := by decide +kernel
theorem d_Md_above_8 : decode b_Md_above 8 = .ok (.getfield 28, 3) := by decide +kernel
theorem d_Md_above_11 : decode b_Md_above 11 = .ok (.aload_n 0, 1) := by decide +kernel
theorem d_Md_above_12 : decode b_Md_above 12 = .ok (.getfield 13, 3) := by decide +kernel
theorem d_Md_above_15 : decode b_Md_above 15 = .ok (.iload_n 1, 1) := by decide +kernel
theorem d_Md_above_16 : decode b_Md_above 16 = .ok (.iaload, 1) := by decide +kernel
theorem d_Md_above_17 : decode b_Md_above 17 = .ok (.laload, 1) := by decide +kernel
theorem d_Md_above_18 : decode b_Md_above 18 = .ok (.lstore_n 3, 1) := by decide +kernel
theorem d_Md_above_19 : decode b_Md_above 19 = .ok (.iload_n 2, 1) := by decide +kernel
theorem d_Md_above_20 : decode b_Md_above 20 = .ok (.bipush 10, 2) := by decide +kernel
theorem d_Md_above_22 : decode b_Md_above 22 = .ok (.if_icmp .ne 36, 3) := by decide +kernel
theorem d_Md_above_25 : decode b_Md_above 25 = .ok (.aload_n 0, 1) := by decide +kernel
theorem d_Md_above_26 : decode b_Md_above 26 = .ok (.getfield 25, 3) := by decide +kernel
theorem d_Md_above_29 : decode b_Md_above 29 = .ok (.aload_n 0, 1) := by decide +kernel
theorem d_Md_above_30 : decode b_Md_above 30 = .ok (.getfield 13, 3) := by decide +kernel
theorem d_Md_above_33 : decode b_Md_above 33 = .ok (.iload_n 1, 1) := by decide +kernel
theorem d_Md_above_34 : decode b_Md_above 34 = .ok (.iaload, 1) := by decide +kernel
theorem d_Md_above_35 : decode b_Md_above 35 = .ok (.iaload, 1) := by decide +kernel
theorem d_Md_above_36 : decode b_Md_above 36 = .ok (.iconst 1, 1) := by decide +kernel
theorem d_Md_above_37 : decode b_Md_above 37 = .ok (.if_icmp .ne 19, 3) := by decide +kernel
theorem d_Md_above_40 : decode b_Md_above 40 = .ok (.lload_n 3, 1) := by decide +kernel
theorem d_Md_above_41 : decode b_Md_above 41 = .ok (.aload_n 0, 1) := by decide +kernel
theorem d_Md_above_42 : decode b_Md_above 42 = .ok (.getfield 19, 3) := by decide +kernel
theorem d_Md_above_45 : decode b_Md_above 45 = .ok (.iload_n 1, 1) := by decide +kernel
theorem d_Md_above_46 : decode b_Md_above 46 = .ok (.iaload, 1) := by decide +kernel
theorem d_Md_above_47 : decode b_Md_above 47 = .ok (.i2l, 1) := by decide +kernel
theorem d_Md_above_48 : decode b_Md_above 48 = .ok (.lcmp, 1) := by decide +kernel
theorem d_Md_above_49 : decode b_Md_above 49 = .ok (.ifCond .ne 7, 3) := by decide +kernel
theorem d_Md_above_52 : decode b_Md_above 52 = .ok (.iconst 1, 1) := by decide +kernel
theorem d_Md_above_53 : decode b_Md_above 53 = .ok (.goto 4, 3) := by decide +kernel
theorem d_Md_above_56 : decode b_Md_above 56 = .ok (.iconst 0, 1) := by decide +kernel
theorem d_Md_above_57 : decode b_Md_above 57 = .ok (.ireturn, 1) := by decide +kernel
theorem d_Md_above_58 : decode b_Md_above 58 = .ok (.iload_n 2, 1) := by decide +kernel
theorem d_Md_above_59 : decode b_Md_above 59 = .ok (.bipush 11, 2) := by decide +kernel
theorem d_Md_above_61 : decode b_Md_above 61 = .ok (.if_icmp .ne 23, 3) := by decide +kernel
theorem d_Md_above_64 : decode b_Md_above 64 = .ok (.lload_n 3, 1) := by decide +kernel
theorem d_Md_above_65 : decode b_Md_above 65 = .ok (.aload_n 0, 1) := by decide +kernel
theorem d_Md_above_66 : decode b_Md_above 66 = .ok (.getfield 19, 3) := by decide +kernel
theorem d_Md_above_69 : decode b_Md_above 69 = .ok (.iload_n 1, 1) := by decide +kernel
theorem d_Md_above_70 : decode b_Md_above 70 = .ok (.iaload, 1) := by decide +kernel
theorem d_Md_above_71 : decode b_Md_above 71 = .ok (.i2l, 1) := by decide +kernel
theorem d_Md_above_72 : decode b_Md_above 72 = .ok (.lcmp, 1) := by decide +kernel
theorem d_Md_above_73 : decode b_Md_above 73 = .ok (.ifCond .le 7, 3) := by decide +kernel
theorem d_Md_above_76 : decode b_Md_above 76 = .ok (.iconst 1, 1) := by decide +kernel
theorem d_Md_above_77 : decode b_Md_above 77 = .ok (.goto 28, 3) := by decide +kernel
theorem d_Md_above_80 : decode b_Md_above 80 = .ok (.iconst 0, 1) := by decide +kernel
theorem d_Md_above_81 : decode b_Md_above 81 = .ok (.goto 24, 3) := by decide +kernel
theorem d_Md_above_84 : decode b_Md_above 84 = .ok (.lload_n 3, 1) := by decide +kernel
theorem d_Md_above_85 : decode b_Md_above 85 = .ok (.aload_n 0, 1) := by decide +kernel
theorem d_Md_above_86 : decode b_Md_above 86 = .ok (.getfield 28, 3) := by decide +kernel
theorem d_Md_above_89 : decode b_Md_above 89 = .ok (.aload_n 0, 1) := by decide +kernel
theorem d_Md_above_90 : decode b_Md_above 90 = .ok (.getfield 16, 3) := by decide +kernel
theorem d_Md_above_93 : decode b_Md_above 93 = .ok (.iload_n 1, 1) := by decide +kernel
theorem d_Md_above_94 : decode b_Md_above 94 = .ok (.iaload, 1) := by decide +kernel
theorem d_Md_above_95 : decode b_Md_above 95 = .ok (.laload, 1) := by decide +kernel
theorem d_Md_above_96 : decode b_Md_above 96 = .ok (.lcmp, 1) := by decide +kernel
theorem d_Md_above_97 : decode b_Md_above 97 = .ok (.ifCond .ge 7, 3) := by decide +kernel
theorem d_Md_above_100 : decode b_Md_above 100 = .ok (.iconst 1, 1) := by decide +kernel
theorem d_Md_above_101 : decode b_Md_above 101 = .ok (.goto 4, 3) := by decide +kernel
theorem d_Md_above_104 : decode b_Md_above 104 = .ok (.iconst 0, 1) := by decide +kernel
theorem d_Md_above_105 : decode b_Md_above 105 = .ok (.ireturn, 1) := by decide +kernel
theorem d_Md_compute_0 : decode b_Md_compute 0 = .ok (.aload_n 0, 1) := by decide +kernel
theorem d_Md_compute_1 : decode b_Md_compute 1 = .ok (.getfield 7, 3) := by decide +kernel
theorem d_Md_compute_4 : decode b_Md_compute 4 = .ok (.iload_n 1, 1) := by decide +kernel
theorem d_Md_compute_5 : decode b_Md_compute 5 = .ok (.iaload, 1) := by decide +kernel
theorem d_Md_compute_6 : decode b_Md_compute 6 = .ok (.istore_n 2, 1) := by decide +kernel
theorem d_Md_compute_7 : decode b_Md_compute 7 = .ok (.aload_n 0, 1) := by decide +kernel
theorem d_Md_compute_8 : decode b_Md_compute 8 = .ok (.getfield 13, 3) := by decide +kernel
theorem d_Md_compute_11 : decode b_Md_compute 11 = .ok (.iload_n 1, 1) := by decide +kernel
theorem d_Md_compute_12 : decode b_Md_compute 12 = .ok (.iaload, 1) := by decide +kernel
theorem d_Md_compute_13 : decode b_Md_compute 13 = .ok (.istore_n 3, 1) := by decide +kernel
theorem d_Md_compute_14 : decode b_Md_compute 14 = .ok (.aload_n 0, 1) := by decide +kernel
theorem d_Md_compute_15 : decode b_Md_compute 15 = .ok (.getfield 19, 3) := by decide +kernel
theorem d_Md_compute_18 : decode b_Md_compute 18 = .ok (.iload_n 1, 1) := by decide +kernel
theorem d_Md_compute_19 : decode b_Md_compute 19 = .ok (.iaload, 1) := by decide +kernel
theorem d_Md_compute_20 : decode b_Md_compute 20 = .ok (.i2l, 1) := by decide +kernel
theorem d_Md_compute_21 : decode b_Md_compute 21 = .ok (.lstore 4, 2) := by decide +kernel
theorem d_Md_compute_23 : decode b_Md_compute 23 = .ok (.iload_n 2, 1) := by decide +kernel
theorem d_Md_compute_24 : decode b_Md_compute 24 = .ok (.iconst 2, 1) := by decide +kernel
theorem d_Md_compute_25 : decode b_Md_compute 25 = .ok (.if_icmp .ne 14, 3) := by decide +kernel
theorem d_Md_compute_28 : decode b_Md_compute 28 = .ok (.aload_n 0, 1) := by decide +kernel
theorem d_Md_compute_29 : decode b_Md_compute 29 = .ok (.getfield 28, 3) := by decide +kernel
theorem d_Md_compute_32 : decode b_Md_compute 32 = .ok (.iload_n 3, 1) := by decide +kernel
theorem d_Md_compute_33 : decode b_Md_compute 33 = .ok (.dup2, 1) := by decide +kernel
theorem d_Md_compute_34 : decode b_Md_compute 34 = .ok (.laload, 1) := by decide +kernel
theorem d_Md_compute_35 : decode b_Md_compute 35 = .ok (.lload 4, 2) := by decide +kernel
theorem d_Md_compute_37 : decode b_Md_compute 37 = .ok (.ladd, 1) := by decide +kernel
theorem d_Md_compute_38 : decode b_Md_compute 38 = .ok (.lastore, 1) := by decide +kernel
theorem d_Md_compute_39 : decode b_Md_compute 39 = .ok (.iload_n 2, 1) := by decide +kernel
theorem d_Md_compute_40 : decode b_Md_compute 40 = .ok (.iconst 3, 1) := by decide +kernel
theorem d_Md_compute_41 : decode b_Md_compute 41 = .ok (.if_icmp .ne 23, 3) := by decide +kernel
theorem d_Md_compute_44 : decode b_Md_compute 44 = .ok (.aload_n 0, 1) := by decide +kernel
theorem d_Md_compute_45 : decode b_Md_compute 45 = .ok (.getfield 28, 3) := by decide +kernel
theorem d_Md_compute_48 : decode b_Md_compute 48 = .ok (.iload_n 3, 1) := by decide +kernel
theorem d_Md_compute_49 : decode b_Md_compute 49 = .ok (.dup2, 1) := by decide +kernel
theorem d_Md_compute_50 : decode b_Md_compute 50 = .ok (.laload, 1) := by decide +kernel
theorem d_Md_compute_51 : decode b_Md_compute 51 = .ok (.aload_n 0, 1) := by decide +kernel
theorem d_Md_compute_52 : decode b_Md_compute 52 = .ok (.getfield 28, 3) := by decide +kernel
theorem d_Md_compute_55 : decode b_Md_compute 55 = .ok (.aload_n 0, 1) := by decide +kernel
theorem d_Md_compute_56 : decode b_Md_compute 56 = .ok (.getfield 16, 3) := by decide +kernel
theorem d_Md_compute_59 : decode b_Md_compute 59 = .ok (.iload_n 1, 1) := by decide +kernel
theorem d_Md_compute_60 : decode b_Md_compute 60 = .ok (.iaload, 1) := by decide +kernel
theorem d_Md_compute_61 : decode b_Md_compute 61 = .ok (.laload, 1) := by decide +kernel
theorem d_Md_compute_62 : decode b_Md_compute 62 = .ok (.ladd, 1) := by decide +kernel
theorem d_Md_compute_63 : decode b_Md_compute 63 = .ok (.lastore, 1) := by decide +kernel
theorem d_Md_compute_64 : decode b_Md_compute 64 = .ok (.iload_n 2, 1) := by decide +kernel
theorem d_Md_compute_65 : decode b_Md_compute 65 = .ok (.iconst 4, 1) := by decide +kernel
theorem d_Md_compute_66 : decode b_Md_compute 66 = .ok (.if_icmp .ne 23, 3) := by decide +kernel
theorem d_Md_compute_69 : decode b_Md_compute 69 = .ok (.aload_n 0, 1) := by decide +kernel
theorem d_Md_compute_70 : decode b_Md_compute 70 = .ok (.getfield 28, 3) := by decide +kernel
theorem d_Md_compute_73 : decode b_Md_compute 73 = .ok (.iload_n 3, 1) := by decide +kernel
theorem d_Md_compute_74 : decode b_Md_compute 74 = .ok (.dup2, 1) := by decide +kernel
theorem d_Md_compute_75 : decode b_Md_compute 75 = .ok (.laload, 1) := by decide +kernel
theorem d_Md_compute_76 : decode b_Md_compute 76 = .ok (.aload_n 0, 1) := by decide +kernel
theorem d_Md_compute_77 : decode b_Md_compute 77 = .ok (.getfield 28, 3) := by decide +kernel
theorem d_Md_compute_80 : decode b_Md_compute 80 = .ok (.aload_n 0, 1) := by decide +kernel
theorem d_Md_compute_81 : decode b_Md_compute 81 = .ok (.getfield 16, 3) := by decide +kernel
theorem d_Md_compute_84 : decode b_Md_compute 84 = .ok (.iload_n 1, 1) := by decide +kernel
theorem d_Md_compute_85 : decode b_Md_compute 85 = .ok (.iaload, 1) := by decide +kernel
theorem d_Md_compute_86 : decode b_Md_compute 86 = .ok (.laload, 1) := by decide +kernel
theorem d_Md_compute_87 : decode b_Md_compute 87 = .ok (.lsub, 1) := by decide +kernel
theorem d_Md_compute_88 : decode b_Md_compute 88 = .ok (.lastore, 1) := by decide +kernel
theorem d_Md_compute_89 : decode b_Md_compute 89 = .ok (.iload_n 2, 1) := by decide +kernel
theorem d_Md_compute_90 : decode b_Md_compute 90 = .ok (.iconst 5, 1) := by decide +kernel
theorem d_Md_compute_91 : decode b_Md_compute 91 = .ok (.if_icmp .ne 14, 3) := by decide +kernel
theorem d_Md_compute_94 : decode b_Md_compute 94 = .ok (.aload_n 0, 1) := by decide +kernel
theorem d_Md_compute_95 : decode b_Md_compute 95 = .ok (.getfield 28, 3) := by decide +kernel
theorem d_Md_compute_98 : decode b_Md_compute 98 = .ok (.iload_n 3, 1) := by decide +kernel
theorem d_Md_compute_99 : decode b_Md_compute 99 = .ok (.dup2, 1) := by decide +kernel
theorem d_Md_compute_100 : decode b_Md_compute 100 = .ok (.laload, 1) := by decide +kernel
theorem d_Md_compute_101 : decode b_Md_compute 101 = .ok (.lload 4, 2) := by decide +kernel
theorem d_Md_compute_103 : decode b_Md_compute 103 = .ok (.lmul, 1) := by decide +kernel
theorem d_Md_compute_104 : decode b_Md_compute 104 = .ok (.lastore, 1) := by decide +kernel
theorem d_Md_compute_105 : decode b_Md_compute 105 = .ok (.iload_n 2, 1) := by decide +kernel
theorem d_Md_compute_106 : decode b_Md_compute 106 = .ok (.bipush 6, 2) := by decide +kernel
theorem d_Md_compute_108 : decode b_Md_compute 108 = .ok (.if_icmp .ne 18, 3) := by decide +kernel
theorem d_Md_compute_111 : decode b_Md_compute 111 = .ok (.aload_n 0, 1) := by decide +kernel
theorem d_Md_compute_112 : decode b_Md_compute 112 = .ok (.getfield 28, 3) := by decide +kernel
theorem d_Md_compute_115 : decode b_Md_compute 115 = .ok (.iload_n 3, 1) := by decide +kernel
theorem d_Md_compute_116 : decode b_Md_compute 116 = .ok (.aload_n 0, 1) := by decide +kernel
theorem d_Md_compute_117 : decode b_Md_compute 117 = .ok (.getfield 28, 3) := by decide +kernel
theorem d_Md_compute_120 : decode b_Md_compute 120 = .ok (.iload_n 3, 1) := by decide +kernel
theorem d_Md_compute_121 : decode b_Md_compute 121 = .ok (.laload, 1) := by decide +kernel
theorem d_Md_compute_122 : decode b_Md_compute 122 = .ok (.lload 4, 2) := by decide +kernel
theorem d_Md_compute_124 : decode b_Md_compute 124 = .ok (.land, 1) := by decide +kernel
theorem d_Md_compute_125 : decode b_Md_compute 125 = .ok (.lastore, 1) := by decide +kernel
theorem d_Md_compute_126 : decode b_Md_compute 126 = .ok (.iload_n 2, 1) := by decide +kernel
theorem d_Md_compute_127 : decode b_Md_compute 127 = .ok (.bipush 7, 2) := by decide +kernel
theorem d_Md_compute_129 : decode b_Md_compute 129 = .ok (.if_icmp .ne 19, 3) := by decide +kernel
theorem d_Md_compute_132 : decode b_Md_compute 132 = .ok (.aload_n 0, 1) := by decide +kernel
theorem d_Md_compute_133 : decode b_Md_compute 133 = .ok (.getfield 28, 3) := by decide +kernel
theorem d_Md_compute_136 : decode b_Md_compute 136 = .ok (.iload_n 3, 1) := by decide +kernel
theorem d_Md_compute_137 : decode b_Md_compute 137 = .ok (.aload_n 0, 1) := by decide +kernel
theorem d_Md_compute_138 : decode b_Md_compute 138 = .ok (.getfield 28, 3) := by decide +kernel
theorem d_Md_compute_141 : decode b_Md_compute 141 = .ok (.iload_n 3, 1) := by decide +kernel
theorem d_Md_compute_142 : decode b_Md_compute 142 = .ok (.laload, 1) := by decide +kernel
theorem d_Md_compute_143 : decode b_Md_compute 143 = .ok (.lload 4, 2) := by decide +kernel
theorem d_Md_compute_145 : decode b_Md_compute 145 = .ok (.l2i, 1) := by decide +kernel
theorem d_Md_compute_146 : decode b_Md_compute 146 = .ok (.lshr, 1) := by decide +kernel
theorem d_Md_compute_147 : decode b_Md_compute 147 = .ok (.lastore, 1) := by decide +kernel
theorem d_Md_compute_148 : decode b_Md_compute 148 = .ok (.iload_n 2, 1) := by decide +kernel
theorem d_Md_compute_149 : decode b_Md_compute 149 = .ok (.bipush 8, 2) := by decide +kernel
theorem d_Md_compute_151 : decode b_Md_compute 151 = .ok (.if_icmp .ne 18, 3) := by decide +kernel
theorem d_Md_compute_154 : decode b_Md_compute 154 = .ok (.aload_n 0, 1) := by decide +kernel
theorem d_Md_compute_155 : decode b_Md_compute 155 = .ok (.getfield 28, 3) := by decide +kernel
theorem d_Md_compute_158 : decode b_Md_compute 158 = .ok (.iload_n 3, 1) := by decide +kernel
theorem d_Md_compute_159 : decode b_Md_compute 159 = .ok (.aload_n 0, 1) := by decide +kernel
theorem d_Md_compute_160 : decode b_Md_compute 160 = .ok (.getfield 28, 3) := by decide +kernel
theorem d_Md_compute_163 : decode b_Md_compute 163 = .ok (.iload_n 3, 1) := by decide +kernel
theorem d_Md_compute_164 : decode b_Md_compute 164 = .ok (.laload, 1) := by decide +kernel
theorem d_Md_compute_165 : decode b_Md_compute 165 = .ok (.lload 4, 2) := by decide +kernel
theorem d_Md_compute_167 : decode b_Md_compute 167 = .ok (.ldiv, 1) := by decide +kernel
theorem d_Md_compute_168 : decode b_Md_compute 168 = .ok (.lastore, 1) := by decide +kernel
theorem d_Md_compute_169 : decode b_Md_compute 169 = .ok (.iload_n 2, 1) := by decide +kernel
theorem d_Md_compute_170 : decode b_Md_compute 170 = .ok (.bipush 9, 2) := by decide +kernel
theorem d_Md_compute_172 : decode b_Md_compute 172 = .ok (.if_icmp .ne 16, 3) := by decide +kernel
theorem d_Md_compute_175 : decode b_Md_compute 175 = .ok (.aload_n 0, 1) := by decide +kernel
theorem d_Md_compute_176 : decode b_Md_compute 176 = .ok (.getfield 28, 3) := by decide +kernel
theorem d_Md_compute_179 : decode b_Md_compute 179 = .ok (.iload_n 3, 1) := by decide +kernel
theorem d_Md_compute_180 : decode b_Md_compute 180 = .ok (.aload_n 0, 1) := by decide +kernel
theorem d_Md_compute_181 : decode b_Md_compute 181 = .ok (.getfield 28, 3) := by decide +kernel
theorem d_Md_compute_184 : decode b_Md_compute 184 = .ok (.iload_n 3, 1) := by decide +kernel
theorem d_Md_compute_185 : decode b_Md_compute 185 = .ok (.laload, 1) := by decide +kernel
theorem d_Md_compute_186 : decode b_Md_compute 186 = .ok (.lneg, 1) := by decide +kernel
theorem d_Md_compute_187 : decode b_Md_compute 187 = .ok (.lastore, 1) := by decide +kernel
theorem d_Md_compute_188 : decode b_Md_compute 188 = .ok (.return_, 1) := by decide +kernel
theorem d_Md_transfer_0 : decode b_Md_transfer 0 = .ok (.iload_n 2, 1) := by decide +kernel
theorem d_Md_transfer_1 : decode b_Md_transfer 1 = .ok (.ifCond .eq 12, 3) := by decide +kernel
theorem d_Md_transfer_4 : decode b_Md_transfer 4 = .ok (.aload_n 0, 1) := by decide +kernel
theorem d_Md_transfer_5 : decode b_Md_transfer 5 = .ok (.getfield 16, 3) := by decide +kernel
theorem d_Md_transfer_8 : decode b_Md_transfer 8 = .ok (.iload_n 1, 1) := by decide +kernel
theorem d_Md_transfer_9 : decode b_Md_transfer 9 = .ok (.iaload, 1) := by decide +kernel
theorem d_Md_transfer_10 : decode b_Md_transfer 10 = .ok (.goto 9, 3) := by decide +kernel
theorem d_Md_transfer_13 : decode b_Md_transfer 13 = .ok (.aload_n 0, 1) := by decide +kernel
theorem d_Md_transfer_14 : decode b_Md_transfer 14 = .ok (.getfield 13, 3) := by decide +kernel
theorem d_Md_transfer_17 : decode b_Md_transfer 17 = .ok (.iload_n 1, 1) := by decide +kernel
theorem d_Md_transfer_18 : decode b_Md_transfer 18 = .ok (.iaload, 1) := by decide +kernel
theorem d_Md_transfer_19 : decode b_Md_transfer 19 = .ok (.istore_n 3, 1) := by decide +kernel
theorem d_Md_transfer_20 : decode b_Md_transfer 20 = .ok (.iload_n 2, 1) := by decide +kernel
theorem d_Md_transfer_21 : decode b_Md_transfer 21 = .ok (.ifCond .eq 12, 3) := by decide +kernel
theorem d_Md_transfer_24 : decode b_Md_transfer 24 = .ok (.aload_n 0, 1) := by decide +kernel
theorem d_Md_transfer_25 : decode b_Md_transfer 25 = .ok (.getfield 13, 3) := by decide +kernel
theorem d_Md_transfer_28 : decode b_Md_transfer 28 = .ok (.iload_n 1, 1) := by decide +kernel
theorem d_Md_transfer_29 : decode b_Md_transfer 29 = .ok (.iaload, 1) := by decide +kernel
theorem d_Md_transfer_30 : decode b_Md_transfer 30 = .ok (.goto 9, 3) := by decide +kernel
theorem d_Md_transfer_33 : decode b_Md_transfer 33 = .ok (.aload_n 0, 1) := by decide +kernel
theorem d_Md_transfer_34 : decode b_Md_transfer 34 = .ok (.getfield 16, 3) := by decide +kernel
theorem d_Md_transfer_37 : decode b_Md_transfer 37 = .ok (.iload_n 1, 1) := by decide +kernel
theorem d_Md_transfer_38 : decode b_Md_transfer 38 = .ok (.iaload, 1) := by decide +kernel
theorem d_Md_transfer_39 : decode b_Md_transfer 39 = .ok (.istore 4, 2) := by decide +kernel
theorem d_Md_transfer_41 : decode b_Md_transfer 41 = .ok (.aload_n 0, 1) := by decide +kernel
theorem d_Md_transfer_42 : decode b_Md_transfer 42 = .ok (.getfield 28, 3) := by decide +kernel
theorem d_Md_transfer_45 : decode b_Md_transfer 45 = .ok (.iload_n 3, 1) := by decide +kernel
theorem d_Md_transfer_46 : decode b_Md_transfer 46 = .ok (.laload, 1) := by decide +kernel
theorem d_Md_transfer_47 : decode b_Md_transfer 47 = .ok (.l2i, 1) := by decide +kernel
theorem d_Md_transfer_48 : decode b_Md_transfer 48 = .ok (.aload_n 0, 1) := by decide +kernel
theorem d_Md_transfer_49 : decode b_Md_transfer 49 = .ok (.getfield 19, 3) := by decide +kernel
theorem d_Md_transfer_52 : decode b_Md_transfer 52 = .ok (.iload_n 1, 1) := by decide +kernel
theorem d_Md_transfer_53 : decode b_Md_transfer 53 = .ok (.iaload, 1) := by decide +kernel
theorem d_Md_transfer_54 : decode b_Md_transfer 54 = .ok (.iadd, 1) := by decide +kernel
theorem d_Md_transfer_55 : decode b_Md_transfer 55 = .ok (.istore 5, 2) := by decide +kernel
theorem d_Md_transfer_57 : decode b_Md_transfer 57 = .ok (.aload_n 0, 1) := by decide +kernel
theorem d_Md_transfer_58 : decode b_Md_transfer 58 = .ok (.getfield 25, 3) := by decide +kernel
theorem d_Md_transfer_61 : decode b_Md_transfer 61 = .ok (.iload_n 3, 1) := by decide +kernel
theorem d_Md_transfer_62 : decode b_Md_transfer 62 = .ok (.iaload, 1) := by decide +kernel
theorem d_Md_transfer_63 : decode b_Md_transfer 63 = .ok (.iconst 3, 1) := by decide +kernel
theorem d_Md_transfer_64 : decode b_Md_transfer 64 = .ok (.if_icmp .ne 35, 3) := by decide +kernel
theorem d_Md_transfer_67 : decode b_Md_transfer 67 = .ok (.iload_n 2, 1) := by decide +kernel
theorem d_Md_transfer_68 : decode b_Md_transfer 68 = .ok (.ifCond .eq 31, 3) := by decide +kernel
theorem d_Md_transfer_71 : decode b_Md_transfer 71 = .ok (.aload_n 0, 1) := by decide +kernel
theorem d_Md_transfer_72 : decode b_Md_transfer 72 = .ok (.iload 4, 2) := by decide +kernel
theorem d_Md_transfer_74 : decode b_Md_transfer 74 = .ok (.iconst 1, 1) := by decide +kernel
theorem d_Md_transfer_75 : decode b_Md_transfer 75 = .ok (.aload_n 0, 1) := by decide +kernel
theorem d_Md_transfer_76 : decode b_Md_transfer 76 = .ok (.getfield 47, 3) := by decide +kernel
theorem d_Md_transfer_79 : decode b_Md_transfer 79 = .ok (.aload_n 0, 1) := by decide +kernel
theorem d_Md_transfer_80 : decode b_Md_transfer 80 = .ok (.getfield 32, 3) := by decide +kernel
theorem d_Md_transfer_83 : decode b_Md_transfer 83 = .ok (.iload_n 3, 1) := by decide +kernel
theorem d_Md_transfer_84 : decode b_Md_transfer 84 = .ok (.laload, 1) := by decide +kernel
theorem d_Md_transfer_85 : decode b_Md_transfer 85 = .ok (.l2i, 1) := by decide +kernel
theorem d_Md_transfer_86 : decode b_Md_transfer 86 = .ok (.iconst 2, 1) := by decide +kernel
theorem d_Md_transfer_87 : decode b_Md_transfer 87 = .ok (.imul, 1) := by decide +kernel
theorem d_Md_transfer_88 : decode b_Md_transfer 88 = .ok (.iload 5, 2) := by decide +kernel
theorem d_Md_transfer_90 : decode b_Md_transfer 90 = .ok (.iadd, 1) := by decide +kernel
theorem d_Md_transfer_91 : decode b_Md_transfer 91 = .ok (.laload, 1) := by decide +kernel
theorem d_Md_transfer_92 : decode b_Md_transfer 92 = .ok (.lconst 0, 1) := by decide +kernel
theorem d_Md_transfer_93 : decode b_Md_transfer 93 = .ok (.invokevirtual 83, 3) := by decide +kernel
theorem d_Md_transfer_96 : decode b_Md_transfer 96 = .ok (.goto 69, 3) := by decide +kernel
theorem d_Md_transfer_99 : decode b_Md_transfer 99 = .ok (.aload_n 0, 1) := by decide +kernel
theorem d_Md_transfer_100 : decode b_Md_transfer 100 = .ok (.getfield 25, 3) := by decide +kernel
theorem d_Md_transfer_103 : decode b_Md_transfer 103 = .ok (.iload_n 3, 1) := by decide +kernel
theorem d_Md_transfer_104 : decode b_Md_transfer 104 = .ok (.iaload, 1) := by decide +kernel
theorem d_Md_transfer_105 : decode b_Md_transfer 105 = .ok (.iconst 3, 1) := by decide +kernel
theorem d_Md_transfer_106 : decode b_Md_transfer 106 = .ok (.if_icmp .ne 30, 3) := by decide +kernel
theorem d_Md_transfer_109 : decode b_Md_transfer 109 = .ok (.aload_n 0, 1) := by decide +kernel
theorem d_Md_transfer_110 : decode b_Md_transfer 110 = .ok (.getfield 47, 3) := by decide +kernel
theorem d_Md_transfer_113 : decode b_Md_transfer 113 = .ok (.aload_n 0, 1) := by decide +kernel
theorem d_Md_transfer_114 : decode b_Md_transfer 114 = .ok (.getfield 32, 3) := by decide +kernel
theorem d_Md_transfer_117 : decode b_Md_transfer 117 = .ok (.iload_n 3, 1) := by decide +kernel
theorem d_Md_transfer_118 : decode b_Md_transfer 118 = .ok (.laload, 1) := by decide +kernel
theorem d_Md_transfer_119 : decode b_Md_transfer 119 = .ok (.l2i, 1) := by decide +kernel
theorem d_Md_transfer_120 : decode b_Md_transfer 120 = .ok (.iconst 2, 1) := by decide +kernel
theorem d_Md_transfer_121 : decode b_Md_transfer 121 = .ok (.imul, 1) := by decide +kernel
theorem d_Md_transfer_122 : decode b_Md_transfer 122 = .ok (.iload 5, 2) := by decide +kernel
theorem d_Md_transfer_124 : decode b_Md_transfer 124 = .ok (.iadd, 1) := by decide +kernel
theorem d_Md_transfer_125 : decode b_Md_transfer 125 = .ok (.aload_n 0, 1) := by decide +kernel
theorem d_Md_transfer_126 : decode b_Md_transfer 126 = .ok (.getfield 28, 3) := by decide +kernel
theorem d_Md_transfer_129 : decode b_Md_transfer 129 = .ok (.iload 4, 2) := by decide +kernel
theorem d_Md_transfer_131 : decode b_Md_transfer 131 = .ok (.laload, 1) := by decide +kernel
theorem d_Md_transfer_132 : decode b_Md_transfer 132 = .ok (.lastore, 1) := by decide +kernel
theorem d_Md_transfer_133 : decode b_Md_transfer 133 = .ok (.goto 32, 3) := by decide +kernel
theorem d_Md_transfer_136 : decode b_Md_transfer 136 = .ok (.iload_n 2, 1) := by decide +kernel
theorem d_Md_transfer_137 : decode b_Md_transfer 137 = .ok (.ifCond .eq 17, 3) := by decide +kernel
theorem d_Md_transfer_140 : decode b_Md_transfer 140 = .ok (.aload_n 0, 1) := by decide +kernel
theorem d_Md_transfer_141 : decode b_Md_transfer 141 = .ok (.bipush 6, 2) := by decide +kernel
theorem d_Md_transfer_143 : decode b_Md_transfer 143 = .ok (.iload 5, 2) := by decide +kernel
theorem d_Md_transfer_145 : decode b_Md_transfer 145 = .ok (.iadd, 1) := by decide +kernel
theorem d_Md_transfer_146 : decode b_Md_transfer 146 = .ok (.iload 4, 2) := by decide +kernel
theorem d_Md_transfer_148 : decode b_Md_transfer 148 = .ok (.invokevirtual 161, 3) := by decide +kernel
theorem d_Md_transfer_151 : decode b_Md_transfer 151 = .ok (.goto 14, 3) := by decide +kernel
theorem d_Md_transfer_154 : decode b_Md_transfer 154 = .ok (.aload_n 0, 1) := by decide +kernel
theorem d_Md_transfer_155 : decode b_Md_transfer 155 = .ok (.iload 4, 2) := by decide +kernel
theorem d_Md_transfer_157 : decode b_Md_transfer 157 = .ok (.bipush 6, 2) := by decide +kernel
theorem d_Md_transfer_159 : decode b_Md_transfer 159 = .ok (.iload 5, 2) := by decide +kernel
theorem d_Md_transfer_161 : decode b_Md_transfer 161 = .ok (.iadd, 1) := by decide +kernel
theorem d_Md_transfer_162 : decode b_Md_transfer 162 = .ok (.invokevirtual 161, 3) := by decide +kernel
theorem d_Md_transfer_165 : decode b_Md_transfer 165 = .ok (.return_, 1) := by decide +kernel
theorem d_Md_callNow_0 : decode b_Md_callNow 0 = .ok (.aload_n 0, 1) := by decide +kernel
theorem d_Md_callNow_1 : decode b_Md_callNow 1 = .ok (.getfield 28, 3) := by decide +kernel
theorem d_Md_callNow_4 : decode b_Md_callNow 4 = .ok (.iconst 1, 1) := by decide +kernel
theorem d_Md_callNow_5 : decode b_Md_callNow 5 = .ok (.laload, 1) := by decide +kernel
theorem d_Md_callNow_6 : decode b_Md_callNow 6 = .ok (.lstore_n 2, 1) := by decide +kernel
theorem d_Md_callNow_7 : decode b_Md_callNow 7 = .ok (.aload_n 0, 1) := by decide +kernel
theorem d_Md_callNow_8 : decode b_Md_callNow 8 = .ok (.getfield 28, 3) := by decide +kernel
theorem d_Md_callNow_11 : decode b_Md_callNow 11 = .ok (.iconst 2, 1) := by decide +kernel
theorem d_Md_callNow_12 : decode b_Md_callNow 12 = .ok (.laload, 1) := by decide +kernel
theorem d_Md_callNow_13 : decode b_Md_callNow 13 = .ok (.lstore 4, 2) := by decide +kernel
theorem d_Md_callNow_15 : decode b_Md_callNow 15 = .ok (.iload_n 1, 1) := by decide +kernel
theorem d_Md_callNow_16 : decode b_Md_callNow 16 = .ok (.ifCond .ne 28, 3) := by decide +kernel
theorem d_Md_callNow_19 : decode b_Md_callNow 19 = .ok (.aload_n 0, 1) := by decide +kernel
theorem d_Md_callNow_20 : decode b_Md_callNow 20 = .ok (.iconst 0, 1) := by decide +kernel
theorem d_Md_callNow_21 : decode b_Md_callNow 21 = .ok (.iconst 1, 1) := by decide +kernel
theorem d_Md_callNow_22 : decode b_Md_callNow 22 = .ok (.aload_n 0, 1) := by decide +kernel
theorem d_Md_callNow_23 : decode b_Md_callNow 23 = .ok (.getfield 224, 3) := by decide +kernel
theorem d_Md_callNow_26 : decode b_Md_callNow 26 = .ok (.bipush 100, 2) := by decide +kernel
theorem d_Md_callNow_28 : decode b_Md_callNow 28 = .ok (.irem, 1) := by decide +kernel
theorem d_Md_callNow_29 : decode b_Md_callNow 29 = .ok (.i2l, 1) := by decide +kernel
theorem d_Md_callNow_30 : decode b_Md_callNow 30 = .ok (.lconst 0, 1) := by decide +kernel
theorem d_Md_callNow_31 : decode b_Md_callNow 31 = .ok (.invokevirtual 83, 3) := by decide +kernel
theorem d_Md_callNow_34 : decode b_Md_callNow 34 = .ok (.aload_n 0, 1) := by decide +kernel
theorem d_Md_callNow_35 : decode b_Md_callNow 35 = .ok (.dup, 1) := by decide +kernel
theorem d_Md_callNow_36 : decode b_Md_callNow 36 = .ok (.getfield 224, 3) := by decide +kernel
theorem d_Md_callNow_39 : decode b_Md_callNow 39 = .ok (.iconst 1, 1) := by decide +kernel
theorem d_Md_callNow_40 : decode b_Md_callNow 40 = .ok (.iadd, 1) := by decide +kernel
theorem d_Md_callNow_41 : decode b_Md_callNow 41 = .ok (.putfield 224, 3) := by decide +kernel
theorem d_Md_callNow_44 : decode b_Md_callNow 44 = .ok (.iload_n 1, 1) := by decide +kernel
theorem d_Md_callNow_45 : decode b_Md_callNow 45 = .ok (.iconst 1, 1) := by decide +kernel
theorem d_Md_callNow_46 : decode b_Md_callNow 46 = .ok (.if_icmp .ne 35, 3) := by decide +kernel
theorem d_Md_callNow_49 : decode b_Md_callNow 49 = .ok (.aload_n 0, 1) := by decide +kernel
theorem d_Md_callNow_50 : decode b_Md_callNow 50 = .ok (.iconst 0, 1) := by decide +kernel
theorem d_Md_callNow_51 : decode b_Md_callNow 51 = .ok (.lload_n 2, 1) := by decide +kernel
theorem d_Md_callNow_52 : decode b_Md_callNow 52 = .ok (.ldc2_w 227, 3) := by decide +kernel
theorem d_Md_callNow_55 : decode b_Md_callNow 55 = .ok (.lcmp, 1) := by decide +kernel
theorem d_Md_callNow_56 : decode b_Md_callNow 56 = .ok (.ifCond .ge 7, 3) := by decide +kernel
theorem d_Md_callNow_59 : decode b_Md_callNow 59 = .ok (.iconst 3, 1) := by decide +kernel
theorem d_Md_callNow_60 : decode b_Md_callNow 60 = .ok (.goto 4, 3) := by decide +kernel
theorem d_Md_callNow_63 : decode b_Md_callNow 63 = .ok (.iconst 1, 1) := by decide +kernel
theorem d_Md_callNow_64 : decode b_Md_callNow 64 = .ok (.lconst 0, 1) := by decide +kernel
theorem d_Md_callNow_65 : decode b_Md_callNow 65 = .ok (.lload_n 2, 1) := by decide +kernel
theorem d_Md_callNow_66 : decode b_Md_callNow 66 = .ok (.ldc2_w 227, 3) := by decide +kernel
theorem d_Md_callNow_69 : decode b_Md_callNow 69 = .ok (.lcmp, 1) := by decide +kernel
theorem d_Md_callNow_70 : decode b_Md_callNow 70 = .ok (.ifCond .ge 7, 3) := by decide +kernel
theorem d_Md_callNow_73 : decode b_Md_callNow 73 = .ok (.lload_n 2, 1) := by decide +kernel
theorem d_Md_callNow_74 : decode b_Md_callNow 74 = .ok (.goto 4, 3) := by decide +kernel
theorem d_Md_callNow_77 : decode b_Md_callNow 77 = .ok (.lconst 0, 1) := by decide +kernel
theorem d_Md_callNow_78 : decode b_Md_callNow 78 = .ok (.invokevirtual 83, 3) := by decide +kernel
theorem d_Md_callNow_81 : decode b_Md_callNow 81 = .ok (.iload_n 1, 1) := by decide +kernel
theorem d_Md_callNow_82 : decode b_Md_callNow 82 = .ok (.iconst 2, 1) := by decide +kernel
theorem d_Md_callNow_83 : decode b_Md_callNow 83 = .ok (.if_icmp .ne 23, 3) := by decide +kernel
theorem d_Md_callNow_86 : decode b_Md_callNow 86 = .ok (.aload_n 0, 1) := by decide +kernel
theorem d_Md_callNow_87 : decode b_Md_callNow 87 = .ok (.iconst 0, 1) := by decide +kernel
theorem d_Md_callNow_88 : decode b_Md_callNow 88 = .ok (.iconst 1, 1) := by decide +kernel
theorem d_Md_callNow_89 : decode b_Md_callNow 89 = .ok (.lload_n 2, 1) := by decide +kernel
theorem d_Md_callNow_90 : decode b_Md_callNow 90 = .ok (.lload 4, 2) := by decide +kernel
theorem d_Md_callNow_92 : decode b_Md_callNow 92 = .ok (.lcmp, 1) := by decide +kernel
theorem d_Md_callNow_93 : decode b_Md_callNow 93 = .ok (.ifCond .le 7, 3) := by decide +kernel
theorem d_Md_callNow_96 : decode b_Md_callNow 96 = .ok (.lload_n 2, 1) := by decide +kernel
theorem d_Md_callNow_97 : decode b_Md_callNow 97 = .ok (.goto 5, 3) := by decide +kernel
theorem d_Md_callNow_100 : decode b_Md_callNow 100 = .ok (.lload 4, 2) := by decide +kernel
theorem d_Md_callNow_102 : decode b_Md_callNow 102 = .ok (.lconst 0, 1) := by decide +kernel
theorem d_Md_callNow_103 : decode b_Md_callNow 103 = .ok (.invokevirtual 83, 3) := by decide +kernel
theorem d_Md_callNow_106 : decode b_Md_callNow 106 = .ok (.iconst 1, 1) := by decide +kernel
theorem d_Md_callNow_107 : decode b_Md_callNow 107 = .ok (.istore 6, 2) := by decide +kernel
theorem d_Md_callNow_109 : decode b_Md_callNow 109 = .ok (.iload 6, 2) := by decide +kernel
theorem d_Md_callNow_111 : decode b_Md_callNow 111 = .ok (.iconst 4, 1) := by decide +kernel
theorem d_Md_callNow_112 : decode b_Md_callNow 112 = .ok (.if_icmp .ge 18, 3) := by decide +kernel
theorem d_Md_callNow_115 : decode b_Md_callNow 115 = .ok (.aload_n 0, 1) := by decide +kernel
theorem d_Md_callNow_116 : decode b_Md_callNow 116 = .ok (.iload 6, 2) := by decide +kernel
theorem d_Md_callNow_118 : decode b_Md_callNow 118 = .ok (.iconst 0, 1) := by decide +kernel
theorem d_Md_callNow_119 : decode b_Md_callNow 119 = .ok (.lconst 0, 1) := by decide +kernel
theorem d_Md_callNow_120 : decode b_Md_callNow 120 = .ok (.lconst 0, 1) := by decide +kernel
theorem d_Md_callNow_121 : decode b_Md_callNow 121 = .ok (.invokevirtual 83, 3) := by decide +kernel
theorem d_Md_callNow_124 : decode b_Md_callNow 124 = .ok (.iinc 6 1, 3) := by decide +kernel
theorem d_Md_callNow_127 : decode b_Md_callNow 127 = .ok (.goto (-18), 3) := by decide +kernel
theorem d_Md_callNow_130 : decode b_Md_callNow 130 = .ok (.return_, 1) := by decide +kernel
theorem d_Md_run_0 : decode b_Md_run 0 = .ok (.aload_n 0, 1) := by decide +kernel
theorem d_Md_run_1 : decode b_Md_run 1 = .ok (.aload_n 0, 1) := by decide +kernel
theorem d_Md_run_2 : decode b_Md_run 2 = .ok (.getfield 64, 3) := by decide +kernel
theorem d_Md_run_5 : decode b_Md_run 5 = .ok (.ifCond .eq 7, 3) := by decide +kernel
theorem d_Md_run_8 : decode b_Md_run 8 = .ok (.iconst 0, 1) := by decide +kernel
theorem d_Md_run_9 : decode b_Md_run 9 = .ok (.goto 4, 3) := by decide +kernel
theorem d_Md_run_12 : decode b_Md_run 12 = .ok (.iconst 1, 1) := by decide +kernel
theorem d_Md_run_13 : decode b_Md_run 13 = .ok (.putfield 50, 3) := by decide +kernel
theorem d_Md_run_16 : decode b_Md_run 16 = .ok (.aload_n 0, 1) := by decide +kernel
theorem d_Md_run_17 : decode b_Md_run 17 = .ok (.getfield 64, 3) := by decide +kernel
theorem d_Md_run_20 : decode b_Md_run 20 = .ok (.ifCond .ne 5, 3) := by decide +kernel
theorem d_Md_run_23 : decode b_Md_run 23 = .ok (.lconst 0, 1) := by decide +kernel
theorem d_Md_run_24 : decode b_Md_run 24 = .ok (.lreturn, 1) := by decide +kernel
theorem d_Md_run_25 : decode b_Md_run 25 = .ok (.iconst 0, 1) := by decide +kernel
theorem d_Md_run_26 : decode b_Md_run 26 = .ok (.istore_n 3, 1) := by decide +kernel
theorem d_Md_run_27 : decode b_Md_run 27 = .ok (.iload_n 3, 1) := by decide +kernel
theorem d_Md_run_28 : decode b_Md_run 28 = .ok (.bipush 12, 2) := by decide +kernel
theorem d_Md_run_30 : decode b_Md_run 30 = .ok (.if_icmp .ge 17, 3) := by decide +kernel
theorem d_Md_run_33 : decode b_Md_run 33 = .ok (.aload_n 0, 1) := by decide +kernel
theorem d_Md_run_34 : decode b_Md_run 34 = .ok (.iload_n 3, 1) := by decide +kernel
theorem d_Md_run_35 : decode b_Md_run 35 = .ok (.iconst 0, 1) := by decide +kernel
theorem d_Md_run_36 : decode b_Md_run 36 = .ok (.lconst 0, 1) := by decide +kernel
theorem d_Md_run_37 : decode b_Md_run 37 = .ok (.lconst 0, 1) := by decide +kernel
theorem d_Md_run_38 : decode b_Md_run 38 = .ok (.invokevirtual 83, 3) := by decide +kernel
theorem d_Md_run_41 : decode b_Md_run 41 = .ok (.iinc 3 1, 3) := by decide +kernel
theorem d_Md_run_44 : decode b_Md_run 44 = .ok (.goto (-17), 3) := by decide +kernel
theorem d_Md_run_47 : decode b_Md_run 47 = .ok (.aload_n 0, 1) := by decide +kernel
theorem d_Md_run_48 : decode b_Md_run 48 = .ok (.iconst 1, 1) := by decide +kernel
theorem d_Md_run_49 : decode b_Md_run 49 = .ok (.iconst 1, 1) := by decide +kernel
theorem d_Md_run_50 : decode b_Md_run 50 = .ok (.lload_n 1, 1) := by decide +kernel
theorem d_Md_run_51 : decode b_Md_run 51 = .ok (.lconst 0, 1) := by decide +kernel
theorem d_Md_run_52 : decode b_Md_run 52 = .ok (.invokevirtual 83, 3) := by decide +kernel
theorem d_Md_run_55 : decode b_Md_run 55 = .ok (.aload_n 0, 1) := by decide +kernel
theorem d_Md_run_56 : decode b_Md_run 56 = .ok (.iconst 2, 1) := by decide +kernel
theorem d_Md_run_57 : decode b_Md_run 57 = .ok (.iconst 2, 1) := by decide +kernel
theorem d_Md_run_58 : decode b_Md_run 58 = .ok (.lconst 0, 1) := by decide +kernel
theorem d_Md_run_59 : decode b_Md_run 59 = .ok (.lconst 0, 1) := by decide +kernel
theorem d_Md_run_60 : decode b_Md_run 60 = .ok (.invokevirtual 83, 3) := by decide +kernel
theorem d_Md_run_63 : decode b_Md_run 63 = .ok (.iconst 0, 1) := by decide +kernel
theorem d_Md_run_64 : decode b_Md_run 64 = .ok (.istore_n 3, 1) := by decide +kernel
theorem d_Md_run_65 : decode b_Md_run 65 = .ok (.aload_n 0, 1) := by decide +kernel
theorem d_Md_run_66 : decode b_Md_run 66 = .ok (.iconst 1, 1) := by decide +kernel
theorem d_Md_run_67 : decode b_Md_run 67 = .ok (.putfield 229, 3) := by decide +kernel
theorem d_Md_run_70 : decode b_Md_run 70 = .ok (.aload_n 0, 1) := by decide +kernel
theorem d_Md_run_71 : decode b_Md_run 71 = .ok (.getfield 7, 3) := by decide +kernel
theorem d_Md_run_74 : decode b_Md_run 74 = .ok (.iload_n 3, 1) := by decide +kernel
theorem d_Md_run_75 : decode b_Md_run 75 = .ok (.iaload, 1) := by decide +kernel
theorem d_Md_run_76 : decode b_Md_run 76 = .ok (.bipush 17, 2) := by decide +kernel
theorem d_Md_run_78 : decode b_Md_run 78 = .ok (.if_icmp .eq 181, 3) := by decide +kernel
theorem d_Md_run_81 : decode b_Md_run 81 = .ok (.aload_n 0, 1) := by decide +kernel
theorem d_Md_run_82 : decode b_Md_run 82 = .ok (.getfield 7, 3) := by decide +kernel
theorem d_Md_run_85 : decode b_Md_run 85 = .ok (.iload_n 3, 1) := by decide +kernel
theorem d_Md_run_86 : decode b_Md_run 86 = .ok (.iaload, 1) := by decide +kernel
theorem d_Md_run_87 : decode b_Md_run 87 = .ok (.istore 4, 2) := by decide +kernel
theorem d_Md_run_89 : decode b_Md_run 89 = .ok (.iload_n 3, 1) := by decide +kernel
theorem d_Md_run_90 : decode b_Md_run 90 = .ok (.iconst 1, 1) := by decide +kernel
theorem d_Md_run_91 : decode b_Md_run 91 = .ok (.iadd, 1) := by decide +kernel
theorem d_Md_run_92 : decode b_Md_run 92 = .ok (.istore 5, 2) := by decide +kernel
theorem d_Md_run_94 : decode b_Md_run 94 = .ok (.iload 4, 2) := by decide +kernel
theorem d_Md_run_96 : decode b_Md_run 96 = .ok (.ifCond .ne 22, 3) := by decide +kernel
theorem d_Md_run_99 : decode b_Md_run 99 = .ok (.aload_n 0, 1) := by decide +kernel
theorem d_Md_run_100 : decode b_Md_run 100 = .ok (.aload_n 0, 1) := by decide +kernel
theorem d_Md_run_101 : decode b_Md_run 101 = .ok (.getfield 13, 3) := by decide +kernel
theorem d_Md_run_104 : decode b_Md_run 104 = .ok (.iload_n 3, 1) := by decide +kernel
theorem d_Md_run_105 : decode b_Md_run 105 = .ok (.iaload, 1) := by decide +kernel
theorem d_Md_run_106 : decode b_Md_run 106 = .ok (.iconst 1, 1) := by decide +kernel
theorem d_Md_run_107 : decode b_Md_run 107 = .ok (.aload_n 0, 1) := by decide +kernel
theorem d_Md_run_108 : decode b_Md_run 108 = .ok (.getfield 19, 3) := by decide +kernel
theorem d_Md_run_111 : decode b_Md_run 111 = .ok (.iload_n 3, 1) := by decide +kernel
theorem d_Md_run_112 : decode b_Md_run 112 = .ok (.iaload, 1) := by decide +kernel
theorem d_Md_run_113 : decode b_Md_run 113 = .ok (.i2l, 1) := by decide +kernel
theorem d_Md_run_114 : decode b_Md_run 114 = .ok (.lconst 0, 1) := by decide +kernel
theorem d_Md_run_115 : decode b_Md_run 115 = .ok (.invokevirtual 83, 3) := by decide +kernel
theorem d_Md_run_118 : decode b_Md_run 118 = .ok (.iload 4, 2) := by decide +kernel
theorem d_Md_run_120 : decode b_Md_run 120 = .ok (.iconst 1, 1) := by decide +kernel
theorem d_Md_run_121 : decode b_Md_run 121 = .ok (.if_icmp .ne 19, 3) := by decide +kernel
theorem d_Md_run_124 : decode b_Md_run 124 = .ok (.aload_n 0, 1) := by decide +kernel
theorem d_Md_run_125 : decode b_Md_run 125 = .ok (.aload_n 0, 1) := by decide +kernel
theorem d_Md_run_126 : decode b_Md_run 126 = .ok (.getfield 16, 3) := by decide +kernel
theorem d_Md_run_129 : decode b_Md_run 129 = .ok (.iload_n 3, 1) := by decide +kernel
theorem d_Md_run_130 : decode b_Md_run 130 = .ok (.iaload, 1) := by decide +kernel
theorem d_Md_run_131 : decode b_Md_run 131 = .ok (.aload_n 0, 1) := by decide +kernel
theorem d_Md_run_132 : decode b_Md_run 132 = .ok (.getfield 13, 3) := by decide +kernel
theorem d_Md_run_135 : decode b_Md_run 135 = .ok (.iload_n 3, 1) := by decide +kernel
theorem d_Md_run_136 : decode b_Md_run 136 = .ok (.iaload, 1) := by decide +kernel
theorem d_Md_run_137 : decode b_Md_run 137 = .ok (.invokevirtual 161, 3) := by decide +kernel
theorem d_Md_run_140 : decode b_Md_run 140 = .ok (.iload 4, 2) := by decide +kernel
theorem d_Md_run_142 : decode b_Md_run 142 = .ok (.iconst 1, 1) := by decide +kernel
theorem d_Md_run_143 : decode b_Md_run 143 = .ok (.if_icmp .le 15, 3) := by decide +kernel
theorem d_Md_run_146 : decode b_Md_run 146 = .ok (.iload 4, 2) := by decide +kernel
theorem d_Md_run_148 : decode b_Md_run 148 = .ok (.bipush 10, 2) := by decide +kernel
theorem d_Md_run_150 : decode b_Md_run 150 = .ok (.if_icmp .ge 8, 3) := by decide +kernel
theorem d_Md_run_153 : decode b_Md_run 153 = .ok (.aload_n 0, 1) := by decide +kernel
theorem d_Md_run_154 : decode b_Md_run 154 = .ok (.iload_n 3, 1) := by decide +kernel
theorem d_Md_run_155 : decode b_Md_run 155 = .ok (.invokevirtual 232, 3) := by decide +kernel
theorem d_Md_run_158 : decode b_Md_run 158 = .ok (.iload 4, 2) := by decide +kernel
theorem d_Md_run_160 : decode b_Md_run 160 = .ok (.bipush 13, 2) := by decide +kernel
theorem d_Md_run_162 : decode b_Md_run 162 = .ok (.if_icmp .eq 25, 3) := by decide +kernel
theorem d_Md_run_165 : decode b_Md_run 165 = .ok (.iload 4, 2) := by decide +kernel
theorem d_Md_run_167 : decode b_Md_run 167 = .ok (.bipush 9, 2) := by decide +kernel
theorem d_Md_run_169 : decode b_Md_run 169 = .ok (.if_icmp .le 26, 3) := by decide +kernel
theorem d_Md_run_172 : decode b_Md_run 172 = .ok (.iload 4, 2) := by decide +kernel
theorem d_Md_run_174 : decode b_Md_run 174 = .ok (.bipush 13, 2) := by decide +kernel
theorem d_Md_run_176 : decode b_Md_run 176 = .ok (.if_icmp .ge 19, 3) := by decide +kernel
theorem d_Md_run_179 : decode b_Md_run 179 = .ok (.aload_n 0, 1) := by decide +kernel
theorem d_Md_run_180 : decode b_Md_run 180 = .ok (.iload_n 3, 1) := by decide +kernel
theorem d_Md_run_181 : decode b_Md_run 181 = .ok (.invokevirtual 235, 3) := by decide +kernel
theorem d_Md_run_184 : decode b_Md_run 184 = .ok (.ifCond .eq 11, 3) := by decide +kernel
theorem d_Md_run_187 : decode b_Md_run 187 = .ok (.aload_n 0, 1) := by decide +kernel
theorem d_Md_run_188 : decode b_Md_run 188 = .ok (.getfield 22, 3) := by decide +kernel
theorem d_Md_run_191 : decode b_Md_run 191 = .ok (.iload_n 3, 1) := by decide +kernel
theorem d_Md_run_192 : decode b_Md_run 192 = .ok (.iaload, 1) := by decide +kernel
theorem d_Md_run_193 : decode b_Md_run 193 = .ok (.istore 5, 2) := by decide +kernel
theorem d_Md_run_195 : decode b_Md_run 195 = .ok (.iload 4, 2) := by decide +kernel
theorem d_Md_run_197 : decode b_Md_run 197 = .ok (.bipush 14, 2) := by decide +kernel
theorem d_Md_run_199 : decode b_Md_run 199 = .ok (.if_icmp .eq 10, 3) := by decide +kernel
theorem d_Md_run_202 : decode b_Md_run 202 = .ok (.iload 4, 2) := by decide +kernel
theorem d_Md_run_204 : decode b_Md_run 204 = .ok (.bipush 15, 2) := by decide +kernel
theorem d_Md_run_206 : decode b_Md_run 206 = .ok (.if_icmp .ne 20, 3) := by decide +kernel
theorem d_Md_run_209 : decode b_Md_run 209 = .ok (.aload_n 0, 1) := by decide +kernel
theorem d_Md_run_210 : decode b_Md_run 210 = .ok (.iload_n 3, 1) := by decide +kernel
theorem d_Md_run_211 : decode b_Md_run 211 = .ok (.iload 4, 2) := by decide +kernel
theorem d_Md_run_213 : decode b_Md_run 213 = .ok (.bipush 14, 2) := by decide +kernel
theorem d_Md_run_215 : decode b_Md_run 215 = .ok (.if_icmp .ne 7, 3) := by decide +kernel
theorem d_Md_run_218 : decode b_Md_run 218 = .ok (.iconst 1, 1) := by decide +kernel
theorem d_Md_run_219 : decode b_Md_run 219 = .ok (.goto 4, 3) := by decide +kernel
theorem d_Md_run_222 : decode b_Md_run 222 = .ok (.iconst 0, 1) := by decide +kernel
theorem d_Md_run_223 : decode b_Md_run 223 = .ok (.invokevirtual 238, 3) := by decide +kernel
theorem d_Md_run_226 : decode b_Md_run 226 = .ok (.iload 4, 2) := by decide +kernel
theorem d_Md_run_228 : decode b_Md_run 228 = .ok (.bipush 16, 2) := by decide +kernel
theorem d_Md_run_230 : decode b_Md_run 230 = .ok (.if_icmp .ne 13, 3) := by decide +kernel
theorem d_Md_run_233 : decode b_Md_run 233 = .ok (.aload_n 0, 1) := by decide +kernel
theorem d_Md_run_234 : decode b_Md_run 234 = .ok (.aload_n 0, 1) := by decide +kernel
theorem d_Md_run_235 : decode b_Md_run 235 = .ok (.getfield 19, 3) := by decide +kernel
theorem d_Md_run_238 : decode b_Md_run 238 = .ok (.iload_n 3, 1) := by decide +kernel
theorem d_Md_run_239 : decode b_Md_run 239 = .ok (.iaload, 1) := by decide +kernel
theorem d_Md_run_240 : decode b_Md_run 240 = .ok (.invokevirtual 242, 3) := by decide +kernel
theorem d_Md_run_243 : decode b_Md_run 243 = .ok (.iload 5, 2) := by decide +kernel
theorem d_Md_run_245 : decode b_Md_run 245 = .ok (.istore_n 3, 1) := by decide +kernel
theorem d_Md_run_246 : decode b_Md_run 246 = .ok (.aload_n 0, 1) := by decide +kernel
theorem d_Md_run_247 : decode b_Md_run 247 = .ok (.dup, 1) := by decide +kernel
theorem d_Md_run_248 : decode b_Md_run 248 = .ok (.getfield 229, 3) := by decide +kernel
theorem d_Md_run_251 : decode b_Md_run 251 = .ok (.iconst 1, 1) := by decide +kernel
theorem d_Md_run_252 : decode b_Md_run 252 = .ok (.iadd, 1) := by decide +kernel
theorem d_Md_run_253 : decode b_Md_run 253 = .ok (.putfield 229, 3) := by decide +kernel
theorem d_Md_run_256 : decode b_Md_run 256 = .ok (.goto (-186), 3) := by decide +kernel
theorem d_Md_run_259 : decode b_Md_run 259 = .ok (.aload_n 0, 1) := by decide +kernel
theorem d_Md_run_260 : decode b_Md_run 260 = .ok (.getfield 28, 3) := by decide +kernel
theorem d_Md_run_263 : decode b_Md_run 263 = .ok (.iconst 0, 1) := by decide +kernel
theorem d_Md_run_264 : decode b_Md_run 264 = .ok (.laload, 1) := by decide +kernel
theorem d_Md_run_265 : decode b_Md_run 265 = .ok (.lreturn, 1) := by decide +kernel
theorem d_Md_row_0 : decode b_Md_row 0 = .ok (.aload_n 0, 1) := by decide +kernel
theorem d_Md_row_1 : decode b_Md_row 1 = .ok (.iload_n 1, 1) := by decide +kernel
theorem d_Md_row_2 : decode b_Md_row 2 = .ok (.i2l, 1) := by decide +kernel
theorem d_Md_row_3 : decode b_Md_row 3 = .ok (.lconst 0, 1) := by decide +kernel
theorem d_Md_row_4 : decode b_Md_row 4 = .ok (.ldc2_w 60, 3) := by decide +kernel
theorem d_Md_row_7 : decode b_Md_row 7 = .ok (.invokestatic 56, 3) := by decide +kernel
theorem d_Md_row_10 : decode b_Md_row 10 = .ok (.ifCond .eq 17, 3) := by decide +kernel
theorem d_Md_row_13 : decode b_Md_row 13 = .ok (.iload_n 2, 1) := by decide +kernel
theorem d_Md_row_14 : decode b_Md_row 14 = .ok (.i2l, 1) := by decide +kernel
theorem d_Md_row_15 : decode b_Md_row 15 = .ok (.lconst 0, 1) := by decide +kernel
theorem d_Md_row_16 : decode b_Md_row 16 = .ok (.lconst 1, 1) := by decide +kernel
theorem d_Md_row_17 : decode b_Md_row 17 = .ok (.invokestatic 56, 3) := by decide +kernel
theorem d_Md_row_20 : decode b_Md_row 20 = .ok (.ifCond .eq 7, 3) := by decide +kernel
theorem d_Md_row_23 : decode b_Md_row 23 = .ok (.iconst 1, 1) := by decide +kernel
theorem d_Md_row_24 : decode b_Md_row 24 = .ok (.goto 4, 3) := by decide +kernel
theorem d_Md_row_27 : decode b_Md_row 27 = .ok (.iconst 0, 1) := by decide +kernel
theorem d_Md_row_28 : decode b_Md_row 28 = .ok (.invokevirtual 72, 3) := by decide +kernel
theorem d_Md_row_31 : decode b_Md_row 31 = .ok (.ifCond .eq 5, 3) := by decide +kernel
theorem d_Md_row_34 : decode b_Md_row 34 = .ok (.lconst 0, 1) := by decide +kernel
theorem d_Md_row_35 : decode b_Md_row 35 = .ok (.lreturn, 1) := by decide +kernel
theorem d_Md_row_36 : decode b_Md_row 36 = .ok (.aload_n 0, 1) := by decide +kernel
theorem d_Md_row_37 : decode b_Md_row 37 = .ok (.getfield 47, 3) := by decide +kernel
theorem d_Md_row_40 : decode b_Md_row 40 = .ok (.iload_n 1, 1) := by decide +kernel
theorem d_Md_row_41 : decode b_Md_row 41 = .ok (.iconst 2, 1) := by decide +kernel
theorem d_Md_row_42 : decode b_Md_row 42 = .ok (.imul, 1) := by decide +kernel
theorem d_Md_row_43 : decode b_Md_row 43 = .ok (.iload_n 2, 1) := by decide +kernel
theorem d_Md_row_44 : decode b_Md_row 44 = .ok (.iadd, 1) := by decide +kernel
theorem d_Md_row_45 : decode b_Md_row 45 = .ok (.laload, 1) := by decide +kernel
theorem d_Md_row_46 : decode b_Md_row 46 = .ok (.lreturn, 1) := by decide +kernel
theorem d_Md_fill_0 : decode b_Md_fill 0 = .ok (.aload_n 0, 1) := by decide +kernel
theorem d_Md_fill_1 : decode b_Md_fill 1 = .ok (.iload_n 1, 1) := by decide +kernel
theorem d_Md_fill_2 : decode b_Md_fill 2 = .ok (.i2l, 1) := by decide +kernel
theorem d_Md_fill_3 : decode b_Md_fill 3 = .ok (.lconst 0, 1) := by decide +kernel
theorem d_Md_fill_4 : decode b_Md_fill 4 = .ok (.ldc2_w 60, 3) := by decide +kernel
theorem d_Md_fill_7 : decode b_Md_fill 7 = .ok (.invokestatic 56, 3) := by decide +kernel
theorem d_Md_fill_10 : decode b_Md_fill 10 = .ok (.ifCond .eq 17, 3) := by decide +kernel
theorem d_Md_fill_13 : decode b_Md_fill 13 = .ok (.iload_n 2, 1) := by decide +kernel
theorem d_Md_fill_14 : decode b_Md_fill 14 = .ok (.i2l, 1) := by decide +kernel
theorem d_Md_fill_15 : decode b_Md_fill 15 = .ok (.lconst 0, 1) := by decide +kernel
theorem d_Md_fill_16 : decode b_Md_fill 16 = .ok (.lconst 1, 1) := by decide +kernel
theorem d_Md_fill_17 : decode b_Md_fill 17 = .ok (.invokestatic 56, 3) := by decide +kernel
theorem d_Md_fill_20 : decode b_Md_fill 20 = .ok (.ifCond .eq 7, 3) := by decide +kernel
theorem d_Md_fill_23 : decode b_Md_fill 23 = .ok (.iconst 1, 1) := by decide +kernel
theorem d_Md_fill_24 : decode b_Md_fill 24 = .ok (.goto 4, 3) := by decide +kernel
theorem d_Md_fill_27 : decode b_Md_fill 27 = .ok (.iconst 0, 1) := by decide +kernel
theorem d_Md_fill_28 : decode b_Md_fill 28 = .ok (.invokevirtual 72, 3) := by decide +kernel
theorem d_Md_fill_31 : decode b_Md_fill 31 = .ok (.ifCond .eq 4, 3) := by decide +kernel
theorem d_Md_fill_34 : decode b_Md_fill 34 = .ok (.return_, 1) := by decide +kernel
theorem d_Md_fill_35 : decode b_Md_fill 35 = .ok (.aload_n 0, 1) := by decide +kernel
theorem d_Md_fill_36 : decode b_Md_fill 36 = .ok (.getfield 47, 3) := by decide +kernel
theorem d_Md_fill_39 : decode b_Md_fill 39 = .ok (.iload_n 1, 1) := by decide +kernel
theorem d_Md_fill_40 : decode b_Md_fill 40 = .ok (.iconst 2, 1) := by decide +kernel
theorem d_Md_fill_41 : decode b_Md_fill 41 = .ok (.imul, 1) := by decide +kernel
theorem d_Md_fill_42 : decode b_Md_fill 42 = .ok (.iload_n 2, 1) := by decide +kernel
theorem d_Md_fill_43 : decode b_Md_fill 43 = .ok (.iadd, 1) := by decide +kernel
theorem d_Md_fill_44 : decode b_Md_fill 44 = .ok (.lload_n 3, 1) := by decide +kernel
theorem d_Md_fill_45 : decode b_Md_fill 45 = .ok (.lastore, 1) := by decide +kernel
theorem d_Md_fill_46 : decode b_Md_fill 46 = .ok (.return_, 1) := by decide +kernel
theorem d_Md_outcome_0 : decode b_Md_outcome 0 = .ok (.aload_n 0, 1) := by decide +kernel
theorem d_Md_outcome_1 : decode b_Md_outcome 1 = .ok (.aload_n 0, 1) := by decide +kernel
theorem d_Md_outcome_2 : decode b_Md_outcome 2 = .ok (.getfield 64, 3) := by decide +kernel
theorem d_Md_outcome_5 : decode b_Md_outcome 5 = .ok (.ifCond .eq 7, 3) := by decide +kernel
theorem d_Md_outcome_8 : decode b_Md_outcome 8 = .ok (.iconst 0, 1) := by decide +kernel
theorem d_Md_outcome_9 : decode b_Md_outcome 9 = .ok (.goto 4, 3) := by decide +kernel
theorem d_Md_outcome_12 : decode b_Md_outcome 12 = .ok (.iconst 1, 1) := by decide +kernel
theorem d_Md_outcome_13 : decode b_Md_outcome 13 = .ok (.putfield 50, 3) := by decide +kernel
theorem d_Md_outcome_16 : decode b_Md_outcome 16 = .ok (.aload_n 0, 1) := by decide +kernel
theorem d_Md_outcome_17 : decode b_Md_outcome 17 = .ok (.getfield 64, 3) := by decide +kernel
theorem d_Md_outcome_20 : decode b_Md_outcome 20 = .ok (.ifCond .ne 7, 3) := by decide +kernel
theorem d_Md_outcome_23 : decode b_Md_outcome 23 = .ok (.lconst 0, 1) := by decide +kernel
theorem d_Md_outcome_24 : decode b_Md_outcome 24 = .ok (.goto 18, 3) := by decide +kernel
theorem d_Md_outcome_27 : decode b_Md_outcome 27 = .ok (.iload_n 1, 1) := by decide +kernel
theorem d_Md_outcome_28 : decode b_Md_outcome 28 = .ok (.ifCond .eq 10, 3) := by decide +kernel
theorem d_Md_outcome_31 : decode b_Md_outcome 31 = .ok (.aload_n 0, 1) := by decide +kernel
theorem d_Md_outcome_32 : decode b_Md_outcome 32 = .ok (.getfield 180, 3) := by decide +kernel
theorem d_Md_outcome_35 : decode b_Md_outcome 35 = .ok (.goto 7, 3) := by decide +kernel
theorem d_Md_outcome_38 : decode b_Md_outcome 38 = .ok (.aload_n 0, 1) := by decide +kernel
theorem d_Md_outcome_39 : decode b_Md_outcome 39 = .ok (.getfield 176, 3) := by decide +kernel
theorem d_Md_outcome_42 : decode b_Md_outcome 42 = .ok (.lreturn, 1) := by decide +kernel
theorem d_Md_count_0 : decode b_Md_count 0 = .ok (.aload_n 0, 1) := by decide +kernel
theorem d_Md_count_1 : decode b_Md_count 1 = .ok (.iconst 0, 1) := by decide +kernel
theorem d_Md_count_2 : decode b_Md_count 2 = .ok (.putfield 50, 3) := by decide +kernel
theorem d_Md_count_5 : decode b_Md_count 5 = .ok (.iload_n 1, 1) := by decide +kernel
theorem d_Md_count_6 : decode b_Md_count 6 = .ok (.tableswitch 85 0 6 #[42, 47, 60, 65, 70, 75, 80], 42) := by decide +kernel
theorem d_Md_count_48 : decode b_Md_count 48 = .ok (.aload_n 0, 1) := by decide +kernel
theorem d_Md_count_49 : decode b_Md_count 49 = .ok (.getfield 76, 3) := by decide +kernel
theorem d_Md_count_52 : decode b_Md_count 52 = .ok (.ireturn, 1) := by decide +kernel
theorem d_Md_count_53 : decode b_Md_count 53 = .ok (.aload_n 0, 1) := by decide +kernel
theorem d_Md_count_54 : decode b_Md_count 54 = .ok (.getfield 64, 3) := by decide +kernel
theorem d_Md_count_57 : decode b_Md_count 57 = .ok (.ifCond .eq 7, 3) := by decide +kernel
theorem d_Md_count_60 : decode b_Md_count 60 = .ok (.iconst 1, 1) := by decide +kernel
theorem d_Md_count_61 : decode b_Md_count 61 = .ok (.goto 4, 3) := by decide +kernel
theorem d_Md_count_64 : decode b_Md_count 64 = .ok (.iconst 0, 1) := by decide +kernel
theorem d_Md_count_65 : decode b_Md_count 65 = .ok (.ireturn, 1) := by decide +kernel
theorem d_Md_count_66 : decode b_Md_count 66 = .ok (.aload_n 0, 1) := by decide +kernel
theorem d_Md_count_67 : decode b_Md_count 67 = .ok (.getfield 215, 3) := by decide +kernel
theorem d_Md_count_70 : decode b_Md_count 70 = .ok (.ireturn, 1) := by decide +kernel
theorem d_Md_count_71 : decode b_Md_count 71 = .ok (.aload_n 0, 1) := by decide +kernel
theorem d_Md_count_72 : decode b_Md_count 72 = .ok (.getfield 218, 3) := by decide +kernel
theorem d_Md_count_75 : decode b_Md_count 75 = .ok (.ireturn, 1) := by decide +kernel
theorem d_Md_count_76 : decode b_Md_count 76 = .ok (.aload_n 0, 1) := by decide +kernel
theorem d_Md_count_77 : decode b_Md_count 77 = .ok (.getfield 208, 3) := by decide +kernel
theorem d_Md_count_80 : decode b_Md_count 80 = .ok (.ireturn, 1) := by decide +kernel
theorem d_Md_count_81 : decode b_Md_count 81 = .ok (.aload_n 0, 1) := by decide +kernel
theorem d_Md_count_82 : decode b_Md_count 82 = .ok (.getfield 229, 3) := by decide +kernel
theorem d_Md_count_85 : decode b_Md_count 85 = .ok (.ireturn, 1) := by decide +kernel
theorem d_Md_count_86 : decode b_Md_count 86 = .ok (.aload_n 0, 1) := by decide +kernel
theorem d_Md_count_87 : decode b_Md_count 87 = .ok (.getfield 224, 3) := by decide +kernel
theorem d_Md_count_90 : decode b_Md_count 90 = .ok (.ireturn, 1) := by decide +kernel
theorem d_Md_count_91 : decode b_Md_count 91 = .ok (.iconst (-1), 1) := by decide +kernel
theorem d_Md_count_92 : decode b_Md_count 92 = .ok (.ireturn, 1) := by decide +kernel
end
section
theorem d_Lw_add_0 : decode b_Lw_add 0 = .ok (.aload 6, 2) := by decide +kernel
theorem d_Lw_add_2 : decode b_Lw_add 2 = .ok (.iconst 0, 1) := by decide +kernel
theorem d_Lw_add_3 : decode b_Lw_add 3 = .ok (.aload_n 0, 1) := by decide +kernel
theorem d_Lw_add_4 : decode b_Lw_add 4 = .ok (.iload_n 1, 1) := by decide +kernel
theorem d_Lw_add_5 : decode b_Lw_add 5 = .ok (.iload_n 2, 1) := by decide +kernel
theorem d_Lw_add_6 : decode b_Lw_add 6 = .ok (.iload_n 3, 1) := by decide +kernel
theorem d_Lw_add_7 : decode b_Lw_add 7 = .ok (.iload 4, 2) := by decide +kernel
theorem d_Lw_add_9 : decode b_Lw_add 9 = .ok (.iload 5, 2) := by decide +kernel
theorem d_Lw_add_11 : decode b_Lw_add 11 = .ok (.invokevirtual 7, 3) := by decide +kernel
theorem d_Lw_add_14 : decode b_Lw_add 14 = .ok (.i2l, 1) := by decide +kernel
theorem d_Lw_add_15 : decode b_Lw_add 15 = .ok (.lastore, 1) := by decide +kernel
theorem d_Lw_add_16 : decode b_Lw_add 16 = .ok (.goto 11, 3) := by decide +kernel
theorem d_Lw_add_19 : decode b_Lw_add 19 = .ok (.astore 7, 2) := by decide +kernel
theorem d_Lw_add_21 : decode b_Lw_add 21 = .ok (.iconst 1, 1) := by decide +kernel
theorem d_Lw_add_22 : decode b_Lw_add 22 = .ok (.ireturn, 1) := by decide +kernel
theorem d_Lw_add_23 : decode b_Lw_add 23 = .ok (.astore 7, 2) := by decide +kernel
theorem d_Lw_add_25 : decode b_Lw_add 25 = .ok (.iconst 2, 1) := by decide +kernel
theorem d_Lw_add_26 : decode b_Lw_add 26 = .ok (.ireturn, 1) := by decide +kernel
theorem d_Lw_add_27 : decode b_Lw_add 27 = .ok (.iconst 0, 1) := by decide +kernel
theorem d_Lw_add_28 : decode b_Lw_add 28 = .ok (.ireturn, 1) := by decide +kernel
theorem d_Lw_put_0 : decode b_Lw_put 0 = .ok (.aload_n 0, 1) := by decide +kernel
theorem d_Lw_put_1 : decode b_Lw_put 1 = .ok (.iload_n 1, 1) := by decide +kernel
theorem d_Lw_put_2 : decode b_Lw_put 2 = .ok (.iload_n 2, 1) := by decide +kernel
theorem d_Lw_put_3 : decode b_Lw_put 3 = .ok (.iload_n 3, 1) := by decide +kernel
theorem d_Lw_put_4 : decode b_Lw_put 4 = .ok (.iload 4, 2) := by decide +kernel
theorem d_Lw_put_6 : decode b_Lw_put 6 = .ok (.iload 5, 2) := by decide +kernel
theorem d_Lw_put_8 : decode b_Lw_put 8 = .ok (.iload 6, 2) := by decide +kernel
theorem d_Lw_put_10 : decode b_Lw_put 10 = .ok (.invokevirtual 17, 3) := by decide +kernel
theorem d_Lw_put_13 : decode b_Lw_put 13 = .ok (.goto 11, 3) := by decide +kernel
theorem d_Lw_put_16 : decode b_Lw_put 16 = .ok (.astore 7, 2) := by decide +kernel
theorem d_Lw_put_18 : decode b_Lw_put 18 = .ok (.iconst 1, 1) := by decide +kernel
theorem d_Lw_put_19 : decode b_Lw_put 19 = .ok (.ireturn, 1) := by decide +kernel
theorem d_Lw_put_20 : decode b_Lw_put 20 = .ok (.astore 7, 2) := by decide +kernel
theorem d_Lw_put_22 : decode b_Lw_put 22 = .ok (.iconst 2, 1) := by decide +kernel
theorem d_Lw_put_23 : decode b_Lw_put 23 = .ok (.ireturn, 1) := by decide +kernel
theorem d_Lw_put_24 : decode b_Lw_put 24 = .ok (.iconst 0, 1) := by decide +kernel
theorem d_Lw_put_25 : decode b_Lw_put 25 = .ok (.ireturn, 1) := by decide +kernel
theorem d_Lw_cut_0 : decode b_Lw_cut 0 = .ok (.aload_n 0, 1) := by decide +kernel
theorem d_Lw_cut_1 : decode b_Lw_cut 1 = .ok (.iload_n 1, 1) := by decide +kernel
theorem d_Lw_cut_2 : decode b_Lw_cut 2 = .ok (.invokevirtual 23, 3) := by decide +kernel
theorem d_Lw_cut_5 : decode b_Lw_cut 5 = .ok (.goto 6, 3) := by decide +kernel
theorem d_Lw_cut_8 : decode b_Lw_cut 8 = .ok (.astore_n 2, 1) := by decide +kernel
theorem d_Lw_cut_9 : decode b_Lw_cut 9 = .ok (.iconst 1, 1) := by decide +kernel
theorem d_Lw_cut_10 : decode b_Lw_cut 10 = .ok (.ireturn, 1) := by decide +kernel
theorem d_Lw_cut_11 : decode b_Lw_cut 11 = .ok (.iconst 0, 1) := by decide +kernel
theorem d_Lw_cut_12 : decode b_Lw_cut 12 = .ok (.ireturn, 1) := by decide +kernel
theorem d_Lw_check_0 : decode b_Lw_check 0 = .ok (.aload_n 1, 1) := by decide +kernel
theorem d_Lw_check_1 : decode b_Lw_check 1 = .ok (.iconst 0, 1) := by decide +kernel
theorem d_Lw_check_2 : decode b_Lw_check 2 = .ok (.aload_n 0, 1) := by decide +kernel
theorem d_Lw_check_3 : decode b_Lw_check 3 = .ok (.invokevirtual 27, 3) := by decide +kernel
theorem d_Lw_check_6 : decode b_Lw_check 6 = .ok (.i2l, 1) := by decide +kernel
theorem d_Lw_check_7 : decode b_Lw_check 7 = .ok (.lastore, 1) := by decide +kernel
theorem d_Lw_check_8 : decode b_Lw_check 8 = .ok (.goto 9, 3) := by decide +kernel
theorem d_Lw_check_11 : decode b_Lw_check 11 = .ok (.astore_n 2, 1) := by decide +kernel
theorem d_Lw_check_12 : decode b_Lw_check 12 = .ok (.iconst 1, 1) := by decide +kernel
theorem d_Lw_check_13 : decode b_Lw_check 13 = .ok (.ireturn, 1) := by decide +kernel
theorem d_Lw_check_14 : decode b_Lw_check 14 = .ok (.astore_n 2, 1) := by decide +kernel
theorem d_Lw_check_15 : decode b_Lw_check 15 = .ok (.iconst 2, 1) := by decide +kernel
theorem d_Lw_check_16 : decode b_Lw_check 16 = .ok (.ireturn, 1) := by decide +kernel
theorem d_Lw_check_17 : decode b_Lw_check 17 = .ok (.iconst 0, 1) := by decide +kernel
theorem d_Lw_check_18 : decode b_Lw_check 18 = .ok (.ireturn, 1) := by decide +kernel
theorem d_Lw_run_0 : decode b_Lw_run 0 = .ok (.aload_n 3, 1) := by decide +kernel
theorem d_Lw_run_1 : decode b_Lw_run 1 = .ok (.iconst 0, 1) := by decide +kernel
theorem d_Lw_run_2 : decode b_Lw_run 2 = .ok (.aload_n 0, 1) := by decide +kernel
theorem d_Lw_run_3 : decode b_Lw_run 3 = .ok (.lload_n 1, 1) := by decide +kernel
theorem d_Lw_run_4 : decode b_Lw_run 4 = .ok (.invokevirtual 33, 3) := by decide +kernel
theorem d_Lw_run_7 : decode b_Lw_run 7 = .ok (.lastore, 1) := by decide +kernel
theorem d_Lw_run_8 : decode b_Lw_run 8 = .ok (.goto 7, 3) := by decide +kernel
theorem d_Lw_run_11 : decode b_Lw_run 11 = .ok (.astore 4, 2) := by decide +kernel
theorem d_Lw_run_13 : decode b_Lw_run 13 = .ok (.iconst 1, 1) := by decide +kernel
theorem d_Lw_run_14 : decode b_Lw_run 14 = .ok (.ireturn, 1) := by decide +kernel
theorem d_Lw_run_15 : decode b_Lw_run 15 = .ok (.iconst 0, 1) := by decide +kernel
theorem d_Lw_run_16 : decode b_Lw_run 16 = .ok (.ireturn, 1) := by decide +kernel
theorem d_Lw_row_0 : decode b_Lw_row 0 = .ok (.aload_n 3, 1) := by decide +kernel
theorem d_Lw_row_1 : decode b_Lw_row 1 = .ok (.iconst 0, 1) := by decide +kernel
theorem d_Lw_row_2 : decode b_Lw_row 2 = .ok (.aload_n 0, 1) := by decide +kernel
theorem d_Lw_row_3 : decode b_Lw_row 3 = .ok (.iload_n 1, 1) := by decide +kernel
theorem d_Lw_row_4 : decode b_Lw_row 4 = .ok (.iload_n 2, 1) := by decide +kernel
theorem d_Lw_row_5 : decode b_Lw_row 5 = .ok (.invokevirtual 37, 3) := by decide +kernel
theorem d_Lw_row_8 : decode b_Lw_row 8 = .ok (.lastore, 1) := by decide +kernel
theorem d_Lw_row_9 : decode b_Lw_row 9 = .ok (.goto 7, 3) := by decide +kernel
theorem d_Lw_row_12 : decode b_Lw_row 12 = .ok (.astore 4, 2) := by decide +kernel
theorem d_Lw_row_14 : decode b_Lw_row 14 = .ok (.iconst 1, 1) := by decide +kernel
theorem d_Lw_row_15 : decode b_Lw_row 15 = .ok (.ireturn, 1) := by decide +kernel
theorem d_Lw_row_16 : decode b_Lw_row 16 = .ok (.iconst 0, 1) := by decide +kernel
theorem d_Lw_row_17 : decode b_Lw_row 17 = .ok (.ireturn, 1) := by decide +kernel
theorem d_Lw_fill_0 : decode b_Lw_fill 0 = .ok (.aload_n 0, 1) := by decide +kernel
theorem d_Lw_fill_1 : decode b_Lw_fill 1 = .ok (.iload_n 1, 1) := by decide +kernel
theorem d_Lw_fill_2 : decode b_Lw_fill 2 = .ok (.iload_n 2, 1) := by decide +kernel
theorem d_Lw_fill_3 : decode b_Lw_fill 3 = .ok (.lload_n 3, 1) := by decide +kernel
theorem d_Lw_fill_4 : decode b_Lw_fill 4 = .ok (.invokevirtual 41, 3) := by decide +kernel
theorem d_Lw_fill_7 : decode b_Lw_fill 7 = .ok (.goto 7, 3) := by decide +kernel
theorem d_Lw_fill_10 : decode b_Lw_fill 10 = .ok (.astore 5, 2) := by decide +kernel
theorem d_Lw_fill_12 : decode b_Lw_fill 12 = .ok (.iconst 1, 1) := by decide +kernel
theorem d_Lw_fill_13 : decode b_Lw_fill 13 = .ok (.ireturn, 1) := by decide +kernel
theorem d_Lw_fill_14 : decode b_Lw_fill 14 = .ok (.iconst 0, 1) := by decide +kernel
theorem d_Lw_fill_15 : decode b_Lw_fill 15 = .ok (.ireturn, 1) := by decide +kernel
theorem d_Lw_outcome_0 : decode b_Lw_outcome 0 = .ok (.aload_n 2, 1) := by decide +kernel
theorem d_Lw_outcome_1 : decode b_Lw_outcome 1 = .ok (.iconst 0, 1) := by decide +kernel
theorem d_Lw_outcome_2 : decode b_Lw_outcome 2 = .ok (.aload_n 0, 1) := by decide +kernel
theorem d_Lw_outcome_3 : decode b_Lw_outcome 3 = .ok (.iload_n 1, 1) := by decide +kernel
theorem d_Lw_outcome_4 : decode b_Lw_outcome 4 = .ok (.invokevirtual 45, 3) := by decide +kernel
theorem d_Lw_outcome_7 : decode b_Lw_outcome 7 = .ok (.lastore, 1) := by decide +kernel
theorem d_Lw_outcome_8 : decode b_Lw_outcome 8 = .ok (.goto 6, 3) := by decide +kernel
theorem d_Lw_outcome_11 : decode b_Lw_outcome 11 = .ok (.astore_n 3, 1) := by decide +kernel
theorem d_Lw_outcome_12 : decode b_Lw_outcome 12 = .ok (.iconst 1, 1) := by decide +kernel
theorem d_Lw_outcome_13 : decode b_Lw_outcome 13 = .ok (.ireturn, 1) := by decide +kernel
theorem d_Lw_outcome_14 : decode b_Lw_outcome 14 = .ok (.iconst 0, 1) := by decide +kernel
theorem d_Lw_outcome_15 : decode b_Lw_outcome 15 = .ok (.ireturn, 1) := by decide +kernel
theorem d_Lw_law_0 : decode b_Lw_law 0 = .ok (.new 8, 3) := by decide +kernel
theorem d_Lw_law_3 : decode b_Lw_law 3 = .ok (.dup, 1) := by decide +kernel
theorem d_Lw_law_4 : decode b_Lw_law 4 = .ok (.invokespecial 49, 3) := by decide +kernel
theorem d_Lw_law_7 : decode b_Lw_law 7 = .ok (.astore_n 1, 1) := by decide +kernel
theorem d_Lw_law_8 : decode b_Lw_law 8 = .ok (.new 50, 3) := by decide +kernel
theorem d_Lw_law_11 : decode b_Lw_law 11 = .ok (.dup, 1) := by decide +kernel
theorem d_Lw_law_12 : decode b_Lw_law 12 = .ok (.invokespecial 52, 3) := by decide +kernel
theorem d_Lw_law_15 : decode b_Lw_law 15 = .ok (.astore_n 2, 1) := by decide +kernel
theorem d_Lw_law_16 : decode b_Lw_law 16 = .ok (.iconst 1, 1) := by decide +kernel
theorem d_Lw_law_17 : decode b_Lw_law 17 = .ok (.newarray .long, 2) := by decide +kernel
theorem d_Lw_law_19 : decode b_Lw_law 19 = .ok (.astore_n 3, 1) := by decide +kernel
theorem d_Lw_law_20 : decode b_Lw_law 20 = .ok (.iconst 0, 1) := by decide +kernel
theorem d_Lw_law_21 : decode b_Lw_law 21 = .ok (.istore 4, 2) := by decide +kernel
theorem d_Lw_law_23 : decode b_Lw_law 23 = .ok (.iload 4, 2) := by decide +kernel
theorem d_Lw_law_25 : decode b_Lw_law 25 = .ok (.aload_n 0, 1) := by decide +kernel
theorem d_Lw_law_26 : decode b_Lw_law 26 = .ok (.arraylength, 1) := by decide +kernel
theorem d_Lw_law_27 : decode b_Lw_law 27 = .ok (.bipush 7, 2) := by decide +kernel
theorem d_Lw_law_29 : decode b_Lw_law 29 = .ok (.isub, 1) := by decide +kernel
theorem d_Lw_law_30 : decode b_Lw_law 30 = .ok (.if_icmp .gt 692, 3) := by decide +kernel
theorem d_Lw_law_33 : decode b_Lw_law 33 = .ok (.aload_n 0, 1) := by decide +kernel
theorem d_Lw_law_34 : decode b_Lw_law 34 = .ok (.iload 4, 2) := by decide +kernel
theorem d_Lw_law_36 : decode b_Lw_law 36 = .ok (.iaload, 1) := by decide +kernel
theorem d_Lw_law_37 : decode b_Lw_law 37 = .ok (.bipush 15, 2) := by decide +kernel
theorem d_Lw_law_39 : decode b_Lw_law 39 = .ok (.iand, 1) := by decide +kernel
theorem d_Lw_law_40 : decode b_Lw_law 40 = .ok (.tableswitch 676 0 8 #[52, 156, 254, 290, 334, 421, 488, 580, 651], 52) := by decide +kernel
theorem d_Lw_law_92 : decode b_Lw_law 92 = .ok (.aload_n 1, 1) := by decide +kernel
theorem d_Lw_law_93 : decode b_Lw_law 93 = .ok (.aload_n 0, 1) := by decide +kernel
theorem d_Lw_law_94 : decode b_Lw_law 94 = .ok (.iload 4, 2) := by decide +kernel
theorem d_Lw_law_96 : decode b_Lw_law 96 = .ok (.iconst 1, 1) := by decide +kernel
theorem d_Lw_law_97 : decode b_Lw_law 97 = .ok (.iadd, 1) := by decide +kernel
theorem d_Lw_law_98 : decode b_Lw_law 98 = .ok (.iaload, 1) := by decide +kernel
theorem d_Lw_law_99 : decode b_Lw_law 99 = .ok (.aload_n 0, 1) := by decide +kernel
theorem d_Lw_law_100 : decode b_Lw_law 100 = .ok (.iload 4, 2) := by decide +kernel
theorem d_Lw_law_102 : decode b_Lw_law 102 = .ok (.iconst 2, 1) := by decide +kernel
theorem d_Lw_law_103 : decode b_Lw_law 103 = .ok (.iadd, 1) := by decide +kernel
theorem d_Lw_law_104 : decode b_Lw_law 104 = .ok (.iaload, 1) := by decide +kernel
theorem d_Lw_law_105 : decode b_Lw_law 105 = .ok (.aload_n 0, 1) := by decide +kernel
theorem d_Lw_law_106 : decode b_Lw_law 106 = .ok (.iload 4, 2) := by decide +kernel
theorem d_Lw_law_108 : decode b_Lw_law 108 = .ok (.iconst 3, 1) := by decide +kernel
theorem d_Lw_law_109 : decode b_Lw_law 109 = .ok (.iadd, 1) := by decide +kernel
theorem d_Lw_law_110 : decode b_Lw_law 110 = .ok (.iaload, 1) := by decide +kernel
theorem d_Lw_law_111 : decode b_Lw_law 111 = .ok (.aload_n 0, 1) := by decide +kernel
theorem d_Lw_law_112 : decode b_Lw_law 112 = .ok (.iload 4, 2) := by decide +kernel
theorem d_Lw_law_114 : decode b_Lw_law 114 = .ok (.iconst 4, 1) := by decide +kernel
theorem d_Lw_law_115 : decode b_Lw_law 115 = .ok (.iadd, 1) := by decide +kernel
theorem d_Lw_law_116 : decode b_Lw_law 116 = .ok (.iaload, 1) := by decide +kernel
theorem d_Lw_law_117 : decode b_Lw_law 117 = .ok (.aload_n 0, 1) := by decide +kernel
theorem d_Lw_law_118 : decode b_Lw_law 118 = .ok (.iload 4, 2) := by decide +kernel
theorem d_Lw_law_120 : decode b_Lw_law 120 = .ok (.iconst 5, 1) := by decide +kernel
theorem d_Lw_law_121 : decode b_Lw_law 121 = .ok (.iadd, 1) := by decide +kernel
theorem d_Lw_law_122 : decode b_Lw_law 122 = .ok (.iaload, 1) := by decide +kernel
theorem d_Lw_law_123 : decode b_Lw_law 123 = .ok (.aload_n 3, 1) := by decide +kernel
theorem d_Lw_law_124 : decode b_Lw_law 124 = .ok (.invokestatic 53, 3) := by decide +kernel
theorem d_Lw_law_127 : decode b_Lw_law 127 = .ok (.istore 5, 2) := by decide +kernel
theorem d_Lw_law_129 : decode b_Lw_law 129 = .ok (.aload_n 2, 1) := by decide +kernel
theorem d_Lw_law_130 : decode b_Lw_law 130 = .ok (.aload_n 0, 1) := by decide +kernel
theorem d_Lw_law_131 : decode b_Lw_law 131 = .ok (.iload 4, 2) := by decide +kernel
theorem d_Lw_law_133 : decode b_Lw_law 133 = .ok (.iconst 1, 1) := by decide +kernel
theorem d_Lw_law_134 : decode b_Lw_law 134 = .ok (.iadd, 1) := by decide +kernel
theorem d_Lw_law_135 : decode b_Lw_law 135 = .ok (.iaload, 1) := by decide +kernel
theorem d_Lw_law_136 : decode b_Lw_law 136 = .ok (.aload_n 0, 1) := by decide +kernel
theorem d_Lw_law_137 : decode b_Lw_law 137 = .ok (.iload 4, 2) := by decide +kernel
theorem d_Lw_law_139 : decode b_Lw_law 139 = .ok (.iconst 2, 1) := by decide +kernel
theorem d_Lw_law_140 : decode b_Lw_law 140 = .ok (.iadd, 1) := by decide +kernel
theorem d_Lw_law_141 : decode b_Lw_law 141 = .ok (.iaload, 1) := by decide +kernel
theorem d_Lw_law_142 : decode b_Lw_law 142 = .ok (.aload_n 0, 1) := by decide +kernel
theorem d_Lw_law_143 : decode b_Lw_law 143 = .ok (.iload 4, 2) := by decide +kernel
theorem d_Lw_law_145 : decode b_Lw_law 145 = .ok (.iconst 3, 1) := by decide +kernel
theorem d_Lw_law_146 : decode b_Lw_law 146 = .ok (.iadd, 1) := by decide +kernel
theorem d_Lw_law_147 : decode b_Lw_law 147 = .ok (.iaload, 1) := by decide +kernel
theorem d_Lw_law_148 : decode b_Lw_law 148 = .ok (.aload_n 0, 1) := by decide +kernel
theorem d_Lw_law_149 : decode b_Lw_law 149 = .ok (.iload 4, 2) := by decide +kernel
theorem d_Lw_law_151 : decode b_Lw_law 151 = .ok (.iconst 4, 1) := by decide +kernel
theorem d_Lw_law_152 : decode b_Lw_law 152 = .ok (.iadd, 1) := by decide +kernel
theorem d_Lw_law_153 : decode b_Lw_law 153 = .ok (.iaload, 1) := by decide +kernel
theorem d_Lw_law_154 : decode b_Lw_law 154 = .ok (.aload_n 0, 1) := by decide +kernel
theorem d_Lw_law_155 : decode b_Lw_law 155 = .ok (.iload 4, 2) := by decide +kernel
theorem d_Lw_law_157 : decode b_Lw_law 157 = .ok (.iconst 5, 1) := by decide +kernel
theorem d_Lw_law_158 : decode b_Lw_law 158 = .ok (.iadd, 1) := by decide +kernel
theorem d_Lw_law_159 : decode b_Lw_law 159 = .ok (.iaload, 1) := by decide +kernel
theorem d_Lw_law_160 : decode b_Lw_law 160 = .ok (.invokevirtual 58, 3) := by decide +kernel
theorem d_Lw_law_163 : decode b_Lw_law 163 = .ok (.istore 6, 2) := by decide +kernel
theorem d_Lw_law_165 : decode b_Lw_law 165 = .ok (.aload_n 2, 1) := by decide +kernel
theorem d_Lw_law_166 : decode b_Lw_law 166 = .ok (.invokevirtual 59, 3) := by decide +kernel
theorem d_Lw_law_169 : decode b_Lw_law 169 = .ok (.iload 5, 2) := by decide +kernel
theorem d_Lw_law_171 : decode b_Lw_law 171 = .ok (.if_icmp .eq 5, 3) := by decide +kernel
theorem d_Lw_law_174 : decode b_Lw_law 174 = .ok (.iconst 0, 1) := by decide +kernel
theorem d_Lw_law_175 : decode b_Lw_law 175 = .ok (.ireturn, 1) := by decide +kernel
theorem d_Lw_law_176 : decode b_Lw_law 176 = .ok (.iload 5, 2) := by decide +kernel
theorem d_Lw_law_178 : decode b_Lw_law 178 = .ok (.ifCond .ne 15, 3) := by decide +kernel
theorem d_Lw_law_181 : decode b_Lw_law 181 = .ok (.aload_n 3, 1) := by decide +kernel
theorem d_Lw_law_182 : decode b_Lw_law 182 = .ok (.iconst 0, 1) := by decide +kernel
theorem d_Lw_law_183 : decode b_Lw_law 183 = .ok (.laload, 1) := by decide +kernel
theorem d_Lw_law_184 : decode b_Lw_law 184 = .ok (.iload 6, 2) := by decide +kernel
theorem d_Lw_law_186 : decode b_Lw_law 186 = .ok (.i2l, 1) := by decide +kernel
theorem d_Lw_law_187 : decode b_Lw_law 187 = .ok (.lcmp, 1) := by decide +kernel
theorem d_Lw_law_188 : decode b_Lw_law 188 = .ok (.ifCond .eq 5, 3) := by decide +kernel
theorem d_Lw_law_191 : decode b_Lw_law 191 = .ok (.iconst 0, 1) := by decide +kernel
theorem d_Lw_law_192 : decode b_Lw_law 192 = .ok (.ireturn, 1) := by decide +kernel
theorem d_Lw_law_193 : decode b_Lw_law 193 = .ok (.goto 523, 3) := by decide +kernel
theorem d_Lw_law_196 : decode b_Lw_law 196 = .ok (.aload_n 1, 1) := by decide +kernel
theorem d_Lw_law_197 : decode b_Lw_law 197 = .ok (.aload_n 0, 1) := by decide +kernel
theorem d_Lw_law_198 : decode b_Lw_law 198 = .ok (.iload 4, 2) := by decide +kernel
theorem d_Lw_law_200 : decode b_Lw_law 200 = .ok (.iconst 1, 1) := by decide +kernel
theorem d_Lw_law_201 : decode b_Lw_law 201 = .ok (.iadd, 1) := by decide +kernel
theorem d_Lw_law_202 : decode b_Lw_law 202 = .ok (.iaload, 1) := by decide +kernel
theorem d_Lw_law_203 : decode b_Lw_law 203 = .ok (.aload_n 0, 1) := by decide +kernel
theorem d_Lw_law_204 : decode b_Lw_law 204 = .ok (.iload 4, 2) := by decide +kernel
theorem d_Lw_law_206 : decode b_Lw_law 206 = .ok (.iconst 2, 1) := by decide +kernel
theorem d_Lw_law_207 : decode b_Lw_law 207 = .ok (.iadd, 1) := by decide +kernel
theorem d_Lw_law_208 : decode b_Lw_law 208 = .ok (.iaload, 1) := by decide +kernel
theorem d_Lw_law_209 : decode b_Lw_law 209 = .ok (.aload_n 0, 1) := by decide +kernel
theorem d_Lw_law_210 : decode b_Lw_law 210 = .ok (.iload 4, 2) := by decide +kernel
theorem d_Lw_law_212 : decode b_Lw_law 212 = .ok (.iconst 3, 1) := by decide +kernel
theorem d_Lw_law_213 : decode b_Lw_law 213 = .ok (.iadd, 1) := by decide +kernel
theorem d_Lw_law_214 : decode b_Lw_law 214 = .ok (.iaload, 1) := by decide +kernel
theorem d_Lw_law_215 : decode b_Lw_law 215 = .ok (.aload_n 0, 1) := by decide +kernel
theorem d_Lw_law_216 : decode b_Lw_law 216 = .ok (.iload 4, 2) := by decide +kernel
theorem d_Lw_law_218 : decode b_Lw_law 218 = .ok (.iconst 4, 1) := by decide +kernel
theorem d_Lw_law_219 : decode b_Lw_law 219 = .ok (.iadd, 1) := by decide +kernel
theorem d_Lw_law_220 : decode b_Lw_law 220 = .ok (.iaload, 1) := by decide +kernel
theorem d_Lw_law_221 : decode b_Lw_law 221 = .ok (.aload_n 0, 1) := by decide +kernel
theorem d_Lw_law_222 : decode b_Lw_law 222 = .ok (.iload 4, 2) := by decide +kernel
theorem d_Lw_law_224 : decode b_Lw_law 224 = .ok (.iconst 5, 1) := by decide +kernel
theorem d_Lw_law_225 : decode b_Lw_law 225 = .ok (.iadd, 1) := by decide +kernel
theorem d_Lw_law_226 : decode b_Lw_law 226 = .ok (.iaload, 1) := by decide +kernel
theorem d_Lw_law_227 : decode b_Lw_law 227 = .ok (.aload_n 0, 1) := by decide +kernel
theorem d_Lw_law_228 : decode b_Lw_law 228 = .ok (.iload 4, 2) := by decide +kernel
theorem d_Lw_law_230 : decode b_Lw_law 230 = .ok (.bipush 6, 2) := by decide +kernel
theorem d_Lw_law_232 : decode b_Lw_law 232 = .ok (.iadd, 1) := by decide +kernel
theorem d_Lw_law_233 : decode b_Lw_law 233 = .ok (.iaload, 1) := by decide +kernel
theorem d_Lw_law_234 : decode b_Lw_law 234 = .ok (.invokestatic 62, 3) := by decide +kernel
theorem d_Lw_law_237 : decode b_Lw_law 237 = .ok (.istore 5, 2) := by decide +kernel
theorem d_Lw_law_239 : decode b_Lw_law 239 = .ok (.aload_n 2, 1) := by decide +kernel
theorem d_Lw_law_240 : decode b_Lw_law 240 = .ok (.aload_n 0, 1) := by decide +kernel
theorem d_Lw_law_241 : decode b_Lw_law 241 = .ok (.iload 4, 2) := by decide +kernel
theorem d_Lw_law_243 : decode b_Lw_law 243 = .ok (.iconst 1, 1) := by decide +kernel
theorem d_Lw_law_244 : decode b_Lw_law 244 = .ok (.iadd, 1) := by decide +kernel
theorem d_Lw_law_245 : decode b_Lw_law 245 = .ok (.iaload, 1) := by decide +kernel
theorem d_Lw_law_246 : decode b_Lw_law 246 = .ok (.aload_n 0, 1) := by decide +kernel
theorem d_Lw_law_247 : decode b_Lw_law 247 = .ok (.iload 4, 2) := by decide +kernel
theorem d_Lw_law_249 : decode b_Lw_law 249 = .ok (.iconst 2, 1) := by decide +kernel
theorem d_Lw_law_250 : decode b_Lw_law 250 = .ok (.iadd, 1) := by decide +kernel
theorem d_Lw_law_251 : decode b_Lw_law 251 = .ok (.iaload, 1) := by decide +kernel
theorem d_Lw_law_252 : decode b_Lw_law 252 = .ok (.aload_n 0, 1) := by decide +kernel
theorem d_Lw_law_253 : decode b_Lw_law 253 = .ok (.iload 4, 2) := by decide +kernel
theorem d_Lw_law_255 : decode b_Lw_law 255 = .ok (.iconst 3, 1) := by decide +kernel
theorem d_Lw_law_256 : decode b_Lw_law 256 = .ok (.iadd, 1) := by decide +kernel
theorem d_Lw_law_257 : decode b_Lw_law 257 = .ok (.iaload, 1) := by decide +kernel
theorem d_Lw_law_258 : decode b_Lw_law 258 = .ok (.aload_n 0, 1) := by decide +kernel
theorem d_Lw_law_259 : decode b_Lw_law 259 = .ok (.iload 4, 2) := by decide +kernel
theorem d_Lw_law_261 : decode b_Lw_law 261 = .ok (.iconst 4, 1) := by decide +kernel
theorem d_Lw_law_262 : decode b_Lw_law 262 = .ok (.iadd, 1) := by decide +kernel
theorem d_Lw_law_263 : decode b_Lw_law 263 = .ok (.iaload, 1) := by decide +kernel
theorem d_Lw_law_264 : decode b_Lw_law 264 = .ok (.aload_n 0, 1) := by decide +kernel
theorem d_Lw_law_265 : decode b_Lw_law 265 = .ok (.iload 4, 2) := by decide +kernel
theorem d_Lw_law_267 : decode b_Lw_law 267 = .ok (.iconst 5, 1) := by decide +kernel
theorem d_Lw_law_268 : decode b_Lw_law 268 = .ok (.iadd, 1) := by decide +kernel
theorem d_Lw_law_269 : decode b_Lw_law 269 = .ok (.iaload, 1) := by decide +kernel
theorem d_Lw_law_270 : decode b_Lw_law 270 = .ok (.aload_n 0, 1) := by decide +kernel
theorem d_Lw_law_271 : decode b_Lw_law 271 = .ok (.iload 4, 2) := by decide +kernel
theorem d_Lw_law_273 : decode b_Lw_law 273 = .ok (.bipush 6, 2) := by decide +kernel
theorem d_Lw_law_275 : decode b_Lw_law 275 = .ok (.iadd, 1) := by decide +kernel
theorem d_Lw_law_276 : decode b_Lw_law 276 = .ok (.iaload, 1) := by decide +kernel
theorem d_Lw_law_277 : decode b_Lw_law 277 = .ok (.invokevirtual 65, 3) := by decide +kernel
theorem d_Lw_law_280 : decode b_Lw_law 280 = .ok (.aload_n 2, 1) := by decide +kernel
theorem d_Lw_law_281 : decode b_Lw_law 281 = .ok (.invokevirtual 59, 3) := by decide +kernel
theorem d_Lw_law_284 : decode b_Lw_law 284 = .ok (.iload 5, 2) := by decide +kernel
theorem d_Lw_law_286 : decode b_Lw_law 286 = .ok (.if_icmp .eq 5, 3) := by decide +kernel
theorem d_Lw_law_289 : decode b_Lw_law 289 = .ok (.iconst 0, 1) := by decide +kernel
theorem d_Lw_law_290 : decode b_Lw_law 290 = .ok (.ireturn, 1) := by decide +kernel
theorem d_Lw_law_291 : decode b_Lw_law 291 = .ok (.goto 425, 3) := by decide +kernel
theorem d_Lw_law_294 : decode b_Lw_law 294 = .ok (.aload_n 1, 1) := by decide +kernel
theorem d_Lw_law_295 : decode b_Lw_law 295 = .ok (.aload_n 0, 1) := by decide +kernel
theorem d_Lw_law_296 : decode b_Lw_law 296 = .ok (.iload 4, 2) := by decide +kernel
theorem d_Lw_law_298 : decode b_Lw_law 298 = .ok (.iconst 1, 1) := by decide +kernel
theorem d_Lw_law_299 : decode b_Lw_law 299 = .ok (.iadd, 1) := by decide +kernel
theorem d_Lw_law_300 : decode b_Lw_law 300 = .ok (.iaload, 1) := by decide +kernel
theorem d_Lw_law_301 : decode b_Lw_law 301 = .ok (.invokestatic 66, 3) := by decide +kernel
theorem d_Lw_law_304 : decode b_Lw_law 304 = .ok (.istore 5, 2) := by decide +kernel
theorem d_Lw_law_306 : decode b_Lw_law 306 = .ok (.aload_n 2, 1) := by decide +kernel
theorem d_Lw_law_307 : decode b_Lw_law 307 = .ok (.aload_n 0, 1) := by decide +kernel
theorem d_Lw_law_308 : decode b_Lw_law 308 = .ok (.iload 4, 2) := by decide +kernel
theorem d_Lw_law_310 : decode b_Lw_law 310 = .ok (.iconst 1, 1) := by decide +kernel
theorem d_Lw_law_311 : decode b_Lw_law 311 = .ok (.iadd, 1) := by decide +kernel
theorem d_Lw_law_312 : decode b_Lw_law 312 = .ok (.iaload, 1) := by decide +kernel
theorem d_Lw_law_313 : decode b_Lw_law 313 = .ok (.invokevirtual 69, 3) := by decide +kernel
theorem d_Lw_law_316 : decode b_Lw_law 316 = .ok (.aload_n 2, 1) := by decide +kernel
theorem d_Lw_law_317 : decode b_Lw_law 317 = .ok (.invokevirtual 59, 3) := by decide +kernel
theorem d_Lw_law_320 : decode b_Lw_law 320 = .ok (.iload 5, 2) := by decide +kernel
theorem d_Lw_law_322 : decode b_Lw_law 322 = .ok (.if_icmp .eq 5, 3) := by decide +kernel
theorem d_Lw_law_325 : decode b_Lw_law 325 = .ok (.iconst 0, 1) := by decide +kernel
theorem d_Lw_law_326 : decode b_Lw_law 326 = .ok (.ireturn, 1) := by decide +kernel
theorem d_Lw_law_327 : decode b_Lw_law 327 = .ok (.goto 389, 3) := by decide +kernel
theorem d_Lw_law_330 : decode b_Lw_law 330 = .ok (.aload_n 1, 1) := by decide +kernel
theorem d_Lw_law_331 : decode b_Lw_law 331 = .ok (.aload_n 3, 1) := by decide +kernel
theorem d_Lw_law_332 : decode b_Lw_law 332 = .ok (.invokestatic 70, 3) := by decide +kernel
theorem d_Lw_law_335 : decode b_Lw_law 335 = .ok (.istore 5, 2) := by decide +kernel
theorem d_Lw_law_337 : decode b_Lw_law 337 = .ok (.aload_n 2, 1) := by decide +kernel
theorem d_Lw_law_338 : decode b_Lw_law 338 = .ok (.invokevirtual 73, 3) := by decide +kernel
theorem d_Lw_law_341 : decode b_Lw_law 341 = .ok (.istore 6, 2) := by decide +kernel
theorem d_Lw_law_343 : decode b_Lw_law 343 = .ok (.aload_n 2, 1) := by decide +kernel
theorem d_Lw_law_344 : decode b_Lw_law 344 = .ok (.invokevirtual 59, 3) := by decide +kernel
theorem d_Lw_law_347 : decode b_Lw_law 347 = .ok (.iload 5, 2) := by decide +kernel
theorem d_Lw_law_349 : decode b_Lw_law 349 = .ok (.if_icmp .eq 5, 3) := by decide +kernel
theorem d_Lw_law_352 : decode b_Lw_law 352 = .ok (.iconst 0, 1) := by decide +kernel
theorem d_Lw_law_353 : decode b_Lw_law 353 = .ok (.ireturn, 1) := by decide +kernel
theorem d_Lw_law_354 : decode b_Lw_law 354 = .ok (.iload 5, 2) := by decide +kernel
theorem d_Lw_law_356 : decode b_Lw_law 356 = .ok (.ifCond .ne 15, 3) := by decide +kernel
theorem d_Lw_law_359 : decode b_Lw_law 359 = .ok (.aload_n 3, 1) := by decide +kernel
theorem d_Lw_law_360 : decode b_Lw_law 360 = .ok (.iconst 0, 1) := by decide +kernel
theorem d_Lw_law_361 : decode b_Lw_law 361 = .ok (.laload, 1) := by decide +kernel
theorem d_Lw_law_362 : decode b_Lw_law 362 = .ok (.iload 6, 2) := by decide +kernel
theorem d_Lw_law_364 : decode b_Lw_law 364 = .ok (.i2l, 1) := by decide +kernel
theorem d_Lw_law_365 : decode b_Lw_law 365 = .ok (.lcmp, 1) := by decide +kernel
theorem d_Lw_law_366 : decode b_Lw_law 366 = .ok (.ifCond .eq 5, 3) := by decide +kernel
theorem d_Lw_law_369 : decode b_Lw_law 369 = .ok (.iconst 0, 1) := by decide +kernel
theorem d_Lw_law_370 : decode b_Lw_law 370 = .ok (.ireturn, 1) := by decide +kernel
theorem d_Lw_law_371 : decode b_Lw_law 371 = .ok (.goto 345, 3) := by decide +kernel
theorem d_Lw_law_374 : decode b_Lw_law 374 = .ok (.aload_n 1, 1) := by decide +kernel
theorem d_Lw_law_375 : decode b_Lw_law 375 = .ok (.aload_n 0, 1) := by decide +kernel
theorem d_Lw_law_376 : decode b_Lw_law 376 = .ok (.iload 4, 2) := by decide +kernel
theorem d_Lw_law_378 : decode b_Lw_law 378 = .ok (.iconst 1, 1) := by decide +kernel
theorem d_Lw_law_379 : decode b_Lw_law 379 = .ok (.iadd, 1) := by decide +kernel
theorem d_Lw_law_380 : decode b_Lw_law 380 = .ok (.iaload, 1) := by decide +kernel
theorem d_Lw_law_381 : decode b_Lw_law 381 = .ok (.i2l, 1) := by decide +kernel
theorem d_Lw_law_382 : decode b_Lw_law 382 = .ok (.bipush 32, 2) := by decide +kernel
theorem d_Lw_law_384 : decode b_Lw_law 384 = .ok (.lshl, 1) := by decide +kernel
theorem d_Lw_law_385 : decode b_Lw_law 385 = .ok (.aload_n 0, 1) := by decide +kernel
theorem d_Lw_law_386 : decode b_Lw_law 386 = .ok (.iload 4, 2) := by decide +kernel
theorem d_Lw_law_388 : decode b_Lw_law 388 = .ok (.iconst 2, 1) := by decide +kernel
theorem d_Lw_law_389 : decode b_Lw_law 389 = .ok (.iadd, 1) := by decide +kernel
theorem d_Lw_law_390 : decode b_Lw_law 390 = .ok (.iaload, 1) := by decide +kernel
theorem d_Lw_law_391 : decode b_Lw_law 391 = .ok (.i2l, 1) := by decide +kernel
theorem d_Lw_law_392 : decode b_Lw_law 392 = .ok (.ldc2_w 74, 3) := by decide +kernel
theorem d_Lw_law_395 : decode b_Lw_law 395 = .ok (.land, 1) := by decide +kernel
theorem d_Lw_law_396 : decode b_Lw_law 396 = .ok (.lor, 1) := by decide +kernel
theorem d_Lw_law_397 : decode b_Lw_law 397 = .ok (.aload_n 3, 1) := by decide +kernel
theorem d_Lw_law_398 : decode b_Lw_law 398 = .ok (.invokestatic 76, 3) := by decide +kernel
theorem d_Lw_law_401 : decode b_Lw_law 401 = .ok (.istore 5, 2) := by decide +kernel
theorem d_Lw_law_403 : decode b_Lw_law 403 = .ok (.aload_n 2, 1) := by decide +kernel
theorem d_Lw_law_404 : decode b_Lw_law 404 = .ok (.aload_n 0, 1) := by decide +kernel
theorem d_Lw_law_405 : decode b_Lw_law 405 = .ok (.iload 4, 2) := by decide +kernel
theorem d_Lw_law_407 : decode b_Lw_law 407 = .ok (.iconst 1, 1) := by decide +kernel
theorem d_Lw_law_408 : decode b_Lw_law 408 = .ok (.iadd, 1) := by decide +kernel
theorem d_Lw_law_409 : decode b_Lw_law 409 = .ok (.iaload, 1) := by decide +kernel
theorem d_Lw_law_410 : decode b_Lw_law 410 = .ok (.i2l, 1) := by decide +kernel
theorem d_Lw_law_411 : decode b_Lw_law 411 = .ok (.bipush 32, 2) := by decide +kernel
theorem d_Lw_law_413 : decode b_Lw_law 413 = .ok (.lshl, 1) := by decide +kernel
theorem d_Lw_law_414 : decode b_Lw_law 414 = .ok (.aload_n 0, 1) := by decide +kernel
theorem d_Lw_law_415 : decode b_Lw_law 415 = .ok (.iload 4, 2) := by decide +kernel
theorem d_Lw_law_417 : decode b_Lw_law 417 = .ok (.iconst 2, 1) := by decide +kernel
theorem d_Lw_law_418 : decode b_Lw_law 418 = .ok (.iadd, 1) := by decide +kernel
theorem d_Lw_law_419 : decode b_Lw_law 419 = .ok (.iaload, 1) := by decide +kernel
theorem d_Lw_law_420 : decode b_Lw_law 420 = .ok (.i2l, 1) := by decide +kernel
theorem d_Lw_law_421 : decode b_Lw_law 421 = .ok (.ldc2_w 74, 3) := by decide +kernel
theorem d_Lw_law_424 : decode b_Lw_law 424 = .ok (.land, 1) := by decide +kernel
theorem d_Lw_law_425 : decode b_Lw_law 425 = .ok (.lor, 1) := by decide +kernel
theorem d_Lw_law_426 : decode b_Lw_law 426 = .ok (.invokevirtual 79, 3) := by decide +kernel
theorem d_Lw_law_429 : decode b_Lw_law 429 = .ok (.lstore 6, 2) := by decide +kernel
theorem d_Lw_law_431 : decode b_Lw_law 431 = .ok (.aload_n 2, 1) := by decide +kernel
theorem d_Lw_law_432 : decode b_Lw_law 432 = .ok (.invokevirtual 59, 3) := by decide +kernel
theorem d_Lw_law_435 : decode b_Lw_law 435 = .ok (.iload 5, 2) := by decide +kernel
theorem d_Lw_law_437 : decode b_Lw_law 437 = .ok (.if_icmp .eq 5, 3) := by decide +kernel
theorem d_Lw_law_440 : decode b_Lw_law 440 = .ok (.iconst 0, 1) := by decide +kernel
theorem d_Lw_law_441 : decode b_Lw_law 441 = .ok (.ireturn, 1) := by decide +kernel
theorem d_Lw_law_442 : decode b_Lw_law 442 = .ok (.iload 5, 2) := by decide +kernel
theorem d_Lw_law_444 : decode b_Lw_law 444 = .ok (.ifCond .ne 14, 3) := by decide +kernel
theorem d_Lw_law_447 : decode b_Lw_law 447 = .ok (.aload_n 3, 1) := by decide +kernel
theorem d_Lw_law_448 : decode b_Lw_law 448 = .ok (.iconst 0, 1) := by decide +kernel
theorem d_Lw_law_449 : decode b_Lw_law 449 = .ok (.laload, 1) := by decide +kernel
theorem d_Lw_law_450 : decode b_Lw_law 450 = .ok (.lload 6, 2) := by decide +kernel
theorem d_Lw_law_452 : decode b_Lw_law 452 = .ok (.lcmp, 1) := by decide +kernel
theorem d_Lw_law_453 : decode b_Lw_law 453 = .ok (.ifCond .eq 5, 3) := by decide +kernel
theorem d_Lw_law_456 : decode b_Lw_law 456 = .ok (.iconst 0, 1) := by decide +kernel
theorem d_Lw_law_457 : decode b_Lw_law 457 = .ok (.ireturn, 1) := by decide +kernel
theorem d_Lw_law_458 : decode b_Lw_law 458 = .ok (.goto 258, 3) := by decide +kernel
theorem d_Lw_law_461 : decode b_Lw_law 461 = .ok (.aload_n 1, 1) := by decide +kernel
theorem d_Lw_law_462 : decode b_Lw_law 462 = .ok (.aload_n 0, 1) := by decide +kernel
theorem d_Lw_law_463 : decode b_Lw_law 463 = .ok (.iload 4, 2) := by decide +kernel
theorem d_Lw_law_465 : decode b_Lw_law 465 = .ok (.iconst 1, 1) := by decide +kernel
theorem d_Lw_law_466 : decode b_Lw_law 466 = .ok (.iadd, 1) := by decide +kernel
theorem d_Lw_law_467 : decode b_Lw_law 467 = .ok (.iaload, 1) := by decide +kernel
theorem d_Lw_law_468 : decode b_Lw_law 468 = .ok (.aload_n 0, 1) := by decide +kernel
theorem d_Lw_law_469 : decode b_Lw_law 469 = .ok (.iload 4, 2) := by decide +kernel
theorem d_Lw_law_471 : decode b_Lw_law 471 = .ok (.iconst 2, 1) := by decide +kernel
theorem d_Lw_law_472 : decode b_Lw_law 472 = .ok (.iadd, 1) := by decide +kernel
theorem d_Lw_law_473 : decode b_Lw_law 473 = .ok (.iaload, 1) := by decide +kernel
theorem d_Lw_law_474 : decode b_Lw_law 474 = .ok (.aload_n 3, 1) := by decide +kernel
theorem d_Lw_law_475 : decode b_Lw_law 475 = .ok (.invokestatic 80, 3) := by decide +kernel
theorem d_Lw_law_478 : decode b_Lw_law 478 = .ok (.istore 5, 2) := by decide +kernel
theorem d_Lw_law_480 : decode b_Lw_law 480 = .ok (.aload_n 2, 1) := by decide +kernel
theorem d_Lw_law_481 : decode b_Lw_law 481 = .ok (.aload_n 0, 1) := by decide +kernel
theorem d_Lw_law_482 : decode b_Lw_law 482 = .ok (.iload 4, 2) := by decide +kernel
theorem d_Lw_law_484 : decode b_Lw_law 484 = .ok (.iconst 1, 1) := by decide +kernel
theorem d_Lw_law_485 : decode b_Lw_law 485 = .ok (.iadd, 1) := by decide +kernel
theorem d_Lw_law_486 : decode b_Lw_law 486 = .ok (.iaload, 1) := by decide +kernel
theorem d_Lw_law_487 : decode b_Lw_law 487 = .ok (.aload_n 0, 1) := by decide +kernel
theorem d_Lw_law_488 : decode b_Lw_law 488 = .ok (.iload 4, 2) := by decide +kernel
theorem d_Lw_law_490 : decode b_Lw_law 490 = .ok (.iconst 2, 1) := by decide +kernel
theorem d_Lw_law_491 : decode b_Lw_law 491 = .ok (.iadd, 1) := by decide +kernel
theorem d_Lw_law_492 : decode b_Lw_law 492 = .ok (.iaload, 1) := by decide +kernel
theorem d_Lw_law_493 : decode b_Lw_law 493 = .ok (.invokevirtual 83, 3) := by decide +kernel
theorem d_Lw_law_496 : decode b_Lw_law 496 = .ok (.lstore 6, 2) := by decide +kernel
theorem d_Lw_law_498 : decode b_Lw_law 498 = .ok (.aload_n 2, 1) := by decide +kernel
theorem d_Lw_law_499 : decode b_Lw_law 499 = .ok (.invokevirtual 59, 3) := by decide +kernel
theorem d_Lw_law_502 : decode b_Lw_law 502 = .ok (.iload 5, 2) := by decide +kernel
theorem d_Lw_law_504 : decode b_Lw_law 504 = .ok (.if_icmp .eq 5, 3) := by decide +kernel
theorem d_Lw_law_507 : decode b_Lw_law 507 = .ok (.iconst 0, 1) := by decide +kernel
theorem d_Lw_law_508 : decode b_Lw_law 508 = .ok (.ireturn, 1) := by decide +kernel
theorem d_Lw_law_509 : decode b_Lw_law 509 = .ok (.iload 5, 2) := by decide +kernel
theorem d_Lw_law_511 : decode b_Lw_law 511 = .ok (.ifCond .ne 14, 3) := by decide +kernel
theorem d_Lw_law_514 : decode b_Lw_law 514 = .ok (.aload_n 3, 1) := by decide +kernel
theorem d_Lw_law_515 : decode b_Lw_law 515 = .ok (.iconst 0, 1) := by decide +kernel
theorem d_Lw_law_516 : decode b_Lw_law 516 = .ok (.laload, 1) := by decide +kernel
theorem d_Lw_law_517 : decode b_Lw_law 517 = .ok (.lload 6, 2) := by decide +kernel
theorem d_Lw_law_519 : decode b_Lw_law 519 = .ok (.lcmp, 1) := by decide +kernel
theorem d_Lw_law_520 : decode b_Lw_law 520 = .ok (.ifCond .eq 5, 3) := by decide +kernel
theorem d_Lw_law_523 : decode b_Lw_law 523 = .ok (.iconst 0, 1) := by decide +kernel
theorem d_Lw_law_524 : decode b_Lw_law 524 = .ok (.ireturn, 1) := by decide +kernel
theorem d_Lw_law_525 : decode b_Lw_law 525 = .ok (.goto 191, 3) := by decide +kernel
theorem d_Lw_law_528 : decode b_Lw_law 528 = .ok (.aload_n 1, 1) := by decide +kernel
theorem d_Lw_law_529 : decode b_Lw_law 529 = .ok (.aload_n 0, 1) := by decide +kernel
theorem d_Lw_law_530 : decode b_Lw_law 530 = .ok (.iload 4, 2) := by decide +kernel
theorem d_Lw_law_532 : decode b_Lw_law 532 = .ok (.iconst 1, 1) := by decide +kernel
theorem d_Lw_law_533 : decode b_Lw_law 533 = .ok (.iadd, 1) := by decide +kernel
theorem d_Lw_law_534 : decode b_Lw_law 534 = .ok (.iaload, 1) := by decide +kernel
theorem d_Lw_law_535 : decode b_Lw_law 535 = .ok (.aload_n 0, 1) := by decide +kernel
theorem d_Lw_law_536 : decode b_Lw_law 536 = .ok (.iload 4, 2) := by decide +kernel
theorem d_Lw_law_538 : decode b_Lw_law 538 = .ok (.iconst 2, 1) := by decide +kernel
theorem d_Lw_law_539 : decode b_Lw_law 539 = .ok (.iadd, 1) := by decide +kernel
theorem d_Lw_law_540 : decode b_Lw_law 540 = .ok (.iaload, 1) := by decide +kernel
theorem d_Lw_law_541 : decode b_Lw_law 541 = .ok (.aload_n 0, 1) := by decide +kernel
theorem d_Lw_law_542 : decode b_Lw_law 542 = .ok (.iload 4, 2) := by decide +kernel
theorem d_Lw_law_544 : decode b_Lw_law 544 = .ok (.iconst 3, 1) := by decide +kernel
theorem d_Lw_law_545 : decode b_Lw_law 545 = .ok (.iadd, 1) := by decide +kernel
theorem d_Lw_law_546 : decode b_Lw_law 546 = .ok (.iaload, 1) := by decide +kernel
theorem d_Lw_law_547 : decode b_Lw_law 547 = .ok (.i2l, 1) := by decide +kernel
theorem d_Lw_law_548 : decode b_Lw_law 548 = .ok (.bipush 32, 2) := by decide +kernel
theorem d_Lw_law_550 : decode b_Lw_law 550 = .ok (.lshl, 1) := by decide +kernel
theorem d_Lw_law_551 : decode b_Lw_law 551 = .ok (.aload_n 0, 1) := by decide +kernel
theorem d_Lw_law_552 : decode b_Lw_law 552 = .ok (.iload 4, 2) := by decide +kernel
theorem d_Lw_law_554 : decode b_Lw_law 554 = .ok (.iconst 4, 1) := by decide +kernel
theorem d_Lw_law_555 : decode b_Lw_law 555 = .ok (.iadd, 1) := by decide +kernel
theorem d_Lw_law_556 : decode b_Lw_law 556 = .ok (.iaload, 1) := by decide +kernel
theorem d_Lw_law_557 : decode b_Lw_law 557 = .ok (.i2l, 1) := by decide +kernel
theorem d_Lw_law_558 : decode b_Lw_law 558 = .ok (.ldc2_w 74, 3) := by decide +kernel
theorem d_Lw_law_561 : decode b_Lw_law 561 = .ok (.land, 1) := by decide +kernel
theorem d_Lw_law_562 : decode b_Lw_law 562 = .ok (.lor, 1) := by decide +kernel
theorem d_Lw_law_563 : decode b_Lw_law 563 = .ok (.invokestatic 84, 3) := by decide +kernel
theorem d_Lw_law_566 : decode b_Lw_law 566 = .ok (.istore 5, 2) := by decide +kernel
theorem d_Lw_law_568 : decode b_Lw_law 568 = .ok (.aload_n 2, 1) := by decide +kernel
theorem d_Lw_law_569 : decode b_Lw_law 569 = .ok (.aload_n 0, 1) := by decide +kernel
theorem d_Lw_law_570 : decode b_Lw_law 570 = .ok (.iload 4, 2) := by decide +kernel
theorem d_Lw_law_572 : decode b_Lw_law 572 = .ok (.iconst 1, 1) := by decide +kernel
theorem d_Lw_law_573 : decode b_Lw_law 573 = .ok (.iadd, 1) := by decide +kernel
theorem d_Lw_law_574 : decode b_Lw_law 574 = .ok (.iaload, 1) := by decide +kernel
theorem d_Lw_law_575 : decode b_Lw_law 575 = .ok (.aload_n 0, 1) := by decide +kernel
theorem d_Lw_law_576 : decode b_Lw_law 576 = .ok (.iload 4, 2) := by decide +kernel
theorem d_Lw_law_578 : decode b_Lw_law 578 = .ok (.iconst 2, 1) := by decide +kernel
theorem d_Lw_law_579 : decode b_Lw_law 579 = .ok (.iadd, 1) := by decide +kernel
theorem d_Lw_law_580 : decode b_Lw_law 580 = .ok (.iaload, 1) := by decide +kernel
theorem d_Lw_law_581 : decode b_Lw_law 581 = .ok (.aload_n 0, 1) := by decide +kernel
theorem d_Lw_law_582 : decode b_Lw_law 582 = .ok (.iload 4, 2) := by decide +kernel
theorem d_Lw_law_584 : decode b_Lw_law 584 = .ok (.iconst 3, 1) := by decide +kernel
theorem d_Lw_law_585 : decode b_Lw_law 585 = .ok (.iadd, 1) := by decide +kernel
theorem d_Lw_law_586 : decode b_Lw_law 586 = .ok (.iaload, 1) := by decide +kernel
theorem d_Lw_law_587 : decode b_Lw_law 587 = .ok (.i2l, 1) := by decide +kernel
theorem d_Lw_law_588 : decode b_Lw_law 588 = .ok (.bipush 32, 2) := by decide +kernel
theorem d_Lw_law_590 : decode b_Lw_law 590 = .ok (.lshl, 1) := by decide +kernel
theorem d_Lw_law_591 : decode b_Lw_law 591 = .ok (.aload_n 0, 1) := by decide +kernel
theorem d_Lw_law_592 : decode b_Lw_law 592 = .ok (.iload 4, 2) := by decide +kernel
theorem d_Lw_law_594 : decode b_Lw_law 594 = .ok (.iconst 4, 1) := by decide +kernel
theorem d_Lw_law_595 : decode b_Lw_law 595 = .ok (.iadd, 1) := by decide +kernel
theorem d_Lw_law_596 : decode b_Lw_law 596 = .ok (.iaload, 1) := by decide +kernel
theorem d_Lw_law_597 : decode b_Lw_law 597 = .ok (.i2l, 1) := by decide +kernel
theorem d_Lw_law_598 : decode b_Lw_law 598 = .ok (.ldc2_w 74, 3) := by decide +kernel
theorem d_Lw_law_601 : decode b_Lw_law 601 = .ok (.land, 1) := by decide +kernel
theorem d_Lw_law_602 : decode b_Lw_law 602 = .ok (.lor, 1) := by decide +kernel
theorem d_Lw_law_603 : decode b_Lw_law 603 = .ok (.invokevirtual 87, 3) := by decide +kernel
theorem d_Lw_law_606 : decode b_Lw_law 606 = .ok (.aload_n 2, 1) := by decide +kernel
theorem d_Lw_law_607 : decode b_Lw_law 607 = .ok (.invokevirtual 59, 3) := by decide +kernel
theorem d_Lw_law_610 : decode b_Lw_law 610 = .ok (.iload 5, 2) := by decide +kernel
theorem d_Lw_law_612 : decode b_Lw_law 612 = .ok (.if_icmp .eq 5, 3) := by decide +kernel
theorem d_Lw_law_615 : decode b_Lw_law 615 = .ok (.iconst 0, 1) := by decide +kernel
theorem d_Lw_law_616 : decode b_Lw_law 616 = .ok (.ireturn, 1) := by decide +kernel
theorem d_Lw_law_617 : decode b_Lw_law 617 = .ok (.goto 99, 3) := by decide +kernel
theorem d_Lw_law_620 : decode b_Lw_law 620 = .ok (.aload_n 1, 1) := by decide +kernel
theorem d_Lw_law_621 : decode b_Lw_law 621 = .ok (.aload_n 0, 1) := by decide +kernel
theorem d_Lw_law_622 : decode b_Lw_law 622 = .ok (.iload 4, 2) := by decide +kernel
theorem d_Lw_law_624 : decode b_Lw_law 624 = .ok (.iconst 1, 1) := by decide +kernel
theorem d_Lw_law_625 : decode b_Lw_law 625 = .ok (.iadd, 1) := by decide +kernel
theorem d_Lw_law_626 : decode b_Lw_law 626 = .ok (.iaload, 1) := by decide +kernel
theorem d_Lw_law_627 : decode b_Lw_law 627 = .ok (.ifCond .eq 7, 3) := by decide +kernel
theorem d_Lw_law_630 : decode b_Lw_law 630 = .ok (.iconst 1, 1) := by decide +kernel
theorem d_Lw_law_631 : decode b_Lw_law 631 = .ok (.goto 4, 3) := by decide +kernel
theorem d_Lw_law_634 : decode b_Lw_law 634 = .ok (.iconst 0, 1) := by decide +kernel
theorem d_Lw_law_635 : decode b_Lw_law 635 = .ok (.aload_n 3, 1) := by decide +kernel
theorem d_Lw_law_636 : decode b_Lw_law 636 = .ok (.invokestatic 88, 3) := by decide +kernel
theorem d_Lw_law_639 : decode b_Lw_law 639 = .ok (.istore 5, 2) := by decide +kernel
theorem d_Lw_law_641 : decode b_Lw_law 641 = .ok (.aload_n 2, 1) := by decide +kernel
theorem d_Lw_law_642 : decode b_Lw_law 642 = .ok (.aload_n 0, 1) := by decide +kernel
theorem d_Lw_law_643 : decode b_Lw_law 643 = .ok (.iload 4, 2) := by decide +kernel
theorem d_Lw_law_645 : decode b_Lw_law 645 = .ok (.iconst 1, 1) := by decide +kernel
theorem d_Lw_law_646 : decode b_Lw_law 646 = .ok (.iadd, 1) := by decide +kernel
theorem d_Lw_law_647 : decode b_Lw_law 647 = .ok (.iaload, 1) := by decide +kernel
theorem d_Lw_law_648 : decode b_Lw_law 648 = .ok (.ifCond .eq 7, 3) := by decide +kernel
theorem d_Lw_law_651 : decode b_Lw_law 651 = .ok (.iconst 1, 1) := by decide +kernel
theorem d_Lw_law_652 : decode b_Lw_law 652 = .ok (.goto 4, 3) := by decide +kernel
theorem d_Lw_law_655 : decode b_Lw_law 655 = .ok (.iconst 0, 1) := by decide +kernel
theorem d_Lw_law_656 : decode b_Lw_law 656 = .ok (.invokevirtual 91, 3) := by decide +kernel
theorem d_Lw_law_659 : decode b_Lw_law 659 = .ok (.lstore 6, 2) := by decide +kernel
theorem d_Lw_law_661 : decode b_Lw_law 661 = .ok (.aload_n 2, 1) := by decide +kernel
theorem d_Lw_law_662 : decode b_Lw_law 662 = .ok (.invokevirtual 59, 3) := by decide +kernel
theorem d_Lw_law_665 : decode b_Lw_law 665 = .ok (.iload 5, 2) := by decide +kernel
theorem d_Lw_law_667 : decode b_Lw_law 667 = .ok (.if_icmp .eq 5, 3) := by decide +kernel
theorem d_Lw_law_670 : decode b_Lw_law 670 = .ok (.iconst 0, 1) := by decide +kernel
theorem d_Lw_law_671 : decode b_Lw_law 671 = .ok (.ireturn, 1) := by decide +kernel
theorem d_Lw_law_672 : decode b_Lw_law 672 = .ok (.iload 5, 2) := by decide +kernel
theorem d_Lw_law_674 : decode b_Lw_law 674 = .ok (.ifCond .ne 14, 3) := by decide +kernel
theorem d_Lw_law_677 : decode b_Lw_law 677 = .ok (.aload_n 3, 1) := by decide +kernel
theorem d_Lw_law_678 : decode b_Lw_law 678 = .ok (.iconst 0, 1) := by decide +kernel
theorem d_Lw_law_679 : decode b_Lw_law 679 = .ok (.laload, 1) := by decide +kernel
theorem d_Lw_law_680 : decode b_Lw_law 680 = .ok (.lload 6, 2) := by decide +kernel
theorem d_Lw_law_682 : decode b_Lw_law 682 = .ok (.lcmp, 1) := by decide +kernel
theorem d_Lw_law_683 : decode b_Lw_law 683 = .ok (.ifCond .eq 5, 3) := by decide +kernel
theorem d_Lw_law_686 : decode b_Lw_law 686 = .ok (.iconst 0, 1) := by decide +kernel
theorem d_Lw_law_687 : decode b_Lw_law 687 = .ok (.ireturn, 1) := by decide +kernel
theorem d_Lw_law_688 : decode b_Lw_law 688 = .ok (.goto 28, 3) := by decide +kernel
theorem d_Lw_law_691 : decode b_Lw_law 691 = .ok (.aload_n 1, 1) := by decide +kernel
theorem d_Lw_law_692 : decode b_Lw_law 692 = .ok (.aload_n 0, 1) := by decide +kernel
theorem d_Lw_law_693 : decode b_Lw_law 693 = .ok (.iload 4, 2) := by decide +kernel
theorem d_Lw_law_695 : decode b_Lw_law 695 = .ok (.iconst 1, 1) := by decide +kernel
theorem d_Lw_law_696 : decode b_Lw_law 696 = .ok (.iadd, 1) := by decide +kernel
theorem d_Lw_law_697 : decode b_Lw_law 697 = .ok (.iaload, 1) := by decide +kernel
theorem d_Lw_law_698 : decode b_Lw_law 698 = .ok (.invokevirtual 92, 3) := by decide +kernel
theorem d_Lw_law_701 : decode b_Lw_law 701 = .ok (.aload_n 2, 1) := by decide +kernel
theorem d_Lw_law_702 : decode b_Lw_law 702 = .ok (.aload_n 0, 1) := by decide +kernel
theorem d_Lw_law_703 : decode b_Lw_law 703 = .ok (.iload 4, 2) := by decide +kernel
theorem d_Lw_law_705 : decode b_Lw_law 705 = .ok (.iconst 1, 1) := by decide +kernel
theorem d_Lw_law_706 : decode b_Lw_law 706 = .ok (.iadd, 1) := by decide +kernel
theorem d_Lw_law_707 : decode b_Lw_law 707 = .ok (.iaload, 1) := by decide +kernel
theorem d_Lw_law_708 : decode b_Lw_law 708 = .ok (.invokevirtual 96, 3) := by decide +kernel
theorem d_Lw_law_711 : decode b_Lw_law 711 = .ok (.if_icmp .eq 5, 3) := by decide +kernel
theorem d_Lw_law_714 : decode b_Lw_law 714 = .ok (.iconst 0, 1) := by decide +kernel
theorem d_Lw_law_715 : decode b_Lw_law 715 = .ok (.ireturn, 1) := by decide +kernel
theorem d_Lw_law_716 : decode b_Lw_law 716 = .ok (.iinc 4 7, 3) := by decide +kernel
theorem d_Lw_law_719 : decode b_Lw_law 719 = .ok (.goto (-696), 3) := by decide +kernel
theorem d_Lw_law_722 : decode b_Lw_law 722 = .ok (.iconst 1, 1) := by decide +kernel
theorem d_Lw_law_723 : decode b_Lw_law 723 = .ok (.ireturn, 1) := by decide +kernel
end
section
/-! WORDS: one list for all methods -/
def x_Wd : List Cond := lw_tbl.filter goodWord
theorem x_in {w : Cond} (h : w ∈ tables_1) (g : goodWord w = true) : w ∈ x_Wd := List.mem_filter.mpr ⟨List.mem_append_right _ h, g⟩
theorem x_in1 {w : Cond} {i : Nat} (h : tables_1_1[i]? = some w) (g : goodWord w = true) : w ∈ x_Wd := x_in (List.mem_append_left _ (List.mem_of_getElem? h)) g
theorem x_in2 {w : Cond} {i : Nat} (h : tables_1_2[i]? = some w) (g : goodWord w = true) : w ∈ x_Wd := x_in (List.mem_append_right _ (List.mem_append_left _ (List.mem_of_getElem? h))) g
theorem x_in3 {w : Cond} {i : Nat} (h : tables_1_3[i]? = some w) (g : goodWord w = true) : w ∈ x_Wd := x_in (List.mem_append_right _ (List.mem_append_right _ (List.mem_append_left _ (List.mem_of_getElem? h)))) g
theorem x_in4 {w : Cond} {i : Nat} (h : tables_1_4[i]? = some w) (g : goodWord w = true) : w ∈ x_Wd := x_in (List.mem_append_right _ (List.mem_append_right _ (List.mem_append_right _ (List.mem_append_left _ (List.mem_of_getElem? h))))) g
theorem x_in5 {w : Cond} {i : Nat} (h : tables_1_5[i]? = some w) (g : goodWord w = true) : w ∈ x_Wd := x_in (List.mem_append_right _ (List.mem_append_right _ (List.mem_append_right _ (List.mem_append_right _ ((List.mem_of_getElem? h)))))) g
theorem x_inS {q : MethodName × Nat} {i : Nat} (h : lw_privs[i]? = some q) (g : goodWord (Cond.selects q.1.cls q.1 q.1) = true) : Cond.selects q.1.cls q.1 q.1 ∈ x_Wd := List.mem_filter.mpr ⟨List.mem_append_left _ (List.mem_map.mpr ⟨q, List.mem_of_getElem? h, rfl⟩), g⟩
theorem q_0 : (Cond.initialized "CheckedMachineLaw") ∈ x_Wd := x_in1 (i := 0) rfl rfl
theorem q_1 : (Cond.initialized "CheckedMachine") ∈ x_Wd := x_in1 (i := 1) rfl rfl
theorem q_2 : (Cond.initialized "CheckedMachine$Program") ∈ x_Wd := x_in1 (i := 2) rfl rfl
theorem q_3 : (Cond.initialized "CheckedMachine$Step") ∈ x_Wd := x_in1 (i := 3) rfl rfl
theorem q_4 : (Cond.initialized "CheckedMachine$Checker") ∈ x_Wd := x_in1 (i := 4) rfl rfl
theorem q_5 : (Cond.initialized "CheckedMachine$Guesses") ∈ x_Wd := x_in1 (i := 5) rfl rfl
theorem q_6 : (Cond.initialized "CheckedMachine$Judge") ∈ x_Wd := x_in1 (i := 6) rfl rfl
theorem q_7 : (Cond.initialized "CheckedMachine$Effects") ∈ x_Wd := x_in1 (i := 7) rfl rfl
theorem q_8 : (Cond.initialized "CheckedMachine$Runner") ∈ x_Wd := x_in1 (i := 8) rfl rfl
theorem q_9 : (Cond.initialized "CheckedMachineModel") ∈ x_Wd := x_in1 (i := 9) rfl rfl
theorem q_10 : (Cond.initialized "java/lang/Throwable") ∈ x_Wd := x_in1 (i := 10) rfl rfl
theorem q_11 : (Cond.initialized "java/lang/Exception") ∈ x_Wd := x_in1 (i := 11) rfl rfl
theorem q_12 : (Cond.initialized "java/lang/RuntimeException") ∈ x_Wd := x_in1 (i := 12) rfl rfl
theorem q_13 : (Cond.initialized "java/lang/IllegalArgumentException") ∈ x_Wd := x_in1 (i := 13) rfl rfl
theorem q_14 : (Cond.initialized "java/lang/IllegalStateException") ∈ x_Wd := x_in1 (i := 14) rfl rfl
theorem q_15 : (Cond.initialized "java/util/NoSuchElementException") ∈ x_Wd := x_in1 (i := 15) rfl rfl
theorem q_16 : (Cond.initialized "java/lang/Math") ∈ x_Wd := x_in1 (i := 16) rfl rfl
theorem q_17 : (Cond.initialized "java/lang/System") ∈ x_Wd := x_in1 (i := 17) rfl rfl
theorem q_18 : (Cond.initialized "CheckedMachine$Fork") ∈ x_Wd := x_in1 (i := 18) rfl rfl
theorem q_19 : (Cond.initialized "java/lang/UnsupportedOperationException") ∈ x_Wd := x_in1 (i := 19) rfl rfl
theorem q_20 : (Cond.classLink "CheckedMachineLaw" (8 : Nat) "CheckedMachine") ∈ x_Wd := x_in1 (i := 20) rfl rfl
theorem q_21 : (Cond.instantiable "CheckedMachine" (4 : Nat)) ∈ x_Wd := x_in1 (i := 21) rfl rfl
theorem q_22 : (Cond.methodLink "CheckedMachineLaw" (49 : Nat) ({ cls := "CheckedMachine", name := "<init>", desc := "()V" } : Jvm.MethodName)) ∈ x_Wd := x_in1 (i := 22) rfl rfl
theorem q_23 : (Cond.instanceMethod ({ cls := "CheckedMachine", name := "<init>", desc := "()V" } : Jvm.MethodName)) ∈ x_Wd := x_in1 (i := 23) rfl rfl
theorem q_24 : (Cond.code ({ cls := "CheckedMachine", name := "<init>", desc := "()V" } : Jvm.MethodName) prog_1_method_1_code (1 : Nat) (Option.none : Option Jvm.ClassFile.FieldType)) ∈ x_Wd := x_in1 (i := 24) rfl rfl
theorem q_25 : (Cond.methodLink "CheckedMachine" (3 : Nat) ({ cls := "java/lang/Object", name := "<init>", desc := "()V" } : Jvm.MethodName)) ∈ x_Wd := x_in1 (i := 25) rfl rfl
theorem q_26 : (Cond.instanceMethod ({ cls := "java/lang/Object", name := "<init>", desc := "()V" } : Jvm.MethodName)) ∈ x_Wd := x_in1 (i := 26) rfl rfl
theorem q_27 : (Cond.code ({ cls := "java/lang/Object", name := "<init>", desc := "()V" } : Jvm.MethodName) object_method_1_code (1 : Nat) (Option.none : Option Jvm.ClassFile.FieldType)) ∈ x_Wd := x_in1 (i := 27) rfl rfl
theorem q_28 : (Cond.classLink "CheckedMachine" (9 : Nat) "CheckedMachine$Program") ∈ x_Wd := x_in1 (i := 28) rfl rfl
theorem q_29 : (Cond.instantiable "CheckedMachine$Program" (2 : Nat)) ∈ x_Wd := x_in1 (i := 29) rfl rfl
theorem q_30 : (Cond.methodLink "CheckedMachine" (11 : Nat) ({ cls := "CheckedMachine$Program", name := "<init>", desc := "()V" } : Jvm.MethodName)) ∈ x_Wd := x_in1 (i := 30) rfl rfl
theorem q_31 : (Cond.instanceMethod ({ cls := "CheckedMachine$Program", name := "<init>", desc := "()V" } : Jvm.MethodName)) ∈ x_Wd := x_in1 (i := 31) rfl rfl
theorem q_32 : (Cond.code ({ cls := "CheckedMachine$Program", name := "<init>", desc := "()V" } : Jvm.MethodName) prog_7_method_1_code (2 : Nat) (Option.none : Option Jvm.ClassFile.FieldType)) ∈ x_Wd := x_in1 (i := 32) rfl rfl
theorem q_33 : (Cond.methodLink "CheckedMachine$Program" (3 : Nat) ({ cls := "java/lang/Object", name := "<init>", desc := "()V" } : Jvm.MethodName)) ∈ x_Wd := x_in1 (i := 33) rfl rfl
theorem q_34 : (Cond.classLink "CheckedMachine$Program" (9 : Nat) "CheckedMachine$Step") ∈ x_Wd := x_in1 (i := 34) rfl rfl
theorem q_36 : (Cond.instantiable "CheckedMachine$Step" (5 : Nat)) ∈ x_Wd := x_in1 (i := 36) rfl rfl
theorem q_38 : (Cond.instanceMethod ({ cls := "CheckedMachine$Step", name := "<init>", desc := "()V" } : Jvm.MethodName)) ∈ x_Wd := x_in1 (i := 38) rfl rfl
theorem q_39 : (Cond.code ({ cls := "CheckedMachine$Step", name := "<init>", desc := "()V" } : Jvm.MethodName) prog_9_method_1_code (1 : Nat) (Option.none : Option Jvm.ClassFile.FieldType)) ∈ x_Wd := x_in1 (i := 39) rfl rfl
theorem q_40 : (Cond.methodLink "CheckedMachine$Step" (3 : Nat) ({ cls := "java/lang/Object", name := "<init>", desc := "()V" } : Jvm.MethodName)) ∈ x_Wd := x_in1 (i := 40) rfl rfl
theorem q_41 : (Cond.fieldLink "CheckedMachine$Step" (9 : Nat) "CheckedMachine$Step" "op" "I") ∈ x_Wd := x_in1 (i := 41) rfl rfl
theorem q_42 : (Cond.fieldLink "CheckedMachine$Fork" (9 : Nat) "CheckedMachine$Step" "op" "I") ∈ x_Wd := x_in1 (i := 42) rfl rfl
theorem q_43 : (Cond.fieldLink "CheckedMachine$Effects" (21 : Nat) "CheckedMachine$Step" "op" "I") ∈ x_Wd := x_in1 (i := 43) rfl rfl
theorem q_44 : (Cond.fieldLink "CheckedMachine$Judge" (61 : Nat) "CheckedMachine$Step" "op" "I") ∈ x_Wd := x_in1 (i := 44) rfl rfl
theorem q_45 : (Cond.fieldLink "CheckedMachine$Program" (30 : Nat) "CheckedMachine$Step" "op" "I") ∈ x_Wd := x_in1 (i := 45) rfl rfl
theorem q_46 : (Cond.fieldLink "CheckedMachine$Runner" (53 : Nat) "CheckedMachine$Step" "op" "I") ∈ x_Wd := x_in1 (i := 46) rfl rfl
theorem q_47 : (Cond.fieldLink "CheckedMachine$Checker" (94 : Nat) "CheckedMachine$Step" "op" "I") ∈ x_Wd := x_in1 (i := 47) rfl rfl
theorem q_48 : (Cond.fieldLink "CheckedMachine$Effects" (15 : Nat) "CheckedMachine$Step" "d" "I") ∈ x_Wd := x_in1 (i := 48) rfl rfl
theorem q_49 : (Cond.fieldLink "CheckedMachine$Fork" (21 : Nat) "CheckedMachine$Step" "d" "I") ∈ x_Wd := x_in1 (i := 49) rfl rfl
theorem q_50 : (Cond.fieldLink "CheckedMachine$Judge" (76 : Nat) "CheckedMachine$Step" "d" "I") ∈ x_Wd := x_in1 (i := 50) rfl rfl
theorem q_51 : (Cond.fieldLink "CheckedMachine$Program" (33 : Nat) "CheckedMachine$Step" "d" "I") ∈ x_Wd := x_in1 (i := 51) rfl rfl
theorem q_52 : (Cond.fieldLink "CheckedMachine$Runner" (76 : Nat) "CheckedMachine$Step" "d" "I") ∈ x_Wd := x_in1 (i := 52) rfl rfl
theorem q_53 : (Cond.fieldLink "CheckedMachine$Fork" (36 : Nat) "CheckedMachine$Step" "s" "I") ∈ x_Wd := x_in1 (i := 53) rfl rfl
theorem q_54 : (Cond.fieldLink "CheckedMachine$Effects" (33 : Nat) "CheckedMachine$Step" "s" "I") ∈ x_Wd := x_in1 (i := 54) rfl rfl
theorem q_55 : (Cond.fieldLink "CheckedMachine$Judge" (82 : Nat) "CheckedMachine$Step" "s" "I") ∈ x_Wd := x_in1 (i := 55) rfl rfl
theorem q_56 : (Cond.fieldLink "CheckedMachine$Program" (36 : Nat) "CheckedMachine$Step" "s" "I") ∈ x_Wd := x_in1 (i := 56) rfl rfl
theorem q_57 : (Cond.fieldLink "CheckedMachine$Runner" (82 : Nat) "CheckedMachine$Step" "s" "I") ∈ x_Wd := x_in1 (i := 57) rfl rfl
theorem q_58 : (Cond.fieldLink "CheckedMachine$Step" (15 : Nat) "CheckedMachine$Step" "number" "I") ∈ x_Wd := x_in1 (i := 58) rfl rfl
theorem q_59 : (Cond.fieldLink "CheckedMachine$Fork" (30 : Nat) "CheckedMachine$Step" "number" "I") ∈ x_Wd := x_in1 (i := 59) rfl rfl
theorem q_60 : (Cond.fieldLink "CheckedMachine$Effects" (24 : Nat) "CheckedMachine$Step" "number" "I") ∈ x_Wd := x_in1 (i := 60) rfl rfl
theorem q_61 : (Cond.fieldLink "CheckedMachine$Judge" (64 : Nat) "CheckedMachine$Step" "number" "I") ∈ x_Wd := x_in1 (i := 61) rfl rfl
theorem q_62 : (Cond.fieldLink "CheckedMachine$Program" (39 : Nat) "CheckedMachine$Step" "number" "I") ∈ x_Wd := x_in1 (i := 62) rfl rfl
theorem q_63 : (Cond.fieldLink "CheckedMachine$Runner" (79 : Nat) "CheckedMachine$Step" "number" "I") ∈ x_Wd := x_in1 (i := 63) rfl rfl
theorem q_64 : (Cond.fieldLink "CheckedMachine$Judge" (51 : Nat) "CheckedMachine$Step" "target" "I") ∈ x_Wd := x_in1 (i := 64) rfl rfl
theorem q_65 : (Cond.fieldLink "CheckedMachine$Program" (42 : Nat) "CheckedMachine$Step" "target" "I") ∈ x_Wd := x_in1 (i := 65) rfl rfl
theorem q_66 : (Cond.fieldLink "CheckedMachine$Runner" (66 : Nat) "CheckedMachine$Step" "target" "I") ∈ x_Wd := x_in1 (i := 66) rfl rfl
theorem q_67 : (Cond.fieldLink "CheckedMachine$Checker" (147 : Nat) "CheckedMachine$Step" "target" "I") ∈ x_Wd := x_in1 (i := 67) rfl rfl
theorem q_68 : (Cond.lays "CheckedMachine$Step" "CheckedMachine$Step" "op" "I") ∈ x_Wd := x_in1 (i := 68) rfl rfl
theorem q_69 : (Cond.soleField "CheckedMachine$Step" "op") ∈ x_Wd := x_in1 (i := 69) rfl rfl
theorem q_70 : (Cond.lays "CheckedMachine$Step" "CheckedMachine$Step" "d" "I") ∈ x_Wd := x_in1 (i := 70) rfl rfl
theorem q_71 : (Cond.soleField "CheckedMachine$Step" "d") ∈ x_Wd := x_in1 (i := 71) rfl rfl
theorem q_72 : (Cond.lays "CheckedMachine$Step" "CheckedMachine$Step" "s" "I") ∈ x_Wd := x_in1 (i := 72) rfl rfl
theorem q_73 : (Cond.soleField "CheckedMachine$Step" "s") ∈ x_Wd := x_in1 (i := 73) rfl rfl
theorem q_74 : (Cond.lays "CheckedMachine$Step" "CheckedMachine$Step" "number" "I") ∈ x_Wd := x_in1 (i := 74) rfl rfl
theorem q_75 : (Cond.soleField "CheckedMachine$Step" "number") ∈ x_Wd := x_in1 (i := 75) rfl rfl
theorem q_76 : (Cond.lays "CheckedMachine$Step" "CheckedMachine$Step" "target" "I") ∈ x_Wd := x_in1 (i := 76) rfl rfl
theorem q_77 : (Cond.soleField "CheckedMachine$Step" "target") ∈ x_Wd := x_in1 (i := 77) rfl rfl
theorem q_78 : (Cond.superclass "CheckedMachine$Step" "java/lang/Object") ∈ x_Wd := x_in1 (i := 78) rfl rfl
theorem q_79 : (Cond.fieldLink "CheckedMachine$Program" (11 : Nat) "CheckedMachine$Program" "steps" "[LCheckedMachine$Step;") ∈ x_Wd := x_in1 (i := 79) rfl rfl
theorem q_80 : (Cond.fieldLink "CheckedMachine$Program" (18 : Nat) "CheckedMachine$Program" "size" "I") ∈ x_Wd := x_in1 (i := 80) rfl rfl
theorem q_81 : (Cond.laysFinal "CheckedMachine$Program" "CheckedMachine$Program" "steps" "[LCheckedMachine$Step;") ∈ x_Wd := x_in1 (i := 81) rfl rfl
theorem q_82 : (Cond.soleField "CheckedMachine$Program" "steps") ∈ x_Wd := x_in1 (i := 82) rfl rfl
theorem q_83 : (Cond.lays "CheckedMachine$Program" "CheckedMachine$Program" "size" "I") ∈ x_Wd := x_in1 (i := 83) rfl rfl
theorem q_84 : (Cond.soleField "CheckedMachine$Program" "size") ∈ x_Wd := x_in1 (i := 84) rfl rfl
theorem q_85 : (Cond.superclass "CheckedMachine$Program" "java/lang/Object") ∈ x_Wd := x_in1 (i := 85) rfl rfl
theorem q_86 : (Cond.classLink "CheckedMachine" (16 : Nat) "CheckedMachine$Checker") ∈ x_Wd := x_in1 (i := 86) rfl rfl
theorem q_87 : (Cond.instantiable "CheckedMachine$Checker" (13 : Nat)) ∈ x_Wd := x_in1 (i := 87) rfl rfl
theorem q_88 : (Cond.methodLink "CheckedMachine" (18 : Nat) ({ cls := "CheckedMachine$Checker", name := "<init>", desc := "(LCheckedMachine$Program;)V" } : Jvm.MethodName)) ∈ x_Wd := x_in1 (i := 88) rfl rfl
theorem q_89 : (Cond.instanceMethod ({ cls := "CheckedMachine$Checker", name := "<init>", desc := "(LCheckedMachine$Program;)V" } : Jvm.MethodName)) ∈ x_Wd := x_in1 (i := 89) rfl rfl
theorem q_90 : (Cond.code ({ cls := "CheckedMachine$Checker", name := "<init>", desc := "(LCheckedMachine$Program;)V" } : Jvm.MethodName) prog_2_method_1_code (3 : Nat) (Option.none : Option Jvm.ClassFile.FieldType)) ∈ x_Wd := x_in1 (i := 90) rfl rfl
theorem q_91 : (Cond.methodLink "CheckedMachine$Checker" (3 : Nat) ({ cls := "java/lang/Object", name := "<init>", desc := "()V" } : Jvm.MethodName)) ∈ x_Wd := x_in1 (i := 91) rfl rfl
theorem q_92 : (Cond.classLink "CheckedMachine$Checker" (15 : Nat) "CheckedMachine$Guesses") ∈ x_Wd := x_in1 (i := 92) rfl rfl
theorem q_93 : (Cond.instantiable "CheckedMachine$Guesses" (3 : Nat)) ∈ x_Wd := x_in1 (i := 93) rfl rfl
theorem q_94 : (Cond.methodLink "CheckedMachine$Checker" (17 : Nat) ({ cls := "CheckedMachine$Guesses", name := "<init>", desc := "()V" } : Jvm.MethodName)) ∈ x_Wd := x_in1 (i := 94) rfl rfl
theorem q_95 : (Cond.instanceMethod ({ cls := "CheckedMachine$Guesses", name := "<init>", desc := "()V" } : Jvm.MethodName)) ∈ x_Wd := x_in1 (i := 95) rfl rfl
theorem q_96 : (Cond.code ({ cls := "CheckedMachine$Guesses", name := "<init>", desc := "()V" } : Jvm.MethodName) prog_5_method_1_code (1 : Nat) (Option.none : Option Jvm.ClassFile.FieldType)) ∈ x_Wd := x_in1 (i := 96) rfl rfl
theorem q_97 : (Cond.methodLink "CheckedMachine$Guesses" (3 : Nat) ({ cls := "java/lang/Object", name := "<init>", desc := "()V" } : Jvm.MethodName)) ∈ x_Wd := x_in1 (i := 97) rfl rfl
theorem q_98 : (Cond.fieldLink "CheckedMachine$Guesses" (9 : Nat) "CheckedMachine$Guesses" "kinds" "[I") ∈ x_Wd := x_in1 (i := 98) rfl rfl
theorem q_99 : (Cond.fieldLink "CheckedMachine$Guesses" (15 : Nat) "CheckedMachine$Guesses" "los" "[J") ∈ x_Wd := x_in1 (i := 99) rfl rfl
theorem q_100 : (Cond.fieldLink "CheckedMachine$Guesses" (19 : Nat) "CheckedMachine$Guesses" "his" "[J") ∈ x_Wd := x_in1 (i := 100) rfl rfl
theorem q_101 : (Cond.laysFinal "CheckedMachine$Guesses" "CheckedMachine$Guesses" "kinds" "[I") ∈ x_Wd := x_in1 (i := 101) rfl rfl
theorem q_102 : (Cond.soleField "CheckedMachine$Guesses" "kinds") ∈ x_Wd := x_in1 (i := 102) rfl rfl
theorem q_103 : (Cond.laysFinal "CheckedMachine$Guesses" "CheckedMachine$Guesses" "los" "[J") ∈ x_Wd := x_in1 (i := 103) rfl rfl
theorem q_104 : (Cond.soleField "CheckedMachine$Guesses" "los") ∈ x_Wd := x_in1 (i := 104) rfl rfl
theorem q_105 : (Cond.laysFinal "CheckedMachine$Guesses" "CheckedMachine$Guesses" "his" "[J") ∈ x_Wd := x_in1 (i := 105) rfl rfl
theorem q_106 : (Cond.soleField "CheckedMachine$Guesses" "his") ∈ x_Wd := x_in1 (i := 106) rfl rfl
theorem q_107 : (Cond.superclass "CheckedMachine$Guesses" "java/lang/Object") ∈ x_Wd := x_in1 (i := 107) rfl rfl
theorem q_108 : (Cond.arrayClass Jvm.ClassFile.FieldType.int) ∈ x_Wd := x_in1 (i := 108) rfl rfl
theorem q_109 : (Cond.arrayClass Jvm.ClassFile.FieldType.long) ∈ x_Wd := x_in1 (i := 109) rfl rfl
theorem q_110 : (Cond.classLink "CheckedMachine$Checker" (22 : Nat) "CheckedMachine$Judge") ∈ x_Wd := x_in1 (i := 110) rfl rfl
theorem q_111 : (Cond.instantiable "CheckedMachine$Judge" (2 : Nat)) ∈ x_Wd := x_in1 (i := 111) rfl rfl
theorem q_112 : (Cond.methodLink "CheckedMachine$Checker" (24 : Nat) ({ cls := "CheckedMachine$Judge", name := "<init>", desc := "(LCheckedMachine$Program;LCheckedMachine$Guesses;)V" } : Jvm.MethodName)) ∈ x_Wd := x_in1 (i := 112) rfl rfl
theorem q_113 : (Cond.instanceMethod ({ cls := "CheckedMachine$Judge", name := "<init>", desc := "(LCheckedMachine$Program;LCheckedMachine$Guesses;)V" } : Jvm.MethodName)) ∈ x_Wd := x_in1 (i := 113) rfl rfl
theorem q_114 : (Cond.code ({ cls := "CheckedMachine$Judge", name := "<init>", desc := "(LCheckedMachine$Program;LCheckedMachine$Guesses;)V" } : Jvm.MethodName) prog_6_method_1_code (3 : Nat) (Option.none : Option Jvm.ClassFile.FieldType)) ∈ x_Wd := x_in1 (i := 114) rfl rfl
theorem q_115 : (Cond.methodLink "CheckedMachine$Judge" (3 : Nat) ({ cls := "java/lang/Object", name := "<init>", desc := "()V" } : Jvm.MethodName)) ∈ x_Wd := x_in1 (i := 115) rfl rfl
theorem q_116 : (Cond.fieldLink "CheckedMachine$Judge" (9 : Nat) "CheckedMachine$Judge" "program" "LCheckedMachine$Program;") ∈ x_Wd := x_in1 (i := 116) rfl rfl
theorem q_117 : (Cond.fieldLink "CheckedMachine$Judge" (15 : Nat) "CheckedMachine$Judge" "now" "LCheckedMachine$Guesses;") ∈ x_Wd := x_in1 (i := 117) rfl rfl
theorem q_118 : (Cond.laysFinal "CheckedMachine$Judge" "CheckedMachine$Judge" "program" "LCheckedMachine$Program;") ∈ x_Wd := x_in1 (i := 118) rfl rfl
theorem q_119 : (Cond.soleField "CheckedMachine$Judge" "program") ∈ x_Wd := x_in1 (i := 119) rfl rfl
theorem q_120 : (Cond.laysFinal "CheckedMachine$Judge" "CheckedMachine$Judge" "now" "LCheckedMachine$Guesses;") ∈ x_Wd := x_in1 (i := 120) rfl rfl
theorem q_121 : (Cond.soleField "CheckedMachine$Judge" "now") ∈ x_Wd := x_in1 (i := 121) rfl rfl
theorem q_122 : (Cond.superclass "CheckedMachine$Judge" "java/lang/Object") ∈ x_Wd := x_in1 (i := 122) rfl rfl
theorem q_123 : (Cond.classLink "CheckedMachine$Checker" (31 : Nat) "CheckedMachine$Effects") ∈ x_Wd := x_in1 (i := 123) rfl rfl
theorem q_124 : (Cond.instantiable "CheckedMachine$Effects" (1 : Nat)) ∈ x_Wd := x_in1 (i := 124) rfl rfl
theorem q_125 : (Cond.methodLink "CheckedMachine$Checker" (33 : Nat) ({ cls := "CheckedMachine$Effects", name := "<init>", desc := "(LCheckedMachine$Guesses;)V" } : Jvm.MethodName)) ∈ x_Wd := x_in1 (i := 125) rfl rfl
theorem q_126 : (Cond.instanceMethod ({ cls := "CheckedMachine$Effects", name := "<init>", desc := "(LCheckedMachine$Guesses;)V" } : Jvm.MethodName)) ∈ x_Wd := x_in1 (i := 126) rfl rfl
theorem q_127 : (Cond.code ({ cls := "CheckedMachine$Effects", name := "<init>", desc := "(LCheckedMachine$Guesses;)V" } : Jvm.MethodName) prog_3_method_1_code (2 : Nat) (Option.none : Option Jvm.ClassFile.FieldType)) ∈ x_Wd := x_in1 (i := 127) rfl rfl
theorem q_128 : (Cond.methodLink "CheckedMachine$Effects" (3 : Nat) ({ cls := "java/lang/Object", name := "<init>", desc := "()V" } : Jvm.MethodName)) ∈ x_Wd := x_in1 (i := 128) rfl rfl
theorem q_129 : (Cond.fieldLink "CheckedMachine$Effects" (9 : Nat) "CheckedMachine$Effects" "now" "LCheckedMachine$Guesses;") ∈ x_Wd := x_in1 (i := 129) rfl rfl
theorem q_130 : (Cond.laysFinal "CheckedMachine$Effects" "CheckedMachine$Effects" "now" "LCheckedMachine$Guesses;") ∈ x_Wd := x_in1 (i := 130) rfl rfl
theorem q_131 : (Cond.soleField "CheckedMachine$Effects" "now") ∈ x_Wd := x_in1 (i := 131) rfl rfl
theorem q_132 : (Cond.superclass "CheckedMachine$Effects" "java/lang/Object") ∈ x_Wd := x_in1 (i := 132) rfl rfl
theorem q_134 : (Cond.fieldLink "CheckedMachine$Checker" (9 : Nat) "CheckedMachine$Checker" "program" "LCheckedMachine$Program;") ∈ x_Wd := x_in1 (i := 134) rfl rfl
theorem q_135 : (Cond.fieldLink "CheckedMachine$Checker" (18 : Nat) "CheckedMachine$Checker" "now" "LCheckedMachine$Guesses;") ∈ x_Wd := x_in1 (i := 135) rfl rfl
theorem q_136 : (Cond.fieldLink "CheckedMachine$Checker" (27 : Nat) "CheckedMachine$Checker" "judge" "LCheckedMachine$Judge;") ∈ x_Wd := x_in1 (i := 136) rfl rfl
theorem q_137 : (Cond.fieldLink "CheckedMachine$Checker" (36 : Nat) "CheckedMachine$Checker" "effects" "LCheckedMachine$Effects;") ∈ x_Wd := x_in1 (i := 137) rfl rfl
theorem q_138 : (Cond.fieldLink "CheckedMachine$Checker" (40 : Nat) "CheckedMachine$Checker" "left" "[LCheckedMachine$Guesses;") ∈ x_Wd := x_in1 (i := 138) rfl rfl
theorem q_139 : (Cond.fieldLink "CheckedMachine$Checker" (44 : Nat) "CheckedMachine$Checker" "open" "[Z") ∈ x_Wd := x_in1 (i := 139) rfl rfl
theorem q_140 : (Cond.fieldLink "CheckedMachine$Checker" (72 : Nat) "CheckedMachine$Checker" "verdict" "I") ∈ x_Wd := x_in1 (i := 140) rfl rfl
theorem q_141 : (Cond.fieldLink "CheckedMachine$Checker" (48 : Nat) "CheckedMachine$Checker" "looked" "I") ∈ x_Wd := x_in1 (i := 141) rfl rfl
theorem q_142 : (Cond.fieldLink "CheckedMachine$Checker" (52 : Nat) "CheckedMachine$Checker" "reason" "I") ∈ x_Wd := x_in1 (i := 142) rfl rfl
theorem q_143 : (Cond.fieldLink "CheckedMachine$Checker" (55 : Nat) "CheckedMachine$Checker" "rejectedAt" "I") ∈ x_Wd := x_in1 (i := 143) rfl rfl
theorem q_144 : (Cond.fieldLink "CheckedMachine$Checker" (76 : Nat) "CheckedMachine$Checker" "exited" "Z") ∈ x_Wd := x_in1 (i := 144) rfl rfl
theorem q_145 : (Cond.fieldLink "CheckedMachine$Checker" (58 : Nat) "CheckedMachine$Checker" "least" "J") ∈ x_Wd := x_in1 (i := 145) rfl rfl
theorem q_146 : (Cond.fieldLink "CheckedMachine$Checker" (62 : Nat) "CheckedMachine$Checker" "greatest" "J") ∈ x_Wd := x_in1 (i := 146) rfl rfl
theorem q_147 : (Cond.laysFinal "CheckedMachine$Checker" "CheckedMachine$Checker" "program" "LCheckedMachine$Program;") ∈ x_Wd := x_in1 (i := 147) rfl rfl
theorem q_148 : (Cond.soleField "CheckedMachine$Checker" "program") ∈ x_Wd := x_in1 (i := 148) rfl rfl
theorem q_149 : (Cond.laysFinal "CheckedMachine$Checker" "CheckedMachine$Checker" "now" "LCheckedMachine$Guesses;") ∈ x_Wd := x_in1 (i := 149) rfl rfl
theorem q_150 : (Cond.soleField "CheckedMachine$Checker" "now") ∈ x_Wd := x_in1 (i := 150) rfl rfl
theorem q_151 : (Cond.laysFinal "CheckedMachine$Checker" "CheckedMachine$Checker" "judge" "LCheckedMachine$Judge;") ∈ x_Wd := x_in1 (i := 151) rfl rfl
theorem q_152 : (Cond.soleField "CheckedMachine$Checker" "judge") ∈ x_Wd := x_in1 (i := 152) rfl rfl
theorem q_153 : (Cond.laysFinal "CheckedMachine$Checker" "CheckedMachine$Checker" "effects" "LCheckedMachine$Effects;") ∈ x_Wd := x_in1 (i := 153) rfl rfl
theorem q_154 : (Cond.soleField "CheckedMachine$Checker" "effects") ∈ x_Wd := x_in1 (i := 154) rfl rfl
theorem q_155 : (Cond.laysFinal "CheckedMachine$Checker" "CheckedMachine$Checker" "left" "[LCheckedMachine$Guesses;") ∈ x_Wd := x_in1 (i := 155) rfl rfl
theorem q_156 : (Cond.soleField "CheckedMachine$Checker" "left") ∈ x_Wd := x_in1 (i := 156) rfl rfl
theorem q_157 : (Cond.laysFinal "CheckedMachine$Checker" "CheckedMachine$Checker" "open" "[Z") ∈ x_Wd := x_in1 (i := 157) rfl rfl
theorem q_158 : (Cond.soleField "CheckedMachine$Checker" "open") ∈ x_Wd := x_in1 (i := 158) rfl rfl
theorem q_159 : (Cond.lays "CheckedMachine$Checker" "CheckedMachine$Checker" "verdict" "I") ∈ x_Wd := x_in1 (i := 159) rfl rfl
theorem q_160 : (Cond.soleField "CheckedMachine$Checker" "verdict") ∈ x_Wd := x_in1 (i := 160) rfl rfl
theorem q_161 : (Cond.lays "CheckedMachine$Checker" "CheckedMachine$Checker" "looked" "I") ∈ x_Wd := x_in1 (i := 161) rfl rfl
theorem q_162 : (Cond.soleField "CheckedMachine$Checker" "looked") ∈ x_Wd := x_in1 (i := 162) rfl rfl
theorem q_163 : (Cond.lays "CheckedMachine$Checker" "CheckedMachine$Checker" "reason" "I") ∈ x_Wd := x_in1 (i := 163) rfl rfl
theorem q_164 : (Cond.soleField "CheckedMachine$Checker" "reason") ∈ x_Wd := x_in1 (i := 164) rfl rfl
theorem q_165 : (Cond.lays "CheckedMachine$Checker" "CheckedMachine$Checker" "rejectedAt" "I") ∈ x_Wd := x_in1 (i := 165) rfl rfl
theorem q_166 : (Cond.soleField "CheckedMachine$Checker" "rejectedAt") ∈ x_Wd := x_in1 (i := 166) rfl rfl
theorem q_167 : (Cond.lays "CheckedMachine$Checker" "CheckedMachine$Checker" "exited" "Z") ∈ x_Wd := x_in1 (i := 167) rfl rfl
theorem q_168 : (Cond.soleField "CheckedMachine$Checker" "exited") ∈ x_Wd := x_in1 (i := 168) rfl rfl
theorem q_169 : (Cond.lays "CheckedMachine$Checker" "CheckedMachine$Checker" "least" "J") ∈ x_Wd := x_in1 (i := 169) rfl rfl
theorem q_170 : (Cond.soleField "CheckedMachine$Checker" "least") ∈ x_Wd := x_in1 (i := 170) rfl rfl
theorem q_171 : (Cond.lays "CheckedMachine$Checker" "CheckedMachine$Checker" "greatest" "J") ∈ x_Wd := x_in1 (i := 171) rfl rfl
theorem q_172 : (Cond.soleField "CheckedMachine$Checker" "greatest") ∈ x_Wd := x_in1 (i := 172) rfl rfl
theorem q_173 : (Cond.superclass "CheckedMachine$Checker" "java/lang/Object") ∈ x_Wd := x_in1 (i := 173) rfl rfl
theorem q_174 : (Cond.arrayClass Jvm.ClassFile.FieldType.boolean) ∈ x_Wd := x_in1 (i := 174) rfl rfl
theorem q_175 : (Cond.classLink "CheckedMachine" (25 : Nat) "CheckedMachine$Runner") ∈ x_Wd := x_in1 (i := 175) rfl rfl
theorem q_176 : (Cond.instantiable "CheckedMachine$Runner" (6 : Nat)) ∈ x_Wd := x_in1 (i := 176) rfl rfl
theorem q_177 : (Cond.methodLink "CheckedMachine" (27 : Nat) ({ cls := "CheckedMachine$Runner", name := "<init>", desc := "(LCheckedMachine$Program;)V" } : Jvm.MethodName)) ∈ x_Wd := x_in1 (i := 177) rfl rfl
theorem q_178 : (Cond.instanceMethod ({ cls := "CheckedMachine$Runner", name := "<init>", desc := "(LCheckedMachine$Program;)V" } : Jvm.MethodName)) ∈ x_Wd := x_in1 (i := 178) rfl rfl
theorem q_179 : (Cond.code ({ cls := "CheckedMachine$Runner", name := "<init>", desc := "(LCheckedMachine$Program;)V" } : Jvm.MethodName) prog_8_method_1_code (2 : Nat) (Option.none : Option Jvm.ClassFile.FieldType)) ∈ x_Wd := x_in1 (i := 179) rfl rfl
theorem q_180 : (Cond.methodLink "CheckedMachine$Runner" (3 : Nat) ({ cls := "java/lang/Object", name := "<init>", desc := "()V" } : Jvm.MethodName)) ∈ x_Wd := x_in1 (i := 180) rfl rfl
theorem q_181 : (Cond.classLink "CheckedMachine$Runner" (15 : Nat) "[[J") ∈ x_Wd := x_in1 (i := 181) rfl rfl
theorem q_183 : (Cond.fieldLink "CheckedMachine$Runner" (9 : Nat) "CheckedMachine$Runner" "program" "LCheckedMachine$Program;") ∈ x_Wd := x_in1 (i := 183) rfl rfl
theorem q_184 : (Cond.fieldLink "CheckedMachine$Runner" (17 : Nat) "CheckedMachine$Runner" "map" "[[J") ∈ x_Wd := x_in1 (i := 184) rfl rfl
theorem q_185 : (Cond.fieldLink "CheckedMachine$Runner" (20 : Nat) "CheckedMachine$Runner" "kinds" "[I") ∈ x_Wd := x_in1 (i := 185) rfl rfl
theorem q_186 : (Cond.fieldLink "CheckedMachine$Runner" (24 : Nat) "CheckedMachine$Runner" "values" "[J") ∈ x_Wd := x_in1 (i := 186) rfl rfl
theorem q_187 : (Cond.fieldLink "CheckedMachine$Runner" (28 : Nat) "CheckedMachine$Runner" "stepsRun" "I") ∈ x_Wd := x_in1 (i := 187) rfl rfl
theorem q_188 : (Cond.fieldLink "CheckedMachine$Runner" (32 : Nat) "CheckedMachine$Runner" "countCalls" "I") ∈ x_Wd := x_in1 (i := 188) rfl rfl
theorem q_189 : (Cond.laysFinal "CheckedMachine$Runner" "CheckedMachine$Runner" "program" "LCheckedMachine$Program;") ∈ x_Wd := x_in1 (i := 189) rfl rfl
theorem q_190 : (Cond.soleField "CheckedMachine$Runner" "program") ∈ x_Wd := x_in1 (i := 190) rfl rfl
theorem q_191 : (Cond.laysFinal "CheckedMachine$Runner" "CheckedMachine$Runner" "map" "[[J") ∈ x_Wd := x_in1 (i := 191) rfl rfl
theorem q_192 : (Cond.soleField "CheckedMachine$Runner" "map") ∈ x_Wd := x_in1 (i := 192) rfl rfl
theorem q_193 : (Cond.laysFinal "CheckedMachine$Runner" "CheckedMachine$Runner" "kinds" "[I") ∈ x_Wd := x_in1 (i := 193) rfl rfl
theorem q_194 : (Cond.soleField "CheckedMachine$Runner" "kinds") ∈ x_Wd := x_in1 (i := 194) rfl rfl
theorem q_195 : (Cond.laysFinal "CheckedMachine$Runner" "CheckedMachine$Runner" "values" "[J") ∈ x_Wd := x_in1 (i := 195) rfl rfl
theorem q_196 : (Cond.soleField "CheckedMachine$Runner" "values") ∈ x_Wd := x_in1 (i := 196) rfl rfl
theorem q_197 : (Cond.lays "CheckedMachine$Runner" "CheckedMachine$Runner" "stepsRun" "I") ∈ x_Wd := x_in1 (i := 197) rfl rfl
theorem q_198 : (Cond.soleField "CheckedMachine$Runner" "stepsRun") ∈ x_Wd := x_in1 (i := 198) rfl rfl
theorem q_199 : (Cond.lays "CheckedMachine$Runner" "CheckedMachine$Runner" "countCalls" "I") ∈ x_Wd := x_in1 (i := 199) rfl rfl
theorem q_200 : (Cond.soleField "CheckedMachine$Runner" "countCalls") ∈ x_Wd := x_in1 (i := 200) rfl rfl
theorem q_201 : (Cond.superclass "CheckedMachine$Runner" "java/lang/Object") ∈ x_Wd := x_in1 (i := 201) rfl rfl
theorem q_202 : (Cond.fieldLink "CheckedMachine" (12 : Nat) "CheckedMachine" "program" "LCheckedMachine$Program;") ∈ x_Wd := x_in1 (i := 202) rfl rfl
theorem q_203 : (Cond.fieldLink "CheckedMachine" (21 : Nat) "CheckedMachine" "checker" "LCheckedMachine$Checker;") ∈ x_Wd := x_in1 (i := 203) rfl rfl
theorem q_204 : (Cond.fieldLink "CheckedMachine" (28 : Nat) "CheckedMachine" "runner" "LCheckedMachine$Runner;") ∈ x_Wd := x_in1 (i := 204) rfl rfl
theorem q_205 : (Cond.fieldLink "CheckedMachine" (32 : Nat) "CheckedMachine" "checked" "Z") ∈ x_Wd := x_in1 (i := 205) rfl rfl
theorem q_206 : (Cond.laysFinal "CheckedMachine" "CheckedMachine" "program" "LCheckedMachine$Program;") ∈ x_Wd := x_in1 (i := 206) rfl rfl
theorem q_207 : (Cond.soleField "CheckedMachine" "program") ∈ x_Wd := x_in1 (i := 207) rfl rfl
theorem q_208 : (Cond.laysFinal "CheckedMachine" "CheckedMachine" "checker" "LCheckedMachine$Checker;") ∈ x_Wd := x_in1 (i := 208) rfl rfl
theorem q_209 : (Cond.soleField "CheckedMachine" "checker") ∈ x_Wd := x_in1 (i := 209) rfl rfl
theorem q_210 : (Cond.laysFinal "CheckedMachine" "CheckedMachine" "runner" "LCheckedMachine$Runner;") ∈ x_Wd := x_in1 (i := 210) rfl rfl
theorem q_211 : (Cond.soleField "CheckedMachine" "runner") ∈ x_Wd := x_in1 (i := 211) rfl rfl
theorem q_212 : (Cond.lays "CheckedMachine" "CheckedMachine" "checked" "Z") ∈ x_Wd := x_in1 (i := 212) rfl rfl
theorem q_213 : (Cond.soleField "CheckedMachine" "checked") ∈ x_Wd := x_in1 (i := 213) rfl rfl
theorem q_214 : (Cond.superclass "CheckedMachine" "java/lang/Object") ∈ x_Wd := x_in1 (i := 214) rfl rfl
theorem q_215 : (Cond.methodLink "CheckedMachineLaw" (92 : Nat) ({ cls := "CheckedMachine", name := "count", desc := "(I)I" } : Jvm.MethodName)) ∈ x_Wd := x_in1 (i := 215) rfl rfl
theorem q_216 : (Cond.instanceMethod ({ cls := "CheckedMachine", name := "count", desc := "(I)I" } : Jvm.MethodName)) ∈ x_Wd := x_in1 (i := 216) rfl rfl
theorem q_217 : (Cond.selects "CheckedMachine" ({ cls := "CheckedMachine", name := "count", desc := "(I)I" } : Jvm.MethodName) ({ cls := "CheckedMachine", name := "count", desc := "(I)I" } : Jvm.MethodName)) ∈ x_Wd := x_in1 (i := 217) rfl rfl
theorem q_218 : (Cond.code ({ cls := "CheckedMachine", name := "count", desc := "(I)I" } : Jvm.MethodName) prog_1_method_10_code (2 : Nat) (Option.some Jvm.ClassFile.FieldType.int)) ∈ x_Wd := x_in1 (i := 218) rfl rfl
theorem q_219 : (Cond.methodLink "CheckedMachine" (47 : Nat) ({ cls := "CheckedMachine$Program", name := "size", desc := "()I" } : Jvm.MethodName)) ∈ x_Wd := x_in1 (i := 219) rfl rfl
theorem q_220 : (Cond.instanceMethod ({ cls := "CheckedMachine$Program", name := "size", desc := "()I" } : Jvm.MethodName)) ∈ x_Wd := x_in1 (i := 220) rfl rfl
theorem q_221 : (Cond.selects "CheckedMachine$Program" ({ cls := "CheckedMachine$Program", name := "size", desc := "()I" } : Jvm.MethodName) ({ cls := "CheckedMachine$Program", name := "size", desc := "()I" } : Jvm.MethodName)) ∈ x_Wd := x_in1 (i := 221) rfl rfl
theorem q_222 : (Cond.code ({ cls := "CheckedMachine$Program", name := "size", desc := "()I" } : Jvm.MethodName) prog_7_method_4_code (1 : Nat) (Option.some Jvm.ClassFile.FieldType.int)) ∈ x_Wd := x_in1 (i := 222) rfl rfl
theorem q_223 : (Cond.methodLink "CheckedMachine" (114 : Nat) ({ cls := "CheckedMachine$Checker", name := "reason", desc := "()I" } : Jvm.MethodName)) ∈ x_Wd := x_in1 (i := 223) rfl rfl
theorem q_224 : (Cond.instanceMethod ({ cls := "CheckedMachine$Checker", name := "reason", desc := "()I" } : Jvm.MethodName)) ∈ x_Wd := x_in1 (i := 224) rfl rfl
theorem q_225 : (Cond.selects "CheckedMachine$Checker" ({ cls := "CheckedMachine$Checker", name := "reason", desc := "()I" } : Jvm.MethodName) ({ cls := "CheckedMachine$Checker", name := "reason", desc := "()I" } : Jvm.MethodName)) ∈ x_Wd := x_in1 (i := 225) rfl rfl
theorem q_226 : (Cond.code ({ cls := "CheckedMachine$Checker", name := "reason", desc := "()I" } : Jvm.MethodName) prog_2_method_3_code (1 : Nat) (Option.some Jvm.ClassFile.FieldType.int)) ∈ x_Wd := x_in1 (i := 226) rfl rfl
theorem q_227 : (Cond.methodLink "CheckedMachine" (117 : Nat) ({ cls := "CheckedMachine$Checker", name := "rejectedAt", desc := "()I" } : Jvm.MethodName)) ∈ x_Wd := x_in1 (i := 227) rfl rfl
theorem q_228 : (Cond.instanceMethod ({ cls := "CheckedMachine$Checker", name := "rejectedAt", desc := "()I" } : Jvm.MethodName)) ∈ x_Wd := x_in1 (i := 228) rfl rfl
theorem q_229 : (Cond.selects "CheckedMachine$Checker" ({ cls := "CheckedMachine$Checker", name := "rejectedAt", desc := "()I" } : Jvm.MethodName) ({ cls := "CheckedMachine$Checker", name := "rejectedAt", desc := "()I" } : Jvm.MethodName)) ∈ x_Wd := x_in1 (i := 229) rfl rfl
theorem q_230 : (Cond.code ({ cls := "CheckedMachine$Checker", name := "rejectedAt", desc := "()I" } : Jvm.MethodName) prog_2_method_4_code (1 : Nat) (Option.some Jvm.ClassFile.FieldType.int)) ∈ x_Wd := x_in1 (i := 230) rfl rfl
theorem q_231 : (Cond.methodLink "CheckedMachine" (84 : Nat) ({ cls := "CheckedMachine$Checker", name := "looked", desc := "()I" } : Jvm.MethodName)) ∈ x_Wd := x_in1 (i := 231) rfl rfl
theorem q_232 : (Cond.instanceMethod ({ cls := "CheckedMachine$Checker", name := "looked", desc := "()I" } : Jvm.MethodName)) ∈ x_Wd := x_in1 (i := 232) rfl rfl
theorem q_233 : (Cond.selects "CheckedMachine$Checker" ({ cls := "CheckedMachine$Checker", name := "looked", desc := "()I" } : Jvm.MethodName) ({ cls := "CheckedMachine$Checker", name := "looked", desc := "()I" } : Jvm.MethodName)) ∈ x_Wd := x_in1 (i := 233) rfl rfl
theorem q_234 : (Cond.code ({ cls := "CheckedMachine$Checker", name := "looked", desc := "()I" } : Jvm.MethodName) prog_2_method_2_code (1 : Nat) (Option.some Jvm.ClassFile.FieldType.int)) ∈ x_Wd := x_in1 (i := 234) rfl rfl
theorem q_235 : (Cond.methodLink "CheckedMachine" (120 : Nat) ({ cls := "CheckedMachine$Runner", name := "stepsRun", desc := "()I" } : Jvm.MethodName)) ∈ x_Wd := x_in1 (i := 235) rfl rfl
theorem q_236 : (Cond.instanceMethod ({ cls := "CheckedMachine$Runner", name := "stepsRun", desc := "()I" } : Jvm.MethodName)) ∈ x_Wd := x_in1 (i := 236) rfl rfl
theorem q_237 : (Cond.selects "CheckedMachine$Runner" ({ cls := "CheckedMachine$Runner", name := "stepsRun", desc := "()I" } : Jvm.MethodName) ({ cls := "CheckedMachine$Runner", name := "stepsRun", desc := "()I" } : Jvm.MethodName)) ∈ x_Wd := x_in1 (i := 237) rfl rfl
theorem q_238 : (Cond.code ({ cls := "CheckedMachine$Runner", name := "stepsRun", desc := "()I" } : Jvm.MethodName) prog_8_method_2_code (1 : Nat) (Option.some Jvm.ClassFile.FieldType.int)) ∈ x_Wd := x_in1 (i := 238) rfl rfl
theorem q_239 : (Cond.methodLink "CheckedMachine" (123 : Nat) ({ cls := "CheckedMachine$Runner", name := "countCalls", desc := "()I" } : Jvm.MethodName)) ∈ x_Wd := x_in1 (i := 239) rfl rfl
theorem q_240 : (Cond.instanceMethod ({ cls := "CheckedMachine$Runner", name := "countCalls", desc := "()I" } : Jvm.MethodName)) ∈ x_Wd := x_in2 (i := 0) rfl rfl
theorem q_241 : (Cond.selects "CheckedMachine$Runner" ({ cls := "CheckedMachine$Runner", name := "countCalls", desc := "()I" } : Jvm.MethodName) ({ cls := "CheckedMachine$Runner", name := "countCalls", desc := "()I" } : Jvm.MethodName)) ∈ x_Wd := x_in2 (i := 1) rfl rfl
theorem q_242 : (Cond.code ({ cls := "CheckedMachine$Runner", name := "countCalls", desc := "()I" } : Jvm.MethodName) prog_8_method_3_code (1 : Nat) (Option.some Jvm.ClassFile.FieldType.int)) ∈ x_Wd := x_in2 (i := 2) rfl rfl
theorem q_243 : (Cond.methodLink "CheckedMachineLaw" (53 : Nat) ({ cls := "CheckedMachineLaw", name := "add", desc := "(LCheckedMachine;IIIII[J)I" } : Jvm.MethodName)) ∈ x_Wd := x_in2 (i := 3) rfl rfl
theorem q_244 : (Cond.static ({ cls := "CheckedMachineLaw", name := "add", desc := "(LCheckedMachine;IIIII[J)I" } : Jvm.MethodName)) ∈ x_Wd := x_in2 (i := 4) rfl rfl
theorem q_245 : (Cond.codeWith ({ cls := "CheckedMachineLaw", name := "add", desc := "(LCheckedMachine;IIIII[J)I" } : Jvm.MethodName) method_3_code (8 : Nat) (Option.some Jvm.ClassFile.FieldType.int) [((0 : Nat), (16 : Nat), (19 : Nat), (13 : Nat)), ((0 : Nat), (16 : Nat), (23 : Nat), (15 : Nat))]) ∈ x_Wd := x_in2 (i := 5) rfl rfl
theorem q_246 : (Cond.classLink "CheckedMachineLaw" (13 : Nat) "java/lang/IllegalArgumentException") ∈ x_Wd := x_in2 (i := 6) rfl rfl
theorem q_247 : (Cond.classLink "CheckedMachineLaw" (15 : Nat) "java/lang/IllegalStateException") ∈ x_Wd := x_in2 (i := 7) rfl rfl
theorem q_248 : (Cond.methodLink "CheckedMachineLaw" (7 : Nat) ({ cls := "CheckedMachine", name := "add", desc := "(IIIII)I" } : Jvm.MethodName)) ∈ x_Wd := x_in2 (i := 8) rfl rfl
theorem q_249 : (Cond.instanceMethod ({ cls := "CheckedMachine", name := "add", desc := "(IIIII)I" } : Jvm.MethodName)) ∈ x_Wd := x_in2 (i := 9) rfl rfl
theorem q_250 : (Cond.selects "CheckedMachine" ({ cls := "CheckedMachine", name := "add", desc := "(IIIII)I" } : Jvm.MethodName) ({ cls := "CheckedMachine", name := "add", desc := "(IIIII)I" } : Jvm.MethodName)) ∈ x_Wd := x_in2 (i := 10) rfl rfl
theorem q_251 : (Cond.code ({ cls := "CheckedMachine", name := "add", desc := "(IIIII)I" } : Jvm.MethodName) prog_1_method_2_code (7 : Nat) (Option.some Jvm.ClassFile.FieldType.int)) ∈ x_Wd := x_in2 (i := 11) rfl rfl
theorem q_252 : (Cond.methodLink "CheckedMachine" (36 : Nat) ({ cls := "CheckedMachine$Program", name := "allows", desc := "(IIII)Z" } : Jvm.MethodName)) ∈ x_Wd := x_in2 (i := 12) rfl rfl
theorem q_253 : (Cond.static ({ cls := "CheckedMachine$Program", name := "allows", desc := "(IIII)Z" } : Jvm.MethodName)) ∈ x_Wd := x_in2 (i := 13) rfl rfl
theorem q_254 : (Cond.code ({ cls := "CheckedMachine$Program", name := "allows", desc := "(IIII)Z" } : Jvm.MethodName) prog_7_method_2_code (4 : Nat) (Option.some Jvm.ClassFile.FieldType.boolean)) ∈ x_Wd := x_in2 (i := 14) rfl rfl
theorem q_255 : (Cond.methodLink "CheckedMachine$Program" (22 : Nat) ({ cls := "CheckedMachine$Program", name := "isRegister", desc := "(I)Z" } : Jvm.MethodName)) ∈ x_Wd := x_in2 (i := 15) rfl rfl
theorem q_256 : (Cond.static ({ cls := "CheckedMachine$Program", name := "isRegister", desc := "(I)Z" } : Jvm.MethodName)) ∈ x_Wd := x_in2 (i := 16) rfl rfl
theorem q_257 : (Cond.code ({ cls := "CheckedMachine$Program", name := "isRegister", desc := "(I)Z" } : Jvm.MethodName) prog_7_method_3_code (1 : Nat) (Option.some Jvm.ClassFile.FieldType.boolean)) ∈ x_Wd := x_in2 (i := 17) rfl rfl
theorem q_258 : (Cond.classLink "CheckedMachine" (40 : Nat) "java/lang/IllegalArgumentException") ∈ x_Wd := x_in2 (i := 18) rfl rfl
theorem q_259 : (Cond.instantiable "java/lang/IllegalArgumentException" (6 : Nat)) ∈ x_Wd := x_in2 (i := 19) rfl rfl
theorem q_267 : (Cond.selects "java/lang/IllegalArgumentException" ({ cls := "java/lang/Throwable", name := "fillInStackTrace", desc := "(I)Ljava/lang/Throwable;" } : Jvm.MethodName) ({ cls := "java/lang/Throwable", name := "fillInStackTrace", desc := "(I)Ljava/lang/Throwable;" } : Jvm.MethodName)) ∈ x_Wd := x_in2 (i := 27) rfl rfl
theorem q_268 : (Cond.selects "java/lang/IllegalArgumentException" ({ cls := "java/lang/Throwable", name := "fillInStackTrace", desc := "()Ljava/lang/Throwable;" } : Jvm.MethodName) ({ cls := "java/lang/Throwable", name := "fillInStackTrace", desc := "()Ljava/lang/Throwable;" } : Jvm.MethodName)) ∈ x_Wd := x_in2 (i := 28) rfl rfl
theorem q_269 : (Cond.lays "java/lang/IllegalArgumentException" "java/lang/Throwable" "cause" "Ljava/lang/Throwable;") ∈ x_Wd := x_in2 (i := 29) rfl rfl
theorem q_270 : (Cond.lays "java/lang/Throwable" "java/lang/Throwable" "cause" "Ljava/lang/Throwable;") ∈ x_Wd := x_in2 (i := 30) rfl rfl
theorem q_271 : (Cond.lays "java/lang/IllegalArgumentException" "java/lang/Throwable" "stackTrace" "[Ljava/lang/StackTraceElement;") ∈ x_Wd := x_in2 (i := 31) rfl rfl
theorem q_272 : (Cond.lays "java/lang/Throwable" "java/lang/Throwable" "stackTrace" "[Ljava/lang/StackTraceElement;") ∈ x_Wd := x_in2 (i := 32) rfl rfl
theorem q_273 : (Cond.lays "java/lang/IllegalArgumentException" "java/lang/Throwable" "suppressedExceptions" "Ljava/util/List;") ∈ x_Wd := x_in2 (i := 33) rfl rfl
theorem q_274 : (Cond.lays "java/lang/Throwable" "java/lang/Throwable" "suppressedExceptions" "Ljava/util/List;") ∈ x_Wd := x_in2 (i := 34) rfl rfl
theorem q_275 : (Cond.lays "java/lang/IllegalArgumentException" "java/lang/Throwable" "detailMessage" "Ljava/lang/String;") ∈ x_Wd := x_in2 (i := 35) rfl rfl
theorem q_276 : (Cond.lays "java/lang/Throwable" "java/lang/Throwable" "detailMessage" "Ljava/lang/String;") ∈ x_Wd := x_in2 (i := 36) rfl rfl
theorem q_277 : (Cond.lays "java/lang/IllegalArgumentException" "java/lang/Throwable" "backtrace" "Ljava/lang/Object;") ∈ x_Wd := x_in2 (i := 37) rfl rfl
theorem q_278 : (Cond.lays "java/lang/Throwable" "java/lang/Throwable" "backtrace" "Ljava/lang/Object;") ∈ x_Wd := x_in2 (i := 38) rfl rfl
theorem q_279 : (Cond.fieldLink "java/lang/Throwable" (198 : Nat) "java/lang/Throwable" "backtrace" "Ljava/lang/Object;") ∈ x_Wd := x_in2 (i := 39) rfl rfl
theorem q_280 : (Cond.superclass "java/lang/Throwable" "java/lang/Object") ∈ x_Wd := x_in2 (i := 40) rfl rfl
theorem q_281 : (Cond.instanceMethod ({ cls := "java/lang/Throwable", name := "<init>", desc := "()V" } : Jvm.MethodName)) ∈ x_Wd := x_in2 (i := 41) rfl rfl
theorem q_282 : (Cond.code ({ cls := "java/lang/Throwable", name := "<init>", desc := "()V" } : Jvm.MethodName) prog_19_method_1_code (1 : Nat) (Option.none : Option Jvm.ClassFile.FieldType)) ∈ x_Wd := x_in2 (i := 42) rfl rfl
theorem q_283 : (Cond.methodLink "java/lang/Throwable" (1 : Nat) ({ cls := "java/lang/Object", name := "<init>", desc := "()V" } : Jvm.MethodName)) ∈ x_Wd := x_in2 (i := 43) rfl rfl
theorem q_284 : (Cond.fieldLink "java/lang/Throwable" (13 : Nat) "java/lang/Throwable" "UNASSIGNED_STACK" "[Ljava/lang/StackTraceElement;") ∈ x_Wd := x_in2 (i := 44) rfl rfl
theorem q_286 : (Cond.fieldLink "java/lang/Throwable" (20 : Nat) "java/lang/Throwable" "SUPPRESSED_SENTINEL" "Ljava/util/List;") ∈ x_Wd := x_in2 (i := 46) rfl rfl
theorem q_288 : (Cond.methodLink "java/lang/Throwable" (27 : Nat) ({ cls := "java/lang/Throwable", name := "fillInStackTrace", desc := "()Ljava/lang/Throwable;" } : Jvm.MethodName)) ∈ x_Wd := x_in2 (i := 48) rfl rfl
theorem q_289 : (Cond.instanceMethod ({ cls := "java/lang/Throwable", name := "fillInStackTrace", desc := "()Ljava/lang/Throwable;" } : Jvm.MethodName)) ∈ x_Wd := x_in2 (i := 49) rfl rfl
theorem q_290 : (Cond.sameMethod "java/lang/Throwable" "java/lang/Throwable" "fillInStackTrace" "()Ljava/lang/Throwable;") ∈ x_Wd := x_in2 (i := 50) rfl rfl
theorem q_291 : (Cond.selects "java/lang/IllegalStateException" ({ cls := "java/lang/Throwable", name := "fillInStackTrace", desc := "()Ljava/lang/Throwable;" } : Jvm.MethodName) ({ cls := "java/lang/Throwable", name := "fillInStackTrace", desc := "()Ljava/lang/Throwable;" } : Jvm.MethodName)) ∈ x_Wd := x_in2 (i := 51) rfl rfl
theorem q_292 : (Cond.selects "java/lang/UnsupportedOperationException" ({ cls := "java/lang/Throwable", name := "fillInStackTrace", desc := "()Ljava/lang/Throwable;" } : Jvm.MethodName) ({ cls := "java/lang/Throwable", name := "fillInStackTrace", desc := "()Ljava/lang/Throwable;" } : Jvm.MethodName)) ∈ x_Wd := x_in2 (i := 52) rfl rfl
theorem q_293 : (Cond.selects "java/util/NoSuchElementException" ({ cls := "java/lang/Throwable", name := "fillInStackTrace", desc := "()Ljava/lang/Throwable;" } : Jvm.MethodName) ({ cls := "java/lang/Throwable", name := "fillInStackTrace", desc := "()Ljava/lang/Throwable;" } : Jvm.MethodName)) ∈ x_Wd := x_in2 (i := 53) rfl rfl
theorem q_294 : (Cond.codeSync ({ cls := "java/lang/Throwable", name := "fillInStackTrace", desc := "()Ljava/lang/Throwable;" } : Jvm.MethodName) prog_19_method_18_code (1 : Nat) (Option.some (Jvm.ClassFile.FieldType.object "java/lang/Throwable"))) ∈ x_Wd := x_in2 (i := 54) rfl rfl
theorem q_295 : (Cond.methodLink "java/lang/Throwable" (202 : Nat) ({ cls := "java/lang/Throwable", name := "fillInStackTrace", desc := "(I)Ljava/lang/Throwable;" } : Jvm.MethodName)) ∈ x_Wd := x_in2 (i := 55) rfl rfl
theorem q_297 : (Cond.instanceMethod ({ cls := "java/lang/Throwable", name := "fillInStackTrace", desc := "(I)Ljava/lang/Throwable;" } : Jvm.MethodName)) ∈ x_Wd := x_in2 (i := 57) rfl rfl
theorem q_298 : (Cond.instantiable "java/lang/Throwable" (6 : Nat)) ∈ x_Wd := x_in2 (i := 58) rfl rfl
theorem q_299 : (Cond.native ({ cls := "java/lang/Throwable", name := "fillInStackTrace", desc := "(I)Ljava/lang/Throwable;" } : Jvm.MethodName)) ∈ x_Wd := x_in2 (i := 59) rfl rfl
theorem q_301 : (Cond.methodLink "CheckedMachine" (44 : Nat) ({ cls := "java/lang/IllegalArgumentException", name := "<init>", desc := "(Ljava/lang/String;)V" } : Jvm.MethodName)) ∈ x_Wd := x_in2 (i := 61) rfl rfl
theorem q_302 : (Cond.instanceMethod ({ cls := "java/lang/IllegalArgumentException", name := "<init>", desc := "(Ljava/lang/String;)V" } : Jvm.MethodName)) ∈ x_Wd := x_in2 (i := 62) rfl rfl
theorem q_303 : (Cond.code ({ cls := "java/lang/IllegalArgumentException", name := "<init>", desc := "(Ljava/lang/String;)V" } : Jvm.MethodName) prog_13_method_2_code (2 : Nat) (Option.none : Option Jvm.ClassFile.FieldType)) ∈ x_Wd := x_in2 (i := 63) rfl rfl
theorem q_304 : (Cond.methodLink "java/lang/IllegalArgumentException" (7 : Nat) ({ cls := "java/lang/RuntimeException", name := "<init>", desc := "(Ljava/lang/String;)V" } : Jvm.MethodName)) ∈ x_Wd := x_in2 (i := 64) rfl rfl
theorem q_305 : (Cond.instanceMethod ({ cls := "java/lang/RuntimeException", name := "<init>", desc := "(Ljava/lang/String;)V" } : Jvm.MethodName)) ∈ x_Wd := x_in2 (i := 65) rfl rfl
theorem q_306 : (Cond.code ({ cls := "java/lang/RuntimeException", name := "<init>", desc := "(Ljava/lang/String;)V" } : Jvm.MethodName) prog_16_method_2_code (2 : Nat) (Option.none : Option Jvm.ClassFile.FieldType)) ∈ x_Wd := x_in2 (i := 66) rfl rfl
theorem q_307 : (Cond.methodLink "java/lang/RuntimeException" (7 : Nat) ({ cls := "java/lang/Exception", name := "<init>", desc := "(Ljava/lang/String;)V" } : Jvm.MethodName)) ∈ x_Wd := x_in2 (i := 67) rfl rfl
theorem q_308 : (Cond.instanceMethod ({ cls := "java/lang/Exception", name := "<init>", desc := "(Ljava/lang/String;)V" } : Jvm.MethodName)) ∈ x_Wd := x_in2 (i := 68) rfl rfl
theorem q_309 : (Cond.code ({ cls := "java/lang/Exception", name := "<init>", desc := "(Ljava/lang/String;)V" } : Jvm.MethodName) prog_12_method_2_code (2 : Nat) (Option.none : Option Jvm.ClassFile.FieldType)) ∈ x_Wd := x_in2 (i := 69) rfl rfl
theorem q_310 : (Cond.methodLink "java/lang/Exception" (7 : Nat) ({ cls := "java/lang/Throwable", name := "<init>", desc := "(Ljava/lang/String;)V" } : Jvm.MethodName)) ∈ x_Wd := x_in2 (i := 70) rfl rfl
theorem q_311 : (Cond.instanceMethod ({ cls := "java/lang/Throwable", name := "<init>", desc := "(Ljava/lang/String;)V" } : Jvm.MethodName)) ∈ x_Wd := x_in2 (i := 71) rfl rfl
theorem q_312 : (Cond.code ({ cls := "java/lang/Throwable", name := "<init>", desc := "(Ljava/lang/String;)V" } : Jvm.MethodName) prog_19_method_2_code (2 : Nat) (Option.none : Option Jvm.ClassFile.FieldType)) ∈ x_Wd := x_in2 (i := 72) rfl rfl
theorem q_313 : (Cond.fieldLink "java/lang/Throwable" (198 : Nat) "java/lang/Throwable" "backtrace" "Ljava/lang/Object;") ∈ x_Wd := x_in2 (i := 73) rfl rfl
theorem q_314 : (Cond.fieldLink "java/lang/Throwable" (31 : Nat) "java/lang/Throwable" "detailMessage" "Ljava/lang/String;") ∈ x_Wd := x_in2 (i := 74) rfl rfl
theorem q_315 : (Cond.fieldLink "java/lang/Throwable" (7 : Nat) "java/lang/Throwable" "cause" "Ljava/lang/Throwable;") ∈ x_Wd := x_in2 (i := 75) rfl rfl
theorem q_316 : (Cond.fieldLink "java/lang/Throwable" (17 : Nat) "java/lang/Throwable" "stackTrace" "[Ljava/lang/StackTraceElement;") ∈ x_Wd := x_in2 (i := 76) rfl rfl
theorem q_317 : (Cond.fieldLink "java/lang/Throwable" (24 : Nat) "java/lang/Throwable" "suppressedExceptions" "Ljava/util/List;") ∈ x_Wd := x_in2 (i := 77) rfl rfl
theorem q_318 : (Cond.soleField "java/lang/Throwable" "backtrace") ∈ x_Wd := x_in2 (i := 78) rfl rfl
theorem q_319 : (Cond.soleField "java/lang/Throwable" "detailMessage") ∈ x_Wd := x_in2 (i := 79) rfl rfl
theorem q_320 : (Cond.soleField "java/lang/Throwable" "cause") ∈ x_Wd := x_in2 (i := 80) rfl rfl
theorem q_321 : (Cond.soleField "java/lang/Throwable" "stackTrace") ∈ x_Wd := x_in2 (i := 81) rfl rfl
theorem q_322 : (Cond.lays "java/lang/IllegalArgumentException" "java/lang/Throwable" "depth" "I") ∈ x_Wd := x_in2 (i := 82) rfl rfl
theorem q_323 : (Cond.soleField "java/lang/Throwable" "depth") ∈ x_Wd := x_in2 (i := 83) rfl rfl
theorem q_324 : (Cond.soleField "java/lang/Throwable" "suppressedExceptions") ∈ x_Wd := x_in2 (i := 84) rfl rfl
theorem q_325 : (Cond.superclass "java/lang/IllegalArgumentException" "java/lang/RuntimeException") ∈ x_Wd := x_in2 (i := 85) rfl rfl
theorem q_326 : (Cond.arrayClass Jvm.ClassFile.FieldType.byte) ∈ x_Wd := x_in2 (i := 86) rfl rfl
theorem q_327 : (Cond.classLink "CheckedMachine" (51 : Nat) "java/lang/IllegalStateException") ∈ x_Wd := x_in2 (i := 87) rfl rfl
theorem q_328 : (Cond.instantiable "java/lang/IllegalStateException" (6 : Nat)) ∈ x_Wd := x_in2 (i := 88) rfl rfl
theorem q_330 : (Cond.selects "java/lang/IllegalStateException" ({ cls := "java/lang/Throwable", name := "fillInStackTrace", desc := "(I)Ljava/lang/Throwable;" } : Jvm.MethodName) ({ cls := "java/lang/Throwable", name := "fillInStackTrace", desc := "(I)Ljava/lang/Throwable;" } : Jvm.MethodName)) ∈ x_Wd := x_in2 (i := 90) rfl rfl
theorem q_331 : (Cond.lays "java/lang/IllegalStateException" "java/lang/Throwable" "cause" "Ljava/lang/Throwable;") ∈ x_Wd := x_in2 (i := 91) rfl rfl
theorem q_332 : (Cond.lays "java/lang/IllegalStateException" "java/lang/Throwable" "stackTrace" "[Ljava/lang/StackTraceElement;") ∈ x_Wd := x_in2 (i := 92) rfl rfl
theorem q_333 : (Cond.lays "java/lang/IllegalStateException" "java/lang/Throwable" "suppressedExceptions" "Ljava/util/List;") ∈ x_Wd := x_in2 (i := 93) rfl rfl
theorem q_334 : (Cond.lays "java/lang/IllegalStateException" "java/lang/Throwable" "detailMessage" "Ljava/lang/String;") ∈ x_Wd := x_in2 (i := 94) rfl rfl
theorem q_335 : (Cond.lays "java/lang/IllegalStateException" "java/lang/Throwable" "backtrace" "Ljava/lang/Object;") ∈ x_Wd := x_in2 (i := 95) rfl rfl
theorem q_337 : (Cond.methodLink "CheckedMachine" (55 : Nat) ({ cls := "java/lang/IllegalStateException", name := "<init>", desc := "(Ljava/lang/String;)V" } : Jvm.MethodName)) ∈ x_Wd := x_in2 (i := 97) rfl rfl
theorem q_338 : (Cond.instanceMethod ({ cls := "java/lang/IllegalStateException", name := "<init>", desc := "(Ljava/lang/String;)V" } : Jvm.MethodName)) ∈ x_Wd := x_in2 (i := 98) rfl rfl
theorem q_339 : (Cond.code ({ cls := "java/lang/IllegalStateException", name := "<init>", desc := "(Ljava/lang/String;)V" } : Jvm.MethodName) prog_14_method_2_code (2 : Nat) (Option.none : Option Jvm.ClassFile.FieldType)) ∈ x_Wd := x_in2 (i := 99) rfl rfl
theorem q_340 : (Cond.methodLink "java/lang/IllegalStateException" (7 : Nat) ({ cls := "java/lang/RuntimeException", name := "<init>", desc := "(Ljava/lang/String;)V" } : Jvm.MethodName)) ∈ x_Wd := x_in2 (i := 100) rfl rfl
theorem q_341 : (Cond.lays "java/lang/IllegalStateException" "java/lang/Throwable" "depth" "I") ∈ x_Wd := x_in2 (i := 101) rfl rfl
theorem q_342 : (Cond.superclass "java/lang/IllegalStateException" "java/lang/RuntimeException") ∈ x_Wd := x_in2 (i := 102) rfl rfl
theorem q_343 : (Cond.methodLink "CheckedMachine" (56 : Nat) ({ cls := "CheckedMachine$Program", name := "grow", desc := "()I" } : Jvm.MethodName)) ∈ x_Wd := x_in2 (i := 103) rfl rfl
theorem q_344 : (Cond.instanceMethod ({ cls := "CheckedMachine$Program", name := "grow", desc := "()I" } : Jvm.MethodName)) ∈ x_Wd := x_in2 (i := 104) rfl rfl
theorem q_345 : (Cond.selects "CheckedMachine$Program" ({ cls := "CheckedMachine$Program", name := "grow", desc := "()I" } : Jvm.MethodName) ({ cls := "CheckedMachine$Program", name := "grow", desc := "()I" } : Jvm.MethodName)) ∈ x_Wd := x_in2 (i := 105) rfl rfl
theorem q_346 : (Cond.code ({ cls := "CheckedMachine$Program", name := "grow", desc := "()I" } : Jvm.MethodName) prog_7_method_5_code (1 : Nat) (Option.some Jvm.ClassFile.FieldType.int)) ∈ x_Wd := x_in2 (i := 106) rfl rfl
theorem q_347 : (Cond.methodLink "CheckedMachine" (59 : Nat) ({ cls := "CheckedMachine$Program", name := "write", desc := "(IIIIII)V" } : Jvm.MethodName)) ∈ x_Wd := x_in2 (i := 107) rfl rfl
theorem q_348 : (Cond.instanceMethod ({ cls := "CheckedMachine$Program", name := "write", desc := "(IIIIII)V" } : Jvm.MethodName)) ∈ x_Wd := x_in2 (i := 108) rfl rfl
theorem q_349 : (Cond.selects "CheckedMachine$Program" ({ cls := "CheckedMachine$Program", name := "write", desc := "(IIIIII)V" } : Jvm.MethodName) ({ cls := "CheckedMachine$Program", name := "write", desc := "(IIIIII)V" } : Jvm.MethodName)) ∈ x_Wd := x_in2 (i := 109) rfl rfl
theorem q_350 : (Cond.code ({ cls := "CheckedMachine$Program", name := "write", desc := "(IIIIII)V" } : Jvm.MethodName) prog_7_method_7_code (8 : Nat) (Option.none : Option Jvm.ClassFile.FieldType)) ∈ x_Wd := x_in2 (i := 110) rfl rfl
theorem q_351 : (Cond.methodLink "CheckedMachine$Program" (26 : Nat) ({ cls := "CheckedMachine$Program", name := "stepAt", desc := "(I)LCheckedMachine$Step;" } : Jvm.MethodName)) ∈ x_Wd := x_in2 (i := 111) rfl rfl
theorem q_352 : (Cond.instanceMethod ({ cls := "CheckedMachine$Program", name := "stepAt", desc := "(I)LCheckedMachine$Step;" } : Jvm.MethodName)) ∈ x_Wd := x_in2 (i := 112) rfl rfl
theorem q_353 : (Cond.selects "CheckedMachine$Program" ({ cls := "CheckedMachine$Program", name := "stepAt", desc := "(I)LCheckedMachine$Step;" } : Jvm.MethodName) ({ cls := "CheckedMachine$Program", name := "stepAt", desc := "(I)LCheckedMachine$Step;" } : Jvm.MethodName)) ∈ x_Wd := x_in2 (i := 113) rfl rfl
theorem q_354 : (Cond.code ({ cls := "CheckedMachine$Program", name := "stepAt", desc := "(I)LCheckedMachine$Step;" } : Jvm.MethodName) prog_7_method_8_code (2 : Nat) (Option.some (Jvm.ClassFile.FieldType.object "CheckedMachine$Step"))) ∈ x_Wd := x_in2 (i := 114) rfl rfl
theorem q_355 : (Cond.methodLink "CheckedMachineLaw" (62 : Nat) ({ cls := "CheckedMachineLaw", name := "put", desc := "(LCheckedMachine;IIIIII)I" } : Jvm.MethodName)) ∈ x_Wd := x_in2 (i := 115) rfl rfl
theorem q_356 : (Cond.static ({ cls := "CheckedMachineLaw", name := "put", desc := "(LCheckedMachine;IIIIII)I" } : Jvm.MethodName)) ∈ x_Wd := x_in2 (i := 116) rfl rfl
theorem q_357 : (Cond.codeWith ({ cls := "CheckedMachineLaw", name := "put", desc := "(LCheckedMachine;IIIIII)I" } : Jvm.MethodName) method_4_code (8 : Nat) (Option.some Jvm.ClassFile.FieldType.int) [((0 : Nat), (13 : Nat), (16 : Nat), (13 : Nat)), ((0 : Nat), (13 : Nat), (20 : Nat), (21 : Nat))]) ∈ x_Wd := x_in2 (i := 117) rfl rfl
theorem q_358 : (Cond.classLink "CheckedMachineLaw" (21 : Nat) "java/util/NoSuchElementException") ∈ x_Wd := x_in2 (i := 118) rfl rfl
theorem q_359 : (Cond.methodLink "CheckedMachineLaw" (17 : Nat) ({ cls := "CheckedMachine", name := "put", desc := "(IIIIII)V" } : Jvm.MethodName)) ∈ x_Wd := x_in2 (i := 119) rfl rfl
theorem q_360 : (Cond.instanceMethod ({ cls := "CheckedMachine", name := "put", desc := "(IIIIII)V" } : Jvm.MethodName)) ∈ x_Wd := x_in2 (i := 120) rfl rfl
theorem q_361 : (Cond.selects "CheckedMachine" ({ cls := "CheckedMachine", name := "put", desc := "(IIIIII)V" } : Jvm.MethodName) ({ cls := "CheckedMachine", name := "put", desc := "(IIIIII)V" } : Jvm.MethodName)) ∈ x_Wd := x_in2 (i := 121) rfl rfl
theorem q_362 : (Cond.code ({ cls := "CheckedMachine", name := "put", desc := "(IIIIII)V" } : Jvm.MethodName) prog_1_method_3_code (7 : Nat) (Option.none : Option Jvm.ClassFile.FieldType)) ∈ x_Wd := x_in2 (i := 122) rfl rfl
theorem q_363 : (Cond.classLink "CheckedMachine" (63 : Nat) "java/util/NoSuchElementException") ∈ x_Wd := x_in2 (i := 123) rfl rfl
theorem q_364 : (Cond.instantiable "java/util/NoSuchElementException" (6 : Nat)) ∈ x_Wd := x_in2 (i := 124) rfl rfl
theorem q_366 : (Cond.selects "java/util/NoSuchElementException" ({ cls := "java/lang/Throwable", name := "fillInStackTrace", desc := "(I)Ljava/lang/Throwable;" } : Jvm.MethodName) ({ cls := "java/lang/Throwable", name := "fillInStackTrace", desc := "(I)Ljava/lang/Throwable;" } : Jvm.MethodName)) ∈ x_Wd := x_in2 (i := 126) rfl rfl
theorem q_367 : (Cond.lays "java/util/NoSuchElementException" "java/lang/Throwable" "cause" "Ljava/lang/Throwable;") ∈ x_Wd := x_in2 (i := 127) rfl rfl
theorem q_368 : (Cond.lays "java/util/NoSuchElementException" "java/lang/Throwable" "stackTrace" "[Ljava/lang/StackTraceElement;") ∈ x_Wd := x_in2 (i := 128) rfl rfl
theorem q_369 : (Cond.lays "java/util/NoSuchElementException" "java/lang/Throwable" "suppressedExceptions" "Ljava/util/List;") ∈ x_Wd := x_in2 (i := 129) rfl rfl
theorem q_370 : (Cond.lays "java/util/NoSuchElementException" "java/lang/Throwable" "detailMessage" "Ljava/lang/String;") ∈ x_Wd := x_in2 (i := 130) rfl rfl
theorem q_371 : (Cond.lays "java/util/NoSuchElementException" "java/lang/Throwable" "backtrace" "Ljava/lang/Object;") ∈ x_Wd := x_in2 (i := 131) rfl rfl
theorem q_373 : (Cond.methodLink "CheckedMachine" (67 : Nat) ({ cls := "java/util/NoSuchElementException", name := "<init>", desc := "(Ljava/lang/String;)V" } : Jvm.MethodName)) ∈ x_Wd := x_in2 (i := 133) rfl rfl
theorem q_374 : (Cond.instanceMethod ({ cls := "java/util/NoSuchElementException", name := "<init>", desc := "(Ljava/lang/String;)V" } : Jvm.MethodName)) ∈ x_Wd := x_in2 (i := 134) rfl rfl
theorem q_375 : (Cond.code ({ cls := "java/util/NoSuchElementException", name := "<init>", desc := "(Ljava/lang/String;)V" } : Jvm.MethodName) prog_21_method_4_code (2 : Nat) (Option.none : Option Jvm.ClassFile.FieldType)) ∈ x_Wd := x_in2 (i := 135) rfl rfl
theorem q_376 : (Cond.methodLink "java/util/NoSuchElementException" (13 : Nat) ({ cls := "java/lang/RuntimeException", name := "<init>", desc := "(Ljava/lang/String;)V" } : Jvm.MethodName)) ∈ x_Wd := x_in2 (i := 136) rfl rfl
theorem q_377 : (Cond.lays "java/util/NoSuchElementException" "java/lang/Throwable" "depth" "I") ∈ x_Wd := x_in2 (i := 137) rfl rfl
theorem q_378 : (Cond.superclass "java/util/NoSuchElementException" "java/lang/RuntimeException") ∈ x_Wd := x_in2 (i := 138) rfl rfl
theorem q_379 : (Cond.methodLink "CheckedMachineLaw" (66 : Nat) ({ cls := "CheckedMachineLaw", name := "cut", desc := "(LCheckedMachine;I)I" } : Jvm.MethodName)) ∈ x_Wd := x_in2 (i := 139) rfl rfl
theorem q_380 : (Cond.static ({ cls := "CheckedMachineLaw", name := "cut", desc := "(LCheckedMachine;I)I" } : Jvm.MethodName)) ∈ x_Wd := x_in2 (i := 140) rfl rfl
theorem q_381 : (Cond.codeWith ({ cls := "CheckedMachineLaw", name := "cut", desc := "(LCheckedMachine;I)I" } : Jvm.MethodName) method_5_code (3 : Nat) (Option.some Jvm.ClassFile.FieldType.int) [((0 : Nat), (5 : Nat), (8 : Nat), (13 : Nat))]) ∈ x_Wd := x_in2 (i := 141) rfl rfl
theorem q_382 : (Cond.methodLink "CheckedMachineLaw" (23 : Nat) ({ cls := "CheckedMachine", name := "cut", desc := "(I)V" } : Jvm.MethodName)) ∈ x_Wd := x_in2 (i := 142) rfl rfl
theorem q_383 : (Cond.instanceMethod ({ cls := "CheckedMachine", name := "cut", desc := "(I)V" } : Jvm.MethodName)) ∈ x_Wd := x_in2 (i := 143) rfl rfl
theorem q_384 : (Cond.selects "CheckedMachine" ({ cls := "CheckedMachine", name := "cut", desc := "(I)V" } : Jvm.MethodName) ({ cls := "CheckedMachine", name := "cut", desc := "(I)V" } : Jvm.MethodName)) ∈ x_Wd := x_in2 (i := 144) rfl rfl
theorem q_385 : (Cond.code ({ cls := "CheckedMachine", name := "cut", desc := "(I)V" } : Jvm.MethodName) prog_1_method_4_code (2 : Nat) (Option.none : Option Jvm.ClassFile.FieldType)) ∈ x_Wd := x_in2 (i := 145) rfl rfl
theorem q_387 : (Cond.methodLink "CheckedMachine" (70 : Nat) ({ cls := "CheckedMachine$Program", name := "shorten", desc := "(I)V" } : Jvm.MethodName)) ∈ x_Wd := x_in2 (i := 147) rfl rfl
theorem q_388 : (Cond.instanceMethod ({ cls := "CheckedMachine$Program", name := "shorten", desc := "(I)V" } : Jvm.MethodName)) ∈ x_Wd := x_in2 (i := 148) rfl rfl
theorem q_389 : (Cond.selects "CheckedMachine$Program" ({ cls := "CheckedMachine$Program", name := "shorten", desc := "(I)V" } : Jvm.MethodName) ({ cls := "CheckedMachine$Program", name := "shorten", desc := "(I)V" } : Jvm.MethodName)) ∈ x_Wd := x_in2 (i := 149) rfl rfl
theorem q_390 : (Cond.code ({ cls := "CheckedMachine$Program", name := "shorten", desc := "(I)V" } : Jvm.MethodName) prog_7_method_6_code (2 : Nat) (Option.none : Option Jvm.ClassFile.FieldType)) ∈ x_Wd := x_in2 (i := 150) rfl rfl
theorem q_391 : (Cond.methodLink "CheckedMachineLaw" (70 : Nat) ({ cls := "CheckedMachineLaw", name := "check", desc := "(LCheckedMachine;[J)I" } : Jvm.MethodName)) ∈ x_Wd := x_in2 (i := 151) rfl rfl
theorem q_392 : (Cond.static ({ cls := "CheckedMachineLaw", name := "check", desc := "(LCheckedMachine;[J)I" } : Jvm.MethodName)) ∈ x_Wd := x_in2 (i := 152) rfl rfl
theorem q_393 : (Cond.codeWith ({ cls := "CheckedMachineLaw", name := "check", desc := "(LCheckedMachine;[J)I" } : Jvm.MethodName) method_6_code (3 : Nat) (Option.some Jvm.ClassFile.FieldType.int) [((0 : Nat), (8 : Nat), (11 : Nat), (13 : Nat)), ((0 : Nat), (8 : Nat), (14 : Nat), (31 : Nat))]) ∈ x_Wd := x_in2 (i := 153) rfl rfl
theorem q_394 : (Cond.classLink "CheckedMachineLaw" (31 : Nat) "java/lang/UnsupportedOperationException") ∈ x_Wd := x_in2 (i := 154) rfl rfl
theorem q_395 : (Cond.methodLink "CheckedMachineLaw" (27 : Nat) ({ cls := "CheckedMachine", name := "check", desc := "()I" } : Jvm.MethodName)) ∈ x_Wd := x_in2 (i := 155) rfl rfl
theorem q_396 : (Cond.instanceMethod ({ cls := "CheckedMachine", name := "check", desc := "()I" } : Jvm.MethodName)) ∈ x_Wd := x_in2 (i := 156) rfl rfl
theorem q_397 : (Cond.selects "CheckedMachine" ({ cls := "CheckedMachine", name := "check", desc := "()I" } : Jvm.MethodName) ({ cls := "CheckedMachine", name := "check", desc := "()I" } : Jvm.MethodName)) ∈ x_Wd := x_in2 (i := 157) rfl rfl
theorem q_398 : (Cond.code ({ cls := "CheckedMachine", name := "check", desc := "()I" } : Jvm.MethodName) prog_1_method_5_code (2 : Nat) (Option.some Jvm.ClassFile.FieldType.int)) ∈ x_Wd := x_in2 (i := 158) rfl rfl
theorem q_399 : (Cond.methodLink "CheckedMachine" (74 : Nat) ({ cls := "CheckedMachine$Checker", name := "goDownAllWays", desc := "()I" } : Jvm.MethodName)) ∈ x_Wd := x_in2 (i := 159) rfl rfl
theorem q_400 : (Cond.instanceMethod ({ cls := "CheckedMachine$Checker", name := "goDownAllWays", desc := "()I" } : Jvm.MethodName)) ∈ x_Wd := x_in2 (i := 160) rfl rfl
theorem q_401 : (Cond.selects "CheckedMachine$Checker" ({ cls := "CheckedMachine$Checker", name := "goDownAllWays", desc := "()I" } : Jvm.MethodName) ({ cls := "CheckedMachine$Checker", name := "goDownAllWays", desc := "()I" } : Jvm.MethodName)) ∈ x_Wd := x_in2 (i := 161) rfl rfl
theorem q_402 : (Cond.code ({ cls := "CheckedMachine$Checker", name := "goDownAllWays", desc := "()I" } : Jvm.MethodName) prog_2_method_7_code (3 : Nat) (Option.some Jvm.ClassFile.FieldType.int)) ∈ x_Wd := x_in2 (i := 162) rfl rfl
theorem q_403 : (Cond.methodLink "CheckedMachine$Checker" (65 : Nat) ({ cls := "CheckedMachine$Checker", name := "begin", desc := "()V" } : Jvm.MethodName)) ∈ x_Wd := x_in2 (i := 163) rfl rfl
theorem q_405 : (Cond.instanceMethod ({ cls := "CheckedMachine$Checker", name := "begin", desc := "()V" } : Jvm.MethodName)) ∈ x_Wd := x_in2 (i := 165) rfl rfl
theorem q_406 : (Cond.code ({ cls := "CheckedMachine$Checker", name := "begin", desc := "()V" } : Jvm.MethodName) prog_2_method_8_code (2 : Nat) (Option.none : Option Jvm.ClassFile.FieldType)) ∈ x_Wd := x_in2 (i := 166) rfl rfl
theorem q_407 : (Cond.methodLink "CheckedMachine$Checker" (75 : Nat) ({ cls := "CheckedMachine$Guesses", name := "begin", desc := "()V" } : Jvm.MethodName)) ∈ x_Wd := x_in2 (i := 167) rfl rfl
theorem q_408 : (Cond.instanceMethod ({ cls := "CheckedMachine$Guesses", name := "begin", desc := "()V" } : Jvm.MethodName)) ∈ x_Wd := x_in2 (i := 168) rfl rfl
theorem q_409 : (Cond.selects "CheckedMachine$Guesses" ({ cls := "CheckedMachine$Guesses", name := "begin", desc := "()V" } : Jvm.MethodName) ({ cls := "CheckedMachine$Guesses", name := "begin", desc := "()V" } : Jvm.MethodName)) ∈ x_Wd := x_in2 (i := 169) rfl rfl
theorem q_410 : (Cond.code ({ cls := "CheckedMachine$Guesses", name := "begin", desc := "()V" } : Jvm.MethodName) prog_5_method_2_code (2 : Nat) (Option.none : Option Jvm.ClassFile.FieldType)) ∈ x_Wd := x_in2 (i := 170) rfl rfl
theorem q_411 : (Cond.methodLink "CheckedMachine$Guesses" (22 : Nat) ({ cls := "CheckedMachine$Guesses", name := "clear", desc := "(I)V" } : Jvm.MethodName)) ∈ x_Wd := x_in2 (i := 171) rfl rfl
theorem q_412 : (Cond.instanceMethod ({ cls := "CheckedMachine$Guesses", name := "clear", desc := "(I)V" } : Jvm.MethodName)) ∈ x_Wd := x_in2 (i := 172) rfl rfl
theorem q_413 : (Cond.selects "CheckedMachine$Guesses" ({ cls := "CheckedMachine$Guesses", name := "clear", desc := "(I)V" } : Jvm.MethodName) ({ cls := "CheckedMachine$Guesses", name := "clear", desc := "(I)V" } : Jvm.MethodName)) ∈ x_Wd := x_in2 (i := 173) rfl rfl
theorem q_414 : (Cond.code ({ cls := "CheckedMachine$Guesses", name := "clear", desc := "(I)V" } : Jvm.MethodName) prog_5_method_13_code (2 : Nat) (Option.none : Option Jvm.ClassFile.FieldType)) ∈ x_Wd := x_in2 (i := 174) rfl rfl
theorem q_415 : (Cond.methodLink "CheckedMachine$Guesses" (29 : Nat) ({ cls := "CheckedMachine$Guesses", name := "set", desc := "(IIJJ)V" } : Jvm.MethodName)) ∈ x_Wd := x_in2 (i := 175) rfl rfl
theorem q_416 : (Cond.instanceMethod ({ cls := "CheckedMachine$Guesses", name := "set", desc := "(IIJJ)V" } : Jvm.MethodName)) ∈ x_Wd := x_in2 (i := 176) rfl rfl
theorem q_417 : (Cond.selects "CheckedMachine$Guesses" ({ cls := "CheckedMachine$Guesses", name := "set", desc := "(IIJJ)V" } : Jvm.MethodName) ({ cls := "CheckedMachine$Guesses", name := "set", desc := "(IIJJ)V" } : Jvm.MethodName)) ∈ x_Wd := x_in2 (i := 177) rfl rfl
theorem q_418 : (Cond.code ({ cls := "CheckedMachine$Guesses", name := "set", desc := "(IIJJ)V" } : Jvm.MethodName) prog_5_method_10_code (7 : Nat) (Option.none : Option Jvm.ClassFile.FieldType)) ∈ x_Wd := x_in2 (i := 178) rfl rfl
theorem q_419 : (Cond.methodLink "CheckedMachine$Guesses" (26 : Nat) ({ cls := "CheckedMachine$Guesses", name := "setAny", desc := "(I)V" } : Jvm.MethodName)) ∈ x_Wd := x_in2 (i := 179) rfl rfl
theorem q_420 : (Cond.instanceMethod ({ cls := "CheckedMachine$Guesses", name := "setAny", desc := "(I)V" } : Jvm.MethodName)) ∈ x_Wd := x_in2 (i := 180) rfl rfl
theorem q_421 : (Cond.selects "CheckedMachine$Guesses" ({ cls := "CheckedMachine$Guesses", name := "setAny", desc := "(I)V" } : Jvm.MethodName) ({ cls := "CheckedMachine$Guesses", name := "setAny", desc := "(I)V" } : Jvm.MethodName)) ∈ x_Wd := x_in2 (i := 181) rfl rfl
theorem q_422 : (Cond.code ({ cls := "CheckedMachine$Guesses", name := "setAny", desc := "(I)V" } : Jvm.MethodName) prog_5_method_12_code (2 : Nat) (Option.none : Option Jvm.ClassFile.FieldType)) ∈ x_Wd := x_in2 (i := 182) rfl rfl
theorem q_423 : (Cond.constantLong "CheckedMachine$Guesses" (41 : Nat) (-9223372036854775808 : Int64)) ∈ x_Wd := x_in2 (i := 183) rfl rfl
theorem q_424 : (Cond.constantLong "CheckedMachine$Guesses" (43 : Nat) (9223372036854775807 : Int64)) ∈ x_Wd := x_in2 (i := 184) rfl rfl
theorem q_425 : (Cond.methodLink "CheckedMachine$Checker" (68 : Nat) ({ cls := "CheckedMachine$Checker", name := "lookAt", desc := "(I)I" } : Jvm.MethodName)) ∈ x_Wd := x_in2 (i := 185) rfl rfl
theorem q_427 : (Cond.instanceMethod ({ cls := "CheckedMachine$Checker", name := "lookAt", desc := "(I)I" } : Jvm.MethodName)) ∈ x_Wd := x_in2 (i := 187) rfl rfl
theorem q_428 : (Cond.code ({ cls := "CheckedMachine$Checker", name := "lookAt", desc := "(I)I" } : Jvm.MethodName) prog_2_method_9_code (4 : Nat) (Option.some Jvm.ClassFile.FieldType.int)) ∈ x_Wd := x_in2 (i := 188) rfl rfl
theorem q_429 : (Cond.methodLink "CheckedMachine$Checker" (80 : Nat) ({ cls := "CheckedMachine$Program", name := "stepAt", desc := "(I)LCheckedMachine$Step;" } : Jvm.MethodName)) ∈ x_Wd := x_in2 (i := 189) rfl rfl
theorem q_430 : (Cond.methodLink "CheckedMachine$Checker" (86 : Nat) ({ cls := "CheckedMachine$Judge", name := "reasonAgainst", desc := "(LCheckedMachine$Step;I)I" } : Jvm.MethodName)) ∈ x_Wd := x_in2 (i := 190) rfl rfl
theorem q_431 : (Cond.instanceMethod ({ cls := "CheckedMachine$Judge", name := "reasonAgainst", desc := "(LCheckedMachine$Step;I)I" } : Jvm.MethodName)) ∈ x_Wd := x_in2 (i := 191) rfl rfl
theorem q_432 : (Cond.selects "CheckedMachine$Judge" ({ cls := "CheckedMachine$Judge", name := "reasonAgainst", desc := "(LCheckedMachine$Step;I)I" } : Jvm.MethodName) ({ cls := "CheckedMachine$Judge", name := "reasonAgainst", desc := "(LCheckedMachine$Step;I)I" } : Jvm.MethodName)) ∈ x_Wd := x_in2 (i := 192) rfl rfl
theorem q_433 : (Cond.code ({ cls := "CheckedMachine$Judge", name := "reasonAgainst", desc := "(LCheckedMachine$Step;I)I" } : Jvm.MethodName) prog_6_method_2_code (3 : Nat) (Option.some Jvm.ClassFile.FieldType.int)) ∈ x_Wd := x_in2 (i := 193) rfl rfl
theorem q_434 : (Cond.methodLink "CheckedMachine$Judge" (19 : Nat) ({ cls := "CheckedMachine$Judge", name := "lacksTarget", desc := "(LCheckedMachine$Step;I)Z" } : Jvm.MethodName)) ∈ x_Wd := x_in2 (i := 194) rfl rfl
theorem q_436 : (Cond.instanceMethod ({ cls := "CheckedMachine$Judge", name := "lacksTarget", desc := "(LCheckedMachine$Step;I)Z" } : Jvm.MethodName)) ∈ x_Wd := x_in2 (i := 196) rfl rfl
theorem q_437 : (Cond.code ({ cls := "CheckedMachine$Judge", name := "lacksTarget", desc := "(LCheckedMachine$Step;I)Z" } : Jvm.MethodName) prog_6_method_3_code (3 : Nat) (Option.some Jvm.ClassFile.FieldType.boolean)) ∈ x_Wd := x_in2 (i := 197) rfl rfl
theorem q_438 : (Cond.methodLink "CheckedMachine$Judge" (45 : Nat) ({ cls := "CheckedMachine$Step", name := "mayJump", desc := "()Z" } : Jvm.MethodName)) ∈ x_Wd := x_in2 (i := 198) rfl rfl
theorem q_439 : (Cond.instanceMethod ({ cls := "CheckedMachine$Step", name := "mayJump", desc := "()Z" } : Jvm.MethodName)) ∈ x_Wd := x_in2 (i := 199) rfl rfl
theorem q_440 : (Cond.selects "CheckedMachine$Step" ({ cls := "CheckedMachine$Step", name := "mayJump", desc := "()Z" } : Jvm.MethodName) ({ cls := "CheckedMachine$Step", name := "mayJump", desc := "()Z" } : Jvm.MethodName)) ∈ x_Wd := x_in2 (i := 200) rfl rfl
theorem q_441 : (Cond.code ({ cls := "CheckedMachine$Step", name := "mayJump", desc := "()Z" } : Jvm.MethodName) prog_9_method_3_code (1 : Nat) (Option.some Jvm.ClassFile.FieldType.boolean)) ∈ x_Wd := x_in2 (i := 201) rfl rfl
theorem q_442 : (Cond.methodLink "CheckedMachine$Judge" (55 : Nat) ({ cls := "CheckedMachine$Program", name := "size", desc := "()I" } : Jvm.MethodName)) ∈ x_Wd := x_in2 (i := 202) rfl rfl
theorem q_443 : (Cond.methodLink "CheckedMachine$Judge" (23 : Nat) ({ cls := "CheckedMachine$Judge", name := "usesEmpty", desc := "(LCheckedMachine$Step;)Z" } : Jvm.MethodName)) ∈ x_Wd := x_in2 (i := 203) rfl rfl
theorem q_445 : (Cond.instanceMethod ({ cls := "CheckedMachine$Judge", name := "usesEmpty", desc := "(LCheckedMachine$Step;)Z" } : Jvm.MethodName)) ∈ x_Wd := x_in2 (i := 205) rfl rfl
theorem q_446 : (Cond.code ({ cls := "CheckedMachine$Judge", name := "usesEmpty", desc := "(LCheckedMachine$Step;)Z" } : Jvm.MethodName) prog_6_method_4_code (2 : Nat) (Option.some Jvm.ClassFile.FieldType.boolean)) ∈ x_Wd := x_in2 (i := 206) rfl rfl
theorem q_447 : (Cond.methodLink "CheckedMachine$Judge" (67 : Nat) ({ cls := "CheckedMachine$Guesses", name := "isEmpty", desc := "(I)Z" } : Jvm.MethodName)) ∈ x_Wd := x_in2 (i := 207) rfl rfl
theorem q_448 : (Cond.instanceMethod ({ cls := "CheckedMachine$Guesses", name := "isEmpty", desc := "(I)Z" } : Jvm.MethodName)) ∈ x_Wd := x_in2 (i := 208) rfl rfl
theorem q_449 : (Cond.selects "CheckedMachine$Guesses" ({ cls := "CheckedMachine$Guesses", name := "isEmpty", desc := "(I)Z" } : Jvm.MethodName) ({ cls := "CheckedMachine$Guesses", name := "isEmpty", desc := "(I)Z" } : Jvm.MethodName)) ∈ x_Wd := x_in2 (i := 209) rfl rfl
theorem q_450 : (Cond.code ({ cls := "CheckedMachine$Guesses", name := "isEmpty", desc := "(I)Z" } : Jvm.MethodName) prog_5_method_7_code (2 : Nat) (Option.some Jvm.ClassFile.FieldType.boolean)) ∈ x_Wd := x_in2 (i := 210) rfl rfl
theorem q_451 : (Cond.methodLink "CheckedMachine$Judge" (73 : Nat) ({ cls := "CheckedMachine$Step", name := "usesD", desc := "()Z" } : Jvm.MethodName)) ∈ x_Wd := x_in2 (i := 211) rfl rfl
theorem q_452 : (Cond.instanceMethod ({ cls := "CheckedMachine$Step", name := "usesD", desc := "()Z" } : Jvm.MethodName)) ∈ x_Wd := x_in2 (i := 212) rfl rfl
theorem q_453 : (Cond.selects "CheckedMachine$Step" ({ cls := "CheckedMachine$Step", name := "usesD", desc := "()Z" } : Jvm.MethodName) ({ cls := "CheckedMachine$Step", name := "usesD", desc := "()Z" } : Jvm.MethodName)) ∈ x_Wd := x_in2 (i := 213) rfl rfl
theorem q_454 : (Cond.code ({ cls := "CheckedMachine$Step", name := "usesD", desc := "()Z" } : Jvm.MethodName) prog_9_method_4_code (1 : Nat) (Option.some Jvm.ClassFile.FieldType.boolean)) ∈ x_Wd := x_in2 (i := 214) rfl rfl
theorem q_455 : (Cond.methodLink "CheckedMachine$Judge" (79 : Nat) ({ cls := "CheckedMachine$Step", name := "usesS", desc := "()Z" } : Jvm.MethodName)) ∈ x_Wd := x_in2 (i := 215) rfl rfl
theorem q_456 : (Cond.instanceMethod ({ cls := "CheckedMachine$Step", name := "usesS", desc := "()Z" } : Jvm.MethodName)) ∈ x_Wd := x_in2 (i := 216) rfl rfl
theorem q_457 : (Cond.selects "CheckedMachine$Step" ({ cls := "CheckedMachine$Step", name := "usesS", desc := "()Z" } : Jvm.MethodName) ({ cls := "CheckedMachine$Step", name := "usesS", desc := "()Z" } : Jvm.MethodName)) ∈ x_Wd := x_in2 (i := 217) rfl rfl
theorem q_458 : (Cond.code ({ cls := "CheckedMachine$Step", name := "usesS", desc := "()Z" } : Jvm.MethodName) prog_9_method_5_code (1 : Nat) (Option.some Jvm.ClassFile.FieldType.boolean)) ∈ x_Wd := x_in2 (i := 218) rfl rfl
theorem q_459 : (Cond.methodLink "CheckedMachine$Judge" (27 : Nat) ({ cls := "CheckedMachine$Judge", name := "hasBadNumber", desc := "(LCheckedMachine$Step;)Z" } : Jvm.MethodName)) ∈ x_Wd := x_in2 (i := 219) rfl rfl
theorem q_460 : (Cond.static ({ cls := "CheckedMachine$Judge", name := "hasBadNumber", desc := "(LCheckedMachine$Step;)Z" } : Jvm.MethodName)) ∈ x_Wd := x_in2 (i := 220) rfl rfl
theorem q_461 : (Cond.code ({ cls := "CheckedMachine$Judge", name := "hasBadNumber", desc := "(LCheckedMachine$Step;)Z" } : Jvm.MethodName) prog_6_method_5_code (1 : Nat) (Option.some Jvm.ClassFile.FieldType.boolean)) ∈ x_Wd := x_in2 (i := 221) rfl rfl
theorem q_462 : (Cond.methodLink "CheckedMachine$Judge" (30 : Nat) ({ cls := "CheckedMachine$Judge", name := "hasWrongKind", desc := "(LCheckedMachine$Step;)Z" } : Jvm.MethodName)) ∈ x_Wd := x_in2 (i := 222) rfl rfl
theorem q_464 : (Cond.instanceMethod ({ cls := "CheckedMachine$Judge", name := "hasWrongKind", desc := "(LCheckedMachine$Step;)Z" } : Jvm.MethodName)) ∈ x_Wd := x_in2 (i := 224) rfl rfl
theorem q_465 : (Cond.code ({ cls := "CheckedMachine$Judge", name := "hasWrongKind", desc := "(LCheckedMachine$Step;)Z" } : Jvm.MethodName) prog_6_method_6_code (2 : Nat) (Option.some Jvm.ClassFile.FieldType.boolean)) ∈ x_Wd := x_in2 (i := 225) rfl rfl
theorem q_466 : (Cond.methodLink "CheckedMachine$Judge" (85 : Nat) ({ cls := "CheckedMachine$Judge", name := "isRangeOrPlace", desc := "(I)Z" } : Jvm.MethodName)) ∈ x_Wd := x_in2 (i := 226) rfl rfl
theorem q_468 : (Cond.instanceMethod ({ cls := "CheckedMachine$Judge", name := "isRangeOrPlace", desc := "(I)Z" } : Jvm.MethodName)) ∈ x_Wd := x_in2 (i := 228) rfl rfl
theorem q_469 : (Cond.code ({ cls := "CheckedMachine$Judge", name := "isRangeOrPlace", desc := "(I)Z" } : Jvm.MethodName) prog_6_method_7_code (2 : Nat) (Option.some Jvm.ClassFile.FieldType.boolean)) ∈ x_Wd := x_in2 (i := 229) rfl rfl
theorem q_470 : (Cond.methodLink "CheckedMachine$Judge" (88 : Nat) ({ cls := "CheckedMachine$Guesses", name := "isRange", desc := "(I)Z" } : Jvm.MethodName)) ∈ x_Wd := x_in2 (i := 230) rfl rfl
theorem q_471 : (Cond.instanceMethod ({ cls := "CheckedMachine$Guesses", name := "isRange", desc := "(I)Z" } : Jvm.MethodName)) ∈ x_Wd := x_in2 (i := 231) rfl rfl
theorem q_472 : (Cond.selects "CheckedMachine$Guesses" ({ cls := "CheckedMachine$Guesses", name := "isRange", desc := "(I)Z" } : Jvm.MethodName) ({ cls := "CheckedMachine$Guesses", name := "isRange", desc := "(I)Z" } : Jvm.MethodName)) ∈ x_Wd := x_in2 (i := 232) rfl rfl
theorem q_473 : (Cond.code ({ cls := "CheckedMachine$Guesses", name := "isRange", desc := "(I)Z" } : Jvm.MethodName) prog_5_method_8_code (2 : Nat) (Option.some Jvm.ClassFile.FieldType.boolean)) ∈ x_Wd := x_in2 (i := 233) rfl rfl
theorem q_474 : (Cond.methodLink "CheckedMachine$Judge" (94 : Nat) ({ cls := "CheckedMachine$Guesses", name := "isPlace", desc := "(I)Z" } : Jvm.MethodName)) ∈ x_Wd := x_in2 (i := 234) rfl rfl
theorem q_475 : (Cond.instanceMethod ({ cls := "CheckedMachine$Guesses", name := "isPlace", desc := "(I)Z" } : Jvm.MethodName)) ∈ x_Wd := x_in2 (i := 235) rfl rfl
theorem q_476 : (Cond.selects "CheckedMachine$Guesses" ({ cls := "CheckedMachine$Guesses", name := "isPlace", desc := "(I)Z" } : Jvm.MethodName) ({ cls := "CheckedMachine$Guesses", name := "isPlace", desc := "(I)Z" } : Jvm.MethodName)) ∈ x_Wd := x_in2 (i := 236) rfl rfl
theorem q_477 : (Cond.code ({ cls := "CheckedMachine$Guesses", name := "isPlace", desc := "(I)Z" } : Jvm.MethodName) prog_5_method_9_code (2 : Nat) (Option.some Jvm.ClassFile.FieldType.boolean)) ∈ x_Wd := x_in2 (i := 237) rfl rfl
theorem q_478 : (Cond.methodLink "CheckedMachine$Judge" (91 : Nat) ({ cls := "CheckedMachine$Judge", name := "isMaybeMissing", desc := "(LCheckedMachine$Step;)Z" } : Jvm.MethodName)) ∈ x_Wd := x_in2 (i := 238) rfl rfl
theorem q_480 : (Cond.instanceMethod ({ cls := "CheckedMachine$Judge", name := "isMaybeMissing", desc := "(LCheckedMachine$Step;)Z" } : Jvm.MethodName)) ∈ x_Wd := x_in3 (i := 0) rfl rfl
theorem q_481 : (Cond.code ({ cls := "CheckedMachine$Judge", name := "isMaybeMissing", desc := "(LCheckedMachine$Step;)Z" } : Jvm.MethodName) prog_6_method_8_code (2 : Nat) (Option.some Jvm.ClassFile.FieldType.boolean)) ∈ x_Wd := x_in3 (i := 1) rfl rfl
theorem q_482 : (Cond.methodLink "CheckedMachine$Judge" (103 : Nat) ({ cls := "CheckedMachine$Guesses", name := "kind", desc := "(I)I" } : Jvm.MethodName)) ∈ x_Wd := x_in3 (i := 2) rfl rfl
theorem q_483 : (Cond.instanceMethod ({ cls := "CheckedMachine$Guesses", name := "kind", desc := "(I)I" } : Jvm.MethodName)) ∈ x_Wd := x_in3 (i := 3) rfl rfl
theorem q_484 : (Cond.selects "CheckedMachine$Guesses" ({ cls := "CheckedMachine$Guesses", name := "kind", desc := "(I)I" } : Jvm.MethodName) ({ cls := "CheckedMachine$Guesses", name := "kind", desc := "(I)I" } : Jvm.MethodName)) ∈ x_Wd := x_in3 (i := 4) rfl rfl
theorem q_485 : (Cond.code ({ cls := "CheckedMachine$Guesses", name := "kind", desc := "(I)I" } : Jvm.MethodName) prog_5_method_4_code (2 : Nat) (Option.some Jvm.ClassFile.FieldType.int)) ∈ x_Wd := x_in3 (i := 5) rfl rfl
theorem q_486 : (Cond.methodLink "CheckedMachine$Judge" (97 : Nat) ({ cls := "CheckedMachine$Judge", name := "storesWrongKind", desc := "(LCheckedMachine$Step;)Z" } : Jvm.MethodName)) ∈ x_Wd := x_in3 (i := 6) rfl rfl
theorem q_488 : (Cond.instanceMethod ({ cls := "CheckedMachine$Judge", name := "storesWrongKind", desc := "(LCheckedMachine$Step;)Z" } : Jvm.MethodName)) ∈ x_Wd := x_in3 (i := 8) rfl rfl
theorem q_489 : (Cond.code ({ cls := "CheckedMachine$Judge", name := "storesWrongKind", desc := "(LCheckedMachine$Step;)Z" } : Jvm.MethodName) prog_6_method_10_code (2 : Nat) (Option.some Jvm.ClassFile.FieldType.boolean)) ∈ x_Wd := x_in3 (i := 9) rfl rfl
theorem q_490 : (Cond.methodLink "CheckedMachine$Judge" (107 : Nat) ({ cls := "CheckedMachine$Judge", name := "isOneCellOfFrame", desc := "(I)Z" } : Jvm.MethodName)) ∈ x_Wd := x_in3 (i := 10) rfl rfl
theorem q_492 : (Cond.instanceMethod ({ cls := "CheckedMachine$Judge", name := "isOneCellOfFrame", desc := "(I)Z" } : Jvm.MethodName)) ∈ x_Wd := x_in3 (i := 12) rfl rfl
theorem q_493 : (Cond.code ({ cls := "CheckedMachine$Judge", name := "isOneCellOfFrame", desc := "(I)Z" } : Jvm.MethodName) prog_6_method_11_code (2 : Nat) (Option.some Jvm.ClassFile.FieldType.boolean)) ∈ x_Wd := x_in3 (i := 13) rfl rfl
theorem q_494 : (Cond.methodLink "CheckedMachine$Judge" (110 : Nat) ({ cls := "CheckedMachine$Guesses", name := "lo", desc := "(I)J" } : Jvm.MethodName)) ∈ x_Wd := x_in3 (i := 14) rfl rfl
theorem q_495 : (Cond.instanceMethod ({ cls := "CheckedMachine$Guesses", name := "lo", desc := "(I)J" } : Jvm.MethodName)) ∈ x_Wd := x_in3 (i := 15) rfl rfl
theorem q_496 : (Cond.selects "CheckedMachine$Guesses" ({ cls := "CheckedMachine$Guesses", name := "lo", desc := "(I)J" } : Jvm.MethodName) ({ cls := "CheckedMachine$Guesses", name := "lo", desc := "(I)J" } : Jvm.MethodName)) ∈ x_Wd := x_in3 (i := 16) rfl rfl
theorem q_497 : (Cond.code ({ cls := "CheckedMachine$Guesses", name := "lo", desc := "(I)J" } : Jvm.MethodName) prog_5_method_5_code (2 : Nat) (Option.some Jvm.ClassFile.FieldType.long)) ∈ x_Wd := x_in3 (i := 17) rfl rfl
theorem q_498 : (Cond.methodLink "CheckedMachine$Judge" (114 : Nat) ({ cls := "CheckedMachine$Guesses", name := "hi", desc := "(I)J" } : Jvm.MethodName)) ∈ x_Wd := x_in3 (i := 18) rfl rfl
theorem q_499 : (Cond.instanceMethod ({ cls := "CheckedMachine$Guesses", name := "hi", desc := "(I)J" } : Jvm.MethodName)) ∈ x_Wd := x_in3 (i := 19) rfl rfl
theorem q_500 : (Cond.selects "CheckedMachine$Guesses" ({ cls := "CheckedMachine$Guesses", name := "hi", desc := "(I)J" } : Jvm.MethodName) ({ cls := "CheckedMachine$Guesses", name := "hi", desc := "(I)J" } : Jvm.MethodName)) ∈ x_Wd := x_in3 (i := 20) rfl rfl
theorem q_501 : (Cond.code ({ cls := "CheckedMachine$Guesses", name := "hi", desc := "(I)J" } : Jvm.MethodName) prog_5_method_6_code (2 : Nat) (Option.some Jvm.ClassFile.FieldType.long)) ∈ x_Wd := x_in3 (i := 21) rfl rfl
theorem q_502 : (Cond.methodLink "CheckedMachine$Judge" (100 : Nat) ({ cls := "CheckedMachine$Judge", name := "callsWithWrongKind", desc := "(LCheckedMachine$Step;)Z" } : Jvm.MethodName)) ∈ x_Wd := x_in3 (i := 22) rfl rfl
theorem q_504 : (Cond.instanceMethod ({ cls := "CheckedMachine$Judge", name := "callsWithWrongKind", desc := "(LCheckedMachine$Step;)Z" } : Jvm.MethodName)) ∈ x_Wd := x_in3 (i := 24) rfl rfl
theorem q_505 : (Cond.code ({ cls := "CheckedMachine$Judge", name := "callsWithWrongKind", desc := "(LCheckedMachine$Step;)Z" } : Jvm.MethodName) prog_6_method_9_code (2 : Nat) (Option.some Jvm.ClassFile.FieldType.boolean)) ∈ x_Wd := x_in3 (i := 25) rfl rfl
theorem q_506 : (Cond.methodLink "CheckedMachine$Judge" (33 : Nat) ({ cls := "CheckedMachine$Judge", name := "storesOverNoRange", desc := "(LCheckedMachine$Step;)Z" } : Jvm.MethodName)) ∈ x_Wd := x_in3 (i := 26) rfl rfl
theorem q_508 : (Cond.instanceMethod ({ cls := "CheckedMachine$Judge", name := "storesOverNoRange", desc := "(LCheckedMachine$Step;)Z" } : Jvm.MethodName)) ∈ x_Wd := x_in3 (i := 28) rfl rfl
theorem q_509 : (Cond.code ({ cls := "CheckedMachine$Judge", name := "storesOverNoRange", desc := "(LCheckedMachine$Step;)Z" } : Jvm.MethodName) prog_6_method_12_code (8 : Nat) (Option.some Jvm.ClassFile.FieldType.boolean)) ∈ x_Wd := x_in3 (i := 29) rfl rfl
theorem q_510 : (Cond.methodLink "CheckedMachine$Judge" (36 : Nat) ({ cls := "CheckedMachine$Judge", name := "goesOutside", desc := "(LCheckedMachine$Step;)Z" } : Jvm.MethodName)) ∈ x_Wd := x_in3 (i := 30) rfl rfl
theorem q_512 : (Cond.instanceMethod ({ cls := "CheckedMachine$Judge", name := "goesOutside", desc := "(LCheckedMachine$Step;)Z" } : Jvm.MethodName)) ∈ x_Wd := x_in3 (i := 32) rfl rfl
theorem q_513 : (Cond.code ({ cls := "CheckedMachine$Judge", name := "goesOutside", desc := "(LCheckedMachine$Step;)Z" } : Jvm.MethodName) prog_6_method_13_code (2 : Nat) (Option.some Jvm.ClassFile.FieldType.boolean)) ∈ x_Wd := x_in3 (i := 33) rfl rfl
theorem q_514 : (Cond.methodLink "CheckedMachine$Judge" (117 : Nat) ({ cls := "CheckedMachine$Judge", name := "movesTooFar", desc := "(IJJ)Z" } : Jvm.MethodName)) ∈ x_Wd := x_in3 (i := 34) rfl rfl
theorem q_516 : (Cond.instanceMethod ({ cls := "CheckedMachine$Judge", name := "movesTooFar", desc := "(IJJ)Z" } : Jvm.MethodName)) ∈ x_Wd := x_in3 (i := 36) rfl rfl
theorem q_517 : (Cond.code ({ cls := "CheckedMachine$Judge", name := "movesTooFar", desc := "(IJJ)Z" } : Jvm.MethodName) prog_6_method_14_code (6 : Nat) (Option.some Jvm.ClassFile.FieldType.boolean)) ∈ x_Wd := x_in3 (i := 37) rfl rfl
theorem q_518 : (Cond.constantLong "CheckedMachine$Judge" (125 : Nat) (-100 : Int64)) ∈ x_Wd := x_in3 (i := 38) rfl rfl
theorem q_519 : (Cond.constantLong "CheckedMachine$Judge" (127 : Nat) (100 : Int64)) ∈ x_Wd := x_in3 (i := 39) rfl rfl
theorem q_520 : (Cond.methodLink "CheckedMachine$Judge" (121 : Nat) ({ cls := "CheckedMachine$Judge", name := "missesCells", desc := "(IJ)Z" } : Jvm.MethodName)) ∈ x_Wd := x_in3 (i := 40) rfl rfl
theorem q_522 : (Cond.instanceMethod ({ cls := "CheckedMachine$Judge", name := "missesCells", desc := "(IJ)Z" } : Jvm.MethodName)) ∈ x_Wd := x_in3 (i := 42) rfl rfl
theorem q_523 : (Cond.code ({ cls := "CheckedMachine$Judge", name := "missesCells", desc := "(IJ)Z" } : Jvm.MethodName) prog_6_method_15_code (5 : Nat) (Option.some Jvm.ClassFile.FieldType.boolean)) ∈ x_Wd := x_in3 (i := 43) rfl rfl
theorem q_524 : (Cond.methodLink "CheckedMachine$Judge" (39 : Nat) ({ cls := "CheckedMachine$Judge", name := "loadsUnfitCell", desc := "(LCheckedMachine$Step;)Z" } : Jvm.MethodName)) ∈ x_Wd := x_in3 (i := 44) rfl rfl
theorem q_526 : (Cond.instanceMethod ({ cls := "CheckedMachine$Judge", name := "loadsUnfitCell", desc := "(LCheckedMachine$Step;)Z" } : Jvm.MethodName)) ∈ x_Wd := x_in3 (i := 46) rfl rfl
theorem q_527 : (Cond.code ({ cls := "CheckedMachine$Judge", name := "loadsUnfitCell", desc := "(LCheckedMachine$Step;)Z" } : Jvm.MethodName) prog_6_method_16_code (9 : Nat) (Option.some Jvm.ClassFile.FieldType.boolean)) ∈ x_Wd := x_in3 (i := 47) rfl rfl
theorem q_528 : (Cond.methodLink "CheckedMachine$Judge" (42 : Nat) ({ cls := "CheckedMachine$Judge", name := "findsNoRow", desc := "(LCheckedMachine$Step;)Z" } : Jvm.MethodName)) ∈ x_Wd := x_in3 (i := 48) rfl rfl
theorem q_530 : (Cond.instanceMethod ({ cls := "CheckedMachine$Judge", name := "findsNoRow", desc := "(LCheckedMachine$Step;)Z" } : Jvm.MethodName)) ∈ x_Wd := x_in3 (i := 50) rfl rfl
theorem q_531 : (Cond.code ({ cls := "CheckedMachine$Judge", name := "findsNoRow", desc := "(LCheckedMachine$Step;)Z" } : Jvm.MethodName) prog_6_method_17_code (2 : Nat) (Option.some Jvm.ClassFile.FieldType.boolean)) ∈ x_Wd := x_in3 (i := 51) rfl rfl
theorem q_532 : (Cond.methodLink "CheckedMachine$Judge" (129 : Nat) ({ cls := "CheckedMachine$Step", name := "isCallOf", desc := "(I)Z" } : Jvm.MethodName)) ∈ x_Wd := x_in3 (i := 52) rfl rfl
theorem q_533 : (Cond.instanceMethod ({ cls := "CheckedMachine$Step", name := "isCallOf", desc := "(I)Z" } : Jvm.MethodName)) ∈ x_Wd := x_in3 (i := 53) rfl rfl
theorem q_534 : (Cond.selects "CheckedMachine$Step" ({ cls := "CheckedMachine$Step", name := "isCallOf", desc := "(I)Z" } : Jvm.MethodName) ({ cls := "CheckedMachine$Step", name := "isCallOf", desc := "(I)Z" } : Jvm.MethodName)) ∈ x_Wd := x_in3 (i := 54) rfl rfl
theorem q_535 : (Cond.code ({ cls := "CheckedMachine$Step", name := "isCallOf", desc := "(I)Z" } : Jvm.MethodName) prog_9_method_2_code (2 : Nat) (Option.some Jvm.ClassFile.FieldType.boolean)) ∈ x_Wd := x_in3 (i := 55) rfl rfl
theorem q_536 : (Cond.constantLong "CheckedMachine$Judge" (132 : Nat) (7 : Int64)) ∈ x_Wd := x_in3 (i := 56) rfl rfl
theorem q_537 : (Cond.methodLink "CheckedMachine$Checker" (90 : Nat) ({ cls := "CheckedMachine$Checker", name := "reject", desc := "(II)V" } : Jvm.MethodName)) ∈ x_Wd := x_in3 (i := 57) rfl rfl
theorem q_539 : (Cond.instanceMethod ({ cls := "CheckedMachine$Checker", name := "reject", desc := "(II)V" } : Jvm.MethodName)) ∈ x_Wd := x_in3 (i := 59) rfl rfl
theorem q_540 : (Cond.code ({ cls := "CheckedMachine$Checker", name := "reject", desc := "(II)V" } : Jvm.MethodName) prog_2_method_10_code (3 : Nat) (Option.none : Option Jvm.ClassFile.FieldType)) ∈ x_Wd := x_in3 (i := 60) rfl rfl
theorem q_541 : (Cond.methodLink "CheckedMachine$Checker" (99 : Nat) ({ cls := "CheckedMachine$Guesses", name := "lo", desc := "(I)J" } : Jvm.MethodName)) ∈ x_Wd := x_in3 (i := 61) rfl rfl
theorem q_542 : (Cond.methodLink "CheckedMachine$Checker" (103 : Nat) ({ cls := "CheckedMachine$Guesses", name := "hi", desc := "(I)J" } : Jvm.MethodName)) ∈ x_Wd := x_in3 (i := 62) rfl rfl
theorem q_543 : (Cond.methodLink "CheckedMachine$Checker" (106 : Nat) ({ cls := "CheckedMachine$Checker", name := "growOutcomes", desc := "(JJ)V" } : Jvm.MethodName)) ∈ x_Wd := x_in3 (i := 63) rfl rfl
theorem q_545 : (Cond.instanceMethod ({ cls := "CheckedMachine$Checker", name := "growOutcomes", desc := "(JJ)V" } : Jvm.MethodName)) ∈ x_Wd := x_in3 (i := 65) rfl rfl
theorem q_546 : (Cond.code ({ cls := "CheckedMachine$Checker", name := "growOutcomes", desc := "(JJ)V" } : Jvm.MethodName) prog_2_method_11_code (5 : Nat) (Option.none : Option Jvm.ClassFile.FieldType)) ∈ x_Wd := x_in3 (i := 66) rfl rfl
theorem q_547 : (Cond.methodLink "CheckedMachine$Checker" (125 : Nat) ({ cls := "java/lang/Math", name := "min", desc := "(JJ)J" } : Jvm.MethodName)) ∈ x_Wd := x_in3 (i := 67) rfl rfl
theorem q_548 : (Cond.static ({ cls := "java/lang/Math", name := "min", desc := "(JJ)J" } : Jvm.MethodName)) ∈ x_Wd := x_in3 (i := 68) rfl rfl
theorem q_549 : (Cond.code ({ cls := "java/lang/Math", name := "min", desc := "(JJ)J" } : Jvm.MethodName) prog_15_method_70_code (4 : Nat) (Option.some Jvm.ClassFile.FieldType.long)) ∈ x_Wd := x_in3 (i := 69) rfl rfl
theorem q_550 : (Cond.methodLink "CheckedMachine$Checker" (131 : Nat) ({ cls := "java/lang/Math", name := "max", desc := "(JJ)J" } : Jvm.MethodName)) ∈ x_Wd := x_in3 (i := 70) rfl rfl
theorem q_551 : (Cond.static ({ cls := "java/lang/Math", name := "max", desc := "(JJ)J" } : Jvm.MethodName)) ∈ x_Wd := x_in3 (i := 71) rfl rfl
theorem q_552 : (Cond.code ({ cls := "java/lang/Math", name := "max", desc := "(JJ)J" } : Jvm.MethodName) prog_15_method_66_code (4 : Nat) (Option.some Jvm.ClassFile.FieldType.long)) ∈ x_Wd := x_in3 (i := 72) rfl rfl
theorem q_553 : (Cond.methodLink "CheckedMachine$Checker" (110 : Nat) ({ cls := "CheckedMachine$Checker", name := "takeUpLatest", desc := "()I" } : Jvm.MethodName)) ∈ x_Wd := x_in3 (i := 73) rfl rfl
theorem q_555 : (Cond.instanceMethod ({ cls := "CheckedMachine$Checker", name := "takeUpLatest", desc := "()I" } : Jvm.MethodName)) ∈ x_Wd := x_in3 (i := 75) rfl rfl
theorem q_556 : (Cond.code ({ cls := "CheckedMachine$Checker", name := "takeUpLatest", desc := "()I" } : Jvm.MethodName) prog_2_method_13_code (3 : Nat) (Option.some Jvm.ClassFile.FieldType.int)) ∈ x_Wd := x_in3 (i := 76) rfl rfl
theorem q_557 : (Cond.methodLink "CheckedMachine$Checker" (150 : Nat) ({ cls := "CheckedMachine$Guesses", name := "become", desc := "(LCheckedMachine$Guesses;)V" } : Jvm.MethodName)) ∈ x_Wd := x_in3 (i := 77) rfl rfl
theorem q_558 : (Cond.instanceMethod ({ cls := "CheckedMachine$Guesses", name := "become", desc := "(LCheckedMachine$Guesses;)V" } : Jvm.MethodName)) ∈ x_Wd := x_in3 (i := 78) rfl rfl
theorem q_559 : (Cond.selects "CheckedMachine$Guesses" ({ cls := "CheckedMachine$Guesses", name := "become", desc := "(LCheckedMachine$Guesses;)V" } : Jvm.MethodName) ({ cls := "CheckedMachine$Guesses", name := "become", desc := "(LCheckedMachine$Guesses;)V" } : Jvm.MethodName)) ∈ x_Wd := x_in3 (i := 79) rfl rfl
theorem q_560 : (Cond.code ({ cls := "CheckedMachine$Guesses", name := "become", desc := "(LCheckedMachine$Guesses;)V" } : Jvm.MethodName) prog_5_method_3_code (2 : Nat) (Option.none : Option Jvm.ClassFile.FieldType)) ∈ x_Wd := x_in3 (i := 80) rfl rfl
theorem q_561 : (Cond.methodLink "CheckedMachine$Guesses" (33 : Nat) ({ cls := "java/lang/System", name := "arraycopy", desc := "(Ljava/lang/Object;ILjava/lang/Object;II)V" } : Jvm.MethodName)) ∈ x_Wd := x_in3 (i := 81) rfl rfl
theorem q_562 : (Cond.static ({ cls := "java/lang/System", name := "arraycopy", desc := "(Ljava/lang/Object;ILjava/lang/Object;II)V" } : Jvm.MethodName)) ∈ x_Wd := x_in3 (i := 82) rfl rfl
theorem q_563 : (Cond.native ({ cls := "java/lang/System", name := "arraycopy", desc := "(Ljava/lang/Object;ILjava/lang/Object;II)V" } : Jvm.MethodName)) ∈ x_Wd := x_in3 (i := 83) rfl rfl
theorem q_564 : (Cond.methodLink "CheckedMachine$Checker" (114 : Nat) ({ cls := "CheckedMachine$Step", name := "mayJump", desc := "()Z" } : Jvm.MethodName)) ∈ x_Wd := x_in3 (i := 84) rfl rfl
theorem q_565 : (Cond.methodLink "CheckedMachine$Checker" (118 : Nat) ({ cls := "CheckedMachine$Checker", name := "fork", desc := "(LCheckedMachine$Step;I)I" } : Jvm.MethodName)) ∈ x_Wd := x_in3 (i := 85) rfl rfl
theorem q_567 : (Cond.instanceMethod ({ cls := "CheckedMachine$Checker", name := "fork", desc := "(LCheckedMachine$Step;I)I" } : Jvm.MethodName)) ∈ x_Wd := x_in3 (i := 87) rfl rfl
theorem q_568 : (Cond.code ({ cls := "CheckedMachine$Checker", name := "fork", desc := "(LCheckedMachine$Step;I)I" } : Jvm.MethodName) prog_2_method_12_code (4 : Nat) (Option.some Jvm.ClassFile.FieldType.int)) ∈ x_Wd := x_in3 (i := 88) rfl rfl
theorem q_569 : (Cond.methodLink "CheckedMachine$Checker" (134 : Nat) ({ cls := "CheckedMachine$Fork", name := "leadsToTarget", desc := "(LCheckedMachine$Step;LCheckedMachine$Guesses;)Z" } : Jvm.MethodName)) ∈ x_Wd := x_in3 (i := 89) rfl rfl
theorem q_570 : (Cond.static ({ cls := "CheckedMachine$Fork", name := "leadsToTarget", desc := "(LCheckedMachine$Step;LCheckedMachine$Guesses;)Z" } : Jvm.MethodName)) ∈ x_Wd := x_in3 (i := 90) rfl rfl
theorem q_571 : (Cond.code ({ cls := "CheckedMachine$Fork", name := "leadsToTarget", desc := "(LCheckedMachine$Step;LCheckedMachine$Guesses;)Z" } : Jvm.MethodName) prog_4_method_2_code (2 : Nat) (Option.some Jvm.ClassFile.FieldType.boolean)) ∈ x_Wd := x_in3 (i := 91) rfl rfl
theorem q_572 : (Cond.methodLink "CheckedMachine$Fork" (15 : Nat) ({ cls := "CheckedMachine$Fork", name := "isMaybe", desc := "(LCheckedMachine$Step;LCheckedMachine$Guesses;)Z" } : Jvm.MethodName)) ∈ x_Wd := x_in3 (i := 92) rfl rfl
theorem q_573 : (Cond.static ({ cls := "CheckedMachine$Fork", name := "isMaybe", desc := "(LCheckedMachine$Step;LCheckedMachine$Guesses;)Z" } : Jvm.MethodName)) ∈ x_Wd := x_in3 (i := 93) rfl rfl
theorem q_574 : (Cond.code ({ cls := "CheckedMachine$Fork", name := "isMaybe", desc := "(LCheckedMachine$Step;LCheckedMachine$Guesses;)Z" } : Jvm.MethodName) prog_4_method_6_code (2 : Nat) (Option.some Jvm.ClassFile.FieldType.boolean)) ∈ x_Wd := x_in3 (i := 94) rfl rfl
theorem q_575 : (Cond.methodLink "CheckedMachine$Fork" (56 : Nat) ({ cls := "CheckedMachine$Guesses", name := "kind", desc := "(I)I" } : Jvm.MethodName)) ∈ x_Wd := x_in3 (i := 95) rfl rfl
theorem q_576 : (Cond.methodLink "CheckedMachine$Fork" (24 : Nat) ({ cls := "CheckedMachine$Guesses", name := "lo", desc := "(I)J" } : Jvm.MethodName)) ∈ x_Wd := x_in3 (i := 96) rfl rfl
theorem q_577 : (Cond.methodLink "CheckedMachine$Fork" (33 : Nat) ({ cls := "CheckedMachine$Guesses", name := "hi", desc := "(I)J" } : Jvm.MethodName)) ∈ x_Wd := x_in3 (i := 97) rfl rfl
theorem q_578 : (Cond.methodLink "CheckedMachine$Checker" (140 : Nat) ({ cls := "CheckedMachine$Fork", name := "leadsOn", desc := "(LCheckedMachine$Step;LCheckedMachine$Guesses;)Z" } : Jvm.MethodName)) ∈ x_Wd := x_in3 (i := 98) rfl rfl
theorem q_579 : (Cond.static ({ cls := "CheckedMachine$Fork", name := "leadsOn", desc := "(LCheckedMachine$Step;LCheckedMachine$Guesses;)Z" } : Jvm.MethodName)) ∈ x_Wd := x_in3 (i := 99) rfl rfl
theorem q_580 : (Cond.code ({ cls := "CheckedMachine$Fork", name := "leadsOn", desc := "(LCheckedMachine$Step;LCheckedMachine$Guesses;)Z" } : Jvm.MethodName) prog_4_method_3_code (2 : Nat) (Option.some Jvm.ClassFile.FieldType.boolean)) ∈ x_Wd := x_in3 (i := 100) rfl rfl
theorem q_581 : (Cond.methodLink "CheckedMachine$Checker" (143 : Nat) ({ cls := "CheckedMachine$Fork", name := "goToTarget", desc := "(LCheckedMachine$Step;LCheckedMachine$Guesses;)V" } : Jvm.MethodName)) ∈ x_Wd := x_in3 (i := 101) rfl rfl
theorem q_582 : (Cond.static ({ cls := "CheckedMachine$Fork", name := "goToTarget", desc := "(LCheckedMachine$Step;LCheckedMachine$Guesses;)V" } : Jvm.MethodName)) ∈ x_Wd := x_in3 (i := 102) rfl rfl
theorem q_583 : (Cond.code ({ cls := "CheckedMachine$Fork", name := "goToTarget", desc := "(LCheckedMachine$Step;LCheckedMachine$Guesses;)V" } : Jvm.MethodName) prog_4_method_4_code (9 : Nat) (Option.none : Option Jvm.ClassFile.FieldType)) ∈ x_Wd := x_in3 (i := 103) rfl rfl
theorem q_584 : (Cond.methodLink "CheckedMachine$Fork" (39 : Nat) ({ cls := "CheckedMachine$Guesses", name := "setRange", desc := "(IJJ)V" } : Jvm.MethodName)) ∈ x_Wd := x_in3 (i := 104) rfl rfl
theorem q_585 : (Cond.instanceMethod ({ cls := "CheckedMachine$Guesses", name := "setRange", desc := "(IJJ)V" } : Jvm.MethodName)) ∈ x_Wd := x_in3 (i := 105) rfl rfl
theorem q_586 : (Cond.selects "CheckedMachine$Guesses" ({ cls := "CheckedMachine$Guesses", name := "setRange", desc := "(IJJ)V" } : Jvm.MethodName) ({ cls := "CheckedMachine$Guesses", name := "setRange", desc := "(IJJ)V" } : Jvm.MethodName)) ∈ x_Wd := x_in3 (i := 106) rfl rfl
theorem q_587 : (Cond.code ({ cls := "CheckedMachine$Guesses", name := "setRange", desc := "(IJJ)V" } : Jvm.MethodName) prog_5_method_11_code (6 : Nat) (Option.none : Option Jvm.ClassFile.FieldType)) ∈ x_Wd := x_in3 (i := 107) rfl rfl
theorem q_588 : (Cond.methodLink "CheckedMachine$Fork" (43 : Nat) ({ cls := "java/lang/Math", name := "max", desc := "(JJ)J" } : Jvm.MethodName)) ∈ x_Wd := x_in3 (i := 108) rfl rfl
theorem q_589 : (Cond.methodLink "CheckedMachine$Fork" (49 : Nat) ({ cls := "java/lang/Math", name := "min", desc := "(JJ)J" } : Jvm.MethodName)) ∈ x_Wd := x_in3 (i := 109) rfl rfl
theorem q_590 : (Cond.methodLink "CheckedMachine$Checker" (153 : Nat) ({ cls := "CheckedMachine$Fork", name := "goOn", desc := "(LCheckedMachine$Step;LCheckedMachine$Guesses;)V" } : Jvm.MethodName)) ∈ x_Wd := x_in3 (i := 110) rfl rfl
theorem q_591 : (Cond.static ({ cls := "CheckedMachine$Fork", name := "goOn", desc := "(LCheckedMachine$Step;LCheckedMachine$Guesses;)V" } : Jvm.MethodName)) ∈ x_Wd := x_in3 (i := 111) rfl rfl
theorem q_592 : (Cond.code ({ cls := "CheckedMachine$Fork", name := "goOn", desc := "(LCheckedMachine$Step;LCheckedMachine$Guesses;)V" } : Jvm.MethodName) prog_4_method_5_code (9 : Nat) (Option.none : Option Jvm.ClassFile.FieldType)) ∈ x_Wd := x_in3 (i := 112) rfl rfl
theorem q_593 : (Cond.methodLink "CheckedMachine$Fork" (52 : Nat) ({ cls := "CheckedMachine$Guesses", name := "set", desc := "(IIJJ)V" } : Jvm.MethodName)) ∈ x_Wd := x_in3 (i := 113) rfl rfl
theorem q_594 : (Cond.methodLink "CheckedMachine$Checker" (121 : Nat) ({ cls := "CheckedMachine$Effects", name := "follow", desc := "(LCheckedMachine$Step;)V" } : Jvm.MethodName)) ∈ x_Wd := x_in3 (i := 114) rfl rfl
theorem q_595 : (Cond.instanceMethod ({ cls := "CheckedMachine$Effects", name := "follow", desc := "(LCheckedMachine$Step;)V" } : Jvm.MethodName)) ∈ x_Wd := x_in3 (i := 115) rfl rfl
theorem q_596 : (Cond.selects "CheckedMachine$Effects" ({ cls := "CheckedMachine$Effects", name := "follow", desc := "(LCheckedMachine$Step;)V" } : Jvm.MethodName) ({ cls := "CheckedMachine$Effects", name := "follow", desc := "(LCheckedMachine$Step;)V" } : Jvm.MethodName)) ∈ x_Wd := x_in3 (i := 116) rfl rfl
theorem q_597 : (Cond.code ({ cls := "CheckedMachine$Effects", name := "follow", desc := "(LCheckedMachine$Step;)V" } : Jvm.MethodName) prog_3_method_2_code (3 : Nat) (Option.none : Option Jvm.ClassFile.FieldType)) ∈ x_Wd := x_in3 (i := 117) rfl rfl
theorem q_598 : (Cond.methodLink "CheckedMachine$Effects" (27 : Nat) ({ cls := "CheckedMachine$Guesses", name := "setRange", desc := "(IJJ)V" } : Jvm.MethodName)) ∈ x_Wd := x_in3 (i := 118) rfl rfl
theorem q_599 : (Cond.methodLink "CheckedMachine$Effects" (36 : Nat) ({ cls := "CheckedMachine$Guesses", name := "copy", desc := "(II)V" } : Jvm.MethodName)) ∈ x_Wd := x_in3 (i := 119) rfl rfl
theorem q_600 : (Cond.instanceMethod ({ cls := "CheckedMachine$Guesses", name := "copy", desc := "(II)V" } : Jvm.MethodName)) ∈ x_Wd := x_in3 (i := 120) rfl rfl
theorem q_601 : (Cond.selects "CheckedMachine$Guesses" ({ cls := "CheckedMachine$Guesses", name := "copy", desc := "(II)V" } : Jvm.MethodName) ({ cls := "CheckedMachine$Guesses", name := "copy", desc := "(II)V" } : Jvm.MethodName)) ∈ x_Wd := x_in3 (i := 121) rfl rfl
theorem q_602 : (Cond.code ({ cls := "CheckedMachine$Guesses", name := "copy", desc := "(II)V" } : Jvm.MethodName) prog_5_method_14_code (3 : Nat) (Option.none : Option Jvm.ClassFile.FieldType)) ∈ x_Wd := x_in3 (i := 122) rfl rfl
theorem q_603 : (Cond.methodLink "CheckedMachine$Effects" (40 : Nat) ({ cls := "CheckedMachine$Effects", name := "move", desc := "(IJJ)V" } : Jvm.MethodName)) ∈ x_Wd := x_in3 (i := 123) rfl rfl
theorem q_605 : (Cond.instanceMethod ({ cls := "CheckedMachine$Effects", name := "move", desc := "(IJJ)V" } : Jvm.MethodName)) ∈ x_Wd := x_in3 (i := 125) rfl rfl
theorem q_606 : (Cond.code ({ cls := "CheckedMachine$Effects", name := "move", desc := "(IJJ)V" } : Jvm.MethodName) prog_3_method_3_code (10 : Nat) (Option.none : Option Jvm.ClassFile.FieldType)) ∈ x_Wd := x_in3 (i := 126) rfl rfl
theorem q_607 : (Cond.methodLink "CheckedMachine$Effects" (43 : Nat) ({ cls := "CheckedMachine$Guesses", name := "lo", desc := "(I)J" } : Jvm.MethodName)) ∈ x_Wd := x_in3 (i := 127) rfl rfl
theorem q_608 : (Cond.methodLink "CheckedMachine$Effects" (47 : Nat) ({ cls := "CheckedMachine$Guesses", name := "hi", desc := "(I)J" } : Jvm.MethodName)) ∈ x_Wd := x_in3 (i := 128) rfl rfl
theorem q_609 : (Cond.methodLink "CheckedMachine$Effects" (77 : Nat) ({ cls := "CheckedMachine$Effects", name := "sumWraps", desc := "(JJJ)Z" } : Jvm.MethodName)) ∈ x_Wd := x_in3 (i := 129) rfl rfl
theorem q_610 : (Cond.static ({ cls := "CheckedMachine$Effects", name := "sumWraps", desc := "(JJJ)Z" } : Jvm.MethodName)) ∈ x_Wd := x_in3 (i := 130) rfl rfl
theorem q_611 : (Cond.code ({ cls := "CheckedMachine$Effects", name := "sumWraps", desc := "(JJJ)Z" } : Jvm.MethodName) prog_3_method_4_code (6 : Nat) (Option.some Jvm.ClassFile.FieldType.boolean)) ∈ x_Wd := x_in3 (i := 131) rfl rfl
theorem q_612 : (Cond.methodLink "CheckedMachine$Effects" (81 : Nat) ({ cls := "CheckedMachine$Guesses", name := "setAny", desc := "(I)V" } : Jvm.MethodName)) ∈ x_Wd := x_in3 (i := 132) rfl rfl
theorem q_613 : (Cond.methodLink "CheckedMachine$Effects" (84 : Nat) ({ cls := "CheckedMachine$Guesses", name := "kind", desc := "(I)I" } : Jvm.MethodName)) ∈ x_Wd := x_in3 (i := 133) rfl rfl
theorem q_614 : (Cond.methodLink "CheckedMachine$Effects" (88 : Nat) ({ cls := "CheckedMachine$Guesses", name := "set", desc := "(IIJJ)V" } : Jvm.MethodName)) ∈ x_Wd := x_in3 (i := 134) rfl rfl
theorem q_615 : (Cond.methodLink "CheckedMachine$Effects" (50 : Nat) ({ cls := "CheckedMachine$Effects", name := "subtract", desc := "(IJJ)V" } : Jvm.MethodName)) ∈ x_Wd := x_in3 (i := 135) rfl rfl
theorem q_617 : (Cond.instanceMethod ({ cls := "CheckedMachine$Effects", name := "subtract", desc := "(IJJ)V" } : Jvm.MethodName)) ∈ x_Wd := x_in3 (i := 137) rfl rfl
theorem q_618 : (Cond.code ({ cls := "CheckedMachine$Effects", name := "subtract", desc := "(IJJ)V" } : Jvm.MethodName) prog_3_method_5_code (10 : Nat) (Option.none : Option Jvm.ClassFile.FieldType)) ∈ x_Wd := x_in3 (i := 138) rfl rfl
theorem q_619 : (Cond.methodLink "CheckedMachine$Effects" (92 : Nat) ({ cls := "CheckedMachine$Effects", name := "differenceWraps", desc := "(JJJ)Z" } : Jvm.MethodName)) ∈ x_Wd := x_in3 (i := 139) rfl rfl
theorem q_620 : (Cond.static ({ cls := "CheckedMachine$Effects", name := "differenceWraps", desc := "(JJJ)Z" } : Jvm.MethodName)) ∈ x_Wd := x_in3 (i := 140) rfl rfl
theorem q_621 : (Cond.code ({ cls := "CheckedMachine$Effects", name := "differenceWraps", desc := "(JJJ)Z" } : Jvm.MethodName) prog_3_method_6_code (6 : Nat) (Option.some Jvm.ClassFile.FieldType.boolean)) ∈ x_Wd := x_in3 (i := 141) rfl rfl
theorem q_622 : (Cond.methodLink "CheckedMachine$Effects" (53 : Nat) ({ cls := "CheckedMachine$Effects", name := "multiply", desc := "(IJ)V" } : Jvm.MethodName)) ∈ x_Wd := x_in3 (i := 142) rfl rfl
theorem q_624 : (Cond.instanceMethod ({ cls := "CheckedMachine$Effects", name := "multiply", desc := "(IJ)V" } : Jvm.MethodName)) ∈ x_Wd := x_in3 (i := 144) rfl rfl
theorem q_625 : (Cond.code ({ cls := "CheckedMachine$Effects", name := "multiply", desc := "(IJ)V" } : Jvm.MethodName) prog_3_method_7_code (4 : Nat) (Option.none : Option Jvm.ClassFile.FieldType)) ∈ x_Wd := x_in3 (i := 145) rfl rfl
theorem q_626 : (Cond.methodLink "CheckedMachine$Effects" (95 : Nat) ({ cls := "CheckedMachine$Effects", name := "isFactor", desc := "(J)Z" } : Jvm.MethodName)) ∈ x_Wd := x_in3 (i := 146) rfl rfl
theorem q_627 : (Cond.static ({ cls := "CheckedMachine$Effects", name := "isFactor", desc := "(J)Z" } : Jvm.MethodName)) ∈ x_Wd := x_in3 (i := 147) rfl rfl
theorem q_628 : (Cond.code ({ cls := "CheckedMachine$Effects", name := "isFactor", desc := "(J)Z" } : Jvm.MethodName) prog_3_method_8_code (2 : Nat) (Option.some Jvm.ClassFile.FieldType.boolean)) ∈ x_Wd := x_in3 (i := 148) rfl rfl
theorem q_629 : (Cond.constantLong "CheckedMachine$Effects" (102 : Nat) (-2147483648 : Int64)) ∈ x_Wd := x_in3 (i := 149) rfl rfl
theorem q_630 : (Cond.constantLong "CheckedMachine$Effects" (104 : Nat) (2147483648 : Int64)) ∈ x_Wd := x_in3 (i := 150) rfl rfl
theorem q_631 : (Cond.methodLink "CheckedMachine$Effects" (99 : Nat) ({ cls := "CheckedMachine$Guesses", name := "setBetween", desc := "(IJJ)V" } : Jvm.MethodName)) ∈ x_Wd := x_in3 (i := 151) rfl rfl
theorem q_632 : (Cond.instanceMethod ({ cls := "CheckedMachine$Guesses", name := "setBetween", desc := "(IJJ)V" } : Jvm.MethodName)) ∈ x_Wd := x_in3 (i := 152) rfl rfl
theorem q_633 : (Cond.selects "CheckedMachine$Guesses" ({ cls := "CheckedMachine$Guesses", name := "setBetween", desc := "(IJJ)V" } : Jvm.MethodName) ({ cls := "CheckedMachine$Guesses", name := "setBetween", desc := "(IJJ)V" } : Jvm.MethodName)) ∈ x_Wd := x_in3 (i := 153) rfl rfl
theorem q_634 : (Cond.code ({ cls := "CheckedMachine$Guesses", name := "setBetween", desc := "(IJJ)V" } : Jvm.MethodName) prog_5_method_16_code (6 : Nat) (Option.none : Option Jvm.ClassFile.FieldType)) ∈ x_Wd := x_in3 (i := 154) rfl rfl
theorem q_635 : (Cond.methodLink "CheckedMachine$Guesses" (45 : Nat) ({ cls := "java/lang/Math", name := "min", desc := "(JJ)J" } : Jvm.MethodName)) ∈ x_Wd := x_in3 (i := 155) rfl rfl
theorem q_636 : (Cond.methodLink "CheckedMachine$Guesses" (51 : Nat) ({ cls := "java/lang/Math", name := "max", desc := "(JJ)J" } : Jvm.MethodName)) ∈ x_Wd := x_in3 (i := 156) rfl rfl
theorem q_637 : (Cond.methodLink "CheckedMachine$Effects" (57 : Nat) ({ cls := "CheckedMachine$Effects", name := "mask", desc := "(IJ)V" } : Jvm.MethodName)) ∈ x_Wd := x_in3 (i := 157) rfl rfl
theorem q_639 : (Cond.instanceMethod ({ cls := "CheckedMachine$Effects", name := "mask", desc := "(IJ)V" } : Jvm.MethodName)) ∈ x_Wd := x_in3 (i := 159) rfl rfl
theorem q_640 : (Cond.code ({ cls := "CheckedMachine$Effects", name := "mask", desc := "(IJ)V" } : Jvm.MethodName) prog_3_method_9_code (4 : Nat) (Option.none : Option Jvm.ClassFile.FieldType)) ∈ x_Wd := x_in3 (i := 160) rfl rfl
theorem q_641 : (Cond.methodLink "CheckedMachine$Effects" (106 : Nat) ({ cls := "java/lang/Math", name := "min", desc := "(JJ)J" } : Jvm.MethodName)) ∈ x_Wd := x_in3 (i := 161) rfl rfl
theorem q_642 : (Cond.methodLink "CheckedMachine$Effects" (60 : Nat) ({ cls := "CheckedMachine$Effects", name := "divide", desc := "(IJ)V" } : Jvm.MethodName)) ∈ x_Wd := x_in3 (i := 162) rfl rfl
theorem q_644 : (Cond.instanceMethod ({ cls := "CheckedMachine$Effects", name := "divide", desc := "(IJ)V" } : Jvm.MethodName)) ∈ x_Wd := x_in3 (i := 164) rfl rfl
theorem q_645 : (Cond.code ({ cls := "CheckedMachine$Effects", name := "divide", desc := "(IJ)V" } : Jvm.MethodName) prog_3_method_10_code (4 : Nat) (Option.none : Option Jvm.ClassFile.FieldType)) ∈ x_Wd := x_in3 (i := 165) rfl rfl
theorem q_646 : (Cond.constantLong "CheckedMachine$Effects" (112 : Nat) (-1 : Int64)) ∈ x_Wd := x_in3 (i := 166) rfl rfl
theorem q_647 : (Cond.constantLong "CheckedMachine$Effects" (116 : Nat) (-9223372036854775808 : Int64)) ∈ x_Wd := x_in3 (i := 167) rfl rfl
theorem q_648 : (Cond.methodLink "CheckedMachine$Effects" (63 : Nat) ({ cls := "CheckedMachine$Effects", name := "negate", desc := "(I)V" } : Jvm.MethodName)) ∈ x_Wd := x_in3 (i := 168) rfl rfl
theorem q_650 : (Cond.instanceMethod ({ cls := "CheckedMachine$Effects", name := "negate", desc := "(I)V" } : Jvm.MethodName)) ∈ x_Wd := x_in3 (i := 170) rfl rfl
theorem q_651 : (Cond.code ({ cls := "CheckedMachine$Effects", name := "negate", desc := "(I)V" } : Jvm.MethodName) prog_3_method_11_code (2 : Nat) (Option.none : Option Jvm.ClassFile.FieldType)) ∈ x_Wd := x_in3 (i := 171) rfl rfl
theorem q_652 : (Cond.methodLink "CheckedMachine$Effects" (67 : Nat) ({ cls := "CheckedMachine$Effects", name := "load", desc := "(LCheckedMachine$Step;)V" } : Jvm.MethodName)) ∈ x_Wd := x_in3 (i := 172) rfl rfl
theorem q_654 : (Cond.instanceMethod ({ cls := "CheckedMachine$Effects", name := "load", desc := "(LCheckedMachine$Step;)V" } : Jvm.MethodName)) ∈ x_Wd := x_in3 (i := 174) rfl rfl
theorem q_655 : (Cond.code ({ cls := "CheckedMachine$Effects", name := "load", desc := "(LCheckedMachine$Step;)V" } : Jvm.MethodName) prog_3_method_12_code (8 : Nat) (Option.none : Option Jvm.ClassFile.FieldType)) ∈ x_Wd := x_in3 (i := 175) rfl rfl
theorem q_656 : (Cond.methodLink "CheckedMachine$Effects" (118 : Nat) ({ cls := "CheckedMachine$Guesses", name := "widen", desc := "(IJJ)V" } : Jvm.MethodName)) ∈ x_Wd := x_in3 (i := 176) rfl rfl
theorem q_657 : (Cond.instanceMethod ({ cls := "CheckedMachine$Guesses", name := "widen", desc := "(IJJ)V" } : Jvm.MethodName)) ∈ x_Wd := x_in3 (i := 177) rfl rfl
theorem q_658 : (Cond.selects "CheckedMachine$Guesses" ({ cls := "CheckedMachine$Guesses", name := "widen", desc := "(IJJ)V" } : Jvm.MethodName) ({ cls := "CheckedMachine$Guesses", name := "widen", desc := "(IJJ)V" } : Jvm.MethodName)) ∈ x_Wd := x_in3 (i := 178) rfl rfl
theorem q_659 : (Cond.code ({ cls := "CheckedMachine$Guesses", name := "widen", desc := "(IJJ)V" } : Jvm.MethodName) prog_5_method_15_code (6 : Nat) (Option.none : Option Jvm.ClassFile.FieldType)) ∈ x_Wd := x_in3 (i := 179) rfl rfl
theorem q_660 : (Cond.methodLink "CheckedMachine$Effects" (71 : Nat) ({ cls := "CheckedMachine$Effects", name := "store", desc := "(LCheckedMachine$Step;)V" } : Jvm.MethodName)) ∈ x_Wd := x_in3 (i := 180) rfl rfl
theorem q_662 : (Cond.instanceMethod ({ cls := "CheckedMachine$Effects", name := "store", desc := "(LCheckedMachine$Step;)V" } : Jvm.MethodName)) ∈ x_Wd := x_in3 (i := 182) rfl rfl
theorem q_663 : (Cond.code ({ cls := "CheckedMachine$Effects", name := "store", desc := "(LCheckedMachine$Step;)V" } : Jvm.MethodName) prog_3_method_13_code (8 : Nat) (Option.none : Option Jvm.ClassFile.FieldType)) ∈ x_Wd := x_in3 (i := 183) rfl rfl
theorem q_664 : (Cond.methodLink "CheckedMachine$Effects" (121 : Nat) ({ cls := "CheckedMachine$Guesses", name := "isRange", desc := "(I)Z" } : Jvm.MethodName)) ∈ x_Wd := x_in3 (i := 184) rfl rfl
theorem q_665 : (Cond.methodLink "CheckedMachine$Effects" (74 : Nat) ({ cls := "CheckedMachine$Effects", name := "call", desc := "(I)V" } : Jvm.MethodName)) ∈ x_Wd := x_in3 (i := 185) rfl rfl
theorem q_667 : (Cond.instanceMethod ({ cls := "CheckedMachine$Effects", name := "call", desc := "(I)V" } : Jvm.MethodName)) ∈ x_Wd := x_in3 (i := 187) rfl rfl
theorem q_668 : (Cond.code ({ cls := "CheckedMachine$Effects", name := "call", desc := "(I)V" } : Jvm.MethodName) prog_3_method_14_code (2 : Nat) (Option.none : Option Jvm.ClassFile.FieldType)) ∈ x_Wd := x_in3 (i := 188) rfl rfl
theorem q_669 : (Cond.constantLong "CheckedMachine$Effects" (125 : Nat) (99 : Int64)) ∈ x_Wd := x_in3 (i := 189) rfl rfl
theorem q_670 : (Cond.methodLink "CheckedMachine$Effects" (127 : Nat) ({ cls := "java/lang/Math", name := "max", desc := "(JJ)J" } : Jvm.MethodName)) ∈ x_Wd := x_in3 (i := 190) rfl rfl
theorem q_671 : (Cond.methodLink "CheckedMachine$Effects" (130 : Nat) ({ cls := "CheckedMachine$Guesses", name := "clear", desc := "(I)V" } : Jvm.MethodName)) ∈ x_Wd := x_in3 (i := 191) rfl rfl
theorem q_673 : (Cond.classLink "CheckedMachine" (79 : Nat) "java/lang/UnsupportedOperationException") ∈ x_Wd := x_in3 (i := 193) rfl rfl
theorem q_674 : (Cond.instantiable "java/lang/UnsupportedOperationException" (6 : Nat)) ∈ x_Wd := x_in3 (i := 194) rfl rfl
theorem q_676 : (Cond.selects "java/lang/UnsupportedOperationException" ({ cls := "java/lang/Throwable", name := "fillInStackTrace", desc := "(I)Ljava/lang/Throwable;" } : Jvm.MethodName) ({ cls := "java/lang/Throwable", name := "fillInStackTrace", desc := "(I)Ljava/lang/Throwable;" } : Jvm.MethodName)) ∈ x_Wd := x_in3 (i := 196) rfl rfl
theorem q_677 : (Cond.lays "java/lang/UnsupportedOperationException" "java/lang/Throwable" "cause" "Ljava/lang/Throwable;") ∈ x_Wd := x_in3 (i := 197) rfl rfl
theorem q_678 : (Cond.lays "java/lang/UnsupportedOperationException" "java/lang/Throwable" "stackTrace" "[Ljava/lang/StackTraceElement;") ∈ x_Wd := x_in3 (i := 198) rfl rfl
theorem q_679 : (Cond.lays "java/lang/UnsupportedOperationException" "java/lang/Throwable" "suppressedExceptions" "Ljava/util/List;") ∈ x_Wd := x_in3 (i := 199) rfl rfl
theorem q_680 : (Cond.lays "java/lang/UnsupportedOperationException" "java/lang/Throwable" "detailMessage" "Ljava/lang/String;") ∈ x_Wd := x_in3 (i := 200) rfl rfl
theorem q_681 : (Cond.lays "java/lang/UnsupportedOperationException" "java/lang/Throwable" "backtrace" "Ljava/lang/Object;") ∈ x_Wd := x_in3 (i := 201) rfl rfl
theorem q_683 : (Cond.methodLink "CheckedMachine" (83 : Nat) ({ cls := "java/lang/UnsupportedOperationException", name := "<init>", desc := "(Ljava/lang/String;)V" } : Jvm.MethodName)) ∈ x_Wd := x_in3 (i := 203) rfl rfl
theorem q_684 : (Cond.instanceMethod ({ cls := "java/lang/UnsupportedOperationException", name := "<init>", desc := "(Ljava/lang/String;)V" } : Jvm.MethodName)) ∈ x_Wd := x_in3 (i := 204) rfl rfl
theorem q_685 : (Cond.code ({ cls := "java/lang/UnsupportedOperationException", name := "<init>", desc := "(Ljava/lang/String;)V" } : Jvm.MethodName) prog_20_method_2_code (2 : Nat) (Option.none : Option Jvm.ClassFile.FieldType)) ∈ x_Wd := x_in3 (i := 205) rfl rfl
theorem q_686 : (Cond.methodLink "java/lang/UnsupportedOperationException" (7 : Nat) ({ cls := "java/lang/RuntimeException", name := "<init>", desc := "(Ljava/lang/String;)V" } : Jvm.MethodName)) ∈ x_Wd := x_in3 (i := 206) rfl rfl
theorem q_687 : (Cond.lays "java/lang/UnsupportedOperationException" "java/lang/Throwable" "depth" "I") ∈ x_Wd := x_in3 (i := 207) rfl rfl
theorem q_688 : (Cond.superclass "java/lang/UnsupportedOperationException" "java/lang/RuntimeException") ∈ x_Wd := x_in3 (i := 208) rfl rfl
theorem q_689 : (Cond.methodLink "CheckedMachineLaw" (76 : Nat) ({ cls := "CheckedMachineLaw", name := "run", desc := "(LCheckedMachine;J[J)I" } : Jvm.MethodName)) ∈ x_Wd := x_in3 (i := 209) rfl rfl
theorem q_690 : (Cond.static ({ cls := "CheckedMachineLaw", name := "run", desc := "(LCheckedMachine;J[J)I" } : Jvm.MethodName)) ∈ x_Wd := x_in3 (i := 210) rfl rfl
theorem q_691 : (Cond.codeWith ({ cls := "CheckedMachineLaw", name := "run", desc := "(LCheckedMachine;J[J)I" } : Jvm.MethodName) method_7_code (5 : Nat) (Option.some Jvm.ClassFile.FieldType.int) [((0 : Nat), (8 : Nat), (11 : Nat), (15 : Nat))]) ∈ x_Wd := x_in3 (i := 211) rfl rfl
theorem q_692 : (Cond.methodLink "CheckedMachineLaw" (33 : Nat) ({ cls := "CheckedMachine", name := "run", desc := "(J)J" } : Jvm.MethodName)) ∈ x_Wd := x_in3 (i := 212) rfl rfl
theorem q_693 : (Cond.instanceMethod ({ cls := "CheckedMachine", name := "run", desc := "(J)J" } : Jvm.MethodName)) ∈ x_Wd := x_in3 (i := 213) rfl rfl
theorem q_694 : (Cond.selects "CheckedMachine" ({ cls := "CheckedMachine", name := "run", desc := "(J)J" } : Jvm.MethodName) ({ cls := "CheckedMachine", name := "run", desc := "(J)J" } : Jvm.MethodName)) ∈ x_Wd := x_in3 (i := 214) rfl rfl
theorem q_695 : (Cond.code ({ cls := "CheckedMachine", name := "run", desc := "(J)J" } : Jvm.MethodName) prog_1_method_6_code (3 : Nat) (Option.some Jvm.ClassFile.FieldType.long)) ∈ x_Wd := x_in3 (i := 215) rfl rfl
theorem q_697 : (Cond.methodLink "CheckedMachine" (89 : Nat) ({ cls := "CheckedMachine$Runner", name := "runThrough", desc := "(J)J" } : Jvm.MethodName)) ∈ x_Wd := x_in3 (i := 217) rfl rfl
theorem q_698 : (Cond.instanceMethod ({ cls := "CheckedMachine$Runner", name := "runThrough", desc := "(J)J" } : Jvm.MethodName)) ∈ x_Wd := x_in3 (i := 218) rfl rfl
theorem q_699 : (Cond.selects "CheckedMachine$Runner" ({ cls := "CheckedMachine$Runner", name := "runThrough", desc := "(J)J" } : Jvm.MethodName) ({ cls := "CheckedMachine$Runner", name := "runThrough", desc := "(J)J" } : Jvm.MethodName)) ∈ x_Wd := x_in3 (i := 219) rfl rfl
theorem q_700 : (Cond.code ({ cls := "CheckedMachine$Runner", name := "runThrough", desc := "(J)J" } : Jvm.MethodName) prog_8_method_6_code (5 : Nat) (Option.some Jvm.ClassFile.FieldType.long)) ∈ x_Wd := x_in3 (i := 220) rfl rfl
theorem q_701 : (Cond.methodLink "CheckedMachine$Runner" (39 : Nat) ({ cls := "CheckedMachine$Runner", name := "set", desc := "(IIJ)V" } : Jvm.MethodName)) ∈ x_Wd := x_in3 (i := 221) rfl rfl
theorem q_703 : (Cond.instanceMethod ({ cls := "CheckedMachine$Runner", name := "set", desc := "(IIJ)V" } : Jvm.MethodName)) ∈ x_Wd := x_in3 (i := 223) rfl rfl
theorem q_704 : (Cond.code ({ cls := "CheckedMachine$Runner", name := "set", desc := "(IIJ)V" } : Jvm.MethodName) prog_8_method_7_code (5 : Nat) (Option.none : Option Jvm.ClassFile.FieldType)) ∈ x_Wd := x_in3 (i := 224) rfl rfl
theorem q_705 : (Cond.methodLink "CheckedMachine$Runner" (43 : Nat) ({ cls := "CheckedMachine$Runner", name := "runStep", desc := "(I)I" } : Jvm.MethodName)) ∈ x_Wd := x_in3 (i := 225) rfl rfl
theorem q_707 : (Cond.instanceMethod ({ cls := "CheckedMachine$Runner", name := "runStep", desc := "(I)I" } : Jvm.MethodName)) ∈ x_Wd := x_in3 (i := 227) rfl rfl
theorem q_708 : (Cond.code ({ cls := "CheckedMachine$Runner", name := "runStep", desc := "(I)I" } : Jvm.MethodName) prog_8_method_8_code (3 : Nat) (Option.some Jvm.ClassFile.FieldType.int)) ∈ x_Wd := x_in3 (i := 228) rfl rfl
theorem q_709 : (Cond.methodLink "CheckedMachine$Runner" (47 : Nat) ({ cls := "CheckedMachine$Program", name := "stepAt", desc := "(I)LCheckedMachine$Step;" } : Jvm.MethodName)) ∈ x_Wd := x_in3 (i := 229) rfl rfl
theorem q_710 : (Cond.methodLink "CheckedMachine$Runner" (58 : Nat) ({ cls := "CheckedMachine$Step", name := "mayJump", desc := "()Z" } : Jvm.MethodName)) ∈ x_Wd := x_in3 (i := 230) rfl rfl
theorem q_711 : (Cond.methodLink "CheckedMachine$Runner" (62 : Nat) ({ cls := "CheckedMachine$Runner", name := "jumps", desc := "(LCheckedMachine$Step;)Z" } : Jvm.MethodName)) ∈ x_Wd := x_in3 (i := 231) rfl rfl
theorem q_713 : (Cond.instanceMethod ({ cls := "CheckedMachine$Runner", name := "jumps", desc := "(LCheckedMachine$Step;)Z" } : Jvm.MethodName)) ∈ x_Wd := x_in3 (i := 233) rfl rfl
theorem q_714 : (Cond.code ({ cls := "CheckedMachine$Runner", name := "jumps", desc := "(LCheckedMachine$Step;)Z" } : Jvm.MethodName) prog_8_method_9_code (2 : Nat) (Option.some Jvm.ClassFile.FieldType.boolean)) ∈ x_Wd := x_in3 (i := 234) rfl rfl
theorem q_715 : (Cond.methodLink "CheckedMachine$Runner" (69 : Nat) ({ cls := "CheckedMachine$Runner", name := "reachOut", desc := "(LCheckedMachine$Step;)V" } : Jvm.MethodName)) ∈ x_Wd := x_in3 (i := 235) rfl rfl
theorem q_717 : (Cond.instanceMethod ({ cls := "CheckedMachine$Runner", name := "reachOut", desc := "(LCheckedMachine$Step;)V" } : Jvm.MethodName)) ∈ x_Wd := x_in3 (i := 237) rfl rfl
theorem q_718 : (Cond.code ({ cls := "CheckedMachine$Runner", name := "reachOut", desc := "(LCheckedMachine$Step;)V" } : Jvm.MethodName) prog_8_method_11_code (2 : Nat) (Option.none : Option Jvm.ClassFile.FieldType)) ∈ x_Wd := x_in3 (i := 238) rfl rfl
theorem q_719 : (Cond.methodLink "CheckedMachine$Runner" (85 : Nat) ({ cls := "CheckedMachine$Runner", name := "load", desc := "(IIJ)V" } : Jvm.MethodName)) ∈ x_Wd := x_in3 (i := 239) rfl rfl
theorem q_721 : (Cond.instanceMethod ({ cls := "CheckedMachine$Runner", name := "load", desc := "(IIJ)V" } : Jvm.MethodName)) ∈ x_Wd := x_in4 (i := 1) rfl rfl
theorem q_722 : (Cond.code ({ cls := "CheckedMachine$Runner", name := "load", desc := "(IIJ)V" } : Jvm.MethodName) prog_8_method_12_code (6 : Nat) (Option.none : Option Jvm.ClassFile.FieldType)) ∈ x_Wd := x_in4 (i := 2) rfl rfl
theorem q_723 : (Cond.methodLink "CheckedMachine$Runner" (95 : Nat) ({ cls := "CheckedMachine$Runner", name := "mapCell", desc := "(II)J" } : Jvm.MethodName)) ∈ x_Wd := x_in4 (i := 3) rfl rfl
theorem q_724 : (Cond.instanceMethod ({ cls := "CheckedMachine$Runner", name := "mapCell", desc := "(II)J" } : Jvm.MethodName)) ∈ x_Wd := x_in4 (i := 4) rfl rfl
theorem q_725 : (Cond.selects "CheckedMachine$Runner" ({ cls := "CheckedMachine$Runner", name := "mapCell", desc := "(II)J" } : Jvm.MethodName) ({ cls := "CheckedMachine$Runner", name := "mapCell", desc := "(II)J" } : Jvm.MethodName)) ∈ x_Wd := x_in4 (i := 5) rfl rfl
theorem q_726 : (Cond.code ({ cls := "CheckedMachine$Runner", name := "mapCell", desc := "(II)J" } : Jvm.MethodName) prog_8_method_4_code (3 : Nat) (Option.some Jvm.ClassFile.FieldType.long)) ∈ x_Wd := x_in4 (i := 6) rfl rfl
theorem q_728 : (Cond.static ({ cls := "CheckedMachine", name := "isInMap", desc := "(II)Z" } : Jvm.MethodName)) ∈ x_Wd := x_in4 (i := 8) rfl rfl
theorem q_729 : (Cond.code ({ cls := "CheckedMachine", name := "isInMap", desc := "(II)Z" } : Jvm.MethodName) prog_1_method_11_code (2 : Nat) (Option.some Jvm.ClassFile.FieldType.boolean)) ∈ x_Wd := x_in4 (i := 9) rfl rfl
theorem q_730 : (Cond.constantLong "CheckedMachine$Runner" (99 : Nat) (6 : Int64)) ∈ x_Wd := x_in4 (i := 10) rfl rfl
theorem q_731 : (Cond.methodLink "CheckedMachine$Runner" (88 : Nat) ({ cls := "CheckedMachine$Runner", name := "store", desc := "(IIJ)V" } : Jvm.MethodName)) ∈ x_Wd := x_in4 (i := 11) rfl rfl
theorem q_733 : (Cond.instanceMethod ({ cls := "CheckedMachine$Runner", name := "store", desc := "(IIJ)V" } : Jvm.MethodName)) ∈ x_Wd := x_in4 (i := 13) rfl rfl
theorem q_734 : (Cond.code ({ cls := "CheckedMachine$Runner", name := "store", desc := "(IIJ)V" } : Jvm.MethodName) prog_8_method_13_code (5 : Nat) (Option.none : Option Jvm.ClassFile.FieldType)) ∈ x_Wd := x_in4 (i := 14) rfl rfl
theorem q_735 : (Cond.methodLink "CheckedMachine$Runner" (101 : Nat) ({ cls := "CheckedMachine$Runner", name := "setMapCell", desc := "(IIJ)V" } : Jvm.MethodName)) ∈ x_Wd := x_in4 (i := 15) rfl rfl
theorem q_736 : (Cond.instanceMethod ({ cls := "CheckedMachine$Runner", name := "setMapCell", desc := "(IIJ)V" } : Jvm.MethodName)) ∈ x_Wd := x_in4 (i := 16) rfl rfl
theorem q_737 : (Cond.selects "CheckedMachine$Runner" ({ cls := "CheckedMachine$Runner", name := "setMapCell", desc := "(IIJ)V" } : Jvm.MethodName) ({ cls := "CheckedMachine$Runner", name := "setMapCell", desc := "(IIJ)V" } : Jvm.MethodName)) ∈ x_Wd := x_in4 (i := 17) rfl rfl
theorem q_738 : (Cond.code ({ cls := "CheckedMachine$Runner", name := "setMapCell", desc := "(IIJ)V" } : Jvm.MethodName) prog_8_method_5_code (5 : Nat) (Option.none : Option Jvm.ClassFile.FieldType)) ∈ x_Wd := x_in4 (i := 18) rfl rfl
theorem q_739 : (Cond.methodLink "CheckedMachine$Runner" (91 : Nat) ({ cls := "CheckedMachine$Runner", name := "call", desc := "(I)V" } : Jvm.MethodName)) ∈ x_Wd := x_in4 (i := 19) rfl rfl
theorem q_741 : (Cond.instanceMethod ({ cls := "CheckedMachine$Runner", name := "call", desc := "(I)V" } : Jvm.MethodName)) ∈ x_Wd := x_in4 (i := 21) rfl rfl
theorem q_742 : (Cond.code ({ cls := "CheckedMachine$Runner", name := "call", desc := "(I)V" } : Jvm.MethodName) prog_8_method_14_code (2 : Nat) (Option.none : Option Jvm.ClassFile.FieldType)) ∈ x_Wd := x_in4 (i := 22) rfl rfl
theorem q_743 : (Cond.methodLink "CheckedMachine$Runner" (104 : Nat) ({ cls := "CheckedMachine$Runner", name := "findRow", desc := "(J)V" } : Jvm.MethodName)) ∈ x_Wd := x_in4 (i := 23) rfl rfl
theorem q_745 : (Cond.instanceMethod ({ cls := "CheckedMachine$Runner", name := "findRow", desc := "(J)V" } : Jvm.MethodName)) ∈ x_Wd := x_in4 (i := 25) rfl rfl
theorem q_746 : (Cond.code ({ cls := "CheckedMachine$Runner", name := "findRow", desc := "(J)V" } : Jvm.MethodName) prog_8_method_15_code (3 : Nat) (Option.none : Option Jvm.ClassFile.FieldType)) ∈ x_Wd := x_in4 (i := 26) rfl rfl
theorem q_747 : (Cond.methodLink "CheckedMachine$Runner" (108 : Nat) ({ cls := "java/lang/Math", name := "max", desc := "(JJ)J" } : Jvm.MethodName)) ∈ x_Wd := x_in4 (i := 27) rfl rfl
theorem q_748 : (Cond.methodLink "CheckedMachine$Runner" (73 : Nat) ({ cls := "CheckedMachine$Runner", name := "reckon", desc := "(LCheckedMachine$Step;)V" } : Jvm.MethodName)) ∈ x_Wd := x_in4 (i := 28) rfl rfl
theorem q_750 : (Cond.instanceMethod ({ cls := "CheckedMachine$Runner", name := "reckon", desc := "(LCheckedMachine$Step;)V" } : Jvm.MethodName)) ∈ x_Wd := x_in4 (i := 30) rfl rfl
theorem q_751 : (Cond.code ({ cls := "CheckedMachine$Runner", name := "reckon", desc := "(LCheckedMachine$Step;)V" } : Jvm.MethodName) prog_8_method_10_code (5 : Nat) (Option.none : Option Jvm.ClassFile.FieldType)) ∈ x_Wd := x_in4 (i := 31) rfl rfl
theorem q_752 : (Cond.methodLink "CheckedMachineLaw" (80 : Nat) ({ cls := "CheckedMachineLaw", name := "row", desc := "(LCheckedMachine;II[J)I" } : Jvm.MethodName)) ∈ x_Wd := x_in4 (i := 32) rfl rfl
theorem q_753 : (Cond.static ({ cls := "CheckedMachineLaw", name := "row", desc := "(LCheckedMachine;II[J)I" } : Jvm.MethodName)) ∈ x_Wd := x_in4 (i := 33) rfl rfl
theorem q_754 : (Cond.codeWith ({ cls := "CheckedMachineLaw", name := "row", desc := "(LCheckedMachine;II[J)I" } : Jvm.MethodName) method_8_code (5 : Nat) (Option.some Jvm.ClassFile.FieldType.int) [((0 : Nat), (9 : Nat), (12 : Nat), (13 : Nat))]) ∈ x_Wd := x_in4 (i := 34) rfl rfl
theorem q_755 : (Cond.methodLink "CheckedMachineLaw" (37 : Nat) ({ cls := "CheckedMachine", name := "row", desc := "(II)J" } : Jvm.MethodName)) ∈ x_Wd := x_in4 (i := 35) rfl rfl
theorem q_756 : (Cond.instanceMethod ({ cls := "CheckedMachine", name := "row", desc := "(II)J" } : Jvm.MethodName)) ∈ x_Wd := x_in4 (i := 36) rfl rfl
theorem q_757 : (Cond.selects "CheckedMachine" ({ cls := "CheckedMachine", name := "row", desc := "(II)J" } : Jvm.MethodName) ({ cls := "CheckedMachine", name := "row", desc := "(II)J" } : Jvm.MethodName)) ∈ x_Wd := x_in4 (i := 37) rfl rfl
theorem q_758 : (Cond.code ({ cls := "CheckedMachine", name := "row", desc := "(II)J" } : Jvm.MethodName) prog_1_method_7_code (3 : Nat) (Option.some Jvm.ClassFile.FieldType.long)) ∈ x_Wd := x_in4 (i := 38) rfl rfl
theorem q_759 : (Cond.methodLink "CheckedMachine" (93 : Nat) ({ cls := "CheckedMachine", name := "isInMap", desc := "(II)Z" } : Jvm.MethodName)) ∈ x_Wd := x_in4 (i := 39) rfl rfl
theorem q_761 : (Cond.methodLink "CheckedMachine" (99 : Nat) ({ cls := "CheckedMachine$Runner", name := "mapCell", desc := "(II)J" } : Jvm.MethodName)) ∈ x_Wd := x_in4 (i := 41) rfl rfl
theorem q_762 : (Cond.methodLink "CheckedMachineLaw" (84 : Nat) ({ cls := "CheckedMachineLaw", name := "fill", desc := "(LCheckedMachine;IIJ)I" } : Jvm.MethodName)) ∈ x_Wd := x_in4 (i := 42) rfl rfl
theorem q_763 : (Cond.static ({ cls := "CheckedMachineLaw", name := "fill", desc := "(LCheckedMachine;IIJ)I" } : Jvm.MethodName)) ∈ x_Wd := x_in4 (i := 43) rfl rfl
theorem q_764 : (Cond.codeWith ({ cls := "CheckedMachineLaw", name := "fill", desc := "(LCheckedMachine;IIJ)I" } : Jvm.MethodName) method_9_code (6 : Nat) (Option.some Jvm.ClassFile.FieldType.int) [((0 : Nat), (7 : Nat), (10 : Nat), (13 : Nat))]) ∈ x_Wd := x_in4 (i := 44) rfl rfl
theorem q_765 : (Cond.methodLink "CheckedMachineLaw" (41 : Nat) ({ cls := "CheckedMachine", name := "fill", desc := "(IIJ)V" } : Jvm.MethodName)) ∈ x_Wd := x_in4 (i := 45) rfl rfl
theorem q_766 : (Cond.instanceMethod ({ cls := "CheckedMachine", name := "fill", desc := "(IIJ)V" } : Jvm.MethodName)) ∈ x_Wd := x_in4 (i := 46) rfl rfl
theorem q_767 : (Cond.selects "CheckedMachine" ({ cls := "CheckedMachine", name := "fill", desc := "(IIJ)V" } : Jvm.MethodName) ({ cls := "CheckedMachine", name := "fill", desc := "(IIJ)V" } : Jvm.MethodName)) ∈ x_Wd := x_in4 (i := 47) rfl rfl
theorem q_768 : (Cond.code ({ cls := "CheckedMachine", name := "fill", desc := "(IIJ)V" } : Jvm.MethodName) prog_1_method_8_code (5 : Nat) (Option.none : Option Jvm.ClassFile.FieldType)) ∈ x_Wd := x_in4 (i := 48) rfl rfl
theorem q_769 : (Cond.methodLink "CheckedMachine" (103 : Nat) ({ cls := "CheckedMachine$Runner", name := "setMapCell", desc := "(IIJ)V" } : Jvm.MethodName)) ∈ x_Wd := x_in4 (i := 49) rfl rfl
theorem q_770 : (Cond.methodLink "CheckedMachineLaw" (88 : Nat) ({ cls := "CheckedMachineLaw", name := "outcome", desc := "(LCheckedMachine;Z[J)I" } : Jvm.MethodName)) ∈ x_Wd := x_in4 (i := 50) rfl rfl
theorem q_771 : (Cond.static ({ cls := "CheckedMachineLaw", name := "outcome", desc := "(LCheckedMachine;Z[J)I" } : Jvm.MethodName)) ∈ x_Wd := x_in4 (i := 51) rfl rfl
theorem q_772 : (Cond.codeWith ({ cls := "CheckedMachineLaw", name := "outcome", desc := "(LCheckedMachine;Z[J)I" } : Jvm.MethodName) method_10_code (4 : Nat) (Option.some Jvm.ClassFile.FieldType.int) [((0 : Nat), (8 : Nat), (11 : Nat), (15 : Nat))]) ∈ x_Wd := x_in4 (i := 52) rfl rfl
theorem q_773 : (Cond.methodLink "CheckedMachineLaw" (45 : Nat) ({ cls := "CheckedMachine", name := "outcome", desc := "(Z)J" } : Jvm.MethodName)) ∈ x_Wd := x_in4 (i := 53) rfl rfl
theorem q_774 : (Cond.instanceMethod ({ cls := "CheckedMachine", name := "outcome", desc := "(Z)J" } : Jvm.MethodName)) ∈ x_Wd := x_in4 (i := 54) rfl rfl
theorem q_775 : (Cond.selects "CheckedMachine" ({ cls := "CheckedMachine", name := "outcome", desc := "(Z)J" } : Jvm.MethodName) ({ cls := "CheckedMachine", name := "outcome", desc := "(Z)J" } : Jvm.MethodName)) ∈ x_Wd := x_in4 (i := 55) rfl rfl
theorem q_776 : (Cond.code ({ cls := "CheckedMachine", name := "outcome", desc := "(Z)J" } : Jvm.MethodName) prog_1_method_9_code (2 : Nat) (Option.some Jvm.ClassFile.FieldType.long)) ∈ x_Wd := x_in4 (i := 56) rfl rfl
theorem q_777 : (Cond.methodLink "CheckedMachine" (107 : Nat) ({ cls := "CheckedMachine$Checker", name := "greatest", desc := "()J" } : Jvm.MethodName)) ∈ x_Wd := x_in4 (i := 57) rfl rfl
theorem q_778 : (Cond.instanceMethod ({ cls := "CheckedMachine$Checker", name := "greatest", desc := "()J" } : Jvm.MethodName)) ∈ x_Wd := x_in4 (i := 58) rfl rfl
theorem q_779 : (Cond.selects "CheckedMachine$Checker" ({ cls := "CheckedMachine$Checker", name := "greatest", desc := "()J" } : Jvm.MethodName) ({ cls := "CheckedMachine$Checker", name := "greatest", desc := "()J" } : Jvm.MethodName)) ∈ x_Wd := x_in4 (i := 59) rfl rfl
theorem q_780 : (Cond.code ({ cls := "CheckedMachine$Checker", name := "greatest", desc := "()J" } : Jvm.MethodName) prog_2_method_6_code (1 : Nat) (Option.some Jvm.ClassFile.FieldType.long)) ∈ x_Wd := x_in4 (i := 60) rfl rfl
theorem q_781 : (Cond.methodLink "CheckedMachine" (111 : Nat) ({ cls := "CheckedMachine$Checker", name := "least", desc := "()J" } : Jvm.MethodName)) ∈ x_Wd := x_in4 (i := 61) rfl rfl
theorem q_782 : (Cond.instanceMethod ({ cls := "CheckedMachine$Checker", name := "least", desc := "()J" } : Jvm.MethodName)) ∈ x_Wd := x_in4 (i := 62) rfl rfl
theorem q_783 : (Cond.selects "CheckedMachine$Checker" ({ cls := "CheckedMachine$Checker", name := "least", desc := "()J" } : Jvm.MethodName) ({ cls := "CheckedMachine$Checker", name := "least", desc := "()J" } : Jvm.MethodName)) ∈ x_Wd := x_in4 (i := 63) rfl rfl
theorem q_784 : (Cond.code ({ cls := "CheckedMachine$Checker", name := "least", desc := "()J" } : Jvm.MethodName) prog_2_method_5_code (1 : Nat) (Option.some Jvm.ClassFile.FieldType.long)) ∈ x_Wd := x_in4 (i := 64) rfl rfl
theorem q_785 : (Cond.classLink "CheckedMachineLaw" (50 : Nat) "CheckedMachineModel") ∈ x_Wd := x_in4 (i := 65) rfl rfl
theorem q_786 : (Cond.instantiable "CheckedMachineModel" (26 : Nat)) ∈ x_Wd := x_in4 (i := 66) rfl rfl
theorem q_787 : (Cond.methodLink "CheckedMachineLaw" (52 : Nat) ({ cls := "CheckedMachineModel", name := "<init>", desc := "()V" } : Jvm.MethodName)) ∈ x_Wd := x_in4 (i := 67) rfl rfl
theorem q_788 : (Cond.instanceMethod ({ cls := "CheckedMachineModel", name := "<init>", desc := "()V" } : Jvm.MethodName)) ∈ x_Wd := x_in4 (i := 68) rfl rfl
theorem q_789 : (Cond.code ({ cls := "CheckedMachineModel", name := "<init>", desc := "()V" } : Jvm.MethodName) prog_11_method_1_code (1 : Nat) (Option.none : Option Jvm.ClassFile.FieldType)) ∈ x_Wd := x_in4 (i := 69) rfl rfl
theorem q_790 : (Cond.methodLink "CheckedMachineModel" (1 : Nat) ({ cls := "java/lang/Object", name := "<init>", desc := "()V" } : Jvm.MethodName)) ∈ x_Wd := x_in4 (i := 70) rfl rfl
theorem q_791 : (Cond.fieldLink "CheckedMachineModel" (7 : Nat) "CheckedMachineModel" "op" "[I") ∈ x_Wd := x_in4 (i := 71) rfl rfl
theorem q_792 : (Cond.fieldLink "CheckedMachineModel" (13 : Nat) "CheckedMachineModel" "d" "[I") ∈ x_Wd := x_in4 (i := 72) rfl rfl
theorem q_793 : (Cond.fieldLink "CheckedMachineModel" (16 : Nat) "CheckedMachineModel" "s" "[I") ∈ x_Wd := x_in4 (i := 73) rfl rfl
theorem q_794 : (Cond.fieldLink "CheckedMachineModel" (19 : Nat) "CheckedMachineModel" "n" "[I") ∈ x_Wd := x_in4 (i := 74) rfl rfl
theorem q_795 : (Cond.fieldLink "CheckedMachineModel" (22 : Nat) "CheckedMachineModel" "target" "[I") ∈ x_Wd := x_in4 (i := 75) rfl rfl
theorem q_796 : (Cond.fieldLink "CheckedMachineModel" (76 : Nat) "CheckedMachineModel" "size" "I") ∈ x_Wd := x_in4 (i := 76) rfl rfl
theorem q_797 : (Cond.fieldLink "CheckedMachineModel" (215 : Nat) "CheckedMachineModel" "reason" "I") ∈ x_Wd := x_in4 (i := 77) rfl rfl
theorem q_798 : (Cond.fieldLink "CheckedMachineModel" (218 : Nat) "CheckedMachineModel" "at" "I") ∈ x_Wd := x_in4 (i := 78) rfl rfl
theorem q_799 : (Cond.fieldLink "CheckedMachineModel" (208 : Nat) "CheckedMachineModel" "looked" "I") ∈ x_Wd := x_in4 (i := 79) rfl rfl
theorem q_800 : (Cond.fieldLink "CheckedMachineModel" (229 : Nat) "CheckedMachineModel" "ran" "I") ∈ x_Wd := x_in4 (i := 80) rfl rfl
theorem q_801 : (Cond.fieldLink "CheckedMachineModel" (224 : Nat) "CheckedMachineModel" "calls" "I") ∈ x_Wd := x_in4 (i := 81) rfl rfl
theorem q_802 : (Cond.fieldLink "CheckedMachineModel" (50 : Nat) "CheckedMachineModel" "thrown" "I") ∈ x_Wd := x_in4 (i := 82) rfl rfl
theorem q_803 : (Cond.fieldLink "CheckedMachineModel" (64 : Nat) "CheckedMachineModel" "checked" "Z") ∈ x_Wd := x_in4 (i := 83) rfl rfl
theorem q_804 : (Cond.fieldLink "CheckedMachineModel" (173 : Nat) "CheckedMachineModel" "any" "Z") ∈ x_Wd := x_in4 (i := 84) rfl rfl
theorem q_805 : (Cond.fieldLink "CheckedMachineModel" (176 : Nat) "CheckedMachineModel" "least" "J") ∈ x_Wd := x_in4 (i := 85) rfl rfl
theorem q_806 : (Cond.fieldLink "CheckedMachineModel" (180 : Nat) "CheckedMachineModel" "most" "J") ∈ x_Wd := x_in4 (i := 86) rfl rfl
theorem q_807 : (Cond.fieldLink "CheckedMachineModel" (25 : Nat) "CheckedMachineModel" "kind" "[I") ∈ x_Wd := x_in4 (i := 87) rfl rfl
theorem q_808 : (Cond.fieldLink "CheckedMachineModel" (28 : Nat) "CheckedMachineModel" "low" "[J") ∈ x_Wd := x_in4 (i := 88) rfl rfl
theorem q_809 : (Cond.fieldLink "CheckedMachineModel" (32 : Nat) "CheckedMachineModel" "high" "[J") ∈ x_Wd := x_in4 (i := 89) rfl rfl
theorem q_810 : (Cond.fieldLink "CheckedMachineModel" (35 : Nat) "CheckedMachineModel" "pileKind" "[I") ∈ x_Wd := x_in4 (i := 90) rfl rfl
theorem q_811 : (Cond.fieldLink "CheckedMachineModel" (38 : Nat) "CheckedMachineModel" "pileStep" "[I") ∈ x_Wd := x_in4 (i := 91) rfl rfl
theorem q_812 : (Cond.fieldLink "CheckedMachineModel" (41 : Nat) "CheckedMachineModel" "pileLow" "[J") ∈ x_Wd := x_in4 (i := 92) rfl rfl
theorem q_813 : (Cond.fieldLink "CheckedMachineModel" (44 : Nat) "CheckedMachineModel" "pileHigh" "[J") ∈ x_Wd := x_in4 (i := 93) rfl rfl
theorem q_814 : (Cond.fieldLink "CheckedMachineModel" (47 : Nat) "CheckedMachineModel" "map" "[J") ∈ x_Wd := x_in4 (i := 94) rfl rfl
theorem q_815 : (Cond.fieldLink "CheckedMachineModel" (137 : Nat) "CheckedMachineModel" "pile" "I") ∈ x_Wd := x_in4 (i := 95) rfl rfl
theorem q_816 : (Cond.fieldLink "CheckedMachineModel" (140 : Nat) "CheckedMachineModel" "step" "I") ∈ x_Wd := x_in4 (i := 96) rfl rfl
theorem q_817 : (Cond.laysFinal "CheckedMachineModel" "CheckedMachineModel" "op" "[I") ∈ x_Wd := x_in4 (i := 97) rfl rfl
theorem q_818 : (Cond.soleField "CheckedMachineModel" "op") ∈ x_Wd := x_in4 (i := 98) rfl rfl
theorem q_819 : (Cond.laysFinal "CheckedMachineModel" "CheckedMachineModel" "d" "[I") ∈ x_Wd := x_in4 (i := 99) rfl rfl
theorem q_820 : (Cond.soleField "CheckedMachineModel" "d") ∈ x_Wd := x_in4 (i := 100) rfl rfl
theorem q_821 : (Cond.laysFinal "CheckedMachineModel" "CheckedMachineModel" "s" "[I") ∈ x_Wd := x_in4 (i := 101) rfl rfl
theorem q_822 : (Cond.soleField "CheckedMachineModel" "s") ∈ x_Wd := x_in4 (i := 102) rfl rfl
theorem q_823 : (Cond.laysFinal "CheckedMachineModel" "CheckedMachineModel" "n" "[I") ∈ x_Wd := x_in4 (i := 103) rfl rfl
theorem q_824 : (Cond.soleField "CheckedMachineModel" "n") ∈ x_Wd := x_in4 (i := 104) rfl rfl
theorem q_825 : (Cond.laysFinal "CheckedMachineModel" "CheckedMachineModel" "target" "[I") ∈ x_Wd := x_in4 (i := 105) rfl rfl
theorem q_826 : (Cond.soleField "CheckedMachineModel" "target") ∈ x_Wd := x_in4 (i := 106) rfl rfl
theorem q_827 : (Cond.lays "CheckedMachineModel" "CheckedMachineModel" "size" "I") ∈ x_Wd := x_in4 (i := 107) rfl rfl
theorem q_828 : (Cond.soleField "CheckedMachineModel" "size") ∈ x_Wd := x_in4 (i := 108) rfl rfl
theorem q_829 : (Cond.lays "CheckedMachineModel" "CheckedMachineModel" "reason" "I") ∈ x_Wd := x_in4 (i := 109) rfl rfl
theorem q_830 : (Cond.soleField "CheckedMachineModel" "reason") ∈ x_Wd := x_in4 (i := 110) rfl rfl
theorem q_831 : (Cond.lays "CheckedMachineModel" "CheckedMachineModel" "at" "I") ∈ x_Wd := x_in4 (i := 111) rfl rfl
theorem q_832 : (Cond.soleField "CheckedMachineModel" "at") ∈ x_Wd := x_in4 (i := 112) rfl rfl
theorem q_833 : (Cond.lays "CheckedMachineModel" "CheckedMachineModel" "looked" "I") ∈ x_Wd := x_in4 (i := 113) rfl rfl
theorem q_834 : (Cond.soleField "CheckedMachineModel" "looked") ∈ x_Wd := x_in4 (i := 114) rfl rfl
theorem q_835 : (Cond.lays "CheckedMachineModel" "CheckedMachineModel" "ran" "I") ∈ x_Wd := x_in4 (i := 115) rfl rfl
theorem q_836 : (Cond.soleField "CheckedMachineModel" "ran") ∈ x_Wd := x_in4 (i := 116) rfl rfl
theorem q_837 : (Cond.lays "CheckedMachineModel" "CheckedMachineModel" "calls" "I") ∈ x_Wd := x_in4 (i := 117) rfl rfl
theorem q_838 : (Cond.soleField "CheckedMachineModel" "calls") ∈ x_Wd := x_in4 (i := 118) rfl rfl
theorem q_839 : (Cond.lays "CheckedMachineModel" "CheckedMachineModel" "thrown" "I") ∈ x_Wd := x_in4 (i := 119) rfl rfl
theorem q_840 : (Cond.soleField "CheckedMachineModel" "thrown") ∈ x_Wd := x_in4 (i := 120) rfl rfl
theorem q_841 : (Cond.lays "CheckedMachineModel" "CheckedMachineModel" "checked" "Z") ∈ x_Wd := x_in4 (i := 121) rfl rfl
theorem q_842 : (Cond.soleField "CheckedMachineModel" "checked") ∈ x_Wd := x_in4 (i := 122) rfl rfl
theorem q_843 : (Cond.lays "CheckedMachineModel" "CheckedMachineModel" "any" "Z") ∈ x_Wd := x_in4 (i := 123) rfl rfl
theorem q_844 : (Cond.soleField "CheckedMachineModel" "any") ∈ x_Wd := x_in4 (i := 124) rfl rfl
theorem q_845 : (Cond.lays "CheckedMachineModel" "CheckedMachineModel" "least" "J") ∈ x_Wd := x_in4 (i := 125) rfl rfl
theorem q_846 : (Cond.soleField "CheckedMachineModel" "least") ∈ x_Wd := x_in4 (i := 126) rfl rfl
theorem q_847 : (Cond.lays "CheckedMachineModel" "CheckedMachineModel" "most" "J") ∈ x_Wd := x_in4 (i := 127) rfl rfl
theorem q_848 : (Cond.soleField "CheckedMachineModel" "most") ∈ x_Wd := x_in4 (i := 128) rfl rfl
theorem q_849 : (Cond.laysFinal "CheckedMachineModel" "CheckedMachineModel" "kind" "[I") ∈ x_Wd := x_in4 (i := 129) rfl rfl
theorem q_850 : (Cond.soleField "CheckedMachineModel" "kind") ∈ x_Wd := x_in4 (i := 130) rfl rfl
theorem q_851 : (Cond.laysFinal "CheckedMachineModel" "CheckedMachineModel" "low" "[J") ∈ x_Wd := x_in4 (i := 131) rfl rfl
theorem q_852 : (Cond.soleField "CheckedMachineModel" "low") ∈ x_Wd := x_in4 (i := 132) rfl rfl
theorem q_853 : (Cond.laysFinal "CheckedMachineModel" "CheckedMachineModel" "high" "[J") ∈ x_Wd := x_in4 (i := 133) rfl rfl
theorem q_854 : (Cond.soleField "CheckedMachineModel" "high") ∈ x_Wd := x_in4 (i := 134) rfl rfl
theorem q_855 : (Cond.laysFinal "CheckedMachineModel" "CheckedMachineModel" "pileKind" "[I") ∈ x_Wd := x_in4 (i := 135) rfl rfl
theorem q_856 : (Cond.soleField "CheckedMachineModel" "pileKind") ∈ x_Wd := x_in4 (i := 136) rfl rfl
theorem q_857 : (Cond.laysFinal "CheckedMachineModel" "CheckedMachineModel" "pileStep" "[I") ∈ x_Wd := x_in4 (i := 137) rfl rfl
theorem q_858 : (Cond.soleField "CheckedMachineModel" "pileStep") ∈ x_Wd := x_in4 (i := 138) rfl rfl
theorem q_859 : (Cond.laysFinal "CheckedMachineModel" "CheckedMachineModel" "pileLow" "[J") ∈ x_Wd := x_in4 (i := 139) rfl rfl
theorem q_860 : (Cond.soleField "CheckedMachineModel" "pileLow") ∈ x_Wd := x_in4 (i := 140) rfl rfl
theorem q_861 : (Cond.laysFinal "CheckedMachineModel" "CheckedMachineModel" "pileHigh" "[J") ∈ x_Wd := x_in4 (i := 141) rfl rfl
theorem q_862 : (Cond.soleField "CheckedMachineModel" "pileHigh") ∈ x_Wd := x_in4 (i := 142) rfl rfl
theorem q_863 : (Cond.laysFinal "CheckedMachineModel" "CheckedMachineModel" "map" "[J") ∈ x_Wd := x_in4 (i := 143) rfl rfl
theorem q_864 : (Cond.soleField "CheckedMachineModel" "map") ∈ x_Wd := x_in4 (i := 144) rfl rfl
theorem q_865 : (Cond.lays "CheckedMachineModel" "CheckedMachineModel" "pile" "I") ∈ x_Wd := x_in4 (i := 145) rfl rfl
theorem q_866 : (Cond.soleField "CheckedMachineModel" "pile") ∈ x_Wd := x_in4 (i := 146) rfl rfl
theorem q_867 : (Cond.lays "CheckedMachineModel" "CheckedMachineModel" "step" "I") ∈ x_Wd := x_in4 (i := 147) rfl rfl
theorem q_868 : (Cond.soleField "CheckedMachineModel" "step") ∈ x_Wd := x_in4 (i := 148) rfl rfl
theorem q_869 : (Cond.superclass "CheckedMachineModel" "java/lang/Object") ∈ x_Wd := x_in4 (i := 149) rfl rfl
theorem q_870 : (Cond.methodLink "CheckedMachineLaw" (59 : Nat) ({ cls := "CheckedMachineModel", name := "thrown", desc := "()I" } : Jvm.MethodName)) ∈ x_Wd := x_in4 (i := 150) rfl rfl
theorem q_871 : (Cond.instanceMethod ({ cls := "CheckedMachineModel", name := "thrown", desc := "()I" } : Jvm.MethodName)) ∈ x_Wd := x_in4 (i := 151) rfl rfl
theorem q_872 : (Cond.selects "CheckedMachineModel" ({ cls := "CheckedMachineModel", name := "thrown", desc := "()I" } : Jvm.MethodName) ({ cls := "CheckedMachineModel", name := "thrown", desc := "()I" } : Jvm.MethodName)) ∈ x_Wd := x_in4 (i := 152) rfl rfl
theorem q_873 : (Cond.code ({ cls := "CheckedMachineModel", name := "thrown", desc := "()I" } : Jvm.MethodName) prog_11_method_2_code (1 : Nat) (Option.some Jvm.ClassFile.FieldType.int)) ∈ x_Wd := x_in4 (i := 153) rfl rfl
theorem q_874 : (Cond.methodLink "CheckedMachineLaw" (58 : Nat) ({ cls := "CheckedMachineModel", name := "add", desc := "(IIIII)I" } : Jvm.MethodName)) ∈ x_Wd := x_in4 (i := 154) rfl rfl
theorem q_875 : (Cond.instanceMethod ({ cls := "CheckedMachineModel", name := "add", desc := "(IIIII)I" } : Jvm.MethodName)) ∈ x_Wd := x_in4 (i := 155) rfl rfl
theorem q_876 : (Cond.selects "CheckedMachineModel" ({ cls := "CheckedMachineModel", name := "add", desc := "(IIIII)I" } : Jvm.MethodName) ({ cls := "CheckedMachineModel", name := "add", desc := "(IIIII)I" } : Jvm.MethodName)) ∈ x_Wd := x_in4 (i := 156) rfl rfl
theorem q_877 : (Cond.code ({ cls := "CheckedMachineModel", name := "add", desc := "(IIIII)I" } : Jvm.MethodName) prog_11_method_7_code (6 : Nat) (Option.some Jvm.ClassFile.FieldType.int)) ∈ x_Wd := x_in4 (i := 157) rfl rfl
theorem q_878 : (Cond.methodLink "CheckedMachineModel" (68 : Nat) ({ cls := "CheckedMachineModel", name := "fits", desc := "(IIII)Z" } : Jvm.MethodName)) ∈ x_Wd := x_in4 (i := 158) rfl rfl
theorem q_880 : (Cond.instanceMethod ({ cls := "CheckedMachineModel", name := "fits", desc := "(IIII)Z" } : Jvm.MethodName)) ∈ x_Wd := x_in4 (i := 160) rfl rfl
theorem q_881 : (Cond.code ({ cls := "CheckedMachineModel", name := "fits", desc := "(IIII)Z" } : Jvm.MethodName) prog_11_method_5_code (5 : Nat) (Option.some Jvm.ClassFile.FieldType.boolean)) ∈ x_Wd := x_in4 (i := 161) rfl rfl
theorem q_882 : (Cond.constantLong "CheckedMachineModel" (54 : Nat) (17 : Int64)) ∈ x_Wd := x_in4 (i := 162) rfl rfl
theorem q_883 : (Cond.methodLink "CheckedMachineModel" (56 : Nat) ({ cls := "CheckedMachineModel", name := "in", desc := "(JJJ)Z" } : Jvm.MethodName)) ∈ x_Wd := x_in4 (i := 163) rfl rfl
theorem q_884 : (Cond.static ({ cls := "CheckedMachineModel", name := "in", desc := "(JJJ)Z" } : Jvm.MethodName)) ∈ x_Wd := x_in4 (i := 164) rfl rfl
theorem q_885 : (Cond.code ({ cls := "CheckedMachineModel", name := "in", desc := "(JJJ)Z" } : Jvm.MethodName) prog_11_method_3_code (6 : Nat) (Option.some Jvm.ClassFile.FieldType.boolean)) ∈ x_Wd := x_in4 (i := 165) rfl rfl
theorem q_886 : (Cond.constantLong "CheckedMachineModel" (60 : Nat) (5 : Int64)) ∈ x_Wd := x_in4 (i := 166) rfl rfl
theorem q_887 : (Cond.constantLong "CheckedMachineModel" (62 : Nat) (23 : Int64)) ∈ x_Wd := x_in4 (i := 167) rfl rfl
theorem q_888 : (Cond.methodLink "CheckedMachineModel" (72 : Nat) ({ cls := "CheckedMachineModel", name := "bad", desc := "(Z)Z" } : Jvm.MethodName)) ∈ x_Wd := x_in4 (i := 168) rfl rfl
theorem q_890 : (Cond.instanceMethod ({ cls := "CheckedMachineModel", name := "bad", desc := "(Z)Z" } : Jvm.MethodName)) ∈ x_Wd := x_in4 (i := 170) rfl rfl
theorem q_891 : (Cond.code ({ cls := "CheckedMachineModel", name := "bad", desc := "(Z)Z" } : Jvm.MethodName) prog_11_method_4_code (2 : Nat) (Option.some Jvm.ClassFile.FieldType.boolean)) ∈ x_Wd := x_in4 (i := 171) rfl rfl
theorem q_892 : (Cond.methodLink "CheckedMachineModel" (79 : Nat) ({ cls := "CheckedMachineModel", name := "set", desc := "(IIIIII)V" } : Jvm.MethodName)) ∈ x_Wd := x_in4 (i := 172) rfl rfl
theorem q_894 : (Cond.instanceMethod ({ cls := "CheckedMachineModel", name := "set", desc := "(IIIIII)V" } : Jvm.MethodName)) ∈ x_Wd := x_in4 (i := 174) rfl rfl
theorem q_895 : (Cond.code ({ cls := "CheckedMachineModel", name := "set", desc := "(IIIIII)V" } : Jvm.MethodName) prog_11_method_6_code (7 : Nat) (Option.none : Option Jvm.ClassFile.FieldType)) ∈ x_Wd := x_in4 (i := 175) rfl rfl
theorem q_896 : (Cond.methodLink "CheckedMachineLaw" (65 : Nat) ({ cls := "CheckedMachineModel", name := "put", desc := "(IIIIII)V" } : Jvm.MethodName)) ∈ x_Wd := x_in4 (i := 176) rfl rfl
theorem q_897 : (Cond.instanceMethod ({ cls := "CheckedMachineModel", name := "put", desc := "(IIIIII)V" } : Jvm.MethodName)) ∈ x_Wd := x_in4 (i := 177) rfl rfl
theorem q_898 : (Cond.selects "CheckedMachineModel" ({ cls := "CheckedMachineModel", name := "put", desc := "(IIIIII)V" } : Jvm.MethodName) ({ cls := "CheckedMachineModel", name := "put", desc := "(IIIIII)V" } : Jvm.MethodName)) ∈ x_Wd := x_in4 (i := 178) rfl rfl
theorem q_899 : (Cond.code ({ cls := "CheckedMachineModel", name := "put", desc := "(IIIIII)V" } : Jvm.MethodName) prog_11_method_8_code (7 : Nat) (Option.none : Option Jvm.ClassFile.FieldType)) ∈ x_Wd := x_in4 (i := 179) rfl rfl
theorem q_900 : (Cond.methodLink "CheckedMachineLaw" (69 : Nat) ({ cls := "CheckedMachineModel", name := "cut", desc := "(I)V" } : Jvm.MethodName)) ∈ x_Wd := x_in4 (i := 180) rfl rfl
theorem q_901 : (Cond.instanceMethod ({ cls := "CheckedMachineModel", name := "cut", desc := "(I)V" } : Jvm.MethodName)) ∈ x_Wd := x_in4 (i := 181) rfl rfl
theorem q_902 : (Cond.selects "CheckedMachineModel" ({ cls := "CheckedMachineModel", name := "cut", desc := "(I)V" } : Jvm.MethodName) ({ cls := "CheckedMachineModel", name := "cut", desc := "(I)V" } : Jvm.MethodName)) ∈ x_Wd := x_in4 (i := 182) rfl rfl
theorem q_903 : (Cond.code ({ cls := "CheckedMachineModel", name := "cut", desc := "(I)V" } : Jvm.MethodName) prog_11_method_9_code (2 : Nat) (Option.none : Option Jvm.ClassFile.FieldType)) ∈ x_Wd := x_in4 (i := 183) rfl rfl
theorem q_904 : (Cond.methodLink "CheckedMachineLaw" (73 : Nat) ({ cls := "CheckedMachineModel", name := "check", desc := "()I" } : Jvm.MethodName)) ∈ x_Wd := x_in4 (i := 184) rfl rfl
theorem q_905 : (Cond.instanceMethod ({ cls := "CheckedMachineModel", name := "check", desc := "()I" } : Jvm.MethodName)) ∈ x_Wd := x_in4 (i := 185) rfl rfl
theorem q_906 : (Cond.selects "CheckedMachineModel" ({ cls := "CheckedMachineModel", name := "check", desc := "()I" } : Jvm.MethodName) ({ cls := "CheckedMachineModel", name := "check", desc := "()I" } : Jvm.MethodName)) ∈ x_Wd := x_in4 (i := 186) rfl rfl
theorem q_907 : (Cond.code ({ cls := "CheckedMachineModel", name := "check", desc := "()I" } : Jvm.MethodName) prog_11_method_37_code (3 : Nat) (Option.some Jvm.ClassFile.FieldType.int)) ∈ x_Wd := x_in4 (i := 187) rfl rfl
theorem q_908 : (Cond.methodLink "CheckedMachineModel" (83 : Nat) ({ cls := "CheckedMachineModel", name := "know", desc := "(IIJJ)V" } : Jvm.MethodName)) ∈ x_Wd := x_in4 (i := 188) rfl rfl
theorem q_910 : (Cond.instanceMethod ({ cls := "CheckedMachineModel", name := "know", desc := "(IIJJ)V" } : Jvm.MethodName)) ∈ x_Wd := x_in4 (i := 190) rfl rfl
theorem q_911 : (Cond.code ({ cls := "CheckedMachineModel", name := "know", desc := "(IIJJ)V" } : Jvm.MethodName) prog_11_method_10_code (7 : Nat) (Option.none : Option Jvm.ClassFile.FieldType)) ∈ x_Wd := x_in4 (i := 191) rfl rfl
theorem q_912 : (Cond.methodLink "CheckedMachineModel" (143 : Nat) ({ cls := "CheckedMachineModel", name := "anything", desc := "(I)V" } : Jvm.MethodName)) ∈ x_Wd := x_in4 (i := 192) rfl rfl
theorem q_914 : (Cond.instanceMethod ({ cls := "CheckedMachineModel", name := "anything", desc := "(I)V" } : Jvm.MethodName)) ∈ x_Wd := x_in4 (i := 194) rfl rfl
theorem q_915 : (Cond.code ({ cls := "CheckedMachineModel", name := "anything", desc := "(I)V" } : Jvm.MethodName) prog_11_method_12_code (2 : Nat) (Option.none : Option Jvm.ClassFile.FieldType)) ∈ x_Wd := x_in4 (i := 195) rfl rfl
theorem q_916 : (Cond.constantLong "CheckedMachineModel" (87 : Nat) (-9223372036854775808 : Int64)) ∈ x_Wd := x_in4 (i := 196) rfl rfl
theorem q_917 : (Cond.constantLong "CheckedMachineModel" (89 : Nat) (9223372036854775807 : Int64)) ∈ x_Wd := x_in4 (i := 197) rfl rfl
theorem q_918 : (Cond.methodLink "CheckedMachineModel" (211 : Nat) ({ cls := "CheckedMachineModel", name := "reasonAt", desc := "(I)I" } : Jvm.MethodName)) ∈ x_Wd := x_in4 (i := 198) rfl rfl
theorem q_920 : (Cond.instanceMethod ({ cls := "CheckedMachineModel", name := "reasonAt", desc := "(I)I" } : Jvm.MethodName)) ∈ x_Wd := x_in4 (i := 200) rfl rfl
theorem q_921 : (Cond.code ({ cls := "CheckedMachineModel", name := "reasonAt", desc := "(I)I" } : Jvm.MethodName) prog_11_method_23_code (2 : Nat) (Option.some Jvm.ClassFile.FieldType.int)) ∈ x_Wd := x_in4 (i := 201) rfl rfl
theorem q_922 : (Cond.constantLong "CheckedMachineModel" (113 : Nat) (10 : Int64)) ∈ x_Wd := x_in4 (i := 202) rfl rfl
theorem q_923 : (Cond.constantLong "CheckedMachineModel" (115 : Nat) (13 : Int64)) ∈ x_Wd := x_in4 (i := 203) rfl rfl
theorem q_924 : (Cond.methodLink "CheckedMachineModel" (117 : Nat) ({ cls := "CheckedMachineModel", name := "empties", desc := "(I)Z" } : Jvm.MethodName)) ∈ x_Wd := x_in4 (i := 204) rfl rfl
theorem q_926 : (Cond.instanceMethod ({ cls := "CheckedMachineModel", name := "empties", desc := "(I)Z" } : Jvm.MethodName)) ∈ x_Wd := x_in4 (i := 206) rfl rfl
theorem q_927 : (Cond.code ({ cls := "CheckedMachineModel", name := "empties", desc := "(I)Z" } : Jvm.MethodName) prog_11_method_17_code (3 : Nat) (Option.some Jvm.ClassFile.FieldType.boolean)) ∈ x_Wd := x_in4 (i := 207) rfl rfl
theorem q_928 : (Cond.methodLink "CheckedMachineModel" (91 : Nat) ({ cls := "CheckedMachineModel", name := "usesD", desc := "(I)Z" } : Jvm.MethodName)) ∈ x_Wd := x_in4 (i := 208) rfl rfl
theorem q_930 : (Cond.instanceMethod ({ cls := "CheckedMachineModel", name := "usesD", desc := "(I)Z" } : Jvm.MethodName)) ∈ x_Wd := x_in4 (i := 210) rfl rfl
theorem q_931 : (Cond.code ({ cls := "CheckedMachineModel", name := "usesD", desc := "(I)Z" } : Jvm.MethodName) prog_11_method_14_code (2 : Nat) (Option.some Jvm.ClassFile.FieldType.boolean)) ∈ x_Wd := x_in4 (i := 211) rfl rfl
theorem q_932 : (Cond.methodLink "CheckedMachineModel" (95 : Nat) ({ cls := "CheckedMachineModel", name := "usesS", desc := "(I)Z" } : Jvm.MethodName)) ∈ x_Wd := x_in4 (i := 212) rfl rfl
theorem q_934 : (Cond.instanceMethod ({ cls := "CheckedMachineModel", name := "usesS", desc := "(I)Z" } : Jvm.MethodName)) ∈ x_Wd := x_in4 (i := 214) rfl rfl
theorem q_935 : (Cond.code ({ cls := "CheckedMachineModel", name := "usesS", desc := "(I)Z" } : Jvm.MethodName) prog_11_method_15_code (2 : Nat) (Option.some Jvm.ClassFile.FieldType.boolean)) ∈ x_Wd := x_in4 (i := 215) rfl rfl
theorem q_936 : (Cond.methodLink "CheckedMachineModel" (120 : Nat) ({ cls := "CheckedMachineModel", name := "wrongNumber", desc := "(I)Z" } : Jvm.MethodName)) ∈ x_Wd := x_in4 (i := 216) rfl rfl
theorem q_938 : (Cond.instanceMethod ({ cls := "CheckedMachineModel", name := "wrongNumber", desc := "(I)Z" } : Jvm.MethodName)) ∈ x_Wd := x_in4 (i := 218) rfl rfl
theorem q_939 : (Cond.code ({ cls := "CheckedMachineModel", name := "wrongNumber", desc := "(I)Z" } : Jvm.MethodName) prog_11_method_18_code (3 : Nat) (Option.some Jvm.ClassFile.FieldType.boolean)) ∈ x_Wd := x_in4 (i := 219) rfl rfl
theorem q_940 : (Cond.constantLong "CheckedMachineModel" (98 : Nat) (63 : Int64)) ∈ x_Wd := x_in4 (i := 220) rfl rfl
theorem q_941 : (Cond.constantLong "CheckedMachineModel" (100 : Nat) (2 : Int64)) ∈ x_Wd := x_in4 (i := 221) rfl rfl
theorem q_942 : (Cond.methodLink "CheckedMachineModel" (123 : Nat) ({ cls := "CheckedMachineModel", name := "wrongKind", desc := "(I)Z" } : Jvm.MethodName)) ∈ x_Wd := x_in4 (i := 222) rfl rfl
theorem q_944 : (Cond.instanceMethod ({ cls := "CheckedMachineModel", name := "wrongKind", desc := "(I)Z" } : Jvm.MethodName)) ∈ x_Wd := x_in4 (i := 224) rfl rfl
theorem q_945 : (Cond.code ({ cls := "CheckedMachineModel", name := "wrongKind", desc := "(I)Z" } : Jvm.MethodName) prog_11_method_19_code (5 : Nat) (Option.some Jvm.ClassFile.FieldType.boolean)) ∈ x_Wd := x_in4 (i := 225) rfl rfl
theorem q_946 : (Cond.methodLink "CheckedMachineModel" (102 : Nat) ({ cls := "CheckedMachineModel", name := "place", desc := "(I)Z" } : Jvm.MethodName)) ∈ x_Wd := x_in4 (i := 226) rfl rfl
theorem q_948 : (Cond.instanceMethod ({ cls := "CheckedMachineModel", name := "place", desc := "(I)Z" } : Jvm.MethodName)) ∈ x_Wd := x_in4 (i := 228) rfl rfl
theorem q_949 : (Cond.code ({ cls := "CheckedMachineModel", name := "place", desc := "(I)Z" } : Jvm.MethodName) prog_11_method_16_code (2 : Nat) (Option.some Jvm.ClassFile.FieldType.boolean)) ∈ x_Wd := x_in4 (i := 229) rfl rfl
theorem q_950 : (Cond.methodLink "CheckedMachineModel" (126 : Nat) ({ cls := "CheckedMachineModel", name := "wrongStore", desc := "(I)Z" } : Jvm.MethodName)) ∈ x_Wd := x_in4 (i := 230) rfl rfl
theorem q_952 : (Cond.instanceMethod ({ cls := "CheckedMachineModel", name := "wrongStore", desc := "(I)Z" } : Jvm.MethodName)) ∈ x_Wd := x_in4 (i := 232) rfl rfl
theorem q_953 : (Cond.code ({ cls := "CheckedMachineModel", name := "wrongStore", desc := "(I)Z" } : Jvm.MethodName) prog_11_method_22_code (5 : Nat) (Option.some Jvm.ClassFile.FieldType.boolean)) ∈ x_Wd := x_in4 (i := 233) rfl rfl
theorem q_954 : (Cond.methodLink "CheckedMachineModel" (129 : Nat) ({ cls := "CheckedMachineModel", name := "wrongPlace", desc := "(I)Z" } : Jvm.MethodName)) ∈ x_Wd := x_in4 (i := 234) rfl rfl
theorem q_956 : (Cond.instanceMethod ({ cls := "CheckedMachineModel", name := "wrongPlace", desc := "(I)Z" } : Jvm.MethodName)) ∈ x_Wd := x_in4 (i := 236) rfl rfl
theorem q_957 : (Cond.code ({ cls := "CheckedMachineModel", name := "wrongPlace", desc := "(I)Z" } : Jvm.MethodName) prog_11_method_20_code (9 : Nat) (Option.some Jvm.ClassFile.FieldType.boolean)) ∈ x_Wd := x_in4 (i := 237) rfl rfl
theorem q_958 : (Cond.methodLink "CheckedMachineModel" (105 : Nat) ({ cls := "CheckedMachineModel", name := "overflows", desc := "(JJ)Z" } : Jvm.MethodName)) ∈ x_Wd := x_in4 (i := 238) rfl rfl
theorem q_959 : (Cond.static ({ cls := "CheckedMachineModel", name := "overflows", desc := "(JJ)Z" } : Jvm.MethodName)) ∈ x_Wd := x_in4 (i := 239) rfl rfl
theorem q_960 : (Cond.code ({ cls := "CheckedMachineModel", name := "overflows", desc := "(JJ)Z" } : Jvm.MethodName) prog_11_method_13_code (6 : Nat) (Option.some Jvm.ClassFile.FieldType.boolean)) ∈ x_Wd := x_in5 (i := 0) rfl rfl
theorem q_961 : (Cond.constantLong "CheckedMachineModel" (109 : Nat) (-100 : Int64)) ∈ x_Wd := x_in5 (i := 1) rfl rfl
theorem q_962 : (Cond.constantLong "CheckedMachineModel" (111 : Nat) (100 : Int64)) ∈ x_Wd := x_in5 (i := 2) rfl rfl
theorem q_963 : (Cond.methodLink "CheckedMachineModel" (132 : Nat) ({ cls := "CheckedMachineModel", name := "wrongCells", desc := "(I)Z" } : Jvm.MethodName)) ∈ x_Wd := x_in5 (i := 3) rfl rfl
theorem q_965 : (Cond.instanceMethod ({ cls := "CheckedMachineModel", name := "wrongCells", desc := "(I)Z" } : Jvm.MethodName)) ∈ x_Wd := x_in5 (i := 5) rfl rfl
theorem q_966 : (Cond.code ({ cls := "CheckedMachineModel", name := "wrongCells", desc := "(I)Z" } : Jvm.MethodName) prog_11_method_21_code (6 : Nat) (Option.some Jvm.ClassFile.FieldType.boolean)) ∈ x_Wd := x_in5 (i := 6) rfl rfl
theorem q_967 : (Cond.constantLong "CheckedMachineModel" (135 : Nat) (7 : Int64)) ∈ x_Wd := x_in5 (i := 7) rfl rfl
theorem q_968 : (Cond.methodLink "CheckedMachineModel" (221 : Nat) ({ cls := "CheckedMachineModel", name := "goOn", desc := "(I)Z" } : Jvm.MethodName)) ∈ x_Wd := x_in5 (i := 8) rfl rfl
theorem q_970 : (Cond.instanceMethod ({ cls := "CheckedMachineModel", name := "goOn", desc := "(I)Z" } : Jvm.MethodName)) ∈ x_Wd := x_in5 (i := 10) rfl rfl
theorem q_971 : (Cond.code ({ cls := "CheckedMachineModel", name := "goOn", desc := "(I)Z" } : Jvm.MethodName) prog_11_method_36_code (4 : Nat) (Option.some Jvm.ClassFile.FieldType.boolean)) ∈ x_Wd := x_in5 (i := 11) rfl rfl
theorem q_972 : (Cond.methodLink "CheckedMachineModel" (161 : Nat) ({ cls := "CheckedMachineModel", name := "copy", desc := "(II)V" } : Jvm.MethodName)) ∈ x_Wd := x_in5 (i := 12) rfl rfl
theorem q_974 : (Cond.instanceMethod ({ cls := "CheckedMachineModel", name := "copy", desc := "(II)V" } : Jvm.MethodName)) ∈ x_Wd := x_in5 (i := 14) rfl rfl
theorem q_975 : (Cond.code ({ cls := "CheckedMachineModel", name := "copy", desc := "(II)V" } : Jvm.MethodName) prog_11_method_11_code (3 : Nat) (Option.none : Option Jvm.ClassFile.FieldType)) ∈ x_Wd := x_in5 (i := 15) rfl rfl
theorem q_976 : (Cond.methodLink "CheckedMachineModel" (183 : Nat) ({ cls := "CheckedMachineModel", name := "move", desc := "(IJJ)V" } : Jvm.MethodName)) ∈ x_Wd := x_in5 (i := 16) rfl rfl
theorem q_978 : (Cond.instanceMethod ({ cls := "CheckedMachineModel", name := "move", desc := "(IJJ)V" } : Jvm.MethodName)) ∈ x_Wd := x_in5 (i := 18) rfl rfl
theorem q_979 : (Cond.code ({ cls := "CheckedMachineModel", name := "move", desc := "(IJJ)V" } : Jvm.MethodName) prog_11_method_26_code (6 : Nat) (Option.none : Option Jvm.ClassFile.FieldType)) ∈ x_Wd := x_in5 (i := 19) rfl rfl
theorem q_980 : (Cond.methodLink "CheckedMachineModel" (186 : Nat) ({ cls := "CheckedMachineModel", name := "subtract", desc := "(II)V" } : Jvm.MethodName)) ∈ x_Wd := x_in5 (i := 20) rfl rfl
theorem q_982 : (Cond.instanceMethod ({ cls := "CheckedMachineModel", name := "subtract", desc := "(II)V" } : Jvm.MethodName)) ∈ x_Wd := x_in5 (i := 22) rfl rfl
theorem q_983 : (Cond.code ({ cls := "CheckedMachineModel", name := "subtract", desc := "(II)V" } : Jvm.MethodName) prog_11_method_28_code (7 : Nat) (Option.none : Option Jvm.ClassFile.FieldType)) ∈ x_Wd := x_in5 (i := 23) rfl rfl
theorem q_984 : (Cond.methodLink "CheckedMachineModel" (189 : Nat) ({ cls := "CheckedMachineModel", name := "arithmetic", desc := "(IIJ)V" } : Jvm.MethodName)) ∈ x_Wd := x_in5 (i := 24) rfl rfl
theorem q_986 : (Cond.instanceMethod ({ cls := "CheckedMachineModel", name := "arithmetic", desc := "(IIJ)V" } : Jvm.MethodName)) ∈ x_Wd := x_in5 (i := 26) rfl rfl
theorem q_987 : (Cond.code ({ cls := "CheckedMachineModel", name := "arithmetic", desc := "(IIJ)V" } : Jvm.MethodName) prog_11_method_30_code (9 : Nat) (Option.none : Option Jvm.ClassFile.FieldType)) ∈ x_Wd := x_in5 (i := 27) rfl rfl
theorem q_988 : (Cond.constantLong "CheckedMachineModel" (147 : Nat) (-2147483648 : Int64)) ∈ x_Wd := x_in5 (i := 28) rfl rfl
theorem q_989 : (Cond.constantLong "CheckedMachineModel" (149 : Nat) (2147483648 : Int64)) ∈ x_Wd := x_in5 (i := 29) rfl rfl
theorem q_990 : (Cond.methodLink "CheckedMachineModel" (151 : Nat) ({ cls := "CheckedMachineModel", name := "spread", desc := "(IJJ)V" } : Jvm.MethodName)) ∈ x_Wd := x_in5 (i := 30) rfl rfl
theorem q_992 : (Cond.instanceMethod ({ cls := "CheckedMachineModel", name := "spread", desc := "(IJJ)V" } : Jvm.MethodName)) ∈ x_Wd := x_in5 (i := 32) rfl rfl
theorem q_993 : (Cond.code ({ cls := "CheckedMachineModel", name := "spread", desc := "(IJJ)V" } : Jvm.MethodName) prog_11_method_27_code (6 : Nat) (Option.none : Option Jvm.ClassFile.FieldType)) ∈ x_Wd := x_in5 (i := 33) rfl rfl
theorem q_994 : (Cond.methodLink "CheckedMachineModel" (155 : Nat) ({ cls := "CheckedMachineModel", name := "and", desc := "(IJ)V" } : Jvm.MethodName)) ∈ x_Wd := x_in5 (i := 34) rfl rfl
theorem q_996 : (Cond.instanceMethod ({ cls := "CheckedMachineModel", name := "and", desc := "(IJ)V" } : Jvm.MethodName)) ∈ x_Wd := x_in5 (i := 36) rfl rfl
theorem q_997 : (Cond.code ({ cls := "CheckedMachineModel", name := "and", desc := "(IJ)V" } : Jvm.MethodName) prog_11_method_29_code (4 : Nat) (Option.none : Option Jvm.ClassFile.FieldType)) ∈ x_Wd := x_in5 (i := 37) rfl rfl
theorem q_998 : (Cond.constantLong "CheckedMachineModel" (159 : Nat) (-1 : Int64)) ∈ x_Wd := x_in5 (i := 38) rfl rfl
theorem q_999 : (Cond.methodLink "CheckedMachineModel" (193 : Nat) ({ cls := "CheckedMachineModel", name := "branch", desc := "(I)V" } : Jvm.MethodName)) ∈ x_Wd := x_in5 (i := 39) rfl rfl
theorem q_1001 : (Cond.instanceMethod ({ cls := "CheckedMachineModel", name := "branch", desc := "(I)V" } : Jvm.MethodName)) ∈ x_Wd := x_in5 (i := 41) rfl rfl
theorem q_1002 : (Cond.code ({ cls := "CheckedMachineModel", name := "branch", desc := "(I)V" } : Jvm.MethodName) prog_11_method_34_code (18 : Nat) (Option.none : Option Jvm.ClassFile.FieldType)) ∈ x_Wd := x_in5 (i := 42) rfl rfl
theorem q_1003 : (Cond.methodLink "CheckedMachineModel" (167 : Nat) ({ cls := "CheckedMachineModel", name := "push", desc := "(I)V" } : Jvm.MethodName)) ∈ x_Wd := x_in5 (i := 43) rfl rfl
theorem q_1005 : (Cond.instanceMethod ({ cls := "CheckedMachineModel", name := "push", desc := "(I)V" } : Jvm.MethodName)) ∈ x_Wd := x_in5 (i := 45) rfl rfl
theorem q_1006 : (Cond.code ({ cls := "CheckedMachineModel", name := "push", desc := "(I)V" } : Jvm.MethodName) prog_11_method_24_code (3 : Nat) (Option.none : Option Jvm.ClassFile.FieldType)) ∈ x_Wd := x_in5 (i := 46) rfl rfl
theorem q_1007 : (Cond.methodLink "CheckedMachineModel" (170 : Nat) ({ cls := "CheckedMachineModel", name := "pop", desc := "()V" } : Jvm.MethodName)) ∈ x_Wd := x_in5 (i := 47) rfl rfl
theorem q_1009 : (Cond.instanceMethod ({ cls := "CheckedMachineModel", name := "pop", desc := "()V" } : Jvm.MethodName)) ∈ x_Wd := x_in5 (i := 49) rfl rfl
theorem q_1010 : (Cond.code ({ cls := "CheckedMachineModel", name := "pop", desc := "()V" } : Jvm.MethodName) prog_11_method_25_code (2 : Nat) (Option.none : Option Jvm.ClassFile.FieldType)) ∈ x_Wd := x_in5 (i := 50) rfl rfl
theorem q_1011 : (Cond.methodLink "CheckedMachineModel" (196 : Nat) ({ cls := "CheckedMachineModel", name := "load", desc := "(I)V" } : Jvm.MethodName)) ∈ x_Wd := x_in5 (i := 51) rfl rfl
theorem q_1013 : (Cond.instanceMethod ({ cls := "CheckedMachineModel", name := "load", desc := "(I)V" } : Jvm.MethodName)) ∈ x_Wd := x_in5 (i := 53) rfl rfl
theorem q_1014 : (Cond.code ({ cls := "CheckedMachineModel", name := "load", desc := "(I)V" } : Jvm.MethodName) prog_11_method_31_code (11 : Nat) (Option.none : Option Jvm.ClassFile.FieldType)) ∈ x_Wd := x_in5 (i := 54) rfl rfl
theorem q_1015 : (Cond.methodLink "CheckedMachineModel" (199 : Nat) ({ cls := "CheckedMachineModel", name := "store", desc := "(I)V" } : Jvm.MethodName)) ∈ x_Wd := x_in5 (i := 55) rfl rfl
theorem q_1017 : (Cond.instanceMethod ({ cls := "CheckedMachineModel", name := "store", desc := "(I)V" } : Jvm.MethodName)) ∈ x_Wd := x_in5 (i := 57) rfl rfl
theorem q_1018 : (Cond.code ({ cls := "CheckedMachineModel", name := "store", desc := "(I)V" } : Jvm.MethodName) prog_11_method_32_code (7 : Nat) (Option.none : Option Jvm.ClassFile.FieldType)) ∈ x_Wd := x_in5 (i := 58) rfl rfl
theorem q_1019 : (Cond.methodLink "CheckedMachineModel" (202 : Nat) ({ cls := "CheckedMachineModel", name := "callGuess", desc := "(I)V" } : Jvm.MethodName)) ∈ x_Wd := x_in5 (i := 59) rfl rfl
theorem q_1021 : (Cond.instanceMethod ({ cls := "CheckedMachineModel", name := "callGuess", desc := "(I)V" } : Jvm.MethodName)) ∈ x_Wd := x_in5 (i := 61) rfl rfl
theorem q_1022 : (Cond.code ({ cls := "CheckedMachineModel", name := "callGuess", desc := "(I)V" } : Jvm.MethodName) prog_11_method_33_code (3 : Nat) (Option.none : Option Jvm.ClassFile.FieldType)) ∈ x_Wd := x_in5 (i := 62) rfl rfl
theorem q_1023 : (Cond.constantLong "CheckedMachineModel" (165 : Nat) (99 : Int64)) ∈ x_Wd := x_in5 (i := 63) rfl rfl
theorem q_1024 : (Cond.methodLink "CheckedMachineModel" (205 : Nat) ({ cls := "CheckedMachineModel", name := "leave", desc := "()V" } : Jvm.MethodName)) ∈ x_Wd := x_in5 (i := 64) rfl rfl
theorem q_1026 : (Cond.instanceMethod ({ cls := "CheckedMachineModel", name := "leave", desc := "()V" } : Jvm.MethodName)) ∈ x_Wd := x_in5 (i := 66) rfl rfl
theorem q_1027 : (Cond.code ({ cls := "CheckedMachineModel", name := "leave", desc := "()V" } : Jvm.MethodName) prog_11_method_35_code (1 : Nat) (Option.none : Option Jvm.ClassFile.FieldType)) ∈ x_Wd := x_in5 (i := 67) rfl rfl
theorem q_1028 : (Cond.methodLink "CheckedMachineLaw" (79 : Nat) ({ cls := "CheckedMachineModel", name := "run", desc := "(J)J" } : Jvm.MethodName)) ∈ x_Wd := x_in5 (i := 68) rfl rfl
theorem q_1029 : (Cond.instanceMethod ({ cls := "CheckedMachineModel", name := "run", desc := "(J)J" } : Jvm.MethodName)) ∈ x_Wd := x_in5 (i := 69) rfl rfl
theorem q_1030 : (Cond.selects "CheckedMachineModel" ({ cls := "CheckedMachineModel", name := "run", desc := "(J)J" } : Jvm.MethodName) ({ cls := "CheckedMachineModel", name := "run", desc := "(J)J" } : Jvm.MethodName)) ∈ x_Wd := x_in5 (i := 70) rfl rfl
theorem q_1031 : (Cond.code ({ cls := "CheckedMachineModel", name := "run", desc := "(J)J" } : Jvm.MethodName) prog_11_method_42_code (6 : Nat) (Option.some Jvm.ClassFile.FieldType.long)) ∈ x_Wd := x_in5 (i := 71) rfl rfl
theorem q_1032 : (Cond.methodLink "CheckedMachineModel" (232 : Nat) ({ cls := "CheckedMachineModel", name := "compute", desc := "(I)V" } : Jvm.MethodName)) ∈ x_Wd := x_in5 (i := 72) rfl rfl
theorem q_1034 : (Cond.instanceMethod ({ cls := "CheckedMachineModel", name := "compute", desc := "(I)V" } : Jvm.MethodName)) ∈ x_Wd := x_in5 (i := 74) rfl rfl
theorem q_1035 : (Cond.code ({ cls := "CheckedMachineModel", name := "compute", desc := "(I)V" } : Jvm.MethodName) prog_11_method_39_code (6 : Nat) (Option.none : Option Jvm.ClassFile.FieldType)) ∈ x_Wd := x_in5 (i := 75) rfl rfl
theorem q_1036 : (Cond.methodLink "CheckedMachineModel" (235 : Nat) ({ cls := "CheckedMachineModel", name := "above", desc := "(I)Z" } : Jvm.MethodName)) ∈ x_Wd := x_in5 (i := 76) rfl rfl
theorem q_1038 : (Cond.instanceMethod ({ cls := "CheckedMachineModel", name := "above", desc := "(I)Z" } : Jvm.MethodName)) ∈ x_Wd := x_in5 (i := 78) rfl rfl
theorem q_1039 : (Cond.code ({ cls := "CheckedMachineModel", name := "above", desc := "(I)Z" } : Jvm.MethodName) prog_11_method_38_code (5 : Nat) (Option.some Jvm.ClassFile.FieldType.boolean)) ∈ x_Wd := x_in5 (i := 79) rfl rfl
theorem q_1040 : (Cond.methodLink "CheckedMachineModel" (238 : Nat) ({ cls := "CheckedMachineModel", name := "transfer", desc := "(IZ)V" } : Jvm.MethodName)) ∈ x_Wd := x_in5 (i := 80) rfl rfl
theorem q_1042 : (Cond.instanceMethod ({ cls := "CheckedMachineModel", name := "transfer", desc := "(IZ)V" } : Jvm.MethodName)) ∈ x_Wd := x_in5 (i := 82) rfl rfl
theorem q_1043 : (Cond.code ({ cls := "CheckedMachineModel", name := "transfer", desc := "(IZ)V" } : Jvm.MethodName) prog_11_method_40_code (6 : Nat) (Option.none : Option Jvm.ClassFile.FieldType)) ∈ x_Wd := x_in5 (i := 83) rfl rfl
theorem q_1044 : (Cond.methodLink "CheckedMachineModel" (242 : Nat) ({ cls := "CheckedMachineModel", name := "callNow", desc := "(I)V" } : Jvm.MethodName)) ∈ x_Wd := x_in5 (i := 84) rfl rfl
theorem q_1046 : (Cond.instanceMethod ({ cls := "CheckedMachineModel", name := "callNow", desc := "(I)V" } : Jvm.MethodName)) ∈ x_Wd := x_in5 (i := 86) rfl rfl
theorem q_1047 : (Cond.code ({ cls := "CheckedMachineModel", name := "callNow", desc := "(I)V" } : Jvm.MethodName) prog_11_method_41_code (7 : Nat) (Option.none : Option Jvm.ClassFile.FieldType)) ∈ x_Wd := x_in5 (i := 87) rfl rfl
theorem q_1048 : (Cond.constantLong "CheckedMachineModel" (227 : Nat) (6 : Int64)) ∈ x_Wd := x_in5 (i := 88) rfl rfl
theorem q_1049 : (Cond.methodLink "CheckedMachineLaw" (83 : Nat) ({ cls := "CheckedMachineModel", name := "row", desc := "(II)J" } : Jvm.MethodName)) ∈ x_Wd := x_in5 (i := 89) rfl rfl
theorem q_1050 : (Cond.instanceMethod ({ cls := "CheckedMachineModel", name := "row", desc := "(II)J" } : Jvm.MethodName)) ∈ x_Wd := x_in5 (i := 90) rfl rfl
theorem q_1051 : (Cond.selects "CheckedMachineModel" ({ cls := "CheckedMachineModel", name := "row", desc := "(II)J" } : Jvm.MethodName) ({ cls := "CheckedMachineModel", name := "row", desc := "(II)J" } : Jvm.MethodName)) ∈ x_Wd := x_in5 (i := 91) rfl rfl
theorem q_1052 : (Cond.code ({ cls := "CheckedMachineModel", name := "row", desc := "(II)J" } : Jvm.MethodName) prog_11_method_43_code (3 : Nat) (Option.some Jvm.ClassFile.FieldType.long)) ∈ x_Wd := x_in5 (i := 92) rfl rfl
theorem q_1053 : (Cond.methodLink "CheckedMachineLaw" (87 : Nat) ({ cls := "CheckedMachineModel", name := "fill", desc := "(IIJ)V" } : Jvm.MethodName)) ∈ x_Wd := x_in5 (i := 93) rfl rfl
theorem q_1054 : (Cond.instanceMethod ({ cls := "CheckedMachineModel", name := "fill", desc := "(IIJ)V" } : Jvm.MethodName)) ∈ x_Wd := x_in5 (i := 94) rfl rfl
theorem q_1055 : (Cond.selects "CheckedMachineModel" ({ cls := "CheckedMachineModel", name := "fill", desc := "(IIJ)V" } : Jvm.MethodName) ({ cls := "CheckedMachineModel", name := "fill", desc := "(IIJ)V" } : Jvm.MethodName)) ∈ x_Wd := x_in5 (i := 95) rfl rfl
theorem q_1056 : (Cond.code ({ cls := "CheckedMachineModel", name := "fill", desc := "(IIJ)V" } : Jvm.MethodName) prog_11_method_44_code (5 : Nat) (Option.none : Option Jvm.ClassFile.FieldType)) ∈ x_Wd := x_in5 (i := 96) rfl rfl
theorem q_1057 : (Cond.methodLink "CheckedMachineLaw" (91 : Nat) ({ cls := "CheckedMachineModel", name := "outcome", desc := "(Z)J" } : Jvm.MethodName)) ∈ x_Wd := x_in5 (i := 97) rfl rfl
theorem q_1058 : (Cond.instanceMethod ({ cls := "CheckedMachineModel", name := "outcome", desc := "(Z)J" } : Jvm.MethodName)) ∈ x_Wd := x_in5 (i := 98) rfl rfl
theorem q_1059 : (Cond.selects "CheckedMachineModel" ({ cls := "CheckedMachineModel", name := "outcome", desc := "(Z)J" } : Jvm.MethodName) ({ cls := "CheckedMachineModel", name := "outcome", desc := "(Z)J" } : Jvm.MethodName)) ∈ x_Wd := x_in5 (i := 99) rfl rfl
theorem q_1060 : (Cond.code ({ cls := "CheckedMachineModel", name := "outcome", desc := "(Z)J" } : Jvm.MethodName) prog_11_method_45_code (2 : Nat) (Option.some Jvm.ClassFile.FieldType.long)) ∈ x_Wd := x_in5 (i := 100) rfl rfl
theorem q_1061 : (Cond.methodLink "CheckedMachineLaw" (96 : Nat) ({ cls := "CheckedMachineModel", name := "count", desc := "(I)I" } : Jvm.MethodName)) ∈ x_Wd := x_in5 (i := 101) rfl rfl
theorem q_1062 : (Cond.instanceMethod ({ cls := "CheckedMachineModel", name := "count", desc := "(I)I" } : Jvm.MethodName)) ∈ x_Wd := x_in5 (i := 102) rfl rfl
theorem q_1063 : (Cond.selects "CheckedMachineModel" ({ cls := "CheckedMachineModel", name := "count", desc := "(I)I" } : Jvm.MethodName) ({ cls := "CheckedMachineModel", name := "count", desc := "(I)I" } : Jvm.MethodName)) ∈ x_Wd := x_in5 (i := 103) rfl rfl
theorem q_1064 : (Cond.code ({ cls := "CheckedMachineModel", name := "count", desc := "(I)I" } : Jvm.MethodName) prog_11_method_46_code (2 : Nat) (Option.some Jvm.ClassFile.FieldType.int)) ∈ x_Wd := x_in5 (i := 104) rfl rfl
theorem q_1065 : (Cond.constantLong "CheckedMachineLaw" (74 : Nat) (4294967295 : Int64)) ∈ x_Wd := x_in5 (i := 105) rfl rfl
theorem q_1066 : (Cond.sameMethod "java/lang/Throwable" "java/lang/Throwable" "fillInStackTrace" "(I)Ljava/lang/Throwable;") ∈ x_Wd := x_in5 (i := 106) rfl rfl
theorem q_s0 : Cond.selects "java/lang/Throwable" ⟨"java/lang/Throwable", "fillInStackTrace", "(I)Ljava/lang/Throwable;"⟩ ⟨"java/lang/Throwable", "fillInStackTrace", "(I)Ljava/lang/Throwable;"⟩ ∈ x_Wd := x_inS (i := 0) rfl rfl
theorem q_s1 : Cond.selects "CheckedMachine$Checker" ⟨"CheckedMachine$Checker", "begin", "()V"⟩ ⟨"CheckedMachine$Checker", "begin", "()V"⟩ ∈ x_Wd := x_inS (i := 1) rfl rfl
theorem q_s2 : Cond.selects "CheckedMachine$Checker" ⟨"CheckedMachine$Checker", "lookAt", "(I)I"⟩ ⟨"CheckedMachine$Checker", "lookAt", "(I)I"⟩ ∈ x_Wd := x_inS (i := 2) rfl rfl
theorem q_s3 : Cond.selects "CheckedMachine$Judge" ⟨"CheckedMachine$Judge", "lacksTarget", "(LCheckedMachine$Step;I)Z"⟩ ⟨"CheckedMachine$Judge", "lacksTarget", "(LCheckedMachine$Step;I)Z"⟩ ∈ x_Wd := x_inS (i := 3) rfl rfl
theorem q_s4 : Cond.selects "CheckedMachine$Judge" ⟨"CheckedMachine$Judge", "usesEmpty", "(LCheckedMachine$Step;)Z"⟩ ⟨"CheckedMachine$Judge", "usesEmpty", "(LCheckedMachine$Step;)Z"⟩ ∈ x_Wd := x_inS (i := 4) rfl rfl
theorem q_s5 : Cond.selects "CheckedMachine$Judge" ⟨"CheckedMachine$Judge", "hasWrongKind", "(LCheckedMachine$Step;)Z"⟩ ⟨"CheckedMachine$Judge", "hasWrongKind", "(LCheckedMachine$Step;)Z"⟩ ∈ x_Wd := x_inS (i := 5) rfl rfl
theorem q_s6 : Cond.selects "CheckedMachine$Judge" ⟨"CheckedMachine$Judge", "isRangeOrPlace", "(I)Z"⟩ ⟨"CheckedMachine$Judge", "isRangeOrPlace", "(I)Z"⟩ ∈ x_Wd := x_inS (i := 6) rfl rfl
theorem q_s7 : Cond.selects "CheckedMachine$Judge" ⟨"CheckedMachine$Judge", "isMaybeMissing", "(LCheckedMachine$Step;)Z"⟩ ⟨"CheckedMachine$Judge", "isMaybeMissing", "(LCheckedMachine$Step;)Z"⟩ ∈ x_Wd := x_inS (i := 7) rfl rfl
theorem q_s8 : Cond.selects "CheckedMachine$Judge" ⟨"CheckedMachine$Judge", "storesWrongKind", "(LCheckedMachine$Step;)Z"⟩ ⟨"CheckedMachine$Judge", "storesWrongKind", "(LCheckedMachine$Step;)Z"⟩ ∈ x_Wd := x_inS (i := 8) rfl rfl
theorem q_s9 : Cond.selects "CheckedMachine$Judge" ⟨"CheckedMachine$Judge", "isOneCellOfFrame", "(I)Z"⟩ ⟨"CheckedMachine$Judge", "isOneCellOfFrame", "(I)Z"⟩ ∈ x_Wd := x_inS (i := 9) rfl rfl
theorem q_s10 : Cond.selects "CheckedMachine$Judge" ⟨"CheckedMachine$Judge", "callsWithWrongKind", "(LCheckedMachine$Step;)Z"⟩ ⟨"CheckedMachine$Judge", "callsWithWrongKind", "(LCheckedMachine$Step;)Z"⟩ ∈ x_Wd := x_inS (i := 10) rfl rfl
theorem q_s11 : Cond.selects "CheckedMachine$Judge" ⟨"CheckedMachine$Judge", "storesOverNoRange", "(LCheckedMachine$Step;)Z"⟩ ⟨"CheckedMachine$Judge", "storesOverNoRange", "(LCheckedMachine$Step;)Z"⟩ ∈ x_Wd := x_inS (i := 11) rfl rfl
theorem q_s12 : Cond.selects "CheckedMachine$Judge" ⟨"CheckedMachine$Judge", "goesOutside", "(LCheckedMachine$Step;)Z"⟩ ⟨"CheckedMachine$Judge", "goesOutside", "(LCheckedMachine$Step;)Z"⟩ ∈ x_Wd := x_inS (i := 12) rfl rfl
theorem q_s13 : Cond.selects "CheckedMachine$Judge" ⟨"CheckedMachine$Judge", "movesTooFar", "(IJJ)Z"⟩ ⟨"CheckedMachine$Judge", "movesTooFar", "(IJJ)Z"⟩ ∈ x_Wd := x_inS (i := 13) rfl rfl
theorem q_s14 : Cond.selects "CheckedMachine$Judge" ⟨"CheckedMachine$Judge", "missesCells", "(IJ)Z"⟩ ⟨"CheckedMachine$Judge", "missesCells", "(IJ)Z"⟩ ∈ x_Wd := x_inS (i := 14) rfl rfl
theorem q_s15 : Cond.selects "CheckedMachine$Judge" ⟨"CheckedMachine$Judge", "loadsUnfitCell", "(LCheckedMachine$Step;)Z"⟩ ⟨"CheckedMachine$Judge", "loadsUnfitCell", "(LCheckedMachine$Step;)Z"⟩ ∈ x_Wd := x_inS (i := 15) rfl rfl
theorem q_s16 : Cond.selects "CheckedMachine$Judge" ⟨"CheckedMachine$Judge", "findsNoRow", "(LCheckedMachine$Step;)Z"⟩ ⟨"CheckedMachine$Judge", "findsNoRow", "(LCheckedMachine$Step;)Z"⟩ ∈ x_Wd := x_inS (i := 16) rfl rfl
theorem q_s17 : Cond.selects "CheckedMachine$Checker" ⟨"CheckedMachine$Checker", "reject", "(II)V"⟩ ⟨"CheckedMachine$Checker", "reject", "(II)V"⟩ ∈ x_Wd := x_inS (i := 17) rfl rfl
theorem q_s18 : Cond.selects "CheckedMachine$Checker" ⟨"CheckedMachine$Checker", "growOutcomes", "(JJ)V"⟩ ⟨"CheckedMachine$Checker", "growOutcomes", "(JJ)V"⟩ ∈ x_Wd := x_inS (i := 18) rfl rfl
theorem q_s19 : Cond.selects "CheckedMachine$Checker" ⟨"CheckedMachine$Checker", "takeUpLatest", "()I"⟩ ⟨"CheckedMachine$Checker", "takeUpLatest", "()I"⟩ ∈ x_Wd := x_inS (i := 19) rfl rfl
theorem q_s20 : Cond.selects "CheckedMachine$Checker" ⟨"CheckedMachine$Checker", "fork", "(LCheckedMachine$Step;I)I"⟩ ⟨"CheckedMachine$Checker", "fork", "(LCheckedMachine$Step;I)I"⟩ ∈ x_Wd := x_inS (i := 20) rfl rfl
theorem q_s21 : Cond.selects "CheckedMachine$Effects" ⟨"CheckedMachine$Effects", "move", "(IJJ)V"⟩ ⟨"CheckedMachine$Effects", "move", "(IJJ)V"⟩ ∈ x_Wd := x_inS (i := 21) rfl rfl
theorem q_s22 : Cond.selects "CheckedMachine$Effects" ⟨"CheckedMachine$Effects", "subtract", "(IJJ)V"⟩ ⟨"CheckedMachine$Effects", "subtract", "(IJJ)V"⟩ ∈ x_Wd := x_inS (i := 22) rfl rfl
theorem q_s23 : Cond.selects "CheckedMachine$Effects" ⟨"CheckedMachine$Effects", "multiply", "(IJ)V"⟩ ⟨"CheckedMachine$Effects", "multiply", "(IJ)V"⟩ ∈ x_Wd := x_inS (i := 23) rfl rfl
theorem q_s24 : Cond.selects "CheckedMachine$Effects" ⟨"CheckedMachine$Effects", "mask", "(IJ)V"⟩ ⟨"CheckedMachine$Effects", "mask", "(IJ)V"⟩ ∈ x_Wd := x_inS (i := 24) rfl rfl
theorem q_s25 : Cond.selects "CheckedMachine$Effects" ⟨"CheckedMachine$Effects", "divide", "(IJ)V"⟩ ⟨"CheckedMachine$Effects", "divide", "(IJ)V"⟩ ∈ x_Wd := x_inS (i := 25) rfl rfl
theorem q_s26 : Cond.selects "CheckedMachine$Effects" ⟨"CheckedMachine$Effects", "negate", "(I)V"⟩ ⟨"CheckedMachine$Effects", "negate", "(I)V"⟩ ∈ x_Wd := x_inS (i := 26) rfl rfl
theorem q_s27 : Cond.selects "CheckedMachine$Effects" ⟨"CheckedMachine$Effects", "load", "(LCheckedMachine$Step;)V"⟩ ⟨"CheckedMachine$Effects", "load", "(LCheckedMachine$Step;)V"⟩ ∈ x_Wd := x_inS (i := 27) rfl rfl
theorem q_s28 : Cond.selects "CheckedMachine$Effects" ⟨"CheckedMachine$Effects", "store", "(LCheckedMachine$Step;)V"⟩ ⟨"CheckedMachine$Effects", "store", "(LCheckedMachine$Step;)V"⟩ ∈ x_Wd := x_inS (i := 28) rfl rfl
theorem q_s29 : Cond.selects "CheckedMachine$Effects" ⟨"CheckedMachine$Effects", "call", "(I)V"⟩ ⟨"CheckedMachine$Effects", "call", "(I)V"⟩ ∈ x_Wd := x_inS (i := 29) rfl rfl
theorem q_s30 : Cond.selects "CheckedMachine$Runner" ⟨"CheckedMachine$Runner", "set", "(IIJ)V"⟩ ⟨"CheckedMachine$Runner", "set", "(IIJ)V"⟩ ∈ x_Wd := x_inS (i := 30) rfl rfl
theorem q_s31 : Cond.selects "CheckedMachine$Runner" ⟨"CheckedMachine$Runner", "runStep", "(I)I"⟩ ⟨"CheckedMachine$Runner", "runStep", "(I)I"⟩ ∈ x_Wd := x_inS (i := 31) rfl rfl
theorem q_s32 : Cond.selects "CheckedMachine$Runner" ⟨"CheckedMachine$Runner", "jumps", "(LCheckedMachine$Step;)Z"⟩ ⟨"CheckedMachine$Runner", "jumps", "(LCheckedMachine$Step;)Z"⟩ ∈ x_Wd := x_inS (i := 32) rfl rfl
theorem q_s33 : Cond.selects "CheckedMachine$Runner" ⟨"CheckedMachine$Runner", "reachOut", "(LCheckedMachine$Step;)V"⟩ ⟨"CheckedMachine$Runner", "reachOut", "(LCheckedMachine$Step;)V"⟩ ∈ x_Wd := x_inS (i := 33) rfl rfl
theorem q_s34 : Cond.selects "CheckedMachine$Runner" ⟨"CheckedMachine$Runner", "load", "(IIJ)V"⟩ ⟨"CheckedMachine$Runner", "load", "(IIJ)V"⟩ ∈ x_Wd := x_inS (i := 34) rfl rfl
theorem q_s35 : Cond.selects "CheckedMachine$Runner" ⟨"CheckedMachine$Runner", "store", "(IIJ)V"⟩ ⟨"CheckedMachine$Runner", "store", "(IIJ)V"⟩ ∈ x_Wd := x_inS (i := 35) rfl rfl
theorem q_s36 : Cond.selects "CheckedMachine$Runner" ⟨"CheckedMachine$Runner", "call", "(I)V"⟩ ⟨"CheckedMachine$Runner", "call", "(I)V"⟩ ∈ x_Wd := x_inS (i := 36) rfl rfl
theorem q_s37 : Cond.selects "CheckedMachine$Runner" ⟨"CheckedMachine$Runner", "findRow", "(J)V"⟩ ⟨"CheckedMachine$Runner", "findRow", "(J)V"⟩ ∈ x_Wd := x_inS (i := 37) rfl rfl
theorem q_s38 : Cond.selects "CheckedMachine$Runner" ⟨"CheckedMachine$Runner", "reckon", "(LCheckedMachine$Step;)V"⟩ ⟨"CheckedMachine$Runner", "reckon", "(LCheckedMachine$Step;)V"⟩ ∈ x_Wd := x_inS (i := 38) rfl rfl
theorem q_s39 : Cond.selects "CheckedMachineModel" ⟨"CheckedMachineModel", "fits", "(IIII)Z"⟩ ⟨"CheckedMachineModel", "fits", "(IIII)Z"⟩ ∈ x_Wd := x_inS (i := 39) rfl rfl
theorem q_s40 : Cond.selects "CheckedMachineModel" ⟨"CheckedMachineModel", "bad", "(Z)Z"⟩ ⟨"CheckedMachineModel", "bad", "(Z)Z"⟩ ∈ x_Wd := x_inS (i := 40) rfl rfl
theorem q_s41 : Cond.selects "CheckedMachineModel" ⟨"CheckedMachineModel", "set", "(IIIIII)V"⟩ ⟨"CheckedMachineModel", "set", "(IIIIII)V"⟩ ∈ x_Wd := x_inS (i := 41) rfl rfl
theorem q_s42 : Cond.selects "CheckedMachineModel" ⟨"CheckedMachineModel", "know", "(IIJJ)V"⟩ ⟨"CheckedMachineModel", "know", "(IIJJ)V"⟩ ∈ x_Wd := x_inS (i := 42) rfl rfl
theorem q_s43 : Cond.selects "CheckedMachineModel" ⟨"CheckedMachineModel", "anything", "(I)V"⟩ ⟨"CheckedMachineModel", "anything", "(I)V"⟩ ∈ x_Wd := x_inS (i := 43) rfl rfl
theorem q_s44 : Cond.selects "CheckedMachineModel" ⟨"CheckedMachineModel", "reasonAt", "(I)I"⟩ ⟨"CheckedMachineModel", "reasonAt", "(I)I"⟩ ∈ x_Wd := x_inS (i := 44) rfl rfl
theorem q_s45 : Cond.selects "CheckedMachineModel" ⟨"CheckedMachineModel", "empties", "(I)Z"⟩ ⟨"CheckedMachineModel", "empties", "(I)Z"⟩ ∈ x_Wd := x_inS (i := 45) rfl rfl
theorem q_s46 : Cond.selects "CheckedMachineModel" ⟨"CheckedMachineModel", "usesD", "(I)Z"⟩ ⟨"CheckedMachineModel", "usesD", "(I)Z"⟩ ∈ x_Wd := x_inS (i := 46) rfl rfl
theorem q_s47 : Cond.selects "CheckedMachineModel" ⟨"CheckedMachineModel", "usesS", "(I)Z"⟩ ⟨"CheckedMachineModel", "usesS", "(I)Z"⟩ ∈ x_Wd := x_inS (i := 47) rfl rfl
theorem q_s48 : Cond.selects "CheckedMachineModel" ⟨"CheckedMachineModel", "wrongNumber", "(I)Z"⟩ ⟨"CheckedMachineModel", "wrongNumber", "(I)Z"⟩ ∈ x_Wd := x_inS (i := 48) rfl rfl
theorem q_s49 : Cond.selects "CheckedMachineModel" ⟨"CheckedMachineModel", "wrongKind", "(I)Z"⟩ ⟨"CheckedMachineModel", "wrongKind", "(I)Z"⟩ ∈ x_Wd := x_inS (i := 49) rfl rfl
theorem q_s50 : Cond.selects "CheckedMachineModel" ⟨"CheckedMachineModel", "place", "(I)Z"⟩ ⟨"CheckedMachineModel", "place", "(I)Z"⟩ ∈ x_Wd := x_inS (i := 50) rfl rfl
theorem q_s51 : Cond.selects "CheckedMachineModel" ⟨"CheckedMachineModel", "wrongStore", "(I)Z"⟩ ⟨"CheckedMachineModel", "wrongStore", "(I)Z"⟩ ∈ x_Wd := x_inS (i := 51) rfl rfl
theorem q_s52 : Cond.selects "CheckedMachineModel" ⟨"CheckedMachineModel", "wrongPlace", "(I)Z"⟩ ⟨"CheckedMachineModel", "wrongPlace", "(I)Z"⟩ ∈ x_Wd := x_inS (i := 52) rfl rfl
theorem q_s53 : Cond.selects "CheckedMachineModel" ⟨"CheckedMachineModel", "wrongCells", "(I)Z"⟩ ⟨"CheckedMachineModel", "wrongCells", "(I)Z"⟩ ∈ x_Wd := x_inS (i := 53) rfl rfl
theorem q_s54 : Cond.selects "CheckedMachineModel" ⟨"CheckedMachineModel", "goOn", "(I)Z"⟩ ⟨"CheckedMachineModel", "goOn", "(I)Z"⟩ ∈ x_Wd := x_inS (i := 54) rfl rfl
theorem q_s55 : Cond.selects "CheckedMachineModel" ⟨"CheckedMachineModel", "copy", "(II)V"⟩ ⟨"CheckedMachineModel", "copy", "(II)V"⟩ ∈ x_Wd := x_inS (i := 55) rfl rfl
theorem q_s56 : Cond.selects "CheckedMachineModel" ⟨"CheckedMachineModel", "move", "(IJJ)V"⟩ ⟨"CheckedMachineModel", "move", "(IJJ)V"⟩ ∈ x_Wd := x_inS (i := 56) rfl rfl
theorem q_s57 : Cond.selects "CheckedMachineModel" ⟨"CheckedMachineModel", "subtract", "(II)V"⟩ ⟨"CheckedMachineModel", "subtract", "(II)V"⟩ ∈ x_Wd := x_inS (i := 57) rfl rfl
theorem q_s58 : Cond.selects "CheckedMachineModel" ⟨"CheckedMachineModel", "arithmetic", "(IIJ)V"⟩ ⟨"CheckedMachineModel", "arithmetic", "(IIJ)V"⟩ ∈ x_Wd := x_inS (i := 58) rfl rfl
theorem q_s59 : Cond.selects "CheckedMachineModel" ⟨"CheckedMachineModel", "spread", "(IJJ)V"⟩ ⟨"CheckedMachineModel", "spread", "(IJJ)V"⟩ ∈ x_Wd := x_inS (i := 59) rfl rfl
theorem q_s60 : Cond.selects "CheckedMachineModel" ⟨"CheckedMachineModel", "and", "(IJ)V"⟩ ⟨"CheckedMachineModel", "and", "(IJ)V"⟩ ∈ x_Wd := x_inS (i := 60) rfl rfl
theorem q_s61 : Cond.selects "CheckedMachineModel" ⟨"CheckedMachineModel", "branch", "(I)V"⟩ ⟨"CheckedMachineModel", "branch", "(I)V"⟩ ∈ x_Wd := x_inS (i := 61) rfl rfl
theorem q_s62 : Cond.selects "CheckedMachineModel" ⟨"CheckedMachineModel", "push", "(I)V"⟩ ⟨"CheckedMachineModel", "push", "(I)V"⟩ ∈ x_Wd := x_inS (i := 62) rfl rfl
theorem q_s63 : Cond.selects "CheckedMachineModel" ⟨"CheckedMachineModel", "pop", "()V"⟩ ⟨"CheckedMachineModel", "pop", "()V"⟩ ∈ x_Wd := x_inS (i := 63) rfl rfl
theorem q_s64 : Cond.selects "CheckedMachineModel" ⟨"CheckedMachineModel", "load", "(I)V"⟩ ⟨"CheckedMachineModel", "load", "(I)V"⟩ ∈ x_Wd := x_inS (i := 64) rfl rfl
theorem q_s65 : Cond.selects "CheckedMachineModel" ⟨"CheckedMachineModel", "store", "(I)V"⟩ ⟨"CheckedMachineModel", "store", "(I)V"⟩ ∈ x_Wd := x_inS (i := 65) rfl rfl
theorem q_s66 : Cond.selects "CheckedMachineModel" ⟨"CheckedMachineModel", "callGuess", "(I)V"⟩ ⟨"CheckedMachineModel", "callGuess", "(I)V"⟩ ∈ x_Wd := x_inS (i := 66) rfl rfl
theorem q_s67 : Cond.selects "CheckedMachineModel" ⟨"CheckedMachineModel", "leave", "()V"⟩ ⟨"CheckedMachineModel", "leave", "()V"⟩ ∈ x_Wd := x_inS (i := 67) rfl rfl
theorem q_s68 : Cond.selects "CheckedMachineModel" ⟨"CheckedMachineModel", "compute", "(I)V"⟩ ⟨"CheckedMachineModel", "compute", "(I)V"⟩ ∈ x_Wd := x_inS (i := 68) rfl rfl
theorem q_s69 : Cond.selects "CheckedMachineModel" ⟨"CheckedMachineModel", "above", "(I)Z"⟩ ⟨"CheckedMachineModel", "above", "(I)Z"⟩ ∈ x_Wd := x_inS (i := 69) rfl rfl
theorem q_s70 : Cond.selects "CheckedMachineModel" ⟨"CheckedMachineModel", "transfer", "(IZ)V"⟩ ⟨"CheckedMachineModel", "transfer", "(IZ)V"⟩ ∈ x_Wd := x_inS (i := 70) rfl rfl
theorem q_s71 : Cond.selects "CheckedMachineModel" ⟨"CheckedMachineModel", "callNow", "(I)V"⟩ ⟨"CheckedMachineModel", "callNow", "(I)V"⟩ ∈ x_Wd := x_inS (i := 71) rfl rfl
end
section
/-! THE WORLD: every cell of class, reference and law -/
abbrev x_SC : Type := (Nat → Nat → Int32) × (Int32) × (Nat → Nat → Int32) × (Nat → Nat → Int64) × (Nat → Nat → Int64) × (Nat → Int32) × (Nat → Int32) × (Nat → Int64) × (Nat → Nat → Int64) × (Nat → Int32) × (Nat → Int64) × (Nat → Int32) × (Int32)
abbrev x_SM : Type := (Nat → Nat → Int32) × (Nat → Int32) × (Nat → Int64) × (Nat → Int32) × (Nat → Int64) × (Nat → Int64) × (Nat → Int32) × (Nat → Int32) × (Nat → Int64) × (Nat → Int64) × (Nat → Int64)
abbrev x_S : Type := x_SC × x_SM × (Nat → Int64)
def x_cell (ad : x_I → Nat) (cA : Nat → ClassId) (stp : Nat → Nat → Int32) (psz : Int32) (gk : Nat → Nat → Int32) (gl : Nat → Nat → Int64) (gh : Nat → Nat → Int64) (opn : Nat → Int32) (cki : Nat → Int32) (ckl : Nat → Int64) (mp : Nat → Nat → Int64) (rk : Nat → Int32) (rv : Nat → Int64) (ri : Nat → Int32) (chk : Int32) (mo : Nat → Nat → Int32) (mi : Nat → Int32) (ml : Nat → Int64) (mk : Nat → Int32) (mlo : Nat → Int64) (mhi : Nat → Int64) (pk : Nat → Int32) (ps : Nat → Int32) (pl : Nat → Int64) (ph : Nat → Int64) (mm : Nat → Int64) (out : Nat → Int64) : x_I → va_E := fun i => match i with
  | (0, 0) => .inr (7, [.ref (ad (1, 0)), .ref (ad (4, 0)), .ref (ad (13, 0)), .int chk])
  | (1, 0) => .inr (4, [.ref (ad (2, 0)), .int psz])
  | (2, 0) => .inl (cA 3, 24, .inr (.inr (.inr (.inr (fun j => some (ad (3, j)))))))
  | (3, j) => .inr (6, [.int (stp j 0), .int (stp j 1), .int (stp j 2), .int (stp j 3), .int (stp j 4)])
  | (4, 0) => .inr (0, [.ref (ad (1, 0)), .ref (ad (5, 0)), .ref (ad (9, 0)), .ref (ad (10, 0)), .ref (ad (11, 0)), .ref (ad (12, 0)), .int (cki 0), .int (cki 1), .int (cki 2), .int (cki 3), .int (cki 4), .long (ckl 0), .long (ckl 1)])
  | (5, j) => .inr (2, [.ref (ad (6, j)), .ref (ad (7, j)), .ref (ad (8, j))])
  | (6, j) => .inl (cA 0, 12, .inl (gk j))
  | (7, j) => .inl (cA 1, 12, .inr (.inl (gl j)))
  | (8, j) => .inl (cA 1, 12, .inr (.inl (gh j)))
  | (9, 0) => .inr (3, [.ref (ad (1, 0)), .ref (ad (5, 0))])
  | (10, 0) => .inr (1, [.ref (ad (5, 0))])
  | (11, 0) => .inl (cA 4, 24, .inr (.inr (.inr (.inr (fun j => some (ad (5, j + 1)))))))
  | (12, 0) => .inl (cA 2, 24, .inl opn)
  | (13, 0) => .inr (5, [.ref (ad (1, 0)), .ref (ad (14, 0)), .ref (ad (16, 0)), .ref (ad (17, 0)), .int (ri 0), .int (ri 1)])
  | (14, 0) => .inl (cA 5, 6, .inr (.inr (.inr (.inr (fun j => some (ad (15, j)))))))
  | (15, j) => .inl (cA 1, 2, .inr (.inl (mp j)))
  | (16, 0) => .inl (cA 0, 12, .inl rk)
  | (17, 0) => .inl (cA 1, 12, .inr (.inl rv))
  | (18, 0) => .inr (8, [.ref (ad (19, 0)), .ref (ad (20, 0)), .ref (ad (21, 0)), .ref (ad (22, 0)), .ref (ad (23, 0)), .int (mi 0), .int (mi 1), .int (mi 2), .int (mi 3), .int (mi 4), .int (mi 5), .int (mi 6), .int (mi 7), .int (mi 8), .long (ml 0), .long (ml 1), .ref (ad (24, 0)), .ref (ad (25, 0)), .ref (ad (26, 0)), .ref (ad (27, 0)), .ref (ad (28, 0)), .ref (ad (29, 0)), .ref (ad (30, 0)), .ref (ad (31, 0)), .int (mi 9), .int (mi 10)])
  | (19, 0) => .inl (cA 0, 24, .inl (mo 0))
  | (20, 0) => .inl (cA 0, 24, .inl (mo 1))
  | (21, 0) => .inl (cA 0, 24, .inl (mo 2))
  | (22, 0) => .inl (cA 0, 24, .inl (mo 3))
  | (23, 0) => .inl (cA 0, 24, .inl (mo 4))
  | (24, 0) => .inl (cA 0, 12, .inl mk)
  | (25, 0) => .inl (cA 1, 12, .inr (.inl mlo))
  | (26, 0) => .inl (cA 1, 12, .inr (.inl mhi))
  | (27, 0) => .inl (cA 0, 360, .inl pk)
  | (28, 0) => .inl (cA 0, 30, .inl ps)
  | (29, 0) => .inl (cA 1, 360, .inr (.inl pl))
  | (30, 0) => .inl (cA 1, 360, .inr (.inl ph))
  | (31, 0) => .inl (cA 1, 12, .inr (.inl mm))
  | (32, 0) => .inl (cA 1, 1, .inr (.inl out))
  | _ => .inl (cA 0, 0, .inl (fun _ => 0))
def x_F (ad : x_I → Nat) (cA : Nat → ClassId) (a : x_S) : x_I → va_E := x_cell ad cA (a.1.1) (a.1.2.1) (a.1.2.2.1) (a.1.2.2.2.1) (a.1.2.2.2.2.1) (a.1.2.2.2.2.2.1) (a.1.2.2.2.2.2.2.1) (a.1.2.2.2.2.2.2.2.1) (a.1.2.2.2.2.2.2.2.2.1) (a.1.2.2.2.2.2.2.2.2.2.1) (a.1.2.2.2.2.2.2.2.2.2.2.1) (a.1.2.2.2.2.2.2.2.2.2.2.2.1) (a.1.2.2.2.2.2.2.2.2.2.2.2.2) (a.2.1.1) (a.2.1.2.1) (a.2.1.2.2.1) (a.2.1.2.2.2.1) (a.2.1.2.2.2.2.1) (a.2.1.2.2.2.2.2.1) (a.2.1.2.2.2.2.2.2.1) (a.2.1.2.2.2.2.2.2.2.1) (a.2.1.2.2.2.2.2.2.2.2.1) (a.2.1.2.2.2.2.2.2.2.2.2.1) (a.2.1.2.2.2.2.2.2.2.2.2.2) a.2.2
def x_idl : List x_I := ([(0, 0)]) ++ ([(1, 0)]) ++ ([(2, 0)]) ++ ((List.range 24).map (fun j => (3, j))) ++ ([(4, 0)]) ++ ((List.range 25).map (fun j => (5, j))) ++ ((List.range 25).map (fun j => (6, j))) ++ ((List.range 25).map (fun j => (7, j))) ++ ((List.range 25).map (fun j => (8, j))) ++ ([(9, 0)]) ++ ([(10, 0)]) ++ ([(11, 0)]) ++ ([(12, 0)]) ++ ([(13, 0)]) ++ ([(14, 0)]) ++ ((List.range 6).map (fun j => (15, j))) ++ ([(16, 0)]) ++ ([(17, 0)]) ++ ([(18, 0)]) ++ ([(19, 0)]) ++ ([(20, 0)]) ++ ([(21, 0)]) ++ ([(22, 0)]) ++ ([(23, 0)]) ++ ([(24, 0)]) ++ ([(25, 0)]) ++ ([(26, 0)]) ++ ([(27, 0)]) ++ ([(28, 0)]) ++ ([(29, 0)]) ++ ([(30, 0)]) ++ ([(31, 0)]) ++ ([(32, 0)])
theorem m_0 : ((0, 0) : x_I) ∈ x_idl := by decide +kernel
theorem m_1 : ((1, 0) : x_I) ∈ x_idl := by decide +kernel
theorem m_2 : ((2, 0) : x_I) ∈ x_idl := by decide +kernel
theorem m_3 {j : Nat} (h : j < 24) : ((3, j) : x_I) ∈ x_idl := (show ∀ j, j < 24 → ((3, j) : x_I) ∈ x_idl by decide +kernel) j h
theorem m_4 : ((4, 0) : x_I) ∈ x_idl := by decide +kernel
theorem m_5 {j : Nat} (h : j < 25) : ((5, j) : x_I) ∈ x_idl := (show ∀ j, j < 25 → ((5, j) : x_I) ∈ x_idl by decide +kernel) j h
theorem m_6 {j : Nat} (h : j < 25) : ((6, j) : x_I) ∈ x_idl := (show ∀ j, j < 25 → ((6, j) : x_I) ∈ x_idl by decide +kernel) j h
theorem m_7 {j : Nat} (h : j < 25) : ((7, j) : x_I) ∈ x_idl := (show ∀ j, j < 25 → ((7, j) : x_I) ∈ x_idl by decide +kernel) j h
theorem m_8 {j : Nat} (h : j < 25) : ((8, j) : x_I) ∈ x_idl := (show ∀ j, j < 25 → ((8, j) : x_I) ∈ x_idl by decide +kernel) j h
theorem m_9 : ((9, 0) : x_I) ∈ x_idl := by decide +kernel
theorem m_10 : ((10, 0) : x_I) ∈ x_idl := by decide +kernel
theorem m_11 : ((11, 0) : x_I) ∈ x_idl := by decide +kernel
theorem m_12 : ((12, 0) : x_I) ∈ x_idl := by decide +kernel
theorem m_13 : ((13, 0) : x_I) ∈ x_idl := by decide +kernel
theorem m_14 : ((14, 0) : x_I) ∈ x_idl := by decide +kernel
theorem m_15 {j : Nat} (h : j < 6) : ((15, j) : x_I) ∈ x_idl := (show ∀ j, j < 6 → ((15, j) : x_I) ∈ x_idl by decide +kernel) j h
theorem m_16 : ((16, 0) : x_I) ∈ x_idl := by decide +kernel
theorem m_17 : ((17, 0) : x_I) ∈ x_idl := by decide +kernel
theorem m_18 : ((18, 0) : x_I) ∈ x_idl := by decide +kernel
theorem m_19 : ((19, 0) : x_I) ∈ x_idl := by decide +kernel
theorem m_20 : ((20, 0) : x_I) ∈ x_idl := by decide +kernel
theorem m_21 : ((21, 0) : x_I) ∈ x_idl := by decide +kernel
theorem m_22 : ((22, 0) : x_I) ∈ x_idl := by decide +kernel
theorem m_23 : ((23, 0) : x_I) ∈ x_idl := by decide +kernel
theorem m_24 : ((24, 0) : x_I) ∈ x_idl := by decide +kernel
theorem m_25 : ((25, 0) : x_I) ∈ x_idl := by decide +kernel
theorem m_26 : ((26, 0) : x_I) ∈ x_idl := by decide +kernel
theorem m_27 : ((27, 0) : x_I) ∈ x_idl := by decide +kernel
theorem m_28 : ((28, 0) : x_I) ∈ x_idl := by decide +kernel
theorem m_29 : ((29, 0) : x_I) ∈ x_idl := by decide +kernel
theorem m_30 : ((30, 0) : x_I) ∈ x_idl := by decide +kernel
theorem m_31 : ((31, 0) : x_I) ∈ x_idl := by decide +kernel
theorem m_32 : ((32, 0) : x_I) ∈ x_idl := by decide +kernel
theorem x_idl_nd : x_idl.Nodup := by decide +kernel
abbrev x_tys (cA : Nat → ClassId) : List (ClassId × FieldType) := [(cA 0, .int), (cA 1, .long), (cA 2, .boolean), (cA 3, .object "CheckedMachine$Step"), (cA 4, .object "CheckedMachine$Guesses"), (cA 5, .array .long)]
abbrev x_k (D : va_G) (cA : Nat → ClassId) (ad : x_I → Nat) : x_K := (D, x_classes, x_tys cA, x_idl, ad)
theorem e_chk {ad : x_I → Nat} {cA : Nat → ClassId} {stp : Nat → Nat → Int32} {psz : Int32} {gk : Nat → Nat → Int32} {gl : Nat → Nat → Int64} {gh : Nat → Nat → Int64} {opn : Nat → Int32} {cki : Nat → Int32} {ckl : Nat → Int64} {mp : Nat → Nat → Int64} {rk : Nat → Int32} {rv : Nat → Int64} {ri : Nat → Int32} {chk : Int32} {mo : Nat → Nat → Int32} {mi : Nat → Int32} {ml : Nat → Int64} {mk : Nat → Int32} {mlo : Nat → Int64} {mhi : Nat → Int64} {pk : Nat → Int32} {ps : Nat → Int32} {pl : Nat → Int64} {ph : Nat → Int64} {mm : Nat → Int64} {out : Nat → Int64} {v : Int32} : x_up (x_F ad cA ((stp, psz, gk, gl, gh, opn, cki, ckl, mp, rk, rv, ri, chk), (mo, mi, ml, mk, mlo, mhi, pk, ps, pl, ph, mm), out)) (0, 0) (.inr (7, [.ref (ad (1, 0)), .ref (ad (4, 0)), .ref (ad (13, 0)), .int v])) = x_F ad cA ((stp, psz, gk, gl, gh, opn, cki, ckl, mp, rk, rv, ri, v), (mo, mi, ml, mk, mlo, mhi, pk, ps, pl, ph, mm), out) := by
  funext z
  obtain ⟨a, b⟩ := z
  by_cases h : ((a, b) : x_I) = (0, 0)
  · cases h
    simp [x_up, x_F, x_cell, va_up, upd, vp_updL]
  · rw [x_up, if_neg h]
    unfold x_F x_cell
    split <;> first | rfl | exact absurd rfl h | (have h9 : ∀ b9 : Nat, b9 ≠ 0 ∨ b9 = 0 := fun b9 => (Decidable.em (b9 = 0)).symm; simp_all [va_up])
theorem e_psz {ad : x_I → Nat} {cA : Nat → ClassId} {stp : Nat → Nat → Int32} {psz : Int32} {gk : Nat → Nat → Int32} {gl : Nat → Nat → Int64} {gh : Nat → Nat → Int64} {opn : Nat → Int32} {cki : Nat → Int32} {ckl : Nat → Int64} {mp : Nat → Nat → Int64} {rk : Nat → Int32} {rv : Nat → Int64} {ri : Nat → Int32} {chk : Int32} {mo : Nat → Nat → Int32} {mi : Nat → Int32} {ml : Nat → Int64} {mk : Nat → Int32} {mlo : Nat → Int64} {mhi : Nat → Int64} {pk : Nat → Int32} {ps : Nat → Int32} {pl : Nat → Int64} {ph : Nat → Int64} {mm : Nat → Int64} {out : Nat → Int64} {v : Int32} : x_up (x_F ad cA ((stp, psz, gk, gl, gh, opn, cki, ckl, mp, rk, rv, ri, chk), (mo, mi, ml, mk, mlo, mhi, pk, ps, pl, ph, mm), out)) (1, 0) (.inr (4, [.ref (ad (2, 0)), .int v])) = x_F ad cA ((stp, v, gk, gl, gh, opn, cki, ckl, mp, rk, rv, ri, chk), (mo, mi, ml, mk, mlo, mhi, pk, ps, pl, ph, mm), out) := by
  funext z
  obtain ⟨a, b⟩ := z
  by_cases h : ((a, b) : x_I) = (1, 0)
  · cases h
    simp [x_up, x_F, x_cell, va_up, upd, vp_updL]
  · rw [x_up, if_neg h]
    unfold x_F x_cell
    split <;> first | rfl | exact absurd rfl h | (have h9 : ∀ b9 : Nat, b9 ≠ 0 ∨ b9 = 0 := fun b9 => (Decidable.em (b9 = 0)).symm; simp_all [va_up])
theorem e_stp0 {ad : x_I → Nat} {cA : Nat → ClassId} {stp : Nat → Nat → Int32} {psz : Int32} {gk : Nat → Nat → Int32} {gl : Nat → Nat → Int64} {gh : Nat → Nat → Int64} {opn : Nat → Int32} {cki : Nat → Int32} {ckl : Nat → Int64} {mp : Nat → Nat → Int64} {rk : Nat → Int32} {rv : Nat → Int64} {ri : Nat → Int32} {chk : Int32} {mo : Nat → Nat → Int32} {mi : Nat → Int32} {ml : Nat → Int64} {mk : Nat → Int32} {mlo : Nat → Int64} {mhi : Nat → Int64} {pk : Nat → Int32} {ps : Nat → Int32} {pl : Nat → Int64} {ph : Nat → Int64} {mm : Nat → Int64} {out : Nat → Int64} {i : Nat} {v : Int32} : x_up (x_F ad cA ((stp, psz, gk, gl, gh, opn, cki, ckl, mp, rk, rv, ri, chk), (mo, mi, ml, mk, mlo, mhi, pk, ps, pl, ph, mm), out)) (3, i) (.inr (6, [.int v, .int (stp i 1), .int (stp i 2), .int (stp i 3), .int (stp i 4)])) = x_F ad cA ((va_up stp i (upd (stp i) 0 v), psz, gk, gl, gh, opn, cki, ckl, mp, rk, rv, ri, chk), (mo, mi, ml, mk, mlo, mhi, pk, ps, pl, ph, mm), out) := by
  funext z
  obtain ⟨a, b⟩ := z
  by_cases h : ((a, b) : x_I) = (3, i)
  · cases h
    simp [x_up, x_F, x_cell, va_up, upd, vp_updL]
  · rw [x_up, if_neg h]
    unfold x_F x_cell
    split <;> first | rfl | exact absurd rfl h | (have h9 : ∀ b9 : Nat, b9 ≠ i ∨ b9 = i := fun b9 => (Decidable.em (b9 = i)).symm; simp_all [va_up])
theorem e_stp1 {ad : x_I → Nat} {cA : Nat → ClassId} {stp : Nat → Nat → Int32} {psz : Int32} {gk : Nat → Nat → Int32} {gl : Nat → Nat → Int64} {gh : Nat → Nat → Int64} {opn : Nat → Int32} {cki : Nat → Int32} {ckl : Nat → Int64} {mp : Nat → Nat → Int64} {rk : Nat → Int32} {rv : Nat → Int64} {ri : Nat → Int32} {chk : Int32} {mo : Nat → Nat → Int32} {mi : Nat → Int32} {ml : Nat → Int64} {mk : Nat → Int32} {mlo : Nat → Int64} {mhi : Nat → Int64} {pk : Nat → Int32} {ps : Nat → Int32} {pl : Nat → Int64} {ph : Nat → Int64} {mm : Nat → Int64} {out : Nat → Int64} {i : Nat} {v : Int32} : x_up (x_F ad cA ((stp, psz, gk, gl, gh, opn, cki, ckl, mp, rk, rv, ri, chk), (mo, mi, ml, mk, mlo, mhi, pk, ps, pl, ph, mm), out)) (3, i) (.inr (6, [.int (stp i 0), .int v, .int (stp i 2), .int (stp i 3), .int (stp i 4)])) = x_F ad cA ((va_up stp i (upd (stp i) 1 v), psz, gk, gl, gh, opn, cki, ckl, mp, rk, rv, ri, chk), (mo, mi, ml, mk, mlo, mhi, pk, ps, pl, ph, mm), out) := by
  funext z
  obtain ⟨a, b⟩ := z
  by_cases h : ((a, b) : x_I) = (3, i)
  · cases h
    simp [x_up, x_F, x_cell, va_up, upd, vp_updL]
  · rw [x_up, if_neg h]
    unfold x_F x_cell
    split <;> first | rfl | exact absurd rfl h | (have h9 : ∀ b9 : Nat, b9 ≠ i ∨ b9 = i := fun b9 => (Decidable.em (b9 = i)).symm; simp_all [va_up])
theorem e_stp2 {ad : x_I → Nat} {cA : Nat → ClassId} {stp : Nat → Nat → Int32} {psz : Int32} {gk : Nat → Nat → Int32} {gl : Nat → Nat → Int64} {gh : Nat → Nat → Int64} {opn : Nat → Int32} {cki : Nat → Int32} {ckl : Nat → Int64} {mp : Nat → Nat → Int64} {rk : Nat → Int32} {rv : Nat → Int64} {ri : Nat → Int32} {chk : Int32} {mo : Nat → Nat → Int32} {mi : Nat → Int32} {ml : Nat → Int64} {mk : Nat → Int32} {mlo : Nat → Int64} {mhi : Nat → Int64} {pk : Nat → Int32} {ps : Nat → Int32} {pl : Nat → Int64} {ph : Nat → Int64} {mm : Nat → Int64} {out : Nat → Int64} {i : Nat} {v : Int32} : x_up (x_F ad cA ((stp, psz, gk, gl, gh, opn, cki, ckl, mp, rk, rv, ri, chk), (mo, mi, ml, mk, mlo, mhi, pk, ps, pl, ph, mm), out)) (3, i) (.inr (6, [.int (stp i 0), .int (stp i 1), .int v, .int (stp i 3), .int (stp i 4)])) = x_F ad cA ((va_up stp i (upd (stp i) 2 v), psz, gk, gl, gh, opn, cki, ckl, mp, rk, rv, ri, chk), (mo, mi, ml, mk, mlo, mhi, pk, ps, pl, ph, mm), out) := by
  funext z
  obtain ⟨a, b⟩ := z
  by_cases h : ((a, b) : x_I) = (3, i)
  · cases h
    simp [x_up, x_F, x_cell, va_up, upd, vp_updL]
  · rw [x_up, if_neg h]
    unfold x_F x_cell
    split <;> first | rfl | exact absurd rfl h | (have h9 : ∀ b9 : Nat, b9 ≠ i ∨ b9 = i := fun b9 => (Decidable.em (b9 = i)).symm; simp_all [va_up])
theorem e_stp3 {ad : x_I → Nat} {cA : Nat → ClassId} {stp : Nat → Nat → Int32} {psz : Int32} {gk : Nat → Nat → Int32} {gl : Nat → Nat → Int64} {gh : Nat → Nat → Int64} {opn : Nat → Int32} {cki : Nat → Int32} {ckl : Nat → Int64} {mp : Nat → Nat → Int64} {rk : Nat → Int32} {rv : Nat → Int64} {ri : Nat → Int32} {chk : Int32} {mo : Nat → Nat → Int32} {mi : Nat → Int32} {ml : Nat → Int64} {mk : Nat → Int32} {mlo : Nat → Int64} {mhi : Nat → Int64} {pk : Nat → Int32} {ps : Nat → Int32} {pl : Nat → Int64} {ph : Nat → Int64} {mm : Nat → Int64} {out : Nat → Int64} {i : Nat} {v : Int32} : x_up (x_F ad cA ((stp, psz, gk, gl, gh, opn, cki, ckl, mp, rk, rv, ri, chk), (mo, mi, ml, mk, mlo, mhi, pk, ps, pl, ph, mm), out)) (3, i) (.inr (6, [.int (stp i 0), .int (stp i 1), .int (stp i 2), .int v, .int (stp i 4)])) = x_F ad cA ((va_up stp i (upd (stp i) 3 v), psz, gk, gl, gh, opn, cki, ckl, mp, rk, rv, ri, chk), (mo, mi, ml, mk, mlo, mhi, pk, ps, pl, ph, mm), out) := by
  funext z
  obtain ⟨a, b⟩ := z
  by_cases h : ((a, b) : x_I) = (3, i)
  · cases h
    simp [x_up, x_F, x_cell, va_up, upd, vp_updL]
  · rw [x_up, if_neg h]
    unfold x_F x_cell
    split <;> first | rfl | exact absurd rfl h | (have h9 : ∀ b9 : Nat, b9 ≠ i ∨ b9 = i := fun b9 => (Decidable.em (b9 = i)).symm; simp_all [va_up])
theorem e_stp4 {ad : x_I → Nat} {cA : Nat → ClassId} {stp : Nat → Nat → Int32} {psz : Int32} {gk : Nat → Nat → Int32} {gl : Nat → Nat → Int64} {gh : Nat → Nat → Int64} {opn : Nat → Int32} {cki : Nat → Int32} {ckl : Nat → Int64} {mp : Nat → Nat → Int64} {rk : Nat → Int32} {rv : Nat → Int64} {ri : Nat → Int32} {chk : Int32} {mo : Nat → Nat → Int32} {mi : Nat → Int32} {ml : Nat → Int64} {mk : Nat → Int32} {mlo : Nat → Int64} {mhi : Nat → Int64} {pk : Nat → Int32} {ps : Nat → Int32} {pl : Nat → Int64} {ph : Nat → Int64} {mm : Nat → Int64} {out : Nat → Int64} {i : Nat} {v : Int32} : x_up (x_F ad cA ((stp, psz, gk, gl, gh, opn, cki, ckl, mp, rk, rv, ri, chk), (mo, mi, ml, mk, mlo, mhi, pk, ps, pl, ph, mm), out)) (3, i) (.inr (6, [.int (stp i 0), .int (stp i 1), .int (stp i 2), .int (stp i 3), .int v])) = x_F ad cA ((va_up stp i (upd (stp i) 4 v), psz, gk, gl, gh, opn, cki, ckl, mp, rk, rv, ri, chk), (mo, mi, ml, mk, mlo, mhi, pk, ps, pl, ph, mm), out) := by
  funext z
  obtain ⟨a, b⟩ := z
  by_cases h : ((a, b) : x_I) = (3, i)
  · cases h
    simp [x_up, x_F, x_cell, va_up, upd, vp_updL]
  · rw [x_up, if_neg h]
    unfold x_F x_cell
    split <;> first | rfl | exact absurd rfl h | (have h9 : ∀ b9 : Nat, b9 ≠ i ∨ b9 = i := fun b9 => (Decidable.em (b9 = i)).symm; simp_all [va_up])
theorem e_cki0 {ad : x_I → Nat} {cA : Nat → ClassId} {stp : Nat → Nat → Int32} {psz : Int32} {gk : Nat → Nat → Int32} {gl : Nat → Nat → Int64} {gh : Nat → Nat → Int64} {opn : Nat → Int32} {cki : Nat → Int32} {ckl : Nat → Int64} {mp : Nat → Nat → Int64} {rk : Nat → Int32} {rv : Nat → Int64} {ri : Nat → Int32} {chk : Int32} {mo : Nat → Nat → Int32} {mi : Nat → Int32} {ml : Nat → Int64} {mk : Nat → Int32} {mlo : Nat → Int64} {mhi : Nat → Int64} {pk : Nat → Int32} {ps : Nat → Int32} {pl : Nat → Int64} {ph : Nat → Int64} {mm : Nat → Int64} {out : Nat → Int64} {v : Int32} : x_up (x_F ad cA ((stp, psz, gk, gl, gh, opn, cki, ckl, mp, rk, rv, ri, chk), (mo, mi, ml, mk, mlo, mhi, pk, ps, pl, ph, mm), out)) (4, 0) (.inr (0, [.ref (ad (1, 0)), .ref (ad (5, 0)), .ref (ad (9, 0)), .ref (ad (10, 0)), .ref (ad (11, 0)), .ref (ad (12, 0)), .int v, .int (cki 1), .int (cki 2), .int (cki 3), .int (cki 4), .long (ckl 0), .long (ckl 1)])) = x_F ad cA ((stp, psz, gk, gl, gh, opn, upd cki 0 v, ckl, mp, rk, rv, ri, chk), (mo, mi, ml, mk, mlo, mhi, pk, ps, pl, ph, mm), out) := by
  funext z
  obtain ⟨a, b⟩ := z
  by_cases h : ((a, b) : x_I) = (4, 0)
  · cases h
    simp [x_up, x_F, x_cell, va_up, upd, vp_updL]
  · rw [x_up, if_neg h]
    unfold x_F x_cell
    split <;> first | rfl | exact absurd rfl h | (have h9 : ∀ b9 : Nat, b9 ≠ 0 ∨ b9 = 0 := fun b9 => (Decidable.em (b9 = 0)).symm; simp_all [va_up])
theorem e_cki1 {ad : x_I → Nat} {cA : Nat → ClassId} {stp : Nat → Nat → Int32} {psz : Int32} {gk : Nat → Nat → Int32} {gl : Nat → Nat → Int64} {gh : Nat → Nat → Int64} {opn : Nat → Int32} {cki : Nat → Int32} {ckl : Nat → Int64} {mp : Nat → Nat → Int64} {rk : Nat → Int32} {rv : Nat → Int64} {ri : Nat → Int32} {chk : Int32} {mo : Nat → Nat → Int32} {mi : Nat → Int32} {ml : Nat → Int64} {mk : Nat → Int32} {mlo : Nat → Int64} {mhi : Nat → Int64} {pk : Nat → Int32} {ps : Nat → Int32} {pl : Nat → Int64} {ph : Nat → Int64} {mm : Nat → Int64} {out : Nat → Int64} {v : Int32} : x_up (x_F ad cA ((stp, psz, gk, gl, gh, opn, cki, ckl, mp, rk, rv, ri, chk), (mo, mi, ml, mk, mlo, mhi, pk, ps, pl, ph, mm), out)) (4, 0) (.inr (0, [.ref (ad (1, 0)), .ref (ad (5, 0)), .ref (ad (9, 0)), .ref (ad (10, 0)), .ref (ad (11, 0)), .ref (ad (12, 0)), .int (cki 0), .int v, .int (cki 2), .int (cki 3), .int (cki 4), .long (ckl 0), .long (ckl 1)])) = x_F ad cA ((stp, psz, gk, gl, gh, opn, upd cki 1 v, ckl, mp, rk, rv, ri, chk), (mo, mi, ml, mk, mlo, mhi, pk, ps, pl, ph, mm), out) := by
  funext z
  obtain ⟨a, b⟩ := z
  by_cases h : ((a, b) : x_I) = (4, 0)
  · cases h
    simp [x_up, x_F, x_cell, va_up, upd, vp_updL]
  · rw [x_up, if_neg h]
    unfold x_F x_cell
    split <;> first | rfl | exact absurd rfl h | (have h9 : ∀ b9 : Nat, b9 ≠ 0 ∨ b9 = 0 := fun b9 => (Decidable.em (b9 = 0)).symm; simp_all [va_up])
theorem e_cki2 {ad : x_I → Nat} {cA : Nat → ClassId} {stp : Nat → Nat → Int32} {psz : Int32} {gk : Nat → Nat → Int32} {gl : Nat → Nat → Int64} {gh : Nat → Nat → Int64} {opn : Nat → Int32} {cki : Nat → Int32} {ckl : Nat → Int64} {mp : Nat → Nat → Int64} {rk : Nat → Int32} {rv : Nat → Int64} {ri : Nat → Int32} {chk : Int32} {mo : Nat → Nat → Int32} {mi : Nat → Int32} {ml : Nat → Int64} {mk : Nat → Int32} {mlo : Nat → Int64} {mhi : Nat → Int64} {pk : Nat → Int32} {ps : Nat → Int32} {pl : Nat → Int64} {ph : Nat → Int64} {mm : Nat → Int64} {out : Nat → Int64} {v : Int32} : x_up (x_F ad cA ((stp, psz, gk, gl, gh, opn, cki, ckl, mp, rk, rv, ri, chk), (mo, mi, ml, mk, mlo, mhi, pk, ps, pl, ph, mm), out)) (4, 0) (.inr (0, [.ref (ad (1, 0)), .ref (ad (5, 0)), .ref (ad (9, 0)), .ref (ad (10, 0)), .ref (ad (11, 0)), .ref (ad (12, 0)), .int (cki 0), .int (cki 1), .int v, .int (cki 3), .int (cki 4), .long (ckl 0), .long (ckl 1)])) = x_F ad cA ((stp, psz, gk, gl, gh, opn, upd cki 2 v, ckl, mp, rk, rv, ri, chk), (mo, mi, ml, mk, mlo, mhi, pk, ps, pl, ph, mm), out) := by
  funext z
  obtain ⟨a, b⟩ := z
  by_cases h : ((a, b) : x_I) = (4, 0)
  · cases h
    simp [x_up, x_F, x_cell, va_up, upd, vp_updL]
  · rw [x_up, if_neg h]
    unfold x_F x_cell
    split <;> first | rfl | exact absurd rfl h | (have h9 : ∀ b9 : Nat, b9 ≠ 0 ∨ b9 = 0 := fun b9 => (Decidable.em (b9 = 0)).symm; simp_all [va_up])
theorem e_cki3 {ad : x_I → Nat} {cA : Nat → ClassId} {stp : Nat → Nat → Int32} {psz : Int32} {gk : Nat → Nat → Int32} {gl : Nat → Nat → Int64} {gh : Nat → Nat → Int64} {opn : Nat → Int32} {cki : Nat → Int32} {ckl : Nat → Int64} {mp : Nat → Nat → Int64} {rk : Nat → Int32} {rv : Nat → Int64} {ri : Nat → Int32} {chk : Int32} {mo : Nat → Nat → Int32} {mi : Nat → Int32} {ml : Nat → Int64} {mk : Nat → Int32} {mlo : Nat → Int64} {mhi : Nat → Int64} {pk : Nat → Int32} {ps : Nat → Int32} {pl : Nat → Int64} {ph : Nat → Int64} {mm : Nat → Int64} {out : Nat → Int64} {v : Int32} : x_up (x_F ad cA ((stp, psz, gk, gl, gh, opn, cki, ckl, mp, rk, rv, ri, chk), (mo, mi, ml, mk, mlo, mhi, pk, ps, pl, ph, mm), out)) (4, 0) (.inr (0, [.ref (ad (1, 0)), .ref (ad (5, 0)), .ref (ad (9, 0)), .ref (ad (10, 0)), .ref (ad (11, 0)), .ref (ad (12, 0)), .int (cki 0), .int (cki 1), .int (cki 2), .int v, .int (cki 4), .long (ckl 0), .long (ckl 1)])) = x_F ad cA ((stp, psz, gk, gl, gh, opn, upd cki 3 v, ckl, mp, rk, rv, ri, chk), (mo, mi, ml, mk, mlo, mhi, pk, ps, pl, ph, mm), out) := by
  funext z
  obtain ⟨a, b⟩ := z
  by_cases h : ((a, b) : x_I) = (4, 0)
  · cases h
    simp [x_up, x_F, x_cell, va_up, upd, vp_updL]
  · rw [x_up, if_neg h]
    unfold x_F x_cell
    split <;> first | rfl | exact absurd rfl h | (have h9 : ∀ b9 : Nat, b9 ≠ 0 ∨ b9 = 0 := fun b9 => (Decidable.em (b9 = 0)).symm; simp_all [va_up])
theorem e_cki4 {ad : x_I → Nat} {cA : Nat → ClassId} {stp : Nat → Nat → Int32} {psz : Int32} {gk : Nat → Nat → Int32} {gl : Nat → Nat → Int64} {gh : Nat → Nat → Int64} {opn : Nat → Int32} {cki : Nat → Int32} {ckl : Nat → Int64} {mp : Nat → Nat → Int64} {rk : Nat → Int32} {rv : Nat → Int64} {ri : Nat → Int32} {chk : Int32} {mo : Nat → Nat → Int32} {mi : Nat → Int32} {ml : Nat → Int64} {mk : Nat → Int32} {mlo : Nat → Int64} {mhi : Nat → Int64} {pk : Nat → Int32} {ps : Nat → Int32} {pl : Nat → Int64} {ph : Nat → Int64} {mm : Nat → Int64} {out : Nat → Int64} {v : Int32} : x_up (x_F ad cA ((stp, psz, gk, gl, gh, opn, cki, ckl, mp, rk, rv, ri, chk), (mo, mi, ml, mk, mlo, mhi, pk, ps, pl, ph, mm), out)) (4, 0) (.inr (0, [.ref (ad (1, 0)), .ref (ad (5, 0)), .ref (ad (9, 0)), .ref (ad (10, 0)), .ref (ad (11, 0)), .ref (ad (12, 0)), .int (cki 0), .int (cki 1), .int (cki 2), .int (cki 3), .int v, .long (ckl 0), .long (ckl 1)])) = x_F ad cA ((stp, psz, gk, gl, gh, opn, upd cki 4 v, ckl, mp, rk, rv, ri, chk), (mo, mi, ml, mk, mlo, mhi, pk, ps, pl, ph, mm), out) := by
  funext z
  obtain ⟨a, b⟩ := z
  by_cases h : ((a, b) : x_I) = (4, 0)
  · cases h
    simp [x_up, x_F, x_cell, va_up, upd, vp_updL]
  · rw [x_up, if_neg h]
    unfold x_F x_cell
    split <;> first | rfl | exact absurd rfl h | (have h9 : ∀ b9 : Nat, b9 ≠ 0 ∨ b9 = 0 := fun b9 => (Decidable.em (b9 = 0)).symm; simp_all [va_up])
theorem e_ckl0 {ad : x_I → Nat} {cA : Nat → ClassId} {stp : Nat → Nat → Int32} {psz : Int32} {gk : Nat → Nat → Int32} {gl : Nat → Nat → Int64} {gh : Nat → Nat → Int64} {opn : Nat → Int32} {cki : Nat → Int32} {ckl : Nat → Int64} {mp : Nat → Nat → Int64} {rk : Nat → Int32} {rv : Nat → Int64} {ri : Nat → Int32} {chk : Int32} {mo : Nat → Nat → Int32} {mi : Nat → Int32} {ml : Nat → Int64} {mk : Nat → Int32} {mlo : Nat → Int64} {mhi : Nat → Int64} {pk : Nat → Int32} {ps : Nat → Int32} {pl : Nat → Int64} {ph : Nat → Int64} {mm : Nat → Int64} {out : Nat → Int64} {v : Int64} : x_up (x_F ad cA ((stp, psz, gk, gl, gh, opn, cki, ckl, mp, rk, rv, ri, chk), (mo, mi, ml, mk, mlo, mhi, pk, ps, pl, ph, mm), out)) (4, 0) (.inr (0, [.ref (ad (1, 0)), .ref (ad (5, 0)), .ref (ad (9, 0)), .ref (ad (10, 0)), .ref (ad (11, 0)), .ref (ad (12, 0)), .int (cki 0), .int (cki 1), .int (cki 2), .int (cki 3), .int (cki 4), .long v, .long (ckl 1)])) = x_F ad cA ((stp, psz, gk, gl, gh, opn, cki, vp_updL ckl 0 v, mp, rk, rv, ri, chk), (mo, mi, ml, mk, mlo, mhi, pk, ps, pl, ph, mm), out) := by
  funext z
  obtain ⟨a, b⟩ := z
  by_cases h : ((a, b) : x_I) = (4, 0)
  · cases h
    simp [x_up, x_F, x_cell, va_up, upd, vp_updL]
  · rw [x_up, if_neg h]
    unfold x_F x_cell
    split <;> first | rfl | exact absurd rfl h | (have h9 : ∀ b9 : Nat, b9 ≠ 0 ∨ b9 = 0 := fun b9 => (Decidable.em (b9 = 0)).symm; simp_all [va_up])
theorem e_ckl1 {ad : x_I → Nat} {cA : Nat → ClassId} {stp : Nat → Nat → Int32} {psz : Int32} {gk : Nat → Nat → Int32} {gl : Nat → Nat → Int64} {gh : Nat → Nat → Int64} {opn : Nat → Int32} {cki : Nat → Int32} {ckl : Nat → Int64} {mp : Nat → Nat → Int64} {rk : Nat → Int32} {rv : Nat → Int64} {ri : Nat → Int32} {chk : Int32} {mo : Nat → Nat → Int32} {mi : Nat → Int32} {ml : Nat → Int64} {mk : Nat → Int32} {mlo : Nat → Int64} {mhi : Nat → Int64} {pk : Nat → Int32} {ps : Nat → Int32} {pl : Nat → Int64} {ph : Nat → Int64} {mm : Nat → Int64} {out : Nat → Int64} {v : Int64} : x_up (x_F ad cA ((stp, psz, gk, gl, gh, opn, cki, ckl, mp, rk, rv, ri, chk), (mo, mi, ml, mk, mlo, mhi, pk, ps, pl, ph, mm), out)) (4, 0) (.inr (0, [.ref (ad (1, 0)), .ref (ad (5, 0)), .ref (ad (9, 0)), .ref (ad (10, 0)), .ref (ad (11, 0)), .ref (ad (12, 0)), .int (cki 0), .int (cki 1), .int (cki 2), .int (cki 3), .int (cki 4), .long (ckl 0), .long v])) = x_F ad cA ((stp, psz, gk, gl, gh, opn, cki, vp_updL ckl 1 v, mp, rk, rv, ri, chk), (mo, mi, ml, mk, mlo, mhi, pk, ps, pl, ph, mm), out) := by
  funext z
  obtain ⟨a, b⟩ := z
  by_cases h : ((a, b) : x_I) = (4, 0)
  · cases h
    simp [x_up, x_F, x_cell, va_up, upd, vp_updL]
  · rw [x_up, if_neg h]
    unfold x_F x_cell
    split <;> first | rfl | exact absurd rfl h | (have h9 : ∀ b9 : Nat, b9 ≠ 0 ∨ b9 = 0 := fun b9 => (Decidable.em (b9 = 0)).symm; simp_all [va_up])
theorem e_gk {ad : x_I → Nat} {cA : Nat → ClassId} {stp : Nat → Nat → Int32} {psz : Int32} {gk : Nat → Nat → Int32} {gl : Nat → Nat → Int64} {gh : Nat → Nat → Int64} {opn : Nat → Int32} {cki : Nat → Int32} {ckl : Nat → Int64} {mp : Nat → Nat → Int64} {rk : Nat → Int32} {rv : Nat → Int64} {ri : Nat → Int32} {chk : Int32} {mo : Nat → Nat → Int32} {mi : Nat → Int32} {ml : Nat → Int64} {mk : Nat → Int32} {mlo : Nat → Int64} {mhi : Nat → Int64} {pk : Nat → Int32} {ps : Nat → Int32} {pl : Nat → Int64} {ph : Nat → Int64} {mm : Nat → Int64} {out : Nat → Int64} {i : Nat} {g : Nat → Int32} : x_up (x_F ad cA ((stp, psz, gk, gl, gh, opn, cki, ckl, mp, rk, rv, ri, chk), (mo, mi, ml, mk, mlo, mhi, pk, ps, pl, ph, mm), out)) (6, i) (.inl (cA 0, 12, .inl g)) = x_F ad cA ((stp, psz, va_up gk i g, gl, gh, opn, cki, ckl, mp, rk, rv, ri, chk), (mo, mi, ml, mk, mlo, mhi, pk, ps, pl, ph, mm), out) := by
  funext z
  obtain ⟨a, b⟩ := z
  by_cases h : ((a, b) : x_I) = (6, i)
  · cases h
    simp [x_up, x_F, x_cell, va_up, upd, vp_updL]
  · rw [x_up, if_neg h]
    unfold x_F x_cell
    split <;> first | rfl | exact absurd rfl h | (have h9 : ∀ b9 : Nat, b9 ≠ i ∨ b9 = i := fun b9 => (Decidable.em (b9 = i)).symm; simp_all [va_up])
theorem e_gl {ad : x_I → Nat} {cA : Nat → ClassId} {stp : Nat → Nat → Int32} {psz : Int32} {gk : Nat → Nat → Int32} {gl : Nat → Nat → Int64} {gh : Nat → Nat → Int64} {opn : Nat → Int32} {cki : Nat → Int32} {ckl : Nat → Int64} {mp : Nat → Nat → Int64} {rk : Nat → Int32} {rv : Nat → Int64} {ri : Nat → Int32} {chk : Int32} {mo : Nat → Nat → Int32} {mi : Nat → Int32} {ml : Nat → Int64} {mk : Nat → Int32} {mlo : Nat → Int64} {mhi : Nat → Int64} {pk : Nat → Int32} {ps : Nat → Int32} {pl : Nat → Int64} {ph : Nat → Int64} {mm : Nat → Int64} {out : Nat → Int64} {i : Nat} {g : Nat → Int64} : x_up (x_F ad cA ((stp, psz, gk, gl, gh, opn, cki, ckl, mp, rk, rv, ri, chk), (mo, mi, ml, mk, mlo, mhi, pk, ps, pl, ph, mm), out)) (7, i) (.inl (cA 1, 12, .inr (.inl g))) = x_F ad cA ((stp, psz, gk, va_up gl i g, gh, opn, cki, ckl, mp, rk, rv, ri, chk), (mo, mi, ml, mk, mlo, mhi, pk, ps, pl, ph, mm), out) := by
  funext z
  obtain ⟨a, b⟩ := z
  by_cases h : ((a, b) : x_I) = (7, i)
  · cases h
    simp [x_up, x_F, x_cell, va_up, upd, vp_updL]
  · rw [x_up, if_neg h]
    unfold x_F x_cell
    split <;> first | rfl | exact absurd rfl h | (have h9 : ∀ b9 : Nat, b9 ≠ i ∨ b9 = i := fun b9 => (Decidable.em (b9 = i)).symm; simp_all [va_up])
theorem e_gh {ad : x_I → Nat} {cA : Nat → ClassId} {stp : Nat → Nat → Int32} {psz : Int32} {gk : Nat → Nat → Int32} {gl : Nat → Nat → Int64} {gh : Nat → Nat → Int64} {opn : Nat → Int32} {cki : Nat → Int32} {ckl : Nat → Int64} {mp : Nat → Nat → Int64} {rk : Nat → Int32} {rv : Nat → Int64} {ri : Nat → Int32} {chk : Int32} {mo : Nat → Nat → Int32} {mi : Nat → Int32} {ml : Nat → Int64} {mk : Nat → Int32} {mlo : Nat → Int64} {mhi : Nat → Int64} {pk : Nat → Int32} {ps : Nat → Int32} {pl : Nat → Int64} {ph : Nat → Int64} {mm : Nat → Int64} {out : Nat → Int64} {i : Nat} {g : Nat → Int64} : x_up (x_F ad cA ((stp, psz, gk, gl, gh, opn, cki, ckl, mp, rk, rv, ri, chk), (mo, mi, ml, mk, mlo, mhi, pk, ps, pl, ph, mm), out)) (8, i) (.inl (cA 1, 12, .inr (.inl g))) = x_F ad cA ((stp, psz, gk, gl, va_up gh i g, opn, cki, ckl, mp, rk, rv, ri, chk), (mo, mi, ml, mk, mlo, mhi, pk, ps, pl, ph, mm), out) := by
  funext z
  obtain ⟨a, b⟩ := z
  by_cases h : ((a, b) : x_I) = (8, i)
  · cases h
    simp [x_up, x_F, x_cell, va_up, upd, vp_updL]
  · rw [x_up, if_neg h]
    unfold x_F x_cell
    split <;> first | rfl | exact absurd rfl h | (have h9 : ∀ b9 : Nat, b9 ≠ i ∨ b9 = i := fun b9 => (Decidable.em (b9 = i)).symm; simp_all [va_up])
theorem e_opn {ad : x_I → Nat} {cA : Nat → ClassId} {stp : Nat → Nat → Int32} {psz : Int32} {gk : Nat → Nat → Int32} {gl : Nat → Nat → Int64} {gh : Nat → Nat → Int64} {opn : Nat → Int32} {cki : Nat → Int32} {ckl : Nat → Int64} {mp : Nat → Nat → Int64} {rk : Nat → Int32} {rv : Nat → Int64} {ri : Nat → Int32} {chk : Int32} {mo : Nat → Nat → Int32} {mi : Nat → Int32} {ml : Nat → Int64} {mk : Nat → Int32} {mlo : Nat → Int64} {mhi : Nat → Int64} {pk : Nat → Int32} {ps : Nat → Int32} {pl : Nat → Int64} {ph : Nat → Int64} {mm : Nat → Int64} {out : Nat → Int64} {g : Nat → Int32} : x_up (x_F ad cA ((stp, psz, gk, gl, gh, opn, cki, ckl, mp, rk, rv, ri, chk), (mo, mi, ml, mk, mlo, mhi, pk, ps, pl, ph, mm), out)) (12, 0) (.inl (cA 2, 24, .inl g)) = x_F ad cA ((stp, psz, gk, gl, gh, g, cki, ckl, mp, rk, rv, ri, chk), (mo, mi, ml, mk, mlo, mhi, pk, ps, pl, ph, mm), out) := by
  funext z
  obtain ⟨a, b⟩ := z
  by_cases h : ((a, b) : x_I) = (12, 0)
  · cases h
    simp [x_up, x_F, x_cell, va_up, upd, vp_updL]
  · rw [x_up, if_neg h]
    unfold x_F x_cell
    split <;> first | rfl | exact absurd rfl h | (have h9 : ∀ b9 : Nat, b9 ≠ 0 ∨ b9 = 0 := fun b9 => (Decidable.em (b9 = 0)).symm; simp_all [va_up])
theorem e_ri0 {ad : x_I → Nat} {cA : Nat → ClassId} {stp : Nat → Nat → Int32} {psz : Int32} {gk : Nat → Nat → Int32} {gl : Nat → Nat → Int64} {gh : Nat → Nat → Int64} {opn : Nat → Int32} {cki : Nat → Int32} {ckl : Nat → Int64} {mp : Nat → Nat → Int64} {rk : Nat → Int32} {rv : Nat → Int64} {ri : Nat → Int32} {chk : Int32} {mo : Nat → Nat → Int32} {mi : Nat → Int32} {ml : Nat → Int64} {mk : Nat → Int32} {mlo : Nat → Int64} {mhi : Nat → Int64} {pk : Nat → Int32} {ps : Nat → Int32} {pl : Nat → Int64} {ph : Nat → Int64} {mm : Nat → Int64} {out : Nat → Int64} {v : Int32} : x_up (x_F ad cA ((stp, psz, gk, gl, gh, opn, cki, ckl, mp, rk, rv, ri, chk), (mo, mi, ml, mk, mlo, mhi, pk, ps, pl, ph, mm), out)) (13, 0) (.inr (5, [.ref (ad (1, 0)), .ref (ad (14, 0)), .ref (ad (16, 0)), .ref (ad (17, 0)), .int v, .int (ri 1)])) = x_F ad cA ((stp, psz, gk, gl, gh, opn, cki, ckl, mp, rk, rv, upd ri 0 v, chk), (mo, mi, ml, mk, mlo, mhi, pk, ps, pl, ph, mm), out) := by
  funext z
  obtain ⟨a, b⟩ := z
  by_cases h : ((a, b) : x_I) = (13, 0)
  · cases h
    simp [x_up, x_F, x_cell, va_up, upd, vp_updL]
  · rw [x_up, if_neg h]
    unfold x_F x_cell
    split <;> first | rfl | exact absurd rfl h | (have h9 : ∀ b9 : Nat, b9 ≠ 0 ∨ b9 = 0 := fun b9 => (Decidable.em (b9 = 0)).symm; simp_all [va_up])
theorem e_ri1 {ad : x_I → Nat} {cA : Nat → ClassId} {stp : Nat → Nat → Int32} {psz : Int32} {gk : Nat → Nat → Int32} {gl : Nat → Nat → Int64} {gh : Nat → Nat → Int64} {opn : Nat → Int32} {cki : Nat → Int32} {ckl : Nat → Int64} {mp : Nat → Nat → Int64} {rk : Nat → Int32} {rv : Nat → Int64} {ri : Nat → Int32} {chk : Int32} {mo : Nat → Nat → Int32} {mi : Nat → Int32} {ml : Nat → Int64} {mk : Nat → Int32} {mlo : Nat → Int64} {mhi : Nat → Int64} {pk : Nat → Int32} {ps : Nat → Int32} {pl : Nat → Int64} {ph : Nat → Int64} {mm : Nat → Int64} {out : Nat → Int64} {v : Int32} : x_up (x_F ad cA ((stp, psz, gk, gl, gh, opn, cki, ckl, mp, rk, rv, ri, chk), (mo, mi, ml, mk, mlo, mhi, pk, ps, pl, ph, mm), out)) (13, 0) (.inr (5, [.ref (ad (1, 0)), .ref (ad (14, 0)), .ref (ad (16, 0)), .ref (ad (17, 0)), .int (ri 0), .int v])) = x_F ad cA ((stp, psz, gk, gl, gh, opn, cki, ckl, mp, rk, rv, upd ri 1 v, chk), (mo, mi, ml, mk, mlo, mhi, pk, ps, pl, ph, mm), out) := by
  funext z
  obtain ⟨a, b⟩ := z
  by_cases h : ((a, b) : x_I) = (13, 0)
  · cases h
    simp [x_up, x_F, x_cell, va_up, upd, vp_updL]
  · rw [x_up, if_neg h]
    unfold x_F x_cell
    split <;> first | rfl | exact absurd rfl h | (have h9 : ∀ b9 : Nat, b9 ≠ 0 ∨ b9 = 0 := fun b9 => (Decidable.em (b9 = 0)).symm; simp_all [va_up])
theorem e_mp {ad : x_I → Nat} {cA : Nat → ClassId} {stp : Nat → Nat → Int32} {psz : Int32} {gk : Nat → Nat → Int32} {gl : Nat → Nat → Int64} {gh : Nat → Nat → Int64} {opn : Nat → Int32} {cki : Nat → Int32} {ckl : Nat → Int64} {mp : Nat → Nat → Int64} {rk : Nat → Int32} {rv : Nat → Int64} {ri : Nat → Int32} {chk : Int32} {mo : Nat → Nat → Int32} {mi : Nat → Int32} {ml : Nat → Int64} {mk : Nat → Int32} {mlo : Nat → Int64} {mhi : Nat → Int64} {pk : Nat → Int32} {ps : Nat → Int32} {pl : Nat → Int64} {ph : Nat → Int64} {mm : Nat → Int64} {out : Nat → Int64} {i : Nat} {g : Nat → Int64} : x_up (x_F ad cA ((stp, psz, gk, gl, gh, opn, cki, ckl, mp, rk, rv, ri, chk), (mo, mi, ml, mk, mlo, mhi, pk, ps, pl, ph, mm), out)) (15, i) (.inl (cA 1, 2, .inr (.inl g))) = x_F ad cA ((stp, psz, gk, gl, gh, opn, cki, ckl, va_up mp i g, rk, rv, ri, chk), (mo, mi, ml, mk, mlo, mhi, pk, ps, pl, ph, mm), out) := by
  funext z
  obtain ⟨a, b⟩ := z
  by_cases h : ((a, b) : x_I) = (15, i)
  · cases h
    simp [x_up, x_F, x_cell, va_up, upd, vp_updL]
  · rw [x_up, if_neg h]
    unfold x_F x_cell
    split <;> first | rfl | exact absurd rfl h | (have h9 : ∀ b9 : Nat, b9 ≠ i ∨ b9 = i := fun b9 => (Decidable.em (b9 = i)).symm; simp_all [va_up])
theorem e_rk {ad : x_I → Nat} {cA : Nat → ClassId} {stp : Nat → Nat → Int32} {psz : Int32} {gk : Nat → Nat → Int32} {gl : Nat → Nat → Int64} {gh : Nat → Nat → Int64} {opn : Nat → Int32} {cki : Nat → Int32} {ckl : Nat → Int64} {mp : Nat → Nat → Int64} {rk : Nat → Int32} {rv : Nat → Int64} {ri : Nat → Int32} {chk : Int32} {mo : Nat → Nat → Int32} {mi : Nat → Int32} {ml : Nat → Int64} {mk : Nat → Int32} {mlo : Nat → Int64} {mhi : Nat → Int64} {pk : Nat → Int32} {ps : Nat → Int32} {pl : Nat → Int64} {ph : Nat → Int64} {mm : Nat → Int64} {out : Nat → Int64} {g : Nat → Int32} : x_up (x_F ad cA ((stp, psz, gk, gl, gh, opn, cki, ckl, mp, rk, rv, ri, chk), (mo, mi, ml, mk, mlo, mhi, pk, ps, pl, ph, mm), out)) (16, 0) (.inl (cA 0, 12, .inl g)) = x_F ad cA ((stp, psz, gk, gl, gh, opn, cki, ckl, mp, g, rv, ri, chk), (mo, mi, ml, mk, mlo, mhi, pk, ps, pl, ph, mm), out) := by
  funext z
  obtain ⟨a, b⟩ := z
  by_cases h : ((a, b) : x_I) = (16, 0)
  · cases h
    simp [x_up, x_F, x_cell, va_up, upd, vp_updL]
  · rw [x_up, if_neg h]
    unfold x_F x_cell
    split <;> first | rfl | exact absurd rfl h | (have h9 : ∀ b9 : Nat, b9 ≠ 0 ∨ b9 = 0 := fun b9 => (Decidable.em (b9 = 0)).symm; simp_all [va_up])
theorem e_rv {ad : x_I → Nat} {cA : Nat → ClassId} {stp : Nat → Nat → Int32} {psz : Int32} {gk : Nat → Nat → Int32} {gl : Nat → Nat → Int64} {gh : Nat → Nat → Int64} {opn : Nat → Int32} {cki : Nat → Int32} {ckl : Nat → Int64} {mp : Nat → Nat → Int64} {rk : Nat → Int32} {rv : Nat → Int64} {ri : Nat → Int32} {chk : Int32} {mo : Nat → Nat → Int32} {mi : Nat → Int32} {ml : Nat → Int64} {mk : Nat → Int32} {mlo : Nat → Int64} {mhi : Nat → Int64} {pk : Nat → Int32} {ps : Nat → Int32} {pl : Nat → Int64} {ph : Nat → Int64} {mm : Nat → Int64} {out : Nat → Int64} {g : Nat → Int64} : x_up (x_F ad cA ((stp, psz, gk, gl, gh, opn, cki, ckl, mp, rk, rv, ri, chk), (mo, mi, ml, mk, mlo, mhi, pk, ps, pl, ph, mm), out)) (17, 0) (.inl (cA 1, 12, .inr (.inl g))) = x_F ad cA ((stp, psz, gk, gl, gh, opn, cki, ckl, mp, rk, g, ri, chk), (mo, mi, ml, mk, mlo, mhi, pk, ps, pl, ph, mm), out) := by
  funext z
  obtain ⟨a, b⟩ := z
  by_cases h : ((a, b) : x_I) = (17, 0)
  · cases h
    simp [x_up, x_F, x_cell, va_up, upd, vp_updL]
  · rw [x_up, if_neg h]
    unfold x_F x_cell
    split <;> first | rfl | exact absurd rfl h | (have h9 : ∀ b9 : Nat, b9 ≠ 0 ∨ b9 = 0 := fun b9 => (Decidable.em (b9 = 0)).symm; simp_all [va_up])
theorem e_mi0 {ad : x_I → Nat} {cA : Nat → ClassId} {stp : Nat → Nat → Int32} {psz : Int32} {gk : Nat → Nat → Int32} {gl : Nat → Nat → Int64} {gh : Nat → Nat → Int64} {opn : Nat → Int32} {cki : Nat → Int32} {ckl : Nat → Int64} {mp : Nat → Nat → Int64} {rk : Nat → Int32} {rv : Nat → Int64} {ri : Nat → Int32} {chk : Int32} {mo : Nat → Nat → Int32} {mi : Nat → Int32} {ml : Nat → Int64} {mk : Nat → Int32} {mlo : Nat → Int64} {mhi : Nat → Int64} {pk : Nat → Int32} {ps : Nat → Int32} {pl : Nat → Int64} {ph : Nat → Int64} {mm : Nat → Int64} {out : Nat → Int64} {v : Int32} : x_up (x_F ad cA ((stp, psz, gk, gl, gh, opn, cki, ckl, mp, rk, rv, ri, chk), (mo, mi, ml, mk, mlo, mhi, pk, ps, pl, ph, mm), out)) (18, 0) (.inr (8, [.ref (ad (19, 0)), .ref (ad (20, 0)), .ref (ad (21, 0)), .ref (ad (22, 0)), .ref (ad (23, 0)), .int v, .int (mi 1), .int (mi 2), .int (mi 3), .int (mi 4), .int (mi 5), .int (mi 6), .int (mi 7), .int (mi 8), .long (ml 0), .long (ml 1), .ref (ad (24, 0)), .ref (ad (25, 0)), .ref (ad (26, 0)), .ref (ad (27, 0)), .ref (ad (28, 0)), .ref (ad (29, 0)), .ref (ad (30, 0)), .ref (ad (31, 0)), .int (mi 9), .int (mi 10)])) = x_F ad cA ((stp, psz, gk, gl, gh, opn, cki, ckl, mp, rk, rv, ri, chk), (mo, upd mi 0 v, ml, mk, mlo, mhi, pk, ps, pl, ph, mm), out) := by
  funext z
  obtain ⟨a, b⟩ := z
  by_cases h : ((a, b) : x_I) = (18, 0)
  · cases h
    simp [x_up, x_F, x_cell, va_up, upd, vp_updL]
  · rw [x_up, if_neg h]
    unfold x_F x_cell
    split <;> first | rfl | exact absurd rfl h | (have h9 : ∀ b9 : Nat, b9 ≠ 0 ∨ b9 = 0 := fun b9 => (Decidable.em (b9 = 0)).symm; simp_all [va_up])
theorem e_mi1 {ad : x_I → Nat} {cA : Nat → ClassId} {stp : Nat → Nat → Int32} {psz : Int32} {gk : Nat → Nat → Int32} {gl : Nat → Nat → Int64} {gh : Nat → Nat → Int64} {opn : Nat → Int32} {cki : Nat → Int32} {ckl : Nat → Int64} {mp : Nat → Nat → Int64} {rk : Nat → Int32} {rv : Nat → Int64} {ri : Nat → Int32} {chk : Int32} {mo : Nat → Nat → Int32} {mi : Nat → Int32} {ml : Nat → Int64} {mk : Nat → Int32} {mlo : Nat → Int64} {mhi : Nat → Int64} {pk : Nat → Int32} {ps : Nat → Int32} {pl : Nat → Int64} {ph : Nat → Int64} {mm : Nat → Int64} {out : Nat → Int64} {v : Int32} : x_up (x_F ad cA ((stp, psz, gk, gl, gh, opn, cki, ckl, mp, rk, rv, ri, chk), (mo, mi, ml, mk, mlo, mhi, pk, ps, pl, ph, mm), out)) (18, 0) (.inr (8, [.ref (ad (19, 0)), .ref (ad (20, 0)), .ref (ad (21, 0)), .ref (ad (22, 0)), .ref (ad (23, 0)), .int (mi 0), .int v, .int (mi 2), .int (mi 3), .int (mi 4), .int (mi 5), .int (mi 6), .int (mi 7), .int (mi 8), .long (ml 0), .long (ml 1), .ref (ad (24, 0)), .ref (ad (25, 0)), .ref (ad (26, 0)), .ref (ad (27, 0)), .ref (ad (28, 0)), .ref (ad (29, 0)), .ref (ad (30, 0)), .ref (ad (31, 0)), .int (mi 9), .int (mi 10)])) = x_F ad cA ((stp, psz, gk, gl, gh, opn, cki, ckl, mp, rk, rv, ri, chk), (mo, upd mi 1 v, ml, mk, mlo, mhi, pk, ps, pl, ph, mm), out) := by
  funext z
  obtain ⟨a, b⟩ := z
  by_cases h : ((a, b) : x_I) = (18, 0)
  · cases h
    simp [x_up, x_F, x_cell, va_up, upd, vp_updL]
  · rw [x_up, if_neg h]
    unfold x_F x_cell
    split <;> first | rfl | exact absurd rfl h | (have h9 : ∀ b9 : Nat, b9 ≠ 0 ∨ b9 = 0 := fun b9 => (Decidable.em (b9 = 0)).symm; simp_all [va_up])
theorem e_mi2 {ad : x_I → Nat} {cA : Nat → ClassId} {stp : Nat → Nat → Int32} {psz : Int32} {gk : Nat → Nat → Int32} {gl : Nat → Nat → Int64} {gh : Nat → Nat → Int64} {opn : Nat → Int32} {cki : Nat → Int32} {ckl : Nat → Int64} {mp : Nat → Nat → Int64} {rk : Nat → Int32} {rv : Nat → Int64} {ri : Nat → Int32} {chk : Int32} {mo : Nat → Nat → Int32} {mi : Nat → Int32} {ml : Nat → Int64} {mk : Nat → Int32} {mlo : Nat → Int64} {mhi : Nat → Int64} {pk : Nat → Int32} {ps : Nat → Int32} {pl : Nat → Int64} {ph : Nat → Int64} {mm : Nat → Int64} {out : Nat → Int64} {v : Int32} : x_up (x_F ad cA ((stp, psz, gk, gl, gh, opn, cki, ckl, mp, rk, rv, ri, chk), (mo, mi, ml, mk, mlo, mhi, pk, ps, pl, ph, mm), out)) (18, 0) (.inr (8, [.ref (ad (19, 0)), .ref (ad (20, 0)), .ref (ad (21, 0)), .ref (ad (22, 0)), .ref (ad (23, 0)), .int (mi 0), .int (mi 1), .int v, .int (mi 3), .int (mi 4), .int (mi 5), .int (mi 6), .int (mi 7), .int (mi 8), .long (ml 0), .long (ml 1), .ref (ad (24, 0)), .ref (ad (25, 0)), .ref (ad (26, 0)), .ref (ad (27, 0)), .ref (ad (28, 0)), .ref (ad (29, 0)), .ref (ad (30, 0)), .ref (ad (31, 0)), .int (mi 9), .int (mi 10)])) = x_F ad cA ((stp, psz, gk, gl, gh, opn, cki, ckl, mp, rk, rv, ri, chk), (mo, upd mi 2 v, ml, mk, mlo, mhi, pk, ps, pl, ph, mm), out) := by
  funext z
  obtain ⟨a, b⟩ := z
  by_cases h : ((a, b) : x_I) = (18, 0)
  · cases h
    simp [x_up, x_F, x_cell, va_up, upd, vp_updL]
  · rw [x_up, if_neg h]
    unfold x_F x_cell
    split <;> first | rfl | exact absurd rfl h | (have h9 : ∀ b9 : Nat, b9 ≠ 0 ∨ b9 = 0 := fun b9 => (Decidable.em (b9 = 0)).symm; simp_all [va_up])
theorem e_mi3 {ad : x_I → Nat} {cA : Nat → ClassId} {stp : Nat → Nat → Int32} {psz : Int32} {gk : Nat → Nat → Int32} {gl : Nat → Nat → Int64} {gh : Nat → Nat → Int64} {opn : Nat → Int32} {cki : Nat → Int32} {ckl : Nat → Int64} {mp : Nat → Nat → Int64} {rk : Nat → Int32} {rv : Nat → Int64} {ri : Nat → Int32} {chk : Int32} {mo : Nat → Nat → Int32} {mi : Nat → Int32} {ml : Nat → Int64} {mk : Nat → Int32} {mlo : Nat → Int64} {mhi : Nat → Int64} {pk : Nat → Int32} {ps : Nat → Int32} {pl : Nat → Int64} {ph : Nat → Int64} {mm : Nat → Int64} {out : Nat → Int64} {v : Int32} : x_up (x_F ad cA ((stp, psz, gk, gl, gh, opn, cki, ckl, mp, rk, rv, ri, chk), (mo, mi, ml, mk, mlo, mhi, pk, ps, pl, ph, mm), out)) (18, 0) (.inr (8, [.ref (ad (19, 0)), .ref (ad (20, 0)), .ref (ad (21, 0)), .ref (ad (22, 0)), .ref (ad (23, 0)), .int (mi 0), .int (mi 1), .int (mi 2), .int v, .int (mi 4), .int (mi 5), .int (mi 6), .int (mi 7), .int (mi 8), .long (ml 0), .long (ml 1), .ref (ad (24, 0)), .ref (ad (25, 0)), .ref (ad (26, 0)), .ref (ad (27, 0)), .ref (ad (28, 0)), .ref (ad (29, 0)), .ref (ad (30, 0)), .ref (ad (31, 0)), .int (mi 9), .int (mi 10)])) = x_F ad cA ((stp, psz, gk, gl, gh, opn, cki, ckl, mp, rk, rv, ri, chk), (mo, upd mi 3 v, ml, mk, mlo, mhi, pk, ps, pl, ph, mm), out) := by
  funext z
  obtain ⟨a, b⟩ := z
  by_cases h : ((a, b) : x_I) = (18, 0)
  · cases h
    simp [x_up, x_F, x_cell, va_up, upd, vp_updL]
  · rw [x_up, if_neg h]
    unfold x_F x_cell
    split <;> first | rfl | exact absurd rfl h | (have h9 : ∀ b9 : Nat, b9 ≠ 0 ∨ b9 = 0 := fun b9 => (Decidable.em (b9 = 0)).symm; simp_all [va_up])
theorem e_mi4 {ad : x_I → Nat} {cA : Nat → ClassId} {stp : Nat → Nat → Int32} {psz : Int32} {gk : Nat → Nat → Int32} {gl : Nat → Nat → Int64} {gh : Nat → Nat → Int64} {opn : Nat → Int32} {cki : Nat → Int32} {ckl : Nat → Int64} {mp : Nat → Nat → Int64} {rk : Nat → Int32} {rv : Nat → Int64} {ri : Nat → Int32} {chk : Int32} {mo : Nat → Nat → Int32} {mi : Nat → Int32} {ml : Nat → Int64} {mk : Nat → Int32} {mlo : Nat → Int64} {mhi : Nat → Int64} {pk : Nat → Int32} {ps : Nat → Int32} {pl : Nat → Int64} {ph : Nat → Int64} {mm : Nat → Int64} {out : Nat → Int64} {v : Int32} : x_up (x_F ad cA ((stp, psz, gk, gl, gh, opn, cki, ckl, mp, rk, rv, ri, chk), (mo, mi, ml, mk, mlo, mhi, pk, ps, pl, ph, mm), out)) (18, 0) (.inr (8, [.ref (ad (19, 0)), .ref (ad (20, 0)), .ref (ad (21, 0)), .ref (ad (22, 0)), .ref (ad (23, 0)), .int (mi 0), .int (mi 1), .int (mi 2), .int (mi 3), .int v, .int (mi 5), .int (mi 6), .int (mi 7), .int (mi 8), .long (ml 0), .long (ml 1), .ref (ad (24, 0)), .ref (ad (25, 0)), .ref (ad (26, 0)), .ref (ad (27, 0)), .ref (ad (28, 0)), .ref (ad (29, 0)), .ref (ad (30, 0)), .ref (ad (31, 0)), .int (mi 9), .int (mi 10)])) = x_F ad cA ((stp, psz, gk, gl, gh, opn, cki, ckl, mp, rk, rv, ri, chk), (mo, upd mi 4 v, ml, mk, mlo, mhi, pk, ps, pl, ph, mm), out) := by
  funext z
  obtain ⟨a, b⟩ := z
  by_cases h : ((a, b) : x_I) = (18, 0)
  · cases h
    simp [x_up, x_F, x_cell, va_up, upd, vp_updL]
  · rw [x_up, if_neg h]
    unfold x_F x_cell
    split <;> first | rfl | exact absurd rfl h | (have h9 : ∀ b9 : Nat, b9 ≠ 0 ∨ b9 = 0 := fun b9 => (Decidable.em (b9 = 0)).symm; simp_all [va_up])
theorem e_mi5 {ad : x_I → Nat} {cA : Nat → ClassId} {stp : Nat → Nat → Int32} {psz : Int32} {gk : Nat → Nat → Int32} {gl : Nat → Nat → Int64} {gh : Nat → Nat → Int64} {opn : Nat → Int32} {cki : Nat → Int32} {ckl : Nat → Int64} {mp : Nat → Nat → Int64} {rk : Nat → Int32} {rv : Nat → Int64} {ri : Nat → Int32} {chk : Int32} {mo : Nat → Nat → Int32} {mi : Nat → Int32} {ml : Nat → Int64} {mk : Nat → Int32} {mlo : Nat → Int64} {mhi : Nat → Int64} {pk : Nat → Int32} {ps : Nat → Int32} {pl : Nat → Int64} {ph : Nat → Int64} {mm : Nat → Int64} {out : Nat → Int64} {v : Int32} : x_up (x_F ad cA ((stp, psz, gk, gl, gh, opn, cki, ckl, mp, rk, rv, ri, chk), (mo, mi, ml, mk, mlo, mhi, pk, ps, pl, ph, mm), out)) (18, 0) (.inr (8, [.ref (ad (19, 0)), .ref (ad (20, 0)), .ref (ad (21, 0)), .ref (ad (22, 0)), .ref (ad (23, 0)), .int (mi 0), .int (mi 1), .int (mi 2), .int (mi 3), .int (mi 4), .int v, .int (mi 6), .int (mi 7), .int (mi 8), .long (ml 0), .long (ml 1), .ref (ad (24, 0)), .ref (ad (25, 0)), .ref (ad (26, 0)), .ref (ad (27, 0)), .ref (ad (28, 0)), .ref (ad (29, 0)), .ref (ad (30, 0)), .ref (ad (31, 0)), .int (mi 9), .int (mi 10)])) = x_F ad cA ((stp, psz, gk, gl, gh, opn, cki, ckl, mp, rk, rv, ri, chk), (mo, upd mi 5 v, ml, mk, mlo, mhi, pk, ps, pl, ph, mm), out) := by
  funext z
  obtain ⟨a, b⟩ := z
  by_cases h : ((a, b) : x_I) = (18, 0)
  · cases h
    simp [x_up, x_F, x_cell, va_up, upd, vp_updL]
  · rw [x_up, if_neg h]
    unfold x_F x_cell
    split <;> first | rfl | exact absurd rfl h | (have h9 : ∀ b9 : Nat, b9 ≠ 0 ∨ b9 = 0 := fun b9 => (Decidable.em (b9 = 0)).symm; simp_all [va_up])
theorem e_mi6 {ad : x_I → Nat} {cA : Nat → ClassId} {stp : Nat → Nat → Int32} {psz : Int32} {gk : Nat → Nat → Int32} {gl : Nat → Nat → Int64} {gh : Nat → Nat → Int64} {opn : Nat → Int32} {cki : Nat → Int32} {ckl : Nat → Int64} {mp : Nat → Nat → Int64} {rk : Nat → Int32} {rv : Nat → Int64} {ri : Nat → Int32} {chk : Int32} {mo : Nat → Nat → Int32} {mi : Nat → Int32} {ml : Nat → Int64} {mk : Nat → Int32} {mlo : Nat → Int64} {mhi : Nat → Int64} {pk : Nat → Int32} {ps : Nat → Int32} {pl : Nat → Int64} {ph : Nat → Int64} {mm : Nat → Int64} {out : Nat → Int64} {v : Int32} : x_up (x_F ad cA ((stp, psz, gk, gl, gh, opn, cki, ckl, mp, rk, rv, ri, chk), (mo, mi, ml, mk, mlo, mhi, pk, ps, pl, ph, mm), out)) (18, 0) (.inr (8, [.ref (ad (19, 0)), .ref (ad (20, 0)), .ref (ad (21, 0)), .ref (ad (22, 0)), .ref (ad (23, 0)), .int (mi 0), .int (mi 1), .int (mi 2), .int (mi 3), .int (mi 4), .int (mi 5), .int v, .int (mi 7), .int (mi 8), .long (ml 0), .long (ml 1), .ref (ad (24, 0)), .ref (ad (25, 0)), .ref (ad (26, 0)), .ref (ad (27, 0)), .ref (ad (28, 0)), .ref (ad (29, 0)), .ref (ad (30, 0)), .ref (ad (31, 0)), .int (mi 9), .int (mi 10)])) = x_F ad cA ((stp, psz, gk, gl, gh, opn, cki, ckl, mp, rk, rv, ri, chk), (mo, upd mi 6 v, ml, mk, mlo, mhi, pk, ps, pl, ph, mm), out) := by
  funext z
  obtain ⟨a, b⟩ := z
  by_cases h : ((a, b) : x_I) = (18, 0)
  · cases h
    simp [x_up, x_F, x_cell, va_up, upd, vp_updL]
  · rw [x_up, if_neg h]
    unfold x_F x_cell
    split <;> first | rfl | exact absurd rfl h | (have h9 : ∀ b9 : Nat, b9 ≠ 0 ∨ b9 = 0 := fun b9 => (Decidable.em (b9 = 0)).symm; simp_all [va_up])
theorem e_mi7 {ad : x_I → Nat} {cA : Nat → ClassId} {stp : Nat → Nat → Int32} {psz : Int32} {gk : Nat → Nat → Int32} {gl : Nat → Nat → Int64} {gh : Nat → Nat → Int64} {opn : Nat → Int32} {cki : Nat → Int32} {ckl : Nat → Int64} {mp : Nat → Nat → Int64} {rk : Nat → Int32} {rv : Nat → Int64} {ri : Nat → Int32} {chk : Int32} {mo : Nat → Nat → Int32} {mi : Nat → Int32} {ml : Nat → Int64} {mk : Nat → Int32} {mlo : Nat → Int64} {mhi : Nat → Int64} {pk : Nat → Int32} {ps : Nat → Int32} {pl : Nat → Int64} {ph : Nat → Int64} {mm : Nat → Int64} {out : Nat → Int64} {v : Int32} : x_up (x_F ad cA ((stp, psz, gk, gl, gh, opn, cki, ckl, mp, rk, rv, ri, chk), (mo, mi, ml, mk, mlo, mhi, pk, ps, pl, ph, mm), out)) (18, 0) (.inr (8, [.ref (ad (19, 0)), .ref (ad (20, 0)), .ref (ad (21, 0)), .ref (ad (22, 0)), .ref (ad (23, 0)), .int (mi 0), .int (mi 1), .int (mi 2), .int (mi 3), .int (mi 4), .int (mi 5), .int (mi 6), .int v, .int (mi 8), .long (ml 0), .long (ml 1), .ref (ad (24, 0)), .ref (ad (25, 0)), .ref (ad (26, 0)), .ref (ad (27, 0)), .ref (ad (28, 0)), .ref (ad (29, 0)), .ref (ad (30, 0)), .ref (ad (31, 0)), .int (mi 9), .int (mi 10)])) = x_F ad cA ((stp, psz, gk, gl, gh, opn, cki, ckl, mp, rk, rv, ri, chk), (mo, upd mi 7 v, ml, mk, mlo, mhi, pk, ps, pl, ph, mm), out) := by
  funext z
  obtain ⟨a, b⟩ := z
  by_cases h : ((a, b) : x_I) = (18, 0)
  · cases h
    simp [x_up, x_F, x_cell, va_up, upd, vp_updL]
  · rw [x_up, if_neg h]
    unfold x_F x_cell
    split <;> first | rfl | exact absurd rfl h | (have h9 : ∀ b9 : Nat, b9 ≠ 0 ∨ b9 = 0 := fun b9 => (Decidable.em (b9 = 0)).symm; simp_all [va_up])
theorem e_mi8 {ad : x_I → Nat} {cA : Nat → ClassId} {stp : Nat → Nat → Int32} {psz : Int32} {gk : Nat → Nat → Int32} {gl : Nat → Nat → Int64} {gh : Nat → Nat → Int64} {opn : Nat → Int32} {cki : Nat → Int32} {ckl : Nat → Int64} {mp : Nat → Nat → Int64} {rk : Nat → Int32} {rv : Nat → Int64} {ri : Nat → Int32} {chk : Int32} {mo : Nat → Nat → Int32} {mi : Nat → Int32} {ml : Nat → Int64} {mk : Nat → Int32} {mlo : Nat → Int64} {mhi : Nat → Int64} {pk : Nat → Int32} {ps : Nat → Int32} {pl : Nat → Int64} {ph : Nat → Int64} {mm : Nat → Int64} {out : Nat → Int64} {v : Int32} : x_up (x_F ad cA ((stp, psz, gk, gl, gh, opn, cki, ckl, mp, rk, rv, ri, chk), (mo, mi, ml, mk, mlo, mhi, pk, ps, pl, ph, mm), out)) (18, 0) (.inr (8, [.ref (ad (19, 0)), .ref (ad (20, 0)), .ref (ad (21, 0)), .ref (ad (22, 0)), .ref (ad (23, 0)), .int (mi 0), .int (mi 1), .int (mi 2), .int (mi 3), .int (mi 4), .int (mi 5), .int (mi 6), .int (mi 7), .int v, .long (ml 0), .long (ml 1), .ref (ad (24, 0)), .ref (ad (25, 0)), .ref (ad (26, 0)), .ref (ad (27, 0)), .ref (ad (28, 0)), .ref (ad (29, 0)), .ref (ad (30, 0)), .ref (ad (31, 0)), .int (mi 9), .int (mi 10)])) = x_F ad cA ((stp, psz, gk, gl, gh, opn, cki, ckl, mp, rk, rv, ri, chk), (mo, upd mi 8 v, ml, mk, mlo, mhi, pk, ps, pl, ph, mm), out) := by
  funext z
  obtain ⟨a, b⟩ := z
  by_cases h : ((a, b) : x_I) = (18, 0)
  · cases h
    simp [x_up, x_F, x_cell, va_up, upd, vp_updL]
  · rw [x_up, if_neg h]
    unfold x_F x_cell
    split <;> first | rfl | exact absurd rfl h | (have h9 : ∀ b9 : Nat, b9 ≠ 0 ∨ b9 = 0 := fun b9 => (Decidable.em (b9 = 0)).symm; simp_all [va_up])
theorem e_mi9 {ad : x_I → Nat} {cA : Nat → ClassId} {stp : Nat → Nat → Int32} {psz : Int32} {gk : Nat → Nat → Int32} {gl : Nat → Nat → Int64} {gh : Nat → Nat → Int64} {opn : Nat → Int32} {cki : Nat → Int32} {ckl : Nat → Int64} {mp : Nat → Nat → Int64} {rk : Nat → Int32} {rv : Nat → Int64} {ri : Nat → Int32} {chk : Int32} {mo : Nat → Nat → Int32} {mi : Nat → Int32} {ml : Nat → Int64} {mk : Nat → Int32} {mlo : Nat → Int64} {mhi : Nat → Int64} {pk : Nat → Int32} {ps : Nat → Int32} {pl : Nat → Int64} {ph : Nat → Int64} {mm : Nat → Int64} {out : Nat → Int64} {v : Int32} : x_up (x_F ad cA ((stp, psz, gk, gl, gh, opn, cki, ckl, mp, rk, rv, ri, chk), (mo, mi, ml, mk, mlo, mhi, pk, ps, pl, ph, mm), out)) (18, 0) (.inr (8, [.ref (ad (19, 0)), .ref (ad (20, 0)), .ref (ad (21, 0)), .ref (ad (22, 0)), .ref (ad (23, 0)), .int (mi 0), .int (mi 1), .int (mi 2), .int (mi 3), .int (mi 4), .int (mi 5), .int (mi 6), .int (mi 7), .int (mi 8), .long (ml 0), .long (ml 1), .ref (ad (24, 0)), .ref (ad (25, 0)), .ref (ad (26, 0)), .ref (ad (27, 0)), .ref (ad (28, 0)), .ref (ad (29, 0)), .ref (ad (30, 0)), .ref (ad (31, 0)), .int v, .int (mi 10)])) = x_F ad cA ((stp, psz, gk, gl, gh, opn, cki, ckl, mp, rk, rv, ri, chk), (mo, upd mi 9 v, ml, mk, mlo, mhi, pk, ps, pl, ph, mm), out) := by
  funext z
  obtain ⟨a, b⟩ := z
  by_cases h : ((a, b) : x_I) = (18, 0)
  · cases h
    simp [x_up, x_F, x_cell, va_up, upd, vp_updL]
  · rw [x_up, if_neg h]
    unfold x_F x_cell
    split <;> first | rfl | exact absurd rfl h | (have h9 : ∀ b9 : Nat, b9 ≠ 0 ∨ b9 = 0 := fun b9 => (Decidable.em (b9 = 0)).symm; simp_all [va_up])
theorem e_mi10 {ad : x_I → Nat} {cA : Nat → ClassId} {stp : Nat → Nat → Int32} {psz : Int32} {gk : Nat → Nat → Int32} {gl : Nat → Nat → Int64} {gh : Nat → Nat → Int64} {opn : Nat → Int32} {cki : Nat → Int32} {ckl : Nat → Int64} {mp : Nat → Nat → Int64} {rk : Nat → Int32} {rv : Nat → Int64} {ri : Nat → Int32} {chk : Int32} {mo : Nat → Nat → Int32} {mi : Nat → Int32} {ml : Nat → Int64} {mk : Nat → Int32} {mlo : Nat → Int64} {mhi : Nat → Int64} {pk : Nat → Int32} {ps : Nat → Int32} {pl : Nat → Int64} {ph : Nat → Int64} {mm : Nat → Int64} {out : Nat → Int64} {v : Int32} : x_up (x_F ad cA ((stp, psz, gk, gl, gh, opn, cki, ckl, mp, rk, rv, ri, chk), (mo, mi, ml, mk, mlo, mhi, pk, ps, pl, ph, mm), out)) (18, 0) (.inr (8, [.ref (ad (19, 0)), .ref (ad (20, 0)), .ref (ad (21, 0)), .ref (ad (22, 0)), .ref (ad (23, 0)), .int (mi 0), .int (mi 1), .int (mi 2), .int (mi 3), .int (mi 4), .int (mi 5), .int (mi 6), .int (mi 7), .int (mi 8), .long (ml 0), .long (ml 1), .ref (ad (24, 0)), .ref (ad (25, 0)), .ref (ad (26, 0)), .ref (ad (27, 0)), .ref (ad (28, 0)), .ref (ad (29, 0)), .ref (ad (30, 0)), .ref (ad (31, 0)), .int (mi 9), .int v])) = x_F ad cA ((stp, psz, gk, gl, gh, opn, cki, ckl, mp, rk, rv, ri, chk), (mo, upd mi 10 v, ml, mk, mlo, mhi, pk, ps, pl, ph, mm), out) := by
  funext z
  obtain ⟨a, b⟩ := z
  by_cases h : ((a, b) : x_I) = (18, 0)
  · cases h
    simp [x_up, x_F, x_cell, va_up, upd, vp_updL]
  · rw [x_up, if_neg h]
    unfold x_F x_cell
    split <;> first | rfl | exact absurd rfl h | (have h9 : ∀ b9 : Nat, b9 ≠ 0 ∨ b9 = 0 := fun b9 => (Decidable.em (b9 = 0)).symm; simp_all [va_up])
theorem e_ml0 {ad : x_I → Nat} {cA : Nat → ClassId} {stp : Nat → Nat → Int32} {psz : Int32} {gk : Nat → Nat → Int32} {gl : Nat → Nat → Int64} {gh : Nat → Nat → Int64} {opn : Nat → Int32} {cki : Nat → Int32} {ckl : Nat → Int64} {mp : Nat → Nat → Int64} {rk : Nat → Int32} {rv : Nat → Int64} {ri : Nat → Int32} {chk : Int32} {mo : Nat → Nat → Int32} {mi : Nat → Int32} {ml : Nat → Int64} {mk : Nat → Int32} {mlo : Nat → Int64} {mhi : Nat → Int64} {pk : Nat → Int32} {ps : Nat → Int32} {pl : Nat → Int64} {ph : Nat → Int64} {mm : Nat → Int64} {out : Nat → Int64} {v : Int64} : x_up (x_F ad cA ((stp, psz, gk, gl, gh, opn, cki, ckl, mp, rk, rv, ri, chk), (mo, mi, ml, mk, mlo, mhi, pk, ps, pl, ph, mm), out)) (18, 0) (.inr (8, [.ref (ad (19, 0)), .ref (ad (20, 0)), .ref (ad (21, 0)), .ref (ad (22, 0)), .ref (ad (23, 0)), .int (mi 0), .int (mi 1), .int (mi 2), .int (mi 3), .int (mi 4), .int (mi 5), .int (mi 6), .int (mi 7), .int (mi 8), .long v, .long (ml 1), .ref (ad (24, 0)), .ref (ad (25, 0)), .ref (ad (26, 0)), .ref (ad (27, 0)), .ref (ad (28, 0)), .ref (ad (29, 0)), .ref (ad (30, 0)), .ref (ad (31, 0)), .int (mi 9), .int (mi 10)])) = x_F ad cA ((stp, psz, gk, gl, gh, opn, cki, ckl, mp, rk, rv, ri, chk), (mo, mi, vp_updL ml 0 v, mk, mlo, mhi, pk, ps, pl, ph, mm), out) := by
  funext z
  obtain ⟨a, b⟩ := z
  by_cases h : ((a, b) : x_I) = (18, 0)
  · cases h
    simp [x_up, x_F, x_cell, va_up, upd, vp_updL]
  · rw [x_up, if_neg h]
    unfold x_F x_cell
    split <;> first | rfl | exact absurd rfl h | (have h9 : ∀ b9 : Nat, b9 ≠ 0 ∨ b9 = 0 := fun b9 => (Decidable.em (b9 = 0)).symm; simp_all [va_up])
theorem e_ml1 {ad : x_I → Nat} {cA : Nat → ClassId} {stp : Nat → Nat → Int32} {psz : Int32} {gk : Nat → Nat → Int32} {gl : Nat → Nat → Int64} {gh : Nat → Nat → Int64} {opn : Nat → Int32} {cki : Nat → Int32} {ckl : Nat → Int64} {mp : Nat → Nat → Int64} {rk : Nat → Int32} {rv : Nat → Int64} {ri : Nat → Int32} {chk : Int32} {mo : Nat → Nat → Int32} {mi : Nat → Int32} {ml : Nat → Int64} {mk : Nat → Int32} {mlo : Nat → Int64} {mhi : Nat → Int64} {pk : Nat → Int32} {ps : Nat → Int32} {pl : Nat → Int64} {ph : Nat → Int64} {mm : Nat → Int64} {out : Nat → Int64} {v : Int64} : x_up (x_F ad cA ((stp, psz, gk, gl, gh, opn, cki, ckl, mp, rk, rv, ri, chk), (mo, mi, ml, mk, mlo, mhi, pk, ps, pl, ph, mm), out)) (18, 0) (.inr (8, [.ref (ad (19, 0)), .ref (ad (20, 0)), .ref (ad (21, 0)), .ref (ad (22, 0)), .ref (ad (23, 0)), .int (mi 0), .int (mi 1), .int (mi 2), .int (mi 3), .int (mi 4), .int (mi 5), .int (mi 6), .int (mi 7), .int (mi 8), .long (ml 0), .long v, .ref (ad (24, 0)), .ref (ad (25, 0)), .ref (ad (26, 0)), .ref (ad (27, 0)), .ref (ad (28, 0)), .ref (ad (29, 0)), .ref (ad (30, 0)), .ref (ad (31, 0)), .int (mi 9), .int (mi 10)])) = x_F ad cA ((stp, psz, gk, gl, gh, opn, cki, ckl, mp, rk, rv, ri, chk), (mo, mi, vp_updL ml 1 v, mk, mlo, mhi, pk, ps, pl, ph, mm), out) := by
  funext z
  obtain ⟨a, b⟩ := z
  by_cases h : ((a, b) : x_I) = (18, 0)
  · cases h
    simp [x_up, x_F, x_cell, va_up, upd, vp_updL]
  · rw [x_up, if_neg h]
    unfold x_F x_cell
    split <;> first | rfl | exact absurd rfl h | (have h9 : ∀ b9 : Nat, b9 ≠ 0 ∨ b9 = 0 := fun b9 => (Decidable.em (b9 = 0)).symm; simp_all [va_up])
theorem e_mo0 {ad : x_I → Nat} {cA : Nat → ClassId} {stp : Nat → Nat → Int32} {psz : Int32} {gk : Nat → Nat → Int32} {gl : Nat → Nat → Int64} {gh : Nat → Nat → Int64} {opn : Nat → Int32} {cki : Nat → Int32} {ckl : Nat → Int64} {mp : Nat → Nat → Int64} {rk : Nat → Int32} {rv : Nat → Int64} {ri : Nat → Int32} {chk : Int32} {mo : Nat → Nat → Int32} {mi : Nat → Int32} {ml : Nat → Int64} {mk : Nat → Int32} {mlo : Nat → Int64} {mhi : Nat → Int64} {pk : Nat → Int32} {ps : Nat → Int32} {pl : Nat → Int64} {ph : Nat → Int64} {mm : Nat → Int64} {out : Nat → Int64} {g : Nat → Int32} : x_up (x_F ad cA ((stp, psz, gk, gl, gh, opn, cki, ckl, mp, rk, rv, ri, chk), (mo, mi, ml, mk, mlo, mhi, pk, ps, pl, ph, mm), out)) (19, 0) (.inl (cA 0, 24, .inl g)) = x_F ad cA ((stp, psz, gk, gl, gh, opn, cki, ckl, mp, rk, rv, ri, chk), (va_up mo 0 g, mi, ml, mk, mlo, mhi, pk, ps, pl, ph, mm), out) := by
  funext z
  obtain ⟨a, b⟩ := z
  by_cases h : ((a, b) : x_I) = (19, 0)
  · cases h
    simp [x_up, x_F, x_cell, va_up, upd, vp_updL]
  · rw [x_up, if_neg h]
    unfold x_F x_cell
    split <;> first | rfl | exact absurd rfl h | (have h9 : ∀ b9 : Nat, b9 ≠ 0 ∨ b9 = 0 := fun b9 => (Decidable.em (b9 = 0)).symm; simp_all [va_up])
theorem e_mo1 {ad : x_I → Nat} {cA : Nat → ClassId} {stp : Nat → Nat → Int32} {psz : Int32} {gk : Nat → Nat → Int32} {gl : Nat → Nat → Int64} {gh : Nat → Nat → Int64} {opn : Nat → Int32} {cki : Nat → Int32} {ckl : Nat → Int64} {mp : Nat → Nat → Int64} {rk : Nat → Int32} {rv : Nat → Int64} {ri : Nat → Int32} {chk : Int32} {mo : Nat → Nat → Int32} {mi : Nat → Int32} {ml : Nat → Int64} {mk : Nat → Int32} {mlo : Nat → Int64} {mhi : Nat → Int64} {pk : Nat → Int32} {ps : Nat → Int32} {pl : Nat → Int64} {ph : Nat → Int64} {mm : Nat → Int64} {out : Nat → Int64} {g : Nat → Int32} : x_up (x_F ad cA ((stp, psz, gk, gl, gh, opn, cki, ckl, mp, rk, rv, ri, chk), (mo, mi, ml, mk, mlo, mhi, pk, ps, pl, ph, mm), out)) (20, 0) (.inl (cA 0, 24, .inl g)) = x_F ad cA ((stp, psz, gk, gl, gh, opn, cki, ckl, mp, rk, rv, ri, chk), (va_up mo 1 g, mi, ml, mk, mlo, mhi, pk, ps, pl, ph, mm), out) := by
  funext z
  obtain ⟨a, b⟩ := z
  by_cases h : ((a, b) : x_I) = (20, 0)
  · cases h
    simp [x_up, x_F, x_cell, va_up, upd, vp_updL]
  · rw [x_up, if_neg h]
    unfold x_F x_cell
    split <;> first | rfl | exact absurd rfl h | (have h9 : ∀ b9 : Nat, b9 ≠ 0 ∨ b9 = 0 := fun b9 => (Decidable.em (b9 = 0)).symm; simp_all [va_up])
theorem e_mo2 {ad : x_I → Nat} {cA : Nat → ClassId} {stp : Nat → Nat → Int32} {psz : Int32} {gk : Nat → Nat → Int32} {gl : Nat → Nat → Int64} {gh : Nat → Nat → Int64} {opn : Nat → Int32} {cki : Nat → Int32} {ckl : Nat → Int64} {mp : Nat → Nat → Int64} {rk : Nat → Int32} {rv : Nat → Int64} {ri : Nat → Int32} {chk : Int32} {mo : Nat → Nat → Int32} {mi : Nat → Int32} {ml : Nat → Int64} {mk : Nat → Int32} {mlo : Nat → Int64} {mhi : Nat → Int64} {pk : Nat → Int32} {ps : Nat → Int32} {pl : Nat → Int64} {ph : Nat → Int64} {mm : Nat → Int64} {out : Nat → Int64} {g : Nat → Int32} : x_up (x_F ad cA ((stp, psz, gk, gl, gh, opn, cki, ckl, mp, rk, rv, ri, chk), (mo, mi, ml, mk, mlo, mhi, pk, ps, pl, ph, mm), out)) (21, 0) (.inl (cA 0, 24, .inl g)) = x_F ad cA ((stp, psz, gk, gl, gh, opn, cki, ckl, mp, rk, rv, ri, chk), (va_up mo 2 g, mi, ml, mk, mlo, mhi, pk, ps, pl, ph, mm), out) := by
  funext z
  obtain ⟨a, b⟩ := z
  by_cases h : ((a, b) : x_I) = (21, 0)
  · cases h
    simp [x_up, x_F, x_cell, va_up, upd, vp_updL]
  · rw [x_up, if_neg h]
    unfold x_F x_cell
    split <;> first | rfl | exact absurd rfl h | (have h9 : ∀ b9 : Nat, b9 ≠ 0 ∨ b9 = 0 := fun b9 => (Decidable.em (b9 = 0)).symm; simp_all [va_up])
theorem e_mo3 {ad : x_I → Nat} {cA : Nat → ClassId} {stp : Nat → Nat → Int32} {psz : Int32} {gk : Nat → Nat → Int32} {gl : Nat → Nat → Int64} {gh : Nat → Nat → Int64} {opn : Nat → Int32} {cki : Nat → Int32} {ckl : Nat → Int64} {mp : Nat → Nat → Int64} {rk : Nat → Int32} {rv : Nat → Int64} {ri : Nat → Int32} {chk : Int32} {mo : Nat → Nat → Int32} {mi : Nat → Int32} {ml : Nat → Int64} {mk : Nat → Int32} {mlo : Nat → Int64} {mhi : Nat → Int64} {pk : Nat → Int32} {ps : Nat → Int32} {pl : Nat → Int64} {ph : Nat → Int64} {mm : Nat → Int64} {out : Nat → Int64} {g : Nat → Int32} : x_up (x_F ad cA ((stp, psz, gk, gl, gh, opn, cki, ckl, mp, rk, rv, ri, chk), (mo, mi, ml, mk, mlo, mhi, pk, ps, pl, ph, mm), out)) (22, 0) (.inl (cA 0, 24, .inl g)) = x_F ad cA ((stp, psz, gk, gl, gh, opn, cki, ckl, mp, rk, rv, ri, chk), (va_up mo 3 g, mi, ml, mk, mlo, mhi, pk, ps, pl, ph, mm), out) := by
  funext z
  obtain ⟨a, b⟩ := z
  by_cases h : ((a, b) : x_I) = (22, 0)
  · cases h
    simp [x_up, x_F, x_cell, va_up, upd, vp_updL]
  · rw [x_up, if_neg h]
    unfold x_F x_cell
    split <;> first | rfl | exact absurd rfl h | (have h9 : ∀ b9 : Nat, b9 ≠ 0 ∨ b9 = 0 := fun b9 => (Decidable.em (b9 = 0)).symm; simp_all [va_up])
theorem e_mo4 {ad : x_I → Nat} {cA : Nat → ClassId} {stp : Nat → Nat → Int32} {psz : Int32} {gk : Nat → Nat → Int32} {gl : Nat → Nat → Int64} {gh : Nat → Nat → Int64} {opn : Nat → Int32} {cki : Nat → Int32} {ckl : Nat → Int64} {mp : Nat → Nat → Int64} {rk : Nat → Int32} {rv : Nat → Int64} {ri : Nat → Int32} {chk : Int32} {mo : Nat → Nat → Int32} {mi : Nat → Int32} {ml : Nat → Int64} {mk : Nat → Int32} {mlo : Nat → Int64} {mhi : Nat → Int64} {pk : Nat → Int32} {ps : Nat → Int32} {pl : Nat → Int64} {ph : Nat → Int64} {mm : Nat → Int64} {out : Nat → Int64} {g : Nat → Int32} : x_up (x_F ad cA ((stp, psz, gk, gl, gh, opn, cki, ckl, mp, rk, rv, ri, chk), (mo, mi, ml, mk, mlo, mhi, pk, ps, pl, ph, mm), out)) (23, 0) (.inl (cA 0, 24, .inl g)) = x_F ad cA ((stp, psz, gk, gl, gh, opn, cki, ckl, mp, rk, rv, ri, chk), (va_up mo 4 g, mi, ml, mk, mlo, mhi, pk, ps, pl, ph, mm), out) := by
  funext z
  obtain ⟨a, b⟩ := z
  by_cases h : ((a, b) : x_I) = (23, 0)
  · cases h
    simp [x_up, x_F, x_cell, va_up, upd, vp_updL]
  · rw [x_up, if_neg h]
    unfold x_F x_cell
    split <;> first | rfl | exact absurd rfl h | (have h9 : ∀ b9 : Nat, b9 ≠ 0 ∨ b9 = 0 := fun b9 => (Decidable.em (b9 = 0)).symm; simp_all [va_up])
theorem e_mk {ad : x_I → Nat} {cA : Nat → ClassId} {stp : Nat → Nat → Int32} {psz : Int32} {gk : Nat → Nat → Int32} {gl : Nat → Nat → Int64} {gh : Nat → Nat → Int64} {opn : Nat → Int32} {cki : Nat → Int32} {ckl : Nat → Int64} {mp : Nat → Nat → Int64} {rk : Nat → Int32} {rv : Nat → Int64} {ri : Nat → Int32} {chk : Int32} {mo : Nat → Nat → Int32} {mi : Nat → Int32} {ml : Nat → Int64} {mk : Nat → Int32} {mlo : Nat → Int64} {mhi : Nat → Int64} {pk : Nat → Int32} {ps : Nat → Int32} {pl : Nat → Int64} {ph : Nat → Int64} {mm : Nat → Int64} {out : Nat → Int64} {g : Nat → Int32} : x_up (x_F ad cA ((stp, psz, gk, gl, gh, opn, cki, ckl, mp, rk, rv, ri, chk), (mo, mi, ml, mk, mlo, mhi, pk, ps, pl, ph, mm), out)) (24, 0) (.inl (cA 0, 12, .inl g)) = x_F ad cA ((stp, psz, gk, gl, gh, opn, cki, ckl, mp, rk, rv, ri, chk), (mo, mi, ml, g, mlo, mhi, pk, ps, pl, ph, mm), out) := by
  funext z
  obtain ⟨a, b⟩ := z
  by_cases h : ((a, b) : x_I) = (24, 0)
  · cases h
    simp [x_up, x_F, x_cell, va_up, upd, vp_updL]
  · rw [x_up, if_neg h]
    unfold x_F x_cell
    split <;> first | rfl | exact absurd rfl h | (have h9 : ∀ b9 : Nat, b9 ≠ 0 ∨ b9 = 0 := fun b9 => (Decidable.em (b9 = 0)).symm; simp_all [va_up])
theorem e_mlo {ad : x_I → Nat} {cA : Nat → ClassId} {stp : Nat → Nat → Int32} {psz : Int32} {gk : Nat → Nat → Int32} {gl : Nat → Nat → Int64} {gh : Nat → Nat → Int64} {opn : Nat → Int32} {cki : Nat → Int32} {ckl : Nat → Int64} {mp : Nat → Nat → Int64} {rk : Nat → Int32} {rv : Nat → Int64} {ri : Nat → Int32} {chk : Int32} {mo : Nat → Nat → Int32} {mi : Nat → Int32} {ml : Nat → Int64} {mk : Nat → Int32} {mlo : Nat → Int64} {mhi : Nat → Int64} {pk : Nat → Int32} {ps : Nat → Int32} {pl : Nat → Int64} {ph : Nat → Int64} {mm : Nat → Int64} {out : Nat → Int64} {g : Nat → Int64} : x_up (x_F ad cA ((stp, psz, gk, gl, gh, opn, cki, ckl, mp, rk, rv, ri, chk), (mo, mi, ml, mk, mlo, mhi, pk, ps, pl, ph, mm), out)) (25, 0) (.inl (cA 1, 12, .inr (.inl g))) = x_F ad cA ((stp, psz, gk, gl, gh, opn, cki, ckl, mp, rk, rv, ri, chk), (mo, mi, ml, mk, g, mhi, pk, ps, pl, ph, mm), out) := by
  funext z
  obtain ⟨a, b⟩ := z
  by_cases h : ((a, b) : x_I) = (25, 0)
  · cases h
    simp [x_up, x_F, x_cell, va_up, upd, vp_updL]
  · rw [x_up, if_neg h]
    unfold x_F x_cell
    split <;> first | rfl | exact absurd rfl h | (have h9 : ∀ b9 : Nat, b9 ≠ 0 ∨ b9 = 0 := fun b9 => (Decidable.em (b9 = 0)).symm; simp_all [va_up])
theorem e_mhi {ad : x_I → Nat} {cA : Nat → ClassId} {stp : Nat → Nat → Int32} {psz : Int32} {gk : Nat → Nat → Int32} {gl : Nat → Nat → Int64} {gh : Nat → Nat → Int64} {opn : Nat → Int32} {cki : Nat → Int32} {ckl : Nat → Int64} {mp : Nat → Nat → Int64} {rk : Nat → Int32} {rv : Nat → Int64} {ri : Nat → Int32} {chk : Int32} {mo : Nat → Nat → Int32} {mi : Nat → Int32} {ml : Nat → Int64} {mk : Nat → Int32} {mlo : Nat → Int64} {mhi : Nat → Int64} {pk : Nat → Int32} {ps : Nat → Int32} {pl : Nat → Int64} {ph : Nat → Int64} {mm : Nat → Int64} {out : Nat → Int64} {g : Nat → Int64} : x_up (x_F ad cA ((stp, psz, gk, gl, gh, opn, cki, ckl, mp, rk, rv, ri, chk), (mo, mi, ml, mk, mlo, mhi, pk, ps, pl, ph, mm), out)) (26, 0) (.inl (cA 1, 12, .inr (.inl g))) = x_F ad cA ((stp, psz, gk, gl, gh, opn, cki, ckl, mp, rk, rv, ri, chk), (mo, mi, ml, mk, mlo, g, pk, ps, pl, ph, mm), out) := by
  funext z
  obtain ⟨a, b⟩ := z
  by_cases h : ((a, b) : x_I) = (26, 0)
  · cases h
    simp [x_up, x_F, x_cell, va_up, upd, vp_updL]
  · rw [x_up, if_neg h]
    unfold x_F x_cell
    split <;> first | rfl | exact absurd rfl h | (have h9 : ∀ b9 : Nat, b9 ≠ 0 ∨ b9 = 0 := fun b9 => (Decidable.em (b9 = 0)).symm; simp_all [va_up])
theorem e_pk {ad : x_I → Nat} {cA : Nat → ClassId} {stp : Nat → Nat → Int32} {psz : Int32} {gk : Nat → Nat → Int32} {gl : Nat → Nat → Int64} {gh : Nat → Nat → Int64} {opn : Nat → Int32} {cki : Nat → Int32} {ckl : Nat → Int64} {mp : Nat → Nat → Int64} {rk : Nat → Int32} {rv : Nat → Int64} {ri : Nat → Int32} {chk : Int32} {mo : Nat → Nat → Int32} {mi : Nat → Int32} {ml : Nat → Int64} {mk : Nat → Int32} {mlo : Nat → Int64} {mhi : Nat → Int64} {pk : Nat → Int32} {ps : Nat → Int32} {pl : Nat → Int64} {ph : Nat → Int64} {mm : Nat → Int64} {out : Nat → Int64} {g : Nat → Int32} : x_up (x_F ad cA ((stp, psz, gk, gl, gh, opn, cki, ckl, mp, rk, rv, ri, chk), (mo, mi, ml, mk, mlo, mhi, pk, ps, pl, ph, mm), out)) (27, 0) (.inl (cA 0, 360, .inl g)) = x_F ad cA ((stp, psz, gk, gl, gh, opn, cki, ckl, mp, rk, rv, ri, chk), (mo, mi, ml, mk, mlo, mhi, g, ps, pl, ph, mm), out) := by
  funext z
  obtain ⟨a, b⟩ := z
  by_cases h : ((a, b) : x_I) = (27, 0)
  · cases h
    simp [x_up, x_F, x_cell, va_up, upd, vp_updL]
  · rw [x_up, if_neg h]
    unfold x_F x_cell
    split <;> first | rfl | exact absurd rfl h | (have h9 : ∀ b9 : Nat, b9 ≠ 0 ∨ b9 = 0 := fun b9 => (Decidable.em (b9 = 0)).symm; simp_all [va_up])
theorem e_ps {ad : x_I → Nat} {cA : Nat → ClassId} {stp : Nat → Nat → Int32} {psz : Int32} {gk : Nat → Nat → Int32} {gl : Nat → Nat → Int64} {gh : Nat → Nat → Int64} {opn : Nat → Int32} {cki : Nat → Int32} {ckl : Nat → Int64} {mp : Nat → Nat → Int64} {rk : Nat → Int32} {rv : Nat → Int64} {ri : Nat → Int32} {chk : Int32} {mo : Nat → Nat → Int32} {mi : Nat → Int32} {ml : Nat → Int64} {mk : Nat → Int32} {mlo : Nat → Int64} {mhi : Nat → Int64} {pk : Nat → Int32} {ps : Nat → Int32} {pl : Nat → Int64} {ph : Nat → Int64} {mm : Nat → Int64} {out : Nat → Int64} {g : Nat → Int32} : x_up (x_F ad cA ((stp, psz, gk, gl, gh, opn, cki, ckl, mp, rk, rv, ri, chk), (mo, mi, ml, mk, mlo, mhi, pk, ps, pl, ph, mm), out)) (28, 0) (.inl (cA 0, 30, .inl g)) = x_F ad cA ((stp, psz, gk, gl, gh, opn, cki, ckl, mp, rk, rv, ri, chk), (mo, mi, ml, mk, mlo, mhi, pk, g, pl, ph, mm), out) := by
  funext z
  obtain ⟨a, b⟩ := z
  by_cases h : ((a, b) : x_I) = (28, 0)
  · cases h
    simp [x_up, x_F, x_cell, va_up, upd, vp_updL]
  · rw [x_up, if_neg h]
    unfold x_F x_cell
    split <;> first | rfl | exact absurd rfl h | (have h9 : ∀ b9 : Nat, b9 ≠ 0 ∨ b9 = 0 := fun b9 => (Decidable.em (b9 = 0)).symm; simp_all [va_up])
theorem e_pl {ad : x_I → Nat} {cA : Nat → ClassId} {stp : Nat → Nat → Int32} {psz : Int32} {gk : Nat → Nat → Int32} {gl : Nat → Nat → Int64} {gh : Nat → Nat → Int64} {opn : Nat → Int32} {cki : Nat → Int32} {ckl : Nat → Int64} {mp : Nat → Nat → Int64} {rk : Nat → Int32} {rv : Nat → Int64} {ri : Nat → Int32} {chk : Int32} {mo : Nat → Nat → Int32} {mi : Nat → Int32} {ml : Nat → Int64} {mk : Nat → Int32} {mlo : Nat → Int64} {mhi : Nat → Int64} {pk : Nat → Int32} {ps : Nat → Int32} {pl : Nat → Int64} {ph : Nat → Int64} {mm : Nat → Int64} {out : Nat → Int64} {g : Nat → Int64} : x_up (x_F ad cA ((stp, psz, gk, gl, gh, opn, cki, ckl, mp, rk, rv, ri, chk), (mo, mi, ml, mk, mlo, mhi, pk, ps, pl, ph, mm), out)) (29, 0) (.inl (cA 1, 360, .inr (.inl g))) = x_F ad cA ((stp, psz, gk, gl, gh, opn, cki, ckl, mp, rk, rv, ri, chk), (mo, mi, ml, mk, mlo, mhi, pk, ps, g, ph, mm), out) := by
  funext z
  obtain ⟨a, b⟩ := z
  by_cases h : ((a, b) : x_I) = (29, 0)
  · cases h
    simp [x_up, x_F, x_cell, va_up, upd, vp_updL]
  · rw [x_up, if_neg h]
    unfold x_F x_cell
    split <;> first | rfl | exact absurd rfl h | (have h9 : ∀ b9 : Nat, b9 ≠ 0 ∨ b9 = 0 := fun b9 => (Decidable.em (b9 = 0)).symm; simp_all [va_up])
theorem e_ph {ad : x_I → Nat} {cA : Nat → ClassId} {stp : Nat → Nat → Int32} {psz : Int32} {gk : Nat → Nat → Int32} {gl : Nat → Nat → Int64} {gh : Nat → Nat → Int64} {opn : Nat → Int32} {cki : Nat → Int32} {ckl : Nat → Int64} {mp : Nat → Nat → Int64} {rk : Nat → Int32} {rv : Nat → Int64} {ri : Nat → Int32} {chk : Int32} {mo : Nat → Nat → Int32} {mi : Nat → Int32} {ml : Nat → Int64} {mk : Nat → Int32} {mlo : Nat → Int64} {mhi : Nat → Int64} {pk : Nat → Int32} {ps : Nat → Int32} {pl : Nat → Int64} {ph : Nat → Int64} {mm : Nat → Int64} {out : Nat → Int64} {g : Nat → Int64} : x_up (x_F ad cA ((stp, psz, gk, gl, gh, opn, cki, ckl, mp, rk, rv, ri, chk), (mo, mi, ml, mk, mlo, mhi, pk, ps, pl, ph, mm), out)) (30, 0) (.inl (cA 1, 360, .inr (.inl g))) = x_F ad cA ((stp, psz, gk, gl, gh, opn, cki, ckl, mp, rk, rv, ri, chk), (mo, mi, ml, mk, mlo, mhi, pk, ps, pl, g, mm), out) := by
  funext z
  obtain ⟨a, b⟩ := z
  by_cases h : ((a, b) : x_I) = (30, 0)
  · cases h
    simp [x_up, x_F, x_cell, va_up, upd, vp_updL]
  · rw [x_up, if_neg h]
    unfold x_F x_cell
    split <;> first | rfl | exact absurd rfl h | (have h9 : ∀ b9 : Nat, b9 ≠ 0 ∨ b9 = 0 := fun b9 => (Decidable.em (b9 = 0)).symm; simp_all [va_up])
theorem e_mm {ad : x_I → Nat} {cA : Nat → ClassId} {stp : Nat → Nat → Int32} {psz : Int32} {gk : Nat → Nat → Int32} {gl : Nat → Nat → Int64} {gh : Nat → Nat → Int64} {opn : Nat → Int32} {cki : Nat → Int32} {ckl : Nat → Int64} {mp : Nat → Nat → Int64} {rk : Nat → Int32} {rv : Nat → Int64} {ri : Nat → Int32} {chk : Int32} {mo : Nat → Nat → Int32} {mi : Nat → Int32} {ml : Nat → Int64} {mk : Nat → Int32} {mlo : Nat → Int64} {mhi : Nat → Int64} {pk : Nat → Int32} {ps : Nat → Int32} {pl : Nat → Int64} {ph : Nat → Int64} {mm : Nat → Int64} {out : Nat → Int64} {g : Nat → Int64} : x_up (x_F ad cA ((stp, psz, gk, gl, gh, opn, cki, ckl, mp, rk, rv, ri, chk), (mo, mi, ml, mk, mlo, mhi, pk, ps, pl, ph, mm), out)) (31, 0) (.inl (cA 1, 12, .inr (.inl g))) = x_F ad cA ((stp, psz, gk, gl, gh, opn, cki, ckl, mp, rk, rv, ri, chk), (mo, mi, ml, mk, mlo, mhi, pk, ps, pl, ph, g), out) := by
  funext z
  obtain ⟨a, b⟩ := z
  by_cases h : ((a, b) : x_I) = (31, 0)
  · cases h
    simp [x_up, x_F, x_cell, va_up, upd, vp_updL]
  · rw [x_up, if_neg h]
    unfold x_F x_cell
    split <;> first | rfl | exact absurd rfl h | (have h9 : ∀ b9 : Nat, b9 ≠ 0 ∨ b9 = 0 := fun b9 => (Decidable.em (b9 = 0)).symm; simp_all [va_up])
theorem e_out {ad : x_I → Nat} {cA : Nat → ClassId} {stp : Nat → Nat → Int32} {psz : Int32} {gk : Nat → Nat → Int32} {gl : Nat → Nat → Int64} {gh : Nat → Nat → Int64} {opn : Nat → Int32} {cki : Nat → Int32} {ckl : Nat → Int64} {mp : Nat → Nat → Int64} {rk : Nat → Int32} {rv : Nat → Int64} {ri : Nat → Int32} {chk : Int32} {mo : Nat → Nat → Int32} {mi : Nat → Int32} {ml : Nat → Int64} {mk : Nat → Int32} {mlo : Nat → Int64} {mhi : Nat → Int64} {pk : Nat → Int32} {ps : Nat → Int32} {pl : Nat → Int64} {ph : Nat → Int64} {mm : Nat → Int64} {out : Nat → Int64} {g : Nat → Int64} : x_up (x_F ad cA ((stp, psz, gk, gl, gh, opn, cki, ckl, mp, rk, rv, ri, chk), (mo, mi, ml, mk, mlo, mhi, pk, ps, pl, ph, mm), out)) (32, 0) (.inl (cA 1, 1, .inr (.inl g))) = x_F ad cA ((stp, psz, gk, gl, gh, opn, cki, ckl, mp, rk, rv, ri, chk), (mo, mi, ml, mk, mlo, mhi, pk, ps, pl, ph, mm), g) := by
  funext z
  obtain ⟨a, b⟩ := z
  by_cases h : ((a, b) : x_I) = (32, 0)
  · cases h
    simp [x_up, x_F, x_cell, va_up, upd, vp_updL]
  · rw [x_up, if_neg h]
    unfold x_F x_cell
    split <;> first | rfl | exact absurd rfl h | (have h9 : ∀ b9 : Nat, b9 ≠ 0 ∨ b9 = 0 := fun b9 => (Decidable.em (b9 = 0)).symm; simp_all [va_up])
end
