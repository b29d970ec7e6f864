section
-- ===== PART A: goes FIRST, ahead of the names: the tables' words, and 'selects' of the private methods out of them =====
/-- a private method of a class that the tables say can be made, by its rows of tables_1 -/
def lw_okq (q : MethodName × Nat) : Prop := (q.1.cls ≠ "java/lang/invoke/MethodHandle" ∧ q.1.cls ≠ "java/lang/invoke/VarHandle") ∧ Cond.instantiable q.1.cls q.2 ∈ tables_1 ∧ Cond.privateMethod q.1 ∈ tables_1 ∧ Cond.instanceMethod q.1 ∈ tables_1
theorem lw_p0 : lw_okq (⟨"java/lang/Throwable", "fillInStackTrace", "(I)Ljava/lang/Throwable;"⟩, 6) := ⟨⟨by decide +kernel, by decide +kernel⟩, List.mem_of_getElem? (i := 298) (by decide +kernel), List.mem_of_getElem? (i := 296) (by decide +kernel), List.mem_of_getElem? (i := 297) (by decide +kernel)⟩
theorem lw_p1 : lw_okq (⟨"CheckedMachine$Checker", "begin", "()V"⟩, 13) := ⟨⟨by decide +kernel, by decide +kernel⟩, List.mem_of_getElem? (i := 87) (by decide +kernel), List.mem_of_getElem? (i := 404) (by decide +kernel), List.mem_of_getElem? (i := 405) (by decide +kernel)⟩
theorem lw_p2 : lw_okq (⟨"CheckedMachine$Checker", "lookAt", "(I)I"⟩, 13) := ⟨⟨by decide +kernel, by decide +kernel⟩, List.mem_of_getElem? (i := 87) (by decide +kernel), List.mem_of_getElem? (i := 426) (by decide +kernel), List.mem_of_getElem? (i := 427) (by decide +kernel)⟩
theorem lw_p3 : lw_okq (⟨"CheckedMachine$Judge", "lacksTarget", "(LCheckedMachine$Step;I)Z"⟩, 2) := ⟨⟨by decide +kernel, by decide +kernel⟩, List.mem_of_getElem? (i := 111) (by decide +kernel), List.mem_of_getElem? (i := 435) (by decide +kernel), List.mem_of_getElem? (i := 436) (by decide +kernel)⟩
theorem lw_p4 : lw_okq (⟨"CheckedMachine$Judge", "usesEmpty", "(LCheckedMachine$Step;)Z"⟩, 2) := ⟨⟨by decide +kernel, by decide +kernel⟩, List.mem_of_getElem? (i := 111) (by decide +kernel), List.mem_of_getElem? (i := 444) (by decide +kernel), List.mem_of_getElem? (i := 445) (by decide +kernel)⟩
theorem lw_p5 : lw_okq (⟨"CheckedMachine$Judge", "hasWrongKind", "(LCheckedMachine$Step;)Z"⟩, 2) := ⟨⟨by decide +kernel, by decide +kernel⟩, List.mem_of_getElem? (i := 111) (by decide +kernel), List.mem_of_getElem? (i := 463) (by decide +kernel), List.mem_of_getElem? (i := 464) (by decide +kernel)⟩
theorem lw_p6 : lw_okq (⟨"CheckedMachine$Judge", "isRangeOrPlace", "(I)Z"⟩, 2) := ⟨⟨by decide +kernel, by decide +kernel⟩, List.mem_of_getElem? (i := 111) (by decide +kernel), List.mem_of_getElem? (i := 467) (by decide +kernel), List.mem_of_getElem? (i := 468) (by decide +kernel)⟩
theorem lw_p7 : lw_okq (⟨"CheckedMachine$Judge", "isMaybeMissing", "(LCheckedMachine$Step;)Z"⟩, 2) := ⟨⟨by decide +kernel, by decide +kernel⟩, List.mem_of_getElem? (i := 111) (by decide +kernel), List.mem_of_getElem? (i := 479) (by decide +kernel), List.mem_of_getElem? (i := 480) (by decide +kernel)⟩
theorem lw_p8 : lw_okq (⟨"CheckedMachine$Judge", "storesWrongKind", "(LCheckedMachine$Step;)Z"⟩, 2) := ⟨⟨by decide +kernel, by decide +kernel⟩, List.mem_of_getElem? (i := 111) (by decide +kernel), List.mem_of_getElem? (i := 487) (by decide +kernel), List.mem_of_getElem? (i := 488) (by decide +kernel)⟩
theorem lw_p9 : lw_okq (⟨"CheckedMachine$Judge", "isOneCellOfFrame", "(I)Z"⟩, 2) := ⟨⟨by decide +kernel, by decide +kernel⟩, List.mem_of_getElem? (i := 111) (by decide +kernel), List.mem_of_getElem? (i := 491) (by decide +kernel), List.mem_of_getElem? (i := 492) (by decide +kernel)⟩
theorem lw_p10 : lw_okq (⟨"CheckedMachine$Judge", "callsWithWrongKind", "(LCheckedMachine$Step;)Z"⟩, 2) := ⟨⟨by decide +kernel, by decide +kernel⟩, List.mem_of_getElem? (i := 111) (by decide +kernel), List.mem_of_getElem? (i := 503) (by decide +kernel), List.mem_of_getElem? (i := 504) (by decide +kernel)⟩
theorem lw_p11 : lw_okq (⟨"CheckedMachine$Judge", "storesOverNoRange", "(LCheckedMachine$Step;)Z"⟩, 2) := ⟨⟨by decide +kernel, by decide +kernel⟩, List.mem_of_getElem? (i := 111) (by decide +kernel), List.mem_of_getElem? (i := 507) (by decide +kernel), List.mem_of_getElem? (i := 508) (by decide +kernel)⟩
theorem lw_p12 : lw_okq (⟨"CheckedMachine$Judge", "goesOutside", "(LCheckedMachine$Step;)Z"⟩, 2) := ⟨⟨by decide +kernel, by decide +kernel⟩, List.mem_of_getElem? (i := 111) (by decide +kernel), List.mem_of_getElem? (i := 511) (by decide +kernel), List.mem_of_getElem? (i := 512) (by decide +kernel)⟩
theorem lw_p13 : lw_okq (⟨"CheckedMachine$Judge", "movesTooFar", "(IJJ)Z"⟩, 2) := ⟨⟨by decide +kernel, by decide +kernel⟩, List.mem_of_getElem? (i := 111) (by decide +kernel), List.mem_of_getElem? (i := 515) (by decide +kernel), List.mem_of_getElem? (i := 516) (by decide +kernel)⟩
theorem lw_p14 : lw_okq (⟨"CheckedMachine$Judge", "missesCells", "(IJ)Z"⟩, 2) := ⟨⟨by decide +kernel, by decide +kernel⟩, List.mem_of_getElem? (i := 111) (by decide +kernel), List.mem_of_getElem? (i := 521) (by decide +kernel), List.mem_of_getElem? (i := 522) (by decide +kernel)⟩
theorem lw_p15 : lw_okq (⟨"CheckedMachine$Judge", "loadsUnfitCell", "(LCheckedMachine$Step;)Z"⟩, 2) := ⟨⟨by decide +kernel, by decide +kernel⟩, List.mem_of_getElem? (i := 111) (by decide +kernel), List.mem_of_getElem? (i := 525) (by decide +kernel), List.mem_of_getElem? (i := 526) (by decide +kernel)⟩
def lw_privs_1 : List (MethodName × Nat) := [(⟨"java/lang/Throwable", "fillInStackTrace", "(I)Ljava/lang/Throwable;"⟩, 6), (⟨"CheckedMachine$Checker", "begin", "()V"⟩, 13), (⟨"CheckedMachine$Checker", "lookAt", "(I)I"⟩, 13), (⟨"CheckedMachine$Judge", "lacksTarget", "(LCheckedMachine$Step;I)Z"⟩, 2), (⟨"CheckedMachine$Judge", "usesEmpty", "(LCheckedMachine$Step;)Z"⟩, 2), (⟨"CheckedMachine$Judge", "hasWrongKind", "(LCheckedMachine$Step;)Z"⟩, 2), (⟨"CheckedMachine$Judge", "isRangeOrPlace", "(I)Z"⟩, 2), (⟨"CheckedMachine$Judge", "isMaybeMissing", "(LCheckedMachine$Step;)Z"⟩, 2), (⟨"CheckedMachine$Judge", "storesWrongKind", "(LCheckedMachine$Step;)Z"⟩, 2), (⟨"CheckedMachine$Judge", "isOneCellOfFrame", "(I)Z"⟩, 2), (⟨"CheckedMachine$Judge", "callsWithWrongKind", "(LCheckedMachine$Step;)Z"⟩, 2), (⟨"CheckedMachine$Judge", "storesOverNoRange", "(LCheckedMachine$Step;)Z"⟩, 2), (⟨"CheckedMachine$Judge", "goesOutside", "(LCheckedMachine$Step;)Z"⟩, 2), (⟨"CheckedMachine$Judge", "movesTooFar", "(IJJ)Z"⟩, 2), (⟨"CheckedMachine$Judge", "missesCells", "(IJ)Z"⟩, 2), (⟨"CheckedMachine$Judge", "loadsUnfitCell", "(LCheckedMachine$Step;)Z"⟩, 2)]
theorem lw_r1 : ∀ q ∈ lw_privs_1, lw_okq q := List.forall_mem_cons.mpr ⟨lw_p0, List.forall_mem_cons.mpr ⟨lw_p1, List.forall_mem_cons.mpr ⟨lw_p2, List.forall_mem_cons.mpr ⟨lw_p3, List.forall_mem_cons.mpr ⟨lw_p4, List.forall_mem_cons.mpr ⟨lw_p5, List.forall_mem_cons.mpr ⟨lw_p6, List.forall_mem_cons.mpr ⟨lw_p7, List.forall_mem_cons.mpr ⟨lw_p8, List.forall_mem_cons.mpr ⟨lw_p9, List.forall_mem_cons.mpr ⟨lw_p10, List.forall_mem_cons.mpr ⟨lw_p11, List.forall_mem_cons.mpr ⟨lw_p12, List.forall_mem_cons.mpr ⟨lw_p13, List.forall_mem_cons.mpr ⟨lw_p14, List.forall_mem_cons.mpr ⟨lw_p15, fun _ h => absurd h List.not_mem_nil⟩⟩⟩⟩⟩⟩⟩⟩⟩⟩⟩⟩⟩⟩⟩⟩
theorem lw_p16 : lw_okq (⟨"CheckedMachine$Judge", "findsNoRow", "(LCheckedMachine$Step;)Z"⟩, 2) := ⟨⟨by decide +kernel, by decide +kernel⟩, List.mem_of_getElem? (i := 111) (by decide +kernel), List.mem_of_getElem? (i := 529) (by decide +kernel), List.mem_of_getElem? (i := 530) (by decide +kernel)⟩
theorem lw_p17 : lw_okq (⟨"CheckedMachine$Checker", "reject", "(II)V"⟩, 13) := ⟨⟨by decide +kernel, by decide +kernel⟩, List.mem_of_getElem? (i := 87) (by decide +kernel), List.mem_of_getElem? (i := 538) (by decide +kernel), List.mem_of_getElem? (i := 539) (by decide +kernel)⟩
theorem lw_p18 : lw_okq (⟨"CheckedMachine$Checker", "growOutcomes", "(JJ)V"⟩, 13) := ⟨⟨by decide +kernel, by decide +kernel⟩, List.mem_of_getElem? (i := 87) (by decide +kernel), List.mem_of_getElem? (i := 544) (by decide +kernel), List.mem_of_getElem? (i := 545) (by decide +kernel)⟩
theorem lw_p19 : lw_okq (⟨"CheckedMachine$Checker", "takeUpLatest", "()I"⟩, 13) := ⟨⟨by decide +kernel, by decide +kernel⟩, List.mem_of_getElem? (i := 87) (by decide +kernel), List.mem_of_getElem? (i := 554) (by decide +kernel), List.mem_of_getElem? (i := 555) (by decide +kernel)⟩
theorem lw_p20 : lw_okq (⟨"CheckedMachine$Checker", "fork", "(LCheckedMachine$Step;I)I"⟩, 13) := ⟨⟨by decide +kernel, by decide +kernel⟩, List.mem_of_getElem? (i := 87) (by decide +kernel), List.mem_of_getElem? (i := 566) (by decide +kernel), List.mem_of_getElem? (i := 567) (by decide +kernel)⟩
theorem lw_p21 : lw_okq (⟨"CheckedMachine$Effects", "move", "(IJJ)V"⟩, 1) := ⟨⟨by decide +kernel, by decide +kernel⟩, List.mem_of_getElem? (i := 124) (by decide +kernel), List.mem_of_getElem? (i := 604) (by decide +kernel), List.mem_of_getElem? (i := 605) (by decide +kernel)⟩
theorem lw_p22 : lw_okq (⟨"CheckedMachine$Effects", "subtract", "(IJJ)V"⟩, 1) := ⟨⟨by decide +kernel, by decide +kernel⟩, List.mem_of_getElem? (i := 124) (by decide +kernel), List.mem_of_getElem? (i := 616) (by decide +kernel), List.mem_of_getElem? (i := 617) (by decide +kernel)⟩
theorem lw_p23 : lw_okq (⟨"CheckedMachine$Effects", "multiply", "(IJ)V"⟩, 1) := ⟨⟨by decide +kernel, by decide +kernel⟩, List.mem_of_getElem? (i := 124) (by decide +kernel), List.mem_of_getElem? (i := 623) (by decide +kernel), List.mem_of_getElem? (i := 624) (by decide +kernel)⟩
theorem lw_p24 : lw_okq (⟨"CheckedMachine$Effects", "mask", "(IJ)V"⟩, 1) := ⟨⟨by decide +kernel, by decide +kernel⟩, List.mem_of_getElem? (i := 124) (by decide +kernel), List.mem_of_getElem? (i := 638) (by decide +kernel), List.mem_of_getElem? (i := 639) (by decide +kernel)⟩
theorem lw_p25 : lw_okq (⟨"CheckedMachine$Effects", "divide", "(IJ)V"⟩, 1) := ⟨⟨by decide +kernel, by decide +kernel⟩, List.mem_of_getElem? (i := 124) (by decide +kernel), List.mem_of_getElem? (i := 643) (by decide +kernel), List.mem_of_getElem? (i := 644) (by decide +kernel)⟩
theorem lw_p26 : lw_okq (⟨"CheckedMachine$Effects", "negate", "(I)V"⟩, 1) := ⟨⟨by decide +kernel, by decide +kernel⟩, List.mem_of_getElem? (i := 124) (by decide +kernel), List.mem_of_getElem? (i := 649) (by decide +kernel), List.mem_of_getElem? (i := 650) (by decide +kernel)⟩
theorem lw_p27 : lw_okq (⟨"CheckedMachine$Effects", "load", "(LCheckedMachine$Step;)V"⟩, 1) := ⟨⟨by decide +kernel, by decide +kernel⟩, List.mem_of_getElem? (i := 124) (by decide +kernel), List.mem_of_getElem? (i := 653) (by decide +kernel), List.mem_of_getElem? (i := 654) (by decide +kernel)⟩
theorem lw_p28 : lw_okq (⟨"CheckedMachine$Effects", "store", "(LCheckedMachine$Step;)V"⟩, 1) := ⟨⟨by decide +kernel, by decide +kernel⟩, List.mem_of_getElem? (i := 124) (by decide +kernel), List.mem_of_getElem? (i := 661) (by decide +kernel), List.mem_of_getElem? (i := 662) (by decide +kernel)⟩
theorem lw_p29 : lw_okq (⟨"CheckedMachine$Effects", "call", "(I)V"⟩, 1) := ⟨⟨by decide +kernel, by decide +kernel⟩, List.mem_of_getElem? (i := 124) (by decide +kernel), List.mem_of_getElem? (i := 666) (by decide +kernel), List.mem_of_getElem? (i := 667) (by decide +kernel)⟩
theorem lw_p30 : lw_okq (⟨"CheckedMachine$Runner", "set", "(IIJ)V"⟩, 6) := ⟨⟨by decide +kernel, by decide +kernel⟩, List.mem_of_getElem? (i := 176) (by decide +kernel), List.mem_of_getElem? (i := 702) (by decide +kernel), List.mem_of_getElem? (i := 703) (by decide +kernel)⟩
theorem lw_p31 : lw_okq (⟨"CheckedMachine$Runner", "runStep", "(I)I"⟩, 6) := ⟨⟨by decide +kernel, by decide +kernel⟩, List.mem_of_getElem? (i := 176) (by decide +kernel), List.mem_of_getElem? (i := 706) (by decide +kernel), List.mem_of_getElem? (i := 707) (by decide +kernel)⟩
def lw_privs_2 : List (MethodName × Nat) := [(⟨"CheckedMachine$Judge", "findsNoRow", "(LCheckedMachine$Step;)Z"⟩, 2), (⟨"CheckedMachine$Checker", "reject", "(II)V"⟩, 13), (⟨"CheckedMachine$Checker", "growOutcomes", "(JJ)V"⟩, 13), (⟨"CheckedMachine$Checker", "takeUpLatest", "()I"⟩, 13), (⟨"CheckedMachine$Checker", "fork", "(LCheckedMachine$Step;I)I"⟩, 13), (⟨"CheckedMachine$Effects", "move", "(IJJ)V"⟩, 1), (⟨"CheckedMachine$Effects", "subtract", "(IJJ)V"⟩, 1), (⟨"CheckedMachine$Effects", "multiply", "(IJ)V"⟩, 1), (⟨"CheckedMachine$Effects", "mask", "(IJ)V"⟩, 1), (⟨"CheckedMachine$Effects", "divide", "(IJ)V"⟩, 1), (⟨"CheckedMachine$Effects", "negate", "(I)V"⟩, 1), (⟨"CheckedMachine$Effects", "load", "(LCheckedMachine$Step;)V"⟩, 1), (⟨"CheckedMachine$Effects", "store", "(LCheckedMachine$Step;)V"⟩, 1), (⟨"CheckedMachine$Effects", "call", "(I)V"⟩, 1), (⟨"CheckedMachine$Runner", "set", "(IIJ)V"⟩, 6), (⟨"CheckedMachine$Runner", "runStep", "(I)I"⟩, 6)]
theorem lw_r2 : ∀ q ∈ lw_privs_2, lw_okq q := List.forall_mem_cons.mpr ⟨lw_p16, List.forall_mem_cons.mpr ⟨lw_p17, List.forall_mem_cons.mpr ⟨lw_p18, List.forall_mem_cons.mpr ⟨lw_p19, List.forall_mem_cons.mpr ⟨lw_p20, List.forall_mem_cons.mpr ⟨lw_p21, List.forall_mem_cons.mpr ⟨lw_p22, List.forall_mem_cons.mpr ⟨lw_p23, List.forall_mem_cons.mpr ⟨lw_p24, List.forall_mem_cons.mpr ⟨lw_p25, List.forall_mem_cons.mpr ⟨lw_p26, List.forall_mem_cons.mpr ⟨lw_p27, List.forall_mem_cons.mpr ⟨lw_p28, List.forall_mem_cons.mpr ⟨lw_p29, List.forall_mem_cons.mpr ⟨lw_p30, List.forall_mem_cons.mpr ⟨lw_p31, fun _ h => absurd h List.not_mem_nil⟩⟩⟩⟩⟩⟩⟩⟩⟩⟩⟩⟩⟩⟩⟩⟩
theorem lw_p32 : lw_okq (⟨"CheckedMachine$Runner", "jumps", "(LCheckedMachine$Step;)Z"⟩, 6) := ⟨⟨by decide +kernel, by decide +kernel⟩, List.mem_of_getElem? (i := 176) (by decide +kernel), List.mem_of_getElem? (i := 712) (by decide +kernel), List.mem_of_getElem? (i := 713) (by decide +kernel)⟩
theorem lw_p33 : lw_okq (⟨"CheckedMachine$Runner", "reachOut", "(LCheckedMachine$Step;)V"⟩, 6) := ⟨⟨by decide +kernel, by decide +kernel⟩, List.mem_of_getElem? (i := 176) (by decide +kernel), List.mem_of_getElem? (i := 716) (by decide +kernel), List.mem_of_getElem? (i := 717) (by decide +kernel)⟩
theorem lw_p34 : lw_okq (⟨"CheckedMachine$Runner", "load", "(IIJ)V"⟩, 6) := ⟨⟨by decide +kernel, by decide +kernel⟩, List.mem_of_getElem? (i := 176) (by decide +kernel), List.mem_of_getElem? (i := 720) (by decide +kernel), List.mem_of_getElem? (i := 721) (by decide +kernel)⟩
theorem lw_p35 : lw_okq (⟨"CheckedMachine$Runner", "store", "(IIJ)V"⟩, 6) := ⟨⟨by decide +kernel, by decide +kernel⟩, List.mem_of_getElem? (i := 176) (by decide +kernel), List.mem_of_getElem? (i := 732) (by decide +kernel), List.mem_of_getElem? (i := 733) (by decide +kernel)⟩
theorem lw_p36 : lw_okq (⟨"CheckedMachine$Runner", "call", "(I)V"⟩, 6) := ⟨⟨by decide +kernel, by decide +kernel⟩, List.mem_of_getElem? (i := 176) (by decide +kernel), List.mem_of_getElem? (i := 740) (by decide +kernel), List.mem_of_getElem? (i := 741) (by decide +kernel)⟩
theorem lw_p37 : lw_okq (⟨"CheckedMachine$Runner", "findRow", "(J)V"⟩, 6) := ⟨⟨by decide +kernel, by decide +kernel⟩, List.mem_of_getElem? (i := 176) (by decide +kernel), List.mem_of_getElem? (i := 744) (by decide +kernel), List.mem_of_getElem? (i := 745) (by decide +kernel)⟩
theorem lw_p38 : lw_okq (⟨"CheckedMachine$Runner", "reckon", "(LCheckedMachine$Step;)V"⟩, 6) := ⟨⟨by decide +kernel, by decide +kernel⟩, List.mem_of_getElem? (i := 176) (by decide +kernel), List.mem_of_getElem? (i := 749) (by decide +kernel), List.mem_of_getElem? (i := 750) (by decide +kernel)⟩
theorem lw_p39 : lw_okq (⟨"CheckedMachineModel", "fits", "(IIII)Z"⟩, 26) := ⟨⟨by decide +kernel, by decide +kernel⟩, List.mem_of_getElem? (i := 786) (by decide +kernel), List.mem_of_getElem? (i := 879) (by decide +kernel), List.mem_of_getElem? (i := 880) (by decide +kernel)⟩
theorem lw_p40 : lw_okq (⟨"CheckedMachineModel", "bad", "(Z)Z"⟩, 26) := ⟨⟨by decide +kernel, by decide +kernel⟩, List.mem_of_getElem? (i := 786) (by decide +kernel), List.mem_of_getElem? (i := 889) (by decide +kernel), List.mem_of_getElem? (i := 890) (by decide +kernel)⟩
theorem lw_p41 : lw_okq (⟨"CheckedMachineModel", "set", "(IIIIII)V"⟩, 26) := ⟨⟨by decide +kernel, by decide +kernel⟩, List.mem_of_getElem? (i := 786) (by decide +kernel), List.mem_of_getElem? (i := 893) (by decide +kernel), List.mem_of_getElem? (i := 894) (by decide +kernel)⟩
theorem lw_p42 : lw_okq (⟨"CheckedMachineModel", "know", "(IIJJ)V"⟩, 26) := ⟨⟨by decide +kernel, by decide +kernel⟩, List.mem_of_getElem? (i := 786) (by decide +kernel), List.mem_of_getElem? (i := 909) (by decide +kernel), List.mem_of_getElem? (i := 910) (by decide +kernel)⟩
theorem lw_p43 : lw_okq (⟨"CheckedMachineModel", "anything", "(I)V"⟩, 26) := ⟨⟨by decide +kernel, by decide +kernel⟩, List.mem_of_getElem? (i := 786) (by decide +kernel), List.mem_of_getElem? (i := 913) (by decide +kernel), List.mem_of_getElem? (i := 914) (by decide +kernel)⟩
theorem lw_p44 : lw_okq (⟨"CheckedMachineModel", "reasonAt", "(I)I"⟩, 26) := ⟨⟨by decide +kernel, by decide +kernel⟩, List.mem_of_getElem? (i := 786) (by decide +kernel), List.mem_of_getElem? (i := 919) (by decide +kernel), List.mem_of_getElem? (i := 920) (by decide +kernel)⟩
theorem lw_p45 : lw_okq (⟨"CheckedMachineModel", "empties", "(I)Z"⟩, 26) := ⟨⟨by decide +kernel, by decide +kernel⟩, List.mem_of_getElem? (i := 786) (by decide +kernel), List.mem_of_getElem? (i := 925) (by decide +kernel), List.mem_of_getElem? (i := 926) (by decide +kernel)⟩
theorem lw_p46 : lw_okq (⟨"CheckedMachineModel", "usesD", "(I)Z"⟩, 26) := ⟨⟨by decide +kernel, by decide +kernel⟩, List.mem_of_getElem? (i := 786) (by decide +kernel), List.mem_of_getElem? (i := 929) (by decide +kernel), List.mem_of_getElem? (i := 930) (by decide +kernel)⟩
theorem lw_p47 : lw_okq (⟨"CheckedMachineModel", "usesS", "(I)Z"⟩, 26) := ⟨⟨by decide +kernel, by decide +kernel⟩, List.mem_of_getElem? (i := 786) (by decide +kernel), List.mem_of_getElem? (i := 933) (by decide +kernel), List.mem_of_getElem? (i := 934) (by decide +kernel)⟩
def lw_privs_3 : List (MethodName × Nat) := [(⟨"CheckedMachine$Runner", "jumps", "(LCheckedMachine$Step;)Z"⟩, 6), (⟨"CheckedMachine$Runner", "reachOut", "(LCheckedMachine$Step;)V"⟩, 6), (⟨"CheckedMachine$Runner", "load", "(IIJ)V"⟩, 6), (⟨"CheckedMachine$Runner", "store", "(IIJ)V"⟩, 6), (⟨"CheckedMachine$Runner", "call", "(I)V"⟩, 6), (⟨"CheckedMachine$Runner", "findRow", "(J)V"⟩, 6), (⟨"CheckedMachine$Runner", "reckon", "(LCheckedMachine$Step;)V"⟩, 6), (⟨"CheckedMachineModel", "fits", "(IIII)Z"⟩, 26), (⟨"CheckedMachineModel", "bad", "(Z)Z"⟩, 26), (⟨"CheckedMachineModel", "set", "(IIIIII)V"⟩, 26), (⟨"CheckedMachineModel", "know", "(IIJJ)V"⟩, 26), (⟨"CheckedMachineModel", "anything", "(I)V"⟩, 26), (⟨"CheckedMachineModel", "reasonAt", "(I)I"⟩, 26), (⟨"CheckedMachineModel", "empties", "(I)Z"⟩, 26), (⟨"CheckedMachineModel", "usesD", "(I)Z"⟩, 26), (⟨"CheckedMachineModel", "usesS", "(I)Z"⟩, 26)]
theorem lw_r3 : ∀ q ∈ lw_privs_3, lw_okq q := List.forall_mem_cons.mpr ⟨lw_p32, List.forall_mem_cons.mpr ⟨lw_p33, List.forall_mem_cons.mpr ⟨lw_p34, List.forall_mem_cons.mpr ⟨lw_p35, List.forall_mem_cons.mpr ⟨lw_p36, List.forall_mem_cons.mpr ⟨lw_p37, List.forall_mem_cons.mpr ⟨lw_p38, List.forall_mem_cons.mpr ⟨lw_p39, List.forall_mem_cons.mpr ⟨lw_p40, List.forall_mem_cons.mpr ⟨lw_p41, List.forall_mem_cons.mpr ⟨lw_p42, List.forall_mem_cons.mpr ⟨lw_p43, List.forall_mem_cons.mpr ⟨lw_p44, List.forall_mem_cons.mpr ⟨lw_p45, List.forall_mem_cons.mpr ⟨lw_p46, List.forall_mem_cons.mpr ⟨lw_p47, fun _ h => absurd h List.not_mem_nil⟩⟩⟩⟩⟩⟩⟩⟩⟩⟩⟩⟩⟩⟩⟩⟩
theorem lw_p48 : lw_okq (⟨"CheckedMachineModel", "wrongNumber", "(I)Z"⟩, 26) := ⟨⟨by decide +kernel, by decide +kernel⟩, List.mem_of_getElem? (i := 786) (by decide +kernel), List.mem_of_getElem? (i := 937) (by decide +kernel), List.mem_of_getElem? (i := 938) (by decide +kernel)⟩
theorem lw_p49 : lw_okq (⟨"CheckedMachineModel", "wrongKind", "(I)Z"⟩, 26) := ⟨⟨by decide +kernel, by decide +kernel⟩, List.mem_of_getElem? (i := 786) (by decide +kernel), List.mem_of_getElem? (i := 943) (by decide +kernel), List.mem_of_getElem? (i := 944) (by decide +kernel)⟩
theorem lw_p50 : lw_okq (⟨"CheckedMachineModel", "place", "(I)Z"⟩, 26) := ⟨⟨by decide +kernel, by decide +kernel⟩, List.mem_of_getElem? (i := 786) (by decide +kernel), List.mem_of_getElem? (i := 947) (by decide +kernel), List.mem_of_getElem? (i := 948) (by decide +kernel)⟩
theorem lw_p51 : lw_okq (⟨"CheckedMachineModel", "wrongStore", "(I)Z"⟩, 26) := ⟨⟨by decide +kernel, by decide +kernel⟩, List.mem_of_getElem? (i := 786) (by decide +kernel), List.mem_of_getElem? (i := 951) (by decide +kernel), List.mem_of_getElem? (i := 952) (by decide +kernel)⟩
theorem lw_p52 : lw_okq (⟨"CheckedMachineModel", "wrongPlace", "(I)Z"⟩, 26) := ⟨⟨by decide +kernel, by decide +kernel⟩, List.mem_of_getElem? (i := 786) (by decide +kernel), List.mem_of_getElem? (i := 955) (by decide +kernel), List.mem_of_getElem? (i := 956) (by decide +kernel)⟩
theorem lw_p53 : lw_okq (⟨"CheckedMachineModel", "wrongCells", "(I)Z"⟩, 26) := ⟨⟨by decide +kernel, by decide +kernel⟩, List.mem_of_getElem? (i := 786) (by decide +kernel), List.mem_of_getElem? (i := 964) (by decide +kernel), List.mem_of_getElem? (i := 965) (by decide +kernel)⟩
theorem lw_p54 : lw_okq (⟨"CheckedMachineModel", "goOn", "(I)Z"⟩, 26) := ⟨⟨by decide +kernel, by decide +kernel⟩, List.mem_of_getElem? (i := 786) (by decide +kernel), List.mem_of_getElem? (i := 969) (by decide +kernel), List.mem_of_getElem? (i := 970) (by decide +kernel)⟩
theorem lw_p55 : lw_okq (⟨"CheckedMachineModel", "copy", "(II)V"⟩, 26) := ⟨⟨by decide +kernel, by decide +kernel⟩, List.mem_of_getElem? (i := 786) (by decide +kernel), List.mem_of_getElem? (i := 973) (by decide +kernel), List.mem_of_getElem? (i := 974) (by decide +kernel)⟩
theorem lw_p56 : lw_okq (⟨"CheckedMachineModel", "move", "(IJJ)V"⟩, 26) := ⟨⟨by decide +kernel, by decide +kernel⟩, List.mem_of_getElem? (i := 786) (by decide +kernel), List.mem_of_getElem? (i := 977) (by decide +kernel), List.mem_of_getElem? (i := 978) (by decide +kernel)⟩
theorem lw_p57 : lw_okq (⟨"CheckedMachineModel", "subtract", "(II)V"⟩, 26) := ⟨⟨by decide +kernel, by decide +kernel⟩, List.mem_of_getElem? (i := 786) (by decide +kernel), List.mem_of_getElem? (i := 981) (by decide +kernel), List.mem_of_getElem? (i := 982) (by decide +kernel)⟩
theorem lw_p58 : lw_okq (⟨"CheckedMachineModel", "arithmetic", "(IIJ)V"⟩, 26) := ⟨⟨by decide +kernel, by decide +kernel⟩, List.mem_of_getElem? (i := 786) (by decide +kernel), List.mem_of_getElem? (i := 985) (by decide +kernel), List.mem_of_getElem? (i := 986) (by decide +kernel)⟩
theorem lw_p59 : lw_okq (⟨"CheckedMachineModel", "spread", "(IJJ)V"⟩, 26) := ⟨⟨by decide +kernel, by decide +kernel⟩, List.mem_of_getElem? (i := 786) (by decide +kernel), List.mem_of_getElem? (i := 991) (by decide +kernel), List.mem_of_getElem? (i := 992) (by decide +kernel)⟩
theorem lw_p60 : lw_okq (⟨"CheckedMachineModel", "and", "(IJ)V"⟩, 26) := ⟨⟨by decide +kernel, by decide +kernel⟩, List.mem_of_getElem? (i := 786) (by decide +kernel), List.mem_of_getElem? (i := 995) (by decide +kernel), List.mem_of_getElem? (i := 996) (by decide +kernel)⟩
theorem lw_p61 : lw_okq (⟨"CheckedMachineModel", "branch", "(I)V"⟩, 26) := ⟨⟨by decide +kernel, by decide +kernel⟩, List.mem_of_getElem? (i := 786) (by decide +kernel), List.mem_of_getElem? (i := 1000) (by decide +kernel), List.mem_of_getElem? (i := 1001) (by decide +kernel)⟩
theorem lw_p62 : lw_okq (⟨"CheckedMachineModel", "push", "(I)V"⟩, 26) := ⟨⟨by decide +kernel, by decide +kernel⟩, List.mem_of_getElem? (i := 786) (by decide +kernel), List.mem_of_getElem? (i := 1004) (by decide +kernel), List.mem_of_getElem? (i := 1005) (by decide +kernel)⟩
theorem lw_p63 : lw_okq (⟨"CheckedMachineModel", "pop", "()V"⟩, 26) := ⟨⟨by decide +kernel, by decide +kernel⟩, List.mem_of_getElem? (i := 786) (by decide +kernel), List.mem_of_getElem? (i := 1008) (by decide +kernel), List.mem_of_getElem? (i := 1009) (by decide +kernel)⟩
def lw_privs_4 : List (MethodName × Nat) := [(⟨"CheckedMachineModel", "wrongNumber", "(I)Z"⟩, 26), (⟨"CheckedMachineModel", "wrongKind", "(I)Z"⟩, 26), (⟨"CheckedMachineModel", "place", "(I)Z"⟩, 26), (⟨"CheckedMachineModel", "wrongStore", "(I)Z"⟩, 26), (⟨"CheckedMachineModel", "wrongPlace", "(I)Z"⟩, 26), (⟨"CheckedMachineModel", "wrongCells", "(I)Z"⟩, 26), (⟨"CheckedMachineModel", "goOn", "(I)Z"⟩, 26), (⟨"CheckedMachineModel", "copy", "(II)V"⟩, 26), (⟨"CheckedMachineModel", "move", "(IJJ)V"⟩, 26), (⟨"CheckedMachineModel", "subtract", "(II)V"⟩, 26), (⟨"CheckedMachineModel", "arithmetic", "(IIJ)V"⟩, 26), (⟨"CheckedMachineModel", "spread", "(IJJ)V"⟩, 26), (⟨"CheckedMachineModel", "and", "(IJ)V"⟩, 26), (⟨"CheckedMachineModel", "branch", "(I)V"⟩, 26), (⟨"CheckedMachineModel", "push", "(I)V"⟩, 26), (⟨"CheckedMachineModel", "pop", "()V"⟩, 26)]
theorem lw_r4 : ∀ q ∈ lw_privs_4, lw_okq q := List.forall_mem_cons.mpr ⟨lw_p48, List.forall_mem_cons.mpr ⟨lw_p49, List.forall_mem_cons.mpr ⟨lw_p50, List.forall_mem_cons.mpr ⟨lw_p51, List.forall_mem_cons.mpr ⟨lw_p52, List.forall_mem_cons.mpr ⟨lw_p53, List.forall_mem_cons.mpr ⟨lw_p54, List.forall_mem_cons.mpr ⟨lw_p55, List.forall_mem_cons.mpr ⟨lw_p56, List.forall_mem_cons.mpr ⟨lw_p57, List.forall_mem_cons.mpr ⟨lw_p58, List.forall_mem_cons.mpr ⟨lw_p59, List.forall_mem_cons.mpr ⟨lw_p60, List.forall_mem_cons.mpr ⟨lw_p61, List.forall_mem_cons.mpr ⟨lw_p62, List.forall_mem_cons.mpr ⟨lw_p63, fun _ h => absurd h List.not_mem_nil⟩⟩⟩⟩⟩⟩⟩⟩⟩⟩⟩⟩⟩⟩⟩⟩
theorem lw_p64 : lw_okq (⟨"CheckedMachineModel", "load", "(I)V"⟩, 26) := ⟨⟨by decide +kernel, by decide +kernel⟩, List.mem_of_getElem? (i := 786) (by decide +kernel), List.mem_of_getElem? (i := 1012) (by decide +kernel), List.mem_of_getElem? (i := 1013) (by decide +kernel)⟩
theorem lw_p65 : lw_okq (⟨"CheckedMachineModel", "store", "(I)V"⟩, 26) := ⟨⟨by decide +kernel, by decide +kernel⟩, List.mem_of_getElem? (i := 786) (by decide +kernel), List.mem_of_getElem? (i := 1016) (by decide +kernel), List.mem_of_getElem? (i := 1017) (by decide +kernel)⟩
theorem lw_p66 : lw_okq (⟨"CheckedMachineModel", "callGuess", "(I)V"⟩, 26) := ⟨⟨by decide +kernel, by decide +kernel⟩, List.mem_of_getElem? (i := 786) (by decide +kernel), List.mem_of_getElem? (i := 1020) (by decide +kernel), List.mem_of_getElem? (i := 1021) (by decide +kernel)⟩
theorem lw_p67 : lw_okq (⟨"CheckedMachineModel", "leave", "()V"⟩, 26) := ⟨⟨by decide +kernel, by decide +kernel⟩, List.mem_of_getElem? (i := 786) (by decide +kernel), List.mem_of_getElem? (i := 1025) (by decide +kernel), List.mem_of_getElem? (i := 1026) (by decide +kernel)⟩
theorem lw_p68 : lw_okq (⟨"CheckedMachineModel", "compute", "(I)V"⟩, 26) := ⟨⟨by decide +kernel, by decide +kernel⟩, List.mem_of_getElem? (i := 786) (by decide +kernel), List.mem_of_getElem? (i := 1033) (by decide +kernel), List.mem_of_getElem? (i := 1034) (by decide +kernel)⟩
theorem lw_p69 : lw_okq (⟨"CheckedMachineModel", "above", "(I)Z"⟩, 26) := ⟨⟨by decide +kernel, by decide +kernel⟩, List.mem_of_getElem? (i := 786) (by decide +kernel), List.mem_of_getElem? (i := 1037) (by decide +kernel), List.mem_of_getElem? (i := 1038) (by decide +kernel)⟩
theorem lw_p70 : lw_okq (⟨"CheckedMachineModel", "transfer", "(IZ)V"⟩, 26) := ⟨⟨by decide +kernel, by decide +kernel⟩, List.mem_of_getElem? (i := 786) (by decide +kernel), List.mem_of_getElem? (i := 1041) (by decide +kernel), List.mem_of_getElem? (i := 1042) (by decide +kernel)⟩
theorem lw_p71 : lw_okq (⟨"CheckedMachineModel", "callNow", "(I)V"⟩, 26) := ⟨⟨by decide +kernel, by decide +kernel⟩, List.mem_of_getElem? (i := 786) (by decide +kernel), List.mem_of_getElem? (i := 1045) (by decide +kernel), List.mem_of_getElem? (i := 1046) (by decide +kernel)⟩
def lw_privs_5 : List (MethodName × Nat) := [(⟨"CheckedMachineModel", "load", "(I)V"⟩, 26), (⟨"CheckedMachineModel", "store", "(I)V"⟩, 26), (⟨"CheckedMachineModel", "callGuess", "(I)V"⟩, 26), (⟨"CheckedMachineModel", "leave", "()V"⟩, 26), (⟨"CheckedMachineModel", "compute", "(I)V"⟩, 26), (⟨"CheckedMachineModel", "above", "(I)Z"⟩, 26), (⟨"CheckedMachineModel", "transfer", "(IZ)V"⟩, 26), (⟨"CheckedMachineModel", "callNow", "(I)V"⟩, 26)]
theorem lw_r5 : ∀ q ∈ lw_privs_5, lw_okq q := List.forall_mem_cons.mpr ⟨lw_p64, List.forall_mem_cons.mpr ⟨lw_p65, List.forall_mem_cons.mpr ⟨lw_p66, List.forall_mem_cons.mpr ⟨lw_p67, List.forall_mem_cons.mpr ⟨lw_p68, List.forall_mem_cons.mpr ⟨lw_p69, List.forall_mem_cons.mpr ⟨lw_p70, List.forall_mem_cons.mpr ⟨lw_p71, fun _ h => absurd h List.not_mem_nil⟩⟩⟩⟩⟩⟩⟩⟩
def lw_privs : List (MethodName × Nat) := lw_privs_1 ++ (lw_privs_2 ++ (lw_privs_3 ++ (lw_privs_4 ++ (lw_privs_5))))
def lw_tbl : List Cond := k2_sels lw_privs ++ tables_1
theorem lw_privs_ok : ∀ q ∈ lw_privs, lw_okq q := by
  show ∀ q ∈ lw_privs_1 ++ (lw_privs_2 ++ (lw_privs_3 ++ (lw_privs_4 ++ (lw_privs_5)))), lw_okq q
  exact List.forall_mem_append.mpr ⟨lw_r1, List.forall_mem_append.mpr ⟨lw_r2, List.forall_mem_append.mpr ⟨lw_r3, List.forall_mem_append.mpr ⟨lw_r4, lw_r5⟩⟩⟩⟩
-- ===== end of PART A; then your names; then what follows =====
end
section
/-! THE WALK OVER ONE WORLD OF NUMBERED CELLS. A cell's number is a pair (kind, place); the world's contents are a function of the numbers. -/
abbrev x_I : Type := Nat × Nat
/-- tables' numbers, classes, array classes, the cells' numbers, their addresses -/
abbrev x_K : Type := va_G × List vw_C × List (ClassId × FieldType) × List x_I × (x_I → Nat)
abbrev x_cl (κ : x_K) : List vw_C := κ.2.1
abbrev x_ty (κ : x_K) : List (ClassId × FieldType) := κ.2.2.1
abbrev x_ids (κ : x_K) : List x_I := κ.2.2.2.1
abbrev x_ad (κ : x_K) : x_I → Nat := κ.2.2.2.2
def x_wd (κ : x_K) (f : x_I → va_E) : va_W := (x_ids κ).map (fun i => (x_ad κ i, f i))
def x_up (f : x_I → va_E) (i : x_I) (e : va_E) : x_I → va_E := fun j => if j = i then e else f j
def x_ok (κ : x_K) : Prop := (x_ids κ).Nodup ∧ ∀ i ∈ x_ids κ, ∀ j ∈ x_ids κ, x_ad κ i = x_ad κ j → i = j
def x_A (κ : x_K) (sz : Nat) : Nat → Prop := fun q => (∃ i ∈ x_ids κ, x_ad κ i = q) ∨ sz ≤ q
theorem x_nth {κ : x_K} {f : x_I → va_E} {k : Nat} {q : Nat × va_E} (h : (x_wd κ f)[k]? = some q) : ∃ i, (x_ids κ)[k]? = some i ∧ i ∈ x_ids κ ∧ q = (x_ad κ i, f i) := by
  unfold x_wd at h
  rw [List.getElem?_map] at h
  cases hi : (x_ids κ)[k]? with
  | none => rw [hi] at h; cases h
  | some i => rw [hi] at h; exact ⟨i, rfl, List.mem_of_getElem? hi, (Option.some.inj h).symm⟩
theorem x_at {κ : x_K} {f : x_I → va_E} {i : x_I} (h : i ∈ x_ids κ) : ∃ k : Nat, (x_wd κ f)[k]? = some (x_ad κ i, f i) := by
  obtain ⟨k, hk⟩ := List.getElem?_of_mem h
  exact ⟨k, by unfold x_wd; rw [List.getElem?_map, hk]; rfl⟩
theorem x_D {κ : x_K} (h : x_ok κ) (f : x_I → va_E) (sz : Nat) : va_D (x_A κ sz) (x_wd κ f) := by
  refine ⟨fun i j p q hi hj hpq => ?_, fun k q hk => ?_⟩
  · obtain ⟨a, a1, a2, rfl⟩ := x_nth hi
    obtain ⟨b, b1, b2, rfl⟩ := x_nth hj
    have hab : a = b := h.2 a a2 b b2 hpq
    subst hab
    have hi' := (List.getElem?_eq_some_iff.mp a1).1
    exact (List.getElem?_inj hi' h.1).mp (a1.trans b1.symm)
  · obtain ⟨a, a1, a2, rfl⟩ := x_nth hk
    exact Or.inl ⟨a, a2, rfl⟩
theorem x_set {κ : x_K} (h : x_ok κ) {f : x_I → va_E} {i : x_I} {k : Nat} (hm : i ∈ x_ids κ) (hk : (x_wd κ f)[k]? = some (x_ad κ i, f i)) (e : va_E) : (x_wd κ f).set k (x_ad κ i, e) = x_wd κ (x_up f i e) := by
  obtain ⟨a, a1, a2, he⟩ := x_nth hk
  have hai : a = i := h.2 a a2 i hm (congrArg Prod.fst he).symm
  subst hai
  have hlt := (List.getElem?_eq_some_iff.mp hk).1
  refine List.ext_getElem? fun j => ?_
  by_cases hj : j = k
  · subst hj
    rw [List.getElem?_set_self hlt]
    unfold x_wd
    rw [List.getElem?_map, a1]
    simp [x_up]
  · rw [List.getElem?_set_ne (Ne.symm hj)]
    unfold x_wd
    rw [List.getElem?_map, List.getElem?_map]
    cases hb : (x_ids κ)[j]? with
    | none => rfl
    | some b =>
      have hne : b ≠ a := fun e1 => by
        subst e1
        exact hj ((List.getElem?_inj (List.getElem?_eq_some_iff.mp hb).1 h.1).mp (hb.trans a1.symm))
      simp [x_up, hne]
section Walk
variable {p : Program} {l : Launch} {e : Env} {R : Room} {s : State} {m : MethodId} {args : Array Value} {below : List Frame} {meth : Method} {c : Code} {cells slots : Nat} {Q : State → Prop}
variable {cc : ByteArray} {nL : Nat} {own : String} {Ts : List Cond} {κ : x_K} {f : x_I → va_E} {pc : Nat} {lv lv' : List (Nat × Value)} {st : List Value}
/-- what a method's walk stands on -/
def x_C (p : Program) (s : State) (m : MethodId) (args : Array Value) (c : Code) (cc : ByteArray) (nL : Nat) (own : String) (Ts : List Cond) (κ : x_K) : Prop :=
  CallFix p m c cc nL s args Ts own ∧ va_K κ.1 (x_cl κ) (x_ty κ) s ∧ x_ok κ
/-- the machine at pc, with these locals and this stack, in any heap that holds the world f -/
def x_V (p : Program) (l : Launch) (e : Env) (R : Room) (s : State) (m : MethodId) (args : Array Value) (below : List Frame) (meth : Method) (c : Code) (κ : x_K) (nL cells slots : Nat) (Q : State → Prop) (f : x_I → va_E) (pc : Nat) (lv : List (Nat × Value)) (st : List Value) : Prop :=
  ∀ (H : Heap) (locs : List Loc) (ls : Array Slot), va_P κ.1 (x_cl κ) (x_wd κ f) H → va_S (x_A κ s.heap.size) s.heap H locs → lv_has ls nL lv → W p l e R s m args below meth c H locs cells slots Q (F0 m pc ls st)
/-- the end of a method: its answer and the world behind it -/
def x_Q {σ : Type} (κ : x_K) (F : σ → x_I → va_E) (X : Option Value × σ) (sz : Nat) : Array Value → State → Outcome → State → Prop := fun _ st o t =>
  o = .returned X.1 ∧ va_P κ.1 (x_cl κ) (x_wd κ (F X.2)) t.heap ∧ va_F (x_A κ sz) st t
/-- A CONTRACT: called with the values vs in the world F a, the method ends with X; mc cells of ms slots may be new -/
def x_M {σ : Type} (l : Launch) (y : MethodName) (w : List Cond) (rm : Room) (κ : x_K) (F : σ → x_I → va_E) (vs : List Value) (a : σ) (X : Option Value × σ) (mc ms : Nat) : Prop :=
  ∀ sz : Nat, Met l y w rm (va_Pc vs (fun U => U.heap.size = sz ∧ va_P κ.1 (x_cl κ) (x_wd κ (F a)) U.heap ∧ va_K κ.1 (x_cl κ) (x_ty κ) U)) (x_Q κ F X sz) mc ms (x_A κ sz)
/-- what a walk owes at its end: X is 'wr q' -/
def x_E {σ τ : Type} (below : List Frame) (κ : x_K) (args : Array Value) (s : State) (mc ms : Nat) (F : σ → x_I → va_E) (wr : τ → Option Value × σ) (q : τ) : State → Prop :=
  MQ below (x_Q κ F (wr q) s.heap.size) args s mc ms (x_A κ s.heap.size)
theorem x_start {σ τ : Type} {y : MethodName} {w w' : List Cond} {rm : Room} {F : σ → x_I → va_E} {vs : List Value} {a : σ} {wr : τ → Option Value × σ} {q : τ} {mc ms maxL : Nat} {ret : Option FieldType} (ok : x_ok κ) (hy : plainName y.cls = true) (hw : w = Cond.code y cc maxL ret :: w') (hlen : (lg_sl vs).length ≤ maxL) {lv0 : List (Nat × Value)} (hlv : lv_args 0 vs = lv0)
    (body : ∀ (p : Program) (e : Env) (s : State) (m : MethodId) (below : List Frame) (meth : Method) (c : Code), x_C p s m vs.toArray c cc maxL y.cls w κ → meth.sig.returnType = ret → meth.locks = false → x_V p l e rm s m vs.toArray below meth c κ maxL 0 0 (x_E below κ vs.toArray s mc ms F wr q) (F a) 0 lv0 []) : x_M l y w rm κ F vs a (wr q) mc ms := by
  intro sz
  refine Met.ofW (cc := cc) (maxL := maxL) (ret := ret) hy hw ?_
  intro p e s m args below meth c s₁ B hml hv
  obtain ⟨rfl, hsz, hP, hK⟩ := hv
  subst hsz
  have hown : s.vm.findClass y.cls = some m.cls := findClass_of_methodNamed B.named
  have hl := lv_entry vs (n := maxL) hlen
  rw [hlv] at hl
  rw [lg_entry_eq]
  exact body p e s m below meth c ⟨⟨B.exec, B.bytes, hml, hown, atoms_spec (ws := w) B.pre⟩, hK, ok⟩ B.returns B.notSynchronized s.heap [] _ hP va_S.rf hl
/-- behind a call -/
theorem x_call {σ : Type} {F : σ → x_I → va_E} {a : σ} {X : Option Value × σ} {mc ms : Nat} {rest st0 : List Value} {args' : Array Value}
    (hr : ∀ (H : Heap) (locs : List Loc) (ls : Array Slot), va_P κ.1 (x_cl κ) (x_wd κ (F a)) H → lv_has ls nL lv → va_Run p l e R s m args below meth c H locs cells slots mc ms (F0 m pc ls st0) rest (x_Q κ F X H.size args') (x_A κ H.size))
    (kk : x_V p l e R s m args below meth c κ nL (cells + mc) (slots + ms) Q (F X.2) (pc + 3) lv (X.1.toList ++ rest)) : x_V p l e R s m args below meth c κ nL cells slots Q (F a) pc lv st0 := by
  intro H locs ls hP hS hl T hT Y
  obtain ⟨v, st₀, t, T', L, h0, Y', hL, e1, e2, ⟨hv, hP', hz, hk⟩, go⟩ := hr H locs ls hP hl T hT Y
  cases hv
  rw [h0] at hz hk
  have hin : ∀ z, z < s.heap.size → x_A κ H.size z → x_A κ s.heap.size z := fun z hz1 h => by
    rcases h with h | h
    · exact Or.inl h
    · have := hS.1
      omega
  have hS' : va_S (x_A κ s.heap.size) s.heap T'.heap (locs ++ L) := by
    refine ⟨Nat.le_trans hS.1 (by rw [e1]; exact hz), fun z h1 h2 => ?_, fun z hz1 => ?_⟩
    · rw [e1, hk z (Nat.lt_of_lt_of_le h1 hS.1) (fun h => h2 (hin z h1 h))]
      exact hS.2.1 z h1 h2
    · rcases List.mem_append.mp hz1 with h | h
      · exact hS.2.2 z h
      · rcases hL z h with h9 | h9
        · exact Or.inl h9
        · exact Or.inr (Nat.le_trans hS.1 h9)
  obtain ⟨t2, a1, b1⟩ := kk T'.heap (locs ++ L) ls (by rw [e1]; exact hP') hS' hl T' rfl Y'
  exact ⟨t2, go t2 a1, b1⟩
theorem x_blind {σ : Type} {F : σ → x_I → va_E} {vs : List Value} {a : σ} {sz : Nat} : FrameBlind (va_Pc vs (fun U => U.heap.size = sz ∧ va_P κ.1 (x_cl κ) (x_wd κ (F a)) U.heap ∧ va_K κ.1 (x_cl κ) (x_ty κ) U)) :=
  fun a U g mk q => by
    obtain ⟨q0, q1, q2, q3⟩ := q
    exact ⟨q0, q1, q2, va_K.moved (u := U) (U := U.calling g mk a) (Vm.Alike.refl U.vm) q3⟩
theorem x_callV {σ : Type} {F : σ → x_I → va_E} {a : σ} {X : Option Value × σ} {mc ms maxL n index ci : Nat} {rest As : List Value} {y : MethodName} {w : List Cond} {rm : Room} {bytes : ByteArray} {ret : Option FieldType} {Cn : String} {i : x_I} {vc : vw_C} {fs : List Value}
    (C : x_C p s m args c cc nL own Ts κ) (hM : x_M l y w rm κ F (.ref (x_ad κ i) :: As) a X mc ms) (cw : CallW R s args own Cn index y bytes maxL ret w rm mc ms n)
    (hi : i ∈ x_ids κ) (hf : F a i = .inr (ci, fs)) (hc : (x_cl κ)[ci]? = some vc) (hcn : vc.1 = Cn) (hn : As.length = n) {st0 : List Value} (hst : st0 = As.reverse ++ .ref (x_ad κ i) :: rest) (hW : (rest.map fun v => v.category).sum ≤ 8) (hd : decode cc pc = .ok (.invokevirtual index, 3)) (hroom : cells + mc ≤ R.cells ∧ slots + ms ≤ R.slots)
    (kk : x_V p l e R s m args below meth c κ nL (cells + mc) (slots + ms) Q (F X.2) (pc + 3) lv (X.1.toList ++ rest)) : x_V p l e R s m args below meth c κ nL cells slots Q (F a) pc lv st0 := by
  refine x_call (X := X) (args' := (Value.ref (x_ad κ i) :: As).toArray) (rest := rest) (fun H locs ls hP hl => ?_) kk
  obtain ⟨k, hk⟩ := x_at (f := F a) hi
  have hrecv := va_recv C.2.1 hP hc (hk.trans (by rw [hf]))
  rw [hcn] at hrecv
  exact va_runV (As := As) (rest := rest) C.1 (hM H.size) cw ⟨x_blind, hrecv, fun U hU hW => ⟨rfl, by rw [hU], by rw [hU]; exact hP, va_K.moved hW.alike C.2.1⟩⟩ rfl hn hl.1 hst (lv_room hW) hd hroom
theorem x_callS {σ : Type} {F : σ → x_I → va_E} {a : σ} {X : Option Value × σ} {mc ms maxL n index : Nat} {rest As : List Value} {y : MethodName} {w : List Cond} {rm : Room} {bytes : ByteArray} {ret : Option FieldType}
    (C : x_C p s m args c cc nL own Ts κ) (hM : x_M l y w rm κ F As a X mc ms) (cw : CallB R s args own index y bytes maxL ret w rm mc ms n ∧ (Cond.static y).before args s = true)
    (hn : As.length = n) {st0 : List Value} (hst : st0 = As.reverse ++ rest) (hW : (rest.map fun v => v.category).sum ≤ 8) (hd : decode cc pc = .ok (.invokestatic index, 3)) (hroom : cells + mc ≤ R.cells ∧ slots + ms ≤ R.slots)
    (kk : x_V p l e R s m args below meth c κ nL (cells + mc) (slots + ms) Q (F X.2) (pc + 3) lv (X.1.toList ++ rest)) : x_V p l e R s m args below meth c κ nL cells slots Q (F a) pc lv st0 := by
  refine x_call (X := X) (args' := As.toArray) (rest := rest) (fun H locs ls hP hl => ?_) kk
  exact va_runS (As := As) (rest := rest) C.1 (hM H.size) cw ⟨x_blind, fun U hU hW => ⟨rfl, by rw [hU], by rw [hU]; exact hP, va_K.moved hW.alike C.2.1⟩⟩ rfl hn hl.1 hst (lv_room hW) hd hroom
-- the same where nothing is made: with an answer, and without
theorem x_callVv {σ : Type} {F : σ → x_I → va_E} {a a' : σ} {X : Option Value × σ} {v : Value} {maxL n index ci : Nat} {rest As : List Value} {y : MethodName} {w : List Cond} {rm : Room} {bytes : ByteArray} {ret : Option FieldType} {Cn : String} {i : x_I} {vc : vw_C} {fs : List Value}
    (C : x_C p s m args c cc nL own Ts κ) (hM : x_M l y w rm κ F (.ref (x_ad κ i) :: As) a X 0 0) (hX : X = (some v, a')) (cw : CallW R s args own Cn index y bytes maxL ret w rm 0 0 n)
    (hi : i ∈ x_ids κ) (hf : F a i = .inr (ci, fs)) (hc : (x_cl κ)[ci]? = some vc) (hcn : vc.1 = Cn) (hn : As.length = n) {st0 : List Value} (hst : st0 = As.reverse ++ .ref (x_ad κ i) :: rest) (hW : (rest.map fun v => v.category).sum ≤ 8) (hd : decode cc pc = .ok (.invokevirtual index, 3)) (hroom : cells ≤ R.cells ∧ slots ≤ R.slots)
    (kk : x_V p l e R s m args below meth c κ nL cells slots Q (F a') (pc + 3) lv (v :: rest)) : x_V p l e R s m args below meth c κ nL cells slots Q (F a) pc lv st0 := by
  subst hX
  exact x_callV (mc := 0) (ms := 0) C hM cw hi hf hc hcn hn hst hW hd hroom kk
theorem x_callV0 {σ : Type} {F : σ → x_I → va_E} {a a' : σ} {X : Option Value × σ} {maxL n index ci : Nat} {rest As : List Value} {y : MethodName} {w : List Cond} {rm : Room} {bytes : ByteArray} {ret : Option FieldType} {Cn : String} {i : x_I} {vc : vw_C} {fs : List Value}
    (C : x_C p s m args c cc nL own Ts κ) (hM : x_M l y w rm κ F (.ref (x_ad κ i) :: As) a X 0 0) (hX : X = (none, a')) (cw : CallW R s args own Cn index y bytes maxL ret w rm 0 0 n)
    (hi : i ∈ x_ids κ) (hf : F a i = .inr (ci, fs)) (hc : (x_cl κ)[ci]? = some vc) (hcn : vc.1 = Cn) (hn : As.length = n) {st0 : List Value} (hst : st0 = As.reverse ++ .ref (x_ad κ i) :: rest) (hW : (rest.map fun v => v.category).sum ≤ 8) (hd : decode cc pc = .ok (.invokevirtual index, 3)) (hroom : cells ≤ R.cells ∧ slots ≤ R.slots)
    (kk : x_V p l e R s m args below meth c κ nL cells slots Q (F a') (pc + 3) lv rest) : x_V p l e R s m args below meth c κ nL cells slots Q (F a) pc lv st0 := by
  subst hX
  exact x_callV (mc := 0) (ms := 0) C hM cw hi hf hc hcn hn hst hW hd hroom kk
theorem x_callSv {σ : Type} {F : σ → x_I → va_E} {a a' : σ} {X : Option Value × σ} {v : Value} {maxL n index : Nat} {rest As : List Value} {y : MethodName} {w : List Cond} {rm : Room} {bytes : ByteArray} {ret : Option FieldType}
    (C : x_C p s m args c cc nL own Ts κ) (hM : x_M l y w rm κ F As a X 0 0) (hX : X = (some v, a')) (cw : CallB R s args own index y bytes maxL ret w rm 0 0 n ∧ (Cond.static y).before args s = true)
    (hn : As.length = n) {st0 : List Value} (hst : st0 = As.reverse ++ rest) (hW : (rest.map fun v => v.category).sum ≤ 8) (hd : decode cc pc = .ok (.invokestatic index, 3)) (hroom : cells ≤ R.cells ∧ slots ≤ R.slots)
    (kk : x_V p l e R s m args below meth c κ nL cells slots Q (F a') (pc + 3) lv (v :: rest)) : x_V p l e R s m args below meth c κ nL cells slots Q (F a) pc lv st0 := by
  subst hX
  exact x_callS (mc := 0) (ms := 0) C hM cw hn hst hW hd hroom kk
theorem x_callS0 {σ : Type} {F : σ → x_I → va_E} {a a' : σ} {X : Option Value × σ} {maxL n index : Nat} {rest As : List Value} {y : MethodName} {w : List Cond} {rm : Room} {bytes : ByteArray} {ret : Option FieldType}
    (C : x_C p s m args c cc nL own Ts κ) (hM : x_M l y w rm κ F As a X 0 0) (hX : X = (none, a')) (cw : CallB R s args own index y bytes maxL ret w rm 0 0 n ∧ (Cond.static y).before args s = true)
    (hn : As.length = n) {st0 : List Value} (hst : st0 = As.reverse ++ rest) (hW : (rest.map fun v => v.category).sum ≤ 8) (hd : decode cc pc = .ok (.invokestatic index, 3)) (hroom : cells ≤ R.cells ∧ slots ≤ R.slots)
    (kk : x_V p l e R s m args below meth c κ nL cells slots Q (F a') (pc + 3) lv rest) : x_V p l e R s m args below meth c κ nL cells slots Q (F a) pc lv st0 := by
  subst hX
  exact x_callS (mc := 0) (ms := 0) C hM cw hn hst hW hd hroom kk
end Walk
end
section
section Rows
variable {p : Program} {l : Launch} {e : Env} {R : Room} {s : State} {m : MethodId} {args : Array Value} {below : List Frame} {meth : Method} {c : Code} {cells slots : Nat} {Q : State → Prop}
variable {cc : ByteArray} {nL : Nat} {own : String} {Ts : List Cond} {κ : x_K} {f : x_I → va_E} {pc : Nat} {lv lv' : List (Nat × Value)} {st : List Value}
theorem x_iconst {n : Int} {v : Int32} (C : x_C p s m args c cc nL own Ts κ) (hd : decode cc pc = .ok (.iconst n, 1)) (hv : Int32.ofInt n = v) (k : x_V p l e R s m args below meth c κ nL cells slots Q f (pc + 1) lv (.int v :: st)) : x_V p l e R s m args below meth c κ nL cells slots Q f pc lv st :=
  fun H locs ls hP hS hl => lv_iconst C.1.1 C.1.2.1 hd hv (k H locs ls hP hS hl)
theorem x_bipush {n : Int} {v : Int32} (C : x_C p s m args c cc nL own Ts κ) (hd : decode cc pc = .ok (.bipush n, 2)) (hv : (Int8.ofInt n).toInt32 = v) (k : x_V p l e R s m args below meth c κ nL cells slots Q f (pc + 2) lv (.int v :: st)) : x_V p l e R s m args below meth c κ nL cells slots Q f pc lv st :=
  fun H locs ls hP hS hl => lv_bipush C.1.1 C.1.2.1 hd hv (k H locs ls hP hS hl)
theorem x_sipush {n : Int} {v : Int32} (C : x_C p s m args c cc nL own Ts κ) (hd : decode cc pc = .ok (.sipush n, 3)) (hv : (Int16.ofInt n).toInt32 = v) (k : x_V p l e R s m args below meth c κ nL cells slots Q f (pc + 3) lv (.int v :: st)) : x_V p l e R s m args below meth c κ nL cells slots Q f pc lv st :=
  fun H locs ls hP hS hl => lv_sipush C.1.1 C.1.2.1 hd hv (k H locs ls hP hS hl)
theorem x_lconst {n : Fin 2} {v : Int64} (C : x_C p s m args c cc nL own Ts κ) (hd : decode cc pc = .ok (.lconst n, 1)) (hv : Int64.ofNat (n : Nat) = v) (k : x_V p l e R s m args below meth c κ nL cells slots Q f (pc + 1) lv (.long v :: st)) : x_V p l e R s m args below meth c κ nL cells slots Q f pc lv st :=
  fun H locs ls hP hS hl => lv_lconst C.1.1 C.1.2.1 hd hv (k H locs ls hP hS hl)
theorem x_null (C : x_C p s m args c cc nL own Ts κ) (hd : decode cc pc = .ok (.aconst_null, 1)) (k : x_V p l e R s m args below meth c κ nL cells slots Q f (pc + 1) lv (.null :: st)) : x_V p l e R s m args below meth c κ nL cells slots Q f pc lv st :=
  fun H locs ls hP hS hl => lv_null C.1.1 C.1.2.1 hd (k H locs ls hP hS hl)
theorem x_ldc {index : Nat} {v : Int32} (C : x_C p s m args c cc nL own Ts κ) (hc : Cond.constant own index v ∈ Ts) (hd : decode cc pc = .ok (.ldc index, 2)) (k : x_V p l e R s m args below meth c κ nL cells slots Q f (pc + 2) lv (.int v :: st)) : x_V p l e R s m args below meth c κ nL cells slots Q f pc lv st :=
  fun H locs ls hP hS hl => lv_ldc C.1.1 C.1.2.1 C.1.2.2.2.1 (C.1.2.2.2.2 _ hc) hd (k H locs ls hP hS hl)
theorem x_ldc2 {index : Nat} {v : Int64} (C : x_C p s m args c cc nL own Ts κ) (hc : Cond.constantLong own index v ∈ Ts) (hd : decode cc pc = .ok (.ldc2_w index, 3)) (k : x_V p l e R s m args below meth c κ nL cells slots Q f (pc + 3) lv (.long v :: st)) : x_V p l e R s m args below meth c κ nL cells slots Q f pc lv st :=
  fun H locs ls hP hS hl => lv_ldc2 C.1.1 C.1.2.1 C.1.2.2.2.1 (C.1.2.2.2.2 _ hc) hd (k H locs ls hP hS hl)
theorem x_iload_n {q : Fin 4} {i : Nat} {x : Int32} (j : Nat) (C : x_C p s m args c cc nL own Ts κ) (hd : decode cc pc = .ok (.iload_n q, 1)) (hi : (q : Nat) = i) (hj : lv[j]? = some (i, .int x)) (k : x_V p l e R s m args below meth c κ nL cells slots Q f (pc + 1) lv (.int x :: st)) : x_V p l e R s m args below meth c κ nL cells slots Q f pc lv st :=
  fun H locs ls hP hS hl => lv_iload_n C.1.1 C.1.2.1 hd hi (lv_at hl j hj) (k H locs ls hP hS hl)
theorem x_iload {i : Nat} {x : Int32} (j : Nat) (C : x_C p s m args c cc nL own Ts κ) (hd : decode cc pc = .ok (.iload i, 2)) (hj : lv[j]? = some (i, .int x)) (k : x_V p l e R s m args below meth c κ nL cells slots Q f (pc + 2) lv (.int x :: st)) : x_V p l e R s m args below meth c κ nL cells slots Q f pc lv st :=
  fun H locs ls hP hS hl => lv_iload C.1.1 C.1.2.1 hd (lv_at hl j hj) (k H locs ls hP hS hl)
theorem x_lload_n {q : Fin 4} {i : Nat} {x : Int64} (j : Nat) (C : x_C p s m args c cc nL own Ts κ) (hd : decode cc pc = .ok (.lload_n q, 1)) (hi : (q : Nat) = i) (hj : lv[j]? = some (i, .long x)) (k : x_V p l e R s m args below meth c κ nL cells slots Q f (pc + 1) lv (.long x :: st)) : x_V p l e R s m args below meth c κ nL cells slots Q f pc lv st :=
  fun H locs ls hP hS hl => lv_lload_n C.1.1 C.1.2.1 hd hi (lv_at hl j hj) (k H locs ls hP hS hl)
theorem x_lload {i : Nat} {x : Int64} (j : Nat) (C : x_C p s m args c cc nL own Ts κ) (hd : decode cc pc = .ok (.lload i, 2)) (hj : lv[j]? = some (i, .long x)) (k : x_V p l e R s m args below meth c κ nL cells slots Q f (pc + 2) lv (.long x :: st)) : x_V p l e R s m args below meth c κ nL cells slots Q f pc lv st :=
  fun H locs ls hP hS hl => lv_lload C.1.1 C.1.2.1 hd (lv_at hl j hj) (k H locs ls hP hS hl)
theorem x_aload_n {q : Fin 4} {i : Nat} {x : Nat} (j : Nat) (C : x_C p s m args c cc nL own Ts κ) (hd : decode cc pc = .ok (.aload_n q, 1)) (hi : (q : Nat) = i) (hj : lv[j]? = some (i, .ref x)) (k : x_V p l e R s m args below meth c κ nL cells slots Q f (pc + 1) lv (.ref x :: st)) : x_V p l e R s m args below meth c κ nL cells slots Q f pc lv st :=
  fun H locs ls hP hS hl => lv_aload_n C.1.1 C.1.2.1 hd hi (lv_at hl j hj) (k H locs ls hP hS hl)
theorem x_aload {i : Nat} {x : Nat} (j : Nat) (C : x_C p s m args c cc nL own Ts κ) (hd : decode cc pc = .ok (.aload i, 2)) (hj : lv[j]? = some (i, .ref x)) (k : x_V p l e R s m args below meth c κ nL cells slots Q f (pc + 2) lv (.ref x :: st)) : x_V p l e R s m args below meth c κ nL cells slots Q f pc lv st :=
  fun H locs ls hP hS hl => lv_aload C.1.1 C.1.2.1 hd (lv_at hl j hj) (k H locs ls hP hS hl)
theorem x_aload_nN {q : Fin 4} {i : Nat} (j : Nat) (C : x_C p s m args c cc nL own Ts κ) (hd : decode cc pc = .ok (.aload_n q, 1)) (hi : (q : Nat) = i) (hj : lv[j]? = some (i, .null)) (k : x_V p l e R s m args below meth c κ nL cells slots Q f (pc + 1) lv (.null :: st)) : x_V p l e R s m args below meth c κ nL cells slots Q f pc lv st :=
  fun H locs ls hP hS hl => lv_aload_nN C.1.1 C.1.2.1 hd hi (lv_at hl j hj) (k H locs ls hP hS hl)
theorem x_aloadN {i : Nat} (j : Nat) (C : x_C p s m args c cc nL own Ts κ) (hd : decode cc pc = .ok (.aload i, 2)) (hj : lv[j]? = some (i, .null)) (k : x_V p l e R s m args below meth c κ nL cells slots Q f (pc + 2) lv (.null :: st)) : x_V p l e R s m args below meth c κ nL cells slots Q f pc lv st :=
  fun H locs ls hP hS hl => lv_aloadN C.1.1 C.1.2.1 hd (lv_at hl j hj) (k H locs ls hP hS hl)
theorem x_istore_n {q : Fin 4} {i : Nat} {x : Int32} (C : x_C p s m args c cc nL own Ts κ) (hd : decode cc pc = .ok (.istore_n q, 1)) (hi : (q : Nat) = i) (hn : i < nL) (hlv : (i, Value.int x) :: lv.filter (fun q => !(q.1 == i) && !(q.1 + 1 == i && q.2.category == 2)) = lv') (k : x_V p l e R s m args below meth c κ nL cells slots Q f (pc + 1) lv' st) : x_V p l e R s m args below meth c κ nL cells slots Q f pc lv (.int x :: st) :=
  fun H locs ls hP hS hl => lv_istore_n C.1.1 C.1.2.1 hd hi hl hn hlv (fun ls' hl' => k H locs ls' hP hS hl')
theorem x_istore {i : Nat} {x : Int32} (C : x_C p s m args c cc nL own Ts κ) (hd : decode cc pc = .ok (.istore i, 2)) (hn : i < nL) (hlv : (i, Value.int x) :: lv.filter (fun q => !(q.1 == i) && !(q.1 + 1 == i && q.2.category == 2)) = lv') (k : x_V p l e R s m args below meth c κ nL cells slots Q f (pc + 2) lv' st) : x_V p l e R s m args below meth c κ nL cells slots Q f pc lv (.int x :: st) :=
  fun H locs ls hP hS hl => lv_istore C.1.1 C.1.2.1 hd hl hn hlv (fun ls' hl' => k H locs ls' hP hS hl')
theorem x_lstore_n {q : Fin 4} {i : Nat} {x : Int64} (C : x_C p s m args c cc nL own Ts κ) (hd : decode cc pc = .ok (.lstore_n q, 1)) (hi : (q : Nat) = i) (hn : i + 1 < nL) (hlv : (i, Value.long x) :: lv.filter (fun q => !(q.1 == i) && (!(q.1 == i + 1) && !(q.1 + 1 == i && q.2.category == 2))) = lv') (k : x_V p l e R s m args below meth c κ nL cells slots Q f (pc + 1) lv' st) : x_V p l e R s m args below meth c κ nL cells slots Q f pc lv (.long x :: st) :=
  fun H locs ls hP hS hl => lv_lstore_n C.1.1 C.1.2.1 hd hi hl hn hlv (fun ls' hl' => k H locs ls' hP hS hl')
theorem x_lstore {i : Nat} {x : Int64} (C : x_C p s m args c cc nL own Ts κ) (hd : decode cc pc = .ok (.lstore i, 2)) (hn : i + 1 < nL) (hlv : (i, Value.long x) :: lv.filter (fun q => !(q.1 == i) && (!(q.1 == i + 1) && !(q.1 + 1 == i && q.2.category == 2))) = lv') (k : x_V p l e R s m args below meth c κ nL cells slots Q f (pc + 2) lv' st) : x_V p l e R s m args below meth c κ nL cells slots Q f pc lv (.long x :: st) :=
  fun H locs ls hP hS hl => lv_lstore C.1.1 C.1.2.1 hd hl hn hlv (fun ls' hl' => k H locs ls' hP hS hl')
theorem x_astore_n {q : Fin 4} {i : Nat} {x : Nat} (C : x_C p s m args c cc nL own Ts κ) (hd : decode cc pc = .ok (.astore_n q, 1)) (hi : (q : Nat) = i) (hn : i < nL) (hlv : (i, Value.ref x) :: lv.filter (fun q => !(q.1 == i) && !(q.1 + 1 == i && q.2.category == 2)) = lv') (k : x_V p l e R s m args below meth c κ nL cells slots Q f (pc + 1) lv' st) : x_V p l e R s m args below meth c κ nL cells slots Q f pc lv (.ref x :: st) :=
  fun H locs ls hP hS hl => lv_astore_n C.1.1 C.1.2.1 hd hi hl hn hlv (fun ls' hl' => k H locs ls' hP hS hl')
theorem x_astore {i : Nat} {x : Nat} (C : x_C p s m args c cc nL own Ts κ) (hd : decode cc pc = .ok (.astore i, 2)) (hn : i < nL) (hlv : (i, Value.ref x) :: lv.filter (fun q => !(q.1 == i) && !(q.1 + 1 == i && q.2.category == 2)) = lv') (k : x_V p l e R s m args below meth c κ nL cells slots Q f (pc + 2) lv' st) : x_V p l e R s m args below meth c κ nL cells slots Q f pc lv (.ref x :: st) :=
  fun H locs ls hP hS hl => lv_astore C.1.1 C.1.2.1 hd hl hn hlv (fun ls' hl' => k H locs ls' hP hS hl')
theorem x_astore_nN {q : Fin 4} {i : Nat} (C : x_C p s m args c cc nL own Ts κ) (hd : decode cc pc = .ok (.astore_n q, 1)) (hi : (q : Nat) = i) (hn : i < nL) (hlv : (i, Value.null) :: lv.filter (fun q => !(q.1 == i) && !(q.1 + 1 == i && q.2.category == 2)) = lv') (k : x_V p l e R s m args below meth c κ nL cells slots Q f (pc + 1) lv' st) : x_V p l e R s m args below meth c κ nL cells slots Q f pc lv (.null :: st) :=
  fun H locs ls hP hS hl => lv_astore_nN C.1.1 C.1.2.1 hd hi hl hn hlv (fun ls' hl' => k H locs ls' hP hS hl')
theorem x_astoreN {i : Nat} (C : x_C p s m args c cc nL own Ts κ) (hd : decode cc pc = .ok (.astore i, 2)) (hn : i < nL) (hlv : (i, Value.null) :: lv.filter (fun q => !(q.1 == i) && !(q.1 + 1 == i && q.2.category == 2)) = lv') (k : x_V p l e R s m args below meth c κ nL cells slots Q f (pc + 2) lv' st) : x_V p l e R s m args below meth c κ nL cells slots Q f pc lv (.null :: st) :=
  fun H locs ls hP hS hl => lv_astoreN C.1.1 C.1.2.1 hd hl hn hlv (fun ls' hl' => k H locs ls' hP hS hl')
theorem x_iinc {i : Nat} {n : Int} {x v : Int32} (j : Nat) (C : x_C p s m args c cc nL own Ts κ) (hd : decode cc pc = .ok (.iinc i n, 3)) (hj : lv[j]? = some (i, .int x)) (hv : x + Int32.ofInt n = v) (hn : i < nL) (hlv : (i, Value.int v) :: lv.filter (fun q => !(q.1 == i) && !(q.1 + 1 == i && q.2.category == 2)) = lv') (k : x_V p l e R s m args below meth c κ nL cells slots Q f (pc + 3) lv' st) : x_V p l e R s m args below meth c κ nL cells slots Q f pc lv st :=
  fun H locs ls hP hS hl => lv_iinc C.1.1 C.1.2.1 hd hl hj hv hn hlv (fun ls' hl' => k H locs ls' hP hS hl')
theorem x_iadd {x y : Int32} (C : x_C p s m args c cc nL own Ts κ) (hd : decode cc pc = .ok (.iadd, 1)) (k : x_V p l e R s m args below meth c κ nL cells slots Q f (pc + 1) lv (.int (x + y) :: st)) : x_V p l e R s m args below meth c κ nL cells slots Q f pc lv (.int y :: .int x :: st) :=
  fun H locs ls hP hS hl => lv_iadd C.1.1 C.1.2.1 hd (k H locs ls hP hS hl)
theorem x_isub {x y : Int32} (C : x_C p s m args c cc nL own Ts κ) (hd : decode cc pc = .ok (.isub, 1)) (k : x_V p l e R s m args below meth c κ nL cells slots Q f (pc + 1) lv (.int (x - y) :: st)) : x_V p l e R s m args below meth c κ nL cells slots Q f pc lv (.int y :: .int x :: st) :=
  fun H locs ls hP hS hl => lv_isub C.1.1 C.1.2.1 hd (k H locs ls hP hS hl)
theorem x_imul {x y : Int32} (C : x_C p s m args c cc nL own Ts κ) (hd : decode cc pc = .ok (.imul, 1)) (k : x_V p l e R s m args below meth c κ nL cells slots Q f (pc + 1) lv (.int (x * y) :: st)) : x_V p l e R s m args below meth c κ nL cells slots Q f pc lv (.int y :: .int x :: st) :=
  fun H locs ls hP hS hl => lv_imul C.1.1 C.1.2.1 hd (k H locs ls hP hS hl)
theorem x_iand {x y : Int32} (C : x_C p s m args c cc nL own Ts κ) (hd : decode cc pc = .ok (.iand, 1)) (k : x_V p l e R s m args below meth c κ nL cells slots Q f (pc + 1) lv (.int (x &&& y) :: st)) : x_V p l e R s m args below meth c κ nL cells slots Q f pc lv (.int y :: .int x :: st) :=
  fun H locs ls hP hS hl => lv_iand C.1.1 C.1.2.1 hd (k H locs ls hP hS hl)
theorem x_ior {x y : Int32} (C : x_C p s m args c cc nL own Ts κ) (hd : decode cc pc = .ok (.ior, 1)) (k : x_V p l e R s m args below meth c κ nL cells slots Q f (pc + 1) lv (.int (x ||| y) :: st)) : x_V p l e R s m args below meth c κ nL cells slots Q f pc lv (.int y :: .int x :: st) :=
  fun H locs ls hP hS hl => lv_ior C.1.1 C.1.2.1 hd (k H locs ls hP hS hl)
theorem x_ixor {x y : Int32} (C : x_C p s m args c cc nL own Ts κ) (hd : decode cc pc = .ok (.ixor, 1)) (k : x_V p l e R s m args below meth c κ nL cells slots Q f (pc + 1) lv (.int (x ^^^ y) :: st)) : x_V p l e R s m args below meth c κ nL cells slots Q f pc lv (.int y :: .int x :: st) :=
  fun H locs ls hP hS hl => lv_ixor C.1.1 C.1.2.1 hd (k H locs ls hP hS hl)
theorem x_ishl {x y : Int32} (C : x_C p s m args c cc nL own Ts κ) (hd : decode cc pc = .ok (.ishl, 1)) (k : x_V p l e R s m args below meth c κ nL cells slots Q f (pc + 1) lv (.int (x <<< (y &&& 31)) :: st)) : x_V p l e R s m args below meth c κ nL cells slots Q f pc lv (.int y :: .int x :: st) :=
  fun H locs ls hP hS hl => lv_ishl C.1.1 C.1.2.1 hd (k H locs ls hP hS hl)
theorem x_ishr {x y : Int32} (C : x_C p s m args c cc nL own Ts κ) (hd : decode cc pc = .ok (.ishr, 1)) (k : x_V p l e R s m args below meth c κ nL cells slots Q f (pc + 1) lv (.int (x >>> (y &&& 31)) :: st)) : x_V p l e R s m args below meth c κ nL cells slots Q f pc lv (.int y :: .int x :: st) :=
  fun H locs ls hP hS hl => lv_ishr C.1.1 C.1.2.1 hd (k H locs ls hP hS hl)
theorem x_ladd {x y : Int64} (C : x_C p s m args c cc nL own Ts κ) (hd : decode cc pc = .ok (.ladd, 1)) (k : x_V p l e R s m args below meth c κ nL cells slots Q f (pc + 1) lv (.long (x + y) :: st)) : x_V p l e R s m args below meth c κ nL cells slots Q f pc lv (.long y :: .long x :: st) :=
  fun H locs ls hP hS hl => lv_ladd C.1.1 C.1.2.1 hd (k H locs ls hP hS hl)
theorem x_lsub {x y : Int64} (C : x_C p s m args c cc nL own Ts κ) (hd : decode cc pc = .ok (.lsub, 1)) (k : x_V p l e R s m args below meth c κ nL cells slots Q f (pc + 1) lv (.long (x - y) :: st)) : x_V p l e R s m args below meth c κ nL cells slots Q f pc lv (.long y :: .long x :: st) :=
  fun H locs ls hP hS hl => lv_lsub C.1.1 C.1.2.1 hd (k H locs ls hP hS hl)
theorem x_lmul {x y : Int64} (C : x_C p s m args c cc nL own Ts κ) (hd : decode cc pc = .ok (.lmul, 1)) (k : x_V p l e R s m args below meth c κ nL cells slots Q f (pc + 1) lv (.long (x * y) :: st)) : x_V p l e R s m args below meth c κ nL cells slots Q f pc lv (.long y :: .long x :: st) :=
  fun H locs ls hP hS hl => lv_lmul C.1.1 C.1.2.1 hd (k H locs ls hP hS hl)
theorem x_land {x y : Int64} (C : x_C p s m args c cc nL own Ts κ) (hd : decode cc pc = .ok (.land, 1)) (k : x_V p l e R s m args below meth c κ nL cells slots Q f (pc + 1) lv (.long (x &&& y) :: st)) : x_V p l e R s m args below meth c κ nL cells slots Q f pc lv (.long y :: .long x :: st) :=
  fun H locs ls hP hS hl => lv_land C.1.1 C.1.2.1 hd (k H locs ls hP hS hl)
theorem x_lor {x y : Int64} (C : x_C p s m args c cc nL own Ts κ) (hd : decode cc pc = .ok (.lor, 1)) (k : x_V p l e R s m args below meth c κ nL cells slots Q f (pc + 1) lv (.long (x ||| y) :: st)) : x_V p l e R s m args below meth c κ nL cells slots Q f pc lv (.long y :: .long x :: st) :=
  fun H locs ls hP hS hl => lv_lor C.1.1 C.1.2.1 hd (k H locs ls hP hS hl)
theorem x_lxor {x y : Int64} (C : x_C p s m args c cc nL own Ts κ) (hd : decode cc pc = .ok (.lxor, 1)) (k : x_V p l e R s m args below meth c κ nL cells slots Q f (pc + 1) lv (.long (x ^^^ y) :: st)) : x_V p l e R s m args below meth c κ nL cells slots Q f pc lv (.long y :: .long x :: st) :=
  fun H locs ls hP hS hl => lv_lxor C.1.1 C.1.2.1 hd (k H locs ls hP hS hl)
theorem x_idiv {x y : Int32} (C : x_C p s m args c cc nL own Ts κ) (hne : ¬ y = 0) (hd : decode cc pc = .ok (.idiv, 1)) (k : x_V p l e R s m args below meth c κ nL cells slots Q f (pc + 1) lv (.int (x / y) :: st)) : x_V p l e R s m args below meth c κ nL cells slots Q f pc lv (.int y :: .int x :: st) :=
  fun H locs ls hP hS hl => lv_idiv C.1.1 C.1.2.1 hd hne (k H locs ls hP hS hl)
theorem x_irem {x y : Int32} (C : x_C p s m args c cc nL own Ts κ) (hne : ¬ y = 0) (hd : decode cc pc = .ok (.irem, 1)) (k : x_V p l e R s m args below meth c κ nL cells slots Q f (pc + 1) lv (.int (x - x / y * y) :: st)) : x_V p l e R s m args below meth c κ nL cells slots Q f pc lv (.int y :: .int x :: st) :=
  fun H locs ls hP hS hl => lv_irem C.1.1 C.1.2.1 hd hne (k H locs ls hP hS hl)
theorem x_ldiv {x y : Int64} (C : x_C p s m args c cc nL own Ts κ) (hne : ¬ y = 0) (hd : decode cc pc = .ok (.ldiv, 1)) (k : x_V p l e R s m args below meth c κ nL cells slots Q f (pc + 1) lv (.long (x / y) :: st)) : x_V p l e R s m args below meth c κ nL cells slots Q f pc lv (.long y :: .long x :: st) :=
  fun H locs ls hP hS hl => lv_ldiv C.1.1 C.1.2.1 hd hne (k H locs ls hP hS hl)
theorem x_lrem {x y : Int64} (C : x_C p s m args c cc nL own Ts κ) (hne : ¬ y = 0) (hd : decode cc pc = .ok (.lrem, 1)) (k : x_V p l e R s m args below meth c κ nL cells slots Q f (pc + 1) lv (.long (x - x / y * y) :: st)) : x_V p l e R s m args below meth c κ nL cells slots Q f pc lv (.long y :: .long x :: st) :=
  fun H locs ls hP hS hl => lv_lrem C.1.1 C.1.2.1 hd hne (k H locs ls hP hS hl)
theorem x_ineg {x : Int32} (C : x_C p s m args c cc nL own Ts κ) (hd : decode cc pc = .ok (.ineg, 1)) (k : x_V p l e R s m args below meth c κ nL cells slots Q f (pc + 1) lv (.int (-x) :: st)) : x_V p l e R s m args below meth c κ nL cells slots Q f pc lv (.int x :: st) :=
  fun H locs ls hP hS hl => lv_ineg C.1.1 C.1.2.1 hd (k H locs ls hP hS hl)
theorem x_lneg {x : Int64} (C : x_C p s m args c cc nL own Ts κ) (hd : decode cc pc = .ok (.lneg, 1)) (k : x_V p l e R s m args below meth c κ nL cells slots Q f (pc + 1) lv (.long (-x) :: st)) : x_V p l e R s m args below meth c κ nL cells slots Q f pc lv (.long x :: st) :=
  fun H locs ls hP hS hl => lv_lneg C.1.1 C.1.2.1 hd (k H locs ls hP hS hl)
theorem x_i2l {x : Int32} (C : x_C p s m args c cc nL own Ts κ) (hd : decode cc pc = .ok (.i2l, 1)) (k : x_V p l e R s m args below meth c κ nL cells slots Q f (pc + 1) lv (.long x.toInt64 :: st)) : x_V p l e R s m args below meth c κ nL cells slots Q f pc lv (.int x :: st) :=
  fun H locs ls hP hS hl => lv_i2l C.1.1 C.1.2.1 hd rfl (k H locs ls hP hS hl)
theorem x_l2i {x : Int64} (C : x_C p s m args c cc nL own Ts κ) (hd : decode cc pc = .ok (.l2i, 1)) (k : x_V p l e R s m args below meth c κ nL cells slots Q f (pc + 1) lv (.int x.toInt32 :: st)) : x_V p l e R s m args below meth c κ nL cells slots Q f pc lv (.long x :: st) :=
  fun H locs ls hP hS hl => lv_l2i C.1.1 C.1.2.1 hd rfl (k H locs ls hP hS hl)
theorem x_lshr {x : Int64} {y : Int32} (C : x_C p s m args c cc nL own Ts κ) (hd : decode cc pc = .ok (.lshr, 1)) (k : x_V p l e R s m args below meth c κ nL cells slots Q f (pc + 1) lv (.long (x >>> (y.toInt64 &&& 63)) :: st)) : x_V p l e R s m args below meth c κ nL cells slots Q f pc lv (.int y :: .long x :: st) :=
  fun H locs ls hP hS hl => lv_lshr C.1.1 C.1.2.1 hd rfl (k H locs ls hP hS hl)
theorem x_lshl {x : Int64} {y : Int32} (C : x_C p s m args c cc nL own Ts κ) (hd : decode cc pc = .ok (.lshl, 1)) (k : x_V p l e R s m args below meth c κ nL cells slots Q f (pc + 1) lv (.long (x <<< (y.toInt64 &&& 63)) :: st)) : x_V p l e R s m args below meth c κ nL cells slots Q f pc lv (.int y :: .long x :: st) :=
  fun H locs ls hP hS hl => lv_lshl C.1.1 C.1.2.1 hd rfl (k H locs ls hP hS hl)
theorem x_lushr {x : Int64} {y : Int32} (C : x_C p s m args c cc nL own Ts κ) (hd : decode cc pc = .ok (.lushr, 1)) (k : x_V p l e R s m args below meth c κ nL cells slots Q f (pc + 1) lv (.long ((x.toUInt64 >>> (y.toInt64.toUInt64 &&& Int64.toUInt64 63)).toInt64) :: st)) : x_V p l e R s m args below meth c κ nL cells slots Q f pc lv (.int y :: .long x :: st) :=
  fun H locs ls hP hS hl => lv_lushr C.1.1 C.1.2.1 hd rfl (k H locs ls hP hS hl)
theorem x_lcmp {x y : Int64} (C : x_C p s m args c cc nL own Ts κ) (hd : decode cc pc = .ok (.lcmp, 1)) (k : x_V p l e R s m args below meth c κ nL cells slots Q f (pc + 1) lv (.int (lg_cmp x y) :: st)) : x_V p l e R s m args below meth c κ nL cells slots Q f pc lv (.long y :: .long x :: st) :=
  fun H locs ls hP hS hl => W.lcmp C.1.1 C.1.2.1 hd (k H locs ls hP hS hl)
theorem x_dup {va : Value} (C : x_C p s m args c cc nL own Ts κ) (hd : decode cc pc = .ok (.dup, 1)) (hva : va.category = 1) (k : x_V p l e R s m args below meth c κ nL cells slots Q f (pc + 1) lv (va :: va :: st)) : x_V p l e R s m args below meth c κ nL cells slots Q f pc lv (va :: st) :=
  fun H locs ls hP hS hl => lv_dup C.1.1 C.1.2.1 hd hva (k H locs ls hP hS hl)
theorem x_pop {va : Value} (C : x_C p s m args c cc nL own Ts κ) (hd : decode cc pc = .ok (.pop, 1)) (hva : va.category = 1) (k : x_V p l e R s m args below meth c κ nL cells slots Q f (pc + 1) lv st) : x_V p l e R s m args below meth c κ nL cells slots Q f pc lv (va :: st) :=
  fun H locs ls hP hS hl => lv_pop C.1.1 C.1.2.1 hd hva (k H locs ls hP hS hl)
theorem x_dup_x1 {va vb : Value} (C : x_C p s m args c cc nL own Ts κ) (hd : decode cc pc = .ok (.dup_x1, 1)) (hva : va.category = 1) (hvb : vb.category = 1) (k : x_V p l e R s m args below meth c κ nL cells slots Q f (pc + 1) lv (va :: vb :: va :: st)) : x_V p l e R s m args below meth c κ nL cells slots Q f pc lv (va :: vb :: st) :=
  fun H locs ls hP hS hl => lv_dup_x1 C.1.1 C.1.2.1 hd hva hvb (k H locs ls hP hS hl)
theorem x_dup2_2 {va : Value} (C : x_C p s m args c cc nL own Ts κ) (hd : decode cc pc = .ok (.dup2, 1)) (hva : va.category = 2) (k : x_V p l e R s m args below meth c κ nL cells slots Q f (pc + 1) lv (va :: va :: st)) : x_V p l e R s m args below meth c κ nL cells slots Q f pc lv (va :: st) :=
  fun H locs ls hP hS hl => lv_dup2_2 C.1.1 C.1.2.1 hd hva (k H locs ls hP hS hl)
theorem x_dup2_11 {va vb : Value} (C : x_C p s m args c cc nL own Ts κ) (hd : decode cc pc = .ok (.dup2, 1)) (hva : va.category = 1) (hvb : vb.category = 1) (k : x_V p l e R s m args below meth c κ nL cells slots Q f (pc + 1) lv (va :: vb :: va :: vb :: st)) : x_V p l e R s m args below meth c κ nL cells slots Q f pc lv (va :: vb :: st) :=
  fun H locs ls hP hS hl => lv_dup2_11 C.1.1 C.1.2.1 hd hva hvb (k H locs ls hP hS hl)
theorem x_goto {off : Int} (tgt : Nat) (C : x_C p s m args c cc nL own Ts κ) (hd : decode cc pc = .ok (.goto off, 3)) (ht : (pc : Int) + off = (tgt : Int)) (k : x_V p l e R s m args below meth c κ nL cells slots Q f tgt lv st) : x_V p l e R s m args below meth c κ nL cells slots Q f pc lv st :=
  fun H locs ls hP hS hl => lv_goto C.1.1 C.1.2.1 hd ht (k H locs ls hP hS hl)
theorem x_ifnullR {x : Nat} {off : Int} (C : x_C p s m args c cc nL own Ts κ) (hd : decode cc pc = .ok (.ifnull off, 3)) (k : x_V p l e R s m args below meth c κ nL cells slots Q f (pc + 3) lv st) : x_V p l e R s m args below meth c κ nL cells slots Q f pc lv (.ref x :: st) :=
  fun H locs ls hP hS hl => lv_ifnull C.1.1 C.1.2.1 hd (k H locs ls hP hS hl)
theorem x_ifnullN {off : Int} (tgt : Nat) (C : x_C p s m args c cc nL own Ts κ) (hd : decode cc pc = .ok (.ifnull off, 3)) (ht : (pc : Int) + off = (tgt : Int)) (k : x_V p l e R s m args below meth c κ nL cells slots Q f tgt lv st) : x_V p l e R s m args below meth c κ nL cells slots Q f pc lv (.null :: st) :=
  fun H locs ls hP hS hl => lv_ifnullN C.1.1 C.1.2.1 hd ht (k H locs ls hP hS hl)
theorem x_ifnonnullR {x : Nat} {off : Int} (tgt : Nat) (C : x_C p s m args c cc nL own Ts κ) (hd : decode cc pc = .ok (.ifnonnull off, 3)) (ht : (pc : Int) + off = (tgt : Int)) (k : x_V p l e R s m args below meth c κ nL cells slots Q f tgt lv st) : x_V p l e R s m args below meth c κ nL cells slots Q f pc lv (.ref x :: st) :=
  fun H locs ls hP hS hl => lv_ifnonnull C.1.1 C.1.2.1 hd ht (k H locs ls hP hS hl)
theorem x_ifnonnullN {off : Int} (C : x_C p s m args c cc nL own Ts κ) (hd : decode cc pc = .ok (.ifnonnull off, 3)) (k : x_V p l e R s m args below meth c κ nL cells slots Q f (pc + 3) lv st) : x_V p l e R s m args below meth c κ nL cells slots Q f pc lv (.null :: st) :=
  fun H locs ls hP hS hl => lv_ifnonnullN C.1.1 C.1.2.1 hd (k H locs ls hP hS hl)
theorem x_if_eq {σ τ : Type} {F : σ → x_I → va_E} {wr : τ → Option Value × σ} {q1 q2 : τ} {mc ms : Nat} {x : Int32} {off : Int} (tgt : Nat) (C : x_C p s m args c cc nL own Ts κ) (hd : decode cc pc = .ok (.ifCond .eq off, 3)) (ht : (pc : Int) + off = (tgt : Int)) (kt : (x = 0) → x_V p l e R s m args below meth c κ nL cells slots (x_E below κ args s mc ms F wr q1) f tgt lv st) (kf : ¬ (x = 0) → x_V p l e R s m args below meth c κ nL cells slots (x_E below κ args s mc ms F wr q2) f (pc + 3) lv st) : x_V p l e R s m args below meth c κ nL cells slots (x_E below κ args s mc ms F wr (if x = 0 then q1 else q2)) f pc lv (.int x :: st) :=
  fun H locs ls hP hS hl => lv_if_eq C.1.1 C.1.2.1 hd ht (fun h => by rw [if_pos h]; exact kt h H locs ls hP hS hl) (fun h => by rw [if_neg h]; exact kf h H locs ls hP hS hl)
theorem x_icmp_eq {σ τ : Type} {F : σ → x_I → va_E} {wr : τ → Option Value × σ} {q1 q2 : τ} {mc ms : Nat} {x y : Int32} {off : Int} (tgt : Nat) (C : x_C p s m args c cc nL own Ts κ) (hd : decode cc pc = .ok (.if_icmp .eq off, 3)) (ht : (pc : Int) + off = (tgt : Int)) (kt : (x = y) → x_V p l e R s m args below meth c κ nL cells slots (x_E below κ args s mc ms F wr q1) f tgt lv st) (kf : ¬ (x = y) → x_V p l e R s m args below meth c κ nL cells slots (x_E below κ args s mc ms F wr q2) f (pc + 3) lv st) : x_V p l e R s m args below meth c κ nL cells slots (x_E below κ args s mc ms F wr (if x = y then q1 else q2)) f pc lv (.int y :: .int x :: st) :=
  fun H locs ls hP hS hl => lv_icmp_eq C.1.1 C.1.2.1 hd ht (fun h => by rw [if_pos h]; exact kt h H locs ls hP hS hl) (fun h => by rw [if_neg h]; exact kf h H locs ls hP hS hl)
theorem x_if_lt {σ τ : Type} {F : σ → x_I → va_E} {wr : τ → Option Value × σ} {q1 q2 : τ} {mc ms : Nat} {x : Int32} {off : Int} (tgt : Nat) (C : x_C p s m args c cc nL own Ts κ) (hd : decode cc pc = .ok (.ifCond .lt off, 3)) (ht : (pc : Int) + off = (tgt : Int)) (kt : (x < 0) → x_V p l e R s m args below meth c κ nL cells slots (x_E below κ args s mc ms F wr q1) f tgt lv st) (kf : ¬ (x < 0) → x_V p l e R s m args below meth c κ nL cells slots (x_E below κ args s mc ms F wr q2) f (pc + 3) lv st) : x_V p l e R s m args below meth c κ nL cells slots (x_E below κ args s mc ms F wr (if x < 0 then q1 else q2)) f pc lv (.int x :: st) :=
  fun H locs ls hP hS hl => lv_if_lt C.1.1 C.1.2.1 hd ht (fun h => by rw [if_pos h]; exact kt h H locs ls hP hS hl) (fun h => by rw [if_neg h]; exact kf h H locs ls hP hS hl)
theorem x_icmp_lt {σ τ : Type} {F : σ → x_I → va_E} {wr : τ → Option Value × σ} {q1 q2 : τ} {mc ms : Nat} {x y : Int32} {off : Int} (tgt : Nat) (C : x_C p s m args c cc nL own Ts κ) (hd : decode cc pc = .ok (.if_icmp .lt off, 3)) (ht : (pc : Int) + off = (tgt : Int)) (kt : (x < y) → x_V p l e R s m args below meth c κ nL cells slots (x_E below κ args s mc ms F wr q1) f tgt lv st) (kf : ¬ (x < y) → x_V p l e R s m args below meth c κ nL cells slots (x_E below κ args s mc ms F wr q2) f (pc + 3) lv st) : x_V p l e R s m args below meth c κ nL cells slots (x_E below κ args s mc ms F wr (if x < y then q1 else q2)) f pc lv (.int y :: .int x :: st) :=
  fun H locs ls hP hS hl => lv_icmp_lt C.1.1 C.1.2.1 hd ht (fun h => by rw [if_pos h]; exact kt h H locs ls hP hS hl) (fun h => by rw [if_neg h]; exact kf h H locs ls hP hS hl)
theorem x_if_ge {σ τ : Type} {F : σ → x_I → va_E} {wr : τ → Option Value × σ} {q1 q2 : τ} {mc ms : Nat} {x : Int32} {off : Int} (tgt : Nat) (C : x_C p s m args c cc nL own Ts κ) (hd : decode cc pc = .ok (.ifCond .ge off, 3)) (ht : (pc : Int) + off = (tgt : Int)) (kt : (0 ≤ x) → x_V p l e R s m args below meth c κ nL cells slots (x_E below κ args s mc ms F wr q1) f tgt lv st) (kf : ¬ (0 ≤ x) → x_V p l e R s m args below meth c κ nL cells slots (x_E below κ args s mc ms F wr q2) f (pc + 3) lv st) : x_V p l e R s m args below meth c κ nL cells slots (x_E below κ args s mc ms F wr (if 0 ≤ x then q1 else q2)) f pc lv (.int x :: st) :=
  fun H locs ls hP hS hl => lv_if_ge C.1.1 C.1.2.1 hd ht (fun h => by rw [if_pos h]; exact kt h H locs ls hP hS hl) (fun h => by rw [if_neg h]; exact kf h H locs ls hP hS hl)
theorem x_icmp_ge {σ τ : Type} {F : σ → x_I → va_E} {wr : τ → Option Value × σ} {q1 q2 : τ} {mc ms : Nat} {x y : Int32} {off : Int} (tgt : Nat) (C : x_C p s m args c cc nL own Ts κ) (hd : decode cc pc = .ok (.if_icmp .ge off, 3)) (ht : (pc : Int) + off = (tgt : Int)) (kt : (y ≤ x) → x_V p l e R s m args below meth c κ nL cells slots (x_E below κ args s mc ms F wr q1) f tgt lv st) (kf : ¬ (y ≤ x) → x_V p l e R s m args below meth c κ nL cells slots (x_E below κ args s mc ms F wr q2) f (pc + 3) lv st) : x_V p l e R s m args below meth c κ nL cells slots (x_E below κ args s mc ms F wr (if y ≤ x then q1 else q2)) f pc lv (.int y :: .int x :: st) :=
  fun H locs ls hP hS hl => lv_icmp_ge C.1.1 C.1.2.1 hd ht (fun h => by rw [if_pos h]; exact kt h H locs ls hP hS hl) (fun h => by rw [if_neg h]; exact kf h H locs ls hP hS hl)
theorem x_if_gt {σ τ : Type} {F : σ → x_I → va_E} {wr : τ → Option Value × σ} {q1 q2 : τ} {mc ms : Nat} {x : Int32} {off : Int} (tgt : Nat) (C : x_C p s m args c cc nL own Ts κ) (hd : decode cc pc = .ok (.ifCond .gt off, 3)) (ht : (pc : Int) + off = (tgt : Int)) (kt : (0 < x) → x_V p l e R s m args below meth c κ nL cells slots (x_E below κ args s mc ms F wr q1) f tgt lv st) (kf : ¬ (0 < x) → x_V p l e R s m args below meth c κ nL cells slots (x_E below κ args s mc ms F wr q2) f (pc + 3) lv st) : x_V p l e R s m args below meth c κ nL cells slots (x_E below κ args s mc ms F wr (if 0 < x then q1 else q2)) f pc lv (.int x :: st) :=
  fun H locs ls hP hS hl => lv_if_gt C.1.1 C.1.2.1 hd ht (fun h => by rw [if_pos h]; exact kt h H locs ls hP hS hl) (fun h => by rw [if_neg h]; exact kf h H locs ls hP hS hl)
theorem x_icmp_gt {σ τ : Type} {F : σ → x_I → va_E} {wr : τ → Option Value × σ} {q1 q2 : τ} {mc ms : Nat} {x y : Int32} {off : Int} (tgt : Nat) (C : x_C p s m args c cc nL own Ts κ) (hd : decode cc pc = .ok (.if_icmp .gt off, 3)) (ht : (pc : Int) + off = (tgt : Int)) (kt : (y < x) → x_V p l e R s m args below meth c κ nL cells slots (x_E below κ args s mc ms F wr q1) f tgt lv st) (kf : ¬ (y < x) → x_V p l e R s m args below meth c κ nL cells slots (x_E below κ args s mc ms F wr q2) f (pc + 3) lv st) : x_V p l e R s m args below meth c κ nL cells slots (x_E below κ args s mc ms F wr (if y < x then q1 else q2)) f pc lv (.int y :: .int x :: st) :=
  fun H locs ls hP hS hl => lv_icmp_gt C.1.1 C.1.2.1 hd ht (fun h => by rw [if_pos h]; exact kt h H locs ls hP hS hl) (fun h => by rw [if_neg h]; exact kf h H locs ls hP hS hl)
theorem x_if_le {σ τ : Type} {F : σ → x_I → va_E} {wr : τ → Option Value × σ} {q1 q2 : τ} {mc ms : Nat} {x : Int32} {off : Int} (tgt : Nat) (C : x_C p s m args c cc nL own Ts κ) (hd : decode cc pc = .ok (.ifCond .le off, 3)) (ht : (pc : Int) + off = (tgt : Int)) (kt : (x ≤ 0) → x_V p l e R s m args below meth c κ nL cells slots (x_E below κ args s mc ms F wr q1) f tgt lv st) (kf : ¬ (x ≤ 0) → x_V p l e R s m args below meth c κ nL cells slots (x_E below κ args s mc ms F wr q2) f (pc + 3) lv st) : x_V p l e R s m args below meth c κ nL cells slots (x_E below κ args s mc ms F wr (if x ≤ 0 then q1 else q2)) f pc lv (.int x :: st) :=
  fun H locs ls hP hS hl => lv_if_le C.1.1 C.1.2.1 hd ht (fun h => by rw [if_pos h]; exact kt h H locs ls hP hS hl) (fun h => by rw [if_neg h]; exact kf h H locs ls hP hS hl)
theorem x_icmp_le {σ τ : Type} {F : σ → x_I → va_E} {wr : τ → Option Value × σ} {q1 q2 : τ} {mc ms : Nat} {x y : Int32} {off : Int} (tgt : Nat) (C : x_C p s m args c cc nL own Ts κ) (hd : decode cc pc = .ok (.if_icmp .le off, 3)) (ht : (pc : Int) + off = (tgt : Int)) (kt : (x ≤ y) → x_V p l e R s m args below meth c κ nL cells slots (x_E below κ args s mc ms F wr q1) f tgt lv st) (kf : ¬ (x ≤ y) → x_V p l e R s m args below meth c κ nL cells slots (x_E below κ args s mc ms F wr q2) f (pc + 3) lv st) : x_V p l e R s m args below meth c κ nL cells slots (x_E below κ args s mc ms F wr (if x ≤ y then q1 else q2)) f pc lv (.int y :: .int x :: st) :=
  fun H locs ls hP hS hl => lv_icmp_le C.1.1 C.1.2.1 hd ht (fun h => by rw [if_pos h]; exact kt h H locs ls hP hS hl) (fun h => by rw [if_neg h]; exact kf h H locs ls hP hS hl)
theorem x_if_ne {σ τ : Type} {F : σ → x_I → va_E} {wr : τ → Option Value × σ} {q1 q2 : τ} {mc ms : Nat} {x : Int32} {off : Int} (tgt : Nat) (C : x_C p s m args c cc nL own Ts κ) (hd : decode cc pc = .ok (.ifCond .ne off, 3)) (ht : (pc : Int) + off = (tgt : Int)) (kf : x = 0 → x_V p l e R s m args below meth c κ nL cells slots (x_E below κ args s mc ms F wr q1) f (pc + 3) lv st) (kt : ¬ x = 0 → x_V p l e R s m args below meth c κ nL cells slots (x_E below κ args s mc ms F wr q2) f tgt lv st) : x_V p l e R s m args below meth c κ nL cells slots (x_E below κ args s mc ms F wr (if x = 0 then q1 else q2)) f pc lv (.int x :: st) :=
  fun H locs ls hP hS hl => lv_if_ne C.1.1 C.1.2.1 hd ht (fun h => by rw [if_neg h]; exact kt h H locs ls hP hS hl) (fun h => by rw [if_pos h]; exact kf h H locs ls hP hS hl)
theorem x_icmp_ne {σ τ : Type} {F : σ → x_I → va_E} {wr : τ → Option Value × σ} {q1 q2 : τ} {mc ms : Nat} {x y : Int32} {off : Int} (tgt : Nat) (C : x_C p s m args c cc nL own Ts κ) (hd : decode cc pc = .ok (.if_icmp .ne off, 3)) (ht : (pc : Int) + off = (tgt : Int)) (kf : x = y → x_V p l e R s m args below meth c κ nL cells slots (x_E below κ args s mc ms F wr q1) f (pc + 3) lv st) (kt : ¬ x = y → x_V p l e R s m args below meth c κ nL cells slots (x_E below κ args s mc ms F wr q2) f tgt lv st) : x_V p l e R s m args below meth c κ nL cells slots (x_E below κ args s mc ms F wr (if x = y then q1 else q2)) f pc lv (.int y :: .int x :: st) :=
  fun H locs ls hP hS hl => lv_icmp_ne C.1.1 C.1.2.1 hd ht (fun h => by rw [if_neg h]; exact kt h H locs ls hP hS hl) (fun h => by rw [if_pos h]; exact kf h H locs ls hP hS hl)
theorem x_lcmp_eq {σ τ : Type} {F : σ → x_I → va_E} {wr : τ → Option Value × σ} {q1 q2 : τ} {mc ms : Nat} {x y : Int64} {off : Int} (tgt : Nat) (C : x_C p s m args c cc nL own Ts κ) (hd0 : decode cc pc = .ok (.lcmp, 1)) (hd : decode cc (pc + 1) = .ok (.ifCond .eq off, 3)) (ht : ((pc + 1 : Nat) : Int) + off = (tgt : Int)) (kt : x = y → x_V p l e R s m args below meth c κ nL cells slots (x_E below κ args s mc ms F wr q1) f tgt lv st) (kf : ¬ x = y → x_V p l e R s m args below meth c κ nL cells slots (x_E below κ args s mc ms F wr q2) f (pc + 1 + 3) lv st) : x_V p l e R s m args below meth c κ nL cells slots (x_E below κ args s mc ms F wr (if x = y then q1 else q2)) f pc lv (.long y :: .long x :: st) :=
  fun H locs ls hP hS hl => W.lcmp C.1.1 C.1.2.1 hd0 (lv_if_eq C.1.1 C.1.2.1 hd ht (fun h => by have h := (lg_cmp_eq x y).mp h; rw [if_pos h]; exact kt h H locs ls hP hS hl) (fun h => by have h : ¬ (x = y) := fun h9 => h ((lg_cmp_eq x y).mpr h9); rw [if_neg h]; exact kf h H locs ls hP hS hl))
theorem x_lcmp_lt {σ τ : Type} {F : σ → x_I → va_E} {wr : τ → Option Value × σ} {q1 q2 : τ} {mc ms : Nat} {x y : Int64} {off : Int} (tgt : Nat) (C : x_C p s m args c cc nL own Ts κ) (hd0 : decode cc pc = .ok (.lcmp, 1)) (hd : decode cc (pc + 1) = .ok (.ifCond .lt off, 3)) (ht : ((pc + 1 : Nat) : Int) + off = (tgt : Int)) (kt : x < y → x_V p l e R s m args below meth c κ nL cells slots (x_E below κ args s mc ms F wr q1) f tgt lv st) (kf : ¬ x < y → x_V p l e R s m args below meth c κ nL cells slots (x_E below κ args s mc ms F wr q2) f (pc + 1 + 3) lv st) : x_V p l e R s m args below meth c κ nL cells slots (x_E below κ args s mc ms F wr (if x < y then q1 else q2)) f pc lv (.long y :: .long x :: st) :=
  fun H locs ls hP hS hl => W.lcmp C.1.1 C.1.2.1 hd0 (lv_if_lt C.1.1 C.1.2.1 hd ht (fun h => by have h := (lg_cmp_lt x y).mp h; rw [if_pos h]; exact kt h H locs ls hP hS hl) (fun h => by have h : ¬ (x < y) := fun h9 => h ((lg_cmp_lt x y).mpr h9); rw [if_neg h]; exact kf h H locs ls hP hS hl))
theorem x_lcmp_ge {σ τ : Type} {F : σ → x_I → va_E} {wr : τ → Option Value × σ} {q1 q2 : τ} {mc ms : Nat} {x y : Int64} {off : Int} (tgt : Nat) (C : x_C p s m args c cc nL own Ts κ) (hd0 : decode cc pc = .ok (.lcmp, 1)) (hd : decode cc (pc + 1) = .ok (.ifCond .ge off, 3)) (ht : ((pc + 1 : Nat) : Int) + off = (tgt : Int)) (kt : y ≤ x → x_V p l e R s m args below meth c κ nL cells slots (x_E below κ args s mc ms F wr q1) f tgt lv st) (kf : ¬ y ≤ x → x_V p l e R s m args below meth c κ nL cells slots (x_E below κ args s mc ms F wr q2) f (pc + 1 + 3) lv st) : x_V p l e R s m args below meth c κ nL cells slots (x_E below κ args s mc ms F wr (if y ≤ x then q1 else q2)) f pc lv (.long y :: .long x :: st) :=
  fun H locs ls hP hS hl => W.lcmp C.1.1 C.1.2.1 hd0 (lv_if_ge C.1.1 C.1.2.1 hd ht (fun h => by have h := (lg_cmp_ge x y).mp h; rw [if_pos h]; exact kt h H locs ls hP hS hl) (fun h => by have h : ¬ (y ≤ x) := fun h9 => h ((lg_cmp_ge x y).mpr h9); rw [if_neg h]; exact kf h H locs ls hP hS hl))
theorem x_lcmp_gt {σ τ : Type} {F : σ → x_I → va_E} {wr : τ → Option Value × σ} {q1 q2 : τ} {mc ms : Nat} {x y : Int64} {off : Int} (tgt : Nat) (C : x_C p s m args c cc nL own Ts κ) (hd0 : decode cc pc = .ok (.lcmp, 1)) (hd : decode cc (pc + 1) = .ok (.ifCond .gt off, 3)) (ht : ((pc + 1 : Nat) : Int) + off = (tgt : Int)) (kt : y < x → x_V p l e R s m args below meth c κ nL cells slots (x_E below κ args s mc ms F wr q1) f tgt lv st) (kf : ¬ y < x → x_V p l e R s m args below meth c κ nL cells slots (x_E below κ args s mc ms F wr q2) f (pc + 1 + 3) lv st) : x_V p l e R s m args below meth c κ nL cells slots (x_E below κ args s mc ms F wr (if y < x then q1 else q2)) f pc lv (.long y :: .long x :: st) :=
  fun H locs ls hP hS hl => W.lcmp C.1.1 C.1.2.1 hd0 (lv_if_gt C.1.1 C.1.2.1 hd ht (fun h => by have h := (lg_cmp_gt x y).mp h; rw [if_pos h]; exact kt h H locs ls hP hS hl) (fun h => by have h : ¬ (y < x) := fun h9 => h ((lg_cmp_gt x y).mpr h9); rw [if_neg h]; exact kf h H locs ls hP hS hl))
theorem x_lcmp_le {σ τ : Type} {F : σ → x_I → va_E} {wr : τ → Option Value × σ} {q1 q2 : τ} {mc ms : Nat} {x y : Int64} {off : Int} (tgt : Nat) (C : x_C p s m args c cc nL own Ts κ) (hd0 : decode cc pc = .ok (.lcmp, 1)) (hd : decode cc (pc + 1) = .ok (.ifCond .le off, 3)) (ht : ((pc + 1 : Nat) : Int) + off = (tgt : Int)) (kt : x ≤ y → x_V p l e R s m args below meth c κ nL cells slots (x_E below κ args s mc ms F wr q1) f tgt lv st) (kf : ¬ x ≤ y → x_V p l e R s m args below meth c κ nL cells slots (x_E below κ args s mc ms F wr q2) f (pc + 1 + 3) lv st) : x_V p l e R s m args below meth c κ nL cells slots (x_E below κ args s mc ms F wr (if x ≤ y then q1 else q2)) f pc lv (.long y :: .long x :: st) :=
  fun H locs ls hP hS hl => W.lcmp C.1.1 C.1.2.1 hd0 (lv_if_le C.1.1 C.1.2.1 hd ht (fun h => by have h := (lg_cmp_le x y).mp h; rw [if_pos h]; exact kt h H locs ls hP hS hl) (fun h => by have h : ¬ (x ≤ y) := fun h9 => h ((lg_cmp_le x y).mpr h9); rw [if_neg h]; exact kf h H locs ls hP hS hl))
theorem x_lcmp_ne {σ τ : Type} {F : σ → x_I → va_E} {wr : τ → Option Value × σ} {q1 q2 : τ} {mc ms : Nat} {x y : Int64} {off : Int} (tgt : Nat) (C : x_C p s m args c cc nL own Ts κ) (hd0 : decode cc pc = .ok (.lcmp, 1)) (hd : decode cc (pc + 1) = .ok (.ifCond .ne off, 3)) (ht : ((pc + 1 : Nat) : Int) + off = (tgt : Int)) (kf : x = y → x_V p l e R s m args below meth c κ nL cells slots (x_E below κ args s mc ms F wr q1) f (pc + 1 + 3) lv st) (kt : ¬ x = y → x_V p l e R s m args below meth c κ nL cells slots (x_E below κ args s mc ms F wr q2) f tgt lv st) : x_V p l e R s m args below meth c κ nL cells slots (x_E below κ args s mc ms F wr (if x = y then q1 else q2)) f pc lv (.long y :: .long x :: st) :=
  fun H locs ls hP hS hl => W.lcmp C.1.1 C.1.2.1 hd0 (lv_if_ne C.1.1 C.1.2.1 hd ht (fun h => by have h : ¬ x = y := fun h9 => h ((lg_cmp_eq x y).mpr h9); rw [if_neg h]; exact kt h H locs ls hP hS hl) (fun h => by have h : x = y := (lg_cmp_eq x y).mp h; rw [if_pos h]; exact kf h H locs ls hP hS hl))
theorem x_ite {σ τ : Type} {F : σ → x_I → va_E} {wr : τ → Option Value × σ} {q1 q2 : τ} {mc ms : Nat} {b : Prop} [hb : Decidable b] (kt : b → x_V p l e R s m args below meth c κ nL cells slots (x_E below κ args s mc ms F wr q1) f pc lv st) (kf : ¬ b → x_V p l e R s m args below meth c κ nL cells slots (x_E below κ args s mc ms F wr q2) f pc lv st) : x_V p l e R s m args below meth c κ nL cells slots (x_E below κ args s mc ms F wr (if b then q1 else q2)) f pc lv st := by
  by_cases h : b
  · rw [if_pos h]; exact kt h
  · rw [if_neg h]; exact kf h
end Rows
end
section
section HeapRows
variable {p : Program} {l : Launch} {e : Env} {R : Room} {s : State} {m : MethodId} {args : Array Value} {below : List Frame} {meth : Method} {c : Code} {cells slots : Nat} {Q : State → Prop}
variable {cc : ByteArray} {nL : Nat} {own : String} {Ts : List Cond} {κ : x_K} {f f' : x_I → va_E} {pc : Nat} {lv lv' : List (Nat × Value)} {st : List Value}
theorem x_get {i : x_I} {ci N index : Nat} {Cn : String} {T : u_T} {fs : List Value} {v : Value} (k : Nat) (C : x_C p s m args c cc nL own Ts κ) (hi : i ∈ x_ids κ) (hf : f i = .inr (ci, fs)) (hc : (x_cl κ)[ci]? = some (Cn, T, N)) (hin : ∀ w ∈ u_ws Cn T N, w ∈ Ts) (hk : k < N) (hlink : Cond.fieldLink own index (T k).1 (T k).2.1 (T k).2.2.1 ∈ Ts) (hv : fs[k]? = some v) (hd : decode cc pc = .ok (.getfield index, 3))
    (kk : x_V p l e R s m args below meth c κ nL cells slots Q f (pc + 3) lv (v :: st)) : x_V p l e R s m args below meth c κ nL cells slots Q f pc lv (.ref (x_ad κ i) :: st) := fun H locs ls hP hS hl => by
  obtain ⟨q, hq⟩ := x_at (f := f) hi
  exact va_get C.1.1 C.1.2.1 C.1.2.2.2.2 hin C.1.2.2.2.1 C.2.1 hP q (hq.trans (by rw [hf])) hc k hk (C.1.2.2.2.2 _ hlink) (fun _ h => h) hv hd (kk H locs ls hP hS hl)
theorem x_put {i : x_I} {ci N index : Nat} {Cn : String} {T : u_T} {ty : Nat → FieldType} {fs : List Value} {v : Value} (k : Nat) (C : x_C p s m args c cc nL own Ts κ) (hi : i ∈ x_ids κ) (hf : f i = .inr (ci, fs)) (hc : (x_cl κ)[ci]? = some (Cn, T, N)) (hin : ∀ w ∈ u_ws Cn T N, w ∈ Ts) (hty : ∀ k, k < N → parseFieldDescriptor (T k).2.2.1 = some (ty k)) (hnm : ∀ a, a < N → ∀ b, b < N → a ≠ b → (T a).2.1 ≠ (T b).2.1) (hk : k < N) (hlink : Cond.fieldLink own index (T k).1 (T k).2.1 (T k).2.2.1 ∈ Ts) (hfin : (T k).2.2.2 = false) (hn : narrow (ty k) v = v) (hfit : fits (ty k) v = true) (hl : k < fs.length) (hd : decode cc pc = .ok (.putfield index, 3)) (hF : x_up f i (.inr (ci, fs.set k v)) = f')
    (kk : x_V p l e R s m args below meth c κ nL cells slots Q f' (pc + 3) lv st) : x_V p l e R s m args below meth c κ nL cells slots Q f pc lv (v :: .ref (x_ad κ i) :: st) := fun H locs ls hP hS hl9 => by
  obtain ⟨q, hq⟩ := x_at (f := f) hi
  have hq' : (x_wd κ f)[q]? = some (x_ad κ i, .inr (ci, fs)) := hq.trans (by rw [hf])
  refine va_put (A := x_A κ s.heap.size) C.1.1 C.1.2.1 C.1.2.2.2.2 hin ty hty hnm C.1.2.2.2.1 C.2.1 hP (x_D C.2.2 f _) hS q hq' hc k hk (C.1.2.2.2.2 _ hlink) (fun _ h => h) hfin (hty k hk) hn hfit hl hd (fun H1 locs1 hP1 _ hS1 => ?_)
  rw [x_set C.2.2 hi hq, hF] at hP1
  exact kk H1 locs1 ls hP1 hS1 hl9
theorem x_iald {i : x_I} {cA : ClassId} {n : Nat} {g : Nat → Int32} {j : Int32} (t0 : Nat) (C : x_C p s m args c cc nL own Ts κ) (hi : i ∈ x_ids κ) (hf : f i = .inl (cA, n, .inl g)) (ht : (x_ty κ)[t0]? = some (cA, .int)) (hin : vp_in j n) (hd : decode cc pc = .ok (.iaload, 1))
    (kk : x_V p l e R s m args below meth c κ nL cells slots Q f (pc + 1) lv (.int (g j.toNatClampNeg) :: st)) : x_V p l e R s m args below meth c κ nL cells slots Q f pc lv (.int j :: .ref (x_ad κ i) :: st) := fun H locs ls hP hS hl => by
  obtain ⟨q, hq⟩ := x_at (f := f) hi
  exact va_iald C.1.1 C.1.2.1 C.2.1 hP q t0 (hq.trans (by rw [hf])) ht hin hd (kk H locs ls hP hS hl)
theorem x_zald {i : x_I} {cA : ClassId} {n : Nat} {g : Nat → Int32} {j : Int32} (t0 : Nat) (C : x_C p s m args c cc nL own Ts κ) (hi : i ∈ x_ids κ) (hf : f i = .inl (cA, n, .inl g)) (ht : (x_ty κ)[t0]? = some (cA, .boolean)) (hin : vp_in j n) (hd : decode cc pc = .ok (.baload, 1))
    (kk : x_V p l e R s m args below meth c κ nL cells slots Q f (pc + 1) lv (.int (g j.toNatClampNeg) :: st)) : x_V p l e R s m args below meth c κ nL cells slots Q f pc lv (.int j :: .ref (x_ad κ i) :: st) := fun H locs ls hP hS hl => by
  obtain ⟨q, hq⟩ := x_at (f := f) hi
  exact va_zald C.1.1 C.1.2.1 C.2.1 hP q t0 (hq.trans (by rw [hf])) ht hin hd (kk H locs ls hP hS hl)
theorem x_lald {i : x_I} {cA : ClassId} {n : Nat} {g : Nat → Int64} {j : Int32} (t0 : Nat) (C : x_C p s m args c cc nL own Ts κ) (hi : i ∈ x_ids κ) (hf : f i = .inl (cA, n, .inr (.inl g))) (ht : (x_ty κ)[t0]? = some (cA, .long)) (hin : vp_in j n) (hd : decode cc pc = .ok (.laload, 1))
    (kk : x_V p l e R s m args below meth c κ nL cells slots Q f (pc + 1) lv (.long (g j.toNatClampNeg) :: st)) : x_V p l e R s m args below meth c κ nL cells slots Q f pc lv (.int j :: .ref (x_ad κ i) :: st) := fun H locs ls hP hS hl => by
  obtain ⟨q, hq⟩ := x_at (f := f) hi
  exact va_lald C.1.1 C.1.2.1 C.2.1 hP q t0 (hq.trans (by rw [hf])) ht hin hd (kk H locs ls hP hS hl)
theorem x_aald {i : x_I} {cA : ClassId} {C9 : String} {n : Nat} {g : Nat → Option Nat} {j : Int32} (t0 : Nat) (C : x_C p s m args c cc nL own Ts κ) (hi : i ∈ x_ids κ) (hf : f i = .inl (cA, n, .inr (.inr (.inr (.inr g))))) (ht : (x_ty κ)[t0]? = some (cA, .object C9)) (hin : vp_in j n) (hd : decode cc pc = .ok (.aaload, 1))
    (kk : x_V p l e R s m args below meth c κ nL cells slots Q f (pc + 1) lv (va_rf (g j.toNatClampNeg) :: st)) : x_V p l e R s m args below meth c κ nL cells slots Q f pc lv (.int j :: .ref (x_ad κ i) :: st) := fun H locs ls hP hS hl => by
  obtain ⟨q, hq⟩ := x_at (f := f) hi
  exact va_aldq C.1.1 C.1.2.1 C.2.1 hP q t0 (hq.trans (by rw [hf])) ht hin hd (kk H locs ls hP hS hl)
theorem x_iast {i : x_I} {cA : ClassId} {n : Nat} {g : Nat → Int32} {j x : Int32} (t0 : Nat) (C : x_C p s m args c cc nL own Ts κ) (hi : i ∈ x_ids κ) (hf : f i = .inl (cA, n, .inl g)) (ht : (x_ty κ)[t0]? = some (cA, .int)) (hin : vp_in j n) (hd : decode cc pc = .ok (.iastore, 1)) (hF : x_up f i (.inl (cA, n, .inl (upd g j.toNatClampNeg x))) = f')
    (kk : x_V p l e R s m args below meth c κ nL cells slots Q f' (pc + 1) lv st) : x_V p l e R s m args below meth c κ nL cells slots Q f pc lv (.int x :: .int j :: .ref (x_ad κ i) :: st) := fun H locs ls hP hS hl => by
  obtain ⟨q, hq⟩ := x_at (f := f) hi
  refine va_iast (A := x_A κ s.heap.size) C.1.1 C.1.2.1 C.2.1 hP (x_D C.2.2 f _) hS q t0 (hq.trans (by rw [hf])) ht hin hd (fun H1 locs1 hP1 _ hS1 => ?_)
  rw [x_set C.2.2 hi hq, hF] at hP1
  exact kk H1 locs1 ls hP1 hS1 hl
theorem x_zast {i : x_I} {cA : ClassId} {n : Nat} {g : Nat → Int32} {j x : Int32} (t0 : Nat) (C : x_C p s m args c cc nL own Ts κ) (hi : i ∈ x_ids κ) (hf : f i = .inl (cA, n, .inl g)) (ht : (x_ty κ)[t0]? = some (cA, .boolean)) (hin : vp_in j n) (hd : decode cc pc = .ok (.bastore, 1)) (hF : x_up f i (.inl (cA, n, .inl (upd g j.toNatClampNeg (vp_nar .boolean x)))) = f')
    (kk : x_V p l e R s m args below meth c κ nL cells slots Q f' (pc + 1) lv st) : x_V p l e R s m args below meth c κ nL cells slots Q f pc lv (.int x :: .int j :: .ref (x_ad κ i) :: st) := fun H locs ls hP hS hl => by
  obtain ⟨q, hq⟩ := x_at (f := f) hi
  refine va_zast (A := x_A κ s.heap.size) C.1.1 C.1.2.1 C.2.1 hP (x_D C.2.2 f _) hS q t0 (hq.trans (by rw [hf])) ht hin hd (fun H1 locs1 hP1 _ hS1 => ?_)
  rw [x_set C.2.2 hi hq, hF] at hP1
  exact kk H1 locs1 ls hP1 hS1 hl
theorem x_last {i : x_I} {cA : ClassId} {n : Nat} {g : Nat → Int64} {j : Int32} {x : Int64} (t0 : Nat) (C : x_C p s m args c cc nL own Ts κ) (hi : i ∈ x_ids κ) (hf : f i = .inl (cA, n, .inr (.inl g))) (ht : (x_ty κ)[t0]? = some (cA, .long)) (hin : vp_in j n) (hd : decode cc pc = .ok (.lastore, 1)) (hF : x_up f i (.inl (cA, n, .inr (.inl (vp_updL g j.toNatClampNeg x)))) = f')
    (kk : x_V p l e R s m args below meth c κ nL cells slots Q f' (pc + 1) lv st) : x_V p l e R s m args below meth c κ nL cells slots Q f pc lv (.long x :: .int j :: .ref (x_ad κ i) :: st) := fun H locs ls hP hS hl => by
  obtain ⟨q, hq⟩ := x_at (f := f) hi
  refine va_last (A := x_A κ s.heap.size) C.1.1 C.1.2.1 C.2.1 hP (x_D C.2.2 f _) hS q t0 (hq.trans (by rw [hf])) ht hin hd (fun H1 locs1 hP1 _ hS1 => ?_)
  rw [x_set C.2.2 hi hq, hF] at hP1
  exact kk H1 locs1 ls hP1 hS1 hl
theorem x_alen {i : x_I} {cA : ClassId} {x : vp_A} {ty : FieldType} {v : Int32} (t0 : Nat) (C : x_C p s m args c cc nL own Ts κ) (hi : i ∈ x_ids κ) (hf : f i = .inl (cA, x)) (ht : (x_ty κ)[t0]? = some (cA, ty)) (hv : Int32.ofNat x.1 = v) (hd : decode cc pc = .ok (.arraylength, 1))
    (kk : x_V p l e R s m args below meth c κ nL cells slots Q f (pc + 1) lv (.int v :: st)) : x_V p l e R s m args below meth c κ nL cells slots Q f pc lv (.ref (x_ad κ i) :: st) := fun H locs ls hP hS hl => by
  obtain ⟨q, hq⟩ := x_at (f := f) hi
  exact va_alen C.1.1 C.1.2.1 C.2.1 hP q t0 (hq.trans (by rw [hf])) ht hv hd (kk H locs ls hP hS hl)
-- answers
theorem x_iret {σ τ : Type} {F : σ → x_I → va_E} {wr : τ → Option Value × σ} {q : τ} {a : σ} {v : Int32} (C : x_C p s m args c cc nL own Ts κ) (hr : meth.sig.returnType = some .int) (hlocks : meth.locks = false) (hX : wr q = (some (.int v), a)) (hd : decode cc pc = .ok (.ireturn, 1)) : x_V p l e R s m args below meth c κ nL cells slots (x_E below κ args s cells slots F wr q) (F a) pc lv [.int v] := fun H locs ls hP hS hl => by
  unfold x_E
  rw [hX]
  exact W.iret C.1.1 C.1.2.1 hr (fun t ht hW => ⟨rfl, by rw [ht]; exact hP, hS.F ht⟩) hS.2.2 hd hlocks
theorem x_zret {σ τ : Type} {F : σ → x_I → va_E} {wr : τ → Option Value × σ} {q : τ} {a : σ} {v : Int32} {ty : FieldType} (C : x_C p s m args c cc nL own Ts κ) (hr : meth.sig.returnType = some ty) (hlocks : meth.locks = false) (hn : narrow ty (.int v) = .int v) (hX : wr q = (some (.int v), a)) (hd : decode cc pc = .ok (.ireturn, 1)) : x_V p l e R s m args below meth c κ nL cells slots (x_E below κ args s cells slots F wr q) (F a) pc lv [.int v] := fun H locs ls hP hS hl => by
  unfold x_E
  rw [hX]
  exact W.zret C.1.1 C.1.2.1 hr hn (fun t ht hW => ⟨rfl, by rw [ht]; exact hP, hS.F ht⟩) hS.2.2 hd hlocks
theorem x_lret {σ τ : Type} {F : σ → x_I → va_E} {wr : τ → Option Value × σ} {q : τ} {a : σ} {v : Int64} (C : x_C p s m args c cc nL own Ts κ) (hr : meth.sig.returnType = some .long) (hlocks : meth.locks = false) (hX : wr q = (some (.long v), a)) (hd : decode cc pc = .ok (.lreturn, 1)) : x_V p l e R s m args below meth c κ nL cells slots (x_E below κ args s cells slots F wr q) (F a) pc lv [.long v] := fun H locs ls hP hS hl => by
  unfold x_E
  rw [hX]
  exact W.lret C.1.1 C.1.2.1 hr (fun t ht hW => ⟨rfl, by rw [ht]; exact hP, hS.F ht⟩) hS.2.2 hd hlocks
theorem x_vret {σ τ : Type} {F : σ → x_I → va_E} {wr : τ → Option Value × σ} {q : τ} {a : σ} (C : x_C p s m args c cc nL own Ts κ) (hr : meth.sig.returnType = none) (hlocks : meth.locks = false) (hX : wr q = (none, a)) (hd : decode cc pc = .ok (.return_, 1)) : x_V p l e R s m args below meth c κ nL cells slots (x_E below κ args s cells slots F wr q) (F a) pc lv [] := fun H locs ls hP hS hl => by
  unfold x_E
  rw [hX]
  exact W.vret C.1.1 C.1.2.1 hr (fun t ht hW => ⟨rfl, by rw [ht]; exact hP, hS.F ht⟩) hS.2.2 hd hlocks
theorem x_aret {σ τ : Type} {F : σ → x_I → va_E} {wr : τ → Option Value × σ} {q : τ} {a : σ} {v : Value} {n : String} (C : x_C p s m args c cc nL own Ts κ) (hr : meth.sig.returnType = some (.object n)) (hlocks : meth.locks = false) (hv : v = .null ∨ ∃ a, v = .ref a) (hX : wr q = (some v, a)) (hd : decode cc pc = .ok (.areturn, 1)) : x_V p l e R s m args below meth c κ nL cells slots (x_E below κ args s cells slots F wr q) (F a) pc lv [v] := fun H locs ls hP hS hl => by
  unfold x_E
  rw [hX]
  exact W.aret C.1.1 C.1.2.1 hr (Or.inl ⟨n, rfl⟩) hv (fun t ht hW => ⟨rfl, by rw [ht]; exact hP, hS.F ht⟩) hS.2.2 hd hlocks
-- Math.max and min of longs
theorem x_maxl {index : Nat} {x y : Int64} (C : x_C p s m args c cc nL own Ts κ) (hlink : Cond.methodLink own index Lib.MathLoose.max_long.x ∈ Ts) (hstat : Cond.static Lib.MathLoose.max_long.x ∈ Ts) (hini : Cond.initialized "java/lang/Math" ∈ Ts) (hcode : Cond.code Lib.MathLoose.max_long.x Lib.MathLoose.max_long.code 4 (some .long) ∈ Ts) (hframes : 1 ≤ R.frames) (hlocals : (st.map fun v => v.category).sum + 15 ≤ R.locals) (hc : cells ≤ R.cells) (hs : slots ≤ R.slots) (hd : decode cc pc = .ok (.invokestatic index, 3))
    (kk : x_V p l e R s m args below meth c κ nL cells slots Q f (pc + 3) lv (.long (if y < x then x else y) :: st)) : x_V p l e R s m args below meth c κ nL cells slots Q f pc lv (.long y :: .long x :: st) := fun H locs ls hP hS hl =>
  va_mmax_long C.1.1 C.1.2.1 (C.1.2.2.1.trans hl.1.symm) C.1.2.2.2.1 (C.1.2.2.2.2 _ hlink) (C.1.2.2.2.2 _ hstat) (C.1.2.2.2.2 _ hini) (C.1.2.2.2.2 _ hcode) hframes hlocals hc hs hd (kk H locs ls hP hS hl)
theorem x_minl {index : Nat} {x y : Int64} (C : x_C p s m args c cc nL own Ts κ) (hlink : Cond.methodLink own index Lib.MathLoose.min_long.x ∈ Ts) (hstat : Cond.static Lib.MathLoose.min_long.x ∈ Ts) (hini : Cond.initialized "java/lang/Math" ∈ Ts) (hcode : Cond.code Lib.MathLoose.min_long.x Lib.MathLoose.min_long.code 4 (some .long) ∈ Ts) (hframes : 1 ≤ R.frames) (hlocals : (st.map fun v => v.category).sum + 15 ≤ R.locals) (hc : cells ≤ R.cells) (hs : slots ≤ R.slots) (hd : decode cc pc = .ok (.invokestatic index, 3))
    (kk : x_V p l e R s m args below meth c κ nL cells slots Q f (pc + 3) lv (.long (if y < x then y else x) :: st)) : x_V p l e R s m args below meth c κ nL cells slots Q f pc lv (.long y :: .long x :: st) := fun H locs ls hP hS hl =>
  va_mmin_long C.1.1 C.1.2.1 (C.1.2.2.1.trans hl.1.symm) C.1.2.2.2.1 (C.1.2.2.2.2 _ hlink) (C.1.2.2.2.2 _ hstat) (C.1.2.2.2.2 _ hini) (C.1.2.2.2.2 _ hcode) hframes hlocals hc hs hd (kk H locs ls hP hS hl)
end HeapRows
end
section
/-! NAMES, written by wip/whole/mk_names.py out of the claim's listing -/
abbrev R_Ck : String := "CheckedMachine$Checker"
abbrev R_Ef : String := "CheckedMachine$Effects"
abbrev R_Gs : String := "CheckedMachine$Guesses"
abbrev R_Jg : String := "CheckedMachine$Judge"
abbrev R_Pg : String := "CheckedMachine$Program"
abbrev R_Rn : String := "CheckedMachine$Runner"
abbrev R_St : String := "CheckedMachine$Step"
abbrev R_CM : String := "CheckedMachine"
abbrev R_Md : String := "CheckedMachineModel"
abbrev R_Fk : String := "CheckedMachine$Fork"
abbrev R_Lw : String := "CheckedMachineLaw"
def T_Ck : u_T := fun k => match k with
  | 0 => ("CheckedMachine$Checker", "program", "LCheckedMachine$Program;", true)
  | 1 => ("CheckedMachine$Checker", "now", "LCheckedMachine$Guesses;", true)
  | 2 => ("CheckedMachine$Checker", "judge", "LCheckedMachine$Judge;", true)
  | 3 => ("CheckedMachine$Checker", "effects", "LCheckedMachine$Effects;", true)
  | 4 => ("CheckedMachine$Checker", "left", "[LCheckedMachine$Guesses;", true)
  | 5 => ("CheckedMachine$Checker", "open", "[Z", true)
  | 6 => ("CheckedMachine$Checker", "verdict", "I", false)
  | 7 => ("CheckedMachine$Checker", "looked", "I", false)
  | 8 => ("CheckedMachine$Checker", "reason", "I", false)
  | 9 => ("CheckedMachine$Checker", "rejectedAt", "I", false)
  | 10 => ("CheckedMachine$Checker", "exited", "Z", false)
  | 11 => ("CheckedMachine$Checker", "least", "J", false)
  | _ => ("CheckedMachine$Checker", "greatest", "J", false)
def t_Ck : Nat → FieldType := fun k => match k with
  | 0 => .object "CheckedMachine$Program"
  | 1 => .object "CheckedMachine$Guesses"
  | 2 => .object "CheckedMachine$Judge"
  | 3 => .object "CheckedMachine$Effects"
  | 4 => .array (.object "CheckedMachine$Guesses")
  | 5 => .array .boolean
  | 6 => .int
  | 7 => .int
  | 8 => .int
  | 9 => .int
  | 10 => .boolean
  | 11 => .long
  | _ => .long
theorem n_Ck : ∀ a, a < 13 → ∀ b, b < 13 → a ≠ b → (T_Ck a).2.1 ≠ (T_Ck b).2.1 := by decide +kernel
theorem t_Ck_ok : ∀ k, k < 13 → parseFieldDescriptor (T_Ck k).2.2.1 = some (t_Ck k) := by decide +kernel
def T_Ef : u_T := fun k => match k with
  | _ => ("CheckedMachine$Effects", "now", "LCheckedMachine$Guesses;", true)
def t_Ef : Nat → FieldType := fun k => match k with
  | _ => .object "CheckedMachine$Guesses"
theorem n_Ef : ∀ a, a < 1 → ∀ b, b < 1 → a ≠ b → (T_Ef a).2.1 ≠ (T_Ef b).2.1 := by decide +kernel
theorem t_Ef_ok : ∀ k, k < 1 → parseFieldDescriptor (T_Ef k).2.2.1 = some (t_Ef k) := by decide +kernel
def T_Gs : u_T := fun k => match k with
  | 0 => ("CheckedMachine$Guesses", "kinds", "[I", true)
  | 1 => ("CheckedMachine$Guesses", "los", "[J", true)
  | _ => ("CheckedMachine$Guesses", "his", "[J", true)
def t_Gs : Nat → FieldType := fun k => match k with
  | 0 => .array .int
  | 1 => .array .long
  | _ => .array .long
theorem n_Gs : ∀ a, a < 3 → ∀ b, b < 3 → a ≠ b → (T_Gs a).2.1 ≠ (T_Gs b).2.1 := by decide +kernel
theorem t_Gs_ok : ∀ k, k < 3 → parseFieldDescriptor (T_Gs k).2.2.1 = some (t_Gs k) := by decide +kernel
def T_Jg : u_T := fun k => match k with
  | 0 => ("CheckedMachine$Judge", "program", "LCheckedMachine$Program;", true)
  | _ => ("CheckedMachine$Judge", "now", "LCheckedMachine$Guesses;", true)
def t_Jg : Nat → FieldType := fun k => match k with
  | 0 => .object "CheckedMachine$Program"
  | _ => .object "CheckedMachine$Guesses"
theorem n_Jg : ∀ a, a < 2 → ∀ b, b < 2 → a ≠ b → (T_Jg a).2.1 ≠ (T_Jg b).2.1 := by decide +kernel
theorem t_Jg_ok : ∀ k, k < 2 → parseFieldDescriptor (T_Jg k).2.2.1 = some (t_Jg k) := by decide +kernel
def T_Pg : u_T := fun k => match k with
  | 0 => ("CheckedMachine$Program", "steps", "[LCheckedMachine$Step;", true)
  | _ => ("CheckedMachine$Program", "size", "I", false)
def t_Pg : Nat → FieldType := fun k => match k with
  | 0 => .array (.object "CheckedMachine$Step")
  | _ => .int
theorem n_Pg : ∀ a, a < 2 → ∀ b, b < 2 → a ≠ b → (T_Pg a).2.1 ≠ (T_Pg b).2.1 := by decide +kernel
theorem t_Pg_ok : ∀ k, k < 2 → parseFieldDescriptor (T_Pg k).2.2.1 = some (t_Pg k) := by decide +kernel
def T_Rn : u_T := fun k => match k with
  | 0 => ("CheckedMachine$Runner", "program", "LCheckedMachine$Program;", true)
  | 1 => ("CheckedMachine$Runner", "map", "[[J", true)
  | 2 => ("CheckedMachine$Runner", "kinds", "[I", true)
  | 3 => ("CheckedMachine$Runner", "values", "[J", true)
  | 4 => ("CheckedMachine$Runner", "stepsRun", "I", false)
  | _ => ("CheckedMachine$Runner", "countCalls", "I", false)
def t_Rn : Nat → FieldType := fun k => match k with
  | 0 => .object "CheckedMachine$Program"
  | 1 => .array (.array .long)
  | 2 => .array .int
  | 3 => .array .long
  | 4 => .int
  | _ => .int
theorem n_Rn : ∀ a, a < 6 → ∀ b, b < 6 → a ≠ b → (T_Rn a).2.1 ≠ (T_Rn b).2.1 := by decide +kernel
theorem t_Rn_ok : ∀ k, k < 6 → parseFieldDescriptor (T_Rn k).2.2.1 = some (t_Rn k) := by decide +kernel
def T_St : u_T := fun k => match k with
  | 0 => ("CheckedMachine$Step", "op", "I", false)
  | 1 => ("CheckedMachine$Step", "d", "I", false)
  | 2 => ("CheckedMachine$Step", "s", "I", false)
  | 3 => ("CheckedMachine$Step", "number", "I", false)
  | _ => ("CheckedMachine$Step", "target", "I", false)
def t_St : Nat → FieldType := fun k => match k with
  | 0 => .int
  | 1 => .int
  | 2 => .int
  | 3 => .int
  | _ => .int
theorem n_St : ∀ a, a < 5 → ∀ b, b < 5 → a ≠ b → (T_St a).2.1 ≠ (T_St b).2.1 := by decide +kernel
theorem t_St_ok : ∀ k, k < 5 → parseFieldDescriptor (T_St k).2.2.1 = some (t_St k) := by decide +kernel
def T_CM : u_T := fun k => match k with
  | 0 => ("CheckedMachine", "program", "LCheckedMachine$Program;", true)
  | 1 => ("CheckedMachine", "checker", "LCheckedMachine$Checker;", true)
  | 2 => ("CheckedMachine", "runner", "LCheckedMachine$Runner;", true)
  | _ => ("CheckedMachine", "checked", "Z", false)
def t_CM : Nat → FieldType := fun k => match k with
  | 0 => .object "CheckedMachine$Program"
  | 1 => .object "CheckedMachine$Checker"
  | 2 => .object "CheckedMachine$Runner"
  | _ => .boolean
theorem n_CM : ∀ a, a < 4 → ∀ b, b < 4 → a ≠ b → (T_CM a).2.1 ≠ (T_CM b).2.1 := by decide +kernel
theorem t_CM_ok : ∀ k, k < 4 → parseFieldDescriptor (T_CM k).2.2.1 = some (t_CM k) := by decide +kernel
def T_Md : u_T := fun k => match k with
  | 0 => ("CheckedMachineModel", "op", "[I", true)
  | 1 => ("CheckedMachineModel", "d", "[I", true)
  | 2 => ("CheckedMachineModel", "s", "[I", true)
  | 3 => ("CheckedMachineModel", "n", "[I", true)
  | 4 => ("CheckedMachineModel", "target", "[I", true)
  | 5 => ("CheckedMachineModel", "size", "I", false)
  | 6 => ("CheckedMachineModel", "reason", "I", false)
  | 7 => ("CheckedMachineModel", "at", "I", false)
  | 8 => ("CheckedMachineModel", "looked", "I", false)
  | 9 => ("CheckedMachineModel", "ran", "I", false)
  | 10 => ("CheckedMachineModel", "calls", "I", false)
  | 11 => ("CheckedMachineModel", "thrown", "I", false)
  | 12 => ("CheckedMachineModel", "checked", "Z", false)
  | 13 => ("CheckedMachineModel", "any", "Z", false)
  | 14 => ("CheckedMachineModel", "least", "J", false)
  | 15 => ("CheckedMachineModel", "most", "J", false)
  | 16 => ("CheckedMachineModel", "kind", "[I", true)
  | 17 => ("CheckedMachineModel", "low", "[J", true)
  | 18 => ("CheckedMachineModel", "high", "[J", true)
  | 19 => ("CheckedMachineModel", "pileKind", "[I", true)
  | 20 => ("CheckedMachineModel", "pileStep", "[I", true)
  | 21 => ("CheckedMachineModel", "pileLow", "[J", true)
  | 22 => ("CheckedMachineModel", "pileHigh", "[J", true)
  | 23 => ("CheckedMachineModel", "map", "[J", true)
  | 24 => ("CheckedMachineModel", "pile", "I", false)
  | _ => ("CheckedMachineModel", "step", "I", false)
def t_Md : Nat → FieldType := fun k => match k with
  | 0 => .array .int
  | 1 => .array .int
  | 2 => .array .int
  | 3 => .array .int
  | 4 => .array .int
  | 5 => .int
  | 6 => .int
  | 7 => .int
  | 8 => .int
  | 9 => .int
  | 10 => .int
  | 11 => .int
  | 12 => .boolean
  | 13 => .boolean
  | 14 => .long
  | 15 => .long
  | 16 => .array .int
  | 17 => .array .long
  | 18 => .array .long
  | 19 => .array .int
  | 20 => .array .int
  | 21 => .array .long
  | 22 => .array .long
  | 23 => .array .long
  | 24 => .int
  | _ => .int
theorem n_Md : ∀ a, a < 26 → ∀ b, b < 26 → a ≠ b → (T_Md a).2.1 ≠ (T_Md b).2.1 := by decide +kernel
theorem t_Md_ok : ∀ k, k < 26 → parseFieldDescriptor (T_Md k).2.2.1 = some (t_Md k) := by decide +kernel
abbrev x_classes : List vw_C := [(R_Ck, T_Ck, 13), (R_Ef, T_Ef, 1), (R_Gs, T_Gs, 3), (R_Jg, T_Jg, 2), (R_Pg, T_Pg, 2), (R_Rn, T_Rn, 6), (R_St, T_St, 5), (R_CM, T_CM, 4), (R_Md, T_Md, 26)]
abbrev b_CM_init : ByteArray := prog_1_method_1_code
abbrev y_CM_init : MethodName := ⟨R_CM, "<init>", "()V"⟩
abbrev b_CM_add : ByteArray := prog_1_method_2_code
abbrev y_CM_add : MethodName := ⟨R_CM, "add", "(IIIII)I"⟩
abbrev b_CM_put : ByteArray := prog_1_method_3_code
abbrev y_CM_put : MethodName := ⟨R_CM, "put", "(IIIIII)V"⟩
abbrev b_CM_cut : ByteArray := prog_1_method_4_code
abbrev y_CM_cut : MethodName := ⟨R_CM, "cut", "(I)V"⟩
abbrev b_CM_check : ByteArray := prog_1_method_5_code
abbrev y_CM_check : MethodName := ⟨R_CM, "check", "()I"⟩
abbrev b_CM_run : ByteArray := prog_1_method_6_code
abbrev y_CM_run : MethodName := ⟨R_CM, "run", "(J)J"⟩
abbrev b_CM_row : ByteArray := prog_1_method_7_code
abbrev y_CM_row : MethodName := ⟨R_CM, "row", "(II)J"⟩
abbrev b_CM_fill : ByteArray := prog_1_method_8_code
abbrev y_CM_fill : MethodName := ⟨R_CM, "fill", "(IIJ)V"⟩
abbrev b_CM_outcome : ByteArray := prog_1_method_9_code
abbrev y_CM_outcome : MethodName := ⟨R_CM, "outcome", "(Z)J"⟩
abbrev b_CM_count : ByteArray := prog_1_method_10_code
abbrev y_CM_count : MethodName := ⟨R_CM, "count", "(I)I"⟩
abbrev b_CM_isInMap : ByteArray := prog_1_method_11_code
abbrev y_CM_isInMap : MethodName := ⟨R_CM, "isInMap", "(II)Z"⟩
abbrev b_Md_init : ByteArray := prog_11_method_1_code
abbrev y_Md_init : MethodName := ⟨R_Md, "<init>", "()V"⟩
abbrev b_Md_thrown : ByteArray := prog_11_method_2_code
abbrev y_Md_thrown : MethodName := ⟨R_Md, "thrown", "()I"⟩
abbrev b_Md_in : ByteArray := prog_11_method_3_code
abbrev y_Md_in : MethodName := ⟨R_Md, "in", "(JJJ)Z"⟩
abbrev b_Md_bad : ByteArray := prog_11_method_4_code
abbrev y_Md_bad : MethodName := ⟨R_Md, "bad", "(Z)Z"⟩
abbrev b_Md_fits : ByteArray := prog_11_method_5_code
abbrev y_Md_fits : MethodName := ⟨R_Md, "fits", "(IIII)Z"⟩
abbrev b_Md_set : ByteArray := prog_11_method_6_code
abbrev y_Md_set : MethodName := ⟨R_Md, "set", "(IIIIII)V"⟩
abbrev b_Md_add : ByteArray := prog_11_method_7_code
abbrev y_Md_add : MethodName := ⟨R_Md, "add", "(IIIII)I"⟩
abbrev b_Md_put : ByteArray := prog_11_method_8_code
abbrev y_Md_put : MethodName := ⟨R_Md, "put", "(IIIIII)V"⟩
abbrev b_Md_cut : ByteArray := prog_11_method_9_code
abbrev y_Md_cut : MethodName := ⟨R_Md, "cut", "(I)V"⟩
abbrev b_Md_know : ByteArray := prog_11_method_10_code
abbrev y_Md_know : MethodName := ⟨R_Md, "know", "(IIJJ)V"⟩
abbrev b_Md_copy : ByteArray := prog_11_method_11_code
abbrev y_Md_copy : MethodName := ⟨R_Md, "copy", "(II)V"⟩
abbrev b_Md_anything : ByteArray := prog_11_method_12_code
abbrev y_Md_anything : MethodName := ⟨R_Md, "anything", "(I)V"⟩
abbrev b_Md_overflows : ByteArray := prog_11_method_13_code
abbrev y_Md_overflows : MethodName := ⟨R_Md, "overflows", "(JJ)Z"⟩
abbrev b_Md_usesD : ByteArray := prog_11_method_14_code
abbrev y_Md_usesD : MethodName := ⟨R_Md, "usesD", "(I)Z"⟩
abbrev b_Md_usesS : ByteArray := prog_11_method_15_code
abbrev y_Md_usesS : MethodName := ⟨R_Md, "usesS", "(I)Z"⟩
abbrev b_Md_place : ByteArray := prog_11_method_16_code
abbrev y_Md_place : MethodName := ⟨R_Md, "place", "(I)Z"⟩
abbrev b_Md_empties : ByteArray := prog_11_method_17_code
abbrev y_Md_empties : MethodName := ⟨R_Md, "empties", "(I)Z"⟩
abbrev b_Md_wrongNumber : ByteArray := prog_11_method_18_code
abbrev y_Md_wrongNumber : MethodName := ⟨R_Md, "wrongNumber", "(I)Z"⟩
abbrev b_Md_wrongKind : ByteArray := prog_11_method_19_code
abbrev y_Md_wrongKind : MethodName := ⟨R_Md, "wrongKind", "(I)Z"⟩
abbrev b_Md_wrongPlace : ByteArray := prog_11_method_20_code
abbrev y_Md_wrongPlace : MethodName := ⟨R_Md, "wrongPlace", "(I)Z"⟩
abbrev b_Md_wrongCells : ByteArray := prog_11_method_21_code
abbrev y_Md_wrongCells : MethodName := ⟨R_Md, "wrongCells", "(I)Z"⟩
abbrev b_Md_wrongStore : ByteArray := prog_11_method_22_code
abbrev y_Md_wrongStore : MethodName := ⟨R_Md, "wrongStore", "(I)Z"⟩
abbrev b_Md_reasonAt : ByteArray := prog_11_method_23_code
abbrev y_Md_reasonAt : MethodName := ⟨R_Md, "reasonAt", "(I)I"⟩
abbrev b_Md_push : ByteArray := prog_11_method_24_code
abbrev y_Md_push : MethodName := ⟨R_Md, "push", "(I)V"⟩
abbrev b_Md_pop : ByteArray := prog_11_method_25_code
abbrev y_Md_pop : MethodName := ⟨R_Md, "pop", "()V"⟩
abbrev b_Md_move : ByteArray := prog_11_method_26_code
abbrev y_Md_move : MethodName := ⟨R_Md, "move", "(IJJ)V"⟩
abbrev b_Md_spread : ByteArray := prog_11_method_27_code
abbrev y_Md_spread : MethodName := ⟨R_Md, "spread", "(IJJ)V"⟩
abbrev b_Md_subtract : ByteArray := prog_11_method_28_code
abbrev y_Md_subtract : MethodName := ⟨R_Md, "subtract", "(II)V"⟩
abbrev b_Md_and : ByteArray := prog_11_method_29_code
abbrev y_Md_and : MethodName := ⟨R_Md, "and", "(IJ)V"⟩
abbrev b_Md_arithmetic : ByteArray := prog_11_method_30_code
abbrev y_Md_arithmetic : MethodName := ⟨R_Md, "arithmetic", "(IIJ)V"⟩
abbrev b_Md_load : ByteArray := prog_11_method_31_code
abbrev y_Md_load : MethodName := ⟨R_Md, "load", "(I)V"⟩
abbrev b_Md_store : ByteArray := prog_11_method_32_code
abbrev y_Md_store : MethodName := ⟨R_Md, "store", "(I)V"⟩
abbrev b_Md_callGuess : ByteArray := prog_11_method_33_code
abbrev y_Md_callGuess : MethodName := ⟨R_Md, "callGuess", "(I)V"⟩
abbrev b_Md_branch : ByteArray := prog_11_method_34_code
abbrev y_Md_branch : MethodName := ⟨R_Md, "branch", "(I)V"⟩
abbrev b_Md_leave : ByteArray := prog_11_method_35_code
abbrev y_Md_leave : MethodName := ⟨R_Md, "leave", "()V"⟩
abbrev b_Md_goOn : ByteArray := prog_11_method_36_code
abbrev y_Md_goOn : MethodName := ⟨R_Md, "goOn", "(I)Z"⟩
abbrev b_Md_check : ByteArray := prog_11_method_37_code
abbrev y_Md_check : MethodName := ⟨R_Md, "check", "()I"⟩
abbrev b_Md_above : ByteArray := prog_11_method_38_code
abbrev y_Md_above : MethodName := ⟨R_Md, "above", "(I)Z"⟩
abbrev b_Md_compute : ByteArray := prog_11_method_39_code
abbrev y_Md_compute : MethodName := ⟨R_Md, "compute", "(I)V"⟩
abbrev b_Md_transfer : ByteArray := prog_11_method_40_code
abbrev y_Md_transfer : MethodName := ⟨R_Md, "transfer", "(IZ)V"⟩
abbrev b_Md_callNow : ByteArray := prog_11_method_41_code
abbrev y_Md_callNow : MethodName := ⟨R_Md, "callNow", "(I)V"⟩
abbrev b_Md_run : ByteArray := prog_11_method_42_code
abbrev y_Md_run : MethodName := ⟨R_Md, "run", "(J)J"⟩
abbrev b_Md_row : ByteArray := prog_11_method_43_code
abbrev y_Md_row : MethodName := ⟨R_Md, "row", "(II)J"⟩
abbrev b_Md_fill : ByteArray := prog_11_method_44_code
abbrev y_Md_fill : MethodName := ⟨R_Md, "fill", "(IIJ)V"⟩
abbrev b_Md_outcome : ByteArray := prog_11_method_45_code
abbrev y_Md_outcome : MethodName := ⟨R_Md, "outcome", "(Z)J"⟩
abbrev b_Md_count : ByteArray := prog_11_method_46_code
abbrev y_Md_count : MethodName := ⟨R_Md, "count", "(I)I"⟩
abbrev b_Ck_init : ByteArray := prog_2_method_1_code
abbrev y_Ck_init : MethodName := ⟨R_Ck, "<init>", "(LCheckedMachine$Program;)V"⟩
abbrev b_Ck_looked : ByteArray := prog_2_method_2_code
abbrev y_Ck_looked : MethodName := ⟨R_Ck, "looked", "()I"⟩
abbrev b_Ck_reason : ByteArray := prog_2_method_3_code
abbrev y_Ck_reason : MethodName := ⟨R_Ck, "reason", "()I"⟩
abbrev b_Ck_rejectedAt : ByteArray := prog_2_method_4_code
abbrev y_Ck_rejectedAt : MethodName := ⟨R_Ck, "rejectedAt", "()I"⟩
abbrev b_Ck_least : ByteArray := prog_2_method_5_code
abbrev y_Ck_least : MethodName := ⟨R_Ck, "least", "()J"⟩
abbrev b_Ck_greatest : ByteArray := prog_2_method_6_code
abbrev y_Ck_greatest : MethodName := ⟨R_Ck, "greatest", "()J"⟩
abbrev b_Ck_goDownAllWays : ByteArray := prog_2_method_7_code
abbrev y_Ck_goDownAllWays : MethodName := ⟨R_Ck, "goDownAllWays", "()I"⟩
abbrev b_Ck_begin : ByteArray := prog_2_method_8_code
abbrev y_Ck_begin : MethodName := ⟨R_Ck, "begin", "()V"⟩
abbrev b_Ck_lookAt : ByteArray := prog_2_method_9_code
abbrev y_Ck_lookAt : MethodName := ⟨R_Ck, "lookAt", "(I)I"⟩
abbrev b_Ck_reject : ByteArray := prog_2_method_10_code
abbrev y_Ck_reject : MethodName := ⟨R_Ck, "reject", "(II)V"⟩
abbrev b_Ck_growOutcomes : ByteArray := prog_2_method_11_code
abbrev y_Ck_growOutcomes : MethodName := ⟨R_Ck, "growOutcomes", "(JJ)V"⟩
abbrev b_Ck_fork : ByteArray := prog_2_method_12_code
abbrev y_Ck_fork : MethodName := ⟨R_Ck, "fork", "(LCheckedMachine$Step;I)I"⟩
abbrev b_Ck_takeUpLatest : ByteArray := prog_2_method_13_code
abbrev y_Ck_takeUpLatest : MethodName := ⟨R_Ck, "takeUpLatest", "()I"⟩
abbrev b_Ef_init : ByteArray := prog_3_method_1_code
abbrev y_Ef_init : MethodName := ⟨R_Ef, "<init>", "(LCheckedMachine$Guesses;)V"⟩
abbrev b_Ef_follow : ByteArray := prog_3_method_2_code
abbrev y_Ef_follow : MethodName := ⟨R_Ef, "follow", "(LCheckedMachine$Step;)V"⟩
abbrev b_Ef_move : ByteArray := prog_3_method_3_code
abbrev y_Ef_move : MethodName := ⟨R_Ef, "move", "(IJJ)V"⟩
abbrev b_Ef_sumWraps : ByteArray := prog_3_method_4_code
abbrev y_Ef_sumWraps : MethodName := ⟨R_Ef, "sumWraps", "(JJJ)Z"⟩
abbrev b_Ef_subtract : ByteArray := prog_3_method_5_code
abbrev y_Ef_subtract : MethodName := ⟨R_Ef, "subtract", "(IJJ)V"⟩
abbrev b_Ef_differenceWraps : ByteArray := prog_3_method_6_code
abbrev y_Ef_differenceWraps : MethodName := ⟨R_Ef, "differenceWraps", "(JJJ)Z"⟩
abbrev b_Ef_multiply : ByteArray := prog_3_method_7_code
abbrev y_Ef_multiply : MethodName := ⟨R_Ef, "multiply", "(IJ)V"⟩
abbrev b_Ef_isFactor : ByteArray := prog_3_method_8_code
abbrev y_Ef_isFactor : MethodName := ⟨R_Ef, "isFactor", "(J)Z"⟩
abbrev b_Ef_mask : ByteArray := prog_3_method_9_code
abbrev y_Ef_mask : MethodName := ⟨R_Ef, "mask", "(IJ)V"⟩
abbrev b_Ef_divide : ByteArray := prog_3_method_10_code
abbrev y_Ef_divide : MethodName := ⟨R_Ef, "divide", "(IJ)V"⟩
abbrev b_Ef_negate : ByteArray := prog_3_method_11_code
abbrev y_Ef_negate : MethodName := ⟨R_Ef, "negate", "(I)V"⟩
abbrev b_Ef_load : ByteArray := prog_3_method_12_code
abbrev y_Ef_load : MethodName := ⟨R_Ef, "load", "(LCheckedMachine$Step;)V"⟩
abbrev b_Ef_store : ByteArray := prog_3_method_13_code
abbrev y_Ef_store : MethodName := ⟨R_Ef, "store", "(LCheckedMachine$Step;)V"⟩
abbrev b_Ef_call : ByteArray := prog_3_method_14_code
abbrev y_Ef_call : MethodName := ⟨R_Ef, "call", "(I)V"⟩
abbrev b_Fk_leadsToTarget : ByteArray := prog_4_method_2_code
abbrev y_Fk_leadsToTarget : MethodName := ⟨R_Fk, "leadsToTarget", "(LCheckedMachine$Step;LCheckedMachine$Guesses;)Z"⟩
abbrev b_Fk_leadsOn : ByteArray := prog_4_method_3_code
abbrev y_Fk_leadsOn : MethodName := ⟨R_Fk, "leadsOn", "(LCheckedMachine$Step;LCheckedMachine$Guesses;)Z"⟩
abbrev b_Fk_goToTarget : ByteArray := prog_4_method_4_code
abbrev y_Fk_goToTarget : MethodName := ⟨R_Fk, "goToTarget", "(LCheckedMachine$Step;LCheckedMachine$Guesses;)V"⟩
abbrev b_Fk_goOn : ByteArray := prog_4_method_5_code
abbrev y_Fk_goOn : MethodName := ⟨R_Fk, "goOn", "(LCheckedMachine$Step;LCheckedMachine$Guesses;)V"⟩
abbrev b_Fk_isMaybe : ByteArray := prog_4_method_6_code
abbrev y_Fk_isMaybe : MethodName := ⟨R_Fk, "isMaybe", "(LCheckedMachine$Step;LCheckedMachine$Guesses;)Z"⟩
abbrev b_Gs_init : ByteArray := prog_5_method_1_code
abbrev y_Gs_init : MethodName := ⟨R_Gs, "<init>", "()V"⟩
abbrev b_Gs_begin : ByteArray := prog_5_method_2_code
abbrev y_Gs_begin : MethodName := ⟨R_Gs, "begin", "()V"⟩
abbrev b_Gs_become : ByteArray := prog_5_method_3_code
abbrev y_Gs_become : MethodName := ⟨R_Gs, "become", "(LCheckedMachine$Guesses;)V"⟩
abbrev b_Gs_kind : ByteArray := prog_5_method_4_code
abbrev y_Gs_kind : MethodName := ⟨R_Gs, "kind", "(I)I"⟩
abbrev b_Gs_lo : ByteArray := prog_5_method_5_code
abbrev y_Gs_lo : MethodName := ⟨R_Gs, "lo", "(I)J"⟩
abbrev b_Gs_hi : ByteArray := prog_5_method_6_code
abbrev y_Gs_hi : MethodName := ⟨R_Gs, "hi", "(I)J"⟩
abbrev b_Gs_isEmpty : ByteArray := prog_5_method_7_code
abbrev y_Gs_isEmpty : MethodName := ⟨R_Gs, "isEmpty", "(I)Z"⟩
abbrev b_Gs_isRange : ByteArray := prog_5_method_8_code
abbrev y_Gs_isRange : MethodName := ⟨R_Gs, "isRange", "(I)Z"⟩
abbrev b_Gs_isPlace : ByteArray := prog_5_method_9_code
abbrev y_Gs_isPlace : MethodName := ⟨R_Gs, "isPlace", "(I)Z"⟩
abbrev b_Gs_set : ByteArray := prog_5_method_10_code
abbrev y_Gs_set : MethodName := ⟨R_Gs, "set", "(IIJJ)V"⟩
abbrev b_Gs_setRange : ByteArray := prog_5_method_11_code
abbrev y_Gs_setRange : MethodName := ⟨R_Gs, "setRange", "(IJJ)V"⟩
abbrev b_Gs_setAny : ByteArray := prog_5_method_12_code
abbrev y_Gs_setAny : MethodName := ⟨R_Gs, "setAny", "(I)V"⟩
abbrev b_Gs_clear : ByteArray := prog_5_method_13_code
abbrev y_Gs_clear : MethodName := ⟨R_Gs, "clear", "(I)V"⟩
abbrev b_Gs_copy : ByteArray := prog_5_method_14_code
abbrev y_Gs_copy : MethodName := ⟨R_Gs, "copy", "(II)V"⟩
abbrev b_Gs_widen : ByteArray := prog_5_method_15_code
abbrev y_Gs_widen : MethodName := ⟨R_Gs, "widen", "(IJJ)V"⟩
abbrev b_Gs_setBetween : ByteArray := prog_5_method_16_code
abbrev y_Gs_setBetween : MethodName := ⟨R_Gs, "setBetween", "(IJJ)V"⟩
abbrev b_Jg_init : ByteArray := prog_6_method_1_code
abbrev y_Jg_init : MethodName := ⟨R_Jg, "<init>", "(LCheckedMachine$Program;LCheckedMachine$Guesses;)V"⟩
abbrev b_Jg_reasonAgainst : ByteArray := prog_6_method_2_code
abbrev y_Jg_reasonAgainst : MethodName := ⟨R_Jg, "reasonAgainst", "(LCheckedMachine$Step;I)I"⟩
abbrev b_Jg_lacksTarget : ByteArray := prog_6_method_3_code
abbrev y_Jg_lacksTarget : MethodName := ⟨R_Jg, "lacksTarget", "(LCheckedMachine$Step;I)Z"⟩
abbrev b_Jg_usesEmpty : ByteArray := prog_6_method_4_code
abbrev y_Jg_usesEmpty : MethodName := ⟨R_Jg, "usesEmpty", "(LCheckedMachine$Step;)Z"⟩
abbrev b_Jg_hasBadNumber : ByteArray := prog_6_method_5_code
abbrev y_Jg_hasBadNumber : MethodName := ⟨R_Jg, "hasBadNumber", "(LCheckedMachine$Step;)Z"⟩
abbrev b_Jg_hasWrongKind : ByteArray := prog_6_method_6_code
abbrev y_Jg_hasWrongKind : MethodName := ⟨R_Jg, "hasWrongKind", "(LCheckedMachine$Step;)Z"⟩
abbrev b_Jg_isRangeOrPlace : ByteArray := prog_6_method_7_code
abbrev y_Jg_isRangeOrPlace : MethodName := ⟨R_Jg, "isRangeOrPlace", "(I)Z"⟩
abbrev b_Jg_isMaybeMissing : ByteArray := prog_6_method_8_code
abbrev y_Jg_isMaybeMissing : MethodName := ⟨R_Jg, "isMaybeMissing", "(LCheckedMachine$Step;)Z"⟩
abbrev b_Jg_callsWithWrongKind : ByteArray := prog_6_method_9_code
abbrev y_Jg_callsWithWrongKind : MethodName := ⟨R_Jg, "callsWithWrongKind", "(LCheckedMachine$Step;)Z"⟩
abbrev b_Jg_storesWrongKind : ByteArray := prog_6_method_10_code
abbrev y_Jg_storesWrongKind : MethodName := ⟨R_Jg, "storesWrongKind", "(LCheckedMachine$Step;)Z"⟩
abbrev b_Jg_isOneCellOfFrame : ByteArray := prog_6_method_11_code
abbrev y_Jg_isOneCellOfFrame : MethodName := ⟨R_Jg, "isOneCellOfFrame", "(I)Z"⟩
abbrev b_Jg_storesOverNoRange : ByteArray := prog_6_method_12_code
abbrev y_Jg_storesOverNoRange : MethodName := ⟨R_Jg, "storesOverNoRange", "(LCheckedMachine$Step;)Z"⟩
abbrev b_Jg_goesOutside : ByteArray := prog_6_method_13_code
abbrev y_Jg_goesOutside : MethodName := ⟨R_Jg, "goesOutside", "(LCheckedMachine$Step;)Z"⟩
abbrev b_Jg_movesTooFar : ByteArray := prog_6_method_14_code
abbrev y_Jg_movesTooFar : MethodName := ⟨R_Jg, "movesTooFar", "(IJJ)Z"⟩
abbrev b_Jg_missesCells : ByteArray := prog_6_method_15_code
abbrev y_Jg_missesCells : MethodName := ⟨R_Jg, "missesCells", "(IJ)Z"⟩
abbrev b_Jg_loadsUnfitCell : ByteArray := prog_6_method_16_code
abbrev y_Jg_loadsUnfitCell : MethodName := ⟨R_Jg, "loadsUnfitCell", "(LCheckedMachine$Step;)Z"⟩
abbrev b_Jg_findsNoRow : ByteArray := prog_6_method_17_code
abbrev y_Jg_findsNoRow : MethodName := ⟨R_Jg, "findsNoRow", "(LCheckedMachine$Step;)Z"⟩
abbrev b_Pg_init : ByteArray := prog_7_method_1_code
abbrev y_Pg_init : MethodName := ⟨R_Pg, "<init>", "()V"⟩
abbrev b_Pg_allows : ByteArray := prog_7_method_2_code
abbrev y_Pg_allows : MethodName := ⟨R_Pg, "allows", "(IIII)Z"⟩
abbrev b_Pg_isRegister : ByteArray := prog_7_method_3_code
abbrev y_Pg_isRegister : MethodName := ⟨R_Pg, "isRegister", "(I)Z"⟩
abbrev b_Pg_size : ByteArray := prog_7_method_4_code
abbrev y_Pg_size : MethodName := ⟨R_Pg, "size", "()I"⟩
abbrev b_Pg_grow : ByteArray := prog_7_method_5_code
abbrev y_Pg_grow : MethodName := ⟨R_Pg, "grow", "()I"⟩
abbrev b_Pg_shorten : ByteArray := prog_7_method_6_code
abbrev y_Pg_shorten : MethodName := ⟨R_Pg, "shorten", "(I)V"⟩
abbrev b_Pg_write : ByteArray := prog_7_method_7_code
abbrev y_Pg_write : MethodName := ⟨R_Pg, "write", "(IIIIII)V"⟩
abbrev b_Pg_stepAt : ByteArray := prog_7_method_8_code
abbrev y_Pg_stepAt : MethodName := ⟨R_Pg, "stepAt", "(I)LCheckedMachine$Step;"⟩
abbrev b_Rn_init : ByteArray := prog_8_method_1_code
abbrev y_Rn_init : MethodName := ⟨R_Rn, "<init>", "(LCheckedMachine$Program;)V"⟩
abbrev b_Rn_stepsRun : ByteArray := prog_8_method_2_code
abbrev y_Rn_stepsRun : MethodName := ⟨R_Rn, "stepsRun", "()I"⟩
abbrev b_Rn_countCalls : ByteArray := prog_8_method_3_code
abbrev y_Rn_countCalls : MethodName := ⟨R_Rn, "countCalls", "()I"⟩
abbrev b_Rn_mapCell : ByteArray := prog_8_method_4_code
abbrev y_Rn_mapCell : MethodName := ⟨R_Rn, "mapCell", "(II)J"⟩
abbrev b_Rn_setMapCell : ByteArray := prog_8_method_5_code
abbrev y_Rn_setMapCell : MethodName := ⟨R_Rn, "setMapCell", "(IIJ)V"⟩
abbrev b_Rn_runThrough : ByteArray := prog_8_method_6_code
abbrev y_Rn_runThrough : MethodName := ⟨R_Rn, "runThrough", "(J)J"⟩
abbrev b_Rn_set : ByteArray := prog_8_method_7_code
abbrev y_Rn_set : MethodName := ⟨R_Rn, "set", "(IIJ)V"⟩
abbrev b_Rn_runStep : ByteArray := prog_8_method_8_code
abbrev y_Rn_runStep : MethodName := ⟨R_Rn, "runStep", "(I)I"⟩
abbrev b_Rn_jumps : ByteArray := prog_8_method_9_code
abbrev y_Rn_jumps : MethodName := ⟨R_Rn, "jumps", "(LCheckedMachine$Step;)Z"⟩
abbrev b_Rn_reckon : ByteArray := prog_8_method_10_code
abbrev y_Rn_reckon : MethodName := ⟨R_Rn, "reckon", "(LCheckedMachine$Step;)V"⟩
abbrev b_Rn_reachOut : ByteArray := prog_8_method_11_code
abbrev y_Rn_reachOut : MethodName := ⟨R_Rn, "reachOut", "(LCheckedMachine$Step;)V"⟩
abbrev b_Rn_load : ByteArray := prog_8_method_12_code
abbrev y_Rn_load : MethodName := ⟨R_Rn, "load", "(IIJ)V"⟩
abbrev b_Rn_store : ByteArray := prog_8_method_13_code
abbrev y_Rn_store : MethodName := ⟨R_Rn, "store", "(IIJ)V"⟩
abbrev b_Rn_call : ByteArray := prog_8_method_14_code
abbrev y_Rn_call : MethodName := ⟨R_Rn, "call", "(I)V"⟩
abbrev b_Rn_findRow : ByteArray := prog_8_method_15_code
abbrev y_Rn_findRow : MethodName := ⟨R_Rn, "findRow", "(J)V"⟩
abbrev b_St_init : ByteArray := prog_9_method_1_code
abbrev y_St_init : MethodName := ⟨R_St, "<init>", "()V"⟩
abbrev b_St_isCallOf : ByteArray := prog_9_method_2_code
abbrev y_St_isCallOf : MethodName := ⟨R_St, "isCallOf", "(I)Z"⟩
abbrev b_St_mayJump : ByteArray := prog_9_method_3_code
abbrev y_St_mayJump : MethodName := ⟨R_St, "mayJump", "()Z"⟩
abbrev b_St_usesD : ByteArray := prog_9_method_4_code
abbrev y_St_usesD : MethodName := ⟨R_St, "usesD", "()Z"⟩
abbrev b_St_usesS : ByteArray := prog_9_method_5_code
abbrev y_St_usesS : MethodName := ⟨R_St, "usesS", "()Z"⟩
abbrev b_Lw_add : ByteArray := method_3_code
abbrev y_Lw_add : MethodName := ⟨R_Lw, "add", "(LCheckedMachine;IIIII[J)I"⟩
abbrev b_Lw_put : ByteArray := method_4_code
abbrev y_Lw_put : MethodName := ⟨R_Lw, "put", "(LCheckedMachine;IIIIII)I"⟩
abbrev b_Lw_cut : ByteArray := method_5_code
abbrev y_Lw_cut : MethodName := ⟨R_Lw, "cut", "(LCheckedMachine;I)I"⟩
abbrev b_Lw_check : ByteArray := method_6_code
abbrev y_Lw_check : MethodName := ⟨R_Lw, "check", "(LCheckedMachine;[J)I"⟩
abbrev b_Lw_run : ByteArray := method_7_code
abbrev y_Lw_run : MethodName := ⟨R_Lw, "run", "(LCheckedMachine;J[J)I"⟩
abbrev b_Lw_row : ByteArray := method_8_code
abbrev y_Lw_row : MethodName := ⟨R_Lw, "row", "(LCheckedMachine;II[J)I"⟩
abbrev b_Lw_fill : ByteArray := method_9_code
abbrev y_Lw_fill : MethodName := ⟨R_Lw, "fill", "(LCheckedMachine;IIJ)I"⟩
abbrev b_Lw_outcome : ByteArray := method_10_code
abbrev y_Lw_outcome : MethodName := ⟨R_Lw, "outcome", "(LCheckedMachine;Z[J)I"⟩
abbrev b_Lw_law : ByteArray := code
abbrev y_Lw_law : MethodName := ⟨R_Lw, "law", "([I)Z"⟩
end
section
theorem d_Ef_init_0 : decode b_Ef_init 0 = .ok (.aload_n 0, 1) := by decide +kernel
theorem d_Ef_init_1 : decode b_Ef_init 1 = .ok (.invokespecial 3, 3) := by decide +kernel
theorem d_Ef_init_4 : decode b_Ef_init 4 = .ok (.aload_n 0, 1) := by decide +kernel
theorem d_Ef_init_5 : decode b_Ef_init 5 = .ok (.aload_n 1, 1) := by decide +kernel
theorem d_Ef_init_6 : decode b_Ef_init 6 = .ok (.putfield 9, 3) := by decide +kernel
theorem d_Ef_init_9 : decode b_Ef_init 9 = .ok (.return_, 1) := by decide +kernel
theorem d_Ef_follow_0 : decode b_Ef_follow 0 = .ok (.aload_n 1, 1) := by decide +kernel
theorem d_Ef_follow_1 : decode b_Ef_follow 1 = .ok (.getfield 15, 3) := by decide +kernel
theorem d_Ef_follow_4 : decode b_Ef_follow 4 = .ok (.istore_n 2, 1) := by decide +kernel
theorem d_Ef_follow_5 : decode b_Ef_follow 5 = .ok (.aload_n 1, 1) := by decide +kernel
theorem d_Ef_follow_6 : decode b_Ef_follow 6 = .ok (.getfield 21, 3) := by decide +kernel
theorem d_Ef_follow_9 : decode b_Ef_follow 9 = .ok (.tableswitch 308 0 16 #[83, 104, 119, 137, 167, 197, 210, 223, 260, 273, 308, 308, 308, 308, 281, 289, 297], 83) := by decide +kernel
theorem d_Ef_follow_92 : decode b_Ef_follow 92 = .ok (.aload_n 0, 1) := by decide +kernel
theorem d_Ef_follow_93 : decode b_Ef_follow 93 = .ok (.getfield 9, 3) := by decide +kernel
theorem d_Ef_follow_96 : decode b_Ef_follow 96 = .ok (.iload_n 2, 1) := by decide +kernel
theorem d_Ef_follow_97 : decode b_Ef_follow 97 = .ok (.aload_n 1, 1) := by decide +kernel
theorem d_Ef_follow_98 : decode b_Ef_follow 98 = .ok (.getfield 24, 3) := by decide +kernel
theorem d_Ef_follow_101 : decode b_Ef_follow 101 = .ok (.i2l, 1) := by decide +kernel
theorem d_Ef_follow_102 : decode b_Ef_follow 102 = .ok (.aload_n 1, 1) := by decide +kernel
theorem d_Ef_follow_103 : decode b_Ef_follow 103 = .ok (.getfield 24, 3) := by decide +kernel
theorem d_Ef_follow_106 : decode b_Ef_follow 106 = .ok (.i2l, 1) := by decide +kernel
theorem d_Ef_follow_107 : decode b_Ef_follow 107 = .ok (.invokevirtual 27, 3) := by decide +kernel
theorem d_Ef_follow_110 : decode b_Ef_follow 110 = .ok (.goto 207, 3) := by decide +kernel
theorem d_Ef_follow_113 : decode b_Ef_follow 113 = .ok (.aload_n 0, 1) := by decide +kernel
theorem d_Ef_follow_114 : decode b_Ef_follow 114 = .ok (.getfield 9, 3) := by decide +kernel
theorem d_Ef_follow_117 : decode b_Ef_follow 117 = .ok (.iload_n 2, 1) := by decide +kernel
theorem d_Ef_follow_118 : decode b_Ef_follow 118 = .ok (.aload_n 1, 1) := by decide +kernel
theorem d_Ef_follow_119 : decode b_Ef_follow 119 = .ok (.getfield 33, 3) := by decide +kernel
theorem d_Ef_follow_122 : decode b_Ef_follow 122 = .ok (.invokevirtual 36, 3) := by decide +kernel
theorem d_Ef_follow_125 : decode b_Ef_follow 125 = .ok (.goto 192, 3) := by decide +kernel
theorem d_Ef_follow_128 : decode b_Ef_follow 128 = .ok (.aload_n 0, 1) := by decide +kernel
theorem d_Ef_follow_129 : decode b_Ef_follow 129 = .ok (.iload_n 2, 1) := by decide +kernel
theorem d_Ef_follow_130 : decode b_Ef_follow 130 = .ok (.aload_n 1, 1) := by decide +kernel
theorem d_Ef_follow_131 : decode b_Ef_follow 131 = .ok (.getfield 24, 3) := by decide +kernel
theorem d_Ef_follow_134 : decode b_Ef_follow 134 = .ok (.i2l, 1) := by decide +kernel
theorem d_Ef_follow_135 : decode b_Ef_follow 135 = .ok (.aload_n 1, 1) := by decide +kernel
theorem d_Ef_follow_136 : decode b_Ef_follow 136 = .ok (.getfield 24, 3) := by decide +kernel
theorem d_Ef_follow_139 : decode b_Ef_follow 139 = .ok (.i2l, 1) := by decide +kernel
theorem d_Ef_follow_140 : decode b_Ef_follow 140 = .ok (.invokevirtual 40, 3) := by decide +kernel
theorem d_Ef_follow_143 : decode b_Ef_follow 143 = .ok (.goto 174, 3) := by decide +kernel
theorem d_Ef_follow_146 : decode b_Ef_follow 146 = .ok (.aload_n 0, 1) := by decide +kernel
theorem d_Ef_follow_147 : decode b_Ef_follow 147 = .ok (.iload_n 2, 1) := by decide +kernel
theorem d_Ef_follow_148 : decode b_Ef_follow 148 = .ok (.aload_n 0, 1) := by decide +kernel
theorem d_Ef_follow_149 : decode b_Ef_follow 149 = .ok (.getfield 9, 3) := by decide +kernel
theorem d_Ef_follow_152 : decode b_Ef_follow 152 = .ok (.aload_n 1, 1) := by decide +kernel
theorem d_Ef_follow_153 : decode b_Ef_follow 153 = .ok (.getfield 33, 3) := by decide +kernel
theorem d_Ef_follow_156 : decode b_Ef_follow 156 = .ok (.invokevirtual 43, 3) := by decide +kernel
theorem d_Ef_follow_159 : decode b_Ef_follow 159 = .ok (.aload_n 0, 1) := by decide +kernel
theorem d_Ef_follow_160 : decode b_Ef_follow 160 = .ok (.getfield 9, 3) := by decide +kernel
theorem d_Ef_follow_163 : decode b_Ef_follow 163 = .ok (.aload_n 1, 1) := by decide +kernel
theorem d_Ef_follow_164 : decode b_Ef_follow 164 = .ok (.getfield 33, 3) := by decide +kernel
theorem d_Ef_follow_167 : decode b_Ef_follow 167 = .ok (.invokevirtual 47, 3) := by decide +kernel
theorem d_Ef_follow_170 : decode b_Ef_follow 170 = .ok (.invokevirtual 40, 3) := by decide +kernel
theorem d_Ef_follow_173 : decode b_Ef_follow 173 = .ok (.goto 144, 3) := by decide +kernel
theorem d_Ef_follow_176 : decode b_Ef_follow 176 = .ok (.aload_n 0, 1) := by decide +kernel
theorem d_Ef_follow_177 : decode b_Ef_follow 177 = .ok (.iload_n 2, 1) := by decide +kernel
theorem d_Ef_follow_178 : decode b_Ef_follow 178 = .ok (.aload_n 0, 1) := by decide +kernel
theorem d_Ef_follow_179 : decode b_Ef_follow 179 = .ok (.getfield 9, 3) := by decide +kernel
theorem d_Ef_follow_182 : decode b_Ef_follow 182 = .ok (.aload_n 1, 1) := by decide +kernel
theorem d_Ef_follow_183 : decode b_Ef_follow 183 = .ok (.getfield 33, 3) := by decide +kernel
theorem d_Ef_follow_186 : decode b_Ef_follow 186 = .ok (.invokevirtual 43, 3) := by decide +kernel
theorem d_Ef_follow_189 : decode b_Ef_follow 189 = .ok (.aload_n 0, 1) := by decide +kernel
theorem d_Ef_follow_190 : decode b_Ef_follow 190 = .ok (.getfield 9, 3) := by decide +kernel
theorem d_Ef_follow_193 : decode b_Ef_follow 193 = .ok (.aload_n 1, 1) := by decide +kernel
theorem d_Ef_follow_194 : decode b_Ef_follow 194 = .ok (.getfield 33, 3) := by decide +kernel
theorem d_Ef_follow_197 : decode b_Ef_follow 197 = .ok (.invokevirtual 47, 3) := by decide +kernel
theorem d_Ef_follow_200 : decode b_Ef_follow 200 = .ok (.invokevirtual 50, 3) := by decide +kernel
theorem d_Ef_follow_203 : decode b_Ef_follow 203 = .ok (.goto 114, 3) := by decide +kernel
theorem d_Ef_follow_206 : decode b_Ef_follow 206 = .ok (.aload_n 0, 1) := by decide +kernel
theorem d_Ef_follow_207 : decode b_Ef_follow 207 = .ok (.iload_n 2, 1) := by decide +kernel
theorem d_Ef_follow_208 : decode b_Ef_follow 208 = .ok (.aload_n 1, 1) := by decide +kernel
theorem d_Ef_follow_209 : decode b_Ef_follow 209 = .ok (.getfield 24, 3) := by decide +kernel
theorem d_Ef_follow_212 : decode b_Ef_follow 212 = .ok (.i2l, 1) := by decide +kernel
theorem d_Ef_follow_213 : decode b_Ef_follow 213 = .ok (.invokevirtual 53, 3) := by decide +kernel
theorem d_Ef_follow_216 : decode b_Ef_follow 216 = .ok (.goto 101, 3) := by decide +kernel
theorem d_Ef_follow_219 : decode b_Ef_follow 219 = .ok (.aload_n 0, 1) := by decide +kernel
theorem d_Ef_follow_220 : decode b_Ef_follow 220 = .ok (.iload_n 2, 1) := by decide +kernel
theorem d_Ef_follow_221 : decode b_Ef_follow 221 = .ok (.aload_n 1, 1) := by decide +kernel
theorem d_Ef_follow_222 : decode b_Ef_follow 222 = .ok (.getfield 24, 3) := by decide +kernel
theorem d_Ef_follow_225 : decode b_Ef_follow 225 = .ok (.i2l, 1) := by decide +kernel
theorem d_Ef_follow_226 : decode b_Ef_follow 226 = .ok (.invokevirtual 57, 3) := by decide +kernel
theorem d_Ef_follow_229 : decode b_Ef_follow 229 = .ok (.goto 88, 3) := by decide +kernel
theorem d_Ef_follow_232 : decode b_Ef_follow 232 = .ok (.aload_n 0, 1) := by decide +kernel
theorem d_Ef_follow_233 : decode b_Ef_follow 233 = .ok (.getfield 9, 3) := by decide +kernel
theorem d_Ef_follow_236 : decode b_Ef_follow 236 = .ok (.iload_n 2, 1) := by decide +kernel
theorem d_Ef_follow_237 : decode b_Ef_follow 237 = .ok (.aload_n 0, 1) := by decide +kernel
theorem d_Ef_follow_238 : decode b_Ef_follow 238 = .ok (.getfield 9, 3) := by decide +kernel
theorem d_Ef_follow_241 : decode b_Ef_follow 241 = .ok (.iload_n 2, 1) := by decide +kernel
theorem d_Ef_follow_242 : decode b_Ef_follow 242 = .ok (.invokevirtual 43, 3) := by decide +kernel
theorem d_Ef_follow_245 : decode b_Ef_follow 245 = .ok (.aload_n 1, 1) := by decide +kernel
theorem d_Ef_follow_246 : decode b_Ef_follow 246 = .ok (.getfield 24, 3) := by decide +kernel
theorem d_Ef_follow_249 : decode b_Ef_follow 249 = .ok (.lshr, 1) := by decide +kernel
theorem d_Ef_follow_250 : decode b_Ef_follow 250 = .ok (.aload_n 0, 1) := by decide +kernel
theorem d_Ef_follow_251 : decode b_Ef_follow 251 = .ok (.getfield 9, 3) := by decide +kernel
theorem d_Ef_follow_254 : decode b_Ef_follow 254 = .ok (.iload_n 2, 1) := by decide +kernel
theorem d_Ef_follow_255 : decode b_Ef_follow 255 = .ok (.invokevirtual 47, 3) := by decide +kernel
theorem d_Ef_follow_258 : decode b_Ef_follow 258 = .ok (.aload_n 1, 1) := by decide +kernel
theorem d_Ef_follow_259 : decode b_Ef_follow 259 = .ok (.getfield 24, 3) := by decide +kernel
theorem d_Ef_follow_262 : decode b_Ef_follow 262 = .ok (.lshr, 1) := by decide +kernel
theorem d_Ef_follow_263 : decode b_Ef_follow 263 = .ok (.invokevirtual 27, 3) := by decide +kernel
theorem d_Ef_follow_266 : decode b_Ef_follow 266 = .ok (.goto 51, 3) := by decide +kernel
theorem d_Ef_follow_269 : decode b_Ef_follow 269 = .ok (.aload_n 0, 1) := by decide +kernel
theorem d_Ef_follow_270 : decode b_Ef_follow 270 = .ok (.iload_n 2, 1) := by decide +kernel
theorem d_Ef_follow_271 : decode b_Ef_follow 271 = .ok (.aload_n 1, 1) := by decide +kernel
theorem d_Ef_follow_272 : decode b_Ef_follow 272 = .ok (.getfield 24, 3) := by decide +kernel
theorem d_Ef_follow_275 : decode b_Ef_follow 275 = .ok (.i2l, 1) := by decide +kernel
theorem d_Ef_follow_276 : decode b_Ef_follow 276 = .ok (.invokevirtual 60, 3) := by decide +kernel
theorem d_Ef_follow_279 : decode b_Ef_follow 279 = .ok (.goto 38, 3) := by decide +kernel
theorem d_Ef_follow_282 : decode b_Ef_follow 282 = .ok (.aload_n 0, 1) := by decide +kernel
theorem d_Ef_follow_283 : decode b_Ef_follow 283 = .ok (.iload_n 2, 1) := by decide +kernel
theorem d_Ef_follow_284 : decode b_Ef_follow 284 = .ok (.invokevirtual 63, 3) := by decide +kernel
theorem d_Ef_follow_287 : decode b_Ef_follow 287 = .ok (.goto 30, 3) := by decide +kernel
theorem d_Ef_follow_290 : decode b_Ef_follow 290 = .ok (.aload_n 0, 1) := by decide +kernel
theorem d_Ef_follow_291 : decode b_Ef_follow 291 = .ok (.aload_n 1, 1) := by decide +kernel
theorem d_Ef_follow_292 : decode b_Ef_follow 292 = .ok (.invokevirtual 67, 3) := by decide +kernel
theorem d_Ef_follow_295 : decode b_Ef_follow 295 = .ok (.goto 22, 3) := by decide +kernel
theorem d_Ef_follow_298 : decode b_Ef_follow 298 = .ok (.aload_n 0, 1) := by decide +kernel
theorem d_Ef_follow_299 : decode b_Ef_follow 299 = .ok (.aload_n 1, 1) := by decide +kernel
theorem d_Ef_follow_300 : decode b_Ef_follow 300 = .ok (.invokevirtual 71, 3) := by decide +kernel
theorem d_Ef_follow_303 : decode b_Ef_follow 303 = .ok (.goto 14, 3) := by decide +kernel
theorem d_Ef_follow_306 : decode b_Ef_follow 306 = .ok (.aload_n 0, 1) := by decide +kernel
theorem d_Ef_follow_307 : decode b_Ef_follow 307 = .ok (.aload_n 1, 1) := by decide +kernel
theorem d_Ef_follow_308 : decode b_Ef_follow 308 = .ok (.getfield 24, 3) := by decide +kernel
theorem d_Ef_follow_311 : decode b_Ef_follow 311 = .ok (.invokevirtual 74, 3) := by decide +kernel
theorem d_Ef_follow_314 : decode b_Ef_follow 314 = .ok (.goto 3, 3) := by decide +kernel
theorem d_Ef_follow_317 : decode b_Ef_follow 317 = .ok (.return_, 1) := by decide +kernel
theorem d_Ef_move_0 : decode b_Ef_move 0 = .ok (.aload_n 0, 1) := by decide +kernel
theorem d_Ef_move_1 : decode b_Ef_move 1 = .ok (.getfield 9, 3) := by decide +kernel
theorem d_Ef_move_4 : decode b_Ef_move 4 = .ok (.iload_n 1, 1) := by decide +kernel
theorem d_Ef_move_5 : decode b_Ef_move 5 = .ok (.invokevirtual 43, 3) := by decide +kernel
theorem d_Ef_move_8 : decode b_Ef_move 8 = .ok (.lload_n 2, 1) := by decide +kernel
theorem d_Ef_move_9 : decode b_Ef_move 9 = .ok (.ladd, 1) := by decide +kernel
theorem d_Ef_move_10 : decode b_Ef_move 10 = .ok (.lstore 6, 2) := by decide +kernel
theorem d_Ef_move_12 : decode b_Ef_move 12 = .ok (.aload_n 0, 1) := by decide +kernel
theorem d_Ef_move_13 : decode b_Ef_move 13 = .ok (.getfield 9, 3) := by decide +kernel
theorem d_Ef_move_16 : decode b_Ef_move 16 = .ok (.iload_n 1, 1) := by decide +kernel
theorem d_Ef_move_17 : decode b_Ef_move 17 = .ok (.invokevirtual 47, 3) := by decide +kernel
theorem d_Ef_move_20 : decode b_Ef_move 20 = .ok (.lload 4, 2) := by decide +kernel
theorem d_Ef_move_22 : decode b_Ef_move 22 = .ok (.ladd, 1) := by decide +kernel
theorem d_Ef_move_23 : decode b_Ef_move 23 = .ok (.lstore 8, 2) := by decide +kernel
theorem d_Ef_move_25 : decode b_Ef_move 25 = .ok (.aload_n 0, 1) := by decide +kernel
theorem d_Ef_move_26 : decode b_Ef_move 26 = .ok (.getfield 9, 3) := by decide +kernel
theorem d_Ef_move_29 : decode b_Ef_move 29 = .ok (.iload_n 1, 1) := by decide +kernel
theorem d_Ef_move_30 : decode b_Ef_move 30 = .ok (.invokevirtual 43, 3) := by decide +kernel
theorem d_Ef_move_33 : decode b_Ef_move 33 = .ok (.lload_n 2, 1) := by decide +kernel
theorem d_Ef_move_34 : decode b_Ef_move 34 = .ok (.lload 6, 2) := by decide +kernel
theorem d_Ef_move_36 : decode b_Ef_move 36 = .ok (.invokestatic 77, 3) := by decide +kernel
theorem d_Ef_move_39 : decode b_Ef_move 39 = .ok (.ifCond .ne 21, 3) := by decide +kernel
theorem d_Ef_move_42 : decode b_Ef_move 42 = .ok (.aload_n 0, 1) := by decide +kernel
theorem d_Ef_move_43 : decode b_Ef_move 43 = .ok (.getfield 9, 3) := by decide +kernel
theorem d_Ef_move_46 : decode b_Ef_move 46 = .ok (.iload_n 1, 1) := by decide +kernel
theorem d_Ef_move_47 : decode b_Ef_move 47 = .ok (.invokevirtual 47, 3) := by decide +kernel
theorem d_Ef_move_50 : decode b_Ef_move 50 = .ok (.lload 4, 2) := by decide +kernel
theorem d_Ef_move_52 : decode b_Ef_move 52 = .ok (.lload 8, 2) := by decide +kernel
theorem d_Ef_move_54 : decode b_Ef_move 54 = .ok (.invokestatic 77, 3) := by decide +kernel
theorem d_Ef_move_57 : decode b_Ef_move 57 = .ok (.ifCond .eq 14, 3) := by decide +kernel
theorem d_Ef_move_60 : decode b_Ef_move 60 = .ok (.aload_n 0, 1) := by decide +kernel
theorem d_Ef_move_61 : decode b_Ef_move 61 = .ok (.getfield 9, 3) := by decide +kernel
theorem d_Ef_move_64 : decode b_Ef_move 64 = .ok (.iload_n 1, 1) := by decide +kernel
theorem d_Ef_move_65 : decode b_Ef_move 65 = .ok (.invokevirtual 81, 3) := by decide +kernel
theorem d_Ef_move_68 : decode b_Ef_move 68 = .ok (.goto 23, 3) := by decide +kernel
theorem d_Ef_move_71 : decode b_Ef_move 71 = .ok (.aload_n 0, 1) := by decide +kernel
theorem d_Ef_move_72 : decode b_Ef_move 72 = .ok (.getfield 9, 3) := by decide +kernel
theorem d_Ef_move_75 : decode b_Ef_move 75 = .ok (.iload_n 1, 1) := by decide +kernel
theorem d_Ef_move_76 : decode b_Ef_move 76 = .ok (.aload_n 0, 1) := by decide +kernel
theorem d_Ef_move_77 : decode b_Ef_move 77 = .ok (.getfield 9, 3) := by decide +kernel
theorem d_Ef_move_80 : decode b_Ef_move 80 = .ok (.iload_n 1, 1) := by decide +kernel
theorem d_Ef_move_81 : decode b_Ef_move 81 = .ok (.invokevirtual 84, 3) := by decide +kernel
theorem d_Ef_move_84 : decode b_Ef_move 84 = .ok (.lload 6, 2) := by decide +kernel
theorem d_Ef_move_86 : decode b_Ef_move 86 = .ok (.lload 8, 2) := by decide +kernel
theorem d_Ef_move_88 : decode b_Ef_move 88 = .ok (.invokevirtual 88, 3) := by decide +kernel
theorem d_Ef_move_91 : decode b_Ef_move 91 = .ok (.return_, 1) := by decide +kernel
theorem d_Ef_sumWraps_0 : decode b_Ef_sumWraps 0 = .ok (.lload_n 0, 1) := by decide +kernel
theorem d_Ef_sumWraps_1 : decode b_Ef_sumWraps 1 = .ok (.lload 4, 2) := by decide +kernel
theorem d_Ef_sumWraps_3 : decode b_Ef_sumWraps 3 = .ok (.lxor, 1) := by decide +kernel
theorem d_Ef_sumWraps_4 : decode b_Ef_sumWraps 4 = .ok (.lload_n 2, 1) := by decide +kernel
theorem d_Ef_sumWraps_5 : decode b_Ef_sumWraps 5 = .ok (.lload 4, 2) := by decide +kernel
theorem d_Ef_sumWraps_7 : decode b_Ef_sumWraps 7 = .ok (.lxor, 1) := by decide +kernel
theorem d_Ef_sumWraps_8 : decode b_Ef_sumWraps 8 = .ok (.land, 1) := by decide +kernel
theorem d_Ef_sumWraps_9 : decode b_Ef_sumWraps 9 = .ok (.lconst 0, 1) := by decide +kernel
theorem d_Ef_sumWraps_10 : decode b_Ef_sumWraps 10 = .ok (.lcmp, 1) := by decide +kernel
theorem d_Ef_sumWraps_11 : decode b_Ef_sumWraps 11 = .ok (.ifCond .ge 7, 3) := by decide +kernel
theorem d_Ef_sumWraps_14 : decode b_Ef_sumWraps 14 = .ok (.iconst 1, 1) := by decide +kernel
theorem d_Ef_sumWraps_15 : decode b_Ef_sumWraps 15 = .ok (.goto 4, 3) := by decide +kernel
theorem d_Ef_sumWraps_18 : decode b_Ef_sumWraps 18 = .ok (.iconst 0, 1) := by decide +kernel
theorem d_Ef_sumWraps_19 : decode b_Ef_sumWraps 19 = .ok (.ireturn, 1) := by decide +kernel
theorem d_Ef_subtract_0 : decode b_Ef_subtract 0 = .ok (.aload_n 0, 1) := by decide +kernel
theorem d_Ef_subtract_1 : decode b_Ef_subtract 1 = .ok (.getfield 9, 3) := by decide +kernel
theorem d_Ef_subtract_4 : decode b_Ef_subtract 4 = .ok (.iload_n 1, 1) := by decide +kernel
theorem d_Ef_subtract_5 : decode b_Ef_subtract 5 = .ok (.invokevirtual 43, 3) := by decide +kernel
theorem d_Ef_subtract_8 : decode b_Ef_subtract 8 = .ok (.lload 4, 2) := by decide +kernel
theorem d_Ef_subtract_10 : decode b_Ef_subtract 10 = .ok (.lsub, 1) := by decide +kernel
theorem d_Ef_subtract_11 : decode b_Ef_subtract 11 = .ok (.lstore 6, 2) := by decide +kernel
theorem d_Ef_subtract_13 : decode b_Ef_subtract 13 = .ok (.aload_n 0, 1) := by decide +kernel
theorem d_Ef_subtract_14 : decode b_Ef_subtract 14 = .ok (.getfield 9, 3) := by decide +kernel
theorem d_Ef_subtract_17 : decode b_Ef_subtract 17 = .ok (.iload_n 1, 1) := by decide +kernel
theorem d_Ef_subtract_18 : decode b_Ef_subtract 18 = .ok (.invokevirtual 47, 3) := by decide +kernel
theorem d_Ef_subtract_21 : decode b_Ef_subtract 21 = .ok (.lload_n 2, 1) := by decide +kernel
theorem d_Ef_subtract_22 : decode b_Ef_subtract 22 = .ok (.lsub, 1) := by decide +kernel
theorem d_Ef_subtract_23 : decode b_Ef_subtract 23 = .ok (.lstore 8, 2) := by decide +kernel
theorem d_Ef_subtract_25 : decode b_Ef_subtract 25 = .ok (.aload_n 0, 1) := by decide +kernel
theorem d_Ef_subtract_26 : decode b_Ef_subtract 26 = .ok (.getfield 9, 3) := by decide +kernel
theorem d_Ef_subtract_29 : decode b_Ef_subtract 29 = .ok (.iload_n 1, 1) := by decide +kernel
theorem d_Ef_subtract_30 : decode b_Ef_subtract 30 = .ok (.invokevirtual 43, 3) := by decide +kernel
theorem d_Ef_subtract_33 : decode b_Ef_subtract 33 = .ok (.lload 4, 2) := by decide +kernel
theorem d_Ef_subtract_35 : decode b_Ef_subtract 35 = .ok (.lload 6, 2) := by decide +kernel
theorem d_Ef_subtract_37 : decode b_Ef_subtract 37 = .ok (.invokestatic 92, 3) := by decide +kernel
theorem d_Ef_subtract_40 : decode b_Ef_subtract 40 = .ok (.ifCond .ne 20, 3) := by decide +kernel
theorem d_Ef_subtract_43 : decode b_Ef_subtract 43 = .ok (.aload_n 0, 1) := by decide +kernel
theorem d_Ef_subtract_44 : decode b_Ef_subtract 44 = .ok (.getfield 9, 3) := by decide +kernel
theorem d_Ef_subtract_47 : decode b_Ef_subtract 47 = .ok (.iload_n 1, 1) := by decide +kernel
theorem d_Ef_subtract_48 : decode b_Ef_subtract 48 = .ok (.invokevirtual 47, 3) := by decide +kernel
theorem d_Ef_subtract_51 : decode b_Ef_subtract 51 = .ok (.lload_n 2, 1) := by decide +kernel
theorem d_Ef_subtract_52 : decode b_Ef_subtract 52 = .ok (.lload 8, 2) := by decide +kernel
theorem d_Ef_subtract_54 : decode b_Ef_subtract 54 = .ok (.invokestatic 92, 3) := by decide +kernel
theorem d_Ef_subtract_57 : decode b_Ef_subtract 57 = .ok (.ifCond .eq 14, 3) := by decide +kernel
theorem d_Ef_subtract_60 : decode b_Ef_subtract 60 = .ok (.aload_n 0, 1) := by decide +kernel
theorem d_Ef_subtract_61 : decode b_Ef_subtract 61 = .ok (.getfield 9, 3) := by decide +kernel
theorem d_Ef_subtract_64 : decode b_Ef_subtract 64 = .ok (.iload_n 1, 1) := by decide +kernel
theorem d_Ef_subtract_65 : decode b_Ef_subtract 65 = .ok (.invokevirtual 81, 3) := by decide +kernel
theorem d_Ef_subtract_68 : decode b_Ef_subtract 68 = .ok (.goto 15, 3) := by decide +kernel
theorem d_Ef_subtract_71 : decode b_Ef_subtract 71 = .ok (.aload_n 0, 1) := by decide +kernel
theorem d_Ef_subtract_72 : decode b_Ef_subtract 72 = .ok (.getfield 9, 3) := by decide +kernel
theorem d_Ef_subtract_75 : decode b_Ef_subtract 75 = .ok (.iload_n 1, 1) := by decide +kernel
theorem d_Ef_subtract_76 : decode b_Ef_subtract 76 = .ok (.lload 6, 2) := by decide +kernel
theorem d_Ef_subtract_78 : decode b_Ef_subtract 78 = .ok (.lload 8, 2) := by decide +kernel
theorem d_Ef_subtract_80 : decode b_Ef_subtract 80 = .ok (.invokevirtual 27, 3) := by decide +kernel
theorem d_Ef_subtract_83 : decode b_Ef_subtract 83 = .ok (.return_, 1) := by decide +kernel
theorem d_Ef_differenceWraps_0 : decode b_Ef_differenceWraps 0 = .ok (.lload_n 0, 1) := by decide +kernel
theorem d_Ef_differenceWraps_1 : decode b_Ef_differenceWraps 1 = .ok (.lload_n 2, 1) := by decide +kernel
theorem d_Ef_differenceWraps_2 : decode b_Ef_differenceWraps 2 = .ok (.lxor, 1) := by decide +kernel
theorem d_Ef_differenceWraps_3 : decode b_Ef_differenceWraps 3 = .ok (.lload_n 0, 1) := by decide +kernel
theorem d_Ef_differenceWraps_4 : decode b_Ef_differenceWraps 4 = .ok (.lload 4, 2) := by decide +kernel
theorem d_Ef_differenceWraps_6 : decode b_Ef_differenceWraps 6 = .ok (.lxor, 1) := by decide +kernel
theorem d_Ef_differenceWraps_7 : decode b_Ef_differenceWraps 7 = .ok (.land, 1) := by decide +kernel
theorem d_Ef_differenceWraps_8 : decode b_Ef_differenceWraps 8 = .ok (.lconst 0, 1) := by decide +kernel
theorem d_Ef_differenceWraps_9 : decode b_Ef_differenceWraps 9 = .ok (.lcmp, 1) := by decide +kernel
theorem d_Ef_differenceWraps_10 : decode b_Ef_differenceWraps 10 = .ok (.ifCond .ge 7, 3) := by decide +kernel
theorem d_Ef_differenceWraps_13 : decode b_Ef_differenceWraps 13 = .ok (.iconst 1, 1) := by decide +kernel
theorem d_Ef_differenceWraps_14 : decode b_Ef_differenceWraps 14 = .ok (.goto 4, 3) := by decide +kernel
theorem d_Ef_differenceWraps_17 : decode b_Ef_differenceWraps 17 = .ok (.iconst 0, 1) := by decide +kernel
theorem d_Ef_differenceWraps_18 : decode b_Ef_differenceWraps 18 = .ok (.ireturn, 1) := by decide +kernel
theorem d_Ef_multiply_0 : decode b_Ef_multiply 0 = .ok (.aload_n 0, 1) := by decide +kernel
theorem d_Ef_multiply_1 : decode b_Ef_multiply 1 = .ok (.getfield 9, 3) := by decide +kernel
theorem d_Ef_multiply_4 : decode b_Ef_multiply 4 = .ok (.iload_n 1, 1) := by decide +kernel
theorem d_Ef_multiply_5 : decode b_Ef_multiply 5 = .ok (.invokevirtual 43, 3) := by decide +kernel
theorem d_Ef_multiply_8 : decode b_Ef_multiply 8 = .ok (.invokestatic 95, 3) := by decide +kernel
theorem d_Ef_multiply_11 : decode b_Ef_multiply 11 = .ok (.ifCond .eq 48, 3) := by decide +kernel
theorem d_Ef_multiply_14 : decode b_Ef_multiply 14 = .ok (.aload_n 0, 1) := by decide +kernel
theorem d_Ef_multiply_15 : decode b_Ef_multiply 15 = .ok (.getfield 9, 3) := by decide +kernel
theorem d_Ef_multiply_18 : decode b_Ef_multiply 18 = .ok (.iload_n 1, 1) := by decide +kernel
theorem d_Ef_multiply_19 : decode b_Ef_multiply 19 = .ok (.invokevirtual 47, 3) := by decide +kernel
theorem d_Ef_multiply_22 : decode b_Ef_multiply 22 = .ok (.invokestatic 95, 3) := by decide +kernel
theorem d_Ef_multiply_25 : decode b_Ef_multiply 25 = .ok (.ifCond .eq 34, 3) := by decide +kernel
theorem d_Ef_multiply_28 : decode b_Ef_multiply 28 = .ok (.aload_n 0, 1) := by decide +kernel
theorem d_Ef_multiply_29 : decode b_Ef_multiply 29 = .ok (.getfield 9, 3) := by decide +kernel
theorem d_Ef_multiply_32 : decode b_Ef_multiply 32 = .ok (.iload_n 1, 1) := by decide +kernel
theorem d_Ef_multiply_33 : decode b_Ef_multiply 33 = .ok (.aload_n 0, 1) := by decide +kernel
theorem d_Ef_multiply_34 : decode b_Ef_multiply 34 = .ok (.getfield 9, 3) := by decide +kernel
theorem d_Ef_multiply_37 : decode b_Ef_multiply 37 = .ok (.iload_n 1, 1) := by decide +kernel
theorem d_Ef_multiply_38 : decode b_Ef_multiply 38 = .ok (.invokevirtual 43, 3) := by decide +kernel
theorem d_Ef_multiply_41 : decode b_Ef_multiply 41 = .ok (.lload_n 2, 1) := by decide +kernel
theorem d_Ef_multiply_42 : decode b_Ef_multiply 42 = .ok (.lmul, 1) := by decide +kernel
theorem d_Ef_multiply_43 : decode b_Ef_multiply 43 = .ok (.aload_n 0, 1) := by decide +kernel
theorem d_Ef_multiply_44 : decode b_Ef_multiply 44 = .ok (.getfield 9, 3) := by decide +kernel
theorem d_Ef_multiply_47 : decode b_Ef_multiply 47 = .ok (.iload_n 1, 1) := by decide +kernel
theorem d_Ef_multiply_48 : decode b_Ef_multiply 48 = .ok (.invokevirtual 47, 3) := by decide +kernel
theorem d_Ef_multiply_51 : decode b_Ef_multiply 51 = .ok (.lload_n 2, 1) := by decide +kernel
theorem d_Ef_multiply_52 : decode b_Ef_multiply 52 = .ok (.lmul, 1) := by decide +kernel
theorem d_Ef_multiply_53 : decode b_Ef_multiply 53 = .ok (.invokevirtual 99, 3) := by decide +kernel
theorem d_Ef_multiply_56 : decode b_Ef_multiply 56 = .ok (.goto 11, 3) := by decide +kernel
theorem d_Ef_multiply_59 : decode b_Ef_multiply 59 = .ok (.aload_n 0, 1) := by decide +kernel
theorem d_Ef_multiply_60 : decode b_Ef_multiply 60 = .ok (.getfield 9, 3) := by decide +kernel
theorem d_Ef_multiply_63 : decode b_Ef_multiply 63 = .ok (.iload_n 1, 1) := by decide +kernel
theorem d_Ef_multiply_64 : decode b_Ef_multiply 64 = .ok (.invokevirtual 81, 3) := by decide +kernel
theorem d_Ef_multiply_67 : decode b_Ef_multiply 67 = .ok (.return_, 1) := by decide +kernel
theorem d_Ef_isFactor_0 : decode b_Ef_isFactor 0 = .ok (.lload_n 0, 1) := by decide +kernel
theorem d_Ef_isFactor_1 : decode b_Ef_isFactor 1 = .ok (.ldc2_w 102, 3) := by decide +kernel
theorem d_Ef_isFactor_4 : decode b_Ef_isFactor 4 = .ok (.lcmp, 1) := by decide +kernel
theorem d_Ef_isFactor_5 : decode b_Ef_isFactor 5 = .ok (.ifCond .lt 15, 3) := by decide +kernel
theorem d_Ef_isFactor_8 : decode b_Ef_isFactor 8 = .ok (.lload_n 0, 1) := by decide +kernel
theorem d_Ef_isFactor_9 : decode b_Ef_isFactor 9 = .ok (.ldc2_w 104, 3) := by decide +kernel
theorem d_Ef_isFactor_12 : decode b_Ef_isFactor 12 = .ok (.lcmp, 1) := by decide +kernel
theorem d_Ef_isFactor_13 : decode b_Ef_isFactor 13 = .ok (.ifCond .gt 7, 3) := by decide +kernel
theorem d_Ef_isFactor_16 : decode b_Ef_isFactor 16 = .ok (.iconst 1, 1) := by decide +kernel
theorem d_Ef_isFactor_17 : decode b_Ef_isFactor 17 = .ok (.goto 4, 3) := by decide +kernel
theorem d_Ef_isFactor_20 : decode b_Ef_isFactor 20 = .ok (.iconst 0, 1) := by decide +kernel
theorem d_Ef_isFactor_21 : decode b_Ef_isFactor 21 = .ok (.ireturn, 1) := by decide +kernel
theorem d_Ef_mask_0 : decode b_Ef_mask 0 = .ok (.aload_n 0, 1) := by decide +kernel
theorem d_Ef_mask_1 : decode b_Ef_mask 1 = .ok (.getfield 9, 3) := by decide +kernel
theorem d_Ef_mask_4 : decode b_Ef_mask 4 = .ok (.iload_n 1, 1) := by decide +kernel
theorem d_Ef_mask_5 : decode b_Ef_mask 5 = .ok (.invokevirtual 43, 3) := by decide +kernel
theorem d_Ef_mask_8 : decode b_Ef_mask 8 = .ok (.aload_n 0, 1) := by decide +kernel
theorem d_Ef_mask_9 : decode b_Ef_mask 9 = .ok (.getfield 9, 3) := by decide +kernel
theorem d_Ef_mask_12 : decode b_Ef_mask 12 = .ok (.iload_n 1, 1) := by decide +kernel
theorem d_Ef_mask_13 : decode b_Ef_mask 13 = .ok (.invokevirtual 47, 3) := by decide +kernel
theorem d_Ef_mask_16 : decode b_Ef_mask 16 = .ok (.lcmp, 1) := by decide +kernel
theorem d_Ef_mask_17 : decode b_Ef_mask 17 = .ok (.ifCond .ne 34, 3) := by decide +kernel
theorem d_Ef_mask_20 : decode b_Ef_mask 20 = .ok (.aload_n 0, 1) := by decide +kernel
theorem d_Ef_mask_21 : decode b_Ef_mask 21 = .ok (.getfield 9, 3) := by decide +kernel
theorem d_Ef_mask_24 : decode b_Ef_mask 24 = .ok (.iload_n 1, 1) := by decide +kernel
theorem d_Ef_mask_25 : decode b_Ef_mask 25 = .ok (.aload_n 0, 1) := by decide +kernel
theorem d_Ef_mask_26 : decode b_Ef_mask 26 = .ok (.getfield 9, 3) := by decide +kernel
theorem d_Ef_mask_29 : decode b_Ef_mask 29 = .ok (.iload_n 1, 1) := by decide +kernel
theorem d_Ef_mask_30 : decode b_Ef_mask 30 = .ok (.invokevirtual 43, 3) := by decide +kernel
theorem d_Ef_mask_33 : decode b_Ef_mask 33 = .ok (.lload_n 2, 1) := by decide +kernel
theorem d_Ef_mask_34 : decode b_Ef_mask 34 = .ok (.land, 1) := by decide +kernel
theorem d_Ef_mask_35 : decode b_Ef_mask 35 = .ok (.aload_n 0, 1) := by decide +kernel
theorem d_Ef_mask_36 : decode b_Ef_mask 36 = .ok (.getfield 9, 3) := by decide +kernel
theorem d_Ef_mask_39 : decode b_Ef_mask 39 = .ok (.iload_n 1, 1) := by decide +kernel
theorem d_Ef_mask_40 : decode b_Ef_mask 40 = .ok (.invokevirtual 43, 3) := by decide +kernel
theorem d_Ef_mask_43 : decode b_Ef_mask 43 = .ok (.lload_n 2, 1) := by decide +kernel
theorem d_Ef_mask_44 : decode b_Ef_mask 44 = .ok (.land, 1) := by decide +kernel
theorem d_Ef_mask_45 : decode b_Ef_mask 45 = .ok (.invokevirtual 27, 3) := by decide +kernel
theorem d_Ef_mask_48 : decode b_Ef_mask 48 = .ok (.goto 58, 3) := by decide +kernel
theorem d_Ef_mask_51 : decode b_Ef_mask 51 = .ok (.lload_n 2, 1) := by decide +kernel
theorem d_Ef_mask_52 : decode b_Ef_mask 52 = .ok (.lconst 0, 1) := by decide +kernel
theorem d_Ef_mask_53 : decode b_Ef_mask 53 = .ok (.lcmp, 1) := by decide +kernel
theorem d_Ef_mask_54 : decode b_Ef_mask 54 = .ok (.ifCond .ge 14, 3) := by decide +kernel
theorem d_Ef_mask_57 : decode b_Ef_mask 57 = .ok (.aload_n 0, 1) := by decide +kernel
theorem d_Ef_mask_58 : decode b_Ef_mask 58 = .ok (.getfield 9, 3) := by decide +kernel
theorem d_Ef_mask_61 : decode b_Ef_mask 61 = .ok (.iload_n 1, 1) := by decide +kernel
theorem d_Ef_mask_62 : decode b_Ef_mask 62 = .ok (.invokevirtual 81, 3) := by decide +kernel
theorem d_Ef_mask_65 : decode b_Ef_mask 65 = .ok (.goto 41, 3) := by decide +kernel
theorem d_Ef_mask_68 : decode b_Ef_mask 68 = .ok (.aload_n 0, 1) := by decide +kernel
theorem d_Ef_mask_69 : decode b_Ef_mask 69 = .ok (.getfield 9, 3) := by decide +kernel
theorem d_Ef_mask_72 : decode b_Ef_mask 72 = .ok (.iload_n 1, 1) := by decide +kernel
theorem d_Ef_mask_73 : decode b_Ef_mask 73 = .ok (.lconst 0, 1) := by decide +kernel
theorem d_Ef_mask_74 : decode b_Ef_mask 74 = .ok (.aload_n 0, 1) := by decide +kernel
theorem d_Ef_mask_75 : decode b_Ef_mask 75 = .ok (.getfield 9, 3) := by decide +kernel
theorem d_Ef_mask_78 : decode b_Ef_mask 78 = .ok (.iload_n 1, 1) := by decide +kernel
theorem d_Ef_mask_79 : decode b_Ef_mask 79 = .ok (.invokevirtual 43, 3) := by decide +kernel
theorem d_Ef_mask_82 : decode b_Ef_mask 82 = .ok (.lconst 0, 1) := by decide +kernel
theorem d_Ef_mask_83 : decode b_Ef_mask 83 = .ok (.lcmp, 1) := by decide +kernel
theorem d_Ef_mask_84 : decode b_Ef_mask 84 = .ok (.ifCond .ge 7, 3) := by decide +kernel
theorem d_Ef_mask_87 : decode b_Ef_mask 87 = .ok (.lload_n 2, 1) := by decide +kernel
theorem d_Ef_mask_88 : decode b_Ef_mask 88 = .ok (.goto 15, 3) := by decide +kernel
theorem d_Ef_mask_91 : decode b_Ef_mask 91 = .ok (.lload_n 2, 1) := by decide +kernel
theorem d_Ef_mask_92 : decode b_Ef_mask 92 = .ok (.aload_n 0, 1) := by decide +kernel
theorem d_Ef_mask_93 : decode b_Ef_mask 93 = .ok (.getfield 9, 3) := by decide +kernel
theorem d_Ef_mask_96 : decode b_Ef_mask 96 = .ok (.iload_n 1, 1) := by decide +kernel
theorem d_Ef_mask_97 : decode b_Ef_mask 97 = .ok (.invokevirtual 47, 3) := by decide +kernel
theorem d_Ef_mask_100 : decode b_Ef_mask 100 = .ok (.invokestatic 106, 3) := by decide +kernel
theorem d_Ef_mask_103 : decode b_Ef_mask 103 = .ok (.invokevirtual 27, 3) := by decide +kernel
theorem d_Ef_mask_106 : decode b_Ef_mask 106 = .ok (.return_, 1) := by decide +kernel
theorem d_Ef_divide_0 : decode b_Ef_divide 0 = .ok (.lload_n 2, 1) := by decide +kernel
theorem d_Ef_divide_1 : decode b_Ef_divide 1 = .ok (.lconst 0, 1) := by decide +kernel
theorem d_Ef_divide_2 : decode b_Ef_divide 2 = .ok (.lcmp, 1) := by decide +kernel
theorem d_Ef_divide_3 : decode b_Ef_divide 3 = .ok (.ifCond .eq 26, 3) := by decide +kernel
theorem d_Ef_divide_6 : decode b_Ef_divide 6 = .ok (.lload_n 2, 1) := by decide +kernel
theorem d_Ef_divide_7 : decode b_Ef_divide 7 = .ok (.ldc2_w 112, 3) := by decide +kernel
theorem d_Ef_divide_10 : decode b_Ef_divide 10 = .ok (.lcmp, 1) := by decide +kernel
theorem d_Ef_divide_11 : decode b_Ef_divide 11 = .ok (.ifCond .ne 29, 3) := by decide +kernel
theorem d_Ef_divide_14 : decode b_Ef_divide 14 = .ok (.aload_n 0, 1) := by decide +kernel
theorem d_Ef_divide_15 : decode b_Ef_divide 15 = .ok (.getfield 9, 3) := by decide +kernel
theorem d_Ef_divide_18 : decode b_Ef_divide 18 = .ok (.iload_n 1, 1) := by decide +kernel
theorem d_Ef_divide_19 : decode b_Ef_divide 19 = .ok (.invokevirtual 43, 3) := by decide +kernel
theorem d_Ef_divide_22 : decode b_Ef_divide 22 = .ok (.ldc2_w 116, 3) := by decide +kernel
theorem d_Ef_divide_25 : decode b_Ef_divide 25 = .ok (.lcmp, 1) := by decide +kernel
theorem d_Ef_divide_26 : decode b_Ef_divide 26 = .ok (.ifCond .ne 14, 3) := by decide +kernel
theorem d_Ef_divide_29 : decode b_Ef_divide 29 = .ok (.aload_n 0, 1) := by decide +kernel
theorem d_Ef_divide_30 : decode b_Ef_divide 30 = .ok (.getfield 9, 3) := by decide +kernel
theorem d_Ef_divide_33 : decode b_Ef_divide 33 = .ok (.iload_n 1, 1) := by decide +kernel
theorem d_Ef_divide_34 : decode b_Ef_divide 34 = .ok (.invokevirtual 81, 3) := by decide +kernel
theorem d_Ef_divide_37 : decode b_Ef_divide 37 = .ok (.goto 31, 3) := by decide +kernel
theorem d_Ef_divide_40 : decode b_Ef_divide 40 = .ok (.aload_n 0, 1) := by decide +kernel
theorem d_Ef_divide_41 : decode b_Ef_divide 41 = .ok (.getfield 9, 3) := by decide +kernel
theorem d_Ef_divide_44 : decode b_Ef_divide 44 = .ok (.iload_n 1, 1) := by decide +kernel
theorem d_Ef_divide_45 : decode b_Ef_divide 45 = .ok (.aload_n 0, 1) := by decide +kernel
theorem d_Ef_divide_46 : decode b_Ef_divide 46 = .ok (.getfield 9, 3) := by decide +kernel
theorem d_Ef_divide_49 : decode b_Ef_divide 49 = .ok (.iload_n 1, 1) := by decide +kernel
theorem d_Ef_divide_50 : decode b_Ef_divide 50 = .ok (.invokevirtual 43, 3) := by decide +kernel
theorem d_Ef_divide_53 : decode b_Ef_divide 53 = .ok (.lload_n 2, 1) := by decide +kernel
theorem d_Ef_divide_54 : decode b_Ef_divide 54 = .ok (.ldiv, 1) := by decide +kernel
theorem d_Ef_divide_55 : decode b_Ef_divide 55 = .ok (.aload_n 0, 1) := by decide +kernel
theorem d_Ef_divide_56 : decode b_Ef_divide 56 = .ok (.getfield 9, 3) := by decide +kernel
theorem d_Ef_divide_59 : decode b_Ef_divide 59 = .ok (.iload_n 1, 1) := by decide +kernel
theorem d_Ef_divide_60 : decode b_Ef_divide 60 = .ok (.invokevirtual 47, 3) := by decide +kernel
theorem d_Ef_divide_63 : decode b_Ef_divide 63 = .ok (.lload_n 2, 1) := by decide +kernel
theorem d_Ef_divide_64 : decode b_Ef_divide 64 = .ok (.ldiv, 1) := by decide +kernel
theorem d_Ef_divide_65 : decode b_Ef_divide 65 = .ok (.invokevirtual 99, 3) := by decide +kernel
theorem d_Ef_divide_68 : decode b_Ef_divide 68 = .ok (.return_, 1) := by decide +kernel
theorem d_Ef_negate_0 : decode b_Ef_negate 0 = .ok (.aload_n 0, 1) := by decide +kernel
theorem d_Ef_negate_1 : decode b_Ef_negate 1 = .ok (.getfield 9, 3) := by decide +kernel
theorem d_Ef_negate_4 : decode b_Ef_negate 4 = .ok (.iload_n 1, 1) := by decide +kernel
theorem d_Ef_negate_5 : decode b_Ef_negate 5 = .ok (.invokevirtual 43, 3) := by decide +kernel
theorem d_Ef_negate_8 : decode b_Ef_negate 8 = .ok (.ldc2_w 116, 3) := by decide +kernel
theorem d_Ef_negate_11 : decode b_Ef_negate 11 = .ok (.lcmp, 1) := by decide +kernel
theorem d_Ef_negate_12 : decode b_Ef_negate 12 = .ok (.ifCond .ne 14, 3) := by decide +kernel
theorem d_Ef_negate_15 : decode b_Ef_negate 15 = .ok (.aload_n 0, 1) := by decide +kernel
theorem d_Ef_negate_16 : decode b_Ef_negate 16 = .ok (.getfield 9, 3) := by decide +kernel
theorem d_Ef_negate_19 : decode b_Ef_negate 19 = .ok (.iload_n 1, 1) := by decide +kernel
theorem d_Ef_negate_20 : decode b_Ef_negate 20 = .ok (.invokevirtual 81, 3) := by decide +kernel
theorem d_Ef_negate_23 : decode b_Ef_negate 23 = .ok (.goto 29, 3) := by decide +kernel
theorem d_Ef_negate_26 : decode b_Ef_negate 26 = .ok (.aload_n 0, 1) := by decide +kernel
theorem d_Ef_negate_27 : decode b_Ef_negate 27 = .ok (.getfield 9, 3) := by decide +kernel
theorem d_Ef_negate_30 : decode b_Ef_negate 30 = .ok (.iload_n 1, 1) := by decide +kernel
theorem d_Ef_negate_31 : decode b_Ef_negate 31 = .ok (.aload_n 0, 1) := by decide +kernel
theorem d_Ef_negate_32 : decode b_Ef_negate 32 = .ok (.getfield 9, 3) := by decide +kernel
theorem d_Ef_negate_35 : decode b_Ef_negate 35 = .ok (.iload_n 1, 1) := by decide +kernel
theorem d_Ef_negate_36 : decode b_Ef_negate 36 = .ok (.invokevirtual 47, 3) := by decide +kernel
theorem d_Ef_negate_39 : decode b_Ef_negate 39 = .ok (.lneg, 1) := by decide +kernel
theorem d_Ef_negate_40 : decode b_Ef_negate 40 = .ok (.aload_n 0, 1) := by decide +kernel
theorem d_Ef_negate_41 : decode b_Ef_negate 41 = .ok (.getfield 9, 3) := by decide +kernel
theorem d_Ef_negate_44 : decode b_Ef_negate 44 = .ok (.iload_n 1, 1) := by decide +kernel
theorem d_Ef_negate_45 : decode b_Ef_negate 45 = .ok (.invokevirtual 43, 3) := by decide +kernel
theorem d_Ef_negate_48 : decode b_Ef_negate 48 = .ok (.lneg, 1) := by decide +kernel
theorem d_Ef_negate_49 : decode b_Ef_negate 49 = .ok (.invokevirtual 27, 3) := by decide +kernel
theorem d_Ef_negate_52 : decode b_Ef_negate 52 = .ok (.return_, 1) := by decide +kernel
theorem d_Ef_load_0 : decode b_Ef_load 0 = .ok (.aload_n 0, 1) := by decide +kernel
theorem d_Ef_load_1 : decode b_Ef_load 1 = .ok (.getfield 9, 3) := by decide +kernel
theorem d_Ef_load_4 : decode b_Ef_load 4 = .ok (.aload_n 1, 1) := by decide +kernel
theorem d_Ef_load_5 : decode b_Ef_load 5 = .ok (.getfield 33, 3) := by decide +kernel
theorem d_Ef_load_8 : decode b_Ef_load 8 = .ok (.invokevirtual 84, 3) := by decide +kernel
theorem d_Ef_load_11 : decode b_Ef_load 11 = .ok (.iconst 2, 1) := by decide +kernel
theorem d_Ef_load_12 : decode b_Ef_load 12 = .ok (.if_icmp .eq 15, 3) := by decide +kernel
theorem d_Ef_load_15 : decode b_Ef_load 15 = .ok (.aload_n 0, 1) := by decide +kernel
theorem d_Ef_load_16 : decode b_Ef_load 16 = .ok (.getfield 9, 3) := by decide +kernel
theorem d_Ef_load_19 : decode b_Ef_load 19 = .ok (.aload_n 1, 1) := by decide +kernel
theorem d_Ef_load_20 : decode b_Ef_load 20 = .ok (.getfield 15, 3) := by decide +kernel
theorem d_Ef_load_23 : decode b_Ef_load 23 = .ok (.invokevirtual 81, 3) := by decide +kernel
theorem d_Ef_load_26 : decode b_Ef_load 26 = .ok (.return_, 1) := by decide +kernel
theorem d_Ef_load_27 : decode b_Ef_load 27 = .ok (.aload_n 0, 1) := by decide +kernel
theorem d_Ef_load_28 : decode b_Ef_load 28 = .ok (.getfield 9, 3) := by decide +kernel
theorem d_Ef_load_31 : decode b_Ef_load 31 = .ok (.aload_n 1, 1) := by decide +kernel
theorem d_Ef_load_32 : decode b_Ef_load 32 = .ok (.getfield 33, 3) := by decide +kernel
theorem d_Ef_load_35 : decode b_Ef_load 35 = .ok (.invokevirtual 43, 3) := by decide +kernel
theorem d_Ef_load_38 : decode b_Ef_load 38 = .ok (.aload_n 1, 1) := by decide +kernel
theorem d_Ef_load_39 : decode b_Ef_load 39 = .ok (.getfield 24, 3) := by decide +kernel
theorem d_Ef_load_42 : decode b_Ef_load 42 = .ok (.i2l, 1) := by decide +kernel
theorem d_Ef_load_43 : decode b_Ef_load 43 = .ok (.ladd, 1) := by decide +kernel
theorem d_Ef_load_44 : decode b_Ef_load 44 = .ok (.lstore_n 2, 1) := by decide +kernel
theorem d_Ef_load_45 : decode b_Ef_load 45 = .ok (.aload_n 0, 1) := by decide +kernel
theorem d_Ef_load_46 : decode b_Ef_load 46 = .ok (.getfield 9, 3) := by decide +kernel
theorem d_Ef_load_49 : decode b_Ef_load 49 = .ok (.aload_n 1, 1) := by decide +kernel
theorem d_Ef_load_50 : decode b_Ef_load 50 = .ok (.getfield 33, 3) := by decide +kernel
theorem d_Ef_load_53 : decode b_Ef_load 53 = .ok (.invokevirtual 47, 3) := by decide +kernel
theorem d_Ef_load_56 : decode b_Ef_load 56 = .ok (.aload_n 1, 1) := by decide +kernel
theorem d_Ef_load_57 : decode b_Ef_load 57 = .ok (.getfield 24, 3) := by decide +kernel
theorem d_Ef_load_60 : decode b_Ef_load 60 = .ok (.i2l, 1) := by decide +kernel
theorem d_Ef_load_61 : decode b_Ef_load 61 = .ok (.ladd, 1) := by decide +kernel
theorem d_Ef_load_62 : decode b_Ef_load 62 = .ok (.lstore 4, 2) := by decide +kernel
theorem d_Ef_load_64 : decode b_Ef_load 64 = .ok (.iconst 0, 1) := by decide +kernel
theorem d_Ef_load_65 : decode b_Ef_load 65 = .ok (.istore 6, 2) := by decide +kernel
theorem d_Ef_load_67 : decode b_Ef_load 67 = .ok (.iload 6, 2) := by decide +kernel
theorem d_Ef_load_69 : decode b_Ef_load 69 = .ok (.bipush 6, 2) := by decide +kernel
theorem d_Ef_load_71 : decode b_Ef_load 71 = .ok (.if_icmp .ge 86, 3) := by decide +kernel
theorem d_Ef_load_74 : decode b_Ef_load 74 = .ok (.bipush 6, 2) := by decide +kernel
theorem d_Ef_load_76 : decode b_Ef_load 76 = .ok (.iload 6, 2) := by decide +kernel
theorem d_Ef_load_78 : decode b_Ef_load 78 = .ok (.iadd, 1) := by decide +kernel
theorem d_Ef_load_79 : decode b_Ef_load 79 = .ok (.istore 7, 2) := by decide +kernel
theorem d_Ef_load_81 : decode b_Ef_load 81 = .ok (.iload 6, 2) := by decide +kernel
theorem d_Ef_load_83 : decode b_Ef_load 83 = .ok (.i2l, 1) := by decide +kernel
theorem d_Ef_load_84 : decode b_Ef_load 84 = .ok (.lload_n 2, 1) := by decide +kernel
theorem d_Ef_load_85 : decode b_Ef_load 85 = .ok (.lcmp, 1) := by decide +kernel
theorem d_Ef_load_86 : decode b_Ef_load 86 = .ok (.ifCond .ne 19, 3) := by decide +kernel
theorem d_Ef_load_89 : decode b_Ef_load 89 = .ok (.aload_n 0, 1) := by decide +kernel
theorem d_Ef_load_90 : decode b_Ef_load 90 = .ok (.getfield 9, 3) := by decide +kernel
theorem d_Ef_load_93 : decode b_Ef_load 93 = .ok (.aload_n 1, 1) := by decide +kernel
theorem d_Ef_load_94 : decode b_Ef_load 94 = .ok (.getfield 15, 3) := by decide +kernel
theorem d_Ef_load_97 : decode b_Ef_load 97 = .ok (.iload 7, 2) := by decide +kernel
theorem d_Ef_load_99 : decode b_Ef_load 99 = .ok (.invokevirtual 36, 3) := by decide +kernel
theorem d_Ef_load_102 : decode b_Ef_load 102 = .ok (.goto 49, 3) := by decide +kernel
theorem d_Ef_load_105 : decode b_Ef_load 105 = .ok (.iload 6, 2) := by decide +kernel
theorem d_Ef_load_107 : decode b_Ef_load 107 = .ok (.i2l, 1) := by decide +kernel
theorem d_Ef_load_108 : decode b_Ef_load 108 = .ok (.lload_n 2, 1) := by decide +kernel
theorem d_Ef_load_109 : decode b_Ef_load 109 = .ok (.lcmp, 1) := by decide +kernel
theorem d_Ef_load_110 : decode b_Ef_load 110 = .ok (.ifCond .le 41, 3) := by decide +kernel
theorem d_Ef_load_113 : decode b_Ef_load 113 = .ok (.iload 6, 2) := by decide +kernel
theorem d_Ef_load_115 : decode b_Ef_load 115 = .ok (.i2l, 1) := by decide +kernel
theorem d_Ef_load_116 : decode b_Ef_load 116 = .ok (.lload 4, 2) := by decide +kernel
theorem d_Ef_load_118 : decode b_Ef_load 118 = .ok (.lcmp, 1) := by decide +kernel
theorem d_Ef_load_119 : decode b_Ef_load 119 = .ok (.ifCond .gt 32, 3) := by decide +kernel
theorem d_Ef_load_122 : decode b_Ef_load 122 = .ok (.aload_n 0, 1) := by decide +kernel
theorem d_Ef_load_123 : decode b_Ef_load 123 = .ok (.getfield 9, 3) := by decide +kernel
theorem d_Ef_load_126 : decode b_Ef_load 126 = .ok (.aload_n 1, 1) := by decide +kernel
theorem d_Ef_load_127 : decode b_Ef_load 127 = .ok (.getfield 15, 3) := by decide +kernel
theorem d_Ef_load_130 : decode b_Ef_load 130 = .ok (.aload_n 0, 1) := by decide +kernel
theorem d_Ef_load_131 : decode b_Ef_load 131 = .ok (.getfield 9, 3) := by decide +kernel
theorem d_Ef_load_134 : decode b_Ef_load 134 = .ok (.iload 7, 2) := by decide +kernel
theorem d_Ef_load_136 : decode b_Ef_load 136 = .ok (.invokevirtual 43, 3) := by decide +kernel
theorem d_Ef_load_139 : decode b_Ef_load 139 = .ok (.aload_n 0, 1) := by decide +kernel
theorem d_Ef_load_140 : decode b_Ef_load 140 = .ok (.getfield 9, 3) := by decide +kernel
theorem d_Ef_load_143 : decode b_Ef_load 143 = .ok (.iload 7, 2) := by decide +kernel
theorem d_Ef_load_145 : decode b_Ef_load 145 = .ok (.invokevirtual 47, 3) := by decide +kernel
theorem d_Ef_load_148 : decode b_Ef_load 148 = .ok (.invokevirtual 118, 3) := by decide +kernel
theorem d_Ef_load_151 : decode b_Ef_load 151 = .ok (.iinc 6 1, 3) := by decide +kernel
theorem d_Ef_load_154 : decode b_Ef_load 154 = .ok (.goto (-87), 3) := by decide +kernel
theorem d_Ef_load_157 : decode b_Ef_load 157 = .ok (.return_, 1) := by decide +kernel
theorem d_Ef_store_0 : decode b_Ef_store 0 = .ok (.aload_n 0, 1) := by decide +kernel
theorem d_Ef_store_1 : decode b_Ef_store 1 = .ok (.getfield 9, 3) := by decide +kernel
theorem d_Ef_store_4 : decode b_Ef_store 4 = .ok (.aload_n 1, 1) := by decide +kernel
theorem d_Ef_store_5 : decode b_Ef_store 5 = .ok (.getfield 15, 3) := by decide +kernel
theorem d_Ef_store_8 : decode b_Ef_store 8 = .ok (.invokevirtual 84, 3) := by decide +kernel
theorem d_Ef_store_11 : decode b_Ef_store 11 = .ok (.iconst 2, 1) := by decide +kernel
theorem d_Ef_store_12 : decode b_Ef_store 12 = .ok (.if_icmp .eq 4, 3) := by decide +kernel
theorem d_Ef_store_15 : decode b_Ef_store 15 = .ok (.return_, 1) := by decide +kernel
theorem d_Ef_store_16 : decode b_Ef_store 16 = .ok (.aload_n 0, 1) := by decide +kernel
theorem d_Ef_store_17 : decode b_Ef_store 17 = .ok (.getfield 9, 3) := by decide +kernel
theorem d_Ef_store_20 : decode b_Ef_store 20 = .ok (.aload_n 1, 1) := by decide +kernel
theorem d_Ef_store_21 : decode b_Ef_store 21 = .ok (.getfield 15, 3) := by decide +kernel
theorem d_Ef_store_24 : decode b_Ef_store 24 = .ok (.invokevirtual 43, 3) := by decide +kernel
theorem d_Ef_store_27 : decode b_Ef_store 27 = .ok (.aload_n 1, 1) := by decide +kernel
theorem d_Ef_store_28 : decode b_Ef_store 28 = .ok (.getfield 24, 3) := by decide +kernel
theorem d_Ef_store_31 : decode b_Ef_store 31 = .ok (.i2l, 1) := by decide +kernel
theorem d_Ef_store_32 : decode b_Ef_store 32 = .ok (.ladd, 1) := by decide +kernel
theorem d_Ef_store_33 : decode b_Ef_store 33 = .ok (.lstore_n 2, 1) := by decide +kernel
theorem d_Ef_store_34 : decode b_Ef_store 34 = .ok (.aload_n 0, 1) := by decide +kernel
theorem d_Ef_store_35 : decode b_Ef_store 35 = .ok (.getfield 9, 3) := by decide +kernel
theorem d_Ef_store_38 : decode b_Ef_store 38 = .ok (.aload_n 1, 1) := by decide +kernel
theorem d_Ef_store_39 : decode b_Ef_store 39 = .ok (.getfield 15, 3) := by decide +kernel
theorem d_Ef_store_42 : decode b_Ef_store 42 = .ok (.invokevirtual 47, 3) := by decide +kernel
theorem d_Ef_store_45 : decode b_Ef_store 45 = .ok (.aload_n 1, 1) := by decide +kernel
theorem d_Ef_store_46 : decode b_Ef_store 46 = .ok (.getfield 24, 3) := by decide +kernel
theorem d_Ef_store_49 : decode b_Ef_store 49 = .ok (.i2l, 1) := by decide +kernel
theorem d_Ef_store_50 : decode b_Ef_store 50 = .ok (.ladd, 1) := by decide +kernel
theorem d_Ef_store_51 : decode b_Ef_store 51 = .ok (.lstore 4, 2) := by decide +kernel
theorem d_Ef_store_53 : decode b_Ef_store 53 = .ok (.iconst 0, 1) := by decide +kernel
theorem d_Ef_store_54 : decode b_Ef_store 54 = .ok (.istore 6, 2) := by decide +kernel
theorem d_Ef_store_56 : decode b_Ef_store 56 = .ok (.iload 6, 2) := by decide +kernel
theorem d_Ef_store_58 : decode b_Ef_store 58 = .ok (.bipush 6, 2) := by decide +kernel
theorem d_Ef_store_60 : decode b_Ef_store 60 = .ok (.if_icmp .ge 107, 3) := by decide +kernel
theorem d_Ef_store_63 : decode b_Ef_store 63 = .ok (.bipush 6, 2) := by decide +kernel
theorem d_Ef_store_65 : decode b_Ef_store 65 = .ok (.iload 6, 2) := by decide +kernel
theorem d_Ef_store_67 : decode b_Ef_store 67 = .ok (.iadd, 1) := by decide +kernel
theorem d_Ef_store_68 : decode b_Ef_store 68 = .ok (.istore 7, 2) := by decide +kernel
theorem d_Ef_store_70 : decode b_Ef_store 70 = .ok (.iload 6, 2) := by decide +kernel
theorem d_Ef_store_72 : decode b_Ef_store 72 = .ok (.i2l, 1) := by decide +kernel
theorem d_Ef_store_73 : decode b_Ef_store 73 = .ok (.lload_n 2, 1) := by decide +kernel
theorem d_Ef_store_74 : decode b_Ef_store 74 = .ok (.lcmp, 1) := by decide +kernel
theorem d_Ef_store_75 : decode b_Ef_store 75 = .ok (.ifCond .ne 26, 3) := by decide +kernel
theorem d_Ef_store_78 : decode b_Ef_store 78 = .ok (.lload_n 2, 1) := by decide +kernel
theorem d_Ef_store_79 : decode b_Ef_store 79 = .ok (.lload 4, 2) := by decide +kernel
theorem d_Ef_store_81 : decode b_Ef_store 81 = .ok (.lcmp, 1) := by decide +kernel
theorem d_Ef_store_82 : decode b_Ef_store 82 = .ok (.ifCond .ne 19, 3) := by decide +kernel
theorem d_Ef_store_85 : decode b_Ef_store 85 = .ok (.aload_n 0, 1) := by decide +kernel
theorem d_Ef_store_86 : decode b_Ef_store 86 = .ok (.getfield 9, 3) := by decide +kernel
theorem d_Ef_store_89 : decode b_Ef_store 89 = .ok (.iload 7, 2) := by decide +kernel
theorem d_Ef_store_91 : decode b_Ef_store 91 = .ok (.aload_n 1, 1) := by decide +kernel
theorem d_Ef_store_92 : decode b_Ef_store 92 = .ok (.getfield 33, 3) := by decide +kernel
theorem d_Ef_store_95 : decode b_Ef_store 95 = .ok (.invokevirtual 36, 3) := by decide +kernel
theorem d_Ef_store_98 : decode b_Ef_store 98 = .ok (.goto 63, 3) := by decide +kernel
theorem d_Ef_store_101 : decode b_Ef_store 101 = .ok (.iload 6, 2) := by decide +kernel
theorem d_Ef_store_103 : decode b_Ef_store 103 = .ok (.i2l, 1) := by decide +kernel
theorem d_Ef_store_104 : decode b_Ef_store 104 = .ok (.lload_n 2, 1) := by decide +kernel
theorem d_Ef_store_105 : decode b_Ef_store 105 = .ok (.lcmp, 1) := by decide +kernel
theorem d_Ef_store_106 : decode b_Ef_store 106 = .ok (.ifCond .lt 55, 3) := by decide +kernel
theorem d_Ef_store_109 : decode b_Ef_store 109 = .ok (.iload 6, 2) := by decide +kernel
theorem d_Ef_store_111 : decode b_Ef_store 111 = .ok (.i2l, 1) := by decide +kernel
theorem d_Ef_store_112 : decode b_Ef_store 112 = .ok (.lload 4, 2) := by decide +kernel
theorem d_Ef_store_114 : decode b_Ef_store 114 = .ok (.lcmp, 1) := by decide +kernel
theorem d_Ef_store_115 : decode b_Ef_store 115 = .ok (.ifCond .gt 46, 3) := by decide +kernel
theorem d_Ef_store_118 : decode b_Ef_store 118 = .ok (.aload_n 0, 1) := by decide +kernel
theorem d_Ef_store_119 : decode b_Ef_store 119 = .ok (.getfield 9, 3) := by decide +kernel
theorem d_Ef_store_122 : decode b_Ef_store 122 = .ok (.iload 7, 2) := by decide +kernel
theorem d_Ef_store_124 : decode b_Ef_store 124 = .ok (.invokevirtual 121, 3) := by decide +kernel
theorem d_Ef_store_127 : decode b_Ef_store 127 = .ok (.ifCond .eq 34, 3) := by decide +kernel
theorem d_Ef_store_130 : decode b_Ef_store 130 = .ok (.aload_n 0, 1) := by decide +kernel
theorem d_Ef_store_131 : decode b_Ef_store 131 = .ok (.getfield 9, 3) := by decide +kernel
theorem d_Ef_store_134 : decode b_Ef_store 134 = .ok (.iload 7, 2) := by decide +kernel
theorem d_Ef_store_136 : decode b_Ef_store 136 = .ok (.aload_n 0, 1) := by decide +kernel
theorem d_Ef_store_137 : decode b_Ef_store 137 = .ok (.getfield 9, 3) := by decide +kernel
theorem d_Ef_store_140 : decode b_Ef_store 140 = .ok (.aload_n 1, 1) := by decide +kernel
theorem d_Ef_store_141 : decode b_Ef_store 141 = .ok (.getfield 33, 3) := by decide +kernel
theorem d_Ef_store_144 : decode b_Ef_store 144 = .ok (.invokevirtual 43, 3) := by decide +kernel
theorem d_Ef_store_147 : decode b_Ef_store 147 = .ok (.aload_n 0, 1) := by decide +kernel
theorem d_Ef_store_148 : decode b_Ef_store 148 = .ok (.getfield 9, 3) := by decide +kernel
theorem d_Ef_store_151 : decode b_Ef_store 151 = .ok (.aload_n 1, 1) := by decide +kernel
theorem d_Ef_store_152 : decode b_Ef_store 152 = .ok (.getfield 33, 3) := by decide +kernel
theorem d_Ef_store_155 : decode b_Ef_store 155 = .ok (.invokevirtual 47, 3) := by decide +kernel
theorem d_Ef_store_158 : decode b_Ef_store 158 = .ok (.invokevirtual 118, 3) := by decide +kernel
theorem d_Ef_store_161 : decode b_Ef_store 161 = .ok (.iinc 6 1, 3) := by decide +kernel
theorem d_Ef_store_164 : decode b_Ef_store 164 = .ok (.goto (-108), 3) := by decide +kernel
theorem d_Ef_store_167 : decode b_Ef_store 167 = .ok (.return_, 1) := by decide +kernel
theorem d_Ef_call_0 : decode b_Ef_call 0 = .ok (.iload_n 1, 1) := by decide +kernel
theorem d_Ef_call_1 : decode b_Ef_call 1 = .ok (.ifCond .ne 18, 3) := by decide +kernel
theorem d_Ef_call_4 : decode b_Ef_call 4 = .ok (.aload_n 0, 1) := by decide +kernel
theorem d_Ef_call_5 : decode b_Ef_call 5 = .ok (.getfield 9, 3) := by decide +kernel
theorem d_Ef_call_8 : decode b_Ef_call 8 = .ok (.iconst 0, 1) := by decide +kernel
theorem d_Ef_call_9 : decode b_Ef_call 9 = .ok (.lconst 0, 1) := by decide +kernel
theorem d_Ef_call_10 : decode b_Ef_call 10 = .ok (.ldc2_w 125, 3) := by decide +kernel
theorem d_Ef_call_13 : decode b_Ef_call 13 = .ok (.invokevirtual 27, 3) := by decide +kernel
theorem d_Ef_call_16 : decode b_Ef_call 16 = .ok (.goto 68, 3) := by decide +kernel
theorem d_Ef_call_19 : decode b_Ef_call 19 = .ok (.iload_n 1, 1) := by decide +kernel
theorem d_Ef_call_20 : decode b_Ef_call 20 = .ok (.iconst 1, 1) := by decide +kernel
theorem d_Ef_call_21 : decode b_Ef_call 21 = .ok (.if_icmp .ne 17, 3) := by decide +kernel
theorem d_Ef_call_24 : decode b_Ef_call 24 = .ok (.aload_n 0, 1) := by decide +kernel
theorem d_Ef_call_25 : decode b_Ef_call 25 = .ok (.getfield 9, 3) := by decide +kernel
theorem d_Ef_call_28 : decode b_Ef_call 28 = .ok (.iconst 0, 1) := by decide +kernel
theorem d_Ef_call_29 : decode b_Ef_call 29 = .ok (.iconst 4, 1) := by decide +kernel
theorem d_Ef_call_30 : decode b_Ef_call 30 = .ok (.lconst 0, 1) := by decide +kernel
theorem d_Ef_call_31 : decode b_Ef_call 31 = .ok (.lconst 0, 1) := by decide +kernel
theorem d_Ef_call_32 : decode b_Ef_call 32 = .ok (.invokevirtual 88, 3) := by decide +kernel
theorem d_Ef_call_35 : decode b_Ef_call 35 = .ok (.goto 49, 3) := by decide +kernel
theorem d_Ef_call_38 : decode b_Ef_call 38 = .ok (.aload_n 0, 1) := by decide +kernel
theorem d_Ef_call_39 : decode b_Ef_call 39 = .ok (.getfield 9, 3) := by decide +kernel
theorem d_Ef_call_42 : decode b_Ef_call 42 = .ok (.iconst 0, 1) := by decide +kernel
theorem d_Ef_call_43 : decode b_Ef_call 43 = .ok (.aload_n 0, 1) := by decide +kernel
theorem d_Ef_call_44 : decode b_Ef_call 44 = .ok (.getfield 9, 3) := by decide +kernel
theorem d_Ef_call_47 : decode b_Ef_call 47 = .ok (.iconst 1, 1) := by decide +kernel
theorem d_Ef_call_48 : decode b_Ef_call 48 = .ok (.invokevirtual 43, 3) := by decide +kernel
theorem d_Ef_call_51 : decode b_Ef_call 51 = .ok (.aload_n 0, 1) := by decide +kernel
theorem d_Ef_call_52 : decode b_Ef_call 52 = .ok (.getfield 9, 3) := by decide +kernel
theorem d_Ef_call_55 : decode b_Ef_call 55 = .ok (.iconst 2, 1) := by decide +kernel
theorem d_Ef_call_56 : decode b_Ef_call 56 = .ok (.invokevirtual 43, 3) := by decide +kernel
theorem d_Ef_call_59 : decode b_Ef_call 59 = .ok (.invokestatic 127, 3) := by decide +kernel
theorem d_Ef_call_62 : decode b_Ef_call 62 = .ok (.aload_n 0, 1) := by decide +kernel
theorem d_Ef_call_63 : decode b_Ef_call 63 = .ok (.getfield 9, 3) := by decide +kernel
theorem d_Ef_call_66 : decode b_Ef_call 66 = .ok (.iconst 1, 1) := by decide +kernel
theorem d_Ef_call_67 : decode b_Ef_call 67 = .ok (.invokevirtual 47, 3) := by decide +kernel
theorem d_Ef_call_70 : decode b_Ef_call 70 = .ok (.aload_n 0, 1) := by decide +kernel
theorem d_Ef_call_71 : decode b_Ef_call 71 = .ok (.getfield 9, 3) := by decide +kernel
theorem d_Ef_call_74 : decode b_Ef_call 74 = .ok (.iconst 2, 1) := by decide +kernel
theorem d_Ef_call_75 : decode b_Ef_call 75 = .ok (.invokevirtual 47, 3) := by decide +kernel
theorem d_Ef_call_78 : decode b_Ef_call 78 = .ok (.invokestatic 127, 3) := by decide +kernel
theorem d_Ef_call_81 : decode b_Ef_call 81 = .ok (.invokevirtual 27, 3) := by decide +kernel
theorem d_Ef_call_84 : decode b_Ef_call 84 = .ok (.aload_n 0, 1) := by decide +kernel
theorem d_Ef_call_85 : decode b_Ef_call 85 = .ok (.getfield 9, 3) := by decide +kernel
theorem d_Ef_call_88 : decode b_Ef_call 88 = .ok (.iconst 1, 1) := by decide +kernel
theorem d_Ef_call_89 : decode b_Ef_call 89 = .ok (.invokevirtual 130, 3) := by decide +kernel
theorem d_Ef_call_92 : decode b_Ef_call 92 = .ok (.aload_n 0, 1) := by decide +kernel
theorem d_Ef_call_93 : decode b_Ef_call 93 = .ok (.getfield 9, 3) := by decide +kernel
theorem d_Ef_call_96 : decode b_Ef_call 96 = .ok (.iconst 2, 1) := by decide +kernel
theorem d_Ef_call_97 : decode b_Ef_call 97 = .ok (.invokevirtual 130, 3) := by decide +kernel
theorem d_Ef_call_100 : decode b_Ef_call 100 = .ok (.aload_n 0, 1) := by decide +kernel
theorem d_Ef_call_101 : decode b_Ef_call 101 = .ok (.getfield 9, 3) := by decide +kernel
theorem d_Ef_call_104 : decode b_Ef_call 104 = .ok (.iconst 3, 1) := by decide +kernel
theorem d_Ef_call_105 : decode b_Ef_call 105 = .ok (.invokevirtual 130, 3) := by decide +kernel
theorem d_Ef_call_108 : decode b_Ef_call 108 = .ok (.return_, 1) := by decide +kernel
theorem d_Fk_leadsToTarget_0 : decode b_Fk_leadsToTarget 0 = .ok (.aload_n 0, 1) := by decide +kernel
theorem d_Fk_leadsToTarget_1 : decode b_Fk_leadsToTarget 1 = .ok (.getfield 9, 3) := by decide +kernel
theorem d_Fk_leadsToTarget_4 : decode b_Fk_leadsToTarget 4 = .ok (.tableswitch 136 10 12 #[28, 76, 99], 28) := by decide +kernel
theorem d_Fk_leadsToTarget_32 : decode b_Fk_leadsToTarget 32 = .ok (.aload_n 0, 1) := by decide +kernel
theorem d_Fk_leadsToTarget_33 : decode b_Fk_leadsToTarget 33 = .ok (.aload_n 1, 1) := by decide +kernel
theorem d_Fk_leadsToTarget_34 : decode b_Fk_leadsToTarget 34 = .ok (.invokestatic 15, 3) := by decide +kernel
theorem d_Fk_leadsToTarget_37 : decode b_Fk_leadsToTarget 37 = .ok (.ifCond .ne 37, 3) := by decide +kernel
theorem d_Fk_leadsToTarget_40 : decode b_Fk_leadsToTarget 40 = .ok (.aload_n 1, 1) := by decide +kernel
theorem d_Fk_leadsToTarget_41 : decode b_Fk_leadsToTarget 41 = .ok (.aload_n 0, 1) := by decide +kernel
theorem d_Fk_leadsToTarget_42 : decode b_Fk_leadsToTarget 42 = .ok (.getfield 21, 3) := by decide +kernel
theorem d_Fk_leadsToTarget_45 : decode b_Fk_leadsToTarget 45 = .ok (.invokevirtual 24, 3) := by decide +kernel
theorem d_Fk_leadsToTarget_48 : decode b_Fk_leadsToTarget 48 = .ok (.aload_n 0, 1) := by decide +kernel
theorem d_Fk_leadsToTarget_49 : decode b_Fk_leadsToTarget 49 = .ok (.getfield 30, 3) := by decide +kernel
theorem d_Fk_leadsToTarget_52 : decode b_Fk_leadsToTarget 52 = .ok (.i2l, 1) := by decide +kernel
theorem d_Fk_leadsToTarget_53 : decode b_Fk_leadsToTarget 53 = .ok (.lcmp, 1) := by decide +kernel
theorem d_Fk_leadsToTarget_54 : decode b_Fk_leadsToTarget 54 = .ok (.ifCond .gt 24, 3) := by decide +kernel
theorem d_Fk_leadsToTarget_57 : decode b_Fk_leadsToTarget 57 = .ok (.aload_n 0, 1) := by decide +kernel
theorem d_Fk_leadsToTarget_58 : decode b_Fk_leadsToTarget 58 = .ok (.getfield 30, 3) := by decide +kernel
theorem d_Fk_leadsToTarget_61 : decode b_Fk_leadsToTarget 61 = .ok (.i2l, 1) := by decide +kernel
theorem d_Fk_leadsToTarget_62 : decode b_Fk_leadsToTarget 62 = .ok (.aload_n 1, 1) := by decide +kernel
theorem d_Fk_leadsToTarget_63 : decode b_Fk_leadsToTarget 63 = .ok (.aload_n 0, 1) := by decide +kernel
theorem d_Fk_leadsToTarget_64 : decode b_Fk_leadsToTarget 64 = .ok (.getfield 21, 3) := by decide +kernel
theorem d_Fk_leadsToTarget_67 : decode b_Fk_leadsToTarget 67 = .ok (.invokevirtual 33, 3) := by decide +kernel
theorem d_Fk_leadsToTarget_70 : decode b_Fk_leadsToTarget 70 = .ok (.lcmp, 1) := by decide +kernel
theorem d_Fk_leadsToTarget_71 : decode b_Fk_leadsToTarget 71 = .ok (.ifCond .gt 7, 3) := by decide +kernel
theorem d_Fk_leadsToTarget_74 : decode b_Fk_leadsToTarget 74 = .ok (.iconst 1, 1) := by decide +kernel
theorem d_Fk_leadsToTarget_75 : decode b_Fk_leadsToTarget 75 = .ok (.goto 4, 3) := by decide +kernel
theorem d_Fk_leadsToTarget_78 : decode b_Fk_leadsToTarget 78 = .ok (.iconst 0, 1) := by decide +kernel
theorem d_Fk_leadsToTarget_79 : decode b_Fk_leadsToTarget 79 = .ok (.ireturn, 1) := by decide +kernel
theorem d_Fk_leadsToTarget_80 : decode b_Fk_leadsToTarget 80 = .ok (.aload_n 1, 1) := by decide +kernel
theorem d_Fk_leadsToTarget_81 : decode b_Fk_leadsToTarget 81 = .ok (.aload_n 0, 1) := by decide +kernel
theorem d_Fk_leadsToTarget_82 : decode b_Fk_leadsToTarget 82 = .ok (.getfield 21, 3) := by decide +kernel
theorem d_Fk_leadsToTarget_85 : decode b_Fk_leadsToTarget 85 = .ok (.invokevirtual 33, 3) := by decide +kernel
theorem d_Fk_leadsToTarget_88 : decode b_Fk_leadsToTarget 88 = .ok (.aload_n 0, 1) := by decide +kernel
theorem d_Fk_leadsToTarget_89 : decode b_Fk_leadsToTarget 89 = .ok (.getfield 30, 3) := by decide +kernel
theorem d_Fk_leadsToTarget_92 : decode b_Fk_leadsToTarget 92 = .ok (.i2l, 1) := by decide +kernel
theorem d_Fk_leadsToTarget_93 : decode b_Fk_leadsToTarget 93 = .ok (.lcmp, 1) := by decide +kernel
theorem d_Fk_leadsToTarget_94 : decode b_Fk_leadsToTarget 94 = .ok (.ifCond .le 7, 3) := by decide +kernel
theorem d_Fk_leadsToTarget_97 : decode b_Fk_leadsToTarget 97 = .ok (.iconst 1, 1) := by decide +kernel
theorem d_Fk_leadsToTarget_98 : decode b_Fk_leadsToTarget 98 = .ok (.goto 4, 3) := by decide +kernel
theorem d_Fk_leadsToTarget_101 : decode b_Fk_leadsToTarget 101 = .ok (.iconst 0, 1) := by decide +kernel
theorem d_Fk_leadsToTarget_102 : decode b_Fk_leadsToTarget 102 = .ok (.ireturn, 1) := by decide +kernel
theorem d_Fk_leadsToTarget_103 : decode b_Fk_leadsToTarget 103 = .ok (.aload_n 0, 1) := by decide +kernel
theorem d_Fk_leadsToTarget_104 : decode b_Fk_leadsToTarget 104 = .ok (.getfield 21, 3) := by decide +kernel
theorem d_Fk_leadsToTarget_107 : decode b_Fk_leadsToTarget 107 = .ok (.aload_n 0, 1) := by decide +kernel
theorem d_Fk_leadsToTarget_108 : decode b_Fk_leadsToTarget 108 = .ok (.getfield 36, 3) := by decide +kernel
theorem d_Fk_leadsToTarget_111 : decode b_Fk_leadsToTarget 111 = .ok (.if_icmp .eq 27, 3) := by decide +kernel
theorem d_Fk_leadsToTarget_114 : decode b_Fk_leadsToTarget 114 = .ok (.aload_n 1, 1) := by decide +kernel
theorem d_Fk_leadsToTarget_115 : decode b_Fk_leadsToTarget 115 = .ok (.aload_n 0, 1) := by decide +kernel
theorem d_Fk_leadsToTarget_116 : decode b_Fk_leadsToTarget 116 = .ok (.getfield 21, 3) := by decide +kernel
theorem d_Fk_leadsToTarget_119 : decode b_Fk_leadsToTarget 119 = .ok (.invokevirtual 24, 3) := by decide +kernel
theorem d_Fk_leadsToTarget_122 : decode b_Fk_leadsToTarget 122 = .ok (.aload_n 1, 1) := by decide +kernel
theorem d_Fk_leadsToTarget_123 : decode b_Fk_leadsToTarget 123 = .ok (.aload_n 0, 1) := by decide +kernel
theorem d_Fk_leadsToTarget_124 : decode b_Fk_leadsToTarget 124 = .ok (.getfield 36, 3) := by decide +kernel
theorem d_Fk_leadsToTarget_127 : decode b_Fk_leadsToTarget 127 = .ok (.invokevirtual 33, 3) := by decide +kernel
theorem d_Fk_leadsToTarget_130 : decode b_Fk_leadsToTarget 130 = .ok (.lcmp, 1) := by decide +kernel
theorem d_Fk_leadsToTarget_131 : decode b_Fk_leadsToTarget 131 = .ok (.ifCond .ge 7, 3) := by decide +kernel
theorem d_Fk_leadsToTarget_134 : decode b_Fk_leadsToTarget 134 = .ok (.iconst 1, 1) := by decide +kernel
theorem d_Fk_leadsToTarget_135 : decode b_Fk_leadsToTarget 135 = .ok (.goto 4, 3) := by decide +kernel
theorem d_Fk_leadsToTarget_138 : decode b_Fk_leadsToTarget 138 = .ok (.iconst 0, 1) := by decide +kernel
theorem d_Fk_leadsToTarget_139 : decode b_Fk_leadsToTarget 139 = .ok (.ireturn, 1) := by decide +kernel
theorem d_Fk_leadsToTarget_140 : decode b_Fk_leadsToTarget 140 = .ok (.iconst 1, 1) := by decide +kernel
theorem d_Fk_leadsToTarget_141 : decode b_Fk_leadsToTarget 141 = .ok (.ireturn, 1) := by decide +kernel
theorem d_Fk_leadsOn_0 : decode b_Fk_leadsOn 0 = .ok (.aload_n 0, 1) := by decide +kernel
theorem d_Fk_leadsOn_1 : decode b_Fk_leadsOn 1 = .ok (.getfield 9, 3) := by decide +kernel
theorem d_Fk_leadsOn_4 : decode b_Fk_leadsOn 4 = .ok (.tableswitch 136 10 12 #[28, 76, 99], 28) := by decide +kernel
theorem d_Fk_leadsOn_32 : decode b_Fk_leadsOn 32 = .ok (.aload_n 0, 1) := by decide +kernel
theorem d_Fk_leadsOn_33 : decode b_Fk_leadsOn 33 = .ok (.aload_n 1, 1) := by decide +kernel
theorem d_Fk_leadsOn_34 : decode b_Fk_leadsOn 34 = .ok (.invokestatic 15, 3) := by decide +kernel
theorem d_Fk_leadsOn_37 : decode b_Fk_leadsOn 37 = .ok (.ifCond .ne 37, 3) := by decide +kernel
theorem d_Fk_leadsOn_40 : decode b_Fk_leadsOn 40 = .ok (.aload_n 1, 1) := by decide +kernel
theorem d_Fk_leadsOn_41 : decode b_Fk_leadsOn 41 = .ok (.aload_n 0, 1) := by decide +kernel
theorem d_Fk_leadsOn_42 : decode b_Fk_leadsOn 42 = .ok (.getfield 21, 3) := by decide +kernel
theorem d_Fk_leadsOn_45 : decode b_Fk_leadsOn 45 = .ok (.invokevirtual 24, 3) := by decide +kernel
theorem d_Fk_leadsOn_48 : decode b_Fk_leadsOn 48 = .ok (.aload_n 0, 1) := by decide +kernel
theorem d_Fk_leadsOn_49 : decode b_Fk_leadsOn 49 = .ok (.getfield 30, 3) := by decide +kernel
theorem d_Fk_leadsOn_52 : decode b_Fk_leadsOn 52 = .ok (.i2l, 1) := by decide +kernel
theorem d_Fk_leadsOn_53 : decode b_Fk_leadsOn 53 = .ok (.lcmp, 1) := by decide +kernel
theorem d_Fk_leadsOn_54 : decode b_Fk_leadsOn 54 = .ok (.ifCond .ne 20, 3) := by decide +kernel
theorem d_Fk_leadsOn_57 : decode b_Fk_leadsOn 57 = .ok (.aload_n 1, 1) := by decide +kernel
theorem d_Fk_leadsOn_58 : decode b_Fk_leadsOn 58 = .ok (.aload_n 0, 1) := by decide +kernel
theorem d_Fk_leadsOn_59 : decode b_Fk_leadsOn 59 = .ok (.getfield 21, 3) := by decide +kernel
theorem d_Fk_leadsOn_62 : decode b_Fk_leadsOn 62 = .ok (.invokevirtual 33, 3) := by decide +kernel
theorem d_Fk_leadsOn_65 : decode b_Fk_leadsOn 65 = .ok (.aload_n 0, 1) := by decide +kernel
theorem d_Fk_leadsOn_66 : decode b_Fk_leadsOn 66 = .ok (.getfield 30, 3) := by decide +kernel
theorem d_Fk_leadsOn_69 : decode b_Fk_leadsOn 69 = .ok (.i2l, 1) := by decide +kernel
theorem d_Fk_leadsOn_70 : decode b_Fk_leadsOn 70 = .ok (.lcmp, 1) := by decide +kernel
theorem d_Fk_leadsOn_71 : decode b_Fk_leadsOn 71 = .ok (.ifCond .eq 7, 3) := by decide +kernel
theorem d_Fk_leadsOn_74 : decode b_Fk_leadsOn 74 = .ok (.iconst 1, 1) := by decide +kernel
theorem d_Fk_leadsOn_75 : decode b_Fk_leadsOn 75 = .ok (.goto 4, 3) := by decide +kernel
theorem d_Fk_leadsOn_78 : decode b_Fk_leadsOn 78 = .ok (.iconst 0, 1) := by decide +kernel
theorem d_Fk_leadsOn_79 : decode b_Fk_leadsOn 79 = .ok (.ireturn, 1) := by decide +kernel
theorem d_Fk_leadsOn_80 : decode b_Fk_leadsOn 80 = .ok (.aload_n 1, 1) := by decide +kernel
theorem d_Fk_leadsOn_81 : decode b_Fk_leadsOn 81 = .ok (.aload_n 0, 1) := by decide +kernel
theorem d_Fk_leadsOn_82 : decode b_Fk_leadsOn 82 = .ok (.getfield 21, 3) := by decide +kernel
theorem d_Fk_leadsOn_85 : decode b_Fk_leadsOn 85 = .ok (.invokevirtual 24, 3) := by decide +kernel
theorem d_Fk_leadsOn_88 : decode b_Fk_leadsOn 88 = .ok (.aload_n 0, 1) := by decide +kernel
theorem d_Fk_leadsOn_89 : decode b_Fk_leadsOn 89 = .ok (.getfield 30, 3) := by decide +kernel
theorem d_Fk_leadsOn_92 : decode b_Fk_leadsOn 92 = .ok (.i2l, 1) := by decide +kernel
theorem d_Fk_leadsOn_93 : decode b_Fk_leadsOn 93 = .ok (.lcmp, 1) := by decide +kernel
theorem d_Fk_leadsOn_94 : decode b_Fk_leadsOn 94 = .ok (.ifCond .gt 7, 3) := by decide +kernel
theorem d_Fk_leadsOn_97 : decode b_Fk_leadsOn 97 = .ok (.iconst 1, 1) := by decide +kernel
theorem d_Fk_leadsOn_98 : decode b_Fk_leadsOn 98 = .ok (.goto 4, 3) := by decide +kernel
theorem d_Fk_leadsOn_101 : decode b_Fk_leadsOn 101 = .ok (.iconst 0, 1) := by decide +kernel
theorem d_Fk_leadsOn_102 : decode b_Fk_leadsOn 102 = .ok (.ireturn, 1) := by decide +kernel
theorem d_Fk_leadsOn_103 : decode b_Fk_leadsOn 103 = .ok (.aload_n 0, 1) := by decide +kernel
theorem d_Fk_leadsOn_104 : decode b_Fk_leadsOn 104 = .ok (.getfield 21, 3) := by decide +kernel
theorem d_Fk_leadsOn_107 : decode b_Fk_leadsOn 107 = .ok (.aload_n 0, 1) := by decide +kernel
theorem d_Fk_leadsOn_108 : decode b_Fk_leadsOn 108 = .ok (.getfield 36, 3) := by decide +kernel
theorem d_Fk_leadsOn_111 : decode b_Fk_leadsOn 111 = .ok (.if_icmp .eq 23, 3) := by decide +kernel
theorem d_Fk_leadsOn_114 : decode b_Fk_leadsOn 114 = .ok (.aload_n 1, 1) := by decide +kernel
theorem d_Fk_leadsOn_115 : decode b_Fk_leadsOn 115 = .ok (.aload_n 0, 1) := by decide +kernel
theorem d_Fk_leadsOn_116 : decode b_Fk_leadsOn 116 = .ok (.getfield 21, 3) := by decide +kernel
theorem d_Fk_leadsOn_119 : decode b_Fk_leadsOn 119 = .ok (.invokevirtual 33, 3) := by decide +kernel
theorem d_Fk_leadsOn_122 : decode b_Fk_leadsOn 122 = .ok (.aload_n 1, 1) := by decide +kernel
theorem d_Fk_leadsOn_123 : decode b_Fk_leadsOn 123 = .ok (.aload_n 0, 1) := by decide +kernel
theorem d_Fk_leadsOn_124 : decode b_Fk_leadsOn 124 = .ok (.getfield 36, 3) := by decide +kernel
theorem d_Fk_leadsOn_127 : decode b_Fk_leadsOn 127 = .ok (.invokevirtual 24, 3) := by decide +kernel
theorem d_Fk_leadsOn_130 : decode b_Fk_leadsOn 130 = .ok (.lcmp, 1) := by decide +kernel
theorem d_Fk_leadsOn_131 : decode b_Fk_leadsOn 131 = .ok (.ifCond .lt 7, 3) := by decide +kernel
theorem d_Fk_leadsOn_134 : decode b_Fk_leadsOn 134 = .ok (.iconst 1, 1) := by decide +kernel
theorem d_Fk_leadsOn_135 : decode b_Fk_leadsOn 135 = .ok (.goto 4, 3) := by decide +kernel
theorem d_Fk_leadsOn_138 : decode b_Fk_leadsOn 138 = .ok (.iconst 0, 1) := by decide +kernel
theorem d_Fk_leadsOn_139 : decode b_Fk_leadsOn 139 = .ok (.ireturn, 1) := by decide +kernel
theorem d_Fk_leadsOn_140 : decode b_Fk_leadsOn 140 = .ok (.iconst 0, 1) := by decide +kernel
theorem d_Fk_leadsOn_141 : decode b_Fk_leadsOn 141 = .ok (.ireturn, 1) := by decide +kernel
theorem d_Fk_goToTarget_0 : decode b_Fk_goToTarget 0 = .ok (.aload_n 0, 1) := by decide +kernel
theorem d_Fk_goToTarget_1 : decode b_Fk_goToTarget 1 = .ok (.getfield 21, 3) := by decide +kernel
theorem d_Fk_goToTarget_4 : decode b_Fk_goToTarget 4 = .ok (.istore_n 2, 1) := by decide +kernel
theorem d_Fk_goToTarget_5 : decode b_Fk_goToTarget 5 = .ok (.aload_n 0, 1) := by decide +kernel
theorem d_Fk_goToTarget_6 : decode b_Fk_goToTarget 6 = .ok (.getfield 30, 3) := by decide +kernel
theorem d_Fk_goToTarget_9 : decode b_Fk_goToTarget 9 = .ok (.i2l, 1) := by decide +kernel
theorem d_Fk_goToTarget_10 : decode b_Fk_goToTarget 10 = .ok (.lstore_n 3, 1) := by decide +kernel
theorem d_Fk_goToTarget_11 : decode b_Fk_goToTarget 11 = .ok (.aload_n 0, 1) := by decide +kernel
theorem d_Fk_goToTarget_12 : decode b_Fk_goToTarget 12 = .ok (.getfield 9, 3) := by decide +kernel
theorem d_Fk_goToTarget_15 : decode b_Fk_goToTarget 15 = .ok (.bipush 10, 2) := by decide +kernel
theorem d_Fk_goToTarget_17 : decode b_Fk_goToTarget 17 = .ok (.if_icmp .ne 13, 3) := by decide +kernel
theorem d_Fk_goToTarget_20 : decode b_Fk_goToTarget 20 = .ok (.aload_n 1, 1) := by decide +kernel
theorem d_Fk_goToTarget_21 : decode b_Fk_goToTarget 21 = .ok (.iload_n 2, 1) := by decide +kernel
theorem d_Fk_goToTarget_22 : decode b_Fk_goToTarget 22 = .ok (.lload_n 3, 1) := by decide +kernel
theorem d_Fk_goToTarget_23 : decode b_Fk_goToTarget 23 = .ok (.lload_n 3, 1) := by decide +kernel
theorem d_Fk_goToTarget_24 : decode b_Fk_goToTarget 24 = .ok (.invokevirtual 39, 3) := by decide +kernel
theorem d_Fk_goToTarget_27 : decode b_Fk_goToTarget 27 = .ok (.goto 106, 3) := by decide +kernel
theorem d_Fk_goToTarget_30 : decode b_Fk_goToTarget 30 = .ok (.aload_n 0, 1) := by decide +kernel
theorem d_Fk_goToTarget_31 : decode b_Fk_goToTarget 31 = .ok (.getfield 9, 3) := by decide +kernel
theorem d_Fk_goToTarget_34 : decode b_Fk_goToTarget 34 = .ok (.bipush 11, 2) := by decide +kernel
theorem d_Fk_goToTarget_36 : decode b_Fk_goToTarget 36 = .ok (.if_icmp .ne 27, 3) := by decide +kernel
theorem d_Fk_goToTarget_39 : decode b_Fk_goToTarget 39 = .ok (.aload_n 1, 1) := by decide +kernel
theorem d_Fk_goToTarget_40 : decode b_Fk_goToTarget 40 = .ok (.iload_n 2, 1) := by decide +kernel
theorem d_Fk_goToTarget_41 : decode b_Fk_goToTarget 41 = .ok (.aload_n 1, 1) := by decide +kernel
theorem d_Fk_goToTarget_42 : decode b_Fk_goToTarget 42 = .ok (.iload_n 2, 1) := by decide +kernel
theorem d_Fk_goToTarget_43 : decode b_Fk_goToTarget 43 = .ok (.invokevirtual 24, 3) := by decide +kernel
theorem d_Fk_goToTarget_46 : decode b_Fk_goToTarget 46 = .ok (.lload_n 3, 1) := by decide +kernel
theorem d_Fk_goToTarget_47 : decode b_Fk_goToTarget 47 = .ok (.lconst 1, 1) := by decide +kernel
theorem d_Fk_goToTarget_48 : decode b_Fk_goToTarget 48 = .ok (.ladd, 1) := by decide +kernel
theorem d_Fk_goToTarget_49 : decode b_Fk_goToTarget 49 = .ok (.invokestatic 43, 3) := by decide +kernel
theorem d_Fk_goToTarget_52 : decode b_Fk_goToTarget 52 = .ok (.aload_n 1, 1) := by decide +kernel
theorem d_Fk_goToTarget_53 : decode b_Fk_goToTarget 53 = .ok (.iload_n 2, 1) := by decide +kernel
theorem d_Fk_goToTarget_54 : decode b_Fk_goToTarget 54 = .ok (.invokevirtual 33, 3) := by decide +kernel
theorem d_Fk_goToTarget_57 : decode b_Fk_goToTarget 57 = .ok (.invokevirtual 39, 3) := by decide +kernel
theorem d_Fk_goToTarget_60 : decode b_Fk_goToTarget 60 = .ok (.goto 73, 3) := by decide +kernel
theorem d_Fk_goToTarget_63 : decode b_Fk_goToTarget 63 = .ok (.aload_n 0, 1) := by decide +kernel
theorem d_Fk_goToTarget_64 : decode b_Fk_goToTarget 64 = .ok (.getfield 9, 3) := by decide +kernel
theorem d_Fk_goToTarget_67 : decode b_Fk_goToTarget 67 = .ok (.bipush 12, 2) := by decide +kernel
theorem d_Fk_goToTarget_69 : decode b_Fk_goToTarget 69 = .ok (.if_icmp .ne 64, 3) := by decide +kernel
theorem d_Fk_goToTarget_72 : decode b_Fk_goToTarget 72 = .ok (.aload_n 1, 1) := by decide +kernel
theorem d_Fk_goToTarget_73 : decode b_Fk_goToTarget 73 = .ok (.iload_n 2, 1) := by decide +kernel
theorem d_Fk_goToTarget_74 : decode b_Fk_goToTarget 74 = .ok (.invokevirtual 24, 3) := by decide +kernel
theorem d_Fk_goToTarget_77 : decode b_Fk_goToTarget 77 = .ok (.lstore 5, 2) := by decide +kernel
theorem d_Fk_goToTarget_79 : decode b_Fk_goToTarget 79 = .ok (.aload_n 1, 1) := by decide +kernel
theorem d_Fk_goToTarget_80 : decode b_Fk_goToTarget 80 = .ok (.aload_n 0, 1) := by decide +kernel
theorem d_Fk_goToTarget_81 : decode b_Fk_goToTarget 81 = .ok (.getfield 36, 3) := by decide +kernel
theorem d_Fk_goToTarget_84 : decode b_Fk_goToTarget 84 = .ok (.invokevirtual 33, 3) := by decide +kernel
theorem d_Fk_goToTarget_87 : decode b_Fk_goToTarget 87 = .ok (.lstore 7, 2) := by decide +kernel
theorem d_Fk_goToTarget_89 : decode b_Fk_goToTarget 89 = .ok (.aload_n 1, 1) := by decide +kernel
theorem d_Fk_goToTarget_90 : decode b_Fk_goToTarget 90 = .ok (.iload_n 2, 1) := by decide +kernel
theorem d_Fk_goToTarget_91 : decode b_Fk_goToTarget 91 = .ok (.lload 5, 2) := by decide +kernel
theorem d_Fk_goToTarget_93 : decode b_Fk_goToTarget 93 = .ok (.aload_n 1, 1) := by decide +kernel
theorem d_Fk_goToTarget_94 : decode b_Fk_goToTarget 94 = .ok (.iload_n 2, 1) := by decide +kernel
theorem d_Fk_goToTarget_95 : decode b_Fk_goToTarget 95 = .ok (.invokevirtual 33, 3) := by decide +kernel
theorem d_Fk_goToTarget_98 : decode b_Fk_goToTarget 98 = .ok (.lload 7, 2) := by decide +kernel
theorem d_Fk_goToTarget_100 : decode b_Fk_goToTarget 100 = .ok (.lconst 1, 1) := by decide +kernel
theorem d_Fk_goToTarget_101 : decode b_Fk_goToTarget 101 = .ok (.lsub, 1) := by decide +kernel
theorem d_Fk_goToTarget_102 : decode b_Fk_goToTarget 102 = .ok (.invokestatic 49, 3) := by decide +kernel
theorem d_Fk_goToTarget_105 : decode b_Fk_goToTarget 105 = .ok (.invokevirtual 39, 3) := by decide +kernel
theorem d_Fk_goToTarget_108 : decode b_Fk_goToTarget 108 = .ok (.aload_n 1, 1) := by decide +kernel
theorem d_Fk_goToTarget_109 : decode b_Fk_goToTarget 109 = .ok (.aload_n 0, 1) := by decide +kernel
theorem d_Fk_goToTarget_110 : decode b_Fk_goToTarget 110 = .ok (.getfield 36, 3) := by decide +kernel
theorem d_Fk_goToTarget_113 : decode b_Fk_goToTarget 113 = .ok (.aload_n 1, 1) := by decide +kernel
theorem d_Fk_goToTarget_114 : decode b_Fk_goToTarget 114 = .ok (.aload_n 0, 1) := by decide +kernel
theorem d_Fk_goToTarget_115 : decode b_Fk_goToTarget 115 = .ok (.getfield 36, 3) := by decide +kernel
theorem d_Fk_goToTarget_118 : decode b_Fk_goToTarget 118 = .ok (.invokevirtual 24, 3) := by decide +kernel
theorem d_Fk_goToTarget_121 : decode b_Fk_goToTarget 121 = .ok (.lload 5, 2) := by decide +kernel
theorem d_Fk_goToTarget_123 : decode b_Fk_goToTarget 123 = .ok (.lconst 1, 1) := by decide +kernel
theorem d_Fk_goToTarget_124 : decode b_Fk_goToTarget 124 = .ok (.ladd, 1) := by decide +kernel
theorem d_Fk_goToTarget_125 : decode b_Fk_goToTarget 125 = .ok (.invokestatic 43, 3) := by decide +kernel
theorem d_Fk_goToTarget_128 : decode b_Fk_goToTarget 128 = .ok (.lload 7, 2) := by decide +kernel
theorem d_Fk_goToTarget_130 : decode b_Fk_goToTarget 130 = .ok (.invokevirtual 39, 3) := by decide +kernel
theorem d_Fk_goToTarget_133 : decode b_Fk_goToTarget 133 = .ok (.return_, 1) := by decide +kernel
theorem d_Fk_goOn_0 : decode b_Fk_goOn 0 = .ok (.aload_n 0, 1) := by decide +kernel
theorem d_Fk_goOn_1 : decode b_Fk_goOn 1 = .ok (.getfield 21, 3) := by decide +kernel
theorem d_Fk_goOn_4 : decode b_Fk_goOn 4 = .ok (.istore_n 2, 1) := by decide +kernel
theorem d_Fk_goOn_5 : decode b_Fk_goOn 5 = .ok (.aload_n 0, 1) := by decide +kernel
theorem d_Fk_goOn_6 : decode b_Fk_goOn 6 = .ok (.getfield 30, 3) := by decide +kernel
theorem d_Fk_goOn_9 : decode b_Fk_goOn 9 = .ok (.i2l, 1) := by decide +kernel
theorem d_Fk_goOn_10 : decode b_Fk_goOn 10 = .ok (.lstore_n 3, 1) := by decide +kernel
theorem d_Fk_goOn_11 : decode b_Fk_goOn 11 = .ok (.aload_n 0, 1) := by decide +kernel
theorem d_Fk_goOn_12 : decode b_Fk_goOn 12 = .ok (.getfield 9, 3) := by decide +kernel
theorem d_Fk_goOn_15 : decode b_Fk_goOn 15 = .ok (.bipush 10, 2) := by decide +kernel
theorem d_Fk_goOn_17 : decode b_Fk_goOn 17 = .ok (.if_icmp .ne 22, 3) := by decide +kernel
theorem d_Fk_goOn_20 : decode b_Fk_goOn 20 = .ok (.aload_n 0, 1) := by decide +kernel
theorem d_Fk_goOn_21 : decode b_Fk_goOn 21 = .ok (.aload_n 1, 1) := by decide +kernel
theorem d_Fk_goOn_22 : decode b_Fk_goOn 22 = .ok (.invokestatic 15, 3) := by decide +kernel
theorem d_Fk_goOn_25 : decode b_Fk_goOn 25 = .ok (.ifCond .eq 14, 3) := by decide +kernel
theorem d_Fk_goOn_28 : decode b_Fk_goOn 28 = .ok (.aload_n 1, 1) := by decide +kernel
theorem d_Fk_goOn_29 : decode b_Fk_goOn 29 = .ok (.iload_n 2, 1) := by decide +kernel
theorem d_Fk_goOn_30 : decode b_Fk_goOn 30 = .ok (.iconst 3, 1) := by decide +kernel
theorem d_Fk_goOn_31 : decode b_Fk_goOn 31 = .ok (.lconst 0, 1) := by decide +kernel
theorem d_Fk_goOn_32 : decode b_Fk_goOn 32 = .ok (.lconst 0, 1) := by decide +kernel
theorem d_Fk_goOn_33 : decode b_Fk_goOn 33 = .ok (.invokevirtual 52, 3) := by decide +kernel
theorem d_Fk_goOn_36 : decode b_Fk_goOn 36 = .ok (.goto 167, 3) := by decide +kernel
theorem d_Fk_goOn_39 : decode b_Fk_goOn 39 = .ok (.aload_n 0, 1) := by decide +kernel
theorem d_Fk_goOn_40 : decode b_Fk_goOn 40 = .ok (.getfield 9, 3) := by decide +kernel
theorem d_Fk_goOn_43 : decode b_Fk_goOn 43 = .ok (.bipush 10, 2) := by decide +kernel
theorem d_Fk_goOn_45 : decode b_Fk_goOn 45 = .ok (.if_icmp .ne 53, 3) := by decide +kernel
theorem d_Fk_goOn_48 : decode b_Fk_goOn 48 = .ok (.aload_n 1, 1) := by decide +kernel
theorem d_Fk_goOn_49 : decode b_Fk_goOn 49 = .ok (.iload_n 2, 1) := by decide +kernel
theorem d_Fk_goOn_50 : decode b_Fk_goOn 50 = .ok (.aload_n 1, 1) := by decide +kernel
theorem d_Fk_goOn_51 : decode b_Fk_goOn 51 = .ok (.iload_n 2, 1) := by decide +kernel
theorem d_Fk_goOn_52 : decode b_Fk_goOn 52 = .ok (.invokevirtual 24, 3) := by decide +kernel
theorem d_Fk_goOn_55 : decode b_Fk_goOn 55 = .ok (.lload_n 3, 1) := by decide +kernel
theorem d_Fk_goOn_56 : decode b_Fk_goOn 56 = .ok (.lcmp, 1) := by decide +kernel
theorem d_Fk_goOn_57 : decode b_Fk_goOn 57 = .ok (.ifCond .ne 9, 3) := by decide +kernel
theorem d_Fk_goOn_60 : decode b_Fk_goOn 60 = .ok (.lload_n 3, 1) := by decide +kernel
theorem d_Fk_goOn_61 : decode b_Fk_goOn 61 = .ok (.lconst 1, 1) := by decide +kernel
theorem d_Fk_goOn_62 : decode b_Fk_goOn 62 = .ok (.ladd, 1) := by decide +kernel
theorem d_Fk_goOn_63 : decode b_Fk_goOn 63 = .ok (.goto 8, 3) := by decide +kernel
theorem d_Fk_goOn_66 : decode b_Fk_goOn 66 = .ok (.aload_n 1, 1) := by decide +kernel
theorem d_Fk_goOn_67 : decode b_Fk_goOn 67 = .ok (.iload_n 2, 1) := by decide +kernel
theorem d_Fk_goOn_68 : decode b_Fk_goOn 68 = .ok (.invokevirtual 24, 3) := by decide +kernel
theorem d_Fk_goOn_71 : decode b_Fk_goOn 71 = .ok (.aload_n 1, 1) := by decide +kernel
theorem d_Fk_goOn_72 : decode b_Fk_goOn 72 = .ok (.iload_n 2, 1) := by decide +kernel
theorem d_Fk_goOn_73 : decode b_Fk_goOn 73 = .ok (.invokevirtual 33, 3) := by decide +kernel
theorem d_Fk_goOn_76 : decode b_Fk_goOn 76 = .ok (.lload_n 3, 1) := by decide +kernel
theorem d_Fk_goOn_77 : decode b_Fk_goOn 77 = .ok (.lcmp, 1) := by decide +kernel
theorem d_Fk_goOn_78 : decode b_Fk_goOn 78 = .ok (.ifCond .ne 9, 3) := by decide +kernel
theorem d_Fk_goOn_81 : decode b_Fk_goOn 81 = .ok (.lload_n 3, 1) := by decide +kernel
theorem d_Fk_goOn_82 : decode b_Fk_goOn 82 = .ok (.lconst 1, 1) := by decide +kernel
theorem d_Fk_goOn_83 : decode b_Fk_goOn 83 = .ok (.lsub, 1) := by decide +kernel
theorem d_Fk_goOn_84 : decode b_Fk_goOn 84 = .ok (.goto 8, 3) := by decide +kernel
theorem d_Fk_goOn_87 : decode b_Fk_goOn 87 = .ok (.aload_n 1, 1) := by decide +kernel
theorem d_Fk_goOn_88 : decode b_Fk_goOn 88 = .ok (.iload_n 2, 1) := by decide +kernel
theorem d_Fk_goOn_89 : decode b_Fk_goOn 89 = .ok (.invokevirtual 33, 3) := by decide +kernel
theorem d_Fk_goOn_92 : decode b_Fk_goOn 92 = .ok (.invokevirtual 39, 3) := by decide +kernel
theorem d_Fk_goOn_95 : decode b_Fk_goOn 95 = .ok (.goto 108, 3) := by decide +kernel
theorem d_Fk_goOn_98 : decode b_Fk_goOn 98 = .ok (.aload_n 0, 1) := by decide +kernel
theorem d_Fk_goOn_99 : decode b_Fk_goOn 99 = .ok (.getfield 9, 3) := by decide +kernel
theorem d_Fk_goOn_102 : decode b_Fk_goOn 102 = .ok (.bipush 11, 2) := by decide +kernel
theorem d_Fk_goOn_104 : decode b_Fk_goOn 104 = .ok (.if_icmp .ne 25, 3) := by decide +kernel
theorem d_Fk_goOn_107 : decode b_Fk_goOn 107 = .ok (.aload_n 1, 1) := by decide +kernel
theorem d_Fk_goOn_108 : decode b_Fk_goOn 108 = .ok (.iload_n 2, 1) := by decide +kernel
theorem d_Fk_goOn_109 : decode b_Fk_goOn 109 = .ok (.aload_n 1, 1) := by decide +kernel
theorem d_Fk_goOn_110 : decode b_Fk_goOn 110 = .ok (.iload_n 2, 1) := by decide +kernel
theorem d_Fk_goOn_111 : decode b_Fk_goOn 111 = .ok (.invokevirtual 24, 3) := by decide +kernel
theorem d_Fk_goOn_114 : decode b_Fk_goOn 114 = .ok (.aload_n 1, 1) := by decide +kernel
theorem d_Fk_goOn_115 : decode b_Fk_goOn 115 = .ok (.iload_n 2, 1) := by decide +kernel
theorem d_Fk_goOn_116 : decode b_Fk_goOn 116 = .ok (.invokevirtual 33, 3) := by decide +kernel
theorem d_Fk_goOn_119 : decode b_Fk_goOn 119 = .ok (.lload_n 3, 1) := by decide +kernel
theorem d_Fk_goOn_120 : decode b_Fk_goOn 120 = .ok (.invokestatic 49, 3) := by decide +kernel
theorem d_Fk_goOn_123 : decode b_Fk_goOn 123 = .ok (.invokevirtual 39, 3) := by decide +kernel
theorem d_Fk_goOn_126 : decode b_Fk_goOn 126 = .ok (.goto 77, 3) := by decide +kernel
theorem d_Fk_goOn_129 : decode b_Fk_goOn 129 = .ok (.aload_n 0, 1) := by decide +kernel
theorem d_Fk_goOn_130 : decode b_Fk_goOn 130 = .ok (.getfield 9, 3) := by decide +kernel
theorem d_Fk_goOn_133 : decode b_Fk_goOn 133 = .ok (.bipush 12, 2) := by decide +kernel
theorem d_Fk_goOn_135 : decode b_Fk_goOn 135 = .ok (.if_icmp .ne 68, 3) := by decide +kernel
theorem d_Fk_goOn_138 : decode b_Fk_goOn 138 = .ok (.iload_n 2, 1) := by decide +kernel
theorem d_Fk_goOn_139 : decode b_Fk_goOn 139 = .ok (.aload_n 0, 1) := by decide +kernel
theorem d_Fk_goOn_140 : decode b_Fk_goOn 140 = .ok (.getfield 36, 3) := by decide +kernel
theorem d_Fk_goOn_143 : decode b_Fk_goOn 143 = .ok (.if_icmp .eq 60, 3) := by decide +kernel
theorem d_Fk_goOn_146 : decode b_Fk_goOn 146 = .ok (.aload_n 1, 1) := by decide +kernel
theorem d_Fk_goOn_147 : decode b_Fk_goOn 147 = .ok (.iload_n 2, 1) := by decide +kernel
theorem d_Fk_goOn_148 : decode b_Fk_goOn 148 = .ok (.invokevirtual 33, 3) := by decide +kernel
theorem d_Fk_goOn_151 : decode b_Fk_goOn 151 = .ok (.lstore 5, 2) := by decide +kernel
theorem d_Fk_goOn_153 : decode b_Fk_goOn 153 = .ok (.aload_n 1, 1) := by decide +kernel
theorem d_Fk_goOn_154 : decode b_Fk_goOn 154 = .ok (.aload_n 0, 1) := by decide +kernel
theorem d_Fk_goOn_155 : decode b_Fk_goOn 155 = .ok (.getfield 36, 3) := by decide +kernel
theorem d_Fk_goOn_158 : decode b_Fk_goOn 158 = .ok (.invokevirtual 24, 3) := by decide +kernel
theorem d_Fk_goOn_161 : decode b_Fk_goOn 161 = .ok (.lstore 7, 2) := by decide +kernel
theorem d_Fk_goOn_163 : decode b_Fk_goOn 163 = .ok (.aload_n 1, 1) := by decide +kernel
theorem d_Fk_goOn_164 : decode b_Fk_goOn 164 = .ok (.iload_n 2, 1) := by decide +kernel
theorem d_Fk_goOn_165 : decode b_Fk_goOn 165 = .ok (.aload_n 1, 1) := by decide +kernel
theorem d_Fk_goOn_166 : decode b_Fk_goOn 166 = .ok (.iload_n 2, 1) := by decide +kernel
theorem d_Fk_goOn_167 : decode b_Fk_goOn 167 = .ok (.invokevirtual 24, 3) := by decide +kernel
theorem d_Fk_goOn_170 : decode b_Fk_goOn 170 = .ok (.lload 7, 2) := by decide +kernel
theorem d_Fk_goOn_172 : decode b_Fk_goOn 172 = .ok (.invokestatic 43, 3) := by decide +kernel
theorem d_Fk_goOn_175 : decode b_Fk_goOn 175 = .ok (.lload 5, 2) := by decide +kernel
theorem d_Fk_goOn_177 : decode b_Fk_goOn 177 = .ok (.invokevirtual 39, 3) := by decide +kernel
theorem d_Fk_goOn_180 : decode b_Fk_goOn 180 = .ok (.aload_n 1, 1) := by decide +kernel
theorem d_Fk_goOn_181 : decode b_Fk_goOn 181 = .ok (.aload_n 0, 1) := by decide +kernel
theorem d_Fk_goOn_182 : decode b_Fk_goOn 182 = .ok (.getfield 36, 3) := by decide +kernel
theorem d_Fk_goOn_185 : decode b_Fk_goOn 185 = .ok (.lload 7, 2) := by decide +kernel
theorem d_Fk_goOn_187 : decode b_Fk_goOn 187 = .ok (.aload_n 1, 1) := by decide +kernel
theorem d_Fk_goOn_188 : decode b_Fk_goOn 188 = .ok (.aload_n 0, 1) := by decide +kernel
theorem d_Fk_goOn_189 : decode b_Fk_goOn 189 = .ok (.getfield 36, 3) := by decide +kernel
theorem d_Fk_goOn_192 : decode b_Fk_goOn 192 = .ok (.invokevirtual 33, 3) := by decide +kernel
theorem d_Fk_goOn_195 : decode b_Fk_goOn 195 = .ok (.lload 5, 2) := by decide +kernel
theorem d_Fk_goOn_197 : decode b_Fk_goOn 197 = .ok (.invokestatic 49, 3) := by decide +kernel
theorem d_Fk_goOn_200 : decode b_Fk_goOn 200 = .ok (.invokevirtual 39, 3) := by decide +kernel
theorem d_Fk_goOn_203 : decode b_Fk_goOn 203 = .ok (.return_, 1) := by decide +kernel
theorem d_Fk_isMaybe_0 : decode b_Fk_isMaybe 0 = .ok (.aload_n 1, 1) := by decide +kernel
theorem d_Fk_isMaybe_1 : decode b_Fk_isMaybe 1 = .ok (.aload_n 0, 1) := by decide +kernel
theorem d_Fk_isMaybe_2 : decode b_Fk_isMaybe 2 = .ok (.getfield 21, 3) := by decide +kernel
theorem d_Fk_isMaybe_5 : decode b_Fk_isMaybe 5 = .ok (.invokevirtual 56, 3) := by decide +kernel
theorem d_Fk_isMaybe_8 : decode b_Fk_isMaybe 8 = .ok (.iconst 4, 1) := by decide +kernel
theorem d_Fk_isMaybe_9 : decode b_Fk_isMaybe 9 = .ok (.if_icmp .ne 7, 3) := by decide +kernel
theorem d_Fk_isMaybe_12 : decode b_Fk_isMaybe 12 = .ok (.iconst 1, 1) := by decide +kernel
theorem d_Fk_isMaybe_13 : decode b_Fk_isMaybe 13 = .ok (.goto 4, 3) := by decide +kernel
theorem d_Fk_isMaybe_16 : decode b_Fk_isMaybe 16 = .ok (.iconst 0, 1) := by decide +kernel
theorem d_Fk_isMaybe_17 : decode b_Fk_isMaybe 17 = .ok (.ireturn, 1) := by decide +kernel
theorem d_Gs_init_0 : decode b_Gs_init 0 = .ok (.aload_n 0, 1) := by decide +kernel
theorem d_Gs_init_1 : decode b_Gs_init 1 = .ok (.invokespecial 3, 3) := by decide +kernel
theorem d_Gs_init_4 : decode b_Gs_init 4 = .ok (.aload_n 0, 1) := by decide +kernel
theorem d_Gs_init_5 : decode b_Gs_init 5 = .ok (.bipush 12, 2) := by decide +kernel
theorem d_Gs_init_7 : decode b_Gs_init 7 = .ok (.newarray .int, 2) := by decide +kernel
theorem d_Gs_init_9 : decode b_Gs_init 9 = .ok (.putfield 9, 3) := by decide +kernel
theorem d_Gs_init_12 : decode b_Gs_init 12 = .ok (.aload_n 0, 1) := by decide +kernel
theorem d_Gs_init_13 : decode b_Gs_init 13 = .ok (.bipush 12, 2) := by decide +kernel
theorem d_Gs_init_15 : decode b_Gs_init 15 = .ok (.newarray .long, 2) := by decide +kernel
theorem d_Gs_init_17 : decode b_Gs_init 17 = .ok (.putfield 15, 3) := by decide +kernel
theorem d_Gs_init_20 : decode b_Gs_init 20 = .ok (.aload_n 0, 1) := by decide +kernel
theorem d_Gs_init_21 : decode b_Gs_init 21 = .ok (.bipush 12, 2) := by decide +kernel
theorem d_Gs_init_23 : decode b_Gs_init 23 = .ok (.newarray .long, 2) := by decide +kernel
theorem d_Gs_init_25 : decode b_Gs_init 25 = .ok (.putfield 19, 3) := by decide +kernel
theorem d_Gs_init_28 : decode b_Gs_init 28 = .ok (.return_, 1) := by decide +kernel
theorem d_Gs_begin_0 : decode b_Gs_begin 0 = .ok (.iconst 0, 1) := by decide +kernel
theorem d_Gs_begin_1 : decode b_Gs_begin 1 = .ok (.istore_n 1, 1) := by decide +kernel
theorem d_Gs_begin_2 : decode b_Gs_begin 2 = .ok (.iload_n 1, 1) := by decide +kernel
theorem d_Gs_begin_3 : decode b_Gs_begin 3 = .ok (.bipush 12, 2) := by decide +kernel
theorem d_Gs_begin_5 : decode b_Gs_begin 5 = .ok (.if_icmp .ge 14, 3) := by decide +kernel
theorem d_Gs_begin_8 : decode b_Gs_begin 8 = .ok (.aload_n 0, 1) := by decide +kernel
theorem d_Gs_begin_9 : decode b_Gs_begin 9 = .ok (.iload_n 1, 1) := by decide +kernel
theorem d_Gs_begin_10 : decode b_Gs_begin 10 = .ok (.invokevirtual 22, 3) := by decide +kernel
theorem d_Gs_begin_13 : decode b_Gs_begin 13 = .ok (.iinc 1 1, 3) := by decide +kernel
theorem d_Gs_begin_16 : decode b_Gs_begin 16 = .ok (.goto (-14), 3) := by decide +kernel
theorem d_Gs_begin_19 : decode b_Gs_begin 19 = .ok (.aload_n 0, 1) := by decide +kernel
theorem d_Gs_begin_20 : decode b_Gs_begin 20 = .ok (.iconst 1, 1) := by decide +kernel
theorem d_Gs_begin_21 : decode b_Gs_begin 21 = .ok (.invokevirtual 26, 3) := by decide +kernel
theorem d_Gs_begin_24 : decode b_Gs_begin 24 = .ok (.aload_n 0, 1) := by decide +kernel
theorem d_Gs_begin_25 : decode b_Gs_begin 25 = .ok (.iconst 2, 1) := by decide +kernel
theorem d_Gs_begin_26 : decode b_Gs_begin 26 = .ok (.iconst 2, 1) := by decide +kernel
theorem d_Gs_begin_27 : decode b_Gs_begin 27 = .ok (.lconst 0, 1) := by decide +kernel
theorem d_Gs_begin_28 : decode b_Gs_begin 28 = .ok (.lconst 0, 1) := by decide +kernel
theorem d_Gs_begin_29 : decode b_Gs_begin 29 = .ok (.invokevirtual 29, 3) := by decide +kernel
theorem d_Gs_begin_32 : decode b_Gs_begin 32 = .ok (.return_, 1) := by decide +kernel
theorem d_Gs_become_0 : decode b_Gs_become 0 = .ok (.aload_n 1, 1) := by decide +kernel
theorem d_Gs_become_1 : decode b_Gs_become 1 = .ok (.getfield 9, 3) := by decide +kernel
theorem d_Gs_become_4 : decode b_Gs_become 4 = .ok (.iconst 0, 1) := by decide +kernel
theorem d_Gs_become_5 : decode b_Gs_become 5 = .ok (.aload_n 0, 1) := by decide +kernel
theorem d_Gs_become_6 : decode b_Gs_become 6 = .ok (.getfield 9, 3) := by decide +kernel
theorem d_Gs_become_9 : decode b_Gs_become 9 = .ok (.iconst 0, 1) := by decide +kernel
theorem d_Gs_become_10 : decode b_Gs_become 10 = .ok (.bipush 12, 2) := by decide +kernel
theorem d_Gs_become_12 : decode b_Gs_become 12 = .ok (.invokestatic 33, 3) := by decide +kernel
theorem d_Gs_become_15 : decode b_Gs_become 15 = .ok (.aload_n 1, 1) := by decide +kernel
theorem d_Gs_become_16 : decode b_Gs_become 16 = .ok (.getfield 15, 3) := by decide +kernel
theorem d_Gs_become_19 : decode b_Gs_become 19 = .ok (.iconst 0, 1) := by decide +kernel
theorem d_Gs_become_20 : decode b_Gs_become 20 = .ok (.aload_n 0, 1) := by decide +kernel
theorem d_Gs_become_21 : decode b_Gs_become 21 = .ok (.getfield 15, 3) := by decide +kernel
theorem d_Gs_become_24 : decode b_Gs_become 24 = .ok (.iconst 0, 1) := by decide +kernel
theorem d_Gs_become_25 : decode b_Gs_become 25 = .ok (.bipush 12, 2) := by decide +kernel
theorem d_Gs_become_27 : decode b_Gs_become 27 = .ok (.invokestatic 33, 3) := by decide +kernel
theorem d_Gs_become_30 : decode b_Gs_become 30 = .ok (.aload_n 1, 1) := by decide +kernel
theorem d_Gs_become_31 : decode b_Gs_become 31 = .ok (.getfield 19, 3) := by decide +kernel
theorem d_Gs_become_34 : decode b_Gs_become 34 = .ok (.iconst 0, 1) := by decide +kernel
theorem d_Gs_become_35 : decode b_Gs_become 35 = .ok (.aload_n 0, 1) := by decide +kernel
theorem d_Gs_become_36 : decode b_Gs_become 36 = .ok (.getfield 19, 3) := by decide +kernel
theorem d_Gs_become_39 : decode b_Gs_become 39 = .ok (.iconst 0, 1) := by decide +kernel
theorem d_Gs_become_40 : decode b_Gs_become 40 = .ok (.bipush 12, 2) := by decide +kernel
theorem d_Gs_become_42 : decode b_Gs_become 42 = .ok (.invokestatic 33, 3) := by decide +kernel
theorem d_Gs_become_45 : decode b_Gs_become 45 = .ok (.return_, 1) := by decide +kernel
theorem d_Gs_kind_0 : decode b_Gs_kind 0 = .ok (.aload_n 0, 1) := by decide +kernel
theorem d_Gs_kind_1 : decode b_Gs_kind 1 = .ok (.getfield 9, 3) := by decide +kernel
theorem d_Gs_kind_4 : decode b_Gs_kind 4 = .ok (.iload_n 1, 1) := by decide +kernel
theorem d_Gs_kind_5 : decode b_Gs_kind 5 = .ok (.iaload, 1) := by decide +kernel
theorem d_Gs_kind_6 : decode b_Gs_kind 6 = .ok (.ireturn, 1) := by decide +kernel
theorem d_Gs_lo_0 : decode b_Gs_lo 0 = .ok (.aload_n 0, 1) := by decide +kernel
theorem d_Gs_lo_1 : decode b_Gs_lo 1 = .ok (.getfield 15, 3) := by decide +kernel
theorem d_Gs_lo_4 : decode b_Gs_lo 4 = .ok (.iload_n 1, 1) := by decide +kernel
theorem d_Gs_lo_5 : decode b_Gs_lo 5 = .ok (.laload, 1) := by decide +kernel
theorem d_Gs_lo_6 : decode b_Gs_lo 6 = .ok (.lreturn, 1) := by decide +kernel
theorem d_Gs_hi_0 : decode b_Gs_hi 0 = .ok (.aload_n 0, 1) := by decide +kernel
theorem d_Gs_hi_1 : decode b_Gs_hi 1 = .ok (.getfield 19, 3) := by decide +kernel
theorem d_Gs_hi_4 : decode b_Gs_hi 4 = .ok (.iload_n 1, 1) := by decide +kernel
theorem d_Gs_hi_5 : decode b_Gs_hi 5 = .ok (.laload, 1) := by decide +kernel
theorem d_Gs_hi_6 : decode b_Gs_hi 6 = .ok (.lreturn, 1) := by decide +kernel
theorem d_Gs_isEmpty_0 : decode b_Gs_isEmpty 0 = .ok (.aload_n 0, 1) := by decide +kernel
theorem d_Gs_isEmpty_1 : decode b_Gs_isEmpty 1 = .ok (.getfield 9, 3) := by decide +kernel
theorem d_Gs_isEmpty_4 : decode b_Gs_isEmpty 4 = .ok (.iload_n 1, 1) := by decide +kernel
theorem d_Gs_isEmpty_5 : decode b_Gs_isEmpty 5 = .ok (.iaload, 1) := by decide +kernel
theorem d_Gs_isEmpty_6 : decode b_Gs_isEmpty 6 = .ok (.ifCond .ne 7, 3) := by decide +kernel
theorem d_Gs_isEmpty_9 : decode b_Gs_isEmpty 9 = .ok (.iconst 1, 1) := by decide +kernel
theorem d_Gs_isEmpty_10 : decode b_Gs_isEmpty 10 = .ok (.goto 4, 3) := by decide +kernel
theorem d_Gs_isEmpty_13 : decode b_Gs_isEmpty 13 = .ok (.iconst 0, 1) := by decide +kernel
theorem d_Gs_isEmpty_14 : decode b_Gs_isEmpty 14 = .ok (.ireturn, 1) := by decide +kernel
theorem d_Gs_isRange_0 : decode b_Gs_isRange 0 = .ok (.aload_n 0, 1) := by decide +kernel
theorem d_Gs_isRange_1 : decode b_Gs_isRange 1 = .ok (.getfield 9, 3) := by decide +kernel
theorem d_Gs_isRange_4 : decode b_Gs_isRange 4 = .ok (.iload_n 1, 1) := by decide +kernel
theorem d_Gs_isRange_5 : decode b_Gs_isRange 5 = .ok (.iaload, 1) := by decide +kernel
theorem d_Gs_isRange_6 : decode b_Gs_isRange 6 = .ok (.iconst 1, 1) := by decide +kernel
theorem d_Gs_isRange_7 : decode b_Gs_isRange 7 = .ok (.if_icmp .ne 7, 3) := by decide +kernel
theorem d_Gs_isRange_10 : decode b_Gs_isRange 10 = .ok (.iconst 1, 1) := by decide +kernel
theorem d_Gs_isRange_11 : decode b_Gs_isRange 11 = .ok (.goto 4, 3) := by decide +kernel
theorem d_Gs_isRange_14 : decode b_Gs_isRange 14 = .ok (.iconst 0, 1) := by decide +kernel
theorem d_Gs_isRange_15 : decode b_Gs_isRange 15 = .ok (.ireturn, 1) := by decide +kernel
theorem d_Gs_isPlace_0 : decode b_Gs_isPlace 0 = .ok (.aload_n 0, 1) := by decide +kernel
theorem d_Gs_isPlace_1 : decode b_Gs_isPlace 1 = .ok (.getfield 9, 3) := by decide +kernel
theorem d_Gs_isPlace_4 : decode b_Gs_isPlace 4 = .ok (.iload_n 1, 1) := by decide +kernel
theorem d_Gs_isPlace_5 : decode b_Gs_isPlace 5 = .ok (.iaload, 1) := by decide +kernel
theorem d_Gs_isPlace_6 : decode b_Gs_isPlace 6 = .ok (.iconst 2, 1) := by decide +kernel
theorem d_Gs_isPlace_7 : decode b_Gs_isPlace 7 = .ok (.if_icmp .eq 13, 3) := by decide +kernel
theorem d_Gs_isPlace_10 : decode b_Gs_isPlace 10 = .ok (.aload_n 0, 1) := by decide +kernel
theorem d_Gs_isPlace_11 : decode b_Gs_isPlace 11 = .ok (.getfield 9, 3) := by decide +kernel
theorem d_Gs_isPlace_14 : decode b_Gs_isPlace 14 = .ok (.iload_n 1, 1) := by decide +kernel
theorem d_Gs_isPlace_15 : decode b_Gs_isPlace 15 = .ok (.iaload, 1) := by decide +kernel
theorem d_Gs_isPlace_16 : decode b_Gs_isPlace 16 = .ok (.iconst 3, 1) := by decide +kernel
theorem d_Gs_isPlace_17 : decode b_Gs_isPlace 17 = .ok (.if_icmp .ne 7, 3) := by decide +kernel
theorem d_Gs_isPlace_20 : decode b_Gs_isPlace 20 = .ok (.iconst 1, 1) := by decide +kernel
theorem d_Gs_isPlace_21 : decode b_Gs_isPlace 21 = .ok (.goto 4, 3) := by decide +kernel
theorem d_Gs_isPlace_24 : decode b_Gs_isPlace 24 = .ok (.iconst 0, 1) := by decide +kernel
theorem d_Gs_isPlace_25 : decode b_Gs_isPlace 25 = .ok (.ireturn, 1) := by decide +kernel
theorem d_Gs_set_0 : decode b_Gs_set 0 = .ok (.aload_n 0, 1) := by decide +kernel
theorem d_Gs_set_1 : decode b_Gs_set 1 = .ok (.getfield 9, 3) := by decide +kernel
theorem d_Gs_set_4 : decode b_Gs_set 4 = .ok (.iload_n 1, 1) := by decide +kernel
theorem d_Gs_set_5 : decode b_Gs_set 5 = .ok (.iload_n 2, 1) := by decide +kernel
theorem d_Gs_set_6 : decode b_Gs_set 6 = .ok (.iastore, 1) := by decide +kernel
theorem d_Gs_set_7 : decode b_Gs_set 7 = .ok (.aload_n 0, 1) := by decide +kernel
theorem d_Gs_set_8 : decode b_Gs_set 8 = .ok (.getfield 15, 3) := by decide +kernel
theorem d_Gs_set_11 : decode b_Gs_set 11 = .ok (.iload_n 1, 1) := by decide +kernel
theorem d_Gs_set_12 : decode b_Gs_set 12 = .ok (.lload_n 3, 1) := by decide +kernel
theorem d_Gs_set_13 : decode b_Gs_set 13 = .ok (.lastore, 1) := by decide +kernel
theorem d_Gs_set_14 : decode b_Gs_set 14 = .ok (.aload_n 0, 1) := by decide +kernel
theorem d_Gs_set_15 : decode b_Gs_set 15 = .ok (.getfield 19, 3) := by decide +kernel
theorem d_Gs_set_18 : decode b_Gs_set 18 = .ok (.iload_n 1, 1) := by decide +kernel
theorem d_Gs_set_19 : decode b_Gs_set 19 = .ok (.lload 5, 2) := by decide +kernel
theorem d_Gs_set_21 : decode b_Gs_set 21 = .ok (.lastore, 1) := by decide +kernel
theorem d_Gs_set_22 : decode b_Gs_set 22 = .ok (.return_, 1) := by decide +kernel
theorem d_Gs_setRange_0 : decode b_Gs_setRange 0 = .ok (.aload_n 0, 1) := by decide +kernel
theorem d_Gs_setRange_1 : decode b_Gs_setRange 1 = .ok (.iload_n 1, 1) := by decide +kernel
theorem d_Gs_setRange_2 : decode b_Gs_setRange 2 = .ok (.iconst 1, 1) := by decide +kernel
theorem d_Gs_setRange_3 : decode b_Gs_setRange 3 = .ok (.lload_n 2, 1) := by decide +kernel
theorem d_Gs_setRange_4 : decode b_Gs_setRange 4 = .ok (.lload 4, 2) := by decide +kernel
theorem d_Gs_setRange_6 : decode b_Gs_setRange 6 = .ok (.invokevirtual 29, 3) := by decide +kernel
theorem d_Gs_setRange_9 : decode b_Gs_setRange 9 = .ok (.return_, 1) := by decide +kernel
theorem d_Gs_setAny_0 : decode b_Gs_setAny 0 = .ok (.aload_n 0, 1) := by decide +kernel
theorem d_Gs_setAny_1 : decode b_Gs_setAny 1 = .ok (.iload_n 1, 1) := by decide +kernel
theorem d_Gs_setAny_2 : decode b_Gs_setAny 2 = .ok (.iconst 1, 1) := by decide +kernel
theorem d_Gs_setAny_3 : decode b_Gs_setAny 3 = .ok (.ldc2_w 41, 3) := by decide +kernel
theorem d_Gs_setAny_6 : decode b_Gs_setAny 6 = .ok (.ldc2_w 43, 3) := by decide +kernel
theorem d_Gs_setAny_9 : decode b_Gs_setAny 9 = .ok (.invokevirtual 29, 3) := by decide +kernel
theorem d_Gs_setAny_12 : decode b_Gs_setAny 12 = .ok (.return_, 1) := by decide +kernel
theorem d_Gs_clear_0 : decode b_Gs_clear 0 = .ok (.aload_n 0, 1) := by decide +kernel
theorem d_Gs_clear_1 : decode b_Gs_clear 1 = .ok (.iload_n 1, 1) := by decide +kernel
theorem d_Gs_clear_2 : decode b_Gs_clear 2 = .ok (.iconst 0, 1) := by decide +kernel
theorem d_Gs_clear_3 : decode b_Gs_clear 3 = .ok (.lconst 0, 1) := by decide +kernel
theorem d_Gs_clear_4 : decode b_Gs_clear 4 = .ok (.lconst 0, 1) := by decide +kernel
theorem d_Gs_clear_5 : decode b_Gs_clear 5 = .ok (.invokevirtual 29, 3) := by decide +kernel
theorem d_Gs_clear_8 : decode b_Gs_clear 8 = .ok (.return_, 1) := by decide +kernel
theorem d_Gs_copy_0 : decode b_Gs_copy 0 = .ok (.aload_n 0, 1) := by decide +kernel
theorem d_Gs_copy_1 : decode b_Gs_copy 1 = .ok (.iload_n 1, 1) := by decide +kernel
theorem d_Gs_copy_2 : decode b_Gs_copy 2 = .ok (.aload_n 0, 1) := by decide +kernel
theorem d_Gs_copy_3 : decode b_Gs_copy 3 = .ok (.getfield 9, 3) := by decide +kernel
theorem d_Gs_copy_6 : decode b_Gs_copy 6 = .ok (.iload_n 2, 1) := by decide +kernel
theorem d_Gs_copy_7 : decode b_Gs_copy 7 = .ok (.iaload, 1) := by decide +kernel
theorem d_Gs_copy_8 : decode b_Gs_copy 8 = .ok (.aload_n 0, 1) := by decide +kernel
theorem d_Gs_copy_9 : decode b_Gs_copy 9 = .ok (.getfield 15, 3) := by decide +kernel
theorem d_Gs_copy_12 : decode b_Gs_copy 12 = .ok (.iload_n 2, 1) := by decide +kernel
theorem d_Gs_copy_13 : decode b_Gs_copy 13 = .ok (.laload, 1) := by decide +kernel
theorem d_Gs_copy_14 : decode b_Gs_copy 14 = .ok (.aload_n 0, 1) := by decide +kernel
theorem d_Gs_copy_15 : decode b_Gs_copy 15 = .ok (.getfield 19, 3) := by decide +kernel
theorem d_Gs_copy_18 : decode b_Gs_copy 18 = .ok (.iload_n 2, 1) := by decide +kernel
theorem d_Gs_copy_19 : decode b_Gs_copy 19 = .ok (.laload, 1) := by decide +kernel
theorem d_Gs_copy_20 : decode b_Gs_copy 20 = .ok (.invokevirtual 29, 3) := by decide +kernel
theorem d_Gs_copy_23 : decode b_Gs_copy 23 = .ok (.return_, 1) := by decide +kernel
theorem d_Gs_widen_0 : decode b_Gs_widen 0 = .ok (.aload_n 0, 1) := by decide +kernel
theorem d_Gs_widen_1 : decode b_Gs_widen 1 = .ok (.iload_n 1, 1) := by decide +kernel
theorem d_Gs_widen_2 : decode b_Gs_widen 2 = .ok (.iconst 1, 1) := by decide +kernel
theorem d_Gs_widen_3 : decode b_Gs_widen 3 = .ok (.aload_n 0, 1) := by decide +kernel
theorem d_Gs_widen_4 : decode b_Gs_widen 4 = .ok (.getfield 15, 3) := by decide +kernel
theorem d_Gs_widen_7 : decode b_Gs_widen 7 = .ok (.iload_n 1, 1) := by decide +kernel
theorem d_Gs_widen_8 : decode b_Gs_widen 8 = .ok (.laload, 1) := by decide +kernel
theorem d_Gs_widen_9 : decode b_Gs_widen 9 = .ok (.lload_n 2, 1) := by decide +kernel
theorem d_Gs_widen_10 : decode b_Gs_widen 10 = .ok (.invokestatic 45, 3) := by decide +kernel
theorem d_Gs_widen_13 : decode b_Gs_widen 13 = .ok (.aload_n 0, 1) := by decide +kernel
theorem d_Gs_widen_14 : decode b_Gs_widen 14 = .ok (.getfield 19, 3) := by decide +kernel
theorem d_Gs_widen_17 : decode b_Gs_widen 17 = .ok (.iload_n 1, 1) := by decide +kernel
theorem d_Gs_widen_18 : decode b_Gs_widen 18 = .ok (.laload, 1) := by decide +kernel
theorem d_Gs_widen_19 : decode b_Gs_widen 19 = .ok (.lload 4, 2) := by decide +kernel
theorem d_Gs_widen_21 : decode b_Gs_widen 21 = .ok (.invokestatic 51, 3) := by decide +kernel
theorem d_Gs_widen_24 : decode b_Gs_widen 24 = .ok (.invokevirtual 29, 3) := by decide +kernel
theorem d_Gs_widen_27 : decode b_Gs_widen 27 = .ok (.return_, 1) := by decide +kernel
theorem d_Gs_setBetween_0 : decode b_Gs_setBetween 0 = .ok (.aload_n 0, 1) := by decide +kernel
theorem d_Gs_setBetween_1 : decode b_Gs_setBetween 1 = .ok (.iload_n 1, 1) := by decide +kernel
theorem d_Gs_setBetween_2 : decode b_Gs_setBetween 2 = .ok (.iconst 1, 1) := by decide +kernel
theorem d_Gs_setBetween_3 : decode b_Gs_setBetween 3 = .ok (.lload_n 2, 1) := by decide +kernel
theorem d_Gs_setBetween_4 : decode b_Gs_setBetween 4 = .ok (.lload 4, 2) := by decide +kernel
theorem d_Gs_setBetween_6 : decode b_Gs_setBetween 6 = .ok (.invokestatic 45, 3) := by decide +kernel
theorem d_Gs_setBetween_9 : decode b_Gs_setBetween 9 = .ok (.lload_n 2, 1) := by decide +kernel
theorem d_Gs_setBetween_10 : decode b_Gs_setBetween 10 = .ok (.lload 4, 2) := by decide +kernel
theorem d_Gs_setBetween_12 : decode b_Gs_setBetween 12 = .ok (.invokestatic 51, 3) := by decide +kernel
theorem d_Gs_setBetween_15 : decode b_Gs_setBetween 15 = .ok (.invokevirtual 29, 3) := by decide +kernel
theorem d_Gs_setBetween_18 : decode b_Gs_setBetween 18 = .ok (.return_, 1) := by decide +kernel
theorem d_Pg_init_0 : decode b_Pg_init 0 = .ok (.aload_n 0, 1) := by decide +kernel
theorem d_Pg_init_1 : decode b_Pg_init 1 = .ok (.invokespecial 3, 3) := by decide +kernel
theorem d_Pg_init_4 : decode b_Pg_init 4 = .ok (.aload_n 0, 1) := by decide +kernel
theorem d_Pg_init_5 : decode b_Pg_init 5 = .ok (.bipush 24, 2) := by decide +kernel
theorem d_Pg_init_7 : decode b_Pg_init 7 = .ok (.anewarray 9, 3) := by decide +kernel
theorem d_Pg_init_10 : decode b_Pg_init 10 = .ok (.putfield 11, 3) := by decide +kernel
theorem d_Pg_init_13 : decode b_Pg_init 13 = .ok (.iconst 0, 1) := by decide +kernel
theorem d_Pg_init_14 : decode b_Pg_init 14 = .ok (.istore_n 1, 1) := by decide +kernel
theorem d_Pg_init_15 : decode b_Pg_init 15 = .ok (.iload_n 1, 1) := by decide +kernel
theorem d_Pg_init_16 : decode b_Pg_init 16 = .ok (.bipush 24, 2) := by decide +kernel
theorem d_Pg_init_18 : decode b_Pg_init 18 = .ok (.if_icmp .ge 22, 3) := by decide +kernel
theorem d_Pg_init_21 : decode b_Pg_init 21 = .ok (.aload_n 0, 1) := by decide +kernel
theorem d_Pg_init_22 : decode b_Pg_init 22 = .ok (.getfield 11, 3) := by decide +kernel
theorem d_Pg_init_25 : decode b_Pg_init 25 = .ok (.iload_n 1, 1) := by decide +kernel
theorem d_Pg_init_26 : decode b_Pg_init 26 = .ok (.new 9, 3) := by decide +kernel
theorem d_Pg_init_29 : decode b_Pg_init 29 = .ok (.dup, 1) := by decide +kernel
theorem d_Pg_init_30 : decode b_Pg_init 30 = .ok (.invokespecial 17, 3) := by decide +kernel
theorem d_Pg_init_33 : decode b_Pg_init 33 = .ok (.aastore, 1) := by decide +kernel
theorem d_Pg_init_34 : decode b_Pg_init 34 = .ok (.iinc 1 1, 3) := by decide +kernel
theorem d_Pg_init_37 : decode b_Pg_init 37 = .ok (.goto (-22), 3) := by decide +kernel
theorem d_Pg_init_40 : decode b_Pg_init 40 = .ok (.aload_n 0, 1) := by decide +kernel
theorem d_Pg_init_41 : decode b_Pg_init 41 = .ok (.iconst 0, 1) := by decide +kernel
theorem d_Pg_init_42 : decode b_Pg_init 42 = .ok (.putfield 18, 3) := by decide +kernel
theorem d_Pg_init_45 : decode b_Pg_init 45 = .ok (.return_, 1) := by decide +kernel
theorem d_Pg_allows_0 : decode b_Pg_allows 0 = .ok (.iload_n 0, 1) := by decide +kernel
theorem d_Pg_allows_1 : decode b_Pg_allows 1 = .ok (.ifCond .lt 37, 3) := by decide +kernel
theorem d_Pg_allows_4 : decode b_Pg_allows 4 = .ok (.iload_n 0, 1) := by decide +kernel
theorem d_Pg_allows_5 : decode b_Pg_allows 5 = .ok (.bipush 17, 2) := by decide +kernel
theorem d_Pg_allows_7 : decode b_Pg_allows 7 = .ok (.if_icmp .gt 31, 3) := by decide +kernel
theorem d_Pg_allows_10 : decode b_Pg_allows 10 = .ok (.iload_n 1, 1) := by decide +kernel
theorem d_Pg_allows_11 : decode b_Pg_allows 11 = .ok (.invokestatic 22, 3) := by decide +kernel
theorem d_Pg_allows_14 : decode b_Pg_allows 14 = .ok (.ifCond .eq 24, 3) := by decide +kernel
theorem d_Pg_allows_17 : decode b_Pg_allows 17 = .ok (.iload_n 2, 1) := by decide +kernel
theorem d_Pg_allows_18 : decode b_Pg_allows 18 = .ok (.invokestatic 22, 3) := by decide +kernel
theorem d_Pg_allows_21 : decode b_Pg_allows 21 = .ok (.ifCond .eq 17, 3) := by decide +kernel
theorem d_Pg_allows_24 : decode b_Pg_allows 24 = .ok (.iload_n 3, 1) := by decide +kernel
theorem d_Pg_allows_25 : decode b_Pg_allows 25 = .ok (.ifCond .lt 13, 3) := by decide +kernel
theorem d_Pg_allows_28 : decode b_Pg_allows 28 = .ok (.iload_n 3, 1) := by decide +kernel
theorem d_Pg_allows_29 : decode b_Pg_allows 29 = .ok (.bipush 24, 2) := by decide +kernel
theorem d_Pg_allows_31 : decode b_Pg_allows 31 = .ok (.if_icmp .ge 7, 3) := by decide +kernel
theorem d_Pg_allows_34 : decode b_Pg_allows 34 = .ok (.iconst 1, 1) := by decide +kernel
theorem d_Pg_allows_35 : decode b_Pg_allows 35 = .ok (.goto 4, 3) := by decide +kernel
theorem d_Pg_allows_38 : decode b_Pg_allows 38 = .ok (.iconst 0, 1) := by decide +kernel
theorem d_Pg_allows_39 : decode b_Pg_allows 39 = .ok (.ireturn, 1) := by decide +kernel
theorem d_Pg_isRegister_0 : decode b_Pg_isRegister 0 = .ok (.iload_n 0, 1) := by decide +kernel
theorem d_Pg_isRegister_1 : decode b_Pg_isRegister 1 = .ok (.ifCond .lt 13, 3) := by decide +kernel
theorem d_Pg_isRegister_4 : decode b_Pg_isRegister 4 = .ok (.iload_n 0, 1) := by decide +kernel
theorem d_Pg_isRegister_5 : decode b_Pg_isRegister 5 = .ok (.bipush 6, 2) := by decide +kernel
theorem d_Pg_isRegister_7 : decode b_Pg_isRegister 7 = .ok (.if_icmp .ge 7, 3) := by decide +kernel
theorem d_Pg_isRegister_10 : decode b_Pg_isRegister 10 = .ok (.iconst 1, 1) := by decide +kernel
theorem d_Pg_isRegister_11 : decode b_Pg_isRegister 11 = .ok (.goto 4, 3) := by decide +kernel
theorem d_Pg_isRegister_14 : decode b_Pg_isRegister 14 = .ok (.iconst 0, 1) := by decide +kernel
theorem d_Pg_isRegister_15 : decode b_Pg_isRegister 15 = .ok (.ireturn, 1) := by decide +kernel
theorem d_Pg_size_0 : decode b_Pg_size 0 = .ok (.aload_n 0, 1) := by decide +kernel
theorem d_Pg_size_1 : decode b_Pg_size 1 = .ok (.getfield 18, 3) := by decide +kernel
theorem d_Pg_size_4 : decode b_Pg_size 4 = .ok (.ireturn, 1) := by decide +kernel
theorem d_Pg_grow_0 : decode b_Pg_grow 0 = .ok (.aload_n 0, 1) := by decide +kernel
theorem d_Pg_grow_1 : decode b_Pg_grow 1 = .ok (.getfield 18, 3) := by decide +kernel
theorem d_Pg_grow_4 : decode b_Pg_grow 4 = .ok (.bipush 24, 2) := by decide +kernel
theorem d_Pg_grow_6 : decode b_Pg_grow 6 = .ok (.if_icmp .ge 13, 3) := by decide +kernel
theorem d_Pg_grow_9 : decode b_Pg_grow 9 = .ok (.aload_n 0, 1) := by decide +kernel
theorem d_Pg_grow_10 : decode b_Pg_grow 10 = .ok (.dup, 1) := by decide +kernel
theorem d_Pg_grow_11 : decode b_Pg_grow 11 = .ok (.getfield 18, 3) := by decide +kernel
theorem d_Pg_grow_14 : decode b_Pg_grow 14 = .ok (.iconst 1, 1) := by decide +kernel
theorem d_Pg_grow_15 : decode b_Pg_grow 15 = .ok (.iadd, 1) := by decide +kernel
theorem d_Pg_grow_16 : decode b_Pg_grow 16 = .ok (.putfield 18, 3) := by decide +kernel
theorem d_Pg_grow_19 : decode b_Pg_grow 19 = .ok (.aload_n 0, 1) := by decide +kernel
theorem d_Pg_grow_20 : decode b_Pg_grow 20 = .ok (.getfield 18, 3) := by decide +kernel
theorem d_Pg_grow_23 : decode b_Pg_grow 23 = .ok (.iconst 1, 1) := by decide +kernel
theorem d_Pg_grow_24 : decode b_Pg_grow 24 = .ok (.isub, 1) := by decide +kernel
theorem d_Pg_grow_25 : decode b_Pg_grow 25 = .ok (.ireturn, 1) := by decide +kernel
theorem d_Pg_shorten_0 : decode b_Pg_shorten 0 = .ok (.aload_n 0, 1) := by decide +kernel
theorem d_Pg_shorten_1 : decode b_Pg_shorten 1 = .ok (.iload_n 1, 1) := by decide +kernel
theorem d_Pg_shorten_2 : decode b_Pg_shorten 2 = .ok (.putfield 18, 3) := by decide +kernel
theorem d_Pg_shorten_5 : decode b_Pg_shorten 5 = .ok (.return_, 1) := by decide +kernel
theorem d_Pg_write_0 : decode b_Pg_write 0 = .ok (.aload_n 0, 1) := by decide +kernel
theorem d_Pg_write_1 : decode b_Pg_write 1 = .ok (.iload_n 1, 1) := by decide +kernel
theorem d_Pg_write_2 : decode b_Pg_write 2 = .ok (.invokevirtual 26, 3) := by decide +kernel
theorem d_Pg_write_5 : decode b_Pg_write 5 = .ok (.astore 7, 2) := by decide +kernel
theorem d_Pg_write_7 : decode b_Pg_write 7 = .ok (.aload 7, 2) := by decide +kernel
theorem d_Pg_write_9 : decode b_Pg_write 9 = .ok (.ifnonnull 4, 3) := by decide +kernel
theorem d_Pg_write_12 : decode b_Pg_write 12 = .ok (.return_, 1) := by decide +kernel
theorem d_Pg_write_13 : decode b_Pg_write 13 = .ok (.aload 7, 2) := by decide +kernel
theorem d_Pg_write_15 : decode b_Pg_write 15 = .ok (.iload_n 2, 1) := by decide +kernel
theorem d_Pg_write_16 : decode b_Pg_write 16 = .ok (.putfield 30, 3) := by decide +kernel
theorem d_Pg_write_19 : decode b_Pg_write 19 = .ok (.aload 7, 2) := by decide +kernel
theorem d_Pg_write_21 : decode b_Pg_write 21 = .ok (.iload_n 3, 1) := by decide +kernel
theorem d_Pg_write_22 : decode b_Pg_write 22 = .ok (.putfield 33, 3) := by decide +kernel
theorem d_Pg_write_25 : decode b_Pg_write 25 = .ok (.aload 7, 2) := by decide +kernel
theorem d_Pg_write_27 : decode b_Pg_write 27 = .ok (.iload 4, 2) := by decide +kernel
theorem d_Pg_write_29 : decode b_Pg_write 29 = .ok (.putfield 36, 3) := by decide +kernel
theorem d_Pg_write_32 : decode b_Pg_write 32 = .ok (.aload 7, 2) := by decide +kernel
theorem d_Pg_write_34 : decode b_Pg_write 34 = .ok (.iload 5, 2) := by decide +kernel
theorem d_Pg_write_36 : decode b_Pg_write 36 = .ok (.putfield 39, 3) := by decide +kernel
theorem d_Pg_write_39 : decode b_Pg_write 39 = .ok (.aload 7, 2) := by decide +kernel
theorem d_Pg_write_41 : decode b_Pg_write 41 = .ok (.iload 6, 2) := by decide +kernel
theorem d_Pg_write_43 : decode b_Pg_write 43 = .ok (.putfield 42, 3) := by decide +kernel
theorem d_Pg_write_46 : decode b_Pg_write 46 = .ok (.return_, 1) := by decide +kernel
theorem d_Pg_stepAt_0 : decode b_Pg_stepAt 0 = .ok (.iload_n 1, 1) := by decide +kernel
theorem d_Pg_stepAt_1 : decode b_Pg_stepAt 1 = .ok (.ifCond .lt 26, 3) := by decide +kernel
theorem d_Pg_stepAt_4 : decode b_Pg_stepAt 4 = .ok (.iload_n 1, 1) := by decide +kernel
theorem d_Pg_stepAt_5 : decode b_Pg_stepAt 5 = .ok (.aload_n 0, 1) := by decide +kernel
theorem d_Pg_stepAt_6 : decode b_Pg_stepAt 6 = .ok (.getfield 18, 3) := by decide +kernel
theorem d_Pg_stepAt_9 : decode b_Pg_stepAt 9 = .ok (.if_icmp .ge 18, 3) := by decide +kernel
theorem d_Pg_stepAt_12 : decode b_Pg_stepAt 12 = .ok (.iload_n 1, 1) := by decide +kernel
theorem d_Pg_stepAt_13 : decode b_Pg_stepAt 13 = .ok (.bipush 24, 2) := by decide +kernel
theorem d_Pg_stepAt_15 : decode b_Pg_stepAt 15 = .ok (.if_icmp .ge 12, 3) := by decide +kernel
theorem d_Pg_stepAt_18 : decode b_Pg_stepAt 18 = .ok (.aload_n 0, 1) := by decide +kernel
theorem d_Pg_stepAt_19 : decode b_Pg_stepAt 19 = .ok (.getfield 11, 3) := by decide +kernel
theorem d_Pg_stepAt_22 : decode b_Pg_stepAt 22 = .ok (.iload_n 1, 1) := by decide +kernel
theorem d_Pg_stepAt_23 : decode b_Pg_stepAt 23 = .ok (.aaload, 1) := by decide +kernel
theorem d_Pg_stepAt_24 : decode b_Pg_stepAt 24 = .ok (.goto 4, 3) := by decide +kernel
theorem d_Pg_stepAt_27 : decode b_Pg_stepAt 27 = .ok (.aconst_null, 1) := by decide +kernel
theorem d_Pg_stepAt_28 : decode b_Pg_stepAt 28 = .ok (.areturn, 1) := by decide +kernel
theorem d_St_init_0 : decode b_St_init 0 = .ok (.aload_n 0, 1) := by decide +kernel
theorem d_St_init_1 : decode b_St_init 1 = .ok (.invokespecial 3, 3) := by decide +kernel
theorem d_St_init_4 : decode b_St_init 4 = .ok (.return_, 1) := by decide +kernel
theorem d_St_isCallOf_0 : decode b_St_isCallOf 0 = .ok (.aload_n 0, 1) := by decide +kernel
theorem d_St_isCallOf_1 : decode b_St_isCallOf 1 = .ok (.getfield 9, 3) := by decide +kernel
theorem d_St_isCallOf_4 : decode b_St_isCallOf 4 = .ok (.bipush 16, 2) := by decide +kernel
theorem d_St_isCallOf_6 : decode b_St_isCallOf 6 = .ok (.if_icmp .ne 15, 3) := by decide +kernel
theorem d_St_isCallOf_9 : decode b_St_isCallOf 9 = .ok (.aload_n 0, 1) := by decide +kernel
theorem d_St_isCallOf_10 : decode b_St_isCallOf 10 = .ok (.getfield 15, 3) := by decide +kernel
theorem d_St_isCallOf_13 : decode b_St_isCallOf 13 = .ok (.iload_n 1, 1) := by decide +kernel
theorem d_St_isCallOf_14 : decode b_St_isCallOf 14 = .ok (.if_icmp .ne 7, 3) := by decide +kernel
theorem d_St_isCallOf_17 : decode b_St_isCallOf 17 = .ok (.iconst 1, 1) := by decide +kernel
theorem d_St_isCallOf_18 : decode b_St_isCallOf 18 = .ok (.goto 4, 3) := by decide +kernel
theorem d_St_isCallOf_21 : decode b_St_isCallOf 21 = .ok (.iconst 0, 1) := by decide +kernel
theorem d_St_isCallOf_22 : decode b_St_isCallOf 22 = .ok (.ireturn, 1) := by decide +kernel
theorem d_St_mayJump_0 : decode b_St_mayJump 0 = .ok (.aload_n 0, 1) := by decide +kernel
theorem d_St_mayJump_1 : decode b_St_mayJump 1 = .ok (.getfield 9, 3) := by decide +kernel
theorem d_St_mayJump_4 : decode b_St_mayJump 4 = .ok (.bipush 10, 2) := by decide +kernel
theorem d_St_mayJump_6 : decode b_St_mayJump 6 = .ok (.if_icmp .lt 16, 3) := by decide +kernel
theorem d_St_mayJump_9 : decode b_St_mayJump 9 = .ok (.aload_n 0, 1) := by decide +kernel
theorem d_St_mayJump_10 : decode b_St_mayJump 10 = .ok (.getfield 9, 3) := by decide +kernel
theorem d_St_mayJump_13 : decode b_St_mayJump 13 = .ok (.bipush 13, 2) := by decide +kernel
theorem d_St_mayJump_15 : decode b_St_mayJump 15 = .ok (.if_icmp .gt 7, 3) := by decide +kernel
theorem d_St_mayJump_18 : decode b_St_mayJump 18 = .ok (.iconst 1, 1) := by decide +kernel
theorem d_St_mayJump_19 : decode b_St_mayJump 19 = .ok (.goto 4, 3) := by decide +kernel
theorem d_St_mayJump_22 : decode b_St_mayJump 22 = .ok (.iconst 0, 1) := by decide +kernel
theorem d_St_mayJump_23 : decode b_St_mayJump 23 = .ok (.ireturn, 1) := by decide +kernel
theorem d_St_usesD_0 : decode b_St_usesD 0 = .ok (.aload_n 0, 1) := by decide +kernel
theorem d_St_usesD_1 : decode b_St_usesD 1 = .ok (.getfield 9, 3) := by decide +kernel
theorem d_St_usesD_4 : decode b_St_usesD 4 = .ok (.iconst 2, 1) := by decide +kernel
theorem d_St_usesD_5 : decode b_St_usesD 5 = .ok (.if_icmp .lt 12, 3) := by decide +kernel
theorem d_St_usesD_8 : decode b_St_usesD 8 = .ok (.aload_n 0, 1) := by decide +kernel
theorem d_St_usesD_9 : decode b_St_usesD 9 = .ok (.getfield 9, 3) := by decide +kernel
theorem d_St_usesD_12 : decode b_St_usesD 12 = .ok (.bipush 12, 2) := by decide +kernel
theorem d_St_usesD_14 : decode b_St_usesD 14 = .ok (.if_icmp .le 12, 3) := by decide +kernel
theorem d_St_usesD_17 : decode b_St_usesD 17 = .ok (.aload_n 0, 1) := by decide +kernel
theorem d_St_usesD_18 : decode b_St_usesD 18 = .ok (.getfield 9, 3) := by decide +kernel
theorem d_St_usesD_21 : decode b_St_usesD 21 = .ok (.bipush 15, 2) := by decide +kernel
theorem d_St_usesD_23 : decode b_St_usesD 23 = .ok (.if_icmp .ne 7, 3) := by decide +kernel
theorem d_St_usesD_26 : decode b_St_usesD 26 = .ok (.iconst 1, 1) := by decide +kernel
theorem d_St_usesD_27 : decode b_St_usesD 27 = .ok (.goto 4, 3) := by decide +kernel
theorem d_St_usesD_30 : decode b_St_usesD 30 = .ok (.iconst 0, 1) := by decide +kernel
theorem d_St_usesD_31 : decode b_St_usesD 31 = .ok (.ireturn, 1) := by decide +kernel
theorem d_St_usesS_0 : decode b_St_usesS 0 = .ok (.aload_n 0, 1) := by decide +kernel
theorem d_St_usesS_1 : decode b_St_usesS 1 = .ok (.getfield 9, 3) := by decide +kernel
theorem d_St_usesS_4 : decode b_St_usesS 4 = .ok (.iconst 1, 1) := by decide +kernel
theorem d_St_usesS_5 : decode b_St_usesS 5 = .ok (.if_icmp .eq 46, 3) := by decide +kernel
theorem d_St_usesS_8 : decode b_St_usesS 8 = .ok (.aload_n 0, 1) := by decide +kernel
theorem d_St_usesS_9 : decode b_St_usesS 9 = .ok (.getfield 9, 3) := by decide +kernel
theorem d_St_usesS_12 : decode b_St_usesS 12 = .ok (.iconst 3, 1) := by decide +kernel
theorem d_St_usesS_13 : decode b_St_usesS 13 = .ok (.if_icmp .eq 38, 3) := by decide +kernel
theorem d_St_usesS_16 : decode b_St_usesS 16 = .ok (.aload_n 0, 1) := by decide +kernel
theorem d_St_usesS_17 : decode b_St_usesS 17 = .ok (.getfield 9, 3) := by decide +kernel
theorem d_St_usesS_20 : decode b_St_usesS 20 = .ok (.iconst 4, 1) := by decide +kernel
theorem d_St_usesS_21 : decode b_St_usesS 21 = .ok (.if_icmp .eq 30, 3) := by decide +kernel
theorem d_St_usesS_24 : decode b_St_usesS 24 = .ok (.aload_n 0, 1) := by decide +kernel
theorem d_St_usesS_25 : decode b_St_usesS 25 = .ok (.getfield 9, 3) := by decide +kernel
theorem d_St_usesS_28 : decode b_St_usesS 28 = .ok (.bipush 12, 2) := by decide +kernel
theorem d_St_usesS_30 : decode b_St_usesS 30 = .ok (.if_icmp .eq 21, 3) := by decide +kernel
theorem d_St_usesS_33 : decode b_St_usesS 33 = .ok (.aload_n 0, 1) := by decide +kernel
theorem d_St_usesS_34 : decode b_St_usesS 34 = .ok (.getfield 9, 3) := by decide +kernel
theorem d_St_usesS_37 : decode b_St_usesS 37 = .ok (.bipush 14, 2) := by decide +kernel
theorem d_St_usesS_39 : decode b_St_usesS 39 = .ok (.if_icmp .eq 12, 3) := by decide +kernel
theorem d_St_usesS_42 : decode b_St_usesS 42 = .ok (.aload_n 0, 1) := by decide +kernel
theorem d_St_usesS_43 : decode b_St_usesS 43 = .ok (.getfield 9, 3) := by decide +kernel
theorem d_St_usesS_46 : decode b_St_usesS 46 = .ok (.bipush 15, 2) := by decide +kernel
theorem d_St_usesS_48 : decode b_St_usesS 48 = .ok (.if_icmp .ne 7, 3) := by decide +kernel
theorem d_St_usesS_51 : decode b_St_usesS 51 = .ok (.iconst 1, 1) := by decide +kernel
theorem d_St_usesS_52 : decode b_St_usesS 52 = .ok (.goto 4, 3) := by decide +kernel
theorem d_St_usesS_55 : decode b_St_usesS 55 = .ok (.iconst 0, 1) := by decide +kernel
theorem d_St_usesS_56 : decode b_St_usesS 56 = .ok (.ireturn, 1) := by decide +kernel
end
