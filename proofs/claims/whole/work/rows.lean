section
-- ===== PART A: goes FIRST, ahead of the names: the tables' words, and 'selects' of the private methods out of them =====
/-- a private method of a class that the tables say can be made, by its rows of tables_1 -/
def lw_okq (q : MethodName × Nat) : Prop := (q.1.cls ≠ "java/lang/invoke/MethodHandle" ∧ q.1.cls ≠ "java/lang/invoke/VarHandle") ∧ Cond.instantiable q.1.cls q.2 ∈ tables_1 ∧ Cond.privateMethod q.1 ∈ tables_1 ∧ Cond.instanceMethod q.1 ∈ tables_1
theorem lw_p0 : lw_okq (⟨"StreamJudge", "beginChange", "()V"⟩, 9) := ⟨⟨by decide +kernel, by decide +kernel⟩, List.mem_of_getElem? (i := 17) (by decide +kernel), List.mem_of_getElem? (i := 235) (by decide +kernel), List.mem_of_getElem? (i := 236) (by decide +kernel)⟩
theorem lw_p1 : lw_okq (⟨"StreamJudge", "forgetPresentValues", "()V"⟩, 9) := ⟨⟨by decide +kernel, by decide +kernel⟩, List.mem_of_getElem? (i := 17) (by decide +kernel), List.mem_of_getElem? (i := 248) (by decide +kernel), List.mem_of_getElem? (i := 249) (by decide +kernel)⟩
theorem lw_p2 : lw_okq (⟨"StreamJudge$Rewriting", "firstMatch", "()I"⟩, 4) := ⟨⟨by decide +kernel, by decide +kernel⟩, List.mem_of_getElem? (i := 82) (by decide +kernel), List.mem_of_getElem? (i := 303) (by decide +kernel), List.mem_of_getElem? (i := 304) (by decide +kernel)⟩
theorem lw_p3 : lw_okq (⟨"StreamJudge$Rewriting", "matches", "(I)Z"⟩, 4) := ⟨⟨by decide +kernel, by decide +kernel⟩, List.mem_of_getElem? (i := 82) (by decide +kernel), List.mem_of_getElem? (i := 307) (by decide +kernel), List.mem_of_getElem? (i := 308) (by decide +kernel)⟩
theorem lw_p4 : lw_okq (⟨"StreamJudge$Rewriting", "isSplitTwin", "(I)Z"⟩, 4) := ⟨⟨by decide +kernel, by decide +kernel⟩, List.mem_of_getElem? (i := 82) (by decide +kernel), List.mem_of_getElem? (i := 313) (by decide +kernel), List.mem_of_getElem? (i := 314) (by decide +kernel)⟩
theorem lw_p5 : lw_okq (⟨"StreamJudge$Rewriting", "areWrittenAlike", "(II)Z"⟩, 4) := ⟨⟨by decide +kernel, by decide +kernel⟩, List.mem_of_getElem? (i := 82) (by decide +kernel), List.mem_of_getElem? (i := 317) (by decide +kernel), List.mem_of_getElem? (i := 318) (by decide +kernel)⟩
theorem lw_p6 : lw_okq (⟨"StreamJudge$Rewriting", "apply", "(I)Z"⟩, 4) := ⟨⟨by decide +kernel, by decide +kernel⟩, List.mem_of_getElem? (i := 82) (by decide +kernel), List.mem_of_getElem? (i := 321) (by decide +kernel), List.mem_of_getElem? (i := 322) (by decide +kernel)⟩
theorem lw_p7 : lw_okq (⟨"StreamJudge$Rewriting", "pushTail", "(I)Z"⟩, 4) := ⟨⟨by decide +kernel, by decide +kernel⟩, List.mem_of_getElem? (i := 82) (by decide +kernel), List.mem_of_getElem? (i := 325) (by decide +kernel), List.mem_of_getElem? (i := 326) (by decide +kernel)⟩
theorem lw_p8 : lw_okq (⟨"StreamJudge$Rewriting", "cut", "(II)V"⟩, 4) := ⟨⟨by decide +kernel, by decide +kernel⟩, List.mem_of_getElem? (i := 82) (by decide +kernel), List.mem_of_getElem? (i := 329) (by decide +kernel), List.mem_of_getElem? (i := 330) (by decide +kernel)⟩
theorem lw_p9 : lw_okq (⟨"StreamJudge$Rewriting", "turnZip", "(I)V"⟩, 4) := ⟨⟨by decide +kernel, by decide +kernel⟩, List.mem_of_getElem? (i := 82) (by decide +kernel), List.mem_of_getElem? (i := 336) (by decide +kernel), List.mem_of_getElem? (i := 337) (by decide +kernel)⟩
theorem lw_p10 : lw_okq (⟨"StreamJudge$Rewriting", "putTail", "(I)V"⟩, 4) := ⟨⟨by decide +kernel, by decide +kernel⟩, List.mem_of_getElem? (i := 82) (by decide +kernel), List.mem_of_getElem? (i := 341) (by decide +kernel), List.mem_of_getElem? (i := 342) (by decide +kernel)⟩
theorem lw_p11 : lw_okq (⟨"StreamJudge$Rewriting", "keepFirst", "(II)V"⟩, 4) := ⟨⟨by decide +kernel, by decide +kernel⟩, List.mem_of_getElem? (i := 82) (by decide +kernel), List.mem_of_getElem? (i := 345) (by decide +kernel), List.mem_of_getElem? (i := 346) (by decide +kernel)⟩
theorem lw_p12 : lw_okq (⟨"StreamJudge", "countFull", "()I"⟩, 9) := ⟨⟨by decide +kernel, by decide +kernel⟩, List.mem_of_getElem? (i := 17) (by decide +kernel), List.mem_of_getElem? (i := 386) (by decide +kernel), List.mem_of_getElem? (i := 387) (by decide +kernel)⟩
theorem lw_p13 : lw_okq (⟨"StreamJudge", "valuesNow", "()LStreamJudge$Values;"⟩, 9) := ⟨⟨by decide +kernel, by decide +kernel⟩, List.mem_of_getElem? (i := 17) (by decide +kernel), List.mem_of_getElem? (i := 390) (by decide +kernel), List.mem_of_getElem? (i := 391) (by decide +kernel)⟩
theorem lw_p14 : lw_okq (⟨"StreamJudge", "sharedWorkspace", "()LStreamJudge$Workspace;"⟩, 9) := ⟨⟨by decide +kernel, by decide +kernel⟩, List.mem_of_getElem? (i := 17) (by decide +kernel), List.mem_of_getElem? (i := 395) (by decide +kernel), List.mem_of_getElem? (i := 396) (by decide +kernel)⟩
theorem lw_p15 : lw_okq (⟨"StreamJudge$Values", "solve", "(I)V"⟩, 4) := ⟨⟨by decide +kernel, by decide +kernel⟩, List.mem_of_getElem? (i := 393) (by decide +kernel), List.mem_of_getElem? (i := 442) (by decide +kernel), List.mem_of_getElem? (i := 443) (by decide +kernel)⟩
def lw_privs_1 : List (MethodName × Nat) := [(⟨"StreamJudge", "beginChange", "()V"⟩, 9), (⟨"StreamJudge", "forgetPresentValues", "()V"⟩, 9), (⟨"StreamJudge$Rewriting", "firstMatch", "()I"⟩, 4), (⟨"StreamJudge$Rewriting", "matches", "(I)Z"⟩, 4), (⟨"StreamJudge$Rewriting", "isSplitTwin", "(I)Z"⟩, 4), (⟨"StreamJudge$Rewriting", "areWrittenAlike", "(II)Z"⟩, 4), (⟨"StreamJudge$Rewriting", "apply", "(I)Z"⟩, 4), (⟨"StreamJudge$Rewriting", "pushTail", "(I)Z"⟩, 4), (⟨"StreamJudge$Rewriting", "cut", "(II)V"⟩, 4), (⟨"StreamJudge$Rewriting", "turnZip", "(I)V"⟩, 4), (⟨"StreamJudge$Rewriting", "putTail", "(I)V"⟩, 4), (⟨"StreamJudge$Rewriting", "keepFirst", "(II)V"⟩, 4), (⟨"StreamJudge", "countFull", "()I"⟩, 9), (⟨"StreamJudge", "valuesNow", "()LStreamJudge$Values;"⟩, 9), (⟨"StreamJudge", "sharedWorkspace", "()LStreamJudge$Workspace;"⟩, 9), (⟨"StreamJudge$Values", "solve", "(I)V"⟩, 4)]
theorem lw_r1 : ∀ q ∈ lw_privs_1, lw_okq q := List.forall_mem_cons.mpr ⟨lw_p0, List.forall_mem_cons.mpr ⟨lw_p1, List.forall_mem_cons.mpr ⟨lw_p2, List.forall_mem_cons.mpr ⟨lw_p3, List.forall_mem_cons.mpr ⟨lw_p4, List.forall_mem_cons.mpr ⟨lw_p5, List.forall_mem_cons.mpr ⟨lw_p6, List.forall_mem_cons.mpr ⟨lw_p7, List.forall_mem_cons.mpr ⟨lw_p8, List.forall_mem_cons.mpr ⟨lw_p9, List.forall_mem_cons.mpr ⟨lw_p10, List.forall_mem_cons.mpr ⟨lw_p11, List.forall_mem_cons.mpr ⟨lw_p12, List.forall_mem_cons.mpr ⟨lw_p13, List.forall_mem_cons.mpr ⟨lw_p14, List.forall_mem_cons.mpr ⟨lw_p15, fun _ h => absurd h List.not_mem_nil⟩⟩⟩⟩⟩⟩⟩⟩⟩⟩⟩⟩⟩⟩⟩⟩
theorem lw_p16 : lw_okq (⟨"StreamJudge$Values", "settle", "(I)I"⟩, 4) := ⟨⟨by decide +kernel, by decide +kernel⟩, List.mem_of_getElem? (i := 393) (by decide +kernel), List.mem_of_getElem? (i := 446) (by decide +kernel), List.mem_of_getElem? (i := 447) (by decide +kernel)⟩
theorem lw_p17 : lw_okq (⟨"StreamJudge$Workspace", "spreadPart", "(LStreamJudge$Term;II)V"⟩, 4) := ⟨⟨by decide +kernel, by decide +kernel⟩, List.mem_of_getElem? (i := 399) (by decide +kernel), List.mem_of_getElem? (i := 455) (by decide +kernel), List.mem_of_getElem? (i := 456) (by decide +kernel)⟩
theorem lw_p18 : lw_okq (⟨"StreamJudge$Values", "neededCell", "(LStreamJudge$Term;I)I"⟩, 4) := ⟨⟨by decide +kernel, by decide +kernel⟩, List.mem_of_getElem? (i := 393) (by decide +kernel), List.mem_of_getElem? (i := 463) (by decide +kernel), List.mem_of_getElem? (i := 464) (by decide +kernel)⟩
theorem lw_p19 : lw_okq (⟨"StreamJudge$Workspace", "resultOf", "(LStreamJudge$Term;I[II)I"⟩, 4) := ⟨⟨by decide +kernel, by decide +kernel⟩, List.mem_of_getElem? (i := 399) (by decide +kernel), List.mem_of_getElem? (i := 478) (by decide +kernel), List.mem_of_getElem? (i := 479) (by decide +kernel)⟩
theorem lw_p20 : lw_okq (⟨"StreamJudge$Cycles", "findSteps", "(LStreamJudge$Equations;)V"⟩, 3) := ⟨⟨by decide +kernel, by decide +kernel⟩, List.mem_of_getElem? (i := 511) (by decide +kernel), List.mem_of_getElem? (i := 531) (by decide +kernel), List.mem_of_getElem? (i := 532) (by decide +kernel)⟩
theorem lw_p21 : lw_okq (⟨"StreamJudge$Cycles", "findShifts", "(LStreamJudge$Term;)V"⟩, 3) := ⟨⟨by decide +kernel, by decide +kernel⟩, List.mem_of_getElem? (i := 511) (by decide +kernel), List.mem_of_getElem? (i := 537) (by decide +kernel), List.mem_of_getElem? (i := 538) (by decide +kernel)⟩
theorem lw_p22 : lw_okq (⟨"StreamJudge$Cycles", "goOn", "(III)V"⟩, 3) := ⟨⟨by decide +kernel, by decide +kernel⟩, List.mem_of_getElem? (i := 511) (by decide +kernel), List.mem_of_getElem? (i := 545) (by decide +kernel), List.mem_of_getElem? (i := 546) (by decide +kernel)⟩
theorem lw_p23 : lw_okq (⟨"StreamJudge$Values", "lengthBefore", "(II)I"⟩, 4) := ⟨⟨by decide +kernel, by decide +kernel⟩, List.mem_of_getElem? (i := 393) (by decide +kernel), List.mem_of_getElem? (i := 584) (by decide +kernel), List.mem_of_getElem? (i := 585) (by decide +kernel)⟩
theorem lw_p24 : lw_okq (⟨"StreamJudge$Values", "collectAtOnce", "(II)I"⟩, 4) := ⟨⟨by decide +kernel, by decide +kernel⟩, List.mem_of_getElem? (i := 393) (by decide +kernel), List.mem_of_getElem? (i := 637) (by decide +kernel), List.mem_of_getElem? (i := 638) (by decide +kernel)⟩
theorem lw_p25 : lw_okq (⟨"StreamJudgeModel", "remember", "()V"⟩, 31) := ⟨⟨by decide +kernel, by decide +kernel⟩, List.mem_of_getElem? (i := 671) (by decide +kernel), List.mem_of_getElem? (i := 804) (by decide +kernel), List.mem_of_getElem? (i := 805) (by decide +kernel)⟩
theorem lw_p26 : lw_okq (⟨"StreamJudgeModel", "sizeOf", "(I)I"⟩, 31) := ⟨⟨by decide +kernel, by decide +kernel⟩, List.mem_of_getElem? (i := 671) (by decide +kernel), List.mem_of_getElem? (i := 811) (by decide +kernel), List.mem_of_getElem? (i := 812) (by decide +kernel)⟩
theorem lw_p27 : lw_okq (⟨"StreamJudgeModel", "bytes", "(I)I"⟩, 31) := ⟨⟨by decide +kernel, by decide +kernel⟩, List.mem_of_getElem? (i := 671) (by decide +kernel), List.mem_of_getElem? (i := 815) (by decide +kernel), List.mem_of_getElem? (i := 816) (by decide +kernel)⟩
theorem lw_p28 : lw_okq (⟨"StreamJudgeModel", "has", "(I)Z"⟩, 31) := ⟨⟨by decide +kernel, by decide +kernel⟩, List.mem_of_getElem? (i := 671) (by decide +kernel), List.mem_of_getElem? (i := 823) (by decide +kernel), List.mem_of_getElem? (i := 824) (by decide +kernel)⟩
theorem lw_p29 : lw_okq (⟨"StreamJudgeModel", "occurrences", "(II)I"⟩, 31) := ⟨⟨by decide +kernel, by decide +kernel⟩, List.mem_of_getElem? (i := 671) (by decide +kernel), List.mem_of_getElem? (i := 835) (by decide +kernel), List.mem_of_getElem? (i := 836) (by decide +kernel)⟩
theorem lw_p30 : lw_okq (⟨"StreamJudgeModel", "simplifies", "()Z"⟩, 31) := ⟨⟨by decide +kernel, by decide +kernel⟩, List.mem_of_getElem? (i := 671) (by decide +kernel), List.mem_of_getElem? (i := 843) (by decide +kernel), List.mem_of_getElem? (i := 844) (by decide +kernel)⟩
theorem lw_p31 : lw_okq (⟨"StreamJudgeModel", "layPart", "(II)V"⟩, 31) := ⟨⟨by decide +kernel, by decide +kernel⟩, List.mem_of_getElem? (i := 671) (by decide +kernel), List.mem_of_getElem? (i := 847) (by decide +kernel), List.mem_of_getElem? (i := 848) (by decide +kernel)⟩
def lw_privs_2 : List (MethodName × Nat) := [(⟨"StreamJudge$Values", "settle", "(I)I"⟩, 4), (⟨"StreamJudge$Workspace", "spreadPart", "(LStreamJudge$Term;II)V"⟩, 4), (⟨"StreamJudge$Values", "neededCell", "(LStreamJudge$Term;I)I"⟩, 4), (⟨"StreamJudge$Workspace", "resultOf", "(LStreamJudge$Term;I[II)I"⟩, 4), (⟨"StreamJudge$Cycles", "findSteps", "(LStreamJudge$Equations;)V"⟩, 3), (⟨"StreamJudge$Cycles", "findShifts", "(LStreamJudge$Term;)V"⟩, 3), (⟨"StreamJudge$Cycles", "goOn", "(III)V"⟩, 3), (⟨"StreamJudge$Values", "lengthBefore", "(II)I"⟩, 4), (⟨"StreamJudge$Values", "collectAtOnce", "(II)I"⟩, 4), (⟨"StreamJudgeModel", "remember", "()V"⟩, 31), (⟨"StreamJudgeModel", "sizeOf", "(I)I"⟩, 31), (⟨"StreamJudgeModel", "bytes", "(I)I"⟩, 31), (⟨"StreamJudgeModel", "has", "(I)Z"⟩, 31), (⟨"StreamJudgeModel", "occurrences", "(II)I"⟩, 31), (⟨"StreamJudgeModel", "simplifies", "()Z"⟩, 31), (⟨"StreamJudgeModel", "layPart", "(II)V"⟩, 31)]
theorem lw_r2 : ∀ q ∈ lw_privs_2, lw_okq q := List.forall_mem_cons.mpr ⟨lw_p16, List.forall_mem_cons.mpr ⟨lw_p17, List.forall_mem_cons.mpr ⟨lw_p18, List.forall_mem_cons.mpr ⟨lw_p19, List.forall_mem_cons.mpr ⟨lw_p20, List.forall_mem_cons.mpr ⟨lw_p21, List.forall_mem_cons.mpr ⟨lw_p22, List.forall_mem_cons.mpr ⟨lw_p23, List.forall_mem_cons.mpr ⟨lw_p24, List.forall_mem_cons.mpr ⟨lw_p25, List.forall_mem_cons.mpr ⟨lw_p26, List.forall_mem_cons.mpr ⟨lw_p27, List.forall_mem_cons.mpr ⟨lw_p28, List.forall_mem_cons.mpr ⟨lw_p29, List.forall_mem_cons.mpr ⟨lw_p30, List.forall_mem_cons.mpr ⟨lw_p31, fun _ h => absurd h List.not_mem_nil⟩⟩⟩⟩⟩⟩⟩⟩⟩⟩⟩⟩⟩⟩⟩⟩
theorem lw_p32 : lw_okq (⟨"StreamJudgeModel", "lay", "(I)V"⟩, 31) := ⟨⟨by decide +kernel, by decide +kernel⟩, List.mem_of_getElem? (i := 671) (by decide +kernel), List.mem_of_getElem? (i := 851) (by decide +kernel), List.mem_of_getElem? (i := 852) (by decide +kernel)⟩
theorem lw_p33 : lw_okq (⟨"StreamJudgeModel", "layRule", "(I)Z"⟩, 31) := ⟨⟨by decide +kernel, by decide +kernel⟩, List.mem_of_getElem? (i := 671) (by decide +kernel), List.mem_of_getElem? (i := 855) (by decide +kernel), List.mem_of_getElem? (i := 856) (by decide +kernel)⟩
theorem lw_p34 : lw_okq (⟨"StreamJudgeModel", "layTail", "(I)Z"⟩, 31) := ⟨⟨by decide +kernel, by decide +kernel⟩, List.mem_of_getElem? (i := 671) (by decide +kernel), List.mem_of_getElem? (i := 859) (by decide +kernel), List.mem_of_getElem? (i := 860) (by decide +kernel)⟩
theorem lw_p35 : lw_okq (⟨"StreamJudgeModel", "layEvery", "(I)Z"⟩, 31) := ⟨⟨by decide +kernel, by decide +kernel⟩, List.mem_of_getElem? (i := 671) (by decide +kernel), List.mem_of_getElem? (i := 866) (by decide +kernel), List.mem_of_getElem? (i := 867) (by decide +kernel)⟩
theorem lw_p36 : lw_okq (⟨"StreamJudgeModel", "layZip", "(I)Z"⟩, 31) := ⟨⟨by decide +kernel, by decide +kernel⟩, List.mem_of_getElem? (i := 671) (by decide +kernel), List.mem_of_getElem? (i := 870) (by decide +kernel), List.mem_of_getElem? (i := 871) (by decide +kernel)⟩
theorem lw_p37 : lw_okq (⟨"StreamJudgeModel", "isSamePart", "(III)Z"⟩, 31) := ⟨⟨by decide +kernel, by decide +kernel⟩, List.mem_of_getElem? (i := 671) (by decide +kernel), List.mem_of_getElem? (i := 874) (by decide +kernel), List.mem_of_getElem? (i := 875) (by decide +kernel)⟩
theorem lw_p38 : lw_okq (⟨"StreamJudgeModel", "oldSize", "()I"⟩, 31) := ⟨⟨by decide +kernel, by decide +kernel⟩, List.mem_of_getElem? (i := 671) (by decide +kernel), List.mem_of_getElem? (i := 878) (by decide +kernel), List.mem_of_getElem? (i := 879) (by decide +kernel)⟩
theorem lw_p39 : lw_okq (⟨"StreamJudgeModel", "defined", "()I"⟩, 31) := ⟨⟨by decide +kernel, by decide +kernel⟩, List.mem_of_getElem? (i := 671) (by decide +kernel), List.mem_of_getElem? (i := 890) (by decide +kernel), List.mem_of_getElem? (i := 891) (by decide +kernel)⟩
theorem lw_p40 : lw_okq (⟨"StreamJudgeModel", "allSizes", "()I"⟩, 31) := ⟨⟨by decide +kernel, by decide +kernel⟩, List.mem_of_getElem? (i := 671) (by decide +kernel), List.mem_of_getElem? (i := 894) (by decide +kernel), List.mem_of_getElem? (i := 895) (by decide +kernel)⟩
theorem lw_p41 : lw_okq (⟨"StreamJudgeModel", "isPlain", "()Z"⟩, 31) := ⟨⟨by decide +kernel, by decide +kernel⟩, List.mem_of_getElem? (i := 671) (by decide +kernel), List.mem_of_getElem? (i := 898) (by decide +kernel), List.mem_of_getElem? (i := 899) (by decide +kernel)⟩
theorem lw_p42 : lw_okq (⟨"StreamJudgeModel", "endless", "()I"⟩, 31) := ⟨⟨by decide +kernel, by decide +kernel⟩, List.mem_of_getElem? (i := 671) (by decide +kernel), List.mem_of_getElem? (i := 902) (by decide +kernel), List.mem_of_getElem? (i := 903) (by decide +kernel)⟩
theorem lw_p43 : lw_okq (⟨"StreamJudgeModel", "layValues", "()V"⟩, 31) := ⟨⟨by decide +kernel, by decide +kernel⟩, List.mem_of_getElem? (i := 671) (by decide +kernel), List.mem_of_getElem? (i := 906) (by decide +kernel), List.mem_of_getElem? (i := 907) (by decide +kernel)⟩
theorem lw_p44 : lw_okq (⟨"StreamJudgeModel", "find", "(I)Z"⟩, 31) := ⟨⟨by decide +kernel, by decide +kernel⟩, List.mem_of_getElem? (i := 671) (by decide +kernel), List.mem_of_getElem? (i := 910) (by decide +kernel), List.mem_of_getElem? (i := 911) (by decide +kernel)⟩
theorem lw_p45 : lw_okq (⟨"StreamJudgeModel", "compute", "(II)I"⟩, 31) := ⟨⟨by decide +kernel, by decide +kernel⟩, List.mem_of_getElem? (i := 671) (by decide +kernel), List.mem_of_getElem? (i := 914) (by decide +kernel), List.mem_of_getElem? (i := 915) (by decide +kernel)⟩
theorem lw_p46 : lw_okq (⟨"StreamJudgeModel", "descend", "()I"⟩, 31) := ⟨⟨by decide +kernel, by decide +kernel⟩, List.mem_of_getElem? (i := 671) (by decide +kernel), List.mem_of_getElem? (i := 918) (by decide +kernel), List.mem_of_getElem? (i := 919) (by decide +kernel)⟩
theorem lw_p47 : lw_okq (⟨"StreamJudgeModel", "reach", "(I)I"⟩, 31) := ⟨⟨by decide +kernel, by decide +kernel⟩, List.mem_of_getElem? (i := 671) (by decide +kernel), List.mem_of_getElem? (i := 925) (by decide +kernel), List.mem_of_getElem? (i := 926) (by decide +kernel)⟩
def lw_privs_3 : List (MethodName × Nat) := [(⟨"StreamJudgeModel", "lay", "(I)V"⟩, 31), (⟨"StreamJudgeModel", "layRule", "(I)Z"⟩, 31), (⟨"StreamJudgeModel", "layTail", "(I)Z"⟩, 31), (⟨"StreamJudgeModel", "layEvery", "(I)Z"⟩, 31), (⟨"StreamJudgeModel", "layZip", "(I)Z"⟩, 31), (⟨"StreamJudgeModel", "isSamePart", "(III)Z"⟩, 31), (⟨"StreamJudgeModel", "oldSize", "()I"⟩, 31), (⟨"StreamJudgeModel", "defined", "()I"⟩, 31), (⟨"StreamJudgeModel", "allSizes", "()I"⟩, 31), (⟨"StreamJudgeModel", "isPlain", "()Z"⟩, 31), (⟨"StreamJudgeModel", "endless", "()I"⟩, 31), (⟨"StreamJudgeModel", "layValues", "()V"⟩, 31), (⟨"StreamJudgeModel", "find", "(I)Z"⟩, 31), (⟨"StreamJudgeModel", "compute", "(II)I"⟩, 31), (⟨"StreamJudgeModel", "descend", "()I"⟩, 31), (⟨"StreamJudgeModel", "reach", "(I)I"⟩, 31)]
theorem lw_r3 : ∀ q ∈ lw_privs_3, lw_okq q := List.forall_mem_cons.mpr ⟨lw_p32, List.forall_mem_cons.mpr ⟨lw_p33, List.forall_mem_cons.mpr ⟨lw_p34, List.forall_mem_cons.mpr ⟨lw_p35, List.forall_mem_cons.mpr ⟨lw_p36, List.forall_mem_cons.mpr ⟨lw_p37, List.forall_mem_cons.mpr ⟨lw_p38, List.forall_mem_cons.mpr ⟨lw_p39, List.forall_mem_cons.mpr ⟨lw_p40, List.forall_mem_cons.mpr ⟨lw_p41, List.forall_mem_cons.mpr ⟨lw_p42, List.forall_mem_cons.mpr ⟨lw_p43, List.forall_mem_cons.mpr ⟨lw_p44, List.forall_mem_cons.mpr ⟨lw_p45, List.forall_mem_cons.mpr ⟨lw_p46, List.forall_mem_cons.mpr ⟨lw_p47, fun _ h => absurd h List.not_mem_nil⟩⟩⟩⟩⟩⟩⟩⟩⟩⟩⟩⟩⟩⟩⟩⟩
theorem lw_p48 : lw_okq (⟨"StreamJudgeModel", "at", "(II)I"⟩, 31) := ⟨⟨by decide +kernel, by decide +kernel⟩, List.mem_of_getElem? (i := 671) (by decide +kernel), List.mem_of_getElem? (i := 929) (by decide +kernel), List.mem_of_getElem? (i := 930) (by decide +kernel)⟩
theorem lw_p49 : lw_okq (⟨"StreamJudgeModel", "greatestCycle", "(I)I"⟩, 31) := ⟨⟨by decide +kernel, by decide +kernel⟩, List.mem_of_getElem? (i := 671) (by decide +kernel), List.mem_of_getElem? (i := 945) (by decide +kernel), List.mem_of_getElem? (i := 946) (by decide +kernel)⟩
theorem lw_p50 : lw_okq (⟨"StreamJudgeModel", "layShifts", "(I)V"⟩, 31) := ⟨⟨by decide +kernel, by decide +kernel⟩, List.mem_of_getElem? (i := 671) (by decide +kernel), List.mem_of_getElem? (i := 949) (by decide +kernel), List.mem_of_getElem? (i := 950) (by decide +kernel)⟩
theorem lw_p51 : lw_okq (⟨"StreamJudgeModel", "extend", "(III)V"⟩, 31) := ⟨⟨by decide +kernel, by decide +kernel⟩, List.mem_of_getElem? (i := 671) (by decide +kernel), List.mem_of_getElem? (i := 954) (by decide +kernel), List.mem_of_getElem? (i := 955) (by decide +kernel)⟩
theorem lw_p52 : lw_okq (⟨"StreamJudgeModel", "differentValues", "(II)I"⟩, 31) := ⟨⟨by decide +kernel, by decide +kernel⟩, List.mem_of_getElem? (i := 671) (by decide +kernel), List.mem_of_getElem? (i := 966) (by decide +kernel), List.mem_of_getElem? (i := 967) (by decide +kernel)⟩
theorem lw_p53 : lw_okq (⟨"StreamJudgeModel", "sumOf", "(II)I"⟩, 31) := ⟨⟨by decide +kernel, by decide +kernel⟩, List.mem_of_getElem? (i := 671) (by decide +kernel), List.mem_of_getElem? (i := 970) (by decide +kernel), List.mem_of_getElem? (i := 971) (by decide +kernel)⟩
theorem lw_p54 : lw_okq (⟨"StreamJudgeModel", "period", "(IZ)I"⟩, 31) := ⟨⟨by decide +kernel, by decide +kernel⟩, List.mem_of_getElem? (i := 671) (by decide +kernel), List.mem_of_getElem? (i := 974) (by decide +kernel), List.mem_of_getElem? (i := 975) (by decide +kernel)⟩
theorem lw_p55 : lw_okq (⟨"StreamJudgeModel", "ahead", "(II)I"⟩, 31) := ⟨⟨by decide +kernel, by decide +kernel⟩, List.mem_of_getElem? (i := 671) (by decide +kernel), List.mem_of_getElem? (i := 978) (by decide +kernel), List.mem_of_getElem? (i := 979) (by decide +kernel)⟩
theorem lw_p56 : lw_okq (⟨"StreamJudgeModel", "partingOf", "(II)I"⟩, 31) := ⟨⟨by decide +kernel, by decide +kernel⟩, List.mem_of_getElem? (i := 671) (by decide +kernel), List.mem_of_getElem? (i := 986) (by decide +kernel), List.mem_of_getElem? (i := 987) (by decide +kernel)⟩
theorem lw_p57 : lw_okq (⟨"StreamJudgeModel", "gather", "(I)I"⟩, 31) := ⟨⟨by decide +kernel, by decide +kernel⟩, List.mem_of_getElem? (i := 671) (by decide +kernel), List.mem_of_getElem? (i := 998) (by decide +kernel), List.mem_of_getElem? (i := 999) (by decide +kernel)⟩
theorem lw_p58 : lw_okq (⟨"StreamJudgeModel", "highestNeeded", "(I)I"⟩, 31) := ⟨⟨by decide +kernel, by decide +kernel⟩, List.mem_of_getElem? (i := 671) (by decide +kernel), List.mem_of_getElem? (i := 1002) (by decide +kernel), List.mem_of_getElem? (i := 1003) (by decide +kernel)⟩
theorem lw_p59 : lw_okq (⟨"StreamJudgeModel", "streamsNeeded", "(I)I"⟩, 31) := ⟨⟨by decide +kernel, by decide +kernel⟩, List.mem_of_getElem? (i := 671) (by decide +kernel), List.mem_of_getElem? (i := 1006) (by decide +kernel), List.mem_of_getElem? (i := 1007) (by decide +kernel)⟩
theorem lw_p60 : lw_okq (⟨"StreamJudgeModel", "isKept", "(I)Z"⟩, 31) := ⟨⟨by decide +kernel, by decide +kernel⟩, List.mem_of_getElem? (i := 671) (by decide +kernel), List.mem_of_getElem? (i := 1021) (by decide +kernel), List.mem_of_getElem? (i := 1022) (by decide +kernel)⟩
def lw_privs_4 : List (MethodName × Nat) := [(⟨"StreamJudgeModel", "at", "(II)I"⟩, 31), (⟨"StreamJudgeModel", "greatestCycle", "(I)I"⟩, 31), (⟨"StreamJudgeModel", "layShifts", "(I)V"⟩, 31), (⟨"StreamJudgeModel", "extend", "(III)V"⟩, 31), (⟨"StreamJudgeModel", "differentValues", "(II)I"⟩, 31), (⟨"StreamJudgeModel", "sumOf", "(II)I"⟩, 31), (⟨"StreamJudgeModel", "period", "(IZ)I"⟩, 31), (⟨"StreamJudgeModel", "ahead", "(II)I"⟩, 31), (⟨"StreamJudgeModel", "partingOf", "(II)I"⟩, 31), (⟨"StreamJudgeModel", "gather", "(I)I"⟩, 31), (⟨"StreamJudgeModel", "highestNeeded", "(I)I"⟩, 31), (⟨"StreamJudgeModel", "streamsNeeded", "(I)I"⟩, 31), (⟨"StreamJudgeModel", "isKept", "(I)Z"⟩, 31)]
theorem lw_r4 : ∀ q ∈ lw_privs_4, lw_okq q := List.forall_mem_cons.mpr ⟨lw_p48, List.forall_mem_cons.mpr ⟨lw_p49, List.forall_mem_cons.mpr ⟨lw_p50, List.forall_mem_cons.mpr ⟨lw_p51, List.forall_mem_cons.mpr ⟨lw_p52, List.forall_mem_cons.mpr ⟨lw_p53, List.forall_mem_cons.mpr ⟨lw_p54, List.forall_mem_cons.mpr ⟨lw_p55, List.forall_mem_cons.mpr ⟨lw_p56, List.forall_mem_cons.mpr ⟨lw_p57, List.forall_mem_cons.mpr ⟨lw_p58, List.forall_mem_cons.mpr ⟨lw_p59, List.forall_mem_cons.mpr ⟨lw_p60, fun _ h => absurd h List.not_mem_nil⟩⟩⟩⟩⟩⟩⟩⟩⟩⟩⟩⟩⟩
def lw_privs : List (MethodName × Nat) := lw_privs_1 ++ (lw_privs_2 ++ (lw_privs_3 ++ (lw_privs_4)))
def lw_tbl : List Cond := k2_sels lw_privs ++ tables_1
theorem lw_privs_ok : ∀ q ∈ lw_privs, lw_okq q := by
  show ∀ q ∈ lw_privs_1 ++ (lw_privs_2 ++ (lw_privs_3 ++ (lw_privs_4))), lw_okq q
  exact List.forall_mem_append.mpr ⟨lw_r1, List.forall_mem_append.mpr ⟨lw_r2, List.forall_mem_append.mpr ⟨lw_r3, lw_r4⟩⟩⟩
-- ===== end of PART A; then your names; then what follows =====
end
section
def RX0 : String := "StreamJudge$Code"
def TX0 : u_T := fun k => match k with
  | _ => ("", "", "", false)
def tyX0 : Nat → FieldType := fun k => match k with
  | _ => .int
theorem nmX0 : ∀ a, a < 0 → ∀ b, b < 0 → a ≠ b → (TX0 a).2.1 ≠ (TX0 b).2.1 := by decide +kernel
theorem tyX0_ok : ∀ k, k < 0 → parseFieldDescriptor (TX0 k).2.2.1 = some (tyX0 k) := by decide +kernel
abbrev cX0_isStreamName : ByteArray := prog_2_method_2_code
def yX0_isStreamName : MethodName := ⟨RX0, "isStreamName", "(I)Z"⟩
abbrev cX0_isDigit : ByteArray := prog_2_method_3_code
def yX0_isDigit : MethodName := ⟨RX0, "isDigit", "(I)Z"⟩
abbrev cX0_isFront : ByteArray := prog_2_method_4_code
def yX0_isFront : MethodName := ⟨RX0, "isFront", "(I)Z"⟩
abbrev cX0_isLeaf : ByteArray := prog_2_method_5_code
def yX0_isLeaf : MethodName := ⟨RX0, "isLeaf", "(I)Z"⟩
abbrev cX0_isPair : ByteArray := prog_2_method_6_code
def yX0_isPair : MethodName := ⟨RX0, "isPair", "(I)Z"⟩
abbrev cX0_isPlain : ByteArray := prog_2_method_7_code
def yX0_isPlain : MethodName := ⟨RX0, "isPlain", "(I)Z"⟩
abbrev cX0_operands : ByteArray := prog_2_method_8_code
def yX0_operands : MethodName := ⟨RX0, "operands", "(I)I"⟩
abbrev cX0_findEnds : ByteArray := prog_2_method_9_code
def yX0_findEnds : MethodName := ⟨RX0, "findEnds", "([II[I)V"⟩
abbrev cX0_findMentions : ByteArray := prog_2_method_10_code
def yX0_findMentions : MethodName := ⟨RX0, "findMentions", "([II)[I"⟩
def RX1 : String := "StreamJudge$Cycles"
def TX1 : u_T := fun k => match k with
  | 0 => ("StreamJudge$Cycles", "shifts", "[I", true)
  | 1 => ("StreamJudge$Cycles", "steps", "[I", true)
  | _ => ("StreamJudge$Cycles", "sums", "[I", true)
def tyX1 : Nat → FieldType := fun k => match k with
  | 0 => .array .int
  | 1 => .array .int
  | _ => .array .int
theorem nmX1 : ∀ a, a < 3 → ∀ b, b < 3 → a ≠ b → (TX1 a).2.1 ≠ (TX1 b).2.1 := by decide +kernel
theorem tyX1_ok : ∀ k, k < 3 → parseFieldDescriptor (TX1 k).2.2.1 = some (tyX1 k) := by decide +kernel
abbrev cX1_init : ByteArray := prog_3_method_1_code
def yX1_init : MethodName := ⟨RX1, "<init>", "()V"⟩
abbrev cX1_greatestThrough : ByteArray := prog_3_method_2_code
def yX1_greatestThrough : MethodName := ⟨RX1, "greatestThrough", "(LStreamJudge$Equations;I)I"⟩
abbrev cX1_goOn : ByteArray := prog_3_method_3_code
def yX1_goOn : MethodName := ⟨RX1, "goOn", "(III)V"⟩
abbrev cX1_findSteps : ByteArray := prog_3_method_4_code
def yX1_findSteps : MethodName := ⟨RX1, "findSteps", "(LStreamJudge$Equations;)V"⟩
abbrev cX1_findShifts : ByteArray := prog_3_method_5_code
def yX1_findShifts : MethodName := ⟨RX1, "findShifts", "(LStreamJudge$Term;)V"⟩
def RX2 : String := "StreamJudge$Equations"
def TX2 : u_T := fun k => match k with
  | 0 => ("StreamJudge$Equations", "modulus", "I", false)
  | _ => ("StreamJudge$Equations", "terms", "[LStreamJudge$Term;", true)
def tyX2 : Nat → FieldType := fun k => match k with
  | 0 => .int
  | _ => .array (.object "StreamJudge$Term")
theorem nmX2 : ∀ a, a < 2 → ∀ b, b < 2 → a ≠ b → (TX2 a).2.1 ≠ (TX2 b).2.1 := by decide +kernel
theorem tyX2_ok : ∀ k, k < 2 → parseFieldDescriptor (TX2 k).2.2.1 = some (tyX2 k) := by decide +kernel
abbrev cX2_init : ByteArray := prog_4_method_1_code
def yX2_init : MethodName := ⟨RX2, "<init>", "()V"⟩
abbrev cX2_copyFrom : ByteArray := prog_4_method_2_code
def yX2_copyFrom : MethodName := ⟨RX2, "copyFrom", "(LStreamJudge$Equations;)V"⟩
abbrev cX2_count : ByteArray := prog_4_method_3_code
def yX2_count : MethodName := ⟨RX2, "count", "()I"⟩
abbrev cX2_totalSize : ByteArray := prog_4_method_4_code
def yX2_totalSize : MethodName := ⟨RX2, "totalSize", "()I"⟩
abbrev cX2_isPlain : ByteArray := prog_4_method_5_code
def yX2_isPlain : MethodName := ⟨RX2, "isPlain", "()Z"⟩
def RX3 : String := "StreamJudge$History"
def TX3 : u_T := fun k => match k with
  | 0 => ("StreamJudge$History", "states", "[LStreamJudge$Equations;", true)
  | 1 => ("StreamJudge$History", "oldest", "I", false)
  | _ => ("StreamJudge$History", "count", "I", false)
def tyX3 : Nat → FieldType := fun k => match k with
  | 0 => .array (.object "StreamJudge$Equations")
  | 1 => .int
  | _ => .int
theorem nmX3 : ∀ a, a < 3 → ∀ b, b < 3 → a ≠ b → (TX3 a).2.1 ≠ (TX3 b).2.1 := by decide +kernel
theorem tyX3_ok : ∀ k, k < 3 → parseFieldDescriptor (TX3 k).2.2.1 = some (tyX3 k) := by decide +kernel
abbrev cX3_init : ByteArray := prog_5_method_1_code
def yX3_init : MethodName := ⟨RX3, "<init>", "()V"⟩
abbrev cX3_record : ByteArray := prog_5_method_2_code
def yX3_record : MethodName := ⟨RX3, "record", "(LStreamJudge$Equations;)V"⟩
abbrev cX3_restore : ByteArray := prog_5_method_3_code
def yX3_restore : MethodName := ⟨RX3, "restore", "(LStreamJudge$Equations;)V"⟩
def RX4 : String := "StreamJudge$Rewriting"
def TX4 : u_T := fun k => match k with
  | 0 => ("StreamJudge$Rewriting", "codes", "[I", true)
  | 1 => ("StreamJudge$Rewriting", "ends", "[I", true)
  | 2 => ("StreamJudge$Rewriting", "spare", "[I", true)
  | _ => ("StreamJudge$Rewriting", "size", "I", false)
def tyX4 : Nat → FieldType := fun k => match k with
  | 0 => .array .int
  | 1 => .array .int
  | 2 => .array .int
  | _ => .int
theorem nmX4 : ∀ a, a < 4 → ∀ b, b < 4 → a ≠ b → (TX4 a).2.1 ≠ (TX4 b).2.1 := by decide +kernel
theorem tyX4_ok : ∀ k, k < 4 → parseFieldDescriptor (TX4 k).2.2.1 = some (tyX4 k) := by decide +kernel
abbrev cX4_init : ByteArray := prog_6_method_1_code
def yX4_init : MethodName := ⟨RX4, "<init>", "()V"⟩
abbrev cX4_load : ByteArray := prog_6_method_2_code
def yX4_load : MethodName := ⟨RX4, "load", "(LStreamJudge$Term;)V"⟩
abbrev cX4_result : ByteArray := prog_6_method_3_code
def yX4_result : MethodName := ⟨RX4, "result", "()LStreamJudge$Term;"⟩
abbrev cX4_applyAll : ByteArray := prog_6_method_4_code
def yX4_applyAll : MethodName := ⟨RX4, "applyAll", "()I"⟩
abbrev cX4_firstMatch : ByteArray := prog_6_method_5_code
def yX4_firstMatch : MethodName := ⟨RX4, "firstMatch", "()I"⟩
abbrev cX4_matches : ByteArray := prog_6_method_6_code
def yX4_matches : MethodName := ⟨RX4, "matches", "(I)Z"⟩
abbrev cX4_isSplitTwin : ByteArray := prog_6_method_7_code
def yX4_isSplitTwin : MethodName := ⟨RX4, "isSplitTwin", "(I)Z"⟩
abbrev cX4_areWrittenAlike : ByteArray := prog_6_method_8_code
def yX4_areWrittenAlike : MethodName := ⟨RX4, "areWrittenAlike", "(II)Z"⟩
abbrev cX4_apply : ByteArray := prog_6_method_9_code
def yX4_apply : MethodName := ⟨RX4, "apply", "(I)Z"⟩
abbrev cX4_keepFirst : ByteArray := prog_6_method_10_code
def yX4_keepFirst : MethodName := ⟨RX4, "keepFirst", "(II)V"⟩
abbrev cX4_pushTail : ByteArray := prog_6_method_11_code
def yX4_pushTail : MethodName := ⟨RX4, "pushTail", "(I)Z"⟩
abbrev cX4_turnZip : ByteArray := prog_6_method_12_code
def yX4_turnZip : MethodName := ⟨RX4, "turnZip", "(I)V"⟩
abbrev cX4_cut : ByteArray := prog_6_method_13_code
def yX4_cut : MethodName := ⟨RX4, "cut", "(II)V"⟩
abbrev cX4_putTail : ByteArray := prog_6_method_14_code
def yX4_putTail : MethodName := ⟨RX4, "putTail", "(I)V"⟩
def RX5 : String := "StreamJudge$Term"
def TX5 : u_T := fun k => match k with
  | 0 => ("StreamJudge$Term", "size", "I", true)
  | 1 => ("StreamJudge$Term", "codes", "[I", true)
  | 2 => ("StreamJudge$Term", "ends", "[I", true)
  | _ => ("StreamJudge$Term", "mentions", "[I", true)
def tyX5 : Nat → FieldType := fun k => match k with
  | 0 => .int
  | 1 => .array .int
  | 2 => .array .int
  | _ => .array .int
theorem nmX5 : ∀ a, a < 4 → ∀ b, b < 4 → a ≠ b → (TX5 a).2.1 ≠ (TX5 b).2.1 := by decide +kernel
theorem tyX5_ok : ∀ k, k < 4 → parseFieldDescriptor (TX5 k).2.2.1 = some (tyX5 k) := by decide +kernel
abbrev cX5_init : ByteArray := prog_7_method_1_code
def yX5_init : MethodName := ⟨RX5, "<init>", "([II)V"⟩
abbrev cX5_streamAt : ByteArray := prog_7_method_2_code
def yX5_streamAt : MethodName := ⟨RX5, "streamAt", "(I)I"⟩
abbrev cX5_byteAt : ByteArray := prog_7_method_3_code
def yX5_byteAt : MethodName := ⟨RX5, "byteAt", "(I)I"⟩
abbrev cX5_streamSet : ByteArray := prog_7_method_4_code
def yX5_streamSet : MethodName := ⟨RX5, "streamSet", "()I"⟩
abbrev cX5_isPlain : ByteArray := prog_7_method_5_code
def yX5_isPlain : MethodName := ⟨RX5, "isPlain", "()Z"⟩
abbrev cX5_sizeWith : ByteArray := prog_7_method_6_code
def yX5_sizeWith : MethodName := ⟨RX5, "sizeWith", "(ILStreamJudge$Term;)I"⟩
abbrev cX5_with : ByteArray := prog_7_method_7_code
def yX5_with : MethodName := ⟨RX5, "with", "(ILStreamJudge$Term;)LStreamJudge$Term;"⟩
def RX6 : String := "StreamJudge$Text"
def TX6 : u_T := fun k => match k with
  | 0 => ("StreamJudge$Text", "bytes", "[I", true)
  | 1 => ("StreamJudge$Text", "codes", "[I", true)
  | _ => ("StreamJudge$Text", "length", "I", false)
def tyX6 : Nat → FieldType := fun k => match k with
  | 0 => .array .int
  | 1 => .array .int
  | _ => .int
theorem nmX6 : ∀ a, a < 3 → ∀ b, b < 3 → a ≠ b → (TX6 a).2.1 ≠ (TX6 b).2.1 := by decide +kernel
theorem tyX6_ok : ∀ k, k < 3 → parseFieldDescriptor (TX6 k).2.2.1 = some (tyX6 k) := by decide +kernel
abbrev cX6_init : ByteArray := prog_8_method_1_code
def yX6_init : MethodName := ⟨RX6, "<init>", "()V"⟩
abbrev cX6_append : ByteArray := prog_8_method_2_code
def yX6_append : MethodName := ⟨RX6, "append", "(I)I"⟩
abbrev cX6_empty : ByteArray := prog_8_method_3_code
def yX6_empty : MethodName := ⟨RX6, "empty", "()I"⟩
abbrev cX6_firstFault : ByteArray := prog_8_method_4_code
def yX6_firstFault : MethodName := ⟨RX6, "firstFault", "()I"⟩
abbrev cX6_read : ByteArray := prog_8_method_5_code
def yX6_read : MethodName := ⟨RX6, "read", "()LStreamJudge$Term;"⟩
def RX7 : String := "StreamJudge$Values"
def TX7 : u_T := fun k => match k with
  | 0 => ("StreamJudge$Values", "equations", "LStreamJudge$Equations;", true)
  | 1 => ("StreamJudge$Values", "workspace", "LStreamJudge$Workspace;", true)
  | 2 => ("StreamJudge$Values", "cells", "[I", true)
  | _ => ("StreamJudge$Values", "anyTouched", "Z", false)
def tyX7 : Nat → FieldType := fun k => match k with
  | 0 => .object "StreamJudge$Equations"
  | 1 => .object "StreamJudge$Workspace"
  | 2 => .array .int
  | _ => .boolean
theorem nmX7 : ∀ a, a < 4 → ∀ b, b < 4 → a ≠ b → (TX7 a).2.1 ≠ (TX7 b).2.1 := by decide +kernel
theorem tyX7_ok : ∀ k, k < 4 → parseFieldDescriptor (TX7 k).2.2.1 = some (tyX7 k) := by decide +kernel
abbrev cX7_init : ByteArray := prog_9_method_1_code
def yX7_init : MethodName := ⟨RX7, "<init>", "(LStreamJudge$Equations;LStreamJudge$Workspace;)V"⟩
abbrev cX7_rankIn : ByteArray := prog_9_method_2_code
def yX7_rankIn : MethodName := ⟨RX7, "rankIn", "(I)I"⟩
abbrev cX7_forget : ByteArray := prog_9_method_3_code
def yX7_forget : MethodName := ⟨RX7, "forget", "()V"⟩
abbrev cX7_find : ByteArray := prog_9_method_4_code
def yX7_find : MethodName := ⟨RX7, "find", "(II)V"⟩
abbrev cX7_findAll : ByteArray := prog_9_method_5_code
def yX7_findAll : MethodName := ⟨RX7, "findAll", "(I)V"⟩
abbrev cX7_findUpToReach : ByteArray := prog_9_method_6_code
def yX7_findUpToReach : MethodName := ⟨RX7, "findUpToReach", "(I)V"⟩
abbrev cX7_at : ByteArray := prog_9_method_7_code
def yX7_at : MethodName := ⟨RX7, "at", "(II)I"⟩
abbrev cX7_rank : ByteArray := prog_9_method_8_code
def yX7_rank : MethodName := ⟨RX7, "rank", "(II)I"⟩
abbrev cX7_solve : ByteArray := prog_9_method_9_code
def yX7_solve : MethodName := ⟨RX7, "solve", "(I)V"⟩
abbrev cX7_settle : ByteArray := prog_9_method_10_code
def yX7_settle : MethodName := ⟨RX7, "settle", "(I)I"⟩
abbrev cX7_neededCell : ByteArray := prog_9_method_11_code
def yX7_neededCell : MethodName := ⟨RX7, "neededCell", "(LStreamJudge$Term;I)I"⟩
abbrev cX7_collectNeeded : ByteArray := prog_9_method_12_code
def yX7_collectNeeded : MethodName := ⟨RX7, "collectNeeded", "(II)I"⟩
abbrev cX7_collectAtOnce : ByteArray := prog_9_method_13_code
def yX7_collectAtOnce : MethodName := ⟨RX7, "collectAtOnce", "(II)I"⟩
abbrev cX7_reach : ByteArray := prog_9_method_14_code
def yX7_reach : MethodName := ⟨RX7, "reach", "(I)I"⟩
abbrev cX7_countDifferent : ByteArray := prog_9_method_15_code
def yX7_countDifferent : MethodName := ⟨RX7, "countDifferent", "(I)I"⟩
abbrev cX7_sum : ByteArray := prog_9_method_16_code
def yX7_sum : MethodName := ⟨RX7, "sum", "(I)I"⟩
abbrev cX7_period : ByteArray := prog_9_method_17_code
def yX7_period : MethodName := ⟨RX7, "period", "(I)I"⟩
abbrev cX7_lengthBeforePeriod : ByteArray := prog_9_method_18_code
def yX7_lengthBeforePeriod : MethodName := ⟨RX7, "lengthBeforePeriod", "(I)I"⟩
abbrev cX7_lengthBefore : ByteArray := prog_9_method_19_code
def yX7_lengthBefore : MethodName := ⟨RX7, "lengthBefore", "(II)I"⟩
abbrev cX7_firstParting : ByteArray := prog_9_method_20_code
def yX7_firstParting : MethodName := ⟨RX7, "firstParting", "(II)I"⟩
abbrev cX7_alikeSet : ByteArray := prog_9_method_21_code
def yX7_alikeSet : MethodName := ⟨RX7, "alikeSet", "(I)I"⟩
abbrev cX7_firstDifference : ByteArray := prog_9_method_22_code
def yX7_firstDifference : MethodName := ⟨RX7, "firstDifference", "(LStreamJudge$Values;I)I"⟩
def RX8 : String := "StreamJudge$Workspace"
def TX8 : u_T := fun k => match k with
  | 0 => ("StreamJudge$Workspace", "indices", "[I", true)
  | 1 => ("StreamJudge$Workspace", "results", "[I", true)
  | 2 => ("StreamJudge$Workspace", "queue", "[I", true)
  | _ => ("StreamJudge$Workspace", "seen", "[J", true)
def tyX8 : Nat → FieldType := fun k => match k with
  | 0 => .array .int
  | 1 => .array .int
  | 2 => .array .int
  | _ => .array .long
theorem nmX8 : ∀ a, a < 4 → ∀ b, b < 4 → a ≠ b → (TX8 a).2.1 ≠ (TX8 b).2.1 := by decide +kernel
theorem tyX8_ok : ∀ k, k < 4 → parseFieldDescriptor (TX8 k).2.2.1 = some (tyX8 k) := by decide +kernel
abbrev cX8_init : ByteArray := prog_10_method_1_code
def yX8_init : MethodName := ⟨RX8, "<init>", "()V"⟩
abbrev cX8_spread : ByteArray := prog_10_method_2_code
def yX8_spread : MethodName := ⟨RX8, "spread", "(LStreamJudge$Term;I)Z"⟩
abbrev cX8_spreadPart : ByteArray := prog_10_method_3_code
def yX8_spreadPart : MethodName := ⟨RX8, "spreadPart", "(LStreamJudge$Term;II)V"⟩
abbrev cX8_isNeeded : ByteArray := prog_10_method_4_code
def yX8_isNeeded : MethodName := ⟨RX8, "isNeeded", "(I)Z"⟩
abbrev cX8_evaluate : ByteArray := prog_10_method_5_code
def yX8_evaluate : MethodName := ⟨RX8, "evaluate", "(LStreamJudge$Term;[II)I"⟩
abbrev cX8_resultOf : ByteArray := prog_10_method_6_code
def yX8_resultOf : MethodName := ⟨RX8, "resultOf", "(LStreamJudge$Term;I[II)I"⟩
abbrev cX8_clearSeen : ByteArray := prog_10_method_7_code
def yX8_clearSeen : MethodName := ⟨RX8, "clearSeen", "()V"⟩
abbrev cX8_see : ByteArray := prog_10_method_8_code
def yX8_see : MethodName := ⟨RX8, "see", "(I)Z"⟩
abbrev cX8_greatestIndex : ByteArray := prog_10_method_9_code
def yX8_greatestIndex : MethodName := ⟨RX8, "greatestIndex", "(I)I"⟩
abbrev cX8_countStreams : ByteArray := prog_10_method_10_code
def yX8_countStreams : MethodName := ⟨RX8, "countStreams", "(I)I"⟩
def RX9 : String := "StreamJudge"
def TX9 : u_T := fun k => match k with
  | 0 => ("StreamJudge", "text", "LStreamJudge$Text;", true)
  | 1 => ("StreamJudge", "present", "LStreamJudge$Equations;", true)
  | 2 => ("StreamJudge", "history", "LStreamJudge$History;", true)
  | 3 => ("StreamJudge", "rewriting", "LStreamJudge$Rewriting;", true)
  | 4 => ("StreamJudge", "images", "[LStreamJudge$Equations;", true)
  | 5 => ("StreamJudge", "imageValues", "[LStreamJudge$Values;", true)
  | 6 => ("StreamJudge", "presentValues", "LStreamJudge$Values;", false)
  | 7 => ("StreamJudge", "workspace", "LStreamJudge$Workspace;", false)
  | _ => ("StreamJudge", "cycles", "LStreamJudge$Cycles;", false)
def tyX9 : Nat → FieldType := fun k => match k with
  | 0 => .object "StreamJudge$Text"
  | 1 => .object "StreamJudge$Equations"
  | 2 => .object "StreamJudge$History"
  | 3 => .object "StreamJudge$Rewriting"
  | 4 => .array (.object "StreamJudge$Equations")
  | 5 => .array (.object "StreamJudge$Values")
  | 6 => .object "StreamJudge$Values"
  | 7 => .object "StreamJudge$Workspace"
  | _ => .object "StreamJudge$Cycles"
theorem nmX9 : ∀ a, a < 9 → ∀ b, b < 9 → a ≠ b → (TX9 a).2.1 ≠ (TX9 b).2.1 := by decide +kernel
theorem tyX9_ok : ∀ k, k < 9 → parseFieldDescriptor (TX9 k).2.2.1 = some (tyX9 k) := by decide +kernel
abbrev cX9_init : ByteArray := prog_1_method_1_code
def yX9_init : MethodName := ⟨RX9, "<init>", "()V"⟩
abbrev cX9_write : ByteArray := prog_1_method_2_code
def yX9_write : MethodName := ⟨RX9, "write", "(I)I"⟩
abbrev cX9_wipe : ByteArray := prog_1_method_3_code
def yX9_wipe : MethodName := ⟨RX9, "wipe", "()I"⟩
abbrev cX9_fault : ByteArray := prog_1_method_4_code
def yX9_fault : MethodName := ⟨RX9, "fault", "()I"⟩
abbrev cX9_define : ByteArray := prog_1_method_5_code
def yX9_define : MethodName := ⟨RX9, "define", "(I)I"⟩
abbrev cX9_undefine : ByteArray := prog_1_method_6_code
def yX9_undefine : MethodName := ⟨RX9, "undefine", "(I)I"⟩
abbrev cX9_setModulus : ByteArray := prog_1_method_7_code
def yX9_setModulus : MethodName := ⟨RX9, "setModulus", "(I)I"⟩
abbrev cX9_insert : ByteArray := prog_1_method_8_code
def yX9_insert : MethodName := ⟨RX9, "insert", "(II)I"⟩
abbrev cX9_simplify : ByteArray := prog_1_method_9_code
def yX9_simplify : MethodName := ⟨RX9, "simplify", "(I)I"⟩
abbrev cX9_undo : ByteArray := prog_1_method_10_code
def yX9_undo : MethodName := ⟨RX9, "undo", "()I"⟩
abbrev cX9_told : ByteArray := prog_1_method_11_code
def yX9_told : MethodName := ⟨RX9, "told", "(I)I"⟩
abbrev cX9_listing : ByteArray := prog_1_method_12_code
def yX9_listing : MethodName := ⟨RX9, "listing", "(II)I"⟩
abbrev cX9_uses : ByteArray := prog_1_method_13_code
def yX9_uses : MethodName := ⟨RX9, "uses", "(I)I"⟩
abbrev cX9_cycle : ByteArray := prog_1_method_14_code
def yX9_cycle : MethodName := ⟨RX9, "cycle", "(I)I"⟩
abbrev cX9_value : ByteArray := prog_1_method_15_code
def yX9_value : MethodName := ⟨RX9, "value", "(II)I"⟩
abbrev cX9_stream : ByteArray := prog_1_method_16_code
def yX9_stream : MethodName := ⟨RX9, "stream", "(II)I"⟩
abbrev cX9_parting : ByteArray := prog_1_method_17_code
def yX9_parting : MethodName := ⟨RX9, "parting", "(II)I"⟩
abbrev cX9_alike : ByteArray := prog_1_method_18_code
def yX9_alike : MethodName := ⟨RX9, "alike", "(I)I"⟩
abbrev cX9_needs : ByteArray := prog_1_method_19_code
def yX9_needs : MethodName := ⟨RX9, "needs", "(III)I"⟩
abbrev cX9_keep : ByteArray := prog_1_method_20_code
def yX9_keep : MethodName := ⟨RX9, "keep", "(I)I"⟩
abbrev cX9_back : ByteArray := prog_1_method_21_code
def yX9_back : MethodName := ⟨RX9, "back", "(I)I"⟩
abbrev cX9_changed : ByteArray := prog_1_method_22_code
def yX9_changed : MethodName := ⟨RX9, "changed", "(II)I"⟩
abbrev cX9_isStream : ByteArray := prog_1_method_23_code
def yX9_isStream : MethodName := ⟨RX9, "isStream", "(I)Z"⟩
abbrev cX9_isIndex : ByteArray := prog_1_method_24_code
def yX9_isIndex : MethodName := ⟨RX9, "isIndex", "(I)Z"⟩
abbrev cX9_isImage : ByteArray := prog_1_method_25_code
def yX9_isImage : MethodName := ⟨RX9, "isImage", "(I)Z"⟩
abbrev cX9_countFull : ByteArray := prog_1_method_26_code
def yX9_countFull : MethodName := ⟨RX9, "countFull", "()I"⟩
abbrev cX9_beginChange : ByteArray := prog_1_method_27_code
def yX9_beginChange : MethodName := ⟨RX9, "beginChange", "()V"⟩
abbrev cX9_forgetPresentValues : ByteArray := prog_1_method_28_code
def yX9_forgetPresentValues : MethodName := ⟨RX9, "forgetPresentValues", "()V"⟩
abbrev cX9_sharedWorkspace : ByteArray := prog_1_method_29_code
def yX9_sharedWorkspace : MethodName := ⟨RX9, "sharedWorkspace", "()LStreamJudge$Workspace;"⟩
abbrev cX9_valuesNow : ByteArray := prog_1_method_30_code
def yX9_valuesNow : MethodName := ⟨RX9, "valuesNow", "()LStreamJudge$Values;"⟩
def RX10 : String := "StreamJudgeModel"
def TX10 : u_T := fun k => match k with
  | 0 => ("StreamJudgeModel", "w", "[I", true)
  | 1 => ("StreamJudgeModel", "past", "[I", true)
  | 2 => ("StreamJudgeModel", "pastMany", "I", false)
  | 3 => ("StreamJudgeModel", "images", "[I", true)
  | 4 => ("StreamJudgeModel", "filled", "I", false)
  | 5 => ("StreamJudgeModel", "text", "[I", true)
  | 6 => ("StreamJudgeModel", "length", "I", false)
  | 7 => ("StreamJudgeModel", "read", "[I", true)
  | 8 => ("StreamJudgeModel", "readMany", "I", false)
  | 9 => ("StreamJudgeModel", "made", "[I", true)
  | 10 => ("StreamJudgeModel", "old", "[I", true)
  | 11 => ("StreamJudgeModel", "oldMany", "I", false)
  | 12 => ("StreamJudgeModel", "madeMany", "I", false)
  | 13 => ("StreamJudgeModel", "values", "[I", true)
  | 14 => ("StreamJudgeModel", "ranks", "[I", true)
  | 15 => ("StreamJudgeModel", "isLaid", "Z", false)
  | 16 => ("StreamJudgeModel", "operator", "[I", true)
  | 17 => ("StreamJudgeModel", "indexAt", "[I", true)
  | 18 => ("StreamJudgeModel", "second", "[I", true)
  | 19 => ("StreamJudgeModel", "first", "[I", true)
  | 20 => ("StreamJudgeModel", "needed", "[I", true)
  | 21 => ("StreamJudgeModel", "neededMany", "I", false)
  | 22 => ("StreamJudgeModel", "place", "I", false)
  | 23 => ("StreamJudgeModel", "index", "I", false)
  | 24 => ("StreamJudgeModel", "shifts", "[I", true)
  | 25 => ("StreamJudgeModel", "around", "[I", true)
  | 26 => ("StreamJudgeModel", "best", "[I", true)
  | 27 => ("StreamJudgeModel", "isNeeded", "[Z", true)
  | 28 => ("StreamJudgeModel", "toSee", "[I", true)
  | 29 => ("StreamJudgeModel", "held", "[I", true)
  | _ => ("StreamJudgeModel", "there", "[I", true)
def tyX10 : Nat → FieldType := fun k => match k with
  | 0 => .array .int
  | 1 => .array .int
  | 2 => .int
  | 3 => .array .int
  | 4 => .int
  | 5 => .array .int
  | 6 => .int
  | 7 => .array .int
  | 8 => .int
  | 9 => .array .int
  | 10 => .array .int
  | 11 => .int
  | 12 => .int
  | 13 => .array .int
  | 14 => .array .int
  | 15 => .boolean
  | 16 => .array .int
  | 17 => .array .int
  | 18 => .array .int
  | 19 => .array .int
  | 20 => .array .int
  | 21 => .int
  | 22 => .int
  | 23 => .int
  | 24 => .array .int
  | 25 => .array .int
  | 26 => .array .int
  | 27 => .array .boolean
  | 28 => .array .int
  | 29 => .array .int
  | _ => .array .int
theorem nmX10 : ∀ a, a < 31 → ∀ b, b < 31 → a ≠ b → (TX10 a).2.1 ≠ (TX10 b).2.1 := by decide +kernel
theorem tyX10_ok : ∀ k, k < 31 → parseFieldDescriptor (TX10 k).2.2.1 = some (tyX10 k) := by decide +kernel
abbrev cX10_init : ByteArray := prog_12_method_1_code
def yX10_init : MethodName := ⟨RX10, "<init>", "()V"⟩
abbrev cX10_isIn : ByteArray := prog_12_method_3_code
def yX10_isIn : MethodName := ⟨RX10, "isIn", "(III)Z"⟩
abbrev cX10_isStream : ByteArray := prog_12_method_4_code
def yX10_isStream : MethodName := ⟨RX10, "isStream", "(I)Z"⟩
abbrev cX10_begin : ByteArray := prog_12_method_5_code
def yX10_begin : MethodName := ⟨RX10, "begin", "(I)I"⟩
abbrev cX10_bytes : ByteArray := prog_12_method_6_code
def yX10_bytes : MethodName := ⟨RX10, "bytes", "(I)I"⟩
abbrev cX10_has : ByteArray := prog_12_method_7_code
def yX10_has : MethodName := ⟨RX10, "has", "(I)Z"⟩
abbrev cX10_remember : ByteArray := prog_12_method_8_code
def yX10_remember : MethodName := ⟨RX10, "remember", "()V"⟩
abbrev cX10_write : ByteArray := prog_12_method_9_code
def yX10_write : MethodName := ⟨RX10, "write", "(I)I"⟩
abbrev cX10_wipe : ByteArray := prog_12_method_10_code
def yX10_wipe : MethodName := ⟨RX10, "wipe", "()I"⟩
abbrev cX10_isDigit : ByteArray := prog_12_method_11_code
def yX10_isDigit : MethodName := ⟨RX10, "isDigit", "(I)Z"⟩
abbrev cX10_isLetter : ByteArray := prog_12_method_12_code
def yX10_isLetter : MethodName := ⟨RX10, "isLetter", "(I)Z"⟩
abbrev cX10_parts : ByteArray := prog_12_method_13_code
def yX10_parts : MethodName := ⟨RX10, "parts", "(I)I"⟩
abbrev cX10_fault : ByteArray := prog_12_method_14_code
def yX10_fault : MethodName := ⟨RX10, "fault", "()I"⟩
abbrev cX10_sizeOf : ByteArray := prog_12_method_15_code
def yX10_sizeOf : MethodName := ⟨RX10, "sizeOf", "(I)I"⟩
abbrev cX10_skip : ByteArray := prog_12_method_16_code
def yX10_skip : MethodName := ⟨RX10, "skip", "([II)I"⟩
abbrev cX10_define : ByteArray := prog_12_method_17_code
def yX10_define : MethodName := ⟨RX10, "define", "(I)I"⟩
abbrev cX10_undefine : ByteArray := prog_12_method_18_code
def yX10_undefine : MethodName := ⟨RX10, "undefine", "(I)I"⟩
abbrev cX10_setModulus : ByteArray := prog_12_method_19_code
def yX10_setModulus : MethodName := ⟨RX10, "setModulus", "(I)I"⟩
abbrev cX10_occurrences : ByteArray := prog_12_method_20_code
def yX10_occurrences : MethodName := ⟨RX10, "occurrences", "(II)I"⟩
abbrev cX10_insert : ByteArray := prog_12_method_21_code
def yX10_insert : MethodName := ⟨RX10, "insert", "(II)I"⟩
abbrev cX10_lay : ByteArray := prog_12_method_22_code
def yX10_lay : MethodName := ⟨RX10, "lay", "(I)V"⟩
abbrev cX10_layPart : ByteArray := prog_12_method_23_code
def yX10_layPart : MethodName := ⟨RX10, "layPart", "(II)V"⟩
abbrev cX10_isSamePart : ByteArray := prog_12_method_24_code
def yX10_isSamePart : MethodName := ⟨RX10, "isSamePart", "(III)Z"⟩
abbrev cX10_layTail : ByteArray := prog_12_method_25_code
def yX10_layTail : MethodName := ⟨RX10, "layTail", "(I)Z"⟩
abbrev cX10_layEvery : ByteArray := prog_12_method_26_code
def yX10_layEvery : MethodName := ⟨RX10, "layEvery", "(I)Z"⟩
abbrev cX10_layZip : ByteArray := prog_12_method_27_code
def yX10_layZip : MethodName := ⟨RX10, "layZip", "(I)Z"⟩
abbrev cX10_layRule : ByteArray := prog_12_method_28_code
def yX10_layRule : MethodName := ⟨RX10, "layRule", "(I)Z"⟩
abbrev cX10_simplifies : ByteArray := prog_12_method_29_code
def yX10_simplifies : MethodName := ⟨RX10, "simplifies", "()Z"⟩
abbrev cX10_oldSize : ByteArray := prog_12_method_30_code
def yX10_oldSize : MethodName := ⟨RX10, "oldSize", "()I"⟩
abbrev cX10_simplify : ByteArray := prog_12_method_31_code
def yX10_simplify : MethodName := ⟨RX10, "simplify", "(I)I"⟩
abbrev cX10_undo : ByteArray := prog_12_method_32_code
def yX10_undo : MethodName := ⟨RX10, "undo", "()I"⟩
abbrev cX10_descend : ByteArray := prog_12_method_33_code
def yX10_descend : MethodName := ⟨RX10, "descend", "()I"⟩
abbrev cX10_compute : ByteArray := prog_12_method_34_code
def yX10_compute : MethodName := ⟨RX10, "compute", "(II)I"⟩
abbrev cX10_find : ByteArray := prog_12_method_35_code
def yX10_find : MethodName := ⟨RX10, "find", "(I)Z"⟩
abbrev cX10_layValues : ByteArray := prog_12_method_36_code
def yX10_layValues : MethodName := ⟨RX10, "layValues", "()V"⟩
abbrev cX10_at : ByteArray := prog_12_method_37_code
def yX10_at : MethodName := ⟨RX10, "at", "(II)I"⟩
abbrev cX10_reach : ByteArray := prog_12_method_38_code
def yX10_reach : MethodName := ⟨RX10, "reach", "(I)I"⟩
abbrev cX10_defined : ByteArray := prog_12_method_39_code
def yX10_defined : MethodName := ⟨RX10, "defined", "()I"⟩
abbrev cX10_isPlain : ByteArray := prog_12_method_40_code
def yX10_isPlain : MethodName := ⟨RX10, "isPlain", "()Z"⟩
abbrev cX10_endless : ByteArray := prog_12_method_41_code
def yX10_endless : MethodName := ⟨RX10, "endless", "()I"⟩
abbrev cX10_allSizes : ByteArray := prog_12_method_42_code
def yX10_allSizes : MethodName := ⟨RX10, "allSizes", "()I"⟩
abbrev cX10_told : ByteArray := prog_12_method_43_code
def yX10_told : MethodName := ⟨RX10, "told", "(I)I"⟩
abbrev cX10_listing : ByteArray := prog_12_method_44_code
def yX10_listing : MethodName := ⟨RX10, "listing", "(II)I"⟩
abbrev cX10_uses : ByteArray := prog_12_method_45_code
def yX10_uses : MethodName := ⟨RX10, "uses", "(I)I"⟩
abbrev cX10_layShifts : ByteArray := prog_12_method_46_code
def yX10_layShifts : MethodName := ⟨RX10, "layShifts", "(I)V"⟩
abbrev cX10_greatestCycle : ByteArray := prog_12_method_47_code
def yX10_greatestCycle : MethodName := ⟨RX10, "greatestCycle", "(I)I"⟩
abbrev cX10_extend : ByteArray := prog_12_method_48_code
def yX10_extend : MethodName := ⟨RX10, "extend", "(III)V"⟩
abbrev cX10_cycle : ByteArray := prog_12_method_49_code
def yX10_cycle : MethodName := ⟨RX10, "cycle", "(I)I"⟩
abbrev cX10_value : ByteArray := prog_12_method_50_code
def yX10_value : MethodName := ⟨RX10, "value", "(II)I"⟩
abbrev cX10_differentValues : ByteArray := prog_12_method_51_code
def yX10_differentValues : MethodName := ⟨RX10, "differentValues", "(II)I"⟩
abbrev cX10_sumOf : ByteArray := prog_12_method_52_code
def yX10_sumOf : MethodName := ⟨RX10, "sumOf", "(II)I"⟩
abbrev cX10_ahead : ByteArray := prog_12_method_53_code
def yX10_ahead : MethodName := ⟨RX10, "ahead", "(II)I"⟩
abbrev cX10_period : ByteArray := prog_12_method_54_code
def yX10_period : MethodName := ⟨RX10, "period", "(IZ)I"⟩
abbrev cX10_stream : ByteArray := prog_12_method_55_code
def yX10_stream : MethodName := ⟨RX10, "stream", "(II)I"⟩
abbrev cX10_partingOf : ByteArray := prog_12_method_56_code
def yX10_partingOf : MethodName := ⟨RX10, "partingOf", "(II)I"⟩
abbrev cX10_parting : ByteArray := prog_12_method_57_code
def yX10_parting : MethodName := ⟨RX10, "parting", "(II)I"⟩
abbrev cX10_alike : ByteArray := prog_12_method_58_code
def yX10_alike : MethodName := ⟨RX10, "alike", "(I)I"⟩
abbrev cX10_gather : ByteArray := prog_12_method_59_code
def yX10_gather : MethodName := ⟨RX10, "gather", "(I)I"⟩
abbrev cX10_highestNeeded : ByteArray := prog_12_method_60_code
def yX10_highestNeeded : MethodName := ⟨RX10, "highestNeeded", "(I)I"⟩
abbrev cX10_streamsNeeded : ByteArray := prog_12_method_61_code
def yX10_streamsNeeded : MethodName := ⟨RX10, "streamsNeeded", "(I)I"⟩
abbrev cX10_needs : ByteArray := prog_12_method_62_code
def yX10_needs : MethodName := ⟨RX10, "needs", "(III)I"⟩
abbrev cX10_isImage : ByteArray := prog_12_method_63_code
def yX10_isImage : MethodName := ⟨RX10, "isImage", "(I)Z"⟩
abbrev cX10_isKept : ByteArray := prog_12_method_64_code
def yX10_isKept : MethodName := ⟨RX10, "isKept", "(I)Z"⟩
abbrev cX10_keep : ByteArray := prog_12_method_65_code
def yX10_keep : MethodName := ⟨RX10, "keep", "(I)I"⟩
abbrev cX10_back : ByteArray := prog_12_method_66_code
def yX10_back : MethodName := ⟨RX10, "back", "(I)I"⟩
abbrev cX10_changed : ByteArray := prog_12_method_67_code
def yX10_changed : MethodName := ⟨RX10, "changed", "(II)I"⟩
def RJx8e188 : String := "java/lang/Cloneable"
def TJx8e188 : u_T := fun k => match k with
  | _ => ("", "", "", false)
def tyJx8e188 : Nat → FieldType := fun k => match k with
  | _ => .int
theorem nmJx8e188 : ∀ a, a < 0 → ∀ b, b < 0 → a ≠ b → (TJx8e188 a).2.1 ≠ (TJx8e188 b).2.1 := by decide +kernel
theorem tyJx8e188_ok : ∀ k, k < 0 → parseFieldDescriptor (TJx8e188 k).2.2.1 = some (tyJx8e188 k) := by decide +kernel
def RJ6 : String := "java/lang/Integer"
def TJ6 : u_T := fun k => match k with
  | _ => ("", "", "", false)
def tyJ6 : Nat → FieldType := fun k => match k with
  | _ => .int
theorem nmJ6 : ∀ a, a < 0 → ∀ b, b < 0 → a ≠ b → (TJ6 a).2.1 ≠ (TJ6 b).2.1 := by decide +kernel
theorem tyJ6_ok : ∀ k, k < 0 → parseFieldDescriptor (TJ6 k).2.2.1 = some (tyJ6 k) := by decide +kernel
abbrev cJ6_bitCount_0f7a4 : ByteArray := prog_14_method_49_code
def yJ6_bitCount_0f7a4 : MethodName := ⟨RJ6, "bitCount", "(I)I"⟩
def RJ9 : String := "java/lang/Math"
def TJ9 : u_T := fun k => match k with
  | _ => ("", "", "", false)
def tyJ9 : Nat → FieldType := fun k => match k with
  | _ => .int
theorem nmJ9 : ∀ a, a < 0 → ∀ b, b < 0 → a ≠ b → (TJ9 a).2.1 ≠ (TJ9 b).2.1 := by decide +kernel
theorem tyJ9_ok : ∀ k, k < 0 → parseFieldDescriptor (TJ9 k).2.2.1 = some (tyJ9 k) := by decide +kernel
abbrev cJ9_max_7cf53 : ByteArray := prog_15_method_65_code
def yJ9_max_7cf53 : MethodName := ⟨RJ9, "max", "(II)I"⟩
abbrev cJ9_min_7cf53 : ByteArray := prog_15_method_69_code
def yJ9_min_7cf53 : MethodName := ⟨RJ9, "min", "(II)I"⟩
def RJ10 : String := "java/lang/System"
def TJ10 : u_T := fun k => match k with
  | _ => ("", "", "", false)
def tyJ10 : Nat → FieldType := fun k => match k with
  | _ => .int
theorem nmJ10 : ∀ a, a < 0 → ∀ b, b < 0 → a ≠ b → (TJ10 a).2.1 ≠ (TJ10 b).2.1 := by decide +kernel
theorem tyJ10_ok : ∀ k, k < 0 → parseFieldDescriptor (TJ10 k).2.2.1 = some (tyJ10 k) := by decide +kernel
def RJ7 : String := "java/util/Arrays"
def TJ7 : u_T := fun k => match k with
  | _ => ("", "", "", false)
def tyJ7 : Nat → FieldType := fun k => match k with
  | _ => .int
theorem nmJ7 : ∀ a, a < 0 → ∀ b, b < 0 → a ≠ b → (TJ7 a).2.1 ≠ (TJ7 b).2.1 := by decide +kernel
theorem tyJ7_ok : ∀ k, k < 0 → parseFieldDescriptor (TJ7 k).2.2.1 = some (tyJ7 k) := by decide +kernel
abbrev cJ7_fill_d0a16 : ByteArray := prog_17_method_101_code
def yJ7_fill_d0a16 : MethodName := ⟨RJ7, "fill", "([JJ)V"⟩
abbrev cJ7_fill_53178 : ByteArray := prog_17_method_103_code
def yJ7_fill_53178 : MethodName := ⟨RJ7, "fill", "([II)V"⟩
abbrev cJ7_copyOf_59c91 : ByteArray := prog_17_method_123_code
def yJ7_copyOf_59c91 : MethodName := ⟨RJ7, "copyOf", "([II)[I"⟩
def RL : String := "StreamJudgeLaw"
abbrev cL_law : ByteArray := code
def yL_law : MethodName := ⟨RL, "law", "([I)Z"⟩
abbrev vwCl : List vw_C := [(RX1, TX1, 3), (RX2, TX2, 2), (RX3, TX3, 3), (RX4, TX4, 4), (RX5, TX5, 4), (RX6, TX6, 3), (RX7, TX7, 4), (RX8, TX8, 4), (RX9, TX9, 9), (RX10, TX10, 31)]
end
section
theorem dX0_isStreamName_0 : decode cX0_isStreamName 0 = .ok (.iload_n 0, 1) := by decide +kernel
theorem dX0_isStreamName_1 : decode cX0_isStreamName 1 = .ok (.bipush 65, 2) := by decide +kernel
theorem dX0_isStreamName_3 : decode cX0_isStreamName 3 = .ok (.if_icmp .lt 13, 3) := by decide +kernel
theorem dX0_isStreamName_6 : decode cX0_isStreamName 6 = .ok (.iload_n 0, 1) := by decide +kernel
theorem dX0_isStreamName_7 : decode cX0_isStreamName 7 = .ok (.bipush 73, 2) := by decide +kernel
theorem dX0_isStreamName_9 : decode cX0_isStreamName 9 = .ok (.if_icmp .ge 7, 3) := by decide +kernel
theorem dX0_isStreamName_12 : decode cX0_isStreamName 12 = .ok (.iconst 1, 1) := by decide +kernel
theorem dX0_isStreamName_13 : decode cX0_isStreamName 13 = .ok (.goto 4, 3) := by decide +kernel
theorem dX0_isStreamName_16 : decode cX0_isStreamName 16 = .ok (.iconst 0, 1) := by decide +kernel
theorem dX0_isStreamName_17 : decode cX0_isStreamName 17 = .ok (.ireturn, 1) := by decide +kernel
theorem dX0_isDigit_0 : decode cX0_isDigit 0 = .ok (.iload_n 0, 1) := by decide +kernel
theorem dX0_isDigit_1 : decode cX0_isDigit 1 = .ok (.bipush 48, 2) := by decide +kernel
theorem dX0_isDigit_3 : decode cX0_isDigit 3 = .ok (.if_icmp .lt 13, 3) := by decide +kernel
theorem dX0_isDigit_6 : decode cX0_isDigit 6 = .ok (.iload_n 0, 1) := by decide +kernel
theorem dX0_isDigit_7 : decode cX0_isDigit 7 = .ok (.bipush 57, 2) := by decide +kernel
theorem dX0_isDigit_9 : decode cX0_isDigit 9 = .ok (.if_icmp .gt 7, 3) := by decide +kernel
theorem dX0_isDigit_12 : decode cX0_isDigit 12 = .ok (.iconst 1, 1) := by decide +kernel
theorem dX0_isDigit_13 : decode cX0_isDigit 13 = .ok (.goto 4, 3) := by decide +kernel
theorem dX0_isDigit_16 : decode cX0_isDigit 16 = .ok (.iconst 0, 1) := by decide +kernel
theorem dX0_isDigit_17 : decode cX0_isDigit 17 = .ok (.ireturn, 1) := by decide +kernel
theorem dX0_isFront_0 : decode cX0_isFront 0 = .ok (.iload_n 0, 1) := by decide +kernel
theorem dX0_isFront_1 : decode cX0_isFront 1 = .ok (.sipush 128, 3) := by decide +kernel
theorem dX0_isFront_4 : decode cX0_isFront 4 = .ok (.if_icmp .lt 7, 3) := by decide +kernel
theorem dX0_isFront_7 : decode cX0_isFront 7 = .ok (.iconst 1, 1) := by decide +kernel
theorem dX0_isFront_8 : decode cX0_isFront 8 = .ok (.goto 4, 3) := by decide +kernel
theorem dX0_isFront_11 : decode cX0_isFront 11 = .ok (.iconst 0, 1) := by decide +kernel
theorem dX0_isFront_12 : decode cX0_isFront 12 = .ok (.ireturn, 1) := by decide +kernel
theorem dX0_isLeaf_0 : decode cX0_isLeaf 0 = .ok (.iload_n 0, 1) := by decide +kernel
theorem dX0_isLeaf_1 : decode cX0_isLeaf 1 = .ok (.invokestatic 11, 3) := by decide +kernel
theorem dX0_isLeaf_4 : decode cX0_isLeaf 4 = .ok (.ifCond .ne 10, 3) := by decide +kernel
theorem dX0_isLeaf_7 : decode cX0_isLeaf 7 = .ok (.iload_n 0, 1) := by decide +kernel
theorem dX0_isLeaf_8 : decode cX0_isLeaf 8 = .ok (.invokestatic 15, 3) := by decide +kernel
theorem dX0_isLeaf_11 : decode cX0_isLeaf 11 = .ok (.ifCond .eq 7, 3) := by decide +kernel
theorem dX0_isLeaf_14 : decode cX0_isLeaf 14 = .ok (.iconst 1, 1) := by decide +kernel
theorem dX0_isLeaf_15 : decode cX0_isLeaf 15 = .ok (.goto 4, 3) := by decide +kernel
theorem dX0_isLeaf_18 : decode cX0_isLeaf 18 = .ok (.iconst 0, 1) := by decide +kernel
theorem dX0_isLeaf_19 : decode cX0_isLeaf 19 = .ok (.ireturn, 1) := by decide +kernel
theorem dX0_isPair_0 : decode cX0_isPair 0 = .ok (.iload_n 0, 1) := by decide +kernel
theorem dX0_isPair_1 : decode cX0_isPair 1 = .ok (.bipush 43, 2) := by decide +kernel
theorem dX0_isPair_3 : decode cX0_isPair 3 = .ok (.if_icmp .eq 15, 3) := by decide +kernel
theorem dX0_isPair_6 : decode cX0_isPair 6 = .ok (.iload_n 0, 1) := by decide +kernel
theorem dX0_isPair_7 : decode cX0_isPair 7 = .ok (.bipush 42, 2) := by decide +kernel
theorem dX0_isPair_9 : decode cX0_isPair 9 = .ok (.if_icmp .eq 9, 3) := by decide +kernel
theorem dX0_isPair_12 : decode cX0_isPair 12 = .ok (.iload_n 0, 1) := by decide +kernel
theorem dX0_isPair_13 : decode cX0_isPair 13 = .ok (.bipush 122, 2) := by decide +kernel
theorem dX0_isPair_15 : decode cX0_isPair 15 = .ok (.if_icmp .ne 7, 3) := by decide +kernel
theorem dX0_isPair_18 : decode cX0_isPair 18 = .ok (.iconst 1, 1) := by decide +kernel
theorem dX0_isPair_19 : decode cX0_isPair 19 = .ok (.goto 4, 3) := by decide +kernel
theorem dX0_isPair_22 : decode cX0_isPair 22 = .ok (.iconst 0, 1) := by decide +kernel
theorem dX0_isPair_23 : decode cX0_isPair 23 = .ok (.ireturn, 1) := by decide +kernel
theorem dX0_isPlain_0 : decode cX0_isPlain 0 = .ok (.iload_n 0, 1) := by decide +kernel
theorem dX0_isPlain_1 : decode cX0_isPlain 1 = .ok (.bipush 122, 2) := by decide +kernel
theorem dX0_isPlain_3 : decode cX0_isPlain 3 = .ok (.if_icmp .eq 19, 3) := by decide +kernel
theorem dX0_isPlain_6 : decode cX0_isPlain 6 = .ok (.iload_n 0, 1) := by decide +kernel
theorem dX0_isPlain_7 : decode cX0_isPlain 7 = .ok (.bipush 101, 2) := by decide +kernel
theorem dX0_isPlain_9 : decode cX0_isPlain 9 = .ok (.if_icmp .eq 13, 3) := by decide +kernel
theorem dX0_isPlain_12 : decode cX0_isPlain 12 = .ok (.iload_n 0, 1) := by decide +kernel
theorem dX0_isPlain_13 : decode cX0_isPlain 13 = .ok (.bipush 111, 2) := by decide +kernel
theorem dX0_isPlain_15 : decode cX0_isPlain 15 = .ok (.if_icmp .eq 7, 3) := by decide +kernel
theorem dX0_isPlain_18 : decode cX0_isPlain 18 = .ok (.iconst 1, 1) := by decide +kernel
theorem dX0_isPlain_19 : decode cX0_isPlain 19 = .ok (.goto 4, 3) := by decide +kernel
theorem dX0_isPlain_22 : decode cX0_isPlain 22 = .ok (.iconst 0, 1) := by decide +kernel
theorem dX0_isPlain_23 : decode cX0_isPlain 23 = .ok (.ireturn, 1) := by decide +kernel
theorem dX0_operands_0 : decode cX0_operands 0 = .ok (.iload_n 0, 1) := by decide +kernel
theorem dX0_operands_1 : decode cX0_operands 1 = .ok (.invokestatic 18, 3) := by decide +kernel
theorem dX0_operands_4 : decode cX0_operands 4 = .ok (.ifCond .eq 5, 3) := by decide +kernel
theorem dX0_operands_7 : decode cX0_operands 7 = .ok (.iconst 0, 1) := by decide +kernel
theorem dX0_operands_8 : decode cX0_operands 8 = .ok (.ireturn, 1) := by decide +kernel
theorem dX0_operands_9 : decode cX0_operands 9 = .ok (.iload_n 0, 1) := by decide +kernel
theorem dX0_operands_10 : decode cX0_operands 10 = .ok (.invokestatic 21, 3) := by decide +kernel
theorem dX0_operands_13 : decode cX0_operands 13 = .ok (.ifCond .eq 5, 3) := by decide +kernel
theorem dX0_operands_16 : decode cX0_operands 16 = .ok (.iconst 2, 1) := by decide +kernel
theorem dX0_operands_17 : decode cX0_operands 17 = .ok (.ireturn, 1) := by decide +kernel
theorem dX0_operands_18 : decode cX0_operands 18 = .ok (.iload_n 0, 1) := by decide +kernel
theorem dX0_operands_19 : decode cX0_operands 19 = .ok (.bipush 58, 2) := by decide +kernel
theorem dX0_operands_21 : decode cX0_operands 21 = .ok (.if_icmp .eq 21, 3) := by decide +kernel
theorem dX0_operands_24 : decode cX0_operands 24 = .ok (.iload_n 0, 1) := by decide +kernel
theorem dX0_operands_25 : decode cX0_operands 25 = .ok (.bipush 116, 2) := by decide +kernel
theorem dX0_operands_27 : decode cX0_operands 27 = .ok (.if_icmp .eq 15, 3) := by decide +kernel
theorem dX0_operands_30 : decode cX0_operands 30 = .ok (.iload_n 0, 1) := by decide +kernel
theorem dX0_operands_31 : decode cX0_operands 31 = .ok (.bipush 101, 2) := by decide +kernel
theorem dX0_operands_33 : decode cX0_operands 33 = .ok (.if_icmp .eq 9, 3) := by decide +kernel
theorem dX0_operands_36 : decode cX0_operands 36 = .ok (.iload_n 0, 1) := by decide +kernel
theorem dX0_operands_37 : decode cX0_operands 37 = .ok (.bipush 111, 2) := by decide +kernel
theorem dX0_operands_39 : decode cX0_operands 39 = .ok (.if_icmp .ne 7, 3) := by decide +kernel
theorem dX0_operands_42 : decode cX0_operands 42 = .ok (.iconst 1, 1) := by decide +kernel
theorem dX0_operands_43 : decode cX0_operands 43 = .ok (.goto 4, 3) := by decide +kernel
theorem dX0_operands_46 : decode cX0_operands 46 = .ok (.iconst (-1), 1) := by decide +kernel
theorem dX0_operands_47 : decode cX0_operands 47 = .ok (.ireturn, 1) := by decide +kernel
theorem dX0_findEnds_0 : decode cX0_findEnds 0 = .ok (.iload_n 1, 1) := by decide +kernel
theorem dX0_findEnds_1 : decode cX0_findEnds 1 = .ok (.iconst 1, 1) := by decide +kernel
theorem dX0_findEnds_2 : decode cX0_findEnds 2 = .ok (.isub, 1) := by decide +kernel
theorem dX0_findEnds_3 : decode cX0_findEnds 3 = .ok (.istore_n 3, 1) := by decide +kernel
theorem dX0_findEnds_4 : decode cX0_findEnds 4 = .ok (.iload_n 3, 1) := by decide +kernel
theorem dX0_findEnds_5 : decode cX0_findEnds 5 = .ok (.ifCond .lt 57, 3) := by decide +kernel
theorem dX0_findEnds_8 : decode cX0_findEnds 8 = .ok (.aload_n 0, 1) := by decide +kernel
theorem dX0_findEnds_9 : decode cX0_findEnds 9 = .ok (.iload_n 3, 1) := by decide +kernel
theorem dX0_findEnds_10 : decode cX0_findEnds 10 = .ok (.iaload, 1) := by decide +kernel
theorem dX0_findEnds_11 : decode cX0_findEnds 11 = .ok (.invokestatic 18, 3) := by decide +kernel
theorem dX0_findEnds_14 : decode cX0_findEnds 14 = .ok (.ifCond .eq 12, 3) := by decide +kernel
theorem dX0_findEnds_17 : decode cX0_findEnds 17 = .ok (.aload_n 2, 1) := by decide +kernel
theorem dX0_findEnds_18 : decode cX0_findEnds 18 = .ok (.iload_n 3, 1) := by decide +kernel
theorem dX0_findEnds_19 : decode cX0_findEnds 19 = .ok (.iload_n 3, 1) := by decide +kernel
theorem dX0_findEnds_20 : decode cX0_findEnds 20 = .ok (.iconst 1, 1) := by decide +kernel
theorem dX0_findEnds_21 : decode cX0_findEnds 21 = .ok (.iadd, 1) := by decide +kernel
theorem dX0_findEnds_22 : decode cX0_findEnds 22 = .ok (.iastore, 1) := by decide +kernel
theorem dX0_findEnds_23 : decode cX0_findEnds 23 = .ok (.goto 33, 3) := by decide +kernel
theorem dX0_findEnds_26 : decode cX0_findEnds 26 = .ok (.aload_n 0, 1) := by decide +kernel
theorem dX0_findEnds_27 : decode cX0_findEnds 27 = .ok (.iload_n 3, 1) := by decide +kernel
theorem dX0_findEnds_28 : decode cX0_findEnds 28 = .ok (.iaload, 1) := by decide +kernel
theorem dX0_findEnds_29 : decode cX0_findEnds 29 = .ok (.invokestatic 21, 3) := by decide +kernel
theorem dX0_findEnds_32 : decode cX0_findEnds 32 = .ok (.ifCond .eq 16, 3) := by decide +kernel
theorem dX0_findEnds_35 : decode cX0_findEnds 35 = .ok (.aload_n 2, 1) := by decide +kernel
theorem dX0_findEnds_36 : decode cX0_findEnds 36 = .ok (.iload_n 3, 1) := by decide +kernel
theorem dX0_findEnds_37 : decode cX0_findEnds 37 = .ok (.aload_n 2, 1) := by decide +kernel
theorem dX0_findEnds_38 : decode cX0_findEnds 38 = .ok (.aload_n 2, 1) := by decide +kernel
theorem dX0_findEnds_39 : decode cX0_findEnds 39 = .ok (.iload_n 3, 1) := by decide +kernel
theorem dX0_findEnds_40 : decode cX0_findEnds 40 = .ok (.iconst 1, 1) := by decide +kernel
theorem dX0_findEnds_41 : decode cX0_findEnds 41 = .ok (.iadd, 1) := by decide +kernel
theorem dX0_findEnds_42 : decode cX0_findEnds 42 = .ok (.iaload, 1) := by decide +kernel
theorem dX0_findEnds_43 : decode cX0_findEnds 43 = .ok (.iaload, 1) := by decide +kernel
theorem dX0_findEnds_44 : decode cX0_findEnds 44 = .ok (.iastore, 1) := by decide +kernel
theorem dX0_findEnds_45 : decode cX0_findEnds 45 = .ok (.goto 11, 3) := by decide +kernel
theorem dX0_findEnds_48 : decode cX0_findEnds 48 = .ok (.aload_n 2, 1) := by decide +kernel
theorem dX0_findEnds_49 : decode cX0_findEnds 49 = .ok (.iload_n 3, 1) := by decide +kernel
theorem dX0_findEnds_50 : decode cX0_findEnds 50 = .ok (.aload_n 2, 1) := by decide +kernel
theorem dX0_findEnds_51 : decode cX0_findEnds 51 = .ok (.iload_n 3, 1) := by decide +kernel
theorem dX0_findEnds_52 : decode cX0_findEnds 52 = .ok (.iconst 1, 1) := by decide +kernel
theorem dX0_findEnds_53 : decode cX0_findEnds 53 = .ok (.iadd, 1) := by decide +kernel
theorem dX0_findEnds_54 : decode cX0_findEnds 54 = .ok (.iaload, 1) := by decide +kernel
theorem dX0_findEnds_55 : decode cX0_findEnds 55 = .ok (.iastore, 1) := by decide +kernel
theorem dX0_findEnds_56 : decode cX0_findEnds 56 = .ok (.iinc 3 (-1), 3) := by decide +kernel
theorem dX0_findEnds_59 : decode cX0_findEnds 59 = .ok (.goto (-55), 3) := by decide +kernel
theorem dX0_findEnds_62 : decode cX0_findEnds 62 = .ok (.return_, 1) := by decide +kernel
theorem dX0_findMentions_0 : decode cX0_findMentions 0 = .ok (.iconst 0, 1) := by decide +kernel
theorem dX0_findMentions_1 : decode cX0_findMentions 1 = .ok (.istore_n 2, 1) := by decide +kernel
theorem dX0_findMentions_2 : decode cX0_findMentions 2 = .ok (.iconst 0, 1) := by decide +kernel
theorem dX0_findMentions_3 : decode cX0_findMentions 3 = .ok (.istore_n 3, 1) := by decide +kernel
theorem dX0_findMentions_4 : decode cX0_findMentions 4 = .ok (.iload_n 3, 1) := by decide +kernel
theorem dX0_findMentions_5 : decode cX0_findMentions 5 = .ok (.iload_n 1, 1) := by decide +kernel
theorem dX0_findMentions_6 : decode cX0_findMentions 6 = .ok (.if_icmp .ge 21, 3) := by decide +kernel
theorem dX0_findMentions_9 : decode cX0_findMentions 9 = .ok (.aload_n 0, 1) := by decide +kernel
theorem dX0_findMentions_10 : decode cX0_findMentions 10 = .ok (.iload_n 3, 1) := by decide +kernel
theorem dX0_findMentions_11 : decode cX0_findMentions 11 = .ok (.iaload, 1) := by decide +kernel
theorem dX0_findMentions_12 : decode cX0_findMentions 12 = .ok (.invokestatic 11, 3) := by decide +kernel
theorem dX0_findMentions_15 : decode cX0_findMentions 15 = .ok (.ifCond .eq 6, 3) := by decide +kernel
theorem dX0_findMentions_18 : decode cX0_findMentions 18 = .ok (.iinc 2 1, 3) := by decide +kernel
theorem dX0_findMentions_21 : decode cX0_findMentions 21 = .ok (.iinc 3 1, 3) := by decide +kernel
theorem dX0_findMentions_24 : decode cX0_findMentions 24 = .ok (.goto (-20), 3) := by decide +kernel
theorem dX0_findMentions_27 : decode cX0_findMentions 27 = .ok (.iload_n 2, 1) := by decide +kernel
theorem dX0_findMentions_28 : decode cX0_findMentions 28 = .ok (.newarray .int, 2) := by decide +kernel
theorem dX0_findMentions_30 : decode cX0_findMentions 30 = .ok (.astore_n 3, 1) := by decide +kernel
theorem dX0_findMentions_31 : decode cX0_findMentions 31 = .ok (.iconst 0, 1) := by decide +kernel
theorem dX0_findMentions_32 : decode cX0_findMentions 32 = .ok (.istore 4, 2) := by decide +kernel
theorem dX0_findMentions_34 : decode cX0_findMentions 34 = .ok (.iconst 0, 1) := by decide +kernel
theorem dX0_findMentions_35 : decode cX0_findMentions 35 = .ok (.istore 5, 2) := by decide +kernel
theorem dX0_findMentions_37 : decode cX0_findMentions 37 = .ok (.iload 5, 2) := by decide +kernel
theorem dX0_findMentions_39 : decode cX0_findMentions 39 = .ok (.iload_n 1, 1) := by decide +kernel
theorem dX0_findMentions_40 : decode cX0_findMentions 40 = .ok (.if_icmp .ge 34, 3) := by decide +kernel
theorem dX0_findMentions_43 : decode cX0_findMentions 43 = .ok (.iload 4, 2) := by decide +kernel
theorem dX0_findMentions_45 : decode cX0_findMentions 45 = .ok (.iload_n 2, 1) := by decide +kernel
theorem dX0_findMentions_46 : decode cX0_findMentions 46 = .ok (.if_icmp .ge 28, 3) := by decide +kernel
theorem dX0_findMentions_49 : decode cX0_findMentions 49 = .ok (.aload_n 0, 1) := by decide +kernel
theorem dX0_findMentions_50 : decode cX0_findMentions 50 = .ok (.iload 5, 2) := by decide +kernel
theorem dX0_findMentions_52 : decode cX0_findMentions 52 = .ok (.iaload, 1) := by decide +kernel
theorem dX0_findMentions_53 : decode cX0_findMentions 53 = .ok (.invokestatic 11, 3) := by decide +kernel
theorem dX0_findMentions_56 : decode cX0_findMentions 56 = .ok (.ifCond .eq 12, 3) := by decide +kernel
theorem dX0_findMentions_59 : decode cX0_findMentions 59 = .ok (.aload_n 3, 1) := by decide +kernel
theorem dX0_findMentions_60 : decode cX0_findMentions 60 = .ok (.iload 4, 2) := by decide +kernel
theorem dX0_findMentions_62 : decode cX0_findMentions 62 = .ok (.iload 5, 2) := by decide +kernel
theorem dX0_findMentions_64 : decode cX0_findMentions 64 = .ok (.iastore, 1) := by decide +kernel
theorem dX0_findMentions_65 : decode cX0_findMentions 65 = .ok (.iinc 4 1, 3) := by decide +kernel
theorem dX0_findMentions_68 : decode cX0_findMentions 68 = .ok (.iinc 5 1, 3) := by decide +kernel
theorem dX0_findMentions_71 : decode cX0_findMentions 71 = .ok (.goto (-34), 3) := by decide +kernel
theorem dX0_findMentions_74 : decode cX0_findMentions 74 = .ok (.aload_n 3, 1) := by decide +kernel
theorem dX0_findMentions_75 : decode cX0_findMentions 75 = .ok (.areturn, 1) := by decide +kernel
theorem dX1_init_0 : decode cX1_init 0 = .ok (.aload_n 0, 1) := by decide +kernel
theorem dX1_init_1 : decode cX1_init 1 = .ok (.invokespecial 3, 3) := by decide +kernel
theorem dX1_init_4 : decode cX1_init 4 = .ok (.aload_n 0, 1) := by decide +kernel
theorem dX1_init_5 : decode cX1_init 5 = .ok (.bipush 120, 2) := by decide +kernel
theorem dX1_init_7 : decode cX1_init 7 = .ok (.newarray .int, 2) := by decide +kernel
theorem dX1_init_9 : decode cX1_init 9 = .ok (.putfield 9, 3) := by decide +kernel
theorem dX1_init_12 : decode cX1_init 12 = .ok (.aload_n 0, 1) := by decide +kernel
theorem dX1_init_13 : decode cX1_init 13 = .ok (.bipush 64, 2) := by decide +kernel
theorem dX1_init_15 : decode cX1_init 15 = .ok (.newarray .int, 2) := by decide +kernel
theorem dX1_init_17 : decode cX1_init 17 = .ok (.putfield 15, 3) := by decide +kernel
theorem dX1_init_20 : decode cX1_init 20 = .ok (.aload_n 0, 1) := by decide +kernel
theorem dX1_init_21 : decode cX1_init 21 = .ok (.sipush 2048, 3) := by decide +kernel
theorem dX1_init_24 : decode cX1_init 24 = .ok (.newarray .int, 2) := by decide +kernel
theorem dX1_init_26 : decode cX1_init 26 = .ok (.putfield 18, 3) := by decide +kernel
theorem dX1_init_29 : decode cX1_init 29 = .ok (.return_, 1) := by decide +kernel
theorem dX1_greatestThrough_0 : decode cX1_greatestThrough 0 = .ok (.aload_n 0, 1) := by decide +kernel
theorem dX1_greatestThrough_1 : decode cX1_greatestThrough 1 = .ok (.aload_n 1, 1) := by decide +kernel
theorem dX1_greatestThrough_2 : decode cX1_greatestThrough 2 = .ok (.invokevirtual 21, 3) := by decide +kernel
theorem dX1_greatestThrough_5 : decode cX1_greatestThrough 5 = .ok (.aload_n 0, 1) := by decide +kernel
theorem dX1_greatestThrough_6 : decode cX1_greatestThrough 6 = .ok (.getfield 18, 3) := by decide +kernel
theorem dX1_greatestThrough_9 : decode cX1_greatestThrough 9 = .ok (.ldc 25, 2) := by decide +kernel
theorem dX1_greatestThrough_11 : decode cX1_greatestThrough 11 = .ok (.invokestatic 26, 3) := by decide +kernel
theorem dX1_greatestThrough_14 : decode cX1_greatestThrough 14 = .ok (.aload_n 0, 1) := by decide +kernel
theorem dX1_greatestThrough_15 : decode cX1_greatestThrough 15 = .ok (.getfield 18, 3) := by decide +kernel
theorem dX1_greatestThrough_18 : decode cX1_greatestThrough 18 = .ok (.iconst 1, 1) := by decide +kernel
theorem dX1_greatestThrough_19 : decode cX1_greatestThrough 19 = .ok (.iload_n 2, 1) := by decide +kernel
theorem dX1_greatestThrough_20 : decode cX1_greatestThrough 20 = .ok (.ishl, 1) := by decide +kernel
theorem dX1_greatestThrough_21 : decode cX1_greatestThrough 21 = .ok (.bipush 8, 2) := by decide +kernel
theorem dX1_greatestThrough_23 : decode cX1_greatestThrough 23 = .ok (.imul, 1) := by decide +kernel
theorem dX1_greatestThrough_24 : decode cX1_greatestThrough 24 = .ok (.iload_n 2, 1) := by decide +kernel
theorem dX1_greatestThrough_25 : decode cX1_greatestThrough 25 = .ok (.iadd, 1) := by decide +kernel
theorem dX1_greatestThrough_26 : decode cX1_greatestThrough 26 = .ok (.iconst 0, 1) := by decide +kernel
theorem dX1_greatestThrough_27 : decode cX1_greatestThrough 27 = .ok (.iastore, 1) := by decide +kernel
theorem dX1_greatestThrough_28 : decode cX1_greatestThrough 28 = .ok (.ldc 25, 2) := by decide +kernel
theorem dX1_greatestThrough_30 : decode cX1_greatestThrough 30 = .ok (.istore_n 3, 1) := by decide +kernel
theorem dX1_greatestThrough_31 : decode cX1_greatestThrough 31 = .ok (.iconst 1, 1) := by decide +kernel
theorem dX1_greatestThrough_32 : decode cX1_greatestThrough 32 = .ok (.istore 4, 2) := by decide +kernel
theorem dX1_greatestThrough_34 : decode cX1_greatestThrough 34 = .ok (.iload 4, 2) := by decide +kernel
theorem dX1_greatestThrough_36 : decode cX1_greatestThrough 36 = .ok (.sipush 256, 3) := by decide +kernel
theorem dX1_greatestThrough_39 : decode cX1_greatestThrough 39 = .ok (.if_icmp .ge 91, 3) := by decide +kernel
theorem dX1_greatestThrough_42 : decode cX1_greatestThrough 42 = .ok (.iconst 0, 1) := by decide +kernel
theorem dX1_greatestThrough_43 : decode cX1_greatestThrough 43 = .ok (.istore 5, 2) := by decide +kernel
theorem dX1_greatestThrough_45 : decode cX1_greatestThrough 45 = .ok (.iload 5, 2) := by decide +kernel
theorem dX1_greatestThrough_47 : decode cX1_greatestThrough 47 = .ok (.bipush 8, 2) := by decide +kernel
theorem dX1_greatestThrough_49 : decode cX1_greatestThrough 49 = .ok (.if_icmp .ge 75, 3) := by decide +kernel
theorem dX1_greatestThrough_52 : decode cX1_greatestThrough 52 = .ok (.aload_n 0, 1) := by decide +kernel
theorem dX1_greatestThrough_53 : decode cX1_greatestThrough 53 = .ok (.getfield 18, 3) := by decide +kernel
theorem dX1_greatestThrough_56 : decode cX1_greatestThrough 56 = .ok (.iload 4, 2) := by decide +kernel
theorem dX1_greatestThrough_58 : decode cX1_greatestThrough 58 = .ok (.bipush 8, 2) := by decide +kernel
theorem dX1_greatestThrough_60 : decode cX1_greatestThrough 60 = .ok (.imul, 1) := by decide +kernel
theorem dX1_greatestThrough_61 : decode cX1_greatestThrough 61 = .ok (.iload 5, 2) := by decide +kernel
theorem dX1_greatestThrough_63 : decode cX1_greatestThrough 63 = .ok (.iadd, 1) := by decide +kernel
theorem dX1_greatestThrough_64 : decode cX1_greatestThrough 64 = .ok (.iaload, 1) := by decide +kernel
theorem dX1_greatestThrough_65 : decode cX1_greatestThrough 65 = .ok (.istore 6, 2) := by decide +kernel
theorem dX1_greatestThrough_67 : decode cX1_greatestThrough 67 = .ok (.aload_n 0, 1) := by decide +kernel
theorem dX1_greatestThrough_68 : decode cX1_greatestThrough 68 = .ok (.getfield 15, 3) := by decide +kernel
theorem dX1_greatestThrough_71 : decode cX1_greatestThrough 71 = .ok (.iload 5, 2) := by decide +kernel
theorem dX1_greatestThrough_73 : decode cX1_greatestThrough 73 = .ok (.bipush 8, 2) := by decide +kernel
theorem dX1_greatestThrough_75 : decode cX1_greatestThrough 75 = .ok (.imul, 1) := by decide +kernel
theorem dX1_greatestThrough_76 : decode cX1_greatestThrough 76 = .ok (.iload_n 2, 1) := by decide +kernel
theorem dX1_greatestThrough_77 : decode cX1_greatestThrough 77 = .ok (.iadd, 1) := by decide +kernel
theorem dX1_greatestThrough_78 : decode cX1_greatestThrough 78 = .ok (.iaload, 1) := by decide +kernel
theorem dX1_greatestThrough_79 : decode cX1_greatestThrough 79 = .ok (.istore 7, 2) := by decide +kernel
theorem dX1_greatestThrough_81 : decode cX1_greatestThrough 81 = .ok (.iload 6, 2) := by decide +kernel
theorem dX1_greatestThrough_83 : decode cX1_greatestThrough 83 = .ok (.ldc 25, 2) := by decide +kernel
theorem dX1_greatestThrough_85 : decode cX1_greatestThrough 85 = .ok (.if_icmp .ne 6, 3) := by decide +kernel
theorem dX1_greatestThrough_88 : decode cX1_greatestThrough 88 = .ok (.goto 30, 3) := by decide +kernel
theorem dX1_greatestThrough_91 : decode cX1_greatestThrough 91 = .ok (.iload 7, 2) := by decide +kernel
theorem dX1_greatestThrough_93 : decode cX1_greatestThrough 93 = .ok (.ldc 25, 2) := by decide +kernel
theorem dX1_greatestThrough_95 : decode cX1_greatestThrough 95 = .ok (.if_icmp .eq 13, 3) := by decide +kernel
theorem dX1_greatestThrough_98 : decode cX1_greatestThrough 98 = .ok (.iload_n 3, 1) := by decide +kernel
theorem dX1_greatestThrough_99 : decode cX1_greatestThrough 99 = .ok (.iload 6, 2) := by decide +kernel
theorem dX1_greatestThrough_101 : decode cX1_greatestThrough 101 = .ok (.iload 7, 2) := by decide +kernel
theorem dX1_greatestThrough_103 : decode cX1_greatestThrough 103 = .ok (.iadd, 1) := by decide +kernel
theorem dX1_greatestThrough_104 : decode cX1_greatestThrough 104 = .ok (.invokestatic 32, 3) := by decide +kernel
theorem dX1_greatestThrough_107 : decode cX1_greatestThrough 107 = .ok (.istore_n 3, 1) := by decide +kernel
theorem dX1_greatestThrough_108 : decode cX1_greatestThrough 108 = .ok (.aload_n 0, 1) := by decide +kernel
theorem dX1_greatestThrough_109 : decode cX1_greatestThrough 109 = .ok (.iload 4, 2) := by decide +kernel
theorem dX1_greatestThrough_111 : decode cX1_greatestThrough 111 = .ok (.iload 5, 2) := by decide +kernel
theorem dX1_greatestThrough_113 : decode cX1_greatestThrough 113 = .ok (.iload 6, 2) := by decide +kernel
theorem dX1_greatestThrough_115 : decode cX1_greatestThrough 115 = .ok (.invokevirtual 38, 3) := by decide +kernel
theorem dX1_greatestThrough_118 : decode cX1_greatestThrough 118 = .ok (.iinc 5 1, 3) := by decide +kernel
theorem dX1_greatestThrough_121 : decode cX1_greatestThrough 121 = .ok (.goto (-76), 3) := by decide +kernel
theorem dX1_greatestThrough_124 : decode cX1_greatestThrough 124 = .ok (.iinc 4 1, 3) := by decide +kernel
theorem dX1_greatestThrough_127 : decode cX1_greatestThrough 127 = .ok (.goto (-93), 3) := by decide +kernel
theorem dX1_greatestThrough_130 : decode cX1_greatestThrough 130 = .ok (.iload_n 3, 1) := by decide +kernel
theorem dX1_greatestThrough_131 : decode cX1_greatestThrough 131 = .ok (.ldc 25, 2) := by decide +kernel
theorem dX1_greatestThrough_133 : decode cX1_greatestThrough 133 = .ok (.if_icmp .ne 8, 3) := by decide +kernel
theorem dX1_greatestThrough_136 : decode cX1_greatestThrough 136 = .ok (.bipush (-9), 2) := by decide +kernel
theorem dX1_greatestThrough_138 : decode cX1_greatestThrough 138 = .ok (.goto 8, 3) := by decide +kernel
theorem dX1_greatestThrough_141 : decode cX1_greatestThrough 141 = .ok (.iload_n 3, 1) := by decide +kernel
theorem dX1_greatestThrough_142 : decode cX1_greatestThrough 142 = .ok (.sipush 1000, 3) := by decide +kernel
theorem dX1_greatestThrough_145 : decode cX1_greatestThrough 145 = .ok (.iadd, 1) := by decide +kernel
theorem dX1_greatestThrough_146 : decode cX1_greatestThrough 146 = .ok (.ireturn, 1) := by decide +kernel
theorem dX1_goOn_0 : decode cX1_goOn 0 = .ok (.iconst 0, 1) := by decide +kernel
theorem dX1_goOn_1 : decode cX1_goOn 1 = .ok (.istore 4, 2) := by decide +kernel
theorem dX1_goOn_3 : decode cX1_goOn 3 = .ok (.iload 4, 2) := by decide +kernel
theorem dX1_goOn_5 : decode cX1_goOn 5 = .ok (.bipush 8, 2) := by decide +kernel
theorem dX1_goOn_7 : decode cX1_goOn 7 = .ok (.if_icmp .ge 78, 3) := by decide +kernel
theorem dX1_goOn_10 : decode cX1_goOn 10 = .ok (.aload_n 0, 1) := by decide +kernel
theorem dX1_goOn_11 : decode cX1_goOn 11 = .ok (.getfield 15, 3) := by decide +kernel
theorem dX1_goOn_14 : decode cX1_goOn 14 = .ok (.iload_n 2, 1) := by decide +kernel
theorem dX1_goOn_15 : decode cX1_goOn 15 = .ok (.bipush 8, 2) := by decide +kernel
theorem dX1_goOn_17 : decode cX1_goOn 17 = .ok (.imul, 1) := by decide +kernel
theorem dX1_goOn_18 : decode cX1_goOn 18 = .ok (.iload 4, 2) := by decide +kernel
theorem dX1_goOn_20 : decode cX1_goOn 20 = .ok (.iadd, 1) := by decide +kernel
theorem dX1_goOn_21 : decode cX1_goOn 21 = .ok (.iaload, 1) := by decide +kernel
theorem dX1_goOn_22 : decode cX1_goOn 22 = .ok (.istore 5, 2) := by decide +kernel
theorem dX1_goOn_24 : decode cX1_goOn 24 = .ok (.iload 5, 2) := by decide +kernel
theorem dX1_goOn_26 : decode cX1_goOn 26 = .ok (.ldc 25, 2) := by decide +kernel
theorem dX1_goOn_28 : decode cX1_goOn 28 = .ok (.if_icmp .eq 51, 3) := by decide +kernel
theorem dX1_goOn_31 : decode cX1_goOn 31 = .ok (.iload_n 1, 1) := by decide +kernel
theorem dX1_goOn_32 : decode cX1_goOn 32 = .ok (.iload 4, 2) := by decide +kernel
theorem dX1_goOn_34 : decode cX1_goOn 34 = .ok (.ishr, 1) := by decide +kernel
theorem dX1_goOn_35 : decode cX1_goOn 35 = .ok (.iconst 1, 1) := by decide +kernel
theorem dX1_goOn_36 : decode cX1_goOn 36 = .ok (.iand, 1) := by decide +kernel
theorem dX1_goOn_37 : decode cX1_goOn 37 = .ok (.iconst 1, 1) := by decide +kernel
theorem dX1_goOn_38 : decode cX1_goOn 38 = .ok (.if_icmp .ne 6, 3) := by decide +kernel
theorem dX1_goOn_41 : decode cX1_goOn 41 = .ok (.goto 38, 3) := by decide +kernel
theorem dX1_goOn_44 : decode cX1_goOn 44 = .ok (.iload_n 1, 1) := by decide +kernel
theorem dX1_goOn_45 : decode cX1_goOn 45 = .ok (.iconst 1, 1) := by decide +kernel
theorem dX1_goOn_46 : decode cX1_goOn 46 = .ok (.iload 4, 2) := by decide +kernel
theorem dX1_goOn_48 : decode cX1_goOn 48 = .ok (.ishl, 1) := by decide +kernel
theorem dX1_goOn_49 : decode cX1_goOn 49 = .ok (.ior, 1) := by decide +kernel
theorem dX1_goOn_50 : decode cX1_goOn 50 = .ok (.bipush 8, 2) := by decide +kernel
theorem dX1_goOn_52 : decode cX1_goOn 52 = .ok (.imul, 1) := by decide +kernel
theorem dX1_goOn_53 : decode cX1_goOn 53 = .ok (.iload 4, 2) := by decide +kernel
theorem dX1_goOn_55 : decode cX1_goOn 55 = .ok (.iadd, 1) := by decide +kernel
theorem dX1_goOn_56 : decode cX1_goOn 56 = .ok (.istore 6, 2) := by decide +kernel
theorem dX1_goOn_58 : decode cX1_goOn 58 = .ok (.aload_n 0, 1) := by decide +kernel
theorem dX1_goOn_59 : decode cX1_goOn 59 = .ok (.getfield 18, 3) := by decide +kernel
theorem dX1_goOn_62 : decode cX1_goOn 62 = .ok (.iload 6, 2) := by decide +kernel
theorem dX1_goOn_64 : decode cX1_goOn 64 = .ok (.aload_n 0, 1) := by decide +kernel
theorem dX1_goOn_65 : decode cX1_goOn 65 = .ok (.getfield 18, 3) := by decide +kernel
theorem dX1_goOn_68 : decode cX1_goOn 68 = .ok (.iload 6, 2) := by decide +kernel
theorem dX1_goOn_70 : decode cX1_goOn 70 = .ok (.iaload, 1) := by decide +kernel
theorem dX1_goOn_71 : decode cX1_goOn 71 = .ok (.iload_n 3, 1) := by decide +kernel
theorem dX1_goOn_72 : decode cX1_goOn 72 = .ok (.iload 5, 2) := by decide +kernel
theorem dX1_goOn_74 : decode cX1_goOn 74 = .ok (.iadd, 1) := by decide +kernel
theorem dX1_goOn_75 : decode cX1_goOn 75 = .ok (.invokestatic 32, 3) := by decide +kernel
theorem dX1_goOn_78 : decode cX1_goOn 78 = .ok (.iastore, 1) := by decide +kernel
theorem dX1_goOn_79 : decode cX1_goOn 79 = .ok (.iinc 4 1, 3) := by decide +kernel
theorem dX1_goOn_82 : decode cX1_goOn 82 = .ok (.goto (-79), 3) := by decide +kernel
theorem dX1_goOn_85 : decode cX1_goOn 85 = .ok (.return_, 1) := by decide +kernel
theorem dX1_findSteps_0 : decode cX1_findSteps 0 = .ok (.aload_n 0, 1) := by decide +kernel
theorem dX1_findSteps_1 : decode cX1_findSteps 1 = .ok (.getfield 15, 3) := by decide +kernel
theorem dX1_findSteps_4 : decode cX1_findSteps 4 = .ok (.ldc 25, 2) := by decide +kernel
theorem dX1_findSteps_6 : decode cX1_findSteps 6 = .ok (.invokestatic 26, 3) := by decide +kernel
theorem dX1_findSteps_9 : decode cX1_findSteps 9 = .ok (.iconst 0, 1) := by decide +kernel
theorem dX1_findSteps_10 : decode cX1_findSteps 10 = .ok (.istore_n 2, 1) := by decide +kernel
theorem dX1_findSteps_11 : decode cX1_findSteps 11 = .ok (.iload_n 2, 1) := by decide +kernel
theorem dX1_findSteps_12 : decode cX1_findSteps 12 = .ok (.bipush 8, 2) := by decide +kernel
theorem dX1_findSteps_14 : decode cX1_findSteps 14 = .ok (.if_icmp .ge 99, 3) := by decide +kernel
theorem dX1_findSteps_17 : decode cX1_findSteps 17 = .ok (.aload_n 1, 1) := by decide +kernel
theorem dX1_findSteps_18 : decode cX1_findSteps 18 = .ok (.getfield 42, 3) := by decide +kernel
theorem dX1_findSteps_21 : decode cX1_findSteps 21 = .ok (.iload_n 2, 1) := by decide +kernel
theorem dX1_findSteps_22 : decode cX1_findSteps 22 = .ok (.aaload, 1) := by decide +kernel
theorem dX1_findSteps_23 : decode cX1_findSteps 23 = .ok (.astore_n 3, 1) := by decide +kernel
theorem dX1_findSteps_24 : decode cX1_findSteps 24 = .ok (.aload_n 3, 1) := by decide +kernel
theorem dX1_findSteps_25 : decode cX1_findSteps 25 = .ok (.ifnonnull 6, 3) := by decide +kernel
theorem dX1_findSteps_28 : decode cX1_findSteps 28 = .ok (.goto 79, 3) := by decide +kernel
theorem dX1_findSteps_31 : decode cX1_findSteps 31 = .ok (.aload_n 0, 1) := by decide +kernel
theorem dX1_findSteps_32 : decode cX1_findSteps 32 = .ok (.aload_n 3, 1) := by decide +kernel
theorem dX1_findSteps_33 : decode cX1_findSteps 33 = .ok (.invokevirtual 48, 3) := by decide +kernel
theorem dX1_findSteps_36 : decode cX1_findSteps 36 = .ok (.aload_n 3, 1) := by decide +kernel
theorem dX1_findSteps_37 : decode cX1_findSteps 37 = .ok (.getfield 52, 3) := by decide +kernel
theorem dX1_findSteps_40 : decode cX1_findSteps 40 = .ok (.astore 4, 2) := by decide +kernel
theorem dX1_findSteps_42 : decode cX1_findSteps 42 = .ok (.aload 4, 2) := by decide +kernel
theorem dX1_findSteps_44 : decode cX1_findSteps 44 = .ok (.arraylength, 1) := by decide +kernel
theorem dX1_findSteps_45 : decode cX1_findSteps 45 = .ok (.istore 5, 2) := by decide +kernel
theorem dX1_findSteps_47 : decode cX1_findSteps 47 = .ok (.iconst 0, 1) := by decide +kernel
theorem dX1_findSteps_48 : decode cX1_findSteps 48 = .ok (.istore 6, 2) := by decide +kernel
theorem dX1_findSteps_50 : decode cX1_findSteps 50 = .ok (.iload 6, 2) := by decide +kernel
theorem dX1_findSteps_52 : decode cX1_findSteps 52 = .ok (.iload 5, 2) := by decide +kernel
theorem dX1_findSteps_54 : decode cX1_findSteps 54 = .ok (.if_icmp .ge 53, 3) := by decide +kernel
theorem dX1_findSteps_57 : decode cX1_findSteps 57 = .ok (.aload 4, 2) := by decide +kernel
theorem dX1_findSteps_59 : decode cX1_findSteps 59 = .ok (.iload 6, 2) := by decide +kernel
theorem dX1_findSteps_61 : decode cX1_findSteps 61 = .ok (.iaload, 1) := by decide +kernel
theorem dX1_findSteps_62 : decode cX1_findSteps 62 = .ok (.istore 7, 2) := by decide +kernel
theorem dX1_findSteps_64 : decode cX1_findSteps 64 = .ok (.iload_n 2, 1) := by decide +kernel
theorem dX1_findSteps_65 : decode cX1_findSteps 65 = .ok (.bipush 8, 2) := by decide +kernel
theorem dX1_findSteps_67 : decode cX1_findSteps 67 = .ok (.imul, 1) := by decide +kernel
theorem dX1_findSteps_68 : decode cX1_findSteps 68 = .ok (.aload_n 3, 1) := by decide +kernel
theorem dX1_findSteps_69 : decode cX1_findSteps 69 = .ok (.iload 7, 2) := by decide +kernel
theorem dX1_findSteps_71 : decode cX1_findSteps 71 = .ok (.invokevirtual 57, 3) := by decide +kernel
theorem dX1_findSteps_74 : decode cX1_findSteps 74 = .ok (.iadd, 1) := by decide +kernel
theorem dX1_findSteps_75 : decode cX1_findSteps 75 = .ok (.istore 8, 2) := by decide +kernel
theorem dX1_findSteps_77 : decode cX1_findSteps 77 = .ok (.aload_n 0, 1) := by decide +kernel
theorem dX1_findSteps_78 : decode cX1_findSteps 78 = .ok (.getfield 15, 3) := by decide +kernel
theorem dX1_findSteps_81 : decode cX1_findSteps 81 = .ok (.iload 8, 2) := by decide +kernel
theorem dX1_findSteps_83 : decode cX1_findSteps 83 = .ok (.aload_n 0, 1) := by decide +kernel
theorem dX1_findSteps_84 : decode cX1_findSteps 84 = .ok (.getfield 15, 3) := by decide +kernel
theorem dX1_findSteps_87 : decode cX1_findSteps 87 = .ok (.iload 8, 2) := by decide +kernel
theorem dX1_findSteps_89 : decode cX1_findSteps 89 = .ok (.iaload, 1) := by decide +kernel
theorem dX1_findSteps_90 : decode cX1_findSteps 90 = .ok (.aload_n 0, 1) := by decide +kernel
theorem dX1_findSteps_91 : decode cX1_findSteps 91 = .ok (.getfield 9, 3) := by decide +kernel
theorem dX1_findSteps_94 : decode cX1_findSteps 94 = .ok (.iload 7, 2) := by decide +kernel
theorem dX1_findSteps_96 : decode cX1_findSteps 96 = .ok (.iaload, 1) := by decide +kernel
theorem dX1_findSteps_97 : decode cX1_findSteps 97 = .ok (.invokestatic 32, 3) := by decide +kernel
theorem dX1_findSteps_100 : decode cX1_findSteps 100 = .ok (.iastore, 1) := by decide +kernel
theorem dX1_findSteps_101 : decode cX1_findSteps 101 = .ok (.iinc 6 1, 3) := by decide +kernel
theorem dX1_findSteps_104 : decode cX1_findSteps 104 = .ok (.goto (-54), 3) := by decide +kernel
theorem dX1_findSteps_107 : decode cX1_findSteps 107 = .ok (.iinc 2 1, 3) := by decide +kernel
theorem dX1_findSteps_110 : decode cX1_findSteps 110 = .ok (.goto (-99), 3) := by decide +kernel
theorem dX1_findSteps_113 : decode cX1_findSteps 113 = .ok (.return_, 1) := by decide +kernel
theorem dX1_findShifts_0 : decode cX1_findShifts 0 = .ok (.aload_n 0, 1) := by decide +kernel
theorem dX1_findShifts_1 : decode cX1_findShifts 1 = .ok (.getfield 9, 3) := by decide +kernel
theorem dX1_findShifts_4 : decode cX1_findShifts 4 = .ok (.iconst 0, 1) := by decide +kernel
theorem dX1_findShifts_5 : decode cX1_findShifts 5 = .ok (.iconst 0, 1) := by decide +kernel
theorem dX1_findShifts_6 : decode cX1_findShifts 6 = .ok (.iastore, 1) := by decide +kernel
theorem dX1_findShifts_7 : decode cX1_findShifts 7 = .ok (.iconst 0, 1) := by decide +kernel
theorem dX1_findShifts_8 : decode cX1_findShifts 8 = .ok (.istore_n 2, 1) := by decide +kernel
theorem dX1_findShifts_9 : decode cX1_findShifts 9 = .ok (.iload_n 2, 1) := by decide +kernel
theorem dX1_findShifts_10 : decode cX1_findShifts 10 = .ok (.aload_n 1, 1) := by decide +kernel
theorem dX1_findShifts_11 : decode cX1_findShifts 11 = .ok (.getfield 61, 3) := by decide +kernel
theorem dX1_findShifts_14 : decode cX1_findShifts 14 = .ok (.if_icmp .ge 95, 3) := by decide +kernel
theorem dX1_findShifts_17 : decode cX1_findShifts 17 = .ok (.aload_n 1, 1) := by decide +kernel
theorem dX1_findShifts_18 : decode cX1_findShifts 18 = .ok (.getfield 65, 3) := by decide +kernel
theorem dX1_findShifts_21 : decode cX1_findShifts 21 = .ok (.iload_n 2, 1) := by decide +kernel
theorem dX1_findShifts_22 : decode cX1_findShifts 22 = .ok (.iaload, 1) := by decide +kernel
theorem dX1_findShifts_23 : decode cX1_findShifts 23 = .ok (.istore_n 3, 1) := by decide +kernel
theorem dX1_findShifts_24 : decode cX1_findShifts 24 = .ok (.iload_n 3, 1) := by decide +kernel
theorem dX1_findShifts_25 : decode cX1_findShifts 25 = .ok (.invokestatic 68, 3) := by decide +kernel
theorem dX1_findShifts_28 : decode cX1_findShifts 28 = .ok (.ifCond .eq 6, 3) := by decide +kernel
theorem dX1_findShifts_31 : decode cX1_findShifts 31 = .ok (.goto 72, 3) := by decide +kernel
theorem dX1_findShifts_34 : decode cX1_findShifts 34 = .ok (.iload_n 3, 1) := by decide +kernel
theorem dX1_findShifts_35 : decode cX1_findShifts 35 = .ok (.invokestatic 74, 3) := by decide +kernel
theorem dX1_findShifts_38 : decode cX1_findShifts 38 = .ok (.ifCond .eq 39, 3) := by decide +kernel
theorem dX1_findShifts_41 : decode cX1_findShifts 41 = .ok (.aload_n 0, 1) := by decide +kernel
theorem dX1_findShifts_42 : decode cX1_findShifts 42 = .ok (.getfield 9, 3) := by decide +kernel
theorem dX1_findShifts_45 : decode cX1_findShifts 45 = .ok (.iload_n 2, 1) := by decide +kernel
theorem dX1_findShifts_46 : decode cX1_findShifts 46 = .ok (.iconst 1, 1) := by decide +kernel
theorem dX1_findShifts_47 : decode cX1_findShifts 47 = .ok (.iadd, 1) := by decide +kernel
theorem dX1_findShifts_48 : decode cX1_findShifts 48 = .ok (.aload_n 0, 1) := by decide +kernel
theorem dX1_findShifts_49 : decode cX1_findShifts 49 = .ok (.getfield 9, 3) := by decide +kernel
theorem dX1_findShifts_52 : decode cX1_findShifts 52 = .ok (.iload_n 2, 1) := by decide +kernel
theorem dX1_findShifts_53 : decode cX1_findShifts 53 = .ok (.iaload, 1) := by decide +kernel
theorem dX1_findShifts_54 : decode cX1_findShifts 54 = .ok (.iastore, 1) := by decide +kernel
theorem dX1_findShifts_55 : decode cX1_findShifts 55 = .ok (.aload_n 0, 1) := by decide +kernel
theorem dX1_findShifts_56 : decode cX1_findShifts 56 = .ok (.getfield 9, 3) := by decide +kernel
theorem dX1_findShifts_59 : decode cX1_findShifts 59 = .ok (.aload_n 1, 1) := by decide +kernel
theorem dX1_findShifts_60 : decode cX1_findShifts 60 = .ok (.getfield 77, 3) := by decide +kernel
theorem dX1_findShifts_63 : decode cX1_findShifts 63 = .ok (.iload_n 2, 1) := by decide +kernel
theorem dX1_findShifts_64 : decode cX1_findShifts 64 = .ok (.iconst 1, 1) := by decide +kernel
theorem dX1_findShifts_65 : decode cX1_findShifts 65 = .ok (.iadd, 1) := by decide +kernel
theorem dX1_findShifts_66 : decode cX1_findShifts 66 = .ok (.iaload, 1) := by decide +kernel
theorem dX1_findShifts_67 : decode cX1_findShifts 67 = .ok (.aload_n 0, 1) := by decide +kernel
theorem dX1_findShifts_68 : decode cX1_findShifts 68 = .ok (.getfield 9, 3) := by decide +kernel
theorem dX1_findShifts_71 : decode cX1_findShifts 71 = .ok (.iload_n 2, 1) := by decide +kernel
theorem dX1_findShifts_72 : decode cX1_findShifts 72 = .ok (.iaload, 1) := by decide +kernel
theorem dX1_findShifts_73 : decode cX1_findShifts 73 = .ok (.iastore, 1) := by decide +kernel
theorem dX1_findShifts_74 : decode cX1_findShifts 74 = .ok (.goto 29, 3) := by decide +kernel
theorem dX1_findShifts_77 : decode cX1_findShifts 77 = .ok (.aload_n 0, 1) := by decide +kernel
theorem dX1_findShifts_78 : decode cX1_findShifts 78 = .ok (.getfield 9, 3) := by decide +kernel
theorem dX1_findShifts_81 : decode cX1_findShifts 81 = .ok (.iload_n 2, 1) := by decide +kernel
theorem dX1_findShifts_82 : decode cX1_findShifts 82 = .ok (.iconst 1, 1) := by decide +kernel
theorem dX1_findShifts_83 : decode cX1_findShifts 83 = .ok (.iadd, 1) := by decide +kernel
theorem dX1_findShifts_84 : decode cX1_findShifts 84 = .ok (.aload_n 0, 1) := by decide +kernel
theorem dX1_findShifts_85 : decode cX1_findShifts 85 = .ok (.getfield 9, 3) := by decide +kernel
theorem dX1_findShifts_88 : decode cX1_findShifts 88 = .ok (.iload_n 2, 1) := by decide +kernel
theorem dX1_findShifts_89 : decode cX1_findShifts 89 = .ok (.iaload, 1) := by decide +kernel
theorem dX1_findShifts_90 : decode cX1_findShifts 90 = .ok (.iload_n 3, 1) := by decide +kernel
theorem dX1_findShifts_91 : decode cX1_findShifts 91 = .ok (.bipush 116, 2) := by decide +kernel
theorem dX1_findShifts_93 : decode cX1_findShifts 93 = .ok (.if_icmp .ne 7, 3) := by decide +kernel
theorem dX1_findShifts_96 : decode cX1_findShifts 96 = .ok (.iconst 1, 1) := by decide +kernel
theorem dX1_findShifts_97 : decode cX1_findShifts 97 = .ok (.goto 4, 3) := by decide +kernel
theorem dX1_findShifts_100 : decode cX1_findShifts 100 = .ok (.iconst (-1), 1) := by decide +kernel
theorem dX1_findShifts_101 : decode cX1_findShifts 101 = .ok (.iadd, 1) := by decide +kernel
theorem dX1_findShifts_102 : decode cX1_findShifts 102 = .ok (.iastore, 1) := by decide +kernel
theorem dX1_findShifts_103 : decode cX1_findShifts 103 = .ok (.iinc 2 1, 3) := by decide +kernel
theorem dX1_findShifts_106 : decode cX1_findShifts 106 = .ok (.goto (-97), 3) := by decide +kernel
theorem dX1_findShifts_109 : decode cX1_findShifts 109 = .ok (.return_, 1) := by decide +kernel
theorem dX2_init_0 : decode cX2_init 0 = .ok (.aload_n 0, 1) := by decide +kernel
theorem dX2_init_1 : decode cX2_init 1 = .ok (.invokespecial 3, 3) := by decide +kernel
theorem dX2_init_4 : decode cX2_init 4 = .ok (.aload_n 0, 1) := by decide +kernel
theorem dX2_init_5 : decode cX2_init 5 = .ok (.iconst 2, 1) := by decide +kernel
theorem dX2_init_6 : decode cX2_init 6 = .ok (.putfield 9, 3) := by decide +kernel
theorem dX2_init_9 : decode cX2_init 9 = .ok (.aload_n 0, 1) := by decide +kernel
theorem dX2_init_10 : decode cX2_init 10 = .ok (.bipush 8, 2) := by decide +kernel
theorem dX2_init_12 : decode cX2_init 12 = .ok (.anewarray 15, 3) := by decide +kernel
theorem dX2_init_15 : decode cX2_init 15 = .ok (.putfield 17, 3) := by decide +kernel
theorem dX2_init_18 : decode cX2_init 18 = .ok (.return_, 1) := by decide +kernel
theorem dX2_copyFrom_0 : decode cX2_copyFrom 0 = .ok (.aload_n 0, 1) := by decide +kernel
theorem dX2_copyFrom_1 : decode cX2_copyFrom 1 = .ok (.aload_n 1, 1) := by decide +kernel
theorem dX2_copyFrom_2 : decode cX2_copyFrom 2 = .ok (.getfield 9, 3) := by decide +kernel
theorem dX2_copyFrom_5 : decode cX2_copyFrom 5 = .ok (.putfield 9, 3) := by decide +kernel
theorem dX2_copyFrom_8 : decode cX2_copyFrom 8 = .ok (.iconst 0, 1) := by decide +kernel
theorem dX2_copyFrom_9 : decode cX2_copyFrom 9 = .ok (.istore_n 2, 1) := by decide +kernel
theorem dX2_copyFrom_10 : decode cX2_copyFrom 10 = .ok (.iload_n 2, 1) := by decide +kernel
theorem dX2_copyFrom_11 : decode cX2_copyFrom 11 = .ok (.bipush 8, 2) := by decide +kernel
theorem dX2_copyFrom_13 : decode cX2_copyFrom 13 = .ok (.if_icmp .ge 21, 3) := by decide +kernel
theorem dX2_copyFrom_16 : decode cX2_copyFrom 16 = .ok (.aload_n 0, 1) := by decide +kernel
theorem dX2_copyFrom_17 : decode cX2_copyFrom 17 = .ok (.getfield 17, 3) := by decide +kernel
theorem dX2_copyFrom_20 : decode cX2_copyFrom 20 = .ok (.iload_n 2, 1) := by decide +kernel
theorem dX2_copyFrom_21 : decode cX2_copyFrom 21 = .ok (.aload_n 1, 1) := by decide +kernel
theorem dX2_copyFrom_22 : decode cX2_copyFrom 22 = .ok (.getfield 17, 3) := by decide +kernel
theorem dX2_copyFrom_25 : decode cX2_copyFrom 25 = .ok (.iload_n 2, 1) := by decide +kernel
theorem dX2_copyFrom_26 : decode cX2_copyFrom 26 = .ok (.aaload, 1) := by decide +kernel
theorem dX2_copyFrom_27 : decode cX2_copyFrom 27 = .ok (.aastore, 1) := by decide +kernel
theorem dX2_copyFrom_28 : decode cX2_copyFrom 28 = .ok (.iinc 2 1, 3) := by decide +kernel
theorem dX2_copyFrom_31 : decode cX2_copyFrom 31 = .ok (.goto (-21), 3) := by decide +kernel
theorem dX2_copyFrom_34 : decode cX2_copyFrom 34 = .ok (.return_, 1) := by decide +kernel
theorem dX2_count_0 : decode cX2_count 0 = .ok (.iconst 0, 1) := by decide +kernel
theorem dX2_count_1 : decode cX2_count 1 = .ok (.istore_n 1, 1) := by decide +kernel
theorem dX2_count_2 : decode cX2_count 2 = .ok (.iconst 0, 1) := by decide +kernel
theorem dX2_count_3 : decode cX2_count 3 = .ok (.istore_n 2, 1) := by decide +kernel
theorem dX2_count_4 : decode cX2_count 4 = .ok (.iload_n 2, 1) := by decide +kernel
theorem dX2_count_5 : decode cX2_count 5 = .ok (.bipush 8, 2) := by decide +kernel
theorem dX2_count_7 : decode cX2_count 7 = .ok (.if_icmp .ge 21, 3) := by decide +kernel
theorem dX2_count_10 : decode cX2_count 10 = .ok (.aload_n 0, 1) := by decide +kernel
theorem dX2_count_11 : decode cX2_count 11 = .ok (.getfield 17, 3) := by decide +kernel
theorem dX2_count_14 : decode cX2_count 14 = .ok (.iload_n 2, 1) := by decide +kernel
theorem dX2_count_15 : decode cX2_count 15 = .ok (.aaload, 1) := by decide +kernel
theorem dX2_count_16 : decode cX2_count 16 = .ok (.ifnull 6, 3) := by decide +kernel
theorem dX2_count_19 : decode cX2_count 19 = .ok (.iinc 1 1, 3) := by decide +kernel
theorem dX2_count_22 : decode cX2_count 22 = .ok (.iinc 2 1, 3) := by decide +kernel
theorem dX2_count_25 : decode cX2_count 25 = .ok (.goto (-21), 3) := by decide +kernel
theorem dX2_count_28 : decode cX2_count 28 = .ok (.iload_n 1, 1) := by decide +kernel
theorem dX2_count_29 : decode cX2_count 29 = .ok (.ireturn, 1) := by decide +kernel
theorem dX2_totalSize_0 : decode cX2_totalSize 0 = .ok (.iconst 0, 1) := by decide +kernel
theorem dX2_totalSize_1 : decode cX2_totalSize 1 = .ok (.istore_n 1, 1) := by decide +kernel
theorem dX2_totalSize_2 : decode cX2_totalSize 2 = .ok (.iconst 0, 1) := by decide +kernel
theorem dX2_totalSize_3 : decode cX2_totalSize 3 = .ok (.istore_n 2, 1) := by decide +kernel
theorem dX2_totalSize_4 : decode cX2_totalSize 4 = .ok (.iload_n 2, 1) := by decide +kernel
theorem dX2_totalSize_5 : decode cX2_totalSize 5 = .ok (.bipush 8, 2) := by decide +kernel
theorem dX2_totalSize_7 : decode cX2_totalSize 7 = .ok (.if_icmp .ge 30, 3) := by decide +kernel
theorem dX2_totalSize_10 : decode cX2_totalSize 10 = .ok (.aload_n 0, 1) := by decide +kernel
theorem dX2_totalSize_11 : decode cX2_totalSize 11 = .ok (.getfield 17, 3) := by decide +kernel
theorem dX2_totalSize_14 : decode cX2_totalSize 14 = .ok (.iload_n 2, 1) := by decide +kernel
theorem dX2_totalSize_15 : decode cX2_totalSize 15 = .ok (.aaload, 1) := by decide +kernel
theorem dX2_totalSize_16 : decode cX2_totalSize 16 = .ok (.ifnull 15, 3) := by decide +kernel
theorem dX2_totalSize_19 : decode cX2_totalSize 19 = .ok (.iload_n 1, 1) := by decide +kernel
theorem dX2_totalSize_20 : decode cX2_totalSize 20 = .ok (.aload_n 0, 1) := by decide +kernel
theorem dX2_totalSize_21 : decode cX2_totalSize 21 = .ok (.getfield 17, 3) := by decide +kernel
theorem dX2_totalSize_24 : decode cX2_totalSize 24 = .ok (.iload_n 2, 1) := by decide +kernel
theorem dX2_totalSize_25 : decode cX2_totalSize 25 = .ok (.aaload, 1) := by decide +kernel
theorem dX2_totalSize_26 : decode cX2_totalSize 26 = .ok (.getfield 21, 3) := by decide +kernel
theorem dX2_totalSize_29 : decode cX2_totalSize 29 = .ok (.iadd, 1) := by decide +kernel
theorem dX2_totalSize_30 : decode cX2_totalSize 30 = .ok (.istore_n 1, 1) := by decide +kernel
theorem dX2_totalSize_31 : decode cX2_totalSize 31 = .ok (.iinc 2 1, 3) := by decide +kernel
theorem dX2_totalSize_34 : decode cX2_totalSize 34 = .ok (.goto (-30), 3) := by decide +kernel
theorem dX2_totalSize_37 : decode cX2_totalSize 37 = .ok (.iload_n 1, 1) := by decide +kernel
theorem dX2_totalSize_38 : decode cX2_totalSize 38 = .ok (.ireturn, 1) := by decide +kernel
theorem dX2_isPlain_0 : decode cX2_isPlain 0 = .ok (.iconst 0, 1) := by decide +kernel
theorem dX2_isPlain_1 : decode cX2_isPlain 1 = .ok (.istore_n 1, 1) := by decide +kernel
theorem dX2_isPlain_2 : decode cX2_isPlain 2 = .ok (.iload_n 1, 1) := by decide +kernel
theorem dX2_isPlain_3 : decode cX2_isPlain 3 = .ok (.bipush 8, 2) := by decide +kernel
theorem dX2_isPlain_5 : decode cX2_isPlain 5 = .ok (.if_icmp .ge 32, 3) := by decide +kernel
theorem dX2_isPlain_8 : decode cX2_isPlain 8 = .ok (.aload_n 0, 1) := by decide +kernel
theorem dX2_isPlain_9 : decode cX2_isPlain 9 = .ok (.getfield 17, 3) := by decide +kernel
theorem dX2_isPlain_12 : decode cX2_isPlain 12 = .ok (.iload_n 1, 1) := by decide +kernel
theorem dX2_isPlain_13 : decode cX2_isPlain 13 = .ok (.aaload, 1) := by decide +kernel
theorem dX2_isPlain_14 : decode cX2_isPlain 14 = .ok (.ifnull 17, 3) := by decide +kernel
theorem dX2_isPlain_17 : decode cX2_isPlain 17 = .ok (.aload_n 0, 1) := by decide +kernel
theorem dX2_isPlain_18 : decode cX2_isPlain 18 = .ok (.getfield 17, 3) := by decide +kernel
theorem dX2_isPlain_21 : decode cX2_isPlain 21 = .ok (.iload_n 1, 1) := by decide +kernel
theorem dX2_isPlain_22 : decode cX2_isPlain 22 = .ok (.aaload, 1) := by decide +kernel
theorem dX2_isPlain_23 : decode cX2_isPlain 23 = .ok (.invokevirtual 24, 3) := by decide +kernel
theorem dX2_isPlain_26 : decode cX2_isPlain 26 = .ok (.ifCond .ne 5, 3) := by decide +kernel
theorem dX2_isPlain_29 : decode cX2_isPlain 29 = .ok (.iconst 0, 1) := by decide +kernel
theorem dX2_isPlain_30 : decode cX2_isPlain 30 = .ok (.ireturn, 1) := by decide +kernel
theorem dX2_isPlain_31 : decode cX2_isPlain 31 = .ok (.iinc 1 1, 3) := by decide +kernel
theorem dX2_isPlain_34 : decode cX2_isPlain 34 = .ok (.goto (-32), 3) := by decide +kernel
theorem dX2_isPlain_37 : decode cX2_isPlain 37 = .ok (.iconst 1, 1) := by decide +kernel
theorem dX2_isPlain_38 : decode cX2_isPlain 38 = .ok (.ireturn, 1) := by decide +kernel
theorem dX3_init_0 : decode cX3_init 0 = .ok (.aload_n 0, 1) := by decide +kernel
theorem dX3_init_1 : decode cX3_init 1 = .ok (.invokespecial 1, 3) := by decide +kernel
theorem dX3_init_4 : decode cX3_init 4 = .ok (.aload_n 0, 1) := by decide +kernel
theorem dX3_init_5 : decode cX3_init 5 = .ok (.bipush 8, 2) := by decide +kernel
theorem dX3_init_7 : decode cX3_init 7 = .ok (.anewarray 9, 3) := by decide +kernel
theorem dX3_init_10 : decode cX3_init 10 = .ok (.putfield 11, 3) := by decide +kernel
theorem dX3_init_13 : decode cX3_init 13 = .ok (.return_, 1) := by decide +kernel
theorem dX3_record_0 : decode cX3_record 0 = .ok (.aload_n 0, 1) := by decide +kernel
theorem dX3_record_1 : decode cX3_record 1 = .ok (.getfield 15, 3) := by decide +kernel
theorem dX3_record_4 : decode cX3_record 4 = .ok (.aload_n 0, 1) := by decide +kernel
theorem dX3_record_5 : decode cX3_record 5 = .ok (.getfield 19, 3) := by decide +kernel
theorem dX3_record_8 : decode cX3_record 8 = .ok (.iadd, 1) := by decide +kernel
theorem dX3_record_9 : decode cX3_record 9 = .ok (.bipush 8, 2) := by decide +kernel
theorem dX3_record_11 : decode cX3_record 11 = .ok (.irem, 1) := by decide +kernel
theorem dX3_record_12 : decode cX3_record 12 = .ok (.istore_n 2, 1) := by decide +kernel
theorem dX3_record_13 : decode cX3_record 13 = .ok (.aload_n 0, 1) := by decide +kernel
theorem dX3_record_14 : decode cX3_record 14 = .ok (.getfield 11, 3) := by decide +kernel
theorem dX3_record_17 : decode cX3_record 17 = .ok (.iload_n 2, 1) := by decide +kernel
theorem dX3_record_18 : decode cX3_record 18 = .ok (.aaload, 1) := by decide +kernel
theorem dX3_record_19 : decode cX3_record 19 = .ok (.astore_n 3, 1) := by decide +kernel
theorem dX3_record_20 : decode cX3_record 20 = .ok (.aload_n 3, 1) := by decide +kernel
theorem dX3_record_21 : decode cX3_record 21 = .ok (.ifnonnull 18, 3) := by decide +kernel
theorem dX3_record_24 : decode cX3_record 24 = .ok (.new 9, 3) := by decide +kernel
theorem dX3_record_27 : decode cX3_record 27 = .ok (.dup, 1) := by decide +kernel
theorem dX3_record_28 : decode cX3_record 28 = .ok (.invokespecial 22, 3) := by decide +kernel
theorem dX3_record_31 : decode cX3_record 31 = .ok (.astore_n 3, 1) := by decide +kernel
theorem dX3_record_32 : decode cX3_record 32 = .ok (.aload_n 0, 1) := by decide +kernel
theorem dX3_record_33 : decode cX3_record 33 = .ok (.getfield 11, 3) := by decide +kernel
theorem dX3_record_36 : decode cX3_record 36 = .ok (.iload_n 2, 1) := by decide +kernel
theorem dX3_record_37 : decode cX3_record 37 = .ok (.aload_n 3, 1) := by decide +kernel
theorem dX3_record_38 : decode cX3_record 38 = .ok (.aastore, 1) := by decide +kernel
theorem dX3_record_39 : decode cX3_record 39 = .ok (.aload_n 3, 1) := by decide +kernel
theorem dX3_record_40 : decode cX3_record 40 = .ok (.aload_n 1, 1) := by decide +kernel
theorem dX3_record_41 : decode cX3_record 41 = .ok (.invokevirtual 23, 3) := by decide +kernel
theorem dX3_record_44 : decode cX3_record 44 = .ok (.aload_n 0, 1) := by decide +kernel
theorem dX3_record_45 : decode cX3_record 45 = .ok (.getfield 19, 3) := by decide +kernel
theorem dX3_record_48 : decode cX3_record 48 = .ok (.bipush 8, 2) := by decide +kernel
theorem dX3_record_50 : decode cX3_record 50 = .ok (.if_icmp .ge 16, 3) := by decide +kernel
theorem dX3_record_53 : decode cX3_record 53 = .ok (.aload_n 0, 1) := by decide +kernel
theorem dX3_record_54 : decode cX3_record 54 = .ok (.dup, 1) := by decide +kernel
theorem dX3_record_55 : decode cX3_record 55 = .ok (.getfield 19, 3) := by decide +kernel
theorem dX3_record_58 : decode cX3_record 58 = .ok (.iconst 1, 1) := by decide +kernel
theorem dX3_record_59 : decode cX3_record 59 = .ok (.iadd, 1) := by decide +kernel
theorem dX3_record_60 : decode cX3_record 60 = .ok (.putfield 19, 3) := by decide +kernel
theorem dX3_record_63 : decode cX3_record 63 = .ok (.goto 16, 3) := by decide +kernel
theorem dX3_record_66 : decode cX3_record 66 = .ok (.aload_n 0, 1) := by decide +kernel
theorem dX3_record_67 : decode cX3_record 67 = .ok (.aload_n 0, 1) := by decide +kernel
theorem dX3_record_68 : decode cX3_record 68 = .ok (.getfield 15, 3) := by decide +kernel
theorem dX3_record_71 : decode cX3_record 71 = .ok (.iconst 1, 1) := by decide +kernel
theorem dX3_record_72 : decode cX3_record 72 = .ok (.iadd, 1) := by decide +kernel
theorem dX3_record_73 : decode cX3_record 73 = .ok (.bipush 8, 2) := by decide +kernel
theorem dX3_record_75 : decode cX3_record 75 = .ok (.irem, 1) := by decide +kernel
theorem dX3_record_76 : decode cX3_record 76 = .ok (.putfield 15, 3) := by decide +kernel
theorem dX3_record_79 : decode cX3_record 79 = .ok (.return_, 1) := by decide +kernel
theorem dX3_restore_0 : decode cX3_restore 0 = .ok (.aload_n 0, 1) := by decide +kernel
theorem dX3_restore_1 : decode cX3_restore 1 = .ok (.getfield 19, 3) := by decide +kernel
theorem dX3_restore_4 : decode cX3_restore 4 = .ok (.ifCond .ne 4, 3) := by decide +kernel
theorem dX3_restore_7 : decode cX3_restore 7 = .ok (.return_, 1) := by decide +kernel
theorem dX3_restore_8 : decode cX3_restore 8 = .ok (.aload_n 0, 1) := by decide +kernel
theorem dX3_restore_9 : decode cX3_restore 9 = .ok (.dup, 1) := by decide +kernel
theorem dX3_restore_10 : decode cX3_restore 10 = .ok (.getfield 19, 3) := by decide +kernel
theorem dX3_restore_13 : decode cX3_restore 13 = .ok (.iconst 1, 1) := by decide +kernel
theorem dX3_restore_14 : decode cX3_restore 14 = .ok (.isub, 1) := by decide +kernel
theorem dX3_restore_15 : decode cX3_restore 15 = .ok (.putfield 19, 3) := by decide +kernel
theorem dX3_restore_18 : decode cX3_restore 18 = .ok (.aload_n 0, 1) := by decide +kernel
theorem dX3_restore_19 : decode cX3_restore 19 = .ok (.getfield 11, 3) := by decide +kernel
theorem dX3_restore_22 : decode cX3_restore 22 = .ok (.aload_n 0, 1) := by decide +kernel
theorem dX3_restore_23 : decode cX3_restore 23 = .ok (.getfield 15, 3) := by decide +kernel
theorem dX3_restore_26 : decode cX3_restore 26 = .ok (.aload_n 0, 1) := by decide +kernel
theorem dX3_restore_27 : decode cX3_restore 27 = .ok (.getfield 19, 3) := by decide +kernel
theorem dX3_restore_30 : decode cX3_restore 30 = .ok (.iadd, 1) := by decide +kernel
theorem dX3_restore_31 : decode cX3_restore 31 = .ok (.bipush 8, 2) := by decide +kernel
theorem dX3_restore_33 : decode cX3_restore 33 = .ok (.irem, 1) := by decide +kernel
theorem dX3_restore_34 : decode cX3_restore 34 = .ok (.aaload, 1) := by decide +kernel
theorem dX3_restore_35 : decode cX3_restore 35 = .ok (.astore_n 2, 1) := by decide +kernel
theorem dX3_restore_36 : decode cX3_restore 36 = .ok (.aload_n 2, 1) := by decide +kernel
theorem dX3_restore_37 : decode cX3_restore 37 = .ok (.ifnull 8, 3) := by decide +kernel
theorem dX3_restore_40 : decode cX3_restore 40 = .ok (.aload_n 1, 1) := by decide +kernel
theorem dX3_restore_41 : decode cX3_restore 41 = .ok (.aload_n 2, 1) := by decide +kernel
theorem dX3_restore_42 : decode cX3_restore 42 = .ok (.invokevirtual 23, 3) := by decide +kernel
theorem dX3_restore_45 : decode cX3_restore 45 = .ok (.return_, 1) := by decide +kernel
theorem dX4_init_0 : decode cX4_init 0 = .ok (.aload_n 0, 1) := by decide +kernel
theorem dX4_init_1 : decode cX4_init 1 = .ok (.invokespecial 3, 3) := by decide +kernel
theorem dX4_init_4 : decode cX4_init 4 = .ok (.aload_n 0, 1) := by decide +kernel
theorem dX4_init_5 : decode cX4_init 5 = .ok (.bipush 120, 2) := by decide +kernel
theorem dX4_init_7 : decode cX4_init 7 = .ok (.newarray .int, 2) := by decide +kernel
theorem dX4_init_9 : decode cX4_init 9 = .ok (.putfield 9, 3) := by decide +kernel
theorem dX4_init_12 : decode cX4_init 12 = .ok (.aload_n 0, 1) := by decide +kernel
theorem dX4_init_13 : decode cX4_init 13 = .ok (.bipush 120, 2) := by decide +kernel
theorem dX4_init_15 : decode cX4_init 15 = .ok (.newarray .int, 2) := by decide +kernel
theorem dX4_init_17 : decode cX4_init 17 = .ok (.putfield 15, 3) := by decide +kernel
theorem dX4_init_20 : decode cX4_init 20 = .ok (.aload_n 0, 1) := by decide +kernel
theorem dX4_init_21 : decode cX4_init 21 = .ok (.bipush 120, 2) := by decide +kernel
theorem dX4_init_23 : decode cX4_init 23 = .ok (.newarray .int, 2) := by decide +kernel
theorem dX4_init_25 : decode cX4_init 25 = .ok (.putfield 18, 3) := by decide +kernel
theorem dX4_init_28 : decode cX4_init 28 = .ok (.return_, 1) := by decide +kernel
theorem dX4_load_0 : decode cX4_load 0 = .ok (.aload_n 0, 1) := by decide +kernel
theorem dX4_load_1 : decode cX4_load 1 = .ok (.aload_n 1, 1) := by decide +kernel
theorem dX4_load_2 : decode cX4_load 2 = .ok (.getfield 21, 3) := by decide +kernel
theorem dX4_load_5 : decode cX4_load 5 = .ok (.bipush 120, 2) := by decide +kernel
theorem dX4_load_7 : decode cX4_load 7 = .ok (.invokestatic 27, 3) := by decide +kernel
theorem dX4_load_10 : decode cX4_load 10 = .ok (.putfield 33, 3) := by decide +kernel
theorem dX4_load_13 : decode cX4_load 13 = .ok (.aload_n 1, 1) := by decide +kernel
theorem dX4_load_14 : decode cX4_load 14 = .ok (.getfield 34, 3) := by decide +kernel
theorem dX4_load_17 : decode cX4_load 17 = .ok (.iconst 0, 1) := by decide +kernel
theorem dX4_load_18 : decode cX4_load 18 = .ok (.aload_n 0, 1) := by decide +kernel
theorem dX4_load_19 : decode cX4_load 19 = .ok (.getfield 9, 3) := by decide +kernel
theorem dX4_load_22 : decode cX4_load 22 = .ok (.iconst 0, 1) := by decide +kernel
theorem dX4_load_23 : decode cX4_load 23 = .ok (.aload_n 0, 1) := by decide +kernel
theorem dX4_load_24 : decode cX4_load 24 = .ok (.getfield 33, 3) := by decide +kernel
theorem dX4_load_27 : decode cX4_load 27 = .ok (.invokestatic 35, 3) := by decide +kernel
theorem dX4_load_30 : decode cX4_load 30 = .ok (.return_, 1) := by decide +kernel
theorem dX4_result_0 : decode cX4_result 0 = .ok (.new 22, 3) := by decide +kernel
theorem dX4_result_3 : decode cX4_result 3 = .ok (.dup, 1) := by decide +kernel
theorem dX4_result_4 : decode cX4_result 4 = .ok (.aload_n 0, 1) := by decide +kernel
theorem dX4_result_5 : decode cX4_result 5 = .ok (.getfield 9, 3) := by decide +kernel
theorem dX4_result_8 : decode cX4_result 8 = .ok (.aload_n 0, 1) := by decide +kernel
theorem dX4_result_9 : decode cX4_result 9 = .ok (.getfield 33, 3) := by decide +kernel
theorem dX4_result_12 : decode cX4_result 12 = .ok (.invokespecial 41, 3) := by decide +kernel
theorem dX4_result_15 : decode cX4_result 15 = .ok (.areturn, 1) := by decide +kernel
theorem dX4_applyAll_0 : decode cX4_applyAll 0 = .ok (.iconst 0, 1) := by decide +kernel
theorem dX4_applyAll_1 : decode cX4_applyAll 1 = .ok (.istore_n 1, 1) := by decide +kernel
theorem dX4_applyAll_2 : decode cX4_applyAll 2 = .ok (.iload_n 1, 1) := by decide +kernel
theorem dX4_applyAll_3 : decode cX4_applyAll 3 = .ok (.ldc 44, 2) := by decide +kernel
theorem dX4_applyAll_5 : decode cX4_applyAll 5 = .ok (.if_icmp .ge 46, 3) := by decide +kernel
theorem dX4_applyAll_8 : decode cX4_applyAll 8 = .ok (.aload_n 0, 1) := by decide +kernel
theorem dX4_applyAll_9 : decode cX4_applyAll 9 = .ok (.getfield 9, 3) := by decide +kernel
theorem dX4_applyAll_12 : decode cX4_applyAll 12 = .ok (.aload_n 0, 1) := by decide +kernel
theorem dX4_applyAll_13 : decode cX4_applyAll 13 = .ok (.getfield 33, 3) := by decide +kernel
theorem dX4_applyAll_16 : decode cX4_applyAll 16 = .ok (.aload_n 0, 1) := by decide +kernel
theorem dX4_applyAll_17 : decode cX4_applyAll 17 = .ok (.getfield 15, 3) := by decide +kernel
theorem dX4_applyAll_20 : decode cX4_applyAll 20 = .ok (.invokestatic 45, 3) := by decide +kernel
theorem dX4_applyAll_23 : decode cX4_applyAll 23 = .ok (.aload_n 0, 1) := by decide +kernel
theorem dX4_applyAll_24 : decode cX4_applyAll 24 = .ok (.invokevirtual 51, 3) := by decide +kernel
theorem dX4_applyAll_27 : decode cX4_applyAll 27 = .ok (.istore_n 2, 1) := by decide +kernel
theorem dX4_applyAll_28 : decode cX4_applyAll 28 = .ok (.iload_n 2, 1) := by decide +kernel
theorem dX4_applyAll_29 : decode cX4_applyAll 29 = .ok (.ifCond .ge 5, 3) := by decide +kernel
theorem dX4_applyAll_32 : decode cX4_applyAll 32 = .ok (.iload_n 1, 1) := by decide +kernel
theorem dX4_applyAll_33 : decode cX4_applyAll 33 = .ok (.ireturn, 1) := by decide +kernel
theorem dX4_applyAll_34 : decode cX4_applyAll 34 = .ok (.aload_n 0, 1) := by decide +kernel
theorem dX4_applyAll_35 : decode cX4_applyAll 35 = .ok (.iload_n 2, 1) := by decide +kernel
theorem dX4_applyAll_36 : decode cX4_applyAll 36 = .ok (.invokevirtual 55, 3) := by decide +kernel
theorem dX4_applyAll_39 : decode cX4_applyAll 39 = .ok (.ifCond .ne 6, 3) := by decide +kernel
theorem dX4_applyAll_42 : decode cX4_applyAll 42 = .ok (.bipush (-3), 2) := by decide +kernel
theorem dX4_applyAll_44 : decode cX4_applyAll 44 = .ok (.ireturn, 1) := by decide +kernel
theorem dX4_applyAll_45 : decode cX4_applyAll 45 = .ok (.iinc 1 1, 3) := by decide +kernel
theorem dX4_applyAll_48 : decode cX4_applyAll 48 = .ok (.goto (-46), 3) := by decide +kernel
theorem dX4_applyAll_51 : decode cX4_applyAll 51 = .ok (.ldc 44, 2) := by decide +kernel
theorem dX4_applyAll_53 : decode cX4_applyAll 53 = .ok (.ireturn, 1) := by decide +kernel
theorem dX4_firstMatch_0 : decode cX4_firstMatch 0 = .ok (.iconst 0, 1) := by decide +kernel
theorem dX4_firstMatch_1 : decode cX4_firstMatch 1 = .ok (.istore_n 1, 1) := by decide +kernel
theorem dX4_firstMatch_2 : decode cX4_firstMatch 2 = .ok (.iload_n 1, 1) := by decide +kernel
theorem dX4_firstMatch_3 : decode cX4_firstMatch 3 = .ok (.aload_n 0, 1) := by decide +kernel
theorem dX4_firstMatch_4 : decode cX4_firstMatch 4 = .ok (.getfield 33, 3) := by decide +kernel
theorem dX4_firstMatch_7 : decode cX4_firstMatch 7 = .ok (.if_icmp .ge 19, 3) := by decide +kernel
theorem dX4_firstMatch_10 : decode cX4_firstMatch 10 = .ok (.aload_n 0, 1) := by decide +kernel
theorem dX4_firstMatch_11 : decode cX4_firstMatch 11 = .ok (.iload_n 1, 1) := by decide +kernel
theorem dX4_firstMatch_12 : decode cX4_firstMatch 12 = .ok (.invokevirtual 59, 3) := by decide +kernel
theorem dX4_firstMatch_15 : decode cX4_firstMatch 15 = .ok (.ifCond .eq 5, 3) := by decide +kernel
theorem dX4_firstMatch_18 : decode cX4_firstMatch 18 = .ok (.iload_n 1, 1) := by decide +kernel
theorem dX4_firstMatch_19 : decode cX4_firstMatch 19 = .ok (.ireturn, 1) := by decide +kernel
theorem dX4_firstMatch_20 : decode cX4_firstMatch 20 = .ok (.iinc 1 1, 3) := by decide +kernel
theorem dX4_firstMatch_23 : decode cX4_firstMatch 23 = .ok (.goto (-21), 3) := by decide +kernel
theorem dX4_firstMatch_26 : decode cX4_firstMatch 26 = .ok (.iconst (-1), 1) := by decide +kernel
theorem dX4_firstMatch_27 : decode cX4_firstMatch 27 = .ok (.ireturn, 1) := by decide +kernel
theorem dX4_matches_0 : decode cX4_matches 0 = .ok (.aload_n 0, 1) := by decide +kernel
theorem dX4_matches_1 : decode cX4_matches 1 = .ok (.getfield 9, 3) := by decide +kernel
theorem dX4_matches_4 : decode cX4_matches 4 = .ok (.iload_n 1, 1) := by decide +kernel
theorem dX4_matches_5 : decode cX4_matches 5 = .ok (.iaload, 1) := by decide +kernel
theorem dX4_matches_6 : decode cX4_matches 6 = .ok (.istore_n 2, 1) := by decide +kernel
theorem dX4_matches_7 : decode cX4_matches 7 = .ok (.iload_n 2, 1) := by decide +kernel
theorem dX4_matches_8 : decode cX4_matches 8 = .ok (.bipush 116, 2) := by decide +kernel
theorem dX4_matches_10 : decode cX4_matches 10 = .ok (.if_icmp .ne 36, 3) := by decide +kernel
theorem dX4_matches_13 : decode cX4_matches 13 = .ok (.aload_n 0, 1) := by decide +kernel
theorem dX4_matches_14 : decode cX4_matches 14 = .ok (.getfield 9, 3) := by decide +kernel
theorem dX4_matches_17 : decode cX4_matches 17 = .ok (.iload_n 1, 1) := by decide +kernel
theorem dX4_matches_18 : decode cX4_matches 18 = .ok (.iconst 1, 1) := by decide +kernel
theorem dX4_matches_19 : decode cX4_matches 19 = .ok (.iadd, 1) := by decide +kernel
theorem dX4_matches_20 : decode cX4_matches 20 = .ok (.iaload, 1) := by decide +kernel
theorem dX4_matches_21 : decode cX4_matches 21 = .ok (.bipush 116, 2) := by decide +kernel
theorem dX4_matches_23 : decode cX4_matches 23 = .ok (.if_icmp .eq 21, 3) := by decide +kernel
theorem dX4_matches_26 : decode cX4_matches 26 = .ok (.aload_n 0, 1) := by decide +kernel
theorem dX4_matches_27 : decode cX4_matches 27 = .ok (.getfield 9, 3) := by decide +kernel
theorem dX4_matches_30 : decode cX4_matches 30 = .ok (.iload_n 1, 1) := by decide +kernel
theorem dX4_matches_31 : decode cX4_matches 31 = .ok (.iconst 1, 1) := by decide +kernel
theorem dX4_matches_32 : decode cX4_matches 32 = .ok (.iadd, 1) := by decide +kernel
theorem dX4_matches_33 : decode cX4_matches 33 = .ok (.iaload, 1) := by decide +kernel
theorem dX4_matches_34 : decode cX4_matches 34 = .ok (.invokestatic 62, 3) := by decide +kernel
theorem dX4_matches_37 : decode cX4_matches 37 = .ok (.ifCond .ne 7, 3) := by decide +kernel
theorem dX4_matches_40 : decode cX4_matches 40 = .ok (.iconst 1, 1) := by decide +kernel
theorem dX4_matches_41 : decode cX4_matches 41 = .ok (.goto 4, 3) := by decide +kernel
theorem dX4_matches_44 : decode cX4_matches 44 = .ok (.iconst 0, 1) := by decide +kernel
theorem dX4_matches_45 : decode cX4_matches 45 = .ok (.ireturn, 1) := by decide +kernel
theorem dX4_matches_46 : decode cX4_matches 46 = .ok (.iload_n 2, 1) := by decide +kernel
theorem dX4_matches_47 : decode cX4_matches 47 = .ok (.bipush 101, 2) := by decide +kernel
theorem dX4_matches_49 : decode cX4_matches 49 = .ok (.if_icmp .eq 9, 3) := by decide +kernel
theorem dX4_matches_52 : decode cX4_matches 52 = .ok (.iload_n 2, 1) := by decide +kernel
theorem dX4_matches_53 : decode cX4_matches 53 = .ok (.bipush 111, 2) := by decide +kernel
theorem dX4_matches_55 : decode cX4_matches 55 = .ok (.if_icmp .ne 36, 3) := by decide +kernel
theorem dX4_matches_58 : decode cX4_matches 58 = .ok (.aload_n 0, 1) := by decide +kernel
theorem dX4_matches_59 : decode cX4_matches 59 = .ok (.getfield 9, 3) := by decide +kernel
theorem dX4_matches_62 : decode cX4_matches 62 = .ok (.iload_n 1, 1) := by decide +kernel
theorem dX4_matches_63 : decode cX4_matches 63 = .ok (.iconst 1, 1) := by decide +kernel
theorem dX4_matches_64 : decode cX4_matches 64 = .ok (.iadd, 1) := by decide +kernel
theorem dX4_matches_65 : decode cX4_matches 65 = .ok (.iaload, 1) := by decide +kernel
theorem dX4_matches_66 : decode cX4_matches 66 = .ok (.bipush 122, 2) := by decide +kernel
theorem dX4_matches_68 : decode cX4_matches 68 = .ok (.if_icmp .eq 17, 3) := by decide +kernel
theorem dX4_matches_71 : decode cX4_matches 71 = .ok (.aload_n 0, 1) := by decide +kernel
theorem dX4_matches_72 : decode cX4_matches 72 = .ok (.getfield 9, 3) := by decide +kernel
theorem dX4_matches_75 : decode cX4_matches 75 = .ok (.iload_n 1, 1) := by decide +kernel
theorem dX4_matches_76 : decode cX4_matches 76 = .ok (.iconst 1, 1) := by decide +kernel
theorem dX4_matches_77 : decode cX4_matches 77 = .ok (.iadd, 1) := by decide +kernel
theorem dX4_matches_78 : decode cX4_matches 78 = .ok (.iaload, 1) := by decide +kernel
theorem dX4_matches_79 : decode cX4_matches 79 = .ok (.invokestatic 65, 3) := by decide +kernel
theorem dX4_matches_82 : decode cX4_matches 82 = .ok (.ifCond .eq 7, 3) := by decide +kernel
theorem dX4_matches_85 : decode cX4_matches 85 = .ok (.iconst 1, 1) := by decide +kernel
theorem dX4_matches_86 : decode cX4_matches 86 = .ok (.goto 4, 3) := by decide +kernel
theorem dX4_matches_89 : decode cX4_matches 89 = .ok (.iconst 0, 1) := by decide +kernel
theorem dX4_matches_90 : decode cX4_matches 90 = .ok (.ireturn, 1) := by decide +kernel
theorem dX4_matches_91 : decode cX4_matches 91 = .ok (.iload_n 2, 1) := by decide +kernel
theorem dX4_matches_92 : decode cX4_matches 92 = .ok (.bipush 122, 2) := by decide +kernel
theorem dX4_matches_94 : decode cX4_matches 94 = .ok (.if_icmp .ne 15, 3) := by decide +kernel
theorem dX4_matches_97 : decode cX4_matches 97 = .ok (.aload_n 0, 1) := by decide +kernel
theorem dX4_matches_98 : decode cX4_matches 98 = .ok (.iload_n 1, 1) := by decide +kernel
theorem dX4_matches_99 : decode cX4_matches 99 = .ok (.invokevirtual 68, 3) := by decide +kernel
theorem dX4_matches_102 : decode cX4_matches 102 = .ok (.ifCond .eq 7, 3) := by decide +kernel
theorem dX4_matches_105 : decode cX4_matches 105 = .ok (.iconst 1, 1) := by decide +kernel
theorem dX4_matches_106 : decode cX4_matches 106 = .ok (.goto 4, 3) := by decide +kernel
theorem dX4_matches_109 : decode cX4_matches 109 = .ok (.iconst 0, 1) := by decide +kernel
theorem dX4_matches_110 : decode cX4_matches 110 = .ok (.ireturn, 1) := by decide +kernel
theorem dX4_isSplitTwin_0 : decode cX4_isSplitTwin 0 = .ok (.aload_n 0, 1) := by decide +kernel
theorem dX4_isSplitTwin_1 : decode cX4_isSplitTwin 1 = .ok (.getfield 15, 3) := by decide +kernel
theorem dX4_isSplitTwin_4 : decode cX4_isSplitTwin 4 = .ok (.iload_n 1, 1) := by decide +kernel
theorem dX4_isSplitTwin_5 : decode cX4_isSplitTwin 5 = .ok (.iconst 1, 1) := by decide +kernel
theorem dX4_isSplitTwin_6 : decode cX4_isSplitTwin 6 = .ok (.iadd, 1) := by decide +kernel
theorem dX4_isSplitTwin_7 : decode cX4_isSplitTwin 7 = .ok (.iaload, 1) := by decide +kernel
theorem dX4_isSplitTwin_8 : decode cX4_isSplitTwin 8 = .ok (.istore_n 2, 1) := by decide +kernel
theorem dX4_isSplitTwin_9 : decode cX4_isSplitTwin 9 = .ok (.aload_n 0, 1) := by decide +kernel
theorem dX4_isSplitTwin_10 : decode cX4_isSplitTwin 10 = .ok (.getfield 9, 3) := by decide +kernel
theorem dX4_isSplitTwin_13 : decode cX4_isSplitTwin 13 = .ok (.iload_n 1, 1) := by decide +kernel
theorem dX4_isSplitTwin_14 : decode cX4_isSplitTwin 14 = .ok (.iconst 1, 1) := by decide +kernel
theorem dX4_isSplitTwin_15 : decode cX4_isSplitTwin 15 = .ok (.iadd, 1) := by decide +kernel
theorem dX4_isSplitTwin_16 : decode cX4_isSplitTwin 16 = .ok (.iaload, 1) := by decide +kernel
theorem dX4_isSplitTwin_17 : decode cX4_isSplitTwin 17 = .ok (.bipush 101, 2) := by decide +kernel
theorem dX4_isSplitTwin_19 : decode cX4_isSplitTwin 19 = .ok (.if_icmp .ne 31, 3) := by decide +kernel
theorem dX4_isSplitTwin_22 : decode cX4_isSplitTwin 22 = .ok (.aload_n 0, 1) := by decide +kernel
theorem dX4_isSplitTwin_23 : decode cX4_isSplitTwin 23 = .ok (.getfield 9, 3) := by decide +kernel
theorem dX4_isSplitTwin_26 : decode cX4_isSplitTwin 26 = .ok (.iload_n 2, 1) := by decide +kernel
theorem dX4_isSplitTwin_27 : decode cX4_isSplitTwin 27 = .ok (.iaload, 1) := by decide +kernel
theorem dX4_isSplitTwin_28 : decode cX4_isSplitTwin 28 = .ok (.bipush 111, 2) := by decide +kernel
theorem dX4_isSplitTwin_30 : decode cX4_isSplitTwin 30 = .ok (.if_icmp .ne 20, 3) := by decide +kernel
theorem dX4_isSplitTwin_33 : decode cX4_isSplitTwin 33 = .ok (.aload_n 0, 1) := by decide +kernel
theorem dX4_isSplitTwin_34 : decode cX4_isSplitTwin 34 = .ok (.iload_n 1, 1) := by decide +kernel
theorem dX4_isSplitTwin_35 : decode cX4_isSplitTwin 35 = .ok (.iconst 2, 1) := by decide +kernel
theorem dX4_isSplitTwin_36 : decode cX4_isSplitTwin 36 = .ok (.iadd, 1) := by decide +kernel
theorem dX4_isSplitTwin_37 : decode cX4_isSplitTwin 37 = .ok (.iload_n 2, 1) := by decide +kernel
theorem dX4_isSplitTwin_38 : decode cX4_isSplitTwin 38 = .ok (.iconst 1, 1) := by decide +kernel
theorem dX4_isSplitTwin_39 : decode cX4_isSplitTwin 39 = .ok (.iadd, 1) := by decide +kernel
theorem dX4_isSplitTwin_40 : decode cX4_isSplitTwin 40 = .ok (.invokevirtual 71, 3) := by decide +kernel
theorem dX4_isSplitTwin_43 : decode cX4_isSplitTwin 43 = .ok (.ifCond .eq 7, 3) := by decide +kernel
theorem dX4_isSplitTwin_46 : decode cX4_isSplitTwin 46 = .ok (.iconst 1, 1) := by decide +kernel
theorem dX4_isSplitTwin_47 : decode cX4_isSplitTwin 47 = .ok (.goto 4, 3) := by decide +kernel
theorem dX4_isSplitTwin_50 : decode cX4_isSplitTwin 50 = .ok (.iconst 0, 1) := by decide +kernel
theorem dX4_isSplitTwin_51 : decode cX4_isSplitTwin 51 = .ok (.ireturn, 1) := by decide +kernel
theorem dX4_areWrittenAlike_0 : decode cX4_areWrittenAlike 0 = .ok (.aload_n 0, 1) := by decide +kernel
theorem dX4_areWrittenAlike_1 : decode cX4_areWrittenAlike 1 = .ok (.getfield 15, 3) := by decide +kernel
theorem dX4_areWrittenAlike_4 : decode cX4_areWrittenAlike 4 = .ok (.iload_n 1, 1) := by decide +kernel
theorem dX4_areWrittenAlike_5 : decode cX4_areWrittenAlike 5 = .ok (.iaload, 1) := by decide +kernel
theorem dX4_areWrittenAlike_6 : decode cX4_areWrittenAlike 6 = .ok (.iload_n 1, 1) := by decide +kernel
theorem dX4_areWrittenAlike_7 : decode cX4_areWrittenAlike 7 = .ok (.isub, 1) := by decide +kernel
theorem dX4_areWrittenAlike_8 : decode cX4_areWrittenAlike 8 = .ok (.istore_n 3, 1) := by decide +kernel
theorem dX4_areWrittenAlike_9 : decode cX4_areWrittenAlike 9 = .ok (.aload_n 0, 1) := by decide +kernel
theorem dX4_areWrittenAlike_10 : decode cX4_areWrittenAlike 10 = .ok (.getfield 15, 3) := by decide +kernel
theorem dX4_areWrittenAlike_13 : decode cX4_areWrittenAlike 13 = .ok (.iload_n 2, 1) := by decide +kernel
theorem dX4_areWrittenAlike_14 : decode cX4_areWrittenAlike 14 = .ok (.iaload, 1) := by decide +kernel
theorem dX4_areWrittenAlike_15 : decode cX4_areWrittenAlike 15 = .ok (.iload_n 2, 1) := by decide +kernel
theorem dX4_areWrittenAlike_16 : decode cX4_areWrittenAlike 16 = .ok (.isub, 1) := by decide +kernel
theorem dX4_areWrittenAlike_17 : decode cX4_areWrittenAlike 17 = .ok (.iload_n 3, 1) := by decide +kernel
theorem dX4_areWrittenAlike_18 : decode cX4_areWrittenAlike 18 = .ok (.if_icmp .eq 5, 3) := by decide +kernel
theorem dX4_areWrittenAlike_21 : decode cX4_areWrittenAlike 21 = .ok (.iconst 0, 1) := by decide +kernel
theorem dX4_areWrittenAlike_22 : decode cX4_areWrittenAlike 22 = .ok (.ireturn, 1) := by decide +kernel
theorem dX4_areWrittenAlike_23 : decode cX4_areWrittenAlike 23 = .ok (.iconst 0, 1) := by decide +kernel
theorem dX4_areWrittenAlike_24 : decode cX4_areWrittenAlike 24 = .ok (.istore 4, 2) := by decide +kernel
theorem dX4_areWrittenAlike_26 : decode cX4_areWrittenAlike 26 = .ok (.iload 4, 2) := by decide +kernel
theorem dX4_areWrittenAlike_28 : decode cX4_areWrittenAlike 28 = .ok (.iload_n 3, 1) := by decide +kernel
theorem dX4_areWrittenAlike_29 : decode cX4_areWrittenAlike 29 = .ok (.if_icmp .ge 32, 3) := by decide +kernel
theorem dX4_areWrittenAlike_32 : decode cX4_areWrittenAlike 32 = .ok (.aload_n 0, 1) := by decide +kernel
theorem dX4_areWrittenAlike_33 : decode cX4_areWrittenAlike 33 = .ok (.getfield 9, 3) := by decide +kernel
theorem dX4_areWrittenAlike_36 : decode cX4_areWrittenAlike 36 = .ok (.iload_n 1, 1) := by decide +kernel
theorem dX4_areWrittenAlike_37 : decode cX4_areWrittenAlike 37 = .ok (.iload 4, 2) := by decide +kernel
theorem dX4_areWrittenAlike_39 : decode cX4_areWrittenAlike 39 = .ok (.iadd, 1) := by decide +kernel
theorem dX4_areWrittenAlike_40 : decode cX4_areWrittenAlike 40 = .ok (.iaload, 1) := by decide +kernel
theorem dX4_areWrittenAlike_41 : decode cX4_areWrittenAlike 41 = .ok (.aload_n 0, 1) := by decide +kernel
theorem dX4_areWrittenAlike_42 : decode cX4_areWrittenAlike 42 = .ok (.getfield 9, 3) := by decide +kernel
theorem dX4_areWrittenAlike_45 : decode cX4_areWrittenAlike 45 = .ok (.iload_n 2, 1) := by decide +kernel
theorem dX4_areWrittenAlike_46 : decode cX4_areWrittenAlike 46 = .ok (.iload 4, 2) := by decide +kernel
theorem dX4_areWrittenAlike_48 : decode cX4_areWrittenAlike 48 = .ok (.iadd, 1) := by decide +kernel
theorem dX4_areWrittenAlike_49 : decode cX4_areWrittenAlike 49 = .ok (.iaload, 1) := by decide +kernel
theorem dX4_areWrittenAlike_50 : decode cX4_areWrittenAlike 50 = .ok (.if_icmp .eq 5, 3) := by decide +kernel
theorem dX4_areWrittenAlike_53 : decode cX4_areWrittenAlike 53 = .ok (.iconst 0, 1) := by decide +kernel
theorem dX4_areWrittenAlike_54 : decode cX4_areWrittenAlike 54 = .ok (.ireturn, 1) := by decide +kernel
theorem dX4_areWrittenAlike_55 : decode cX4_areWrittenAlike 55 = .ok (.iinc 4 1, 3) := by decide +kernel
theorem dX4_areWrittenAlike_58 : decode cX4_areWrittenAlike 58 = .ok (.goto (-32), 3) := by decide +kernel
theorem dX4_areWrittenAlike_61 : decode cX4_areWrittenAlike 61 = .ok (.iconst 1, 1) := by decide +kernel
theorem dX4_areWrittenAlike_62 : decode cX4_areWrittenAlike 62 = .ok (.ireturn, 1) := by decide +kernel
theorem dX4_apply_0 : decode cX4_apply 0 = .ok (.aload_n 0, 1) := by decide +kernel
theorem dX4_apply_1 : decode cX4_apply 1 = .ok (.getfield 9, 3) := by decide +kernel
theorem dX4_apply_4 : decode cX4_apply 4 = .ok (.iload_n 1, 1) := by decide +kernel
theorem dX4_apply_5 : decode cX4_apply 5 = .ok (.iaload, 1) := by decide +kernel
theorem dX4_apply_6 : decode cX4_apply 6 = .ok (.istore_n 2, 1) := by decide +kernel
theorem dX4_apply_7 : decode cX4_apply 7 = .ok (.iload_n 2, 1) := by decide +kernel
theorem dX4_apply_8 : decode cX4_apply 8 = .ok (.bipush 116, 2) := by decide +kernel
theorem dX4_apply_10 : decode cX4_apply 10 = .ok (.if_icmp .ne 9, 3) := by decide +kernel
theorem dX4_apply_13 : decode cX4_apply 13 = .ok (.aload_n 0, 1) := by decide +kernel
theorem dX4_apply_14 : decode cX4_apply 14 = .ok (.iload_n 1, 1) := by decide +kernel
theorem dX4_apply_15 : decode cX4_apply 15 = .ok (.invokevirtual 75, 3) := by decide +kernel
theorem dX4_apply_18 : decode cX4_apply 18 = .ok (.ireturn, 1) := by decide +kernel
theorem dX4_apply_19 : decode cX4_apply 19 = .ok (.iload_n 2, 1) := by decide +kernel
theorem dX4_apply_20 : decode cX4_apply 20 = .ok (.bipush 122, 2) := by decide +kernel
theorem dX4_apply_22 : decode cX4_apply 22 = .ok (.if_icmp .ne 19, 3) := by decide +kernel
theorem dX4_apply_25 : decode cX4_apply 25 = .ok (.aload_n 0, 1) := by decide +kernel
theorem dX4_apply_26 : decode cX4_apply 26 = .ok (.iload_n 1, 1) := by decide +kernel
theorem dX4_apply_27 : decode cX4_apply 27 = .ok (.aload_n 0, 1) := by decide +kernel
theorem dX4_apply_28 : decode cX4_apply 28 = .ok (.getfield 15, 3) := by decide +kernel
theorem dX4_apply_31 : decode cX4_apply 31 = .ok (.iload_n 1, 1) := by decide +kernel
theorem dX4_apply_32 : decode cX4_apply 32 = .ok (.iconst 1, 1) := by decide +kernel
theorem dX4_apply_33 : decode cX4_apply 33 = .ok (.iadd, 1) := by decide +kernel
theorem dX4_apply_34 : decode cX4_apply 34 = .ok (.iaload, 1) := by decide +kernel
theorem dX4_apply_35 : decode cX4_apply 35 = .ok (.invokevirtual 78, 3) := by decide +kernel
theorem dX4_apply_38 : decode cX4_apply 38 = .ok (.goto 63, 3) := by decide +kernel
theorem dX4_apply_41 : decode cX4_apply 41 = .ok (.aload_n 0, 1) := by decide +kernel
theorem dX4_apply_42 : decode cX4_apply 42 = .ok (.getfield 9, 3) := by decide +kernel
theorem dX4_apply_45 : decode cX4_apply 45 = .ok (.iload_n 1, 1) := by decide +kernel
theorem dX4_apply_46 : decode cX4_apply 46 = .ok (.iconst 1, 1) := by decide +kernel
theorem dX4_apply_47 : decode cX4_apply 47 = .ok (.iadd, 1) := by decide +kernel
theorem dX4_apply_48 : decode cX4_apply 48 = .ok (.iaload, 1) := by decide +kernel
theorem dX4_apply_49 : decode cX4_apply 49 = .ok (.invokestatic 65, 3) := by decide +kernel
theorem dX4_apply_52 : decode cX4_apply 52 = .ok (.ifCond .eq 14, 3) := by decide +kernel
theorem dX4_apply_55 : decode cX4_apply 55 = .ok (.aload_n 0, 1) := by decide +kernel
theorem dX4_apply_56 : decode cX4_apply 56 = .ok (.iload_n 1, 1) := by decide +kernel
theorem dX4_apply_57 : decode cX4_apply 57 = .ok (.iload_n 1, 1) := by decide +kernel
theorem dX4_apply_58 : decode cX4_apply 58 = .ok (.iconst 1, 1) := by decide +kernel
theorem dX4_apply_59 : decode cX4_apply 59 = .ok (.iadd, 1) := by decide +kernel
theorem dX4_apply_60 : decode cX4_apply 60 = .ok (.invokevirtual 82, 3) := by decide +kernel
theorem dX4_apply_63 : decode cX4_apply 63 = .ok (.goto 38, 3) := by decide +kernel
theorem dX4_apply_66 : decode cX4_apply 66 = .ok (.iload_n 2, 1) := by decide +kernel
theorem dX4_apply_67 : decode cX4_apply 67 = .ok (.bipush 101, 2) := by decide +kernel
theorem dX4_apply_69 : decode cX4_apply 69 = .ok (.if_icmp .ne 19, 3) := by decide +kernel
theorem dX4_apply_72 : decode cX4_apply 72 = .ok (.aload_n 0, 1) := by decide +kernel
theorem dX4_apply_73 : decode cX4_apply 73 = .ok (.iload_n 1, 1) := by decide +kernel
theorem dX4_apply_74 : decode cX4_apply 74 = .ok (.aload_n 0, 1) := by decide +kernel
theorem dX4_apply_75 : decode cX4_apply 75 = .ok (.getfield 15, 3) := by decide +kernel
theorem dX4_apply_78 : decode cX4_apply 78 = .ok (.iload_n 1, 1) := by decide +kernel
theorem dX4_apply_79 : decode cX4_apply 79 = .ok (.iconst 2, 1) := by decide +kernel
theorem dX4_apply_80 : decode cX4_apply 80 = .ok (.iadd, 1) := by decide +kernel
theorem dX4_apply_81 : decode cX4_apply 81 = .ok (.iaload, 1) := by decide +kernel
theorem dX4_apply_82 : decode cX4_apply 82 = .ok (.invokevirtual 78, 3) := by decide +kernel
theorem dX4_apply_85 : decode cX4_apply 85 = .ok (.goto 16, 3) := by decide +kernel
theorem dX4_apply_88 : decode cX4_apply 88 = .ok (.aload_n 0, 1) := by decide +kernel
theorem dX4_apply_89 : decode cX4_apply 89 = .ok (.iload_n 1, 1) := by decide +kernel
theorem dX4_apply_90 : decode cX4_apply 90 = .ok (.aload_n 0, 1) := by decide +kernel
theorem dX4_apply_91 : decode cX4_apply 91 = .ok (.getfield 15, 3) := by decide +kernel
theorem dX4_apply_94 : decode cX4_apply 94 = .ok (.iload_n 1, 1) := by decide +kernel
theorem dX4_apply_95 : decode cX4_apply 95 = .ok (.iconst 2, 1) := by decide +kernel
theorem dX4_apply_96 : decode cX4_apply 96 = .ok (.iadd, 1) := by decide +kernel
theorem dX4_apply_97 : decode cX4_apply 97 = .ok (.iaload, 1) := by decide +kernel
theorem dX4_apply_98 : decode cX4_apply 98 = .ok (.invokevirtual 82, 3) := by decide +kernel
theorem dX4_apply_101 : decode cX4_apply 101 = .ok (.iconst 1, 1) := by decide +kernel
theorem dX4_apply_102 : decode cX4_apply 102 = .ok (.ireturn, 1) := by decide +kernel
theorem dX4_keepFirst_0 : decode cX4_keepFirst 0 = .ok (.aload_n 0, 1) := by decide +kernel
theorem dX4_keepFirst_1 : decode cX4_keepFirst 1 = .ok (.iload_n 2, 1) := by decide +kernel
theorem dX4_keepFirst_2 : decode cX4_keepFirst 2 = .ok (.aload_n 0, 1) := by decide +kernel
theorem dX4_keepFirst_3 : decode cX4_keepFirst 3 = .ok (.getfield 15, 3) := by decide +kernel
theorem dX4_keepFirst_6 : decode cX4_keepFirst 6 = .ok (.iload_n 2, 1) := by decide +kernel
theorem dX4_keepFirst_7 : decode cX4_keepFirst 7 = .ok (.iaload, 1) := by decide +kernel
theorem dX4_keepFirst_8 : decode cX4_keepFirst 8 = .ok (.invokevirtual 82, 3) := by decide +kernel
theorem dX4_keepFirst_11 : decode cX4_keepFirst 11 = .ok (.aload_n 0, 1) := by decide +kernel
theorem dX4_keepFirst_12 : decode cX4_keepFirst 12 = .ok (.iload_n 1, 1) := by decide +kernel
theorem dX4_keepFirst_13 : decode cX4_keepFirst 13 = .ok (.iload_n 1, 1) := by decide +kernel
theorem dX4_keepFirst_14 : decode cX4_keepFirst 14 = .ok (.iconst 2, 1) := by decide +kernel
theorem dX4_keepFirst_15 : decode cX4_keepFirst 15 = .ok (.iadd, 1) := by decide +kernel
theorem dX4_keepFirst_16 : decode cX4_keepFirst 16 = .ok (.invokevirtual 82, 3) := by decide +kernel
theorem dX4_keepFirst_19 : decode cX4_keepFirst 19 = .ok (.return_, 1) := by decide +kernel
theorem dX4_pushTail_0 : decode cX4_pushTail 0 = .ok (.aload_n 0, 1) := by decide +kernel
theorem dX4_pushTail_1 : decode cX4_pushTail 1 = .ok (.getfield 9, 3) := by decide +kernel
theorem dX4_pushTail_4 : decode cX4_pushTail 4 = .ok (.iload_n 1, 1) := by decide +kernel
theorem dX4_pushTail_5 : decode cX4_pushTail 5 = .ok (.iconst 1, 1) := by decide +kernel
theorem dX4_pushTail_6 : decode cX4_pushTail 6 = .ok (.iadd, 1) := by decide +kernel
theorem dX4_pushTail_7 : decode cX4_pushTail 7 = .ok (.iaload, 1) := by decide +kernel
theorem dX4_pushTail_8 : decode cX4_pushTail 8 = .ok (.istore_n 2, 1) := by decide +kernel
theorem dX4_pushTail_9 : decode cX4_pushTail 9 = .ok (.iload_n 2, 1) := by decide +kernel
theorem dX4_pushTail_10 : decode cX4_pushTail 10 = .ok (.invokestatic 65, 3) := by decide +kernel
theorem dX4_pushTail_13 : decode cX4_pushTail 13 = .ok (.ifCond .eq 13, 3) := by decide +kernel
theorem dX4_pushTail_16 : decode cX4_pushTail 16 = .ok (.aload_n 0, 1) := by decide +kernel
theorem dX4_pushTail_17 : decode cX4_pushTail 17 = .ok (.iload_n 1, 1) := by decide +kernel
theorem dX4_pushTail_18 : decode cX4_pushTail 18 = .ok (.iload_n 1, 1) := by decide +kernel
theorem dX4_pushTail_19 : decode cX4_pushTail 19 = .ok (.iconst 1, 1) := by decide +kernel
theorem dX4_pushTail_20 : decode cX4_pushTail 20 = .ok (.iadd, 1) := by decide +kernel
theorem dX4_pushTail_21 : decode cX4_pushTail 21 = .ok (.invokevirtual 82, 3) := by decide +kernel
theorem dX4_pushTail_24 : decode cX4_pushTail 24 = .ok (.iconst 1, 1) := by decide +kernel
theorem dX4_pushTail_25 : decode cX4_pushTail 25 = .ok (.ireturn, 1) := by decide +kernel
theorem dX4_pushTail_26 : decode cX4_pushTail 26 = .ok (.iload_n 2, 1) := by decide +kernel
theorem dX4_pushTail_27 : decode cX4_pushTail 27 = .ok (.invokestatic 85, 3) := by decide +kernel
theorem dX4_pushTail_30 : decode cX4_pushTail 30 = .ok (.ifCond .eq 13, 3) := by decide +kernel
theorem dX4_pushTail_33 : decode cX4_pushTail 33 = .ok (.aload_n 0, 1) := by decide +kernel
theorem dX4_pushTail_34 : decode cX4_pushTail 34 = .ok (.iload_n 1, 1) := by decide +kernel
theorem dX4_pushTail_35 : decode cX4_pushTail 35 = .ok (.iload_n 1, 1) := by decide +kernel
theorem dX4_pushTail_36 : decode cX4_pushTail 36 = .ok (.iconst 2, 1) := by decide +kernel
theorem dX4_pushTail_37 : decode cX4_pushTail 37 = .ok (.iadd, 1) := by decide +kernel
theorem dX4_pushTail_38 : decode cX4_pushTail 38 = .ok (.invokevirtual 82, 3) := by decide +kernel
theorem dX4_pushTail_41 : decode cX4_pushTail 41 = .ok (.iconst 1, 1) := by decide +kernel
theorem dX4_pushTail_42 : decode cX4_pushTail 42 = .ok (.ireturn, 1) := by decide +kernel
theorem dX4_pushTail_43 : decode cX4_pushTail 43 = .ok (.iload_n 2, 1) := by decide +kernel
theorem dX4_pushTail_44 : decode cX4_pushTail 44 = .ok (.bipush 122, 2) := by decide +kernel
theorem dX4_pushTail_46 : decode cX4_pushTail 46 = .ok (.if_icmp .ne 10, 3) := by decide +kernel
theorem dX4_pushTail_49 : decode cX4_pushTail 49 = .ok (.aload_n 0, 1) := by decide +kernel
theorem dX4_pushTail_50 : decode cX4_pushTail 50 = .ok (.iload_n 1, 1) := by decide +kernel
theorem dX4_pushTail_51 : decode cX4_pushTail 51 = .ok (.invokevirtual 88, 3) := by decide +kernel
theorem dX4_pushTail_54 : decode cX4_pushTail 54 = .ok (.iconst 1, 1) := by decide +kernel
theorem dX4_pushTail_55 : decode cX4_pushTail 55 = .ok (.ireturn, 1) := by decide +kernel
theorem dX4_pushTail_56 : decode cX4_pushTail 56 = .ok (.aload_n 0, 1) := by decide +kernel
theorem dX4_pushTail_57 : decode cX4_pushTail 57 = .ok (.getfield 33, 3) := by decide +kernel
theorem dX4_pushTail_60 : decode cX4_pushTail 60 = .ok (.bipush 120, 2) := by decide +kernel
theorem dX4_pushTail_62 : decode cX4_pushTail 62 = .ok (.if_icmp .lt 5, 3) := by decide +kernel
theorem dX4_pushTail_65 : decode cX4_pushTail 65 = .ok (.iconst 0, 1) := by decide +kernel
theorem dX4_pushTail_66 : decode cX4_pushTail 66 = .ok (.ireturn, 1) := by decide +kernel
theorem dX4_pushTail_67 : decode cX4_pushTail 67 = .ok (.aload_n 0, 1) := by decide +kernel
theorem dX4_pushTail_68 : decode cX4_pushTail 68 = .ok (.getfield 9, 3) := by decide +kernel
theorem dX4_pushTail_71 : decode cX4_pushTail 71 = .ok (.iload_n 1, 1) := by decide +kernel
theorem dX4_pushTail_72 : decode cX4_pushTail 72 = .ok (.iload_n 2, 1) := by decide +kernel
theorem dX4_pushTail_73 : decode cX4_pushTail 73 = .ok (.iastore, 1) := by decide +kernel
theorem dX4_pushTail_74 : decode cX4_pushTail 74 = .ok (.aload_n 0, 1) := by decide +kernel
theorem dX4_pushTail_75 : decode cX4_pushTail 75 = .ok (.getfield 9, 3) := by decide +kernel
theorem dX4_pushTail_78 : decode cX4_pushTail 78 = .ok (.iload_n 1, 1) := by decide +kernel
theorem dX4_pushTail_79 : decode cX4_pushTail 79 = .ok (.iconst 1, 1) := by decide +kernel
theorem dX4_pushTail_80 : decode cX4_pushTail 80 = .ok (.iadd, 1) := by decide +kernel
theorem dX4_pushTail_81 : decode cX4_pushTail 81 = .ok (.bipush 116, 2) := by decide +kernel
theorem dX4_pushTail_83 : decode cX4_pushTail 83 = .ok (.iastore, 1) := by decide +kernel
theorem dX4_pushTail_84 : decode cX4_pushTail 84 = .ok (.aload_n 0, 1) := by decide +kernel
theorem dX4_pushTail_85 : decode cX4_pushTail 85 = .ok (.iload_n 2, 1) := by decide +kernel
theorem dX4_pushTail_86 : decode cX4_pushTail 86 = .ok (.invokestatic 92, 3) := by decide +kernel
theorem dX4_pushTail_89 : decode cX4_pushTail 89 = .ok (.ifCond .eq 14, 3) := by decide +kernel
theorem dX4_pushTail_92 : decode cX4_pushTail 92 = .ok (.aload_n 0, 1) := by decide +kernel
theorem dX4_pushTail_93 : decode cX4_pushTail 93 = .ok (.getfield 15, 3) := by decide +kernel
theorem dX4_pushTail_96 : decode cX4_pushTail 96 = .ok (.iload_n 1, 1) := by decide +kernel
theorem dX4_pushTail_97 : decode cX4_pushTail 97 = .ok (.iconst 2, 1) := by decide +kernel
theorem dX4_pushTail_98 : decode cX4_pushTail 98 = .ok (.iadd, 1) := by decide +kernel
theorem dX4_pushTail_99 : decode cX4_pushTail 99 = .ok (.iaload, 1) := by decide +kernel
theorem dX4_pushTail_100 : decode cX4_pushTail 100 = .ok (.goto 6, 3) := by decide +kernel
theorem dX4_pushTail_103 : decode cX4_pushTail 103 = .ok (.iload_n 1, 1) := by decide +kernel
theorem dX4_pushTail_104 : decode cX4_pushTail 104 = .ok (.iconst 2, 1) := by decide +kernel
theorem dX4_pushTail_105 : decode cX4_pushTail 105 = .ok (.iadd, 1) := by decide +kernel
theorem dX4_pushTail_106 : decode cX4_pushTail 106 = .ok (.invokevirtual 95, 3) := by decide +kernel
theorem dX4_pushTail_109 : decode cX4_pushTail 109 = .ok (.iconst 1, 1) := by decide +kernel
theorem dX4_pushTail_110 : decode cX4_pushTail 110 = .ok (.ireturn, 1) := by decide +kernel
theorem dX4_turnZip_0 : decode cX4_turnZip 0 = .ok (.iload_n 1, 1) := by decide +kernel
theorem dX4_turnZip_1 : decode cX4_turnZip 1 = .ok (.iconst 2, 1) := by decide +kernel
theorem dX4_turnZip_2 : decode cX4_turnZip 2 = .ok (.iadd, 1) := by decide +kernel
theorem dX4_turnZip_3 : decode cX4_turnZip 3 = .ok (.istore_n 2, 1) := by decide +kernel
theorem dX4_turnZip_4 : decode cX4_turnZip 4 = .ok (.aload_n 0, 1) := by decide +kernel
theorem dX4_turnZip_5 : decode cX4_turnZip 5 = .ok (.getfield 15, 3) := by decide +kernel
theorem dX4_turnZip_8 : decode cX4_turnZip 8 = .ok (.iload_n 2, 1) := by decide +kernel
theorem dX4_turnZip_9 : decode cX4_turnZip 9 = .ok (.iaload, 1) := by decide +kernel
theorem dX4_turnZip_10 : decode cX4_turnZip 10 = .ok (.istore_n 3, 1) := by decide +kernel
theorem dX4_turnZip_11 : decode cX4_turnZip 11 = .ok (.iload_n 3, 1) := by decide +kernel
theorem dX4_turnZip_12 : decode cX4_turnZip 12 = .ok (.iload_n 2, 1) := by decide +kernel
theorem dX4_turnZip_13 : decode cX4_turnZip 13 = .ok (.isub, 1) := by decide +kernel
theorem dX4_turnZip_14 : decode cX4_turnZip 14 = .ok (.istore 4, 2) := by decide +kernel
theorem dX4_turnZip_16 : decode cX4_turnZip 16 = .ok (.aload_n 0, 1) := by decide +kernel
theorem dX4_turnZip_17 : decode cX4_turnZip 17 = .ok (.getfield 15, 3) := by decide +kernel
theorem dX4_turnZip_20 : decode cX4_turnZip 20 = .ok (.iload_n 3, 1) := by decide +kernel
theorem dX4_turnZip_21 : decode cX4_turnZip 21 = .ok (.iaload, 1) := by decide +kernel
theorem dX4_turnZip_22 : decode cX4_turnZip 22 = .ok (.iload_n 3, 1) := by decide +kernel
theorem dX4_turnZip_23 : decode cX4_turnZip 23 = .ok (.isub, 1) := by decide +kernel
theorem dX4_turnZip_24 : decode cX4_turnZip 24 = .ok (.istore 5, 2) := by decide +kernel
theorem dX4_turnZip_26 : decode cX4_turnZip 26 = .ok (.aload_n 0, 1) := by decide +kernel
theorem dX4_turnZip_27 : decode cX4_turnZip 27 = .ok (.getfield 9, 3) := by decide +kernel
theorem dX4_turnZip_30 : decode cX4_turnZip 30 = .ok (.iload_n 2, 1) := by decide +kernel
theorem dX4_turnZip_31 : decode cX4_turnZip 31 = .ok (.aload_n 0, 1) := by decide +kernel
theorem dX4_turnZip_32 : decode cX4_turnZip 32 = .ok (.getfield 18, 3) := by decide +kernel
theorem dX4_turnZip_35 : decode cX4_turnZip 35 = .ok (.iconst 0, 1) := by decide +kernel
theorem dX4_turnZip_36 : decode cX4_turnZip 36 = .ok (.iload 4, 2) := by decide +kernel
theorem dX4_turnZip_38 : decode cX4_turnZip 38 = .ok (.invokestatic 35, 3) := by decide +kernel
theorem dX4_turnZip_41 : decode cX4_turnZip 41 = .ok (.aload_n 0, 1) := by decide +kernel
theorem dX4_turnZip_42 : decode cX4_turnZip 42 = .ok (.getfield 9, 3) := by decide +kernel
theorem dX4_turnZip_45 : decode cX4_turnZip 45 = .ok (.iload_n 1, 1) := by decide +kernel
theorem dX4_turnZip_46 : decode cX4_turnZip 46 = .ok (.bipush 122, 2) := by decide +kernel
theorem dX4_turnZip_48 : decode cX4_turnZip 48 = .ok (.iastore, 1) := by decide +kernel
theorem dX4_turnZip_49 : decode cX4_turnZip 49 = .ok (.aload_n 0, 1) := by decide +kernel
theorem dX4_turnZip_50 : decode cX4_turnZip 50 = .ok (.getfield 9, 3) := by decide +kernel
theorem dX4_turnZip_53 : decode cX4_turnZip 53 = .ok (.iload_n 3, 1) := by decide +kernel
theorem dX4_turnZip_54 : decode cX4_turnZip 54 = .ok (.aload_n 0, 1) := by decide +kernel
theorem dX4_turnZip_55 : decode cX4_turnZip 55 = .ok (.getfield 9, 3) := by decide +kernel
theorem dX4_turnZip_58 : decode cX4_turnZip 58 = .ok (.iload_n 1, 1) := by decide +kernel
theorem dX4_turnZip_59 : decode cX4_turnZip 59 = .ok (.iconst 1, 1) := by decide +kernel
theorem dX4_turnZip_60 : decode cX4_turnZip 60 = .ok (.iadd, 1) := by decide +kernel
theorem dX4_turnZip_61 : decode cX4_turnZip 61 = .ok (.iload 5, 2) := by decide +kernel
theorem dX4_turnZip_63 : decode cX4_turnZip 63 = .ok (.invokestatic 35, 3) := by decide +kernel
theorem dX4_turnZip_66 : decode cX4_turnZip 66 = .ok (.aload_n 0, 1) := by decide +kernel
theorem dX4_turnZip_67 : decode cX4_turnZip 67 = .ok (.getfield 9, 3) := by decide +kernel
theorem dX4_turnZip_70 : decode cX4_turnZip 70 = .ok (.iload_n 1, 1) := by decide +kernel
theorem dX4_turnZip_71 : decode cX4_turnZip 71 = .ok (.iconst 1, 1) := by decide +kernel
theorem dX4_turnZip_72 : decode cX4_turnZip 72 = .ok (.iadd, 1) := by decide +kernel
theorem dX4_turnZip_73 : decode cX4_turnZip 73 = .ok (.iload 5, 2) := by decide +kernel
theorem dX4_turnZip_75 : decode cX4_turnZip 75 = .ok (.iadd, 1) := by decide +kernel
theorem dX4_turnZip_76 : decode cX4_turnZip 76 = .ok (.bipush 116, 2) := by decide +kernel
theorem dX4_turnZip_78 : decode cX4_turnZip 78 = .ok (.iastore, 1) := by decide +kernel
theorem dX4_turnZip_79 : decode cX4_turnZip 79 = .ok (.aload_n 0, 1) := by decide +kernel
theorem dX4_turnZip_80 : decode cX4_turnZip 80 = .ok (.getfield 18, 3) := by decide +kernel
theorem dX4_turnZip_83 : decode cX4_turnZip 83 = .ok (.iconst 0, 1) := by decide +kernel
theorem dX4_turnZip_84 : decode cX4_turnZip 84 = .ok (.aload_n 0, 1) := by decide +kernel
theorem dX4_turnZip_85 : decode cX4_turnZip 85 = .ok (.getfield 9, 3) := by decide +kernel
theorem dX4_turnZip_88 : decode cX4_turnZip 88 = .ok (.iload_n 1, 1) := by decide +kernel
theorem dX4_turnZip_89 : decode cX4_turnZip 89 = .ok (.iconst 2, 1) := by decide +kernel
theorem dX4_turnZip_90 : decode cX4_turnZip 90 = .ok (.iadd, 1) := by decide +kernel
theorem dX4_turnZip_91 : decode cX4_turnZip 91 = .ok (.iload 5, 2) := by decide +kernel
theorem dX4_turnZip_93 : decode cX4_turnZip 93 = .ok (.iadd, 1) := by decide +kernel
theorem dX4_turnZip_94 : decode cX4_turnZip 94 = .ok (.iload 4, 2) := by decide +kernel
theorem dX4_turnZip_96 : decode cX4_turnZip 96 = .ok (.invokestatic 35, 3) := by decide +kernel
theorem dX4_turnZip_99 : decode cX4_turnZip 99 = .ok (.return_, 1) := by decide +kernel
theorem dX4_cut_0 : decode cX4_cut 0 = .ok (.aload_n 0, 1) := by decide +kernel
theorem dX4_cut_1 : decode cX4_cut 1 = .ok (.getfield 9, 3) := by decide +kernel
theorem dX4_cut_4 : decode cX4_cut 4 = .ok (.iload_n 2, 1) := by decide +kernel
theorem dX4_cut_5 : decode cX4_cut 5 = .ok (.aload_n 0, 1) := by decide +kernel
theorem dX4_cut_6 : decode cX4_cut 6 = .ok (.getfield 9, 3) := by decide +kernel
theorem dX4_cut_9 : decode cX4_cut 9 = .ok (.iload_n 1, 1) := by decide +kernel
theorem dX4_cut_10 : decode cX4_cut 10 = .ok (.aload_n 0, 1) := by decide +kernel
theorem dX4_cut_11 : decode cX4_cut 11 = .ok (.getfield 33, 3) := by decide +kernel
theorem dX4_cut_14 : decode cX4_cut 14 = .ok (.iload_n 2, 1) := by decide +kernel
theorem dX4_cut_15 : decode cX4_cut 15 = .ok (.isub, 1) := by decide +kernel
theorem dX4_cut_16 : decode cX4_cut 16 = .ok (.invokestatic 35, 3) := by decide +kernel
theorem dX4_cut_19 : decode cX4_cut 19 = .ok (.aload_n 0, 1) := by decide +kernel
theorem dX4_cut_20 : decode cX4_cut 20 = .ok (.dup, 1) := by decide +kernel
theorem dX4_cut_21 : decode cX4_cut 21 = .ok (.getfield 33, 3) := by decide +kernel
theorem dX4_cut_24 : decode cX4_cut 24 = .ok (.iload_n 2, 1) := by decide +kernel
theorem dX4_cut_25 : decode cX4_cut 25 = .ok (.iload_n 1, 1) := by decide +kernel
theorem dX4_cut_26 : decode cX4_cut 26 = .ok (.isub, 1) := by decide +kernel
theorem dX4_cut_27 : decode cX4_cut 27 = .ok (.isub, 1) := by decide +kernel
theorem dX4_cut_28 : decode cX4_cut 28 = .ok (.putfield 33, 3) := by decide +kernel
theorem dX4_cut_31 : decode cX4_cut 31 = .ok (.return_, 1) := by decide +kernel
theorem dX4_putTail_0 : decode cX4_putTail 0 = .ok (.aload_n 0, 1) := by decide +kernel
theorem dX4_putTail_1 : decode cX4_putTail 1 = .ok (.getfield 9, 3) := by decide +kernel
theorem dX4_putTail_4 : decode cX4_putTail 4 = .ok (.iload_n 1, 1) := by decide +kernel
theorem dX4_putTail_5 : decode cX4_putTail 5 = .ok (.aload_n 0, 1) := by decide +kernel
theorem dX4_putTail_6 : decode cX4_putTail 6 = .ok (.getfield 9, 3) := by decide +kernel
theorem dX4_putTail_9 : decode cX4_putTail 9 = .ok (.iload_n 1, 1) := by decide +kernel
theorem dX4_putTail_10 : decode cX4_putTail 10 = .ok (.iconst 1, 1) := by decide +kernel
theorem dX4_putTail_11 : decode cX4_putTail 11 = .ok (.iadd, 1) := by decide +kernel
theorem dX4_putTail_12 : decode cX4_putTail 12 = .ok (.aload_n 0, 1) := by decide +kernel
theorem dX4_putTail_13 : decode cX4_putTail 13 = .ok (.getfield 33, 3) := by decide +kernel
theorem dX4_putTail_16 : decode cX4_putTail 16 = .ok (.iload_n 1, 1) := by decide +kernel
theorem dX4_putTail_17 : decode cX4_putTail 17 = .ok (.isub, 1) := by decide +kernel
theorem dX4_putTail_18 : decode cX4_putTail 18 = .ok (.invokestatic 35, 3) := by decide +kernel
theorem dX4_putTail_21 : decode cX4_putTail 21 = .ok (.aload_n 0, 1) := by decide +kernel
theorem dX4_putTail_22 : decode cX4_putTail 22 = .ok (.getfield 9, 3) := by decide +kernel
theorem dX4_putTail_25 : decode cX4_putTail 25 = .ok (.iload_n 1, 1) := by decide +kernel
theorem dX4_putTail_26 : decode cX4_putTail 26 = .ok (.bipush 116, 2) := by decide +kernel
theorem dX4_putTail_28 : decode cX4_putTail 28 = .ok (.iastore, 1) := by decide +kernel
theorem dX4_putTail_29 : decode cX4_putTail 29 = .ok (.aload_n 0, 1) := by decide +kernel
end
section
theorem dX4_putTail_30 : decode cX4_putTail 30 = .ok (.dup, 1) := by decide +kernel
theorem dX4_putTail_31 : decode cX4_putTail 31 = .ok (.getfield 33, 3) := by decide +kernel
theorem dX4_putTail_34 : decode cX4_putTail 34 = .ok (.iconst 1, 1) := by decide +kernel
theorem dX4_putTail_35 : decode cX4_putTail 35 = .ok (.iadd, 1) := by decide +kernel
theorem dX4_putTail_36 : decode cX4_putTail 36 = .ok (.putfield 33, 3) := by decide +kernel
theorem dX4_putTail_39 : decode cX4_putTail 39 = .ok (.return_, 1) := by decide +kernel
theorem dX5_init_0 : decode cX5_init 0 = .ok (.aload_n 0, 1) := by decide +kernel
theorem dX5_init_1 : decode cX5_init 1 = .ok (.invokespecial 3, 3) := by decide +kernel
theorem dX5_init_4 : decode cX5_init 4 = .ok (.aload_n 0, 1) := by decide +kernel
theorem dX5_init_5 : decode cX5_init 5 = .ok (.iload_n 2, 1) := by decide +kernel
theorem dX5_init_6 : decode cX5_init 6 = .ok (.putfield 9, 3) := by decide +kernel
theorem dX5_init_9 : decode cX5_init 9 = .ok (.aload_n 0, 1) := by decide +kernel
theorem dX5_init_10 : decode cX5_init 10 = .ok (.aload_n 1, 1) := by decide +kernel
theorem dX5_init_11 : decode cX5_init 11 = .ok (.iload_n 2, 1) := by decide +kernel
theorem dX5_init_12 : decode cX5_init 12 = .ok (.invokestatic 15, 3) := by decide +kernel
theorem dX5_init_15 : decode cX5_init 15 = .ok (.putfield 21, 3) := by decide +kernel
theorem dX5_init_18 : decode cX5_init 18 = .ok (.aload_n 0, 1) := by decide +kernel
theorem dX5_init_19 : decode cX5_init 19 = .ok (.iload_n 2, 1) := by decide +kernel
theorem dX5_init_20 : decode cX5_init 20 = .ok (.newarray .int, 2) := by decide +kernel
theorem dX5_init_22 : decode cX5_init 22 = .ok (.putfield 25, 3) := by decide +kernel
theorem dX5_init_25 : decode cX5_init 25 = .ok (.aload_n 0, 1) := by decide +kernel
theorem dX5_init_26 : decode cX5_init 26 = .ok (.getfield 21, 3) := by decide +kernel
theorem dX5_init_29 : decode cX5_init 29 = .ok (.iload_n 2, 1) := by decide +kernel
theorem dX5_init_30 : decode cX5_init 30 = .ok (.aload_n 0, 1) := by decide +kernel
theorem dX5_init_31 : decode cX5_init 31 = .ok (.getfield 25, 3) := by decide +kernel
theorem dX5_init_34 : decode cX5_init 34 = .ok (.invokestatic 28, 3) := by decide +kernel
theorem dX5_init_37 : decode cX5_init 37 = .ok (.aload_n 0, 1) := by decide +kernel
theorem dX5_init_38 : decode cX5_init 38 = .ok (.aload_n 0, 1) := by decide +kernel
theorem dX5_init_39 : decode cX5_init 39 = .ok (.getfield 21, 3) := by decide +kernel
theorem dX5_init_42 : decode cX5_init 42 = .ok (.iload_n 2, 1) := by decide +kernel
theorem dX5_init_43 : decode cX5_init 43 = .ok (.invokestatic 34, 3) := by decide +kernel
theorem dX5_init_46 : decode cX5_init 46 = .ok (.putfield 37, 3) := by decide +kernel
theorem dX5_init_49 : decode cX5_init 49 = .ok (.return_, 1) := by decide +kernel
theorem dX5_streamAt_0 : decode cX5_streamAt 0 = .ok (.aload_n 0, 1) := by decide +kernel
theorem dX5_streamAt_1 : decode cX5_streamAt 1 = .ok (.getfield 21, 3) := by decide +kernel
theorem dX5_streamAt_4 : decode cX5_streamAt 4 = .ok (.iload_n 1, 1) := by decide +kernel
theorem dX5_streamAt_5 : decode cX5_streamAt 5 = .ok (.iaload, 1) := by decide +kernel
theorem dX5_streamAt_6 : decode cX5_streamAt 6 = .ok (.bipush 65, 2) := by decide +kernel
theorem dX5_streamAt_8 : decode cX5_streamAt 8 = .ok (.isub, 1) := by decide +kernel
theorem dX5_streamAt_9 : decode cX5_streamAt 9 = .ok (.ireturn, 1) := by decide +kernel
theorem dX5_byteAt_0 : decode cX5_byteAt 0 = .ok (.iconst 0, 1) := by decide +kernel
theorem dX5_byteAt_1 : decode cX5_byteAt 1 = .ok (.istore_n 2, 1) := by decide +kernel
theorem dX5_byteAt_2 : decode cX5_byteAt 2 = .ok (.iconst 0, 1) := by decide +kernel
theorem dX5_byteAt_3 : decode cX5_byteAt 3 = .ok (.istore_n 3, 1) := by decide +kernel
theorem dX5_byteAt_4 : decode cX5_byteAt 4 = .ok (.iload_n 3, 1) := by decide +kernel
theorem dX5_byteAt_5 : decode cX5_byteAt 5 = .ok (.aload_n 0, 1) := by decide +kernel
theorem dX5_byteAt_6 : decode cX5_byteAt 6 = .ok (.getfield 9, 3) := by decide +kernel
theorem dX5_byteAt_9 : decode cX5_byteAt 9 = .ok (.if_icmp .ge 71, 3) := by decide +kernel
theorem dX5_byteAt_12 : decode cX5_byteAt 12 = .ok (.aload_n 0, 1) := by decide +kernel
theorem dX5_byteAt_13 : decode cX5_byteAt 13 = .ok (.getfield 21, 3) := by decide +kernel
theorem dX5_byteAt_16 : decode cX5_byteAt 16 = .ok (.iload_n 3, 1) := by decide +kernel
theorem dX5_byteAt_17 : decode cX5_byteAt 17 = .ok (.iaload, 1) := by decide +kernel
theorem dX5_byteAt_18 : decode cX5_byteAt 18 = .ok (.istore 4, 2) := by decide +kernel
theorem dX5_byteAt_20 : decode cX5_byteAt 20 = .ok (.iload 4, 2) := by decide +kernel
theorem dX5_byteAt_22 : decode cX5_byteAt 22 = .ok (.invokestatic 40, 3) := by decide +kernel
theorem dX5_byteAt_25 : decode cX5_byteAt 25 = .ok (.istore 5, 2) := by decide +kernel
theorem dX5_byteAt_27 : decode cX5_byteAt 27 = .ok (.iload_n 2, 1) := by decide +kernel
theorem dX5_byteAt_28 : decode cX5_byteAt 28 = .ok (.iload_n 1, 1) := by decide +kernel
theorem dX5_byteAt_29 : decode cX5_byteAt 29 = .ok (.if_icmp .ne 16, 3) := by decide +kernel
theorem dX5_byteAt_32 : decode cX5_byteAt 32 = .ok (.iload 5, 2) := by decide +kernel
theorem dX5_byteAt_34 : decode cX5_byteAt 34 = .ok (.ifCond .eq 8, 3) := by decide +kernel
theorem dX5_byteAt_37 : decode cX5_byteAt 37 = .ok (.bipush 58, 2) := by decide +kernel
theorem dX5_byteAt_39 : decode cX5_byteAt 39 = .ok (.goto 5, 3) := by decide +kernel
theorem dX5_byteAt_42 : decode cX5_byteAt 42 = .ok (.iload 4, 2) := by decide +kernel
theorem dX5_byteAt_44 : decode cX5_byteAt 44 = .ok (.ireturn, 1) := by decide +kernel
theorem dX5_byteAt_45 : decode cX5_byteAt 45 = .ok (.iinc 2 1, 3) := by decide +kernel
theorem dX5_byteAt_48 : decode cX5_byteAt 48 = .ok (.iload 5, 2) := by decide +kernel
theorem dX5_byteAt_50 : decode cX5_byteAt 50 = .ok (.ifCond .ne 6, 3) := by decide +kernel
theorem dX5_byteAt_53 : decode cX5_byteAt 53 = .ok (.goto 21, 3) := by decide +kernel
theorem dX5_byteAt_56 : decode cX5_byteAt 56 = .ok (.iload_n 2, 1) := by decide +kernel
theorem dX5_byteAt_57 : decode cX5_byteAt 57 = .ok (.iload_n 1, 1) := by decide +kernel
theorem dX5_byteAt_58 : decode cX5_byteAt 58 = .ok (.if_icmp .ne 13, 3) := by decide +kernel
theorem dX5_byteAt_61 : decode cX5_byteAt 61 = .ok (.bipush 48, 2) := by decide +kernel
theorem dX5_byteAt_63 : decode cX5_byteAt 63 = .ok (.iload 4, 2) := by decide +kernel
theorem dX5_byteAt_65 : decode cX5_byteAt 65 = .ok (.sipush 128, 3) := by decide +kernel
theorem dX5_byteAt_68 : decode cX5_byteAt 68 = .ok (.isub, 1) := by decide +kernel
theorem dX5_byteAt_69 : decode cX5_byteAt 69 = .ok (.iadd, 1) := by decide +kernel
theorem dX5_byteAt_70 : decode cX5_byteAt 70 = .ok (.ireturn, 1) := by decide +kernel
theorem dX5_byteAt_71 : decode cX5_byteAt 71 = .ok (.iinc 2 1, 3) := by decide +kernel
theorem dX5_byteAt_74 : decode cX5_byteAt 74 = .ok (.iinc 3 1, 3) := by decide +kernel
theorem dX5_byteAt_77 : decode cX5_byteAt 77 = .ok (.goto (-73), 3) := by decide +kernel
theorem dX5_byteAt_80 : decode cX5_byteAt 80 = .ok (.bipush (-9), 2) := by decide +kernel
theorem dX5_byteAt_82 : decode cX5_byteAt 82 = .ok (.ireturn, 1) := by decide +kernel
theorem dX5_streamSet_0 : decode cX5_streamSet 0 = .ok (.iconst 0, 1) := by decide +kernel
theorem dX5_streamSet_1 : decode cX5_streamSet 1 = .ok (.istore_n 1, 1) := by decide +kernel
theorem dX5_streamSet_2 : decode cX5_streamSet 2 = .ok (.aload_n 0, 1) := by decide +kernel
theorem dX5_streamSet_3 : decode cX5_streamSet 3 = .ok (.getfield 37, 3) := by decide +kernel
theorem dX5_streamSet_6 : decode cX5_streamSet 6 = .ok (.astore_n 2, 1) := by decide +kernel
theorem dX5_streamSet_7 : decode cX5_streamSet 7 = .ok (.aload_n 2, 1) := by decide +kernel
theorem dX5_streamSet_8 : decode cX5_streamSet 8 = .ok (.arraylength, 1) := by decide +kernel
theorem dX5_streamSet_9 : decode cX5_streamSet 9 = .ok (.istore_n 3, 1) := by decide +kernel
theorem dX5_streamSet_10 : decode cX5_streamSet 10 = .ok (.iconst 0, 1) := by decide +kernel
theorem dX5_streamSet_11 : decode cX5_streamSet 11 = .ok (.istore 4, 2) := by decide +kernel
theorem dX5_streamSet_13 : decode cX5_streamSet 13 = .ok (.iload 4, 2) := by decide +kernel
theorem dX5_streamSet_15 : decode cX5_streamSet 15 = .ok (.iload_n 3, 1) := by decide +kernel
theorem dX5_streamSet_16 : decode cX5_streamSet 16 = .ok (.if_icmp .ge 26, 3) := by decide +kernel
theorem dX5_streamSet_19 : decode cX5_streamSet 19 = .ok (.aload_n 2, 1) := by decide +kernel
theorem dX5_streamSet_20 : decode cX5_streamSet 20 = .ok (.iload 4, 2) := by decide +kernel
theorem dX5_streamSet_22 : decode cX5_streamSet 22 = .ok (.iaload, 1) := by decide +kernel
theorem dX5_streamSet_23 : decode cX5_streamSet 23 = .ok (.istore 5, 2) := by decide +kernel
theorem dX5_streamSet_25 : decode cX5_streamSet 25 = .ok (.iload_n 1, 1) := by decide +kernel
theorem dX5_streamSet_26 : decode cX5_streamSet 26 = .ok (.iconst 1, 1) := by decide +kernel
theorem dX5_streamSet_27 : decode cX5_streamSet 27 = .ok (.aload_n 0, 1) := by decide +kernel
theorem dX5_streamSet_28 : decode cX5_streamSet 28 = .ok (.iload 5, 2) := by decide +kernel
theorem dX5_streamSet_30 : decode cX5_streamSet 30 = .ok (.invokevirtual 44, 3) := by decide +kernel
theorem dX5_streamSet_33 : decode cX5_streamSet 33 = .ok (.ishl, 1) := by decide +kernel
theorem dX5_streamSet_34 : decode cX5_streamSet 34 = .ok (.ior, 1) := by decide +kernel
theorem dX5_streamSet_35 : decode cX5_streamSet 35 = .ok (.istore_n 1, 1) := by decide +kernel
theorem dX5_streamSet_36 : decode cX5_streamSet 36 = .ok (.iinc 4 1, 3) := by decide +kernel
theorem dX5_streamSet_39 : decode cX5_streamSet 39 = .ok (.goto (-26), 3) := by decide +kernel
theorem dX5_streamSet_42 : decode cX5_streamSet 42 = .ok (.iload_n 1, 1) := by decide +kernel
theorem dX5_streamSet_43 : decode cX5_streamSet 43 = .ok (.ireturn, 1) := by decide +kernel
theorem dX5_isPlain_0 : decode cX5_isPlain 0 = .ok (.iconst 0, 1) := by decide +kernel
theorem dX5_isPlain_1 : decode cX5_isPlain 1 = .ok (.istore_n 1, 1) := by decide +kernel
theorem dX5_isPlain_2 : decode cX5_isPlain 2 = .ok (.iload_n 1, 1) := by decide +kernel
theorem dX5_isPlain_3 : decode cX5_isPlain 3 = .ok (.aload_n 0, 1) := by decide +kernel
theorem dX5_isPlain_4 : decode cX5_isPlain 4 = .ok (.getfield 9, 3) := by decide +kernel
theorem dX5_isPlain_7 : decode cX5_isPlain 7 = .ok (.if_icmp .ge 23, 3) := by decide +kernel
theorem dX5_isPlain_10 : decode cX5_isPlain 10 = .ok (.aload_n 0, 1) := by decide +kernel
theorem dX5_isPlain_11 : decode cX5_isPlain 11 = .ok (.getfield 21, 3) := by decide +kernel
theorem dX5_isPlain_14 : decode cX5_isPlain 14 = .ok (.iload_n 1, 1) := by decide +kernel
theorem dX5_isPlain_15 : decode cX5_isPlain 15 = .ok (.iaload, 1) := by decide +kernel
theorem dX5_isPlain_16 : decode cX5_isPlain 16 = .ok (.invokestatic 48, 3) := by decide +kernel
theorem dX5_isPlain_19 : decode cX5_isPlain 19 = .ok (.ifCond .ne 5, 3) := by decide +kernel
theorem dX5_isPlain_22 : decode cX5_isPlain 22 = .ok (.iconst 0, 1) := by decide +kernel
theorem dX5_isPlain_23 : decode cX5_isPlain 23 = .ok (.ireturn, 1) := by decide +kernel
theorem dX5_isPlain_24 : decode cX5_isPlain 24 = .ok (.iinc 1 1, 3) := by decide +kernel
theorem dX5_isPlain_27 : decode cX5_isPlain 27 = .ok (.goto (-25), 3) := by decide +kernel
theorem dX5_isPlain_30 : decode cX5_isPlain 30 = .ok (.iconst 1, 1) := by decide +kernel
theorem dX5_isPlain_31 : decode cX5_isPlain 31 = .ok (.ireturn, 1) := by decide +kernel
theorem dX5_sizeWith_0 : decode cX5_sizeWith 0 = .ok (.aload_n 0, 1) := by decide +kernel
theorem dX5_sizeWith_1 : decode cX5_sizeWith 1 = .ok (.getfield 9, 3) := by decide +kernel
theorem dX5_sizeWith_4 : decode cX5_sizeWith 4 = .ok (.istore_n 3, 1) := by decide +kernel
theorem dX5_sizeWith_5 : decode cX5_sizeWith 5 = .ok (.aload_n 0, 1) := by decide +kernel
theorem dX5_sizeWith_6 : decode cX5_sizeWith 6 = .ok (.getfield 37, 3) := by decide +kernel
theorem dX5_sizeWith_9 : decode cX5_sizeWith 9 = .ok (.astore 4, 2) := by decide +kernel
theorem dX5_sizeWith_11 : decode cX5_sizeWith 11 = .ok (.aload 4, 2) := by decide +kernel
theorem dX5_sizeWith_13 : decode cX5_sizeWith 13 = .ok (.arraylength, 1) := by decide +kernel
theorem dX5_sizeWith_14 : decode cX5_sizeWith 14 = .ok (.istore 5, 2) := by decide +kernel
theorem dX5_sizeWith_16 : decode cX5_sizeWith 16 = .ok (.iconst 0, 1) := by decide +kernel
theorem dX5_sizeWith_17 : decode cX5_sizeWith 17 = .ok (.istore 6, 2) := by decide +kernel
theorem dX5_sizeWith_19 : decode cX5_sizeWith 19 = .ok (.iload 6, 2) := by decide +kernel
theorem dX5_sizeWith_21 : decode cX5_sizeWith 21 = .ok (.iload 5, 2) := by decide +kernel
theorem dX5_sizeWith_23 : decode cX5_sizeWith 23 = .ok (.if_icmp .ge 35, 3) := by decide +kernel
theorem dX5_sizeWith_26 : decode cX5_sizeWith 26 = .ok (.aload 4, 2) := by decide +kernel
theorem dX5_sizeWith_28 : decode cX5_sizeWith 28 = .ok (.iload 6, 2) := by decide +kernel
theorem dX5_sizeWith_30 : decode cX5_sizeWith 30 = .ok (.iaload, 1) := by decide +kernel
theorem dX5_sizeWith_31 : decode cX5_sizeWith 31 = .ok (.istore 7, 2) := by decide +kernel
theorem dX5_sizeWith_33 : decode cX5_sizeWith 33 = .ok (.aload_n 0, 1) := by decide +kernel
theorem dX5_sizeWith_34 : decode cX5_sizeWith 34 = .ok (.iload 7, 2) := by decide +kernel
theorem dX5_sizeWith_36 : decode cX5_sizeWith 36 = .ok (.invokevirtual 44, 3) := by decide +kernel
theorem dX5_sizeWith_39 : decode cX5_sizeWith 39 = .ok (.iload_n 1, 1) := by decide +kernel
theorem dX5_sizeWith_40 : decode cX5_sizeWith 40 = .ok (.if_icmp .ne 12, 3) := by decide +kernel
theorem dX5_sizeWith_43 : decode cX5_sizeWith 43 = .ok (.iload_n 3, 1) := by decide +kernel
theorem dX5_sizeWith_44 : decode cX5_sizeWith 44 = .ok (.aload_n 2, 1) := by decide +kernel
theorem dX5_sizeWith_45 : decode cX5_sizeWith 45 = .ok (.getfield 9, 3) := by decide +kernel
theorem dX5_sizeWith_48 : decode cX5_sizeWith 48 = .ok (.iconst 1, 1) := by decide +kernel
theorem dX5_sizeWith_49 : decode cX5_sizeWith 49 = .ok (.isub, 1) := by decide +kernel
theorem dX5_sizeWith_50 : decode cX5_sizeWith 50 = .ok (.iadd, 1) := by decide +kernel
theorem dX5_sizeWith_51 : decode cX5_sizeWith 51 = .ok (.istore_n 3, 1) := by decide +kernel
theorem dX5_sizeWith_52 : decode cX5_sizeWith 52 = .ok (.iinc 6 1, 3) := by decide +kernel
theorem dX5_sizeWith_55 : decode cX5_sizeWith 55 = .ok (.goto (-36), 3) := by decide +kernel
theorem dX5_sizeWith_58 : decode cX5_sizeWith 58 = .ok (.iload_n 3, 1) := by decide +kernel
theorem dX5_sizeWith_59 : decode cX5_sizeWith 59 = .ok (.ireturn, 1) := by decide +kernel
theorem dX5_with_0 : decode cX5_with 0 = .ok (.aload_n 0, 1) := by decide +kernel
theorem dX5_with_1 : decode cX5_with 1 = .ok (.iload_n 1, 1) := by decide +kernel
theorem dX5_with_2 : decode cX5_with 2 = .ok (.aload_n 2, 1) := by decide +kernel
theorem dX5_with_3 : decode cX5_with 3 = .ok (.invokevirtual 51, 3) := by decide +kernel
theorem dX5_with_6 : decode cX5_with 6 = .ok (.newarray .int, 2) := by decide +kernel
theorem dX5_with_8 : decode cX5_with 8 = .ok (.astore_n 3, 1) := by decide +kernel
theorem dX5_with_9 : decode cX5_with 9 = .ok (.iconst 0, 1) := by decide +kernel
theorem dX5_with_10 : decode cX5_with 10 = .ok (.istore 4, 2) := by decide +kernel
theorem dX5_with_12 : decode cX5_with 12 = .ok (.iconst 0, 1) := by decide +kernel
theorem dX5_with_13 : decode cX5_with 13 = .ok (.istore 5, 2) := by decide +kernel
theorem dX5_with_15 : decode cX5_with 15 = .ok (.iload 5, 2) := by decide +kernel
theorem dX5_with_17 : decode cX5_with 17 = .ok (.aload_n 0, 1) := by decide +kernel
theorem dX5_with_18 : decode cX5_with 18 = .ok (.getfield 9, 3) := by decide +kernel
theorem dX5_with_21 : decode cX5_with 21 = .ok (.if_icmp .ge 64, 3) := by decide +kernel
theorem dX5_with_24 : decode cX5_with 24 = .ok (.aload_n 0, 1) := by decide +kernel
theorem dX5_with_25 : decode cX5_with 25 = .ok (.getfield 21, 3) := by decide +kernel
theorem dX5_with_28 : decode cX5_with 28 = .ok (.iload 5, 2) := by decide +kernel
theorem dX5_with_30 : decode cX5_with 30 = .ok (.iaload, 1) := by decide +kernel
theorem dX5_with_31 : decode cX5_with 31 = .ok (.bipush 65, 2) := by decide +kernel
theorem dX5_with_33 : decode cX5_with 33 = .ok (.iload_n 1, 1) := by decide +kernel
theorem dX5_with_34 : decode cX5_with 34 = .ok (.iadd, 1) := by decide +kernel
theorem dX5_with_35 : decode cX5_with 35 = .ok (.if_icmp .ne 30, 3) := by decide +kernel
theorem dX5_with_38 : decode cX5_with 38 = .ok (.aload_n 2, 1) := by decide +kernel
theorem dX5_with_39 : decode cX5_with 39 = .ok (.getfield 21, 3) := by decide +kernel
theorem dX5_with_42 : decode cX5_with 42 = .ok (.iconst 0, 1) := by decide +kernel
theorem dX5_with_43 : decode cX5_with 43 = .ok (.aload_n 3, 1) := by decide +kernel
theorem dX5_with_44 : decode cX5_with 44 = .ok (.iload 4, 2) := by decide +kernel
theorem dX5_with_46 : decode cX5_with 46 = .ok (.aload_n 2, 1) := by decide +kernel
theorem dX5_with_47 : decode cX5_with 47 = .ok (.getfield 9, 3) := by decide +kernel
theorem dX5_with_50 : decode cX5_with 50 = .ok (.invokestatic 55, 3) := by decide +kernel
theorem dX5_with_53 : decode cX5_with 53 = .ok (.iload 4, 2) := by decide +kernel
theorem dX5_with_55 : decode cX5_with 55 = .ok (.aload_n 2, 1) := by decide +kernel
theorem dX5_with_56 : decode cX5_with 56 = .ok (.getfield 9, 3) := by decide +kernel
theorem dX5_with_59 : decode cX5_with 59 = .ok (.iadd, 1) := by decide +kernel
theorem dX5_with_60 : decode cX5_with 60 = .ok (.istore 4, 2) := by decide +kernel
theorem dX5_with_62 : decode cX5_with 62 = .ok (.goto 17, 3) := by decide +kernel
theorem dX5_with_65 : decode cX5_with 65 = .ok (.aload_n 3, 1) := by decide +kernel
theorem dX5_with_66 : decode cX5_with 66 = .ok (.iload 4, 2) := by decide +kernel
theorem dX5_with_68 : decode cX5_with 68 = .ok (.aload_n 0, 1) := by decide +kernel
theorem dX5_with_69 : decode cX5_with 69 = .ok (.getfield 21, 3) := by decide +kernel
theorem dX5_with_72 : decode cX5_with 72 = .ok (.iload 5, 2) := by decide +kernel
theorem dX5_with_74 : decode cX5_with 74 = .ok (.iaload, 1) := by decide +kernel
theorem dX5_with_75 : decode cX5_with 75 = .ok (.iastore, 1) := by decide +kernel
theorem dX5_with_76 : decode cX5_with 76 = .ok (.iinc 4 1, 3) := by decide +kernel
theorem dX5_with_79 : decode cX5_with 79 = .ok (.iinc 5 1, 3) := by decide +kernel
theorem dX5_with_82 : decode cX5_with 82 = .ok (.goto (-67), 3) := by decide +kernel
theorem dX5_with_85 : decode cX5_with 85 = .ok (.new 10, 3) := by decide +kernel
theorem dX5_with_88 : decode cX5_with 88 = .ok (.dup, 1) := by decide +kernel
theorem dX5_with_89 : decode cX5_with 89 = .ok (.aload_n 3, 1) := by decide +kernel
theorem dX5_with_90 : decode cX5_with 90 = .ok (.iload 4, 2) := by decide +kernel
theorem dX5_with_92 : decode cX5_with 92 = .ok (.invokespecial 61, 3) := by decide +kernel
theorem dX5_with_95 : decode cX5_with 95 = .ok (.areturn, 1) := by decide +kernel
theorem dX6_init_0 : decode cX6_init 0 = .ok (.aload_n 0, 1) := by decide +kernel
theorem dX6_init_1 : decode cX6_init 1 = .ok (.invokespecial 3, 3) := by decide +kernel
theorem dX6_init_4 : decode cX6_init 4 = .ok (.aload_n 0, 1) := by decide +kernel
theorem dX6_init_5 : decode cX6_init 5 = .ok (.bipush 80, 2) := by decide +kernel
theorem dX6_init_7 : decode cX6_init 7 = .ok (.newarray .int, 2) := by decide +kernel
theorem dX6_init_9 : decode cX6_init 9 = .ok (.putfield 11, 3) := by decide +kernel
theorem dX6_init_12 : decode cX6_init 12 = .ok (.aload_n 0, 1) := by decide +kernel
theorem dX6_init_13 : decode cX6_init 13 = .ok (.bipush 80, 2) := by decide +kernel
theorem dX6_init_15 : decode cX6_init 15 = .ok (.newarray .int, 2) := by decide +kernel
theorem dX6_init_17 : decode cX6_init 17 = .ok (.putfield 15, 3) := by decide +kernel
theorem dX6_init_20 : decode cX6_init 20 = .ok (.return_, 1) := by decide +kernel
theorem dX6_append_0 : decode cX6_append 0 = .ok (.aload_n 0, 1) := by decide +kernel
theorem dX6_append_1 : decode cX6_append 1 = .ok (.getfield 18, 3) := by decide +kernel
theorem dX6_append_4 : decode cX6_append 4 = .ok (.bipush 80, 2) := by decide +kernel
theorem dX6_append_6 : decode cX6_append 6 = .ok (.if_icmp .lt 6, 3) := by decide +kernel
theorem dX6_append_9 : decode cX6_append 9 = .ok (.bipush (-3), 2) := by decide +kernel
theorem dX6_append_11 : decode cX6_append 11 = .ok (.ireturn, 1) := by decide +kernel
theorem dX6_append_12 : decode cX6_append 12 = .ok (.aload_n 0, 1) := by decide +kernel
theorem dX6_append_13 : decode cX6_append 13 = .ok (.getfield 11, 3) := by decide +kernel
theorem dX6_append_16 : decode cX6_append 16 = .ok (.aload_n 0, 1) := by decide +kernel
theorem dX6_append_17 : decode cX6_append 17 = .ok (.getfield 18, 3) := by decide +kernel
theorem dX6_append_20 : decode cX6_append 20 = .ok (.iload_n 1, 1) := by decide +kernel
theorem dX6_append_21 : decode cX6_append 21 = .ok (.iastore, 1) := by decide +kernel
theorem dX6_append_22 : decode cX6_append 22 = .ok (.aload_n 0, 1) := by decide +kernel
theorem dX6_append_23 : decode cX6_append 23 = .ok (.dup, 1) := by decide +kernel
theorem dX6_append_24 : decode cX6_append 24 = .ok (.getfield 18, 3) := by decide +kernel
theorem dX6_append_27 : decode cX6_append 27 = .ok (.iconst 1, 1) := by decide +kernel
theorem dX6_append_28 : decode cX6_append 28 = .ok (.iadd, 1) := by decide +kernel
theorem dX6_append_29 : decode cX6_append 29 = .ok (.putfield 18, 3) := by decide +kernel
theorem dX6_append_32 : decode cX6_append 32 = .ok (.aload_n 0, 1) := by decide +kernel
theorem dX6_append_33 : decode cX6_append 33 = .ok (.getfield 18, 3) := by decide +kernel
theorem dX6_append_36 : decode cX6_append 36 = .ok (.ireturn, 1) := by decide +kernel
theorem dX6_empty_0 : decode cX6_empty 0 = .ok (.aload_n 0, 1) := by decide +kernel
theorem dX6_empty_1 : decode cX6_empty 1 = .ok (.getfield 18, 3) := by decide +kernel
theorem dX6_empty_4 : decode cX6_empty 4 = .ok (.istore_n 1, 1) := by decide +kernel
theorem dX6_empty_5 : decode cX6_empty 5 = .ok (.aload_n 0, 1) := by decide +kernel
theorem dX6_empty_6 : decode cX6_empty 6 = .ok (.iconst 0, 1) := by decide +kernel
theorem dX6_empty_7 : decode cX6_empty 7 = .ok (.putfield 18, 3) := by decide +kernel
theorem dX6_empty_10 : decode cX6_empty 10 = .ok (.iload_n 1, 1) := by decide +kernel
theorem dX6_empty_11 : decode cX6_empty 11 = .ok (.ireturn, 1) := by decide +kernel
theorem dX6_firstFault_0 : decode cX6_firstFault 0 = .ok (.iconst 1, 1) := by decide +kernel
theorem dX6_firstFault_1 : decode cX6_firstFault 1 = .ok (.istore_n 1, 1) := by decide +kernel
theorem dX6_firstFault_2 : decode cX6_firstFault 2 = .ok (.iconst 0, 1) := by decide +kernel
theorem dX6_firstFault_3 : decode cX6_firstFault 3 = .ok (.istore_n 2, 1) := by decide +kernel
theorem dX6_firstFault_4 : decode cX6_firstFault 4 = .ok (.iconst 0, 1) := by decide +kernel
theorem dX6_firstFault_5 : decode cX6_firstFault 5 = .ok (.istore_n 3, 1) := by decide +kernel
theorem dX6_firstFault_6 : decode cX6_firstFault 6 = .ok (.iload_n 3, 1) := by decide +kernel
theorem dX6_firstFault_7 : decode cX6_firstFault 7 = .ok (.aload_n 0, 1) := by decide +kernel
theorem dX6_firstFault_8 : decode cX6_firstFault 8 = .ok (.getfield 18, 3) := by decide +kernel
theorem dX6_firstFault_11 : decode cX6_firstFault 11 = .ok (.if_icmp .ge 84, 3) := by decide +kernel
theorem dX6_firstFault_14 : decode cX6_firstFault 14 = .ok (.aload_n 0, 1) := by decide +kernel
theorem dX6_firstFault_15 : decode cX6_firstFault 15 = .ok (.getfield 11, 3) := by decide +kernel
theorem dX6_firstFault_18 : decode cX6_firstFault 18 = .ok (.iload_n 3, 1) := by decide +kernel
theorem dX6_firstFault_19 : decode cX6_firstFault 19 = .ok (.iaload, 1) := by decide +kernel
theorem dX6_firstFault_20 : decode cX6_firstFault 20 = .ok (.istore 4, 2) := by decide +kernel
theorem dX6_firstFault_22 : decode cX6_firstFault 22 = .ok (.iload 4, 2) := by decide +kernel
theorem dX6_firstFault_24 : decode cX6_firstFault 24 = .ok (.bipush 32, 2) := by decide +kernel
theorem dX6_firstFault_26 : decode cX6_firstFault 26 = .ok (.if_icmp .ne 6, 3) := by decide +kernel
theorem dX6_firstFault_29 : decode cX6_firstFault 29 = .ok (.goto 60, 3) := by decide +kernel
theorem dX6_firstFault_32 : decode cX6_firstFault 32 = .ok (.iload_n 2, 1) := by decide +kernel
theorem dX6_firstFault_33 : decode cX6_firstFault 33 = .ok (.ifCond .eq 18, 3) := by decide +kernel
theorem dX6_firstFault_36 : decode cX6_firstFault 36 = .ok (.iload 4, 2) := by decide +kernel
theorem dX6_firstFault_38 : decode cX6_firstFault 38 = .ok (.invokestatic 22, 3) := by decide +kernel
theorem dX6_firstFault_41 : decode cX6_firstFault 41 = .ok (.ifCond .ne 5, 3) := by decide +kernel
theorem dX6_firstFault_44 : decode cX6_firstFault 44 = .ok (.iload_n 3, 1) := by decide +kernel
theorem dX6_firstFault_45 : decode cX6_firstFault 45 = .ok (.ireturn, 1) := by decide +kernel
theorem dX6_firstFault_46 : decode cX6_firstFault 46 = .ok (.iconst 0, 1) := by decide +kernel
theorem dX6_firstFault_47 : decode cX6_firstFault 47 = .ok (.istore_n 2, 1) := by decide +kernel
theorem dX6_firstFault_48 : decode cX6_firstFault 48 = .ok (.goto 41, 3) := by decide +kernel
theorem dX6_firstFault_51 : decode cX6_firstFault 51 = .ok (.iload 4, 2) := by decide +kernel
theorem dX6_firstFault_53 : decode cX6_firstFault 53 = .ok (.invokestatic 28, 3) := by decide +kernel
theorem dX6_firstFault_56 : decode cX6_firstFault 56 = .ok (.istore 5, 2) := by decide +kernel
theorem dX6_firstFault_58 : decode cX6_firstFault 58 = .ok (.iload_n 1, 1) := by decide +kernel
theorem dX6_firstFault_59 : decode cX6_firstFault 59 = .ok (.ifCond .eq 8, 3) := by decide +kernel
theorem dX6_firstFault_62 : decode cX6_firstFault 62 = .ok (.iload 5, 2) := by decide +kernel
theorem dX6_firstFault_64 : decode cX6_firstFault 64 = .ok (.ifCond .ge 5, 3) := by decide +kernel
theorem dX6_firstFault_67 : decode cX6_firstFault 67 = .ok (.iload_n 3, 1) := by decide +kernel
theorem dX6_firstFault_68 : decode cX6_firstFault 68 = .ok (.ireturn, 1) := by decide +kernel
theorem dX6_firstFault_69 : decode cX6_firstFault 69 = .ok (.iload_n 1, 1) := by decide +kernel
theorem dX6_firstFault_70 : decode cX6_firstFault 70 = .ok (.iload 5, 2) := by decide +kernel
theorem dX6_firstFault_72 : decode cX6_firstFault 72 = .ok (.iconst 1, 1) := by decide +kernel
theorem dX6_firstFault_73 : decode cX6_firstFault 73 = .ok (.isub, 1) := by decide +kernel
theorem dX6_firstFault_74 : decode cX6_firstFault 74 = .ok (.iadd, 1) := by decide +kernel
theorem dX6_firstFault_75 : decode cX6_firstFault 75 = .ok (.istore_n 1, 1) := by decide +kernel
theorem dX6_firstFault_76 : decode cX6_firstFault 76 = .ok (.iload 4, 2) := by decide +kernel
theorem dX6_firstFault_78 : decode cX6_firstFault 78 = .ok (.bipush 58, 2) := by decide +kernel
theorem dX6_firstFault_80 : decode cX6_firstFault 80 = .ok (.if_icmp .ne 7, 3) := by decide +kernel
theorem dX6_firstFault_83 : decode cX6_firstFault 83 = .ok (.iconst 1, 1) := by decide +kernel
theorem dX6_firstFault_84 : decode cX6_firstFault 84 = .ok (.goto 4, 3) := by decide +kernel
theorem dX6_firstFault_87 : decode cX6_firstFault 87 = .ok (.iconst 0, 1) := by decide +kernel
theorem dX6_firstFault_88 : decode cX6_firstFault 88 = .ok (.istore_n 2, 1) := by decide +kernel
theorem dX6_firstFault_89 : decode cX6_firstFault 89 = .ok (.iinc 3 1, 3) := by decide +kernel
theorem dX6_firstFault_92 : decode cX6_firstFault 92 = .ok (.goto (-86), 3) := by decide +kernel
theorem dX6_firstFault_95 : decode cX6_firstFault 95 = .ok (.iload_n 1, 1) := by decide +kernel
theorem dX6_firstFault_96 : decode cX6_firstFault 96 = .ok (.ifCond .le 10, 3) := by decide +kernel
theorem dX6_firstFault_99 : decode cX6_firstFault 99 = .ok (.aload_n 0, 1) := by decide +kernel
theorem dX6_firstFault_100 : decode cX6_firstFault 100 = .ok (.getfield 18, 3) := by decide +kernel
theorem dX6_firstFault_103 : decode cX6_firstFault 103 = .ok (.goto 5, 3) := by decide +kernel
theorem dX6_firstFault_106 : decode cX6_firstFault 106 = .ok (.bipush (-9), 2) := by decide +kernel
theorem dX6_firstFault_108 : decode cX6_firstFault 108 = .ok (.ireturn, 1) := by decide +kernel
theorem dX6_read_0 : decode cX6_read 0 = .ok (.iconst 0, 1) := by decide +kernel
theorem dX6_read_1 : decode cX6_read 1 = .ok (.istore_n 1, 1) := by decide +kernel
theorem dX6_read_2 : decode cX6_read 2 = .ok (.iconst 0, 1) := by decide +kernel
theorem dX6_read_3 : decode cX6_read 3 = .ok (.istore_n 2, 1) := by decide +kernel
theorem dX6_read_4 : decode cX6_read 4 = .ok (.iconst 0, 1) := by decide +kernel
theorem dX6_read_5 : decode cX6_read 5 = .ok (.istore_n 3, 1) := by decide +kernel
theorem dX6_read_6 : decode cX6_read 6 = .ok (.iload_n 3, 1) := by decide +kernel
theorem dX6_read_7 : decode cX6_read 7 = .ok (.aload_n 0, 1) := by decide +kernel
theorem dX6_read_8 : decode cX6_read 8 = .ok (.getfield 18, 3) := by decide +kernel
theorem dX6_read_11 : decode cX6_read 11 = .ok (.if_icmp .ge 68, 3) := by decide +kernel
theorem dX6_read_14 : decode cX6_read 14 = .ok (.aload_n 0, 1) := by decide +kernel
theorem dX6_read_15 : decode cX6_read 15 = .ok (.getfield 11, 3) := by decide +kernel
theorem dX6_read_18 : decode cX6_read 18 = .ok (.iload_n 3, 1) := by decide +kernel
theorem dX6_read_19 : decode cX6_read 19 = .ok (.iaload, 1) := by decide +kernel
theorem dX6_read_20 : decode cX6_read 20 = .ok (.istore 4, 2) := by decide +kernel
theorem dX6_read_22 : decode cX6_read 22 = .ok (.iload 4, 2) := by decide +kernel
theorem dX6_read_24 : decode cX6_read 24 = .ok (.bipush 32, 2) := by decide +kernel
theorem dX6_read_26 : decode cX6_read 26 = .ok (.if_icmp .ne 6, 3) := by decide +kernel
theorem dX6_read_29 : decode cX6_read 29 = .ok (.goto 44, 3) := by decide +kernel
theorem dX6_read_32 : decode cX6_read 32 = .ok (.iload 4, 2) := by decide +kernel
theorem dX6_read_34 : decode cX6_read 34 = .ok (.bipush 58, 2) := by decide +kernel
theorem dX6_read_36 : decode cX6_read 36 = .ok (.if_icmp .ne 8, 3) := by decide +kernel
theorem dX6_read_39 : decode cX6_read 39 = .ok (.iconst 1, 1) := by decide +kernel
theorem dX6_read_40 : decode cX6_read 40 = .ok (.istore_n 2, 1) := by decide +kernel
theorem dX6_read_41 : decode cX6_read 41 = .ok (.goto 32, 3) := by decide +kernel
theorem dX6_read_44 : decode cX6_read 44 = .ok (.aload_n 0, 1) := by decide +kernel
theorem dX6_read_45 : decode cX6_read 45 = .ok (.getfield 15, 3) := by decide +kernel
theorem dX6_read_48 : decode cX6_read 48 = .ok (.iload_n 1, 1) := by decide +kernel
theorem dX6_read_49 : decode cX6_read 49 = .ok (.iload_n 2, 1) := by decide +kernel
theorem dX6_read_50 : decode cX6_read 50 = .ok (.ifCond .eq 15, 3) := by decide +kernel
theorem dX6_read_53 : decode cX6_read 53 = .ok (.sipush 128, 3) := by decide +kernel
theorem dX6_read_56 : decode cX6_read 56 = .ok (.iload 4, 2) := by decide +kernel
theorem dX6_read_58 : decode cX6_read 58 = .ok (.bipush 48, 2) := by decide +kernel
theorem dX6_read_60 : decode cX6_read 60 = .ok (.isub, 1) := by decide +kernel
theorem dX6_read_61 : decode cX6_read 61 = .ok (.iadd, 1) := by decide +kernel
theorem dX6_read_62 : decode cX6_read 62 = .ok (.goto 5, 3) := by decide +kernel
theorem dX6_read_65 : decode cX6_read 65 = .ok (.iload 4, 2) := by decide +kernel
theorem dX6_read_67 : decode cX6_read 67 = .ok (.iastore, 1) := by decide +kernel
theorem dX6_read_68 : decode cX6_read 68 = .ok (.iinc 1 1, 3) := by decide +kernel
theorem dX6_read_71 : decode cX6_read 71 = .ok (.iconst 0, 1) := by decide +kernel
theorem dX6_read_72 : decode cX6_read 72 = .ok (.istore_n 2, 1) := by decide +kernel
theorem dX6_read_73 : decode cX6_read 73 = .ok (.iinc 3 1, 3) := by decide +kernel
theorem dX6_read_76 : decode cX6_read 76 = .ok (.goto (-70), 3) := by decide +kernel
theorem dX6_read_79 : decode cX6_read 79 = .ok (.new 32, 3) := by decide +kernel
theorem dX6_read_82 : decode cX6_read 82 = .ok (.dup, 1) := by decide +kernel
theorem dX6_read_83 : decode cX6_read 83 = .ok (.aload_n 0, 1) := by decide +kernel
theorem dX6_read_84 : decode cX6_read 84 = .ok (.getfield 15, 3) := by decide +kernel
theorem dX6_read_87 : decode cX6_read 87 = .ok (.iload_n 1, 1) := by decide +kernel
theorem dX6_read_88 : decode cX6_read 88 = .ok (.invokespecial 34, 3) := by decide +kernel
theorem dX6_read_91 : decode cX6_read 91 = .ok (.areturn, 1) := by decide +kernel
theorem dX7_init_0 : decode cX7_init 0 = .ok (.aload_n 0, 1) := by decide +kernel
theorem dX7_init_1 : decode cX7_init 1 = .ok (.invokespecial 3, 3) := by decide +kernel
theorem dX7_init_4 : decode cX7_init 4 = .ok (.aload_n 0, 1) := by decide +kernel
theorem dX7_init_5 : decode cX7_init 5 = .ok (.sipush 3200, 3) := by decide +kernel
theorem dX7_init_8 : decode cX7_init 8 = .ok (.newarray .int, 2) := by decide +kernel
theorem dX7_init_10 : decode cX7_init 10 = .ok (.putfield 9, 3) := by decide +kernel
theorem dX7_init_13 : decode cX7_init 13 = .ok (.aload_n 0, 1) := by decide +kernel
theorem dX7_init_14 : decode cX7_init 14 = .ok (.aload_n 1, 1) := by decide +kernel
theorem dX7_init_15 : decode cX7_init 15 = .ok (.putfield 15, 3) := by decide +kernel
theorem dX7_init_18 : decode cX7_init 18 = .ok (.aload_n 0, 1) := by decide +kernel
theorem dX7_init_19 : decode cX7_init 19 = .ok (.aload_n 2, 1) := by decide +kernel
theorem dX7_init_20 : decode cX7_init 20 = .ok (.putfield 19, 3) := by decide +kernel
theorem dX7_init_23 : decode cX7_init 23 = .ok (.return_, 1) := by decide +kernel
theorem dX7_rankIn_0 : decode cX7_rankIn 0 = .ok (.iload_n 0, 1) := by decide +kernel
theorem dX7_rankIn_1 : decode cX7_rankIn 1 = .ok (.bipush 16, 2) := by decide +kernel
theorem dX7_rankIn_3 : decode cX7_rankIn 3 = .ok (.idiv, 1) := by decide +kernel
theorem dX7_rankIn_4 : decode cX7_rankIn 4 = .ok (.iconst 1, 1) := by decide +kernel
theorem dX7_rankIn_5 : decode cX7_rankIn 5 = .ok (.isub, 1) := by decide +kernel
theorem dX7_rankIn_6 : decode cX7_rankIn 6 = .ok (.ireturn, 1) := by decide +kernel
theorem dX7_forget_0 : decode cX7_forget 0 = .ok (.aload_n 0, 1) := by decide +kernel
theorem dX7_forget_1 : decode cX7_forget 1 = .ok (.getfield 23, 3) := by decide +kernel
theorem dX7_forget_4 : decode cX7_forget 4 = .ok (.ifCond .eq 16, 3) := by decide +kernel
theorem dX7_forget_7 : decode cX7_forget 7 = .ok (.aload_n 0, 1) := by decide +kernel
theorem dX7_forget_8 : decode cX7_forget 8 = .ok (.getfield 9, 3) := by decide +kernel
theorem dX7_forget_11 : decode cX7_forget 11 = .ok (.iconst 0, 1) := by decide +kernel
theorem dX7_forget_12 : decode cX7_forget 12 = .ok (.invokestatic 27, 3) := by decide +kernel
theorem dX7_forget_15 : decode cX7_forget 15 = .ok (.aload_n 0, 1) := by decide +kernel
theorem dX7_forget_16 : decode cX7_forget 16 = .ok (.iconst 0, 1) := by decide +kernel
theorem dX7_forget_17 : decode cX7_forget 17 = .ok (.putfield 23, 3) := by decide +kernel
theorem dX7_forget_20 : decode cX7_forget 20 = .ok (.return_, 1) := by decide +kernel
theorem dX7_find_0 : decode cX7_find 0 = .ok (.iload_n 1, 1) := by decide +kernel
theorem dX7_find_1 : decode cX7_find 1 = .ok (.sipush 400, 3) := by decide +kernel
theorem dX7_find_4 : decode cX7_find 4 = .ok (.imul, 1) := by decide +kernel
theorem dX7_find_5 : decode cX7_find 5 = .ok (.iload_n 2, 1) := by decide +kernel
theorem dX7_find_6 : decode cX7_find 6 = .ok (.iadd, 1) := by decide +kernel
theorem dX7_find_7 : decode cX7_find 7 = .ok (.istore_n 3, 1) := by decide +kernel
theorem dX7_find_8 : decode cX7_find 8 = .ok (.aload_n 0, 1) := by decide +kernel
theorem dX7_find_9 : decode cX7_find 9 = .ok (.getfield 9, 3) := by decide +kernel
theorem dX7_find_12 : decode cX7_find 12 = .ok (.iload_n 3, 1) := by decide +kernel
theorem dX7_find_13 : decode cX7_find 13 = .ok (.iaload, 1) := by decide +kernel
theorem dX7_find_14 : decode cX7_find 14 = .ok (.ifCond .ne 8, 3) := by decide +kernel
theorem dX7_find_17 : decode cX7_find 17 = .ok (.aload_n 0, 1) := by decide +kernel
theorem dX7_find_18 : decode cX7_find 18 = .ok (.iload_n 3, 1) := by decide +kernel
theorem dX7_find_19 : decode cX7_find 19 = .ok (.invokevirtual 33, 3) := by decide +kernel
theorem dX7_find_22 : decode cX7_find 22 = .ok (.return_, 1) := by decide +kernel
theorem dX7_findAll_0 : decode cX7_findAll 0 = .ok (.iload_n 1, 1) := by decide +kernel
theorem dX7_findAll_1 : decode cX7_findAll 1 = .ok (.sipush 400, 3) := by decide +kernel
theorem dX7_findAll_4 : decode cX7_findAll 4 = .ok (.imul, 1) := by decide +kernel
theorem dX7_findAll_5 : decode cX7_findAll 5 = .ok (.istore_n 2, 1) := by decide +kernel
theorem dX7_findAll_6 : decode cX7_findAll 6 = .ok (.iload_n 2, 1) := by decide +kernel
theorem dX7_findAll_7 : decode cX7_findAll 7 = .ok (.iload_n 1, 1) := by decide +kernel
theorem dX7_findAll_8 : decode cX7_findAll 8 = .ok (.iconst 1, 1) := by decide +kernel
theorem dX7_findAll_9 : decode cX7_findAll 9 = .ok (.iadd, 1) := by decide +kernel
theorem dX7_findAll_10 : decode cX7_findAll 10 = .ok (.sipush 400, 3) := by decide +kernel
theorem dX7_findAll_13 : decode cX7_findAll 13 = .ok (.imul, 1) := by decide +kernel
theorem dX7_findAll_14 : decode cX7_findAll 14 = .ok (.if_icmp .ge 23, 3) := by decide +kernel
theorem dX7_findAll_17 : decode cX7_findAll 17 = .ok (.aload_n 0, 1) := by decide +kernel
theorem dX7_findAll_18 : decode cX7_findAll 18 = .ok (.getfield 9, 3) := by decide +kernel
theorem dX7_findAll_21 : decode cX7_findAll 21 = .ok (.iload_n 2, 1) := by decide +kernel
theorem dX7_findAll_22 : decode cX7_findAll 22 = .ok (.iaload, 1) := by decide +kernel
theorem dX7_findAll_23 : decode cX7_findAll 23 = .ok (.ifCond .ne 8, 3) := by decide +kernel
theorem dX7_findAll_26 : decode cX7_findAll 26 = .ok (.aload_n 0, 1) := by decide +kernel
theorem dX7_findAll_27 : decode cX7_findAll 27 = .ok (.iload_n 2, 1) := by decide +kernel
theorem dX7_findAll_28 : decode cX7_findAll 28 = .ok (.invokevirtual 33, 3) := by decide +kernel
theorem dX7_findAll_31 : decode cX7_findAll 31 = .ok (.iinc 2 1, 3) := by decide +kernel
theorem dX7_findAll_34 : decode cX7_findAll 34 = .ok (.goto (-28), 3) := by decide +kernel
theorem dX7_findAll_37 : decode cX7_findAll 37 = .ok (.return_, 1) := by decide +kernel
theorem dX7_findUpToReach_0 : decode cX7_findUpToReach 0 = .ok (.iconst 1, 1) := by decide +kernel
theorem dX7_findUpToReach_1 : decode cX7_findUpToReach 1 = .ok (.istore_n 2, 1) := by decide +kernel
theorem dX7_findUpToReach_2 : decode cX7_findUpToReach 2 = .ok (.iload_n 1, 1) := by decide +kernel
theorem dX7_findUpToReach_3 : decode cX7_findUpToReach 3 = .ok (.sipush 400, 3) := by decide +kernel
theorem dX7_findUpToReach_6 : decode cX7_findUpToReach 6 = .ok (.imul, 1) := by decide +kernel
theorem dX7_findUpToReach_7 : decode cX7_findUpToReach 7 = .ok (.istore_n 3, 1) := by decide +kernel
theorem dX7_findUpToReach_8 : decode cX7_findUpToReach 8 = .ok (.iload_n 3, 1) := by decide +kernel
theorem dX7_findUpToReach_9 : decode cX7_findUpToReach 9 = .ok (.iload_n 1, 1) := by decide +kernel
theorem dX7_findUpToReach_10 : decode cX7_findUpToReach 10 = .ok (.iconst 1, 1) := by decide +kernel
theorem dX7_findUpToReach_11 : decode cX7_findUpToReach 11 = .ok (.iadd, 1) := by decide +kernel
theorem dX7_findUpToReach_12 : decode cX7_findUpToReach 12 = .ok (.sipush 400, 3) := by decide +kernel
theorem dX7_findUpToReach_15 : decode cX7_findUpToReach 15 = .ok (.imul, 1) := by decide +kernel
theorem dX7_findUpToReach_16 : decode cX7_findUpToReach 16 = .ok (.if_icmp .ge 44, 3) := by decide +kernel
theorem dX7_findUpToReach_19 : decode cX7_findUpToReach 19 = .ok (.iload_n 2, 1) := by decide +kernel
theorem dX7_findUpToReach_20 : decode cX7_findUpToReach 20 = .ok (.ifCond .eq 40, 3) := by decide +kernel
theorem dX7_findUpToReach_23 : decode cX7_findUpToReach 23 = .ok (.aload_n 0, 1) := by decide +kernel
theorem dX7_findUpToReach_24 : decode cX7_findUpToReach 24 = .ok (.getfield 9, 3) := by decide +kernel
theorem dX7_findUpToReach_27 : decode cX7_findUpToReach 27 = .ok (.iload_n 3, 1) := by decide +kernel
theorem dX7_findUpToReach_28 : decode cX7_findUpToReach 28 = .ok (.iaload, 1) := by decide +kernel
theorem dX7_findUpToReach_29 : decode cX7_findUpToReach 29 = .ok (.ifCond .ne 8, 3) := by decide +kernel
theorem dX7_findUpToReach_32 : decode cX7_findUpToReach 32 = .ok (.aload_n 0, 1) := by decide +kernel
theorem dX7_findUpToReach_33 : decode cX7_findUpToReach 33 = .ok (.iload_n 3, 1) := by decide +kernel
theorem dX7_findUpToReach_34 : decode cX7_findUpToReach 34 = .ok (.invokevirtual 33, 3) := by decide +kernel
theorem dX7_findUpToReach_37 : decode cX7_findUpToReach 37 = .ok (.aload_n 0, 1) := by decide +kernel
theorem dX7_findUpToReach_38 : decode cX7_findUpToReach 38 = .ok (.getfield 9, 3) := by decide +kernel
theorem dX7_findUpToReach_41 : decode cX7_findUpToReach 41 = .ok (.iload_n 3, 1) := by decide +kernel
theorem dX7_findUpToReach_42 : decode cX7_findUpToReach 42 = .ok (.iaload, 1) := by decide +kernel
theorem dX7_findUpToReach_43 : decode cX7_findUpToReach 43 = .ok (.bipush 16, 2) := by decide +kernel
theorem dX7_findUpToReach_45 : decode cX7_findUpToReach 45 = .ok (.if_icmp .lt 7, 3) := by decide +kernel
theorem dX7_findUpToReach_48 : decode cX7_findUpToReach 48 = .ok (.iconst 1, 1) := by decide +kernel
theorem dX7_findUpToReach_49 : decode cX7_findUpToReach 49 = .ok (.goto 4, 3) := by decide +kernel
theorem dX7_findUpToReach_52 : decode cX7_findUpToReach 52 = .ok (.iconst 0, 1) := by decide +kernel
theorem dX7_findUpToReach_53 : decode cX7_findUpToReach 53 = .ok (.istore_n 2, 1) := by decide +kernel
theorem dX7_findUpToReach_54 : decode cX7_findUpToReach 54 = .ok (.iinc 3 1, 3) := by decide +kernel
theorem dX7_findUpToReach_57 : decode cX7_findUpToReach 57 = .ok (.goto (-49), 3) := by decide +kernel
theorem dX7_findUpToReach_60 : decode cX7_findUpToReach 60 = .ok (.return_, 1) := by decide +kernel
theorem dX7_at_0 : decode cX7_at 0 = .ok (.aload_n 0, 1) := by decide +kernel
theorem dX7_at_1 : decode cX7_at 1 = .ok (.getfield 9, 3) := by decide +kernel
theorem dX7_at_4 : decode cX7_at 4 = .ok (.iload_n 1, 1) := by decide +kernel
theorem dX7_at_5 : decode cX7_at 5 = .ok (.sipush 400, 3) := by decide +kernel
theorem dX7_at_8 : decode cX7_at 8 = .ok (.imul, 1) := by decide +kernel
theorem dX7_at_9 : decode cX7_at 9 = .ok (.iload_n 2, 1) := by decide +kernel
theorem dX7_at_10 : decode cX7_at 10 = .ok (.iadd, 1) := by decide +kernel
theorem dX7_at_11 : decode cX7_at 11 = .ok (.iaload, 1) := by decide +kernel
theorem dX7_at_12 : decode cX7_at 12 = .ok (.istore_n 3, 1) := by decide +kernel
theorem dX7_at_13 : decode cX7_at 13 = .ok (.iload_n 3, 1) := by decide +kernel
theorem dX7_at_14 : decode cX7_at 14 = .ok (.bipush 16, 2) := by decide +kernel
theorem dX7_at_16 : decode cX7_at 16 = .ok (.if_icmp .ge 8, 3) := by decide +kernel
theorem dX7_at_19 : decode cX7_at 19 = .ok (.bipush (-9), 2) := by decide +kernel
theorem dX7_at_21 : decode cX7_at 21 = .ok (.goto 7, 3) := by decide +kernel
theorem dX7_at_24 : decode cX7_at 24 = .ok (.iload_n 3, 1) := by decide +kernel
theorem dX7_at_25 : decode cX7_at 25 = .ok (.bipush 16, 2) := by decide +kernel
theorem dX7_at_27 : decode cX7_at 27 = .ok (.irem, 1) := by decide +kernel
theorem dX7_at_28 : decode cX7_at 28 = .ok (.ireturn, 1) := by decide +kernel
theorem dX7_rank_0 : decode cX7_rank 0 = .ok (.aload_n 0, 1) := by decide +kernel
theorem dX7_rank_1 : decode cX7_rank 1 = .ok (.getfield 9, 3) := by decide +kernel
theorem dX7_rank_4 : decode cX7_rank 4 = .ok (.iload_n 1, 1) := by decide +kernel
theorem dX7_rank_5 : decode cX7_rank 5 = .ok (.sipush 400, 3) := by decide +kernel
theorem dX7_rank_8 : decode cX7_rank 8 = .ok (.imul, 1) := by decide +kernel
theorem dX7_rank_9 : decode cX7_rank 9 = .ok (.iload_n 2, 1) := by decide +kernel
theorem dX7_rank_10 : decode cX7_rank 10 = .ok (.iadd, 1) := by decide +kernel
theorem dX7_rank_11 : decode cX7_rank 11 = .ok (.iaload, 1) := by decide +kernel
theorem dX7_rank_12 : decode cX7_rank 12 = .ok (.invokestatic 37, 3) := by decide +kernel
theorem dX7_rank_15 : decode cX7_rank 15 = .ok (.ireturn, 1) := by decide +kernel
theorem dX7_solve_0 : decode cX7_solve 0 = .ok (.aload_n 0, 1) := by decide +kernel
theorem dX7_solve_1 : decode cX7_solve 1 = .ok (.iconst 1, 1) := by decide +kernel
theorem dX7_solve_2 : decode cX7_solve 2 = .ok (.putfield 23, 3) := by decide +kernel
theorem dX7_solve_5 : decode cX7_solve 5 = .ok (.aload_n 0, 1) := by decide +kernel
theorem dX7_solve_6 : decode cX7_solve 6 = .ok (.getfield 19, 3) := by decide +kernel
theorem dX7_solve_9 : decode cX7_solve 9 = .ok (.getfield 41, 3) := by decide +kernel
theorem dX7_solve_12 : decode cX7_solve 12 = .ok (.astore_n 2, 1) := by decide +kernel
theorem dX7_solve_13 : decode cX7_solve 13 = .ok (.aload_n 2, 1) := by decide +kernel
theorem dX7_solve_14 : decode cX7_solve 14 = .ok (.iconst 0, 1) := by decide +kernel
theorem dX7_solve_15 : decode cX7_solve 15 = .ok (.iload_n 1, 1) := by decide +kernel
theorem dX7_solve_16 : decode cX7_solve 16 = .ok (.iastore, 1) := by decide +kernel
theorem dX7_solve_17 : decode cX7_solve 17 = .ok (.aload_n 0, 1) := by decide +kernel
theorem dX7_solve_18 : decode cX7_solve 18 = .ok (.getfield 9, 3) := by decide +kernel
theorem dX7_solve_21 : decode cX7_solve 21 = .ok (.iload_n 1, 1) := by decide +kernel
theorem dX7_solve_22 : decode cX7_solve 22 = .ok (.iconst 1, 1) := by decide +kernel
theorem dX7_solve_23 : decode cX7_solve 23 = .ok (.iastore, 1) := by decide +kernel
theorem dX7_solve_24 : decode cX7_solve 24 = .ok (.iconst 1, 1) := by decide +kernel
theorem dX7_solve_25 : decode cX7_solve 25 = .ok (.istore_n 3, 1) := by decide +kernel
theorem dX7_solve_26 : decode cX7_solve 26 = .ok (.iconst 0, 1) := by decide +kernel
theorem dX7_solve_27 : decode cX7_solve 27 = .ok (.istore 4, 2) := by decide +kernel
theorem dX7_solve_29 : decode cX7_solve 29 = .ok (.iload 4, 2) := by decide +kernel
theorem dX7_solve_31 : decode cX7_solve 31 = .ok (.sipush 6400, 3) := by decide +kernel
theorem dX7_solve_34 : decode cX7_solve 34 = .ok (.if_icmp .ge 59, 3) := by decide +kernel
theorem dX7_solve_37 : decode cX7_solve 37 = .ok (.iload_n 3, 1) := by decide +kernel
theorem dX7_solve_38 : decode cX7_solve 38 = .ok (.ifCond .le 55, 3) := by decide +kernel
theorem dX7_solve_41 : decode cX7_solve 41 = .ok (.aload_n 0, 1) := by decide +kernel
theorem dX7_solve_42 : decode cX7_solve 42 = .ok (.aload_n 2, 1) := by decide +kernel
theorem dX7_solve_43 : decode cX7_solve 43 = .ok (.iload_n 3, 1) := by decide +kernel
theorem dX7_solve_44 : decode cX7_solve 44 = .ok (.iconst 1, 1) := by decide +kernel
theorem dX7_solve_45 : decode cX7_solve 45 = .ok (.isub, 1) := by decide +kernel
theorem dX7_solve_46 : decode cX7_solve 46 = .ok (.iaload, 1) := by decide +kernel
theorem dX7_solve_47 : decode cX7_solve 47 = .ok (.invokevirtual 46, 3) := by decide +kernel
theorem dX7_solve_50 : decode cX7_solve 50 = .ok (.istore 5, 2) := by decide +kernel
theorem dX7_solve_52 : decode cX7_solve 52 = .ok (.iload 5, 2) := by decide +kernel
theorem dX7_solve_54 : decode cX7_solve 54 = .ok (.iconst (-1), 1) := by decide +kernel
theorem dX7_solve_55 : decode cX7_solve 55 = .ok (.if_icmp .eq 10, 3) := by decide +kernel
theorem dX7_solve_58 : decode cX7_solve 58 = .ok (.iload_n 3, 1) := by decide +kernel
theorem dX7_solve_59 : decode cX7_solve 59 = .ok (.sipush 3200, 3) := by decide +kernel
theorem dX7_solve_62 : decode cX7_solve 62 = .ok (.if_icmp .lt 9, 3) := by decide +kernel
theorem dX7_solve_65 : decode cX7_solve 65 = .ok (.iinc 3 (-1), 3) := by decide +kernel
theorem dX7_solve_68 : decode cX7_solve 68 = .ok (.goto 19, 3) := by decide +kernel
theorem dX7_solve_71 : decode cX7_solve 71 = .ok (.aload_n 0, 1) := by decide +kernel
theorem dX7_solve_72 : decode cX7_solve 72 = .ok (.getfield 9, 3) := by decide +kernel
theorem dX7_solve_75 : decode cX7_solve 75 = .ok (.iload 5, 2) := by decide +kernel
theorem dX7_solve_77 : decode cX7_solve 77 = .ok (.iconst 1, 1) := by decide +kernel
theorem dX7_solve_78 : decode cX7_solve 78 = .ok (.iastore, 1) := by decide +kernel
theorem dX7_solve_79 : decode cX7_solve 79 = .ok (.aload_n 2, 1) := by decide +kernel
theorem dX7_solve_80 : decode cX7_solve 80 = .ok (.iload_n 3, 1) := by decide +kernel
theorem dX7_solve_81 : decode cX7_solve 81 = .ok (.iload 5, 2) := by decide +kernel
theorem dX7_solve_83 : decode cX7_solve 83 = .ok (.iastore, 1) := by decide +kernel
theorem dX7_solve_84 : decode cX7_solve 84 = .ok (.iinc 3 1, 3) := by decide +kernel
theorem dX7_solve_87 : decode cX7_solve 87 = .ok (.iinc 4 1, 3) := by decide +kernel
theorem dX7_solve_90 : decode cX7_solve 90 = .ok (.goto (-61), 3) := by decide +kernel
theorem dX7_solve_93 : decode cX7_solve 93 = .ok (.return_, 1) := by decide +kernel
theorem dX7_settle_0 : decode cX7_settle 0 = .ok (.aload_n 0, 1) := by decide +kernel
theorem dX7_settle_1 : decode cX7_settle 1 = .ok (.getfield 15, 3) := by decide +kernel
theorem dX7_settle_4 : decode cX7_settle 4 = .ok (.getfield 49, 3) := by decide +kernel
theorem dX7_settle_7 : decode cX7_settle 7 = .ok (.iload_n 1, 1) := by decide +kernel
theorem dX7_settle_8 : decode cX7_settle 8 = .ok (.sipush 400, 3) := by decide +kernel
theorem dX7_settle_11 : decode cX7_settle 11 = .ok (.idiv, 1) := by decide +kernel
theorem dX7_settle_12 : decode cX7_settle 12 = .ok (.aaload, 1) := by decide +kernel
theorem dX7_settle_13 : decode cX7_settle 13 = .ok (.astore_n 2, 1) := by decide +kernel
theorem dX7_settle_14 : decode cX7_settle 14 = .ok (.aload_n 2, 1) := by decide +kernel
theorem dX7_settle_15 : decode cX7_settle 15 = .ok (.ifnull 19, 3) := by decide +kernel
theorem dX7_settle_18 : decode cX7_settle 18 = .ok (.aload_n 0, 1) := by decide +kernel
theorem dX7_settle_19 : decode cX7_settle 19 = .ok (.getfield 19, 3) := by decide +kernel
theorem dX7_settle_22 : decode cX7_settle 22 = .ok (.aload_n 2, 1) := by decide +kernel
theorem dX7_settle_23 : decode cX7_settle 23 = .ok (.iload_n 1, 1) := by decide +kernel
theorem dX7_settle_24 : decode cX7_settle 24 = .ok (.sipush 400, 3) := by decide +kernel
theorem dX7_settle_27 : decode cX7_settle 27 = .ok (.irem, 1) := by decide +kernel
theorem dX7_settle_28 : decode cX7_settle 28 = .ok (.invokevirtual 55, 3) := by decide +kernel
theorem dX7_settle_31 : decode cX7_settle 31 = .ok (.ifCond .ne 12, 3) := by decide +kernel
theorem dX7_settle_34 : decode cX7_settle 34 = .ok (.aload_n 0, 1) := by decide +kernel
theorem dX7_settle_35 : decode cX7_settle 35 = .ok (.getfield 9, 3) := by decide +kernel
theorem dX7_settle_38 : decode cX7_settle 38 = .ok (.iload_n 1, 1) := by decide +kernel
theorem dX7_settle_39 : decode cX7_settle 39 = .ok (.iconst 2, 1) := by decide +kernel
theorem dX7_settle_40 : decode cX7_settle 40 = .ok (.iastore, 1) := by decide +kernel
theorem dX7_settle_41 : decode cX7_settle 41 = .ok (.iconst (-1), 1) := by decide +kernel
theorem dX7_settle_42 : decode cX7_settle 42 = .ok (.ireturn, 1) := by decide +kernel
theorem dX7_settle_43 : decode cX7_settle 43 = .ok (.iconst 0, 1) := by decide +kernel
theorem dX7_settle_44 : decode cX7_settle 44 = .ok (.istore_n 3, 1) := by decide +kernel
theorem dX7_settle_45 : decode cX7_settle 45 = .ok (.aload_n 2, 1) := by decide +kernel
theorem dX7_settle_46 : decode cX7_settle 46 = .ok (.getfield 59, 3) := by decide +kernel
theorem dX7_settle_49 : decode cX7_settle 49 = .ok (.astore 4, 2) := by decide +kernel
theorem dX7_settle_51 : decode cX7_settle 51 = .ok (.aload 4, 2) := by decide +kernel
theorem dX7_settle_53 : decode cX7_settle 53 = .ok (.arraylength, 1) := by decide +kernel
theorem dX7_settle_54 : decode cX7_settle 54 = .ok (.istore 5, 2) := by decide +kernel
theorem dX7_settle_56 : decode cX7_settle 56 = .ok (.iconst 0, 1) := by decide +kernel
theorem dX7_settle_57 : decode cX7_settle 57 = .ok (.istore 6, 2) := by decide +kernel
theorem dX7_settle_59 : decode cX7_settle 59 = .ok (.iload 6, 2) := by decide +kernel
theorem dX7_settle_61 : decode cX7_settle 61 = .ok (.iload 5, 2) := by decide +kernel
theorem dX7_settle_63 : decode cX7_settle 63 = .ok (.if_icmp .ge 101, 3) := by decide +kernel
theorem dX7_settle_66 : decode cX7_settle 66 = .ok (.aload 4, 2) := by decide +kernel
theorem dX7_settle_68 : decode cX7_settle 68 = .ok (.iload 6, 2) := by decide +kernel
theorem dX7_settle_70 : decode cX7_settle 70 = .ok (.iaload, 1) := by decide +kernel
theorem dX7_settle_71 : decode cX7_settle 71 = .ok (.istore 7, 2) := by decide +kernel
theorem dX7_settle_73 : decode cX7_settle 73 = .ok (.aload_n 0, 1) := by decide +kernel
theorem dX7_settle_74 : decode cX7_settle 74 = .ok (.getfield 19, 3) := by decide +kernel
theorem dX7_settle_77 : decode cX7_settle 77 = .ok (.iload 7, 2) := by decide +kernel
theorem dX7_settle_79 : decode cX7_settle 79 = .ok (.invokevirtual 64, 3) := by decide +kernel
theorem dX7_settle_82 : decode cX7_settle 82 = .ok (.ifCond .ne 6, 3) := by decide +kernel
theorem dX7_settle_85 : decode cX7_settle 85 = .ok (.goto 73, 3) := by decide +kernel
theorem dX7_settle_88 : decode cX7_settle 88 = .ok (.aload_n 0, 1) := by decide +kernel
theorem dX7_settle_89 : decode cX7_settle 89 = .ok (.aload_n 2, 1) := by decide +kernel
theorem dX7_settle_90 : decode cX7_settle 90 = .ok (.iload 7, 2) := by decide +kernel
theorem dX7_settle_92 : decode cX7_settle 92 = .ok (.invokevirtual 68, 3) := by decide +kernel
theorem dX7_settle_95 : decode cX7_settle 95 = .ok (.istore 8, 2) := by decide +kernel
theorem dX7_settle_97 : decode cX7_settle 97 = .ok (.iload 8, 2) := by decide +kernel
theorem dX7_settle_99 : decode cX7_settle 99 = .ok (.ifCond .lt 16, 3) := by decide +kernel
theorem dX7_settle_102 : decode cX7_settle 102 = .ok (.aload_n 0, 1) := by decide +kernel
theorem dX7_settle_103 : decode cX7_settle 103 = .ok (.getfield 9, 3) := by decide +kernel
theorem dX7_settle_106 : decode cX7_settle 106 = .ok (.iload 8, 2) := by decide +kernel
theorem dX7_settle_108 : decode cX7_settle 108 = .ok (.iaload, 1) := by decide +kernel
theorem dX7_settle_109 : decode cX7_settle 109 = .ok (.ifCond .ne 6, 3) := by decide +kernel
theorem dX7_settle_112 : decode cX7_settle 112 = .ok (.iload 8, 2) := by decide +kernel
theorem dX7_settle_114 : decode cX7_settle 114 = .ok (.ireturn, 1) := by decide +kernel
theorem dX7_settle_115 : decode cX7_settle 115 = .ok (.iload 8, 2) := by decide +kernel
theorem dX7_settle_117 : decode cX7_settle 117 = .ok (.ifCond .lt 15, 3) := by decide +kernel
theorem dX7_settle_120 : decode cX7_settle 120 = .ok (.aload_n 0, 1) := by decide +kernel
theorem dX7_settle_121 : decode cX7_settle 121 = .ok (.getfield 9, 3) := by decide +kernel
theorem dX7_settle_124 : decode cX7_settle 124 = .ok (.iload 8, 2) := by decide +kernel
theorem dX7_settle_126 : decode cX7_settle 126 = .ok (.iaload, 1) := by decide +kernel
theorem dX7_settle_127 : decode cX7_settle 127 = .ok (.bipush 16, 2) := by decide +kernel
theorem dX7_settle_129 : decode cX7_settle 129 = .ok (.if_icmp .ge 12, 3) := by decide +kernel
theorem dX7_settle_132 : decode cX7_settle 132 = .ok (.aload_n 0, 1) := by decide +kernel
theorem dX7_settle_133 : decode cX7_settle 133 = .ok (.getfield 9, 3) := by decide +kernel
theorem dX7_settle_136 : decode cX7_settle 136 = .ok (.iload_n 1, 1) := by decide +kernel
theorem dX7_settle_137 : decode cX7_settle 137 = .ok (.iconst 2, 1) := by decide +kernel
theorem dX7_settle_138 : decode cX7_settle 138 = .ok (.iastore, 1) := by decide +kernel
theorem dX7_settle_139 : decode cX7_settle 139 = .ok (.iconst (-1), 1) := by decide +kernel
theorem dX7_settle_140 : decode cX7_settle 140 = .ok (.ireturn, 1) := by decide +kernel
theorem dX7_settle_141 : decode cX7_settle 141 = .ok (.iload_n 3, 1) := by decide +kernel
theorem dX7_settle_142 : decode cX7_settle 142 = .ok (.aload_n 0, 1) := by decide +kernel
theorem dX7_settle_143 : decode cX7_settle 143 = .ok (.getfield 9, 3) := by decide +kernel
theorem dX7_settle_146 : decode cX7_settle 146 = .ok (.iload 8, 2) := by decide +kernel
theorem dX7_settle_148 : decode cX7_settle 148 = .ok (.iaload, 1) := by decide +kernel
theorem dX7_settle_149 : decode cX7_settle 149 = .ok (.invokestatic 37, 3) := by decide +kernel
theorem dX7_settle_152 : decode cX7_settle 152 = .ok (.iconst 1, 1) := by decide +kernel
theorem dX7_settle_153 : decode cX7_settle 153 = .ok (.iadd, 1) := by decide +kernel
theorem dX7_settle_154 : decode cX7_settle 154 = .ok (.invokestatic 72, 3) := by decide +kernel
theorem dX7_settle_157 : decode cX7_settle 157 = .ok (.istore_n 3, 1) := by decide +kernel
theorem dX7_settle_158 : decode cX7_settle 158 = .ok (.iinc 6 1, 3) := by decide +kernel
theorem dX7_settle_161 : decode cX7_settle 161 = .ok (.goto (-102), 3) := by decide +kernel
theorem dX7_settle_164 : decode cX7_settle 164 = .ok (.aload_n 0, 1) := by decide +kernel
theorem dX7_settle_165 : decode cX7_settle 165 = .ok (.getfield 9, 3) := by decide +kernel
theorem dX7_settle_168 : decode cX7_settle 168 = .ok (.iload_n 1, 1) := by decide +kernel
theorem dX7_settle_169 : decode cX7_settle 169 = .ok (.bipush 16, 2) := by decide +kernel
theorem dX7_settle_171 : decode cX7_settle 171 = .ok (.iload_n 3, 1) := by decide +kernel
theorem dX7_settle_172 : decode cX7_settle 172 = .ok (.iconst 1, 1) := by decide +kernel
theorem dX7_settle_173 : decode cX7_settle 173 = .ok (.iadd, 1) := by decide +kernel
theorem dX7_settle_174 : decode cX7_settle 174 = .ok (.imul, 1) := by decide +kernel
theorem dX7_settle_175 : decode cX7_settle 175 = .ok (.aload_n 0, 1) := by decide +kernel
theorem dX7_settle_176 : decode cX7_settle 176 = .ok (.getfield 19, 3) := by decide +kernel
theorem dX7_settle_179 : decode cX7_settle 179 = .ok (.aload_n 2, 1) := by decide +kernel
theorem dX7_settle_180 : decode cX7_settle 180 = .ok (.aload_n 0, 1) := by decide +kernel
theorem dX7_settle_181 : decode cX7_settle 181 = .ok (.getfield 9, 3) := by decide +kernel
theorem dX7_settle_184 : decode cX7_settle 184 = .ok (.aload_n 0, 1) := by decide +kernel
theorem dX7_settle_185 : decode cX7_settle 185 = .ok (.getfield 15, 3) := by decide +kernel
theorem dX7_settle_188 : decode cX7_settle 188 = .ok (.getfield 78, 3) := by decide +kernel
theorem dX7_settle_191 : decode cX7_settle 191 = .ok (.invokevirtual 82, 3) := by decide +kernel
theorem dX7_settle_194 : decode cX7_settle 194 = .ok (.iadd, 1) := by decide +kernel
theorem dX7_settle_195 : decode cX7_settle 195 = .ok (.iastore, 1) := by decide +kernel
theorem dX7_settle_196 : decode cX7_settle 196 = .ok (.iconst (-1), 1) := by decide +kernel
theorem dX7_settle_197 : decode cX7_settle 197 = .ok (.ireturn, 1) := by decide +kernel
theorem dX7_neededCell_0 : decode cX7_neededCell 0 = .ok (.aload_n 0, 1) := by decide +kernel
theorem dX7_neededCell_1 : decode cX7_neededCell 1 = .ok (.getfield 19, 3) := by decide +kernel
theorem dX7_neededCell_4 : decode cX7_neededCell 4 = .ok (.getfield 86, 3) := by decide +kernel
theorem dX7_neededCell_7 : decode cX7_neededCell 7 = .ok (.iload_n 2, 1) := by decide +kernel
theorem dX7_neededCell_8 : decode cX7_neededCell 8 = .ok (.iaload, 1) := by decide +kernel
theorem dX7_neededCell_9 : decode cX7_neededCell 9 = .ok (.istore_n 3, 1) := by decide +kernel
theorem dX7_neededCell_10 : decode cX7_neededCell 10 = .ok (.iload_n 3, 1) := by decide +kernel
theorem dX7_neededCell_11 : decode cX7_neededCell 11 = .ok (.sipush 400, 3) := by decide +kernel
theorem dX7_neededCell_14 : decode cX7_neededCell 14 = .ok (.if_icmp .ge 17, 3) := by decide +kernel
theorem dX7_neededCell_17 : decode cX7_neededCell 17 = .ok (.aload_n 1, 1) := by decide +kernel
theorem dX7_neededCell_18 : decode cX7_neededCell 18 = .ok (.iload_n 2, 1) := by decide +kernel
theorem dX7_neededCell_19 : decode cX7_neededCell 19 = .ok (.invokevirtual 89, 3) := by decide +kernel
theorem dX7_neededCell_22 : decode cX7_neededCell 22 = .ok (.sipush 400, 3) := by decide +kernel
theorem dX7_neededCell_25 : decode cX7_neededCell 25 = .ok (.imul, 1) := by decide +kernel
theorem dX7_neededCell_26 : decode cX7_neededCell 26 = .ok (.iload_n 3, 1) := by decide +kernel
theorem dX7_neededCell_27 : decode cX7_neededCell 27 = .ok (.iadd, 1) := by decide +kernel
theorem dX7_neededCell_28 : decode cX7_neededCell 28 = .ok (.goto 4, 3) := by decide +kernel
theorem dX7_neededCell_31 : decode cX7_neededCell 31 = .ok (.iconst (-1), 1) := by decide +kernel
theorem dX7_neededCell_32 : decode cX7_neededCell 32 = .ok (.ireturn, 1) := by decide +kernel
theorem dX7_collectNeeded_0 : decode cX7_collectNeeded 0 = .ok (.aload_n 0, 1) := by decide +kernel
theorem dX7_collectNeeded_1 : decode cX7_collectNeeded 1 = .ok (.getfield 19, 3) := by decide +kernel
theorem dX7_collectNeeded_4 : decode cX7_collectNeeded 4 = .ok (.getfield 41, 3) := by decide +kernel
theorem dX7_collectNeeded_7 : decode cX7_collectNeeded 7 = .ok (.astore_n 3, 1) := by decide +kernel
theorem dX7_collectNeeded_8 : decode cX7_collectNeeded 8 = .ok (.aload_n 0, 1) := by decide +kernel
theorem dX7_collectNeeded_9 : decode cX7_collectNeeded 9 = .ok (.getfield 19, 3) := by decide +kernel
theorem dX7_collectNeeded_12 : decode cX7_collectNeeded 12 = .ok (.invokevirtual 92, 3) := by decide +kernel
theorem dX7_collectNeeded_15 : decode cX7_collectNeeded 15 = .ok (.aload_n 3, 1) := by decide +kernel
theorem dX7_collectNeeded_16 : decode cX7_collectNeeded 16 = .ok (.iconst 0, 1) := by decide +kernel
theorem dX7_collectNeeded_17 : decode cX7_collectNeeded 17 = .ok (.iload_n 1, 1) := by decide +kernel
theorem dX7_collectNeeded_18 : decode cX7_collectNeeded 18 = .ok (.sipush 400, 3) := by decide +kernel
theorem dX7_collectNeeded_21 : decode cX7_collectNeeded 21 = .ok (.imul, 1) := by decide +kernel
theorem dX7_collectNeeded_22 : decode cX7_collectNeeded 22 = .ok (.iload_n 2, 1) := by decide +kernel
theorem dX7_collectNeeded_23 : decode cX7_collectNeeded 23 = .ok (.iadd, 1) := by decide +kernel
theorem dX7_collectNeeded_24 : decode cX7_collectNeeded 24 = .ok (.iastore, 1) := by decide +kernel
theorem dX7_collectNeeded_25 : decode cX7_collectNeeded 25 = .ok (.aload_n 0, 1) := by decide +kernel
theorem dX7_collectNeeded_26 : decode cX7_collectNeeded 26 = .ok (.getfield 19, 3) := by decide +kernel
theorem dX7_collectNeeded_29 : decode cX7_collectNeeded 29 = .ok (.aload_n 3, 1) := by decide +kernel
theorem dX7_collectNeeded_30 : decode cX7_collectNeeded 30 = .ok (.iconst 0, 1) := by decide +kernel
theorem dX7_collectNeeded_31 : decode cX7_collectNeeded 31 = .ok (.iaload, 1) := by decide +kernel
theorem dX7_collectNeeded_32 : decode cX7_collectNeeded 32 = .ok (.invokevirtual 95, 3) := by decide +kernel
theorem dX7_collectNeeded_35 : decode cX7_collectNeeded 35 = .ok (.pop, 1) := by decide +kernel
theorem dX7_collectNeeded_36 : decode cX7_collectNeeded 36 = .ok (.iconst 1, 1) := by decide +kernel
theorem dX7_collectNeeded_37 : decode cX7_collectNeeded 37 = .ok (.istore 4, 2) := by decide +kernel
theorem dX7_collectNeeded_39 : decode cX7_collectNeeded 39 = .ok (.iconst 0, 1) := by decide +kernel
theorem dX7_collectNeeded_40 : decode cX7_collectNeeded 40 = .ok (.istore 5, 2) := by decide +kernel
theorem dX7_collectNeeded_42 : decode cX7_collectNeeded 42 = .ok (.iload 5, 2) := by decide +kernel
theorem dX7_collectNeeded_44 : decode cX7_collectNeeded 44 = .ok (.iload 4, 2) := by decide +kernel
theorem dX7_collectNeeded_46 : decode cX7_collectNeeded 46 = .ok (.if_icmp .ge 29, 3) := by decide +kernel
theorem dX7_collectNeeded_49 : decode cX7_collectNeeded 49 = .ok (.iload 5, 2) := by decide +kernel
theorem dX7_collectNeeded_51 : decode cX7_collectNeeded 51 = .ok (.sipush 3200, 3) := by decide +kernel
theorem dX7_collectNeeded_54 : decode cX7_collectNeeded 54 = .ok (.if_icmp .ge 21, 3) := by decide +kernel
theorem dX7_collectNeeded_57 : decode cX7_collectNeeded 57 = .ok (.aload_n 0, 1) := by decide +kernel
theorem dX7_collectNeeded_58 : decode cX7_collectNeeded 58 = .ok (.aload_n 3, 1) := by decide +kernel
theorem dX7_collectNeeded_59 : decode cX7_collectNeeded 59 = .ok (.iload 5, 2) := by decide +kernel
theorem dX7_collectNeeded_61 : decode cX7_collectNeeded 61 = .ok (.iaload, 1) := by decide +kernel
theorem dX7_collectNeeded_62 : decode cX7_collectNeeded 62 = .ok (.iload 4, 2) := by decide +kernel
theorem dX7_collectNeeded_64 : decode cX7_collectNeeded 64 = .ok (.invokevirtual 98, 3) := by decide +kernel
theorem dX7_collectNeeded_67 : decode cX7_collectNeeded 67 = .ok (.istore 4, 2) := by decide +kernel
theorem dX7_collectNeeded_69 : decode cX7_collectNeeded 69 = .ok (.iinc 5 1, 3) := by decide +kernel
theorem dX7_collectNeeded_72 : decode cX7_collectNeeded 72 = .ok (.goto (-30), 3) := by decide +kernel
theorem dX7_collectNeeded_75 : decode cX7_collectNeeded 75 = .ok (.iload 4, 2) := by decide +kernel
theorem dX7_collectNeeded_77 : decode cX7_collectNeeded 77 = .ok (.iconst 1, 1) := by decide +kernel
theorem dX7_collectNeeded_78 : decode cX7_collectNeeded 78 = .ok (.isub, 1) := by decide +kernel
theorem dX7_collectNeeded_79 : decode cX7_collectNeeded 79 = .ok (.ireturn, 1) := by decide +kernel
theorem dX7_collectAtOnce_0 : decode cX7_collectAtOnce 0 = .ok (.aload_n 0, 1) := by decide +kernel
theorem dX7_collectAtOnce_1 : decode cX7_collectAtOnce 1 = .ok (.getfield 15, 3) := by decide +kernel
theorem dX7_collectAtOnce_4 : decode cX7_collectAtOnce 4 = .ok (.getfield 49, 3) := by decide +kernel
theorem dX7_collectAtOnce_7 : decode cX7_collectAtOnce 7 = .ok (.iload_n 1, 1) := by decide +kernel
theorem dX7_collectAtOnce_8 : decode cX7_collectAtOnce 8 = .ok (.sipush 400, 3) := by decide +kernel
theorem dX7_collectAtOnce_11 : decode cX7_collectAtOnce 11 = .ok (.idiv, 1) := by decide +kernel
theorem dX7_collectAtOnce_12 : decode cX7_collectAtOnce 12 = .ok (.aaload, 1) := by decide +kernel
theorem dX7_collectAtOnce_13 : decode cX7_collectAtOnce 13 = .ok (.astore_n 3, 1) := by decide +kernel
theorem dX7_collectAtOnce_14 : decode cX7_collectAtOnce 14 = .ok (.aload_n 3, 1) := by decide +kernel
theorem dX7_collectAtOnce_15 : decode cX7_collectAtOnce 15 = .ok (.ifnull 19, 3) := by decide +kernel
theorem dX7_collectAtOnce_18 : decode cX7_collectAtOnce 18 = .ok (.aload_n 0, 1) := by decide +kernel
theorem dX7_collectAtOnce_19 : decode cX7_collectAtOnce 19 = .ok (.getfield 19, 3) := by decide +kernel
theorem dX7_collectAtOnce_22 : decode cX7_collectAtOnce 22 = .ok (.aload_n 3, 1) := by decide +kernel
theorem dX7_collectAtOnce_23 : decode cX7_collectAtOnce 23 = .ok (.iload_n 1, 1) := by decide +kernel
theorem dX7_collectAtOnce_24 : decode cX7_collectAtOnce 24 = .ok (.sipush 400, 3) := by decide +kernel
theorem dX7_collectAtOnce_27 : decode cX7_collectAtOnce 27 = .ok (.irem, 1) := by decide +kernel
theorem dX7_collectAtOnce_28 : decode cX7_collectAtOnce 28 = .ok (.invokevirtual 55, 3) := by decide +kernel
theorem dX7_collectAtOnce_31 : decode cX7_collectAtOnce 31 = .ok (.ifCond .ne 5, 3) := by decide +kernel
theorem dX7_collectAtOnce_34 : decode cX7_collectAtOnce 34 = .ok (.iload_n 2, 1) := by decide +kernel
theorem dX7_collectAtOnce_35 : decode cX7_collectAtOnce 35 = .ok (.ireturn, 1) := by decide +kernel
theorem dX7_collectAtOnce_36 : decode cX7_collectAtOnce 36 = .ok (.iload_n 2, 1) := by decide +kernel
theorem dX7_collectAtOnce_37 : decode cX7_collectAtOnce 37 = .ok (.istore 4, 2) := by decide +kernel
theorem dX7_collectAtOnce_39 : decode cX7_collectAtOnce 39 = .ok (.aload_n 3, 1) := by decide +kernel
theorem dX7_collectAtOnce_40 : decode cX7_collectAtOnce 40 = .ok (.getfield 59, 3) := by decide +kernel
theorem dX7_collectAtOnce_43 : decode cX7_collectAtOnce 43 = .ok (.astore 5, 2) := by decide +kernel
theorem dX7_collectAtOnce_45 : decode cX7_collectAtOnce 45 = .ok (.aload 5, 2) := by decide +kernel
theorem dX7_collectAtOnce_47 : decode cX7_collectAtOnce 47 = .ok (.arraylength, 1) := by decide +kernel
theorem dX7_collectAtOnce_48 : decode cX7_collectAtOnce 48 = .ok (.istore 6, 2) := by decide +kernel
theorem dX7_collectAtOnce_50 : decode cX7_collectAtOnce 50 = .ok (.iconst 0, 1) := by decide +kernel
theorem dX7_collectAtOnce_51 : decode cX7_collectAtOnce 51 = .ok (.istore 7, 2) := by decide +kernel
theorem dX7_collectAtOnce_53 : decode cX7_collectAtOnce 53 = .ok (.iload 7, 2) := by decide +kernel
theorem dX7_collectAtOnce_55 : decode cX7_collectAtOnce 55 = .ok (.iload 6, 2) := by decide +kernel
theorem dX7_collectAtOnce_57 : decode cX7_collectAtOnce 57 = .ok (.if_icmp .ge 80, 3) := by decide +kernel
theorem dX7_collectAtOnce_60 : decode cX7_collectAtOnce 60 = .ok (.aload 5, 2) := by decide +kernel
theorem dX7_collectAtOnce_62 : decode cX7_collectAtOnce 62 = .ok (.iload 7, 2) := by decide +kernel
theorem dX7_collectAtOnce_64 : decode cX7_collectAtOnce 64 = .ok (.iaload, 1) := by decide +kernel
theorem dX7_collectAtOnce_65 : decode cX7_collectAtOnce 65 = .ok (.istore 8, 2) := by decide +kernel
theorem dX7_collectAtOnce_67 : decode cX7_collectAtOnce 67 = .ok (.aload_n 0, 1) := by decide +kernel
theorem dX7_collectAtOnce_68 : decode cX7_collectAtOnce 68 = .ok (.getfield 19, 3) := by decide +kernel
theorem dX7_collectAtOnce_71 : decode cX7_collectAtOnce 71 = .ok (.iload 8, 2) := by decide +kernel
theorem dX7_collectAtOnce_73 : decode cX7_collectAtOnce 73 = .ok (.invokevirtual 64, 3) := by decide +kernel
theorem dX7_collectAtOnce_76 : decode cX7_collectAtOnce 76 = .ok (.ifCond .ne 6, 3) := by decide +kernel
theorem dX7_collectAtOnce_79 : decode cX7_collectAtOnce 79 = .ok (.goto 52, 3) := by decide +kernel
theorem dX7_collectAtOnce_82 : decode cX7_collectAtOnce 82 = .ok (.aload_n 0, 1) := by decide +kernel
theorem dX7_collectAtOnce_83 : decode cX7_collectAtOnce 83 = .ok (.aload_n 3, 1) := by decide +kernel
theorem dX7_collectAtOnce_84 : decode cX7_collectAtOnce 84 = .ok (.iload 8, 2) := by decide +kernel
theorem dX7_collectAtOnce_86 : decode cX7_collectAtOnce 86 = .ok (.invokevirtual 68, 3) := by decide +kernel
theorem dX7_collectAtOnce_89 : decode cX7_collectAtOnce 89 = .ok (.istore 9, 2) := by decide +kernel
theorem dX7_collectAtOnce_91 : decode cX7_collectAtOnce 91 = .ok (.iload 9, 2) := by decide +kernel
theorem dX7_collectAtOnce_93 : decode cX7_collectAtOnce 93 = .ok (.ifCond .lt 38, 3) := by decide +kernel
theorem dX7_collectAtOnce_96 : decode cX7_collectAtOnce 96 = .ok (.iload 4, 2) := by decide +kernel
theorem dX7_collectAtOnce_98 : decode cX7_collectAtOnce 98 = .ok (.sipush 3200, 3) := by decide +kernel
theorem dX7_collectAtOnce_101 : decode cX7_collectAtOnce 101 = .ok (.if_icmp .ge 30, 3) := by decide +kernel
theorem dX7_collectAtOnce_104 : decode cX7_collectAtOnce 104 = .ok (.aload_n 0, 1) := by decide +kernel
theorem dX7_collectAtOnce_105 : decode cX7_collectAtOnce 105 = .ok (.getfield 19, 3) := by decide +kernel
theorem dX7_collectAtOnce_108 : decode cX7_collectAtOnce 108 = .ok (.iload 9, 2) := by decide +kernel
theorem dX7_collectAtOnce_110 : decode cX7_collectAtOnce 110 = .ok (.invokevirtual 95, 3) := by decide +kernel
theorem dX7_collectAtOnce_113 : decode cX7_collectAtOnce 113 = .ok (.ifCond .eq 18, 3) := by decide +kernel
theorem dX7_collectAtOnce_116 : decode cX7_collectAtOnce 116 = .ok (.aload_n 0, 1) := by decide +kernel
theorem dX7_collectAtOnce_117 : decode cX7_collectAtOnce 117 = .ok (.getfield 19, 3) := by decide +kernel
theorem dX7_collectAtOnce_120 : decode cX7_collectAtOnce 120 = .ok (.getfield 41, 3) := by decide +kernel
theorem dX7_collectAtOnce_123 : decode cX7_collectAtOnce 123 = .ok (.iload 4, 2) := by decide +kernel
theorem dX7_collectAtOnce_125 : decode cX7_collectAtOnce 125 = .ok (.iload 9, 2) := by decide +kernel
theorem dX7_collectAtOnce_127 : decode cX7_collectAtOnce 127 = .ok (.iastore, 1) := by decide +kernel
theorem dX7_collectAtOnce_128 : decode cX7_collectAtOnce 128 = .ok (.iinc 4 1, 3) := by decide +kernel
theorem dX7_collectAtOnce_131 : decode cX7_collectAtOnce 131 = .ok (.iinc 7 1, 3) := by decide +kernel
theorem dX7_collectAtOnce_134 : decode cX7_collectAtOnce 134 = .ok (.goto (-81), 3) := by decide +kernel
theorem dX7_collectAtOnce_137 : decode cX7_collectAtOnce 137 = .ok (.iload 4, 2) := by decide +kernel
theorem dX7_collectAtOnce_139 : decode cX7_collectAtOnce 139 = .ok (.ireturn, 1) := by decide +kernel
theorem dX7_reach_0 : decode cX7_reach 0 = .ok (.iconst 0, 1) := by decide +kernel
theorem dX7_reach_1 : decode cX7_reach 1 = .ok (.istore_n 2, 1) := by decide +kernel
theorem dX7_reach_2 : decode cX7_reach 2 = .ok (.iload_n 2, 1) := by decide +kernel
theorem dX7_reach_3 : decode cX7_reach 3 = .ok (.sipush 400, 3) := by decide +kernel
theorem dX7_reach_6 : decode cX7_reach 6 = .ok (.if_icmp .ge 22, 3) := by decide +kernel
theorem dX7_reach_9 : decode cX7_reach 9 = .ok (.aload_n 0, 1) := by decide +kernel
theorem dX7_reach_10 : decode cX7_reach 10 = .ok (.iload_n 1, 1) := by decide +kernel
theorem dX7_reach_11 : decode cX7_reach 11 = .ok (.iload_n 2, 1) := by decide +kernel
theorem dX7_reach_12 : decode cX7_reach 12 = .ok (.invokevirtual 101, 3) := by decide +kernel
theorem dX7_reach_15 : decode cX7_reach 15 = .ok (.bipush (-9), 2) := by decide +kernel
theorem dX7_reach_17 : decode cX7_reach 17 = .ok (.if_icmp .ne 5, 3) := by decide +kernel
theorem dX7_reach_20 : decode cX7_reach 20 = .ok (.iload_n 2, 1) := by decide +kernel
theorem dX7_reach_21 : decode cX7_reach 21 = .ok (.ireturn, 1) := by decide +kernel
theorem dX7_reach_22 : decode cX7_reach 22 = .ok (.iinc 2 1, 3) := by decide +kernel
theorem dX7_reach_25 : decode cX7_reach 25 = .ok (.goto (-23), 3) := by decide +kernel
theorem dX7_reach_28 : decode cX7_reach 28 = .ok (.sipush 400, 3) := by decide +kernel
theorem dX7_reach_31 : decode cX7_reach 31 = .ok (.ireturn, 1) := by decide +kernel
theorem dX7_countDifferent_0 : decode cX7_countDifferent 0 = .ok (.aload_n 0, 1) := by decide +kernel
theorem dX7_countDifferent_1 : decode cX7_countDifferent 1 = .ok (.iload_n 1, 1) := by decide +kernel
theorem dX7_countDifferent_2 : decode cX7_countDifferent 2 = .ok (.invokevirtual 104, 3) := by decide +kernel
theorem dX7_countDifferent_5 : decode cX7_countDifferent 5 = .ok (.istore_n 2, 1) := by decide +kernel
theorem dX7_countDifferent_6 : decode cX7_countDifferent 6 = .ok (.iconst 0, 1) := by decide +kernel
theorem dX7_countDifferent_7 : decode cX7_countDifferent 7 = .ok (.istore_n 3, 1) := by decide +kernel
theorem dX7_countDifferent_8 : decode cX7_countDifferent 8 = .ok (.iconst 0, 1) := by decide +kernel
theorem dX7_countDifferent_9 : decode cX7_countDifferent 9 = .ok (.istore 4, 2) := by decide +kernel
theorem dX7_countDifferent_11 : decode cX7_countDifferent 11 = .ok (.iload 4, 2) := by decide +kernel
theorem dX7_countDifferent_13 : decode cX7_countDifferent 13 = .ok (.iload_n 2, 1) := by decide +kernel
theorem dX7_countDifferent_14 : decode cX7_countDifferent 14 = .ok (.if_icmp .ge 21, 3) := by decide +kernel
theorem dX7_countDifferent_17 : decode cX7_countDifferent 17 = .ok (.iload_n 3, 1) := by decide +kernel
theorem dX7_countDifferent_18 : decode cX7_countDifferent 18 = .ok (.iconst 1, 1) := by decide +kernel
theorem dX7_countDifferent_19 : decode cX7_countDifferent 19 = .ok (.aload_n 0, 1) := by decide +kernel
theorem dX7_countDifferent_20 : decode cX7_countDifferent 20 = .ok (.iload_n 1, 1) := by decide +kernel
theorem dX7_countDifferent_21 : decode cX7_countDifferent 21 = .ok (.iload 4, 2) := by decide +kernel
theorem dX7_countDifferent_23 : decode cX7_countDifferent 23 = .ok (.invokevirtual 101, 3) := by decide +kernel
theorem dX7_countDifferent_26 : decode cX7_countDifferent 26 = .ok (.ishl, 1) := by decide +kernel
theorem dX7_countDifferent_27 : decode cX7_countDifferent 27 = .ok (.ior, 1) := by decide +kernel
theorem dX7_countDifferent_28 : decode cX7_countDifferent 28 = .ok (.istore_n 3, 1) := by decide +kernel
theorem dX7_countDifferent_29 : decode cX7_countDifferent 29 = .ok (.iinc 4 1, 3) := by decide +kernel
theorem dX7_countDifferent_32 : decode cX7_countDifferent 32 = .ok (.goto (-21), 3) := by decide +kernel
theorem dX7_countDifferent_35 : decode cX7_countDifferent 35 = .ok (.iload_n 3, 1) := by decide +kernel
theorem dX7_countDifferent_36 : decode cX7_countDifferent 36 = .ok (.invokestatic 107, 3) := by decide +kernel
theorem dX7_countDifferent_39 : decode cX7_countDifferent 39 = .ok (.ireturn, 1) := by decide +kernel
theorem dX7_sum_0 : decode cX7_sum 0 = .ok (.aload_n 0, 1) := by decide +kernel
theorem dX7_sum_1 : decode cX7_sum 1 = .ok (.iload_n 1, 1) := by decide +kernel
theorem dX7_sum_2 : decode cX7_sum 2 = .ok (.invokevirtual 104, 3) := by decide +kernel
theorem dX7_sum_5 : decode cX7_sum 5 = .ok (.istore_n 2, 1) := by decide +kernel
theorem dX7_sum_6 : decode cX7_sum 6 = .ok (.iconst 0, 1) := by decide +kernel
theorem dX7_sum_7 : decode cX7_sum 7 = .ok (.istore_n 3, 1) := by decide +kernel
theorem dX7_sum_8 : decode cX7_sum 8 = .ok (.iconst 0, 1) := by decide +kernel
theorem dX7_sum_9 : decode cX7_sum 9 = .ok (.istore 4, 2) := by decide +kernel
theorem dX7_sum_11 : decode cX7_sum 11 = .ok (.iload 4, 2) := by decide +kernel
theorem dX7_sum_13 : decode cX7_sum 13 = .ok (.iload_n 2, 1) := by decide +kernel
theorem dX7_sum_14 : decode cX7_sum 14 = .ok (.if_icmp .ge 19, 3) := by decide +kernel
theorem dX7_sum_17 : decode cX7_sum 17 = .ok (.iload_n 3, 1) := by decide +kernel
theorem dX7_sum_18 : decode cX7_sum 18 = .ok (.aload_n 0, 1) := by decide +kernel
theorem dX7_sum_19 : decode cX7_sum 19 = .ok (.iload_n 1, 1) := by decide +kernel
theorem dX7_sum_20 : decode cX7_sum 20 = .ok (.iload 4, 2) := by decide +kernel
theorem dX7_sum_22 : decode cX7_sum 22 = .ok (.invokevirtual 101, 3) := by decide +kernel
theorem dX7_sum_25 : decode cX7_sum 25 = .ok (.iadd, 1) := by decide +kernel
theorem dX7_sum_26 : decode cX7_sum 26 = .ok (.istore_n 3, 1) := by decide +kernel
theorem dX7_sum_27 : decode cX7_sum 27 = .ok (.iinc 4 1, 3) := by decide +kernel
theorem dX7_sum_30 : decode cX7_sum 30 = .ok (.goto (-19), 3) := by decide +kernel
theorem dX7_sum_33 : decode cX7_sum 33 = .ok (.iload_n 3, 1) := by decide +kernel
theorem dX7_sum_34 : decode cX7_sum 34 = .ok (.ireturn, 1) := by decide +kernel
theorem dX7_period_0 : decode cX7_period 0 = .ok (.aload_n 0, 1) := by decide +kernel
theorem dX7_period_1 : decode cX7_period 1 = .ok (.iload_n 1, 1) := by decide +kernel
theorem dX7_period_2 : decode cX7_period 2 = .ok (.invokevirtual 104, 3) := by decide +kernel
theorem dX7_period_5 : decode cX7_period 5 = .ok (.sipush 200, 3) := by decide +kernel
theorem dX7_period_8 : decode cX7_period 8 = .ok (.if_icmp .ge 6, 3) := by decide +kernel
theorem dX7_period_11 : decode cX7_period 11 = .ok (.bipush (-9), 2) := by decide +kernel
theorem dX7_period_13 : decode cX7_period 13 = .ok (.ireturn, 1) := by decide +kernel
theorem dX7_period_14 : decode cX7_period 14 = .ok (.iconst 1, 1) := by decide +kernel
theorem dX7_period_15 : decode cX7_period 15 = .ok (.istore_n 2, 1) := by decide +kernel
theorem dX7_period_16 : decode cX7_period 16 = .ok (.iconst 2, 1) := by decide +kernel
theorem dX7_period_17 : decode cX7_period 17 = .ok (.iload_n 2, 1) := by decide +kernel
theorem dX7_period_18 : decode cX7_period 18 = .ok (.imul, 1) := by decide +kernel
theorem dX7_period_19 : decode cX7_period 19 = .ok (.sipush 200, 3) := by decide +kernel
theorem dX7_period_22 : decode cX7_period 22 = .ok (.if_icmp .gt 27, 3) := by decide +kernel
theorem dX7_period_25 : decode cX7_period 25 = .ok (.aload_n 0, 1) := by decide +kernel
theorem dX7_period_26 : decode cX7_period 26 = .ok (.iload_n 1, 1) := by decide +kernel
theorem dX7_period_27 : decode cX7_period 27 = .ok (.iload_n 2, 1) := by decide +kernel
theorem dX7_period_28 : decode cX7_period 28 = .ok (.invokevirtual 112, 3) := by decide +kernel
theorem dX7_period_31 : decode cX7_period 31 = .ok (.iconst 2, 1) := by decide +kernel
theorem dX7_period_32 : decode cX7_period 32 = .ok (.iload_n 2, 1) := by decide +kernel
theorem dX7_period_33 : decode cX7_period 33 = .ok (.imul, 1) := by decide +kernel
theorem dX7_period_34 : decode cX7_period 34 = .ok (.iadd, 1) := by decide +kernel
theorem dX7_period_35 : decode cX7_period 35 = .ok (.sipush 200, 3) := by decide +kernel
theorem dX7_period_38 : decode cX7_period 38 = .ok (.if_icmp .gt 5, 3) := by decide +kernel
theorem dX7_period_41 : decode cX7_period 41 = .ok (.iload_n 2, 1) := by decide +kernel
theorem dX7_period_42 : decode cX7_period 42 = .ok (.ireturn, 1) := by decide +kernel
theorem dX7_period_43 : decode cX7_period 43 = .ok (.iinc 2 1, 3) := by decide +kernel
theorem dX7_period_46 : decode cX7_period 46 = .ok (.goto (-30), 3) := by decide +kernel
theorem dX7_period_49 : decode cX7_period 49 = .ok (.bipush (-9), 2) := by decide +kernel
theorem dX7_period_51 : decode cX7_period 51 = .ok (.ireturn, 1) := by decide +kernel
theorem dX7_lengthBeforePeriod_0 : decode cX7_lengthBeforePeriod 0 = .ok (.aload_n 0, 1) := by decide +kernel
theorem dX7_lengthBeforePeriod_1 : decode cX7_lengthBeforePeriod 1 = .ok (.iload_n 1, 1) := by decide +kernel
theorem dX7_lengthBeforePeriod_2 : decode cX7_lengthBeforePeriod 2 = .ok (.invokevirtual 115, 3) := by decide +kernel
theorem dX7_lengthBeforePeriod_5 : decode cX7_lengthBeforePeriod 5 = .ok (.istore_n 2, 1) := by decide +kernel
theorem dX7_lengthBeforePeriod_6 : decode cX7_lengthBeforePeriod 6 = .ok (.iload_n 2, 1) := by decide +kernel
theorem dX7_lengthBeforePeriod_7 : decode cX7_lengthBeforePeriod 7 = .ok (.bipush (-9), 2) := by decide +kernel
theorem dX7_lengthBeforePeriod_9 : decode cX7_lengthBeforePeriod 9 = .ok (.if_icmp .ne 8, 3) := by decide +kernel
theorem dX7_lengthBeforePeriod_12 : decode cX7_lengthBeforePeriod 12 = .ok (.bipush (-9), 2) := by decide +kernel
theorem dX7_lengthBeforePeriod_14 : decode cX7_lengthBeforePeriod 14 = .ok (.goto 9, 3) := by decide +kernel
theorem dX7_lengthBeforePeriod_17 : decode cX7_lengthBeforePeriod 17 = .ok (.aload_n 0, 1) := by decide +kernel
theorem dX7_lengthBeforePeriod_18 : decode cX7_lengthBeforePeriod 18 = .ok (.iload_n 1, 1) := by decide +kernel
theorem dX7_lengthBeforePeriod_19 : decode cX7_lengthBeforePeriod 19 = .ok (.iload_n 2, 1) := by decide +kernel
theorem dX7_lengthBeforePeriod_20 : decode cX7_lengthBeforePeriod 20 = .ok (.invokevirtual 112, 3) := by decide +kernel
theorem dX7_lengthBeforePeriod_23 : decode cX7_lengthBeforePeriod 23 = .ok (.ireturn, 1) := by decide +kernel
theorem dX7_lengthBefore_0 : decode cX7_lengthBefore 0 = .ok (.sipush 200, 3) := by decide +kernel
theorem dX7_lengthBefore_3 : decode cX7_lengthBefore 3 = .ok (.iload_n 2, 1) := by decide +kernel
theorem dX7_lengthBefore_4 : decode cX7_lengthBefore 4 = .ok (.isub, 1) := by decide +kernel
theorem dX7_lengthBefore_5 : decode cX7_lengthBefore 5 = .ok (.iconst 1, 1) := by decide +kernel
theorem dX7_lengthBefore_6 : decode cX7_lengthBefore 6 = .ok (.isub, 1) := by decide +kernel
theorem dX7_lengthBefore_7 : decode cX7_lengthBefore 7 = .ok (.istore_n 3, 1) := by decide +kernel
theorem dX7_lengthBefore_8 : decode cX7_lengthBefore 8 = .ok (.iload_n 3, 1) := by decide +kernel
theorem dX7_lengthBefore_9 : decode cX7_lengthBefore 9 = .ok (.ifCond .lt 30, 3) := by decide +kernel
theorem dX7_lengthBefore_12 : decode cX7_lengthBefore 12 = .ok (.aload_n 0, 1) := by decide +kernel
theorem dX7_lengthBefore_13 : decode cX7_lengthBefore 13 = .ok (.iload_n 1, 1) := by decide +kernel
theorem dX7_lengthBefore_14 : decode cX7_lengthBefore 14 = .ok (.iload_n 3, 1) := by decide +kernel
theorem dX7_lengthBefore_15 : decode cX7_lengthBefore 15 = .ok (.invokevirtual 101, 3) := by decide +kernel
theorem dX7_lengthBefore_18 : decode cX7_lengthBefore 18 = .ok (.aload_n 0, 1) := by decide +kernel
theorem dX7_lengthBefore_19 : decode cX7_lengthBefore 19 = .ok (.iload_n 1, 1) := by decide +kernel
theorem dX7_lengthBefore_20 : decode cX7_lengthBefore 20 = .ok (.iload_n 3, 1) := by decide +kernel
theorem dX7_lengthBefore_21 : decode cX7_lengthBefore 21 = .ok (.iload_n 2, 1) := by decide +kernel
theorem dX7_lengthBefore_22 : decode cX7_lengthBefore 22 = .ok (.iadd, 1) := by decide +kernel
theorem dX7_lengthBefore_23 : decode cX7_lengthBefore 23 = .ok (.invokevirtual 101, 3) := by decide +kernel
theorem dX7_lengthBefore_26 : decode cX7_lengthBefore 26 = .ok (.if_icmp .eq 7, 3) := by decide +kernel
theorem dX7_lengthBefore_29 : decode cX7_lengthBefore 29 = .ok (.iload_n 3, 1) := by decide +kernel
theorem dX7_lengthBefore_30 : decode cX7_lengthBefore 30 = .ok (.iconst 1, 1) := by decide +kernel
theorem dX7_lengthBefore_31 : decode cX7_lengthBefore 31 = .ok (.iadd, 1) := by decide +kernel
theorem dX7_lengthBefore_32 : decode cX7_lengthBefore 32 = .ok (.ireturn, 1) := by decide +kernel
theorem dX7_lengthBefore_33 : decode cX7_lengthBefore 33 = .ok (.iinc 3 (-1), 3) := by decide +kernel
theorem dX7_lengthBefore_36 : decode cX7_lengthBefore 36 = .ok (.goto (-28), 3) := by decide +kernel
theorem dX7_lengthBefore_39 : decode cX7_lengthBefore 39 = .ok (.iconst 0, 1) := by decide +kernel
theorem dX7_lengthBefore_40 : decode cX7_lengthBefore 40 = .ok (.ireturn, 1) := by decide +kernel
theorem dX7_firstParting_0 : decode cX7_firstParting 0 = .ok (.iconst 0, 1) := by decide +kernel
theorem dX7_firstParting_1 : decode cX7_firstParting 1 = .ok (.istore_n 3, 1) := by decide +kernel
theorem dX7_firstParting_2 : decode cX7_firstParting 2 = .ok (.iload_n 3, 1) := by decide +kernel
theorem dX7_firstParting_3 : decode cX7_firstParting 3 = .ok (.sipush 400, 3) := by decide +kernel
theorem dX7_firstParting_6 : decode cX7_firstParting 6 = .ok (.if_icmp .ge 48, 3) := by decide +kernel
theorem dX7_firstParting_9 : decode cX7_firstParting 9 = .ok (.aload_n 0, 1) := by decide +kernel
theorem dX7_firstParting_10 : decode cX7_firstParting 10 = .ok (.iload_n 1, 1) := by decide +kernel
theorem dX7_firstParting_11 : decode cX7_firstParting 11 = .ok (.iload_n 3, 1) := by decide +kernel
theorem dX7_firstParting_12 : decode cX7_firstParting 12 = .ok (.invokevirtual 101, 3) := by decide +kernel
theorem dX7_firstParting_15 : decode cX7_firstParting 15 = .ok (.istore 4, 2) := by decide +kernel
theorem dX7_firstParting_17 : decode cX7_firstParting 17 = .ok (.aload_n 0, 1) := by decide +kernel
theorem dX7_firstParting_18 : decode cX7_firstParting 18 = .ok (.iload_n 2, 1) := by decide +kernel
theorem dX7_firstParting_19 : decode cX7_firstParting 19 = .ok (.iload_n 3, 1) := by decide +kernel
theorem dX7_firstParting_20 : decode cX7_firstParting 20 = .ok (.invokevirtual 101, 3) := by decide +kernel
theorem dX7_firstParting_23 : decode cX7_firstParting 23 = .ok (.istore 5, 2) := by decide +kernel
theorem dX7_firstParting_25 : decode cX7_firstParting 25 = .ok (.iload 4, 2) := by decide +kernel
theorem dX7_firstParting_27 : decode cX7_firstParting 27 = .ok (.bipush (-9), 2) := by decide +kernel
theorem dX7_firstParting_29 : decode cX7_firstParting 29 = .ok (.if_icmp .eq 19, 3) := by decide +kernel
theorem dX7_firstParting_32 : decode cX7_firstParting 32 = .ok (.iload 5, 2) := by decide +kernel
theorem dX7_firstParting_34 : decode cX7_firstParting 34 = .ok (.bipush (-9), 2) := by decide +kernel
theorem dX7_firstParting_36 : decode cX7_firstParting 36 = .ok (.if_icmp .eq 12, 3) := by decide +kernel
theorem dX7_firstParting_39 : decode cX7_firstParting 39 = .ok (.iload 4, 2) := by decide +kernel
theorem dX7_firstParting_41 : decode cX7_firstParting 41 = .ok (.iload 5, 2) := by decide +kernel
theorem dX7_firstParting_43 : decode cX7_firstParting 43 = .ok (.if_icmp .eq 5, 3) := by decide +kernel
theorem dX7_firstParting_46 : decode cX7_firstParting 46 = .ok (.iload_n 3, 1) := by decide +kernel
theorem dX7_firstParting_47 : decode cX7_firstParting 47 = .ok (.ireturn, 1) := by decide +kernel
theorem dX7_firstParting_48 : decode cX7_firstParting 48 = .ok (.iinc 3 1, 3) := by decide +kernel
theorem dX7_firstParting_51 : decode cX7_firstParting 51 = .ok (.goto (-49), 3) := by decide +kernel
theorem dX7_firstParting_54 : decode cX7_firstParting 54 = .ok (.bipush (-9), 2) := by decide +kernel
theorem dX7_firstParting_56 : decode cX7_firstParting 56 = .ok (.ireturn, 1) := by decide +kernel
theorem dX7_alikeSet_0 : decode cX7_alikeSet 0 = .ok (.aload_n 0, 1) := by decide +kernel
theorem dX7_alikeSet_1 : decode cX7_alikeSet 1 = .ok (.iload_n 1, 1) := by decide +kernel
theorem dX7_alikeSet_2 : decode cX7_alikeSet 2 = .ok (.invokevirtual 104, 3) := by decide +kernel
theorem dX7_alikeSet_5 : decode cX7_alikeSet 5 = .ok (.istore_n 2, 1) := by decide +kernel
theorem dX7_alikeSet_6 : decode cX7_alikeSet 6 = .ok (.iconst 0, 1) := by decide +kernel
theorem dX7_alikeSet_7 : decode cX7_alikeSet 7 = .ok (.istore_n 3, 1) := by decide +kernel
theorem dX7_alikeSet_8 : decode cX7_alikeSet 8 = .ok (.iconst 0, 1) := by decide +kernel
theorem dX7_alikeSet_9 : decode cX7_alikeSet 9 = .ok (.istore 4, 2) := by decide +kernel
theorem dX7_alikeSet_11 : decode cX7_alikeSet 11 = .ok (.iload 4, 2) := by decide +kernel
theorem dX7_alikeSet_13 : decode cX7_alikeSet 13 = .ok (.bipush 8, 2) := by decide +kernel
theorem dX7_alikeSet_15 : decode cX7_alikeSet 15 = .ok (.if_icmp .ge 44, 3) := by decide +kernel
theorem dX7_alikeSet_18 : decode cX7_alikeSet 18 = .ok (.iload 4, 2) := by decide +kernel
theorem dX7_alikeSet_20 : decode cX7_alikeSet 20 = .ok (.iload_n 1, 1) := by decide +kernel
theorem dX7_alikeSet_21 : decode cX7_alikeSet 21 = .ok (.if_icmp .eq 32, 3) := by decide +kernel
theorem dX7_alikeSet_24 : decode cX7_alikeSet 24 = .ok (.aload_n 0, 1) := by decide +kernel
theorem dX7_alikeSet_25 : decode cX7_alikeSet 25 = .ok (.iload 4, 2) := by decide +kernel
theorem dX7_alikeSet_27 : decode cX7_alikeSet 27 = .ok (.invokevirtual 104, 3) := by decide +kernel
theorem dX7_alikeSet_30 : decode cX7_alikeSet 30 = .ok (.iload_n 2, 1) := by decide +kernel
theorem dX7_alikeSet_31 : decode cX7_alikeSet 31 = .ok (.if_icmp .ne 22, 3) := by decide +kernel
theorem dX7_alikeSet_34 : decode cX7_alikeSet 34 = .ok (.aload_n 0, 1) := by decide +kernel
theorem dX7_alikeSet_35 : decode cX7_alikeSet 35 = .ok (.iload_n 1, 1) := by decide +kernel
theorem dX7_alikeSet_36 : decode cX7_alikeSet 36 = .ok (.iload 4, 2) := by decide +kernel
theorem dX7_alikeSet_38 : decode cX7_alikeSet 38 = .ok (.invokevirtual 118, 3) := by decide +kernel
theorem dX7_alikeSet_41 : decode cX7_alikeSet 41 = .ok (.bipush (-9), 2) := by decide +kernel
theorem dX7_alikeSet_43 : decode cX7_alikeSet 43 = .ok (.if_icmp .ne 10, 3) := by decide +kernel
theorem dX7_alikeSet_46 : decode cX7_alikeSet 46 = .ok (.iload_n 3, 1) := by decide +kernel
theorem dX7_alikeSet_47 : decode cX7_alikeSet 47 = .ok (.iconst 1, 1) := by decide +kernel
theorem dX7_alikeSet_48 : decode cX7_alikeSet 48 = .ok (.iload 4, 2) := by decide +kernel
theorem dX7_alikeSet_50 : decode cX7_alikeSet 50 = .ok (.ishl, 1) := by decide +kernel
theorem dX7_alikeSet_51 : decode cX7_alikeSet 51 = .ok (.ior, 1) := by decide +kernel
theorem dX7_alikeSet_52 : decode cX7_alikeSet 52 = .ok (.istore_n 3, 1) := by decide +kernel
theorem dX7_alikeSet_53 : decode cX7_alikeSet 53 = .ok (.iinc 4 1, 3) := by decide +kernel
theorem dX7_alikeSet_56 : decode cX7_alikeSet 56 = .ok (.goto (-45), 3) := by decide +kernel
theorem dX7_alikeSet_59 : decode cX7_alikeSet 59 = .ok (.iload_n 3, 1) := by decide +kernel
theorem dX7_alikeSet_60 : decode cX7_alikeSet 60 = .ok (.ireturn, 1) := by decide +kernel
theorem dX7_firstDifference_0 : decode cX7_firstDifference 0 = .ok (.iconst 0, 1) := by decide +kernel
theorem dX7_firstDifference_1 : decode cX7_firstDifference 1 = .ok (.istore_n 3, 1) := by decide +kernel
theorem dX7_firstDifference_2 : decode cX7_firstDifference 2 = .ok (.iload_n 3, 1) := by decide +kernel
theorem dX7_firstDifference_3 : decode cX7_firstDifference 3 = .ok (.sipush 400, 3) := by decide +kernel
theorem dX7_firstDifference_6 : decode cX7_firstDifference 6 = .ok (.if_icmp .ge 26, 3) := by decide +kernel
theorem dX7_firstDifference_9 : decode cX7_firstDifference 9 = .ok (.aload_n 0, 1) := by decide +kernel
theorem dX7_firstDifference_10 : decode cX7_firstDifference 10 = .ok (.iload_n 2, 1) := by decide +kernel
theorem dX7_firstDifference_11 : decode cX7_firstDifference 11 = .ok (.iload_n 3, 1) := by decide +kernel
theorem dX7_firstDifference_12 : decode cX7_firstDifference 12 = .ok (.invokevirtual 101, 3) := by decide +kernel
theorem dX7_firstDifference_15 : decode cX7_firstDifference 15 = .ok (.aload_n 1, 1) := by decide +kernel
theorem dX7_firstDifference_16 : decode cX7_firstDifference 16 = .ok (.iload_n 2, 1) := by decide +kernel
theorem dX7_firstDifference_17 : decode cX7_firstDifference 17 = .ok (.iload_n 3, 1) := by decide +kernel
theorem dX7_firstDifference_18 : decode cX7_firstDifference 18 = .ok (.invokevirtual 101, 3) := by decide +kernel
theorem dX7_firstDifference_21 : decode cX7_firstDifference 21 = .ok (.if_icmp .eq 5, 3) := by decide +kernel
theorem dX7_firstDifference_24 : decode cX7_firstDifference 24 = .ok (.iload_n 3, 1) := by decide +kernel
theorem dX7_firstDifference_25 : decode cX7_firstDifference 25 = .ok (.ireturn, 1) := by decide +kernel
theorem dX7_firstDifference_26 : decode cX7_firstDifference 26 = .ok (.iinc 3 1, 3) := by decide +kernel
theorem dX7_firstDifference_29 : decode cX7_firstDifference 29 = .ok (.goto (-27), 3) := by decide +kernel
theorem dX7_firstDifference_32 : decode cX7_firstDifference 32 = .ok (.bipush (-9), 2) := by decide +kernel
theorem dX7_firstDifference_34 : decode cX7_firstDifference 34 = .ok (.ireturn, 1) := by decide +kernel
theorem dX8_init_0 : decode cX8_init 0 = .ok (.aload_n 0, 1) := by decide +kernel
theorem dX8_init_1 : decode cX8_init 1 = .ok (.invokespecial 3, 3) := by decide +kernel
theorem dX8_init_4 : decode cX8_init 4 = .ok (.aload_n 0, 1) := by decide +kernel
theorem dX8_init_5 : decode cX8_init 5 = .ok (.bipush 120, 2) := by decide +kernel
theorem dX8_init_7 : decode cX8_init 7 = .ok (.newarray .int, 2) := by decide +kernel
theorem dX8_init_9 : decode cX8_init 9 = .ok (.putfield 9, 3) := by decide +kernel
theorem dX8_init_12 : decode cX8_init 12 = .ok (.aload_n 0, 1) := by decide +kernel
theorem dX8_init_13 : decode cX8_init 13 = .ok (.bipush 120, 2) := by decide +kernel
theorem dX8_init_15 : decode cX8_init 15 = .ok (.newarray .int, 2) := by decide +kernel
theorem dX8_init_17 : decode cX8_init 17 = .ok (.putfield 15, 3) := by decide +kernel
theorem dX8_init_20 : decode cX8_init 20 = .ok (.aload_n 0, 1) := by decide +kernel
theorem dX8_init_21 : decode cX8_init 21 = .ok (.sipush 3200, 3) := by decide +kernel
theorem dX8_init_24 : decode cX8_init 24 = .ok (.newarray .int, 2) := by decide +kernel
theorem dX8_init_26 : decode cX8_init 26 = .ok (.putfield 18, 3) := by decide +kernel
theorem dX8_init_29 : decode cX8_init 29 = .ok (.aload_n 0, 1) := by decide +kernel
theorem dX8_init_30 : decode cX8_init 30 = .ok (.bipush 50, 2) := by decide +kernel
theorem dX8_init_32 : decode cX8_init 32 = .ok (.newarray .long, 2) := by decide +kernel
theorem dX8_init_34 : decode cX8_init 34 = .ok (.putfield 21, 3) := by decide +kernel
theorem dX8_init_37 : decode cX8_init 37 = .ok (.return_, 1) := by decide +kernel
theorem dX8_spread_0 : decode cX8_spread 0 = .ok (.aload_n 0, 1) := by decide +kernel
theorem dX8_spread_1 : decode cX8_spread 1 = .ok (.getfield 9, 3) := by decide +kernel
theorem dX8_spread_4 : decode cX8_spread 4 = .ok (.iconst 0, 1) := by decide +kernel
theorem dX8_spread_5 : decode cX8_spread 5 = .ok (.iload_n 2, 1) := by decide +kernel
theorem dX8_spread_6 : decode cX8_spread 6 = .ok (.iastore, 1) := by decide +kernel
theorem dX8_spread_7 : decode cX8_spread 7 = .ok (.iconst 0, 1) := by decide +kernel
theorem dX8_spread_8 : decode cX8_spread 8 = .ok (.istore_n 3, 1) := by decide +kernel
theorem dX8_spread_9 : decode cX8_spread 9 = .ok (.iload_n 3, 1) := by decide +kernel
theorem dX8_spread_10 : decode cX8_spread 10 = .ok (.aload_n 1, 1) := by decide +kernel
theorem dX8_spread_11 : decode cX8_spread 11 = .ok (.getfield 25, 3) := by decide +kernel
theorem dX8_spread_14 : decode cX8_spread 14 = .ok (.if_icmp .ge 34, 3) := by decide +kernel
theorem dX8_spread_17 : decode cX8_spread 17 = .ok (.aload_n 0, 1) := by decide +kernel
theorem dX8_spread_18 : decode cX8_spread 18 = .ok (.getfield 9, 3) := by decide +kernel
theorem dX8_spread_21 : decode cX8_spread 21 = .ok (.iload_n 3, 1) := by decide +kernel
theorem dX8_spread_22 : decode cX8_spread 22 = .ok (.iaload, 1) := by decide +kernel
theorem dX8_spread_23 : decode cX8_spread 23 = .ok (.ldc 31, 2) := by decide +kernel
theorem dX8_spread_25 : decode cX8_spread 25 = .ok (.if_icmp .le 5, 3) := by decide +kernel
theorem dX8_spread_28 : decode cX8_spread 28 = .ok (.iconst 0, 1) := by decide +kernel
theorem dX8_spread_29 : decode cX8_spread 29 = .ok (.ireturn, 1) := by decide +kernel
theorem dX8_spread_30 : decode cX8_spread 30 = .ok (.aload_n 0, 1) := by decide +kernel
theorem dX8_spread_31 : decode cX8_spread 31 = .ok (.aload_n 1, 1) := by decide +kernel
theorem dX8_spread_32 : decode cX8_spread 32 = .ok (.iload_n 3, 1) := by decide +kernel
theorem dX8_spread_33 : decode cX8_spread 33 = .ok (.aload_n 0, 1) := by decide +kernel
theorem dX8_spread_34 : decode cX8_spread 34 = .ok (.getfield 9, 3) := by decide +kernel
theorem dX8_spread_37 : decode cX8_spread 37 = .ok (.iload_n 3, 1) := by decide +kernel
theorem dX8_spread_38 : decode cX8_spread 38 = .ok (.iaload, 1) := by decide +kernel
theorem dX8_spread_39 : decode cX8_spread 39 = .ok (.invokevirtual 32, 3) := by decide +kernel
theorem dX8_spread_42 : decode cX8_spread 42 = .ok (.iinc 3 1, 3) := by decide +kernel
theorem dX8_spread_45 : decode cX8_spread 45 = .ok (.goto (-36), 3) := by decide +kernel
theorem dX8_spread_48 : decode cX8_spread 48 = .ok (.iconst 1, 1) := by decide +kernel
theorem dX8_spread_49 : decode cX8_spread 49 = .ok (.ireturn, 1) := by decide +kernel
theorem dX8_spreadPart_0 : decode cX8_spreadPart 0 = .ok (.aload_n 1, 1) := by decide +kernel
theorem dX8_spreadPart_1 : decode cX8_spreadPart 1 = .ok (.getfield 36, 3) := by decide +kernel
theorem dX8_spreadPart_4 : decode cX8_spreadPart 4 = .ok (.iload_n 2, 1) := by decide +kernel
theorem dX8_spreadPart_5 : decode cX8_spreadPart 5 = .ok (.iaload, 1) := by decide +kernel
theorem dX8_spreadPart_6 : decode cX8_spreadPart 6 = .ok (.istore 4, 2) := by decide +kernel
theorem dX8_spreadPart_8 : decode cX8_spreadPart 8 = .ok (.iload_n 3, 1) := by decide +kernel
theorem dX8_spreadPart_9 : decode cX8_spreadPart 9 = .ok (.iconst (-1), 1) := by decide +kernel
theorem dX8_spreadPart_10 : decode cX8_spreadPart 10 = .ok (.if_icmp .eq 7, 3) := by decide +kernel
theorem dX8_spreadPart_13 : decode cX8_spreadPart 13 = .ok (.iconst 1, 1) := by decide +kernel
theorem dX8_spreadPart_14 : decode cX8_spreadPart 14 = .ok (.goto 4, 3) := by decide +kernel
theorem dX8_spreadPart_17 : decode cX8_spreadPart 17 = .ok (.iconst 0, 1) := by decide +kernel
theorem dX8_spreadPart_18 : decode cX8_spreadPart 18 = .ok (.istore 5, 2) := by decide +kernel
theorem dX8_spreadPart_20 : decode cX8_spreadPart 20 = .ok (.iload 4, 2) := by decide +kernel
theorem dX8_spreadPart_22 : decode cX8_spreadPart 22 = .ok (.lookupswitch 226 #[(42, 58), (43, 58), (101, 178), (111, 201), (116, 155), (122, 84)], 58) := by decide +kernel
theorem dX8_spreadPart_80 : decode cX8_spreadPart 80 = .ok (.aload_n 0, 1) := by decide +kernel
theorem dX8_spreadPart_81 : decode cX8_spreadPart 81 = .ok (.getfield 9, 3) := by decide +kernel
theorem dX8_spreadPart_84 : decode cX8_spreadPart 84 = .ok (.iload_n 2, 1) := by decide +kernel
theorem dX8_spreadPart_85 : decode cX8_spreadPart 85 = .ok (.iconst 1, 1) := by decide +kernel
theorem dX8_spreadPart_86 : decode cX8_spreadPart 86 = .ok (.iadd, 1) := by decide +kernel
theorem dX8_spreadPart_87 : decode cX8_spreadPart 87 = .ok (.iload_n 3, 1) := by decide +kernel
theorem dX8_spreadPart_88 : decode cX8_spreadPart 88 = .ok (.iastore, 1) := by decide +kernel
theorem dX8_spreadPart_89 : decode cX8_spreadPart 89 = .ok (.aload_n 0, 1) := by decide +kernel
theorem dX8_spreadPart_90 : decode cX8_spreadPart 90 = .ok (.getfield 9, 3) := by decide +kernel
theorem dX8_spreadPart_93 : decode cX8_spreadPart 93 = .ok (.aload_n 1, 1) := by decide +kernel
theorem dX8_spreadPart_94 : decode cX8_spreadPart 94 = .ok (.getfield 39, 3) := by decide +kernel
theorem dX8_spreadPart_97 : decode cX8_spreadPart 97 = .ok (.iload_n 2, 1) := by decide +kernel
theorem dX8_spreadPart_98 : decode cX8_spreadPart 98 = .ok (.iconst 1, 1) := by decide +kernel
theorem dX8_spreadPart_99 : decode cX8_spreadPart 99 = .ok (.iadd, 1) := by decide +kernel
theorem dX8_spreadPart_100 : decode cX8_spreadPart 100 = .ok (.iaload, 1) := by decide +kernel
theorem dX8_spreadPart_101 : decode cX8_spreadPart 101 = .ok (.iload_n 3, 1) := by decide +kernel
theorem dX8_spreadPart_102 : decode cX8_spreadPart 102 = .ok (.iastore, 1) := by decide +kernel
theorem dX8_spreadPart_103 : decode cX8_spreadPart 103 = .ok (.goto 177, 3) := by decide +kernel
theorem dX8_spreadPart_106 : decode cX8_spreadPart 106 = .ok (.iload_n 3, 1) := by decide +kernel
theorem dX8_spreadPart_107 : decode cX8_spreadPart 107 = .ok (.iconst 2, 1) := by decide +kernel
theorem dX8_spreadPart_108 : decode cX8_spreadPart 108 = .ok (.irem, 1) := by decide +kernel
theorem dX8_spreadPart_109 : decode cX8_spreadPart 109 = .ok (.ifCond .ne 7, 3) := by decide +kernel
end
section
theorem dX8_spreadPart_112 : decode cX8_spreadPart 112 = .ok (.iconst 1, 1) := by decide +kernel
theorem dX8_spreadPart_113 : decode cX8_spreadPart 113 = .ok (.goto 4, 3) := by decide +kernel
theorem dX8_spreadPart_116 : decode cX8_spreadPart 116 = .ok (.iconst 0, 1) := by decide +kernel
theorem dX8_spreadPart_117 : decode cX8_spreadPart 117 = .ok (.istore 6, 2) := by decide +kernel
theorem dX8_spreadPart_119 : decode cX8_spreadPart 119 = .ok (.aload_n 0, 1) := by decide +kernel
theorem dX8_spreadPart_120 : decode cX8_spreadPart 120 = .ok (.getfield 9, 3) := by decide +kernel
theorem dX8_spreadPart_123 : decode cX8_spreadPart 123 = .ok (.iload_n 2, 1) := by decide +kernel
theorem dX8_spreadPart_124 : decode cX8_spreadPart 124 = .ok (.iconst 1, 1) := by decide +kernel
theorem dX8_spreadPart_125 : decode cX8_spreadPart 125 = .ok (.iadd, 1) := by decide +kernel
theorem dX8_spreadPart_126 : decode cX8_spreadPart 126 = .ok (.iload 5, 2) := by decide +kernel
theorem dX8_spreadPart_128 : decode cX8_spreadPart 128 = .ok (.ifCond .eq 14, 3) := by decide +kernel
theorem dX8_spreadPart_131 : decode cX8_spreadPart 131 = .ok (.iload 6, 2) := by decide +kernel
theorem dX8_spreadPart_133 : decode cX8_spreadPart 133 = .ok (.ifCond .eq 9, 3) := by decide +kernel
theorem dX8_spreadPart_136 : decode cX8_spreadPart 136 = .ok (.iload_n 3, 1) := by decide +kernel
theorem dX8_spreadPart_137 : decode cX8_spreadPart 137 = .ok (.iconst 2, 1) := by decide +kernel
theorem dX8_spreadPart_138 : decode cX8_spreadPart 138 = .ok (.idiv, 1) := by decide +kernel
theorem dX8_spreadPart_139 : decode cX8_spreadPart 139 = .ok (.goto 4, 3) := by decide +kernel
theorem dX8_spreadPart_142 : decode cX8_spreadPart 142 = .ok (.iconst (-1), 1) := by decide +kernel
theorem dX8_spreadPart_143 : decode cX8_spreadPart 143 = .ok (.iastore, 1) := by decide +kernel
theorem dX8_spreadPart_144 : decode cX8_spreadPart 144 = .ok (.aload_n 0, 1) := by decide +kernel
theorem dX8_spreadPart_145 : decode cX8_spreadPart 145 = .ok (.getfield 9, 3) := by decide +kernel
theorem dX8_spreadPart_148 : decode cX8_spreadPart 148 = .ok (.aload_n 1, 1) := by decide +kernel
theorem dX8_spreadPart_149 : decode cX8_spreadPart 149 = .ok (.getfield 39, 3) := by decide +kernel
theorem dX8_spreadPart_152 : decode cX8_spreadPart 152 = .ok (.iload_n 2, 1) := by decide +kernel
theorem dX8_spreadPart_153 : decode cX8_spreadPart 153 = .ok (.iconst 1, 1) := by decide +kernel
theorem dX8_spreadPart_154 : decode cX8_spreadPart 154 = .ok (.iadd, 1) := by decide +kernel
theorem dX8_spreadPart_155 : decode cX8_spreadPart 155 = .ok (.iaload, 1) := by decide +kernel
theorem dX8_spreadPart_156 : decode cX8_spreadPart 156 = .ok (.iload 5, 2) := by decide +kernel
theorem dX8_spreadPart_158 : decode cX8_spreadPart 158 = .ok (.ifCond .eq 14, 3) := by decide +kernel
theorem dX8_spreadPart_161 : decode cX8_spreadPart 161 = .ok (.iload 6, 2) := by decide +kernel
theorem dX8_spreadPart_163 : decode cX8_spreadPart 163 = .ok (.ifCond .ne 9, 3) := by decide +kernel
theorem dX8_spreadPart_166 : decode cX8_spreadPart 166 = .ok (.iload_n 3, 1) := by decide +kernel
theorem dX8_spreadPart_167 : decode cX8_spreadPart 167 = .ok (.iconst 2, 1) := by decide +kernel
theorem dX8_spreadPart_168 : decode cX8_spreadPart 168 = .ok (.idiv, 1) := by decide +kernel
theorem dX8_spreadPart_169 : decode cX8_spreadPart 169 = .ok (.goto 4, 3) := by decide +kernel
theorem dX8_spreadPart_172 : decode cX8_spreadPart 172 = .ok (.iconst (-1), 1) := by decide +kernel
theorem dX8_spreadPart_173 : decode cX8_spreadPart 173 = .ok (.iastore, 1) := by decide +kernel
theorem dX8_spreadPart_174 : decode cX8_spreadPart 174 = .ok (.goto 106, 3) := by decide +kernel
theorem dX8_spreadPart_177 : decode cX8_spreadPart 177 = .ok (.aload_n 0, 1) := by decide +kernel
theorem dX8_spreadPart_178 : decode cX8_spreadPart 178 = .ok (.getfield 9, 3) := by decide +kernel
theorem dX8_spreadPart_181 : decode cX8_spreadPart 181 = .ok (.iload_n 2, 1) := by decide +kernel
theorem dX8_spreadPart_182 : decode cX8_spreadPart 182 = .ok (.iconst 1, 1) := by decide +kernel
theorem dX8_spreadPart_183 : decode cX8_spreadPart 183 = .ok (.iadd, 1) := by decide +kernel
theorem dX8_spreadPart_184 : decode cX8_spreadPart 184 = .ok (.iload 5, 2) := by decide +kernel
theorem dX8_spreadPart_186 : decode cX8_spreadPart 186 = .ok (.ifCond .eq 9, 3) := by decide +kernel
theorem dX8_spreadPart_189 : decode cX8_spreadPart 189 = .ok (.iload_n 3, 1) := by decide +kernel
theorem dX8_spreadPart_190 : decode cX8_spreadPart 190 = .ok (.iconst 1, 1) := by decide +kernel
theorem dX8_spreadPart_191 : decode cX8_spreadPart 191 = .ok (.iadd, 1) := by decide +kernel
theorem dX8_spreadPart_192 : decode cX8_spreadPart 192 = .ok (.goto 4, 3) := by decide +kernel
theorem dX8_spreadPart_195 : decode cX8_spreadPart 195 = .ok (.iconst (-1), 1) := by decide +kernel
theorem dX8_spreadPart_196 : decode cX8_spreadPart 196 = .ok (.iastore, 1) := by decide +kernel
theorem dX8_spreadPart_197 : decode cX8_spreadPart 197 = .ok (.goto 83, 3) := by decide +kernel
theorem dX8_spreadPart_200 : decode cX8_spreadPart 200 = .ok (.aload_n 0, 1) := by decide +kernel
theorem dX8_spreadPart_201 : decode cX8_spreadPart 201 = .ok (.getfield 9, 3) := by decide +kernel
theorem dX8_spreadPart_204 : decode cX8_spreadPart 204 = .ok (.iload_n 2, 1) := by decide +kernel
theorem dX8_spreadPart_205 : decode cX8_spreadPart 205 = .ok (.iconst 1, 1) := by decide +kernel
theorem dX8_spreadPart_206 : decode cX8_spreadPart 206 = .ok (.iadd, 1) := by decide +kernel
theorem dX8_spreadPart_207 : decode cX8_spreadPart 207 = .ok (.iload 5, 2) := by decide +kernel
theorem dX8_spreadPart_209 : decode cX8_spreadPart 209 = .ok (.ifCond .eq 9, 3) := by decide +kernel
theorem dX8_spreadPart_212 : decode cX8_spreadPart 212 = .ok (.iconst 2, 1) := by decide +kernel
theorem dX8_spreadPart_213 : decode cX8_spreadPart 213 = .ok (.iload_n 3, 1) := by decide +kernel
theorem dX8_spreadPart_214 : decode cX8_spreadPart 214 = .ok (.imul, 1) := by decide +kernel
theorem dX8_spreadPart_215 : decode cX8_spreadPart 215 = .ok (.goto 4, 3) := by decide +kernel
theorem dX8_spreadPart_218 : decode cX8_spreadPart 218 = .ok (.iconst (-1), 1) := by decide +kernel
theorem dX8_spreadPart_219 : decode cX8_spreadPart 219 = .ok (.iastore, 1) := by decide +kernel
theorem dX8_spreadPart_220 : decode cX8_spreadPart 220 = .ok (.goto 60, 3) := by decide +kernel
theorem dX8_spreadPart_223 : decode cX8_spreadPart 223 = .ok (.aload_n 0, 1) := by decide +kernel
theorem dX8_spreadPart_224 : decode cX8_spreadPart 224 = .ok (.getfield 9, 3) := by decide +kernel
theorem dX8_spreadPart_227 : decode cX8_spreadPart 227 = .ok (.iload_n 2, 1) := by decide +kernel
theorem dX8_spreadPart_228 : decode cX8_spreadPart 228 = .ok (.iconst 1, 1) := by decide +kernel
theorem dX8_spreadPart_229 : decode cX8_spreadPart 229 = .ok (.iadd, 1) := by decide +kernel
theorem dX8_spreadPart_230 : decode cX8_spreadPart 230 = .ok (.iload 5, 2) := by decide +kernel
theorem dX8_spreadPart_232 : decode cX8_spreadPart 232 = .ok (.ifCond .eq 11, 3) := by decide +kernel
theorem dX8_spreadPart_235 : decode cX8_spreadPart 235 = .ok (.iconst 2, 1) := by decide +kernel
theorem dX8_spreadPart_236 : decode cX8_spreadPart 236 = .ok (.iload_n 3, 1) := by decide +kernel
theorem dX8_spreadPart_237 : decode cX8_spreadPart 237 = .ok (.imul, 1) := by decide +kernel
theorem dX8_spreadPart_238 : decode cX8_spreadPart 238 = .ok (.iconst 1, 1) := by decide +kernel
theorem dX8_spreadPart_239 : decode cX8_spreadPart 239 = .ok (.iadd, 1) := by decide +kernel
theorem dX8_spreadPart_240 : decode cX8_spreadPart 240 = .ok (.goto 4, 3) := by decide +kernel
theorem dX8_spreadPart_243 : decode cX8_spreadPart 243 = .ok (.iconst (-1), 1) := by decide +kernel
theorem dX8_spreadPart_244 : decode cX8_spreadPart 244 = .ok (.iastore, 1) := by decide +kernel
theorem dX8_spreadPart_245 : decode cX8_spreadPart 245 = .ok (.goto 35, 3) := by decide +kernel
theorem dX8_spreadPart_248 : decode cX8_spreadPart 248 = .ok (.iload 4, 2) := by decide +kernel
theorem dX8_spreadPart_250 : decode cX8_spreadPart 250 = .ok (.sipush 128, 3) := by decide +kernel
theorem dX8_spreadPart_253 : decode cX8_spreadPart 253 = .ok (.if_icmp .lt 27, 3) := by decide +kernel
theorem dX8_spreadPart_256 : decode cX8_spreadPart 256 = .ok (.aload_n 0, 1) := by decide +kernel
theorem dX8_spreadPart_257 : decode cX8_spreadPart 257 = .ok (.getfield 9, 3) := by decide +kernel
theorem dX8_spreadPart_260 : decode cX8_spreadPart 260 = .ok (.iload_n 2, 1) := by decide +kernel
theorem dX8_spreadPart_261 : decode cX8_spreadPart 261 = .ok (.iconst 1, 1) := by decide +kernel
theorem dX8_spreadPart_262 : decode cX8_spreadPart 262 = .ok (.iadd, 1) := by decide +kernel
theorem dX8_spreadPart_263 : decode cX8_spreadPart 263 = .ok (.iload 5, 2) := by decide +kernel
theorem dX8_spreadPart_265 : decode cX8_spreadPart 265 = .ok (.ifCond .eq 13, 3) := by decide +kernel
theorem dX8_spreadPart_268 : decode cX8_spreadPart 268 = .ok (.iload_n 3, 1) := by decide +kernel
theorem dX8_spreadPart_269 : decode cX8_spreadPart 269 = .ok (.ifCond .le 9, 3) := by decide +kernel
theorem dX8_spreadPart_272 : decode cX8_spreadPart 272 = .ok (.iload_n 3, 1) := by decide +kernel
theorem dX8_spreadPart_273 : decode cX8_spreadPart 273 = .ok (.iconst 1, 1) := by decide +kernel
theorem dX8_spreadPart_274 : decode cX8_spreadPart 274 = .ok (.isub, 1) := by decide +kernel
theorem dX8_spreadPart_275 : decode cX8_spreadPart 275 = .ok (.goto 4, 3) := by decide +kernel
theorem dX8_spreadPart_278 : decode cX8_spreadPart 278 = .ok (.iconst (-1), 1) := by decide +kernel
theorem dX8_spreadPart_279 : decode cX8_spreadPart 279 = .ok (.iastore, 1) := by decide +kernel
theorem dX8_spreadPart_280 : decode cX8_spreadPart 280 = .ok (.return_, 1) := by decide +kernel
theorem dX8_isNeeded_0 : decode cX8_isNeeded 0 = .ok (.aload_n 0, 1) := by decide +kernel
theorem dX8_isNeeded_1 : decode cX8_isNeeded 1 = .ok (.getfield 9, 3) := by decide +kernel
theorem dX8_isNeeded_4 : decode cX8_isNeeded 4 = .ok (.iload_n 1, 1) := by decide +kernel
theorem dX8_isNeeded_5 : decode cX8_isNeeded 5 = .ok (.iaload, 1) := by decide +kernel
theorem dX8_isNeeded_6 : decode cX8_isNeeded 6 = .ok (.iconst (-1), 1) := by decide +kernel
theorem dX8_isNeeded_7 : decode cX8_isNeeded 7 = .ok (.if_icmp .eq 7, 3) := by decide +kernel
theorem dX8_isNeeded_10 : decode cX8_isNeeded 10 = .ok (.iconst 1, 1) := by decide +kernel
theorem dX8_isNeeded_11 : decode cX8_isNeeded 11 = .ok (.goto 4, 3) := by decide +kernel
theorem dX8_isNeeded_14 : decode cX8_isNeeded 14 = .ok (.iconst 0, 1) := by decide +kernel
theorem dX8_isNeeded_15 : decode cX8_isNeeded 15 = .ok (.ireturn, 1) := by decide +kernel
theorem dX8_evaluate_0 : decode cX8_evaluate 0 = .ok (.aload_n 1, 1) := by decide +kernel
theorem dX8_evaluate_1 : decode cX8_evaluate 1 = .ok (.getfield 25, 3) := by decide +kernel
theorem dX8_evaluate_4 : decode cX8_evaluate 4 = .ok (.iconst 1, 1) := by decide +kernel
theorem dX8_evaluate_5 : decode cX8_evaluate 5 = .ok (.isub, 1) := by decide +kernel
theorem dX8_evaluate_6 : decode cX8_evaluate 6 = .ok (.istore 4, 2) := by decide +kernel
theorem dX8_evaluate_8 : decode cX8_evaluate 8 = .ok (.iload 4, 2) := by decide +kernel
theorem dX8_evaluate_10 : decode cX8_evaluate 10 = .ok (.ifCond .lt 36, 3) := by decide +kernel
theorem dX8_evaluate_13 : decode cX8_evaluate 13 = .ok (.aload_n 0, 1) := by decide +kernel
theorem dX8_evaluate_14 : decode cX8_evaluate 14 = .ok (.getfield 9, 3) := by decide +kernel
theorem dX8_evaluate_17 : decode cX8_evaluate 17 = .ok (.iload 4, 2) := by decide +kernel
theorem dX8_evaluate_19 : decode cX8_evaluate 19 = .ok (.iaload, 1) := by decide +kernel
theorem dX8_evaluate_20 : decode cX8_evaluate 20 = .ok (.iconst (-1), 1) := by decide +kernel
theorem dX8_evaluate_21 : decode cX8_evaluate 21 = .ok (.if_icmp .eq 19, 3) := by decide +kernel
theorem dX8_evaluate_24 : decode cX8_evaluate 24 = .ok (.aload_n 0, 1) := by decide +kernel
theorem dX8_evaluate_25 : decode cX8_evaluate 25 = .ok (.getfield 15, 3) := by decide +kernel
theorem dX8_evaluate_28 : decode cX8_evaluate 28 = .ok (.iload 4, 2) := by decide +kernel
theorem dX8_evaluate_30 : decode cX8_evaluate 30 = .ok (.aload_n 0, 1) := by decide +kernel
theorem dX8_evaluate_31 : decode cX8_evaluate 31 = .ok (.aload_n 1, 1) := by decide +kernel
theorem dX8_evaluate_32 : decode cX8_evaluate 32 = .ok (.iload 4, 2) := by decide +kernel
theorem dX8_evaluate_34 : decode cX8_evaluate 34 = .ok (.aload_n 2, 1) := by decide +kernel
theorem dX8_evaluate_35 : decode cX8_evaluate 35 = .ok (.iload_n 3, 1) := by decide +kernel
theorem dX8_evaluate_36 : decode cX8_evaluate 36 = .ok (.invokevirtual 44, 3) := by decide +kernel
theorem dX8_evaluate_39 : decode cX8_evaluate 39 = .ok (.iastore, 1) := by decide +kernel
theorem dX8_evaluate_40 : decode cX8_evaluate 40 = .ok (.iinc 4 (-1), 3) := by decide +kernel
theorem dX8_evaluate_43 : decode cX8_evaluate 43 = .ok (.goto (-35), 3) := by decide +kernel
theorem dX8_evaluate_46 : decode cX8_evaluate 46 = .ok (.aload_n 0, 1) := by decide +kernel
theorem dX8_evaluate_47 : decode cX8_evaluate 47 = .ok (.getfield 15, 3) := by decide +kernel
theorem dX8_evaluate_50 : decode cX8_evaluate 50 = .ok (.iconst 0, 1) := by decide +kernel
theorem dX8_evaluate_51 : decode cX8_evaluate 51 = .ok (.iaload, 1) := by decide +kernel
theorem dX8_evaluate_52 : decode cX8_evaluate 52 = .ok (.ireturn, 1) := by decide +kernel
theorem dX8_resultOf_0 : decode cX8_resultOf 0 = .ok (.aload_n 1, 1) := by decide +kernel
theorem dX8_resultOf_1 : decode cX8_resultOf 1 = .ok (.getfield 36, 3) := by decide +kernel
theorem dX8_resultOf_4 : decode cX8_resultOf 4 = .ok (.iload_n 2, 1) := by decide +kernel
theorem dX8_resultOf_5 : decode cX8_resultOf 5 = .ok (.iaload, 1) := by decide +kernel
theorem dX8_resultOf_6 : decode cX8_resultOf 6 = .ok (.istore 5, 2) := by decide +kernel
theorem dX8_resultOf_8 : decode cX8_resultOf 8 = .ok (.iload 5, 2) := by decide +kernel
theorem dX8_resultOf_10 : decode cX8_resultOf 10 = .ok (.lookupswitch 155 #[(42, 84), (43, 58), (101, 146), (111, 146), (116, 146), (122, 110)], 58) := by decide +kernel
theorem dX8_resultOf_68 : decode cX8_resultOf 68 = .ok (.aload_n 0, 1) := by decide +kernel
theorem dX8_resultOf_69 : decode cX8_resultOf 69 = .ok (.getfield 15, 3) := by decide +kernel
theorem dX8_resultOf_72 : decode cX8_resultOf 72 = .ok (.iload_n 2, 1) := by decide +kernel
theorem dX8_resultOf_73 : decode cX8_resultOf 73 = .ok (.iconst 1, 1) := by decide +kernel
theorem dX8_resultOf_74 : decode cX8_resultOf 74 = .ok (.iadd, 1) := by decide +kernel
theorem dX8_resultOf_75 : decode cX8_resultOf 75 = .ok (.iaload, 1) := by decide +kernel
theorem dX8_resultOf_76 : decode cX8_resultOf 76 = .ok (.aload_n 0, 1) := by decide +kernel
theorem dX8_resultOf_77 : decode cX8_resultOf 77 = .ok (.getfield 15, 3) := by decide +kernel
theorem dX8_resultOf_80 : decode cX8_resultOf 80 = .ok (.aload_n 1, 1) := by decide +kernel
theorem dX8_resultOf_81 : decode cX8_resultOf 81 = .ok (.getfield 39, 3) := by decide +kernel
theorem dX8_resultOf_84 : decode cX8_resultOf 84 = .ok (.iload_n 2, 1) := by decide +kernel
theorem dX8_resultOf_85 : decode cX8_resultOf 85 = .ok (.iconst 1, 1) := by decide +kernel
theorem dX8_resultOf_86 : decode cX8_resultOf 86 = .ok (.iadd, 1) := by decide +kernel
theorem dX8_resultOf_87 : decode cX8_resultOf 87 = .ok (.iaload, 1) := by decide +kernel
theorem dX8_resultOf_88 : decode cX8_resultOf 88 = .ok (.iaload, 1) := by decide +kernel
theorem dX8_resultOf_89 : decode cX8_resultOf 89 = .ok (.iadd, 1) := by decide +kernel
theorem dX8_resultOf_90 : decode cX8_resultOf 90 = .ok (.iload 4, 2) := by decide +kernel
theorem dX8_resultOf_92 : decode cX8_resultOf 92 = .ok (.irem, 1) := by decide +kernel
theorem dX8_resultOf_93 : decode cX8_resultOf 93 = .ok (.ireturn, 1) := by decide +kernel
theorem dX8_resultOf_94 : decode cX8_resultOf 94 = .ok (.aload_n 0, 1) := by decide +kernel
theorem dX8_resultOf_95 : decode cX8_resultOf 95 = .ok (.getfield 15, 3) := by decide +kernel
theorem dX8_resultOf_98 : decode cX8_resultOf 98 = .ok (.iload_n 2, 1) := by decide +kernel
theorem dX8_resultOf_99 : decode cX8_resultOf 99 = .ok (.iconst 1, 1) := by decide +kernel
theorem dX8_resultOf_100 : decode cX8_resultOf 100 = .ok (.iadd, 1) := by decide +kernel
theorem dX8_resultOf_101 : decode cX8_resultOf 101 = .ok (.iaload, 1) := by decide +kernel
theorem dX8_resultOf_102 : decode cX8_resultOf 102 = .ok (.aload_n 0, 1) := by decide +kernel
theorem dX8_resultOf_103 : decode cX8_resultOf 103 = .ok (.getfield 15, 3) := by decide +kernel
theorem dX8_resultOf_106 : decode cX8_resultOf 106 = .ok (.aload_n 1, 1) := by decide +kernel
theorem dX8_resultOf_107 : decode cX8_resultOf 107 = .ok (.getfield 39, 3) := by decide +kernel
theorem dX8_resultOf_110 : decode cX8_resultOf 110 = .ok (.iload_n 2, 1) := by decide +kernel
theorem dX8_resultOf_111 : decode cX8_resultOf 111 = .ok (.iconst 1, 1) := by decide +kernel
theorem dX8_resultOf_112 : decode cX8_resultOf 112 = .ok (.iadd, 1) := by decide +kernel
theorem dX8_resultOf_113 : decode cX8_resultOf 113 = .ok (.iaload, 1) := by decide +kernel
theorem dX8_resultOf_114 : decode cX8_resultOf 114 = .ok (.iaload, 1) := by decide +kernel
theorem dX8_resultOf_115 : decode cX8_resultOf 115 = .ok (.imul, 1) := by decide +kernel
theorem dX8_resultOf_116 : decode cX8_resultOf 116 = .ok (.iload 4, 2) := by decide +kernel
theorem dX8_resultOf_118 : decode cX8_resultOf 118 = .ok (.irem, 1) := by decide +kernel
theorem dX8_resultOf_119 : decode cX8_resultOf 119 = .ok (.ireturn, 1) := by decide +kernel
theorem dX8_resultOf_120 : decode cX8_resultOf 120 = .ok (.aload_n 0, 1) := by decide +kernel
theorem dX8_resultOf_121 : decode cX8_resultOf 121 = .ok (.getfield 9, 3) := by decide +kernel
theorem dX8_resultOf_124 : decode cX8_resultOf 124 = .ok (.iload_n 2, 1) := by decide +kernel
theorem dX8_resultOf_125 : decode cX8_resultOf 125 = .ok (.iaload, 1) := by decide +kernel
theorem dX8_resultOf_126 : decode cX8_resultOf 126 = .ok (.iconst 2, 1) := by decide +kernel
theorem dX8_resultOf_127 : decode cX8_resultOf 127 = .ok (.irem, 1) := by decide +kernel
theorem dX8_resultOf_128 : decode cX8_resultOf 128 = .ok (.ifCond .ne 14, 3) := by decide +kernel
theorem dX8_resultOf_131 : decode cX8_resultOf 131 = .ok (.aload_n 0, 1) := by decide +kernel
theorem dX8_resultOf_132 : decode cX8_resultOf 132 = .ok (.getfield 15, 3) := by decide +kernel
theorem dX8_resultOf_135 : decode cX8_resultOf 135 = .ok (.iload_n 2, 1) := by decide +kernel
theorem dX8_resultOf_136 : decode cX8_resultOf 136 = .ok (.iconst 1, 1) := by decide +kernel
theorem dX8_resultOf_137 : decode cX8_resultOf 137 = .ok (.iadd, 1) := by decide +kernel
theorem dX8_resultOf_138 : decode cX8_resultOf 138 = .ok (.iaload, 1) := by decide +kernel
theorem dX8_resultOf_139 : decode cX8_resultOf 139 = .ok (.goto 16, 3) := by decide +kernel
theorem dX8_resultOf_142 : decode cX8_resultOf 142 = .ok (.aload_n 0, 1) := by decide +kernel
theorem dX8_resultOf_143 : decode cX8_resultOf 143 = .ok (.getfield 15, 3) := by decide +kernel
theorem dX8_resultOf_146 : decode cX8_resultOf 146 = .ok (.aload_n 1, 1) := by decide +kernel
theorem dX8_resultOf_147 : decode cX8_resultOf 147 = .ok (.getfield 39, 3) := by decide +kernel
theorem dX8_resultOf_150 : decode cX8_resultOf 150 = .ok (.iload_n 2, 1) := by decide +kernel
theorem dX8_resultOf_151 : decode cX8_resultOf 151 = .ok (.iconst 1, 1) := by decide +kernel
theorem dX8_resultOf_152 : decode cX8_resultOf 152 = .ok (.iadd, 1) := by decide +kernel
theorem dX8_resultOf_153 : decode cX8_resultOf 153 = .ok (.iaload, 1) := by decide +kernel
theorem dX8_resultOf_154 : decode cX8_resultOf 154 = .ok (.iaload, 1) := by decide +kernel
theorem dX8_resultOf_155 : decode cX8_resultOf 155 = .ok (.ireturn, 1) := by decide +kernel
theorem dX8_resultOf_156 : decode cX8_resultOf 156 = .ok (.aload_n 0, 1) := by decide +kernel
theorem dX8_resultOf_157 : decode cX8_resultOf 157 = .ok (.getfield 15, 3) := by decide +kernel
theorem dX8_resultOf_160 : decode cX8_resultOf 160 = .ok (.iload_n 2, 1) := by decide +kernel
theorem dX8_resultOf_161 : decode cX8_resultOf 161 = .ok (.iconst 1, 1) := by decide +kernel
theorem dX8_resultOf_162 : decode cX8_resultOf 162 = .ok (.iadd, 1) := by decide +kernel
theorem dX8_resultOf_163 : decode cX8_resultOf 163 = .ok (.iaload, 1) := by decide +kernel
theorem dX8_resultOf_164 : decode cX8_resultOf 164 = .ok (.ireturn, 1) := by decide +kernel
theorem dX8_resultOf_165 : decode cX8_resultOf 165 = .ok (.iload 5, 2) := by decide +kernel
theorem dX8_resultOf_167 : decode cX8_resultOf 167 = .ok (.sipush 128, 3) := by decide +kernel
theorem dX8_resultOf_170 : decode cX8_resultOf 170 = .ok (.if_icmp .lt 33, 3) := by decide +kernel
theorem dX8_resultOf_173 : decode cX8_resultOf 173 = .ok (.aload_n 0, 1) := by decide +kernel
theorem dX8_resultOf_174 : decode cX8_resultOf 174 = .ok (.getfield 9, 3) := by decide +kernel
theorem dX8_resultOf_177 : decode cX8_resultOf 177 = .ok (.iload_n 2, 1) := by decide +kernel
theorem dX8_resultOf_178 : decode cX8_resultOf 178 = .ok (.iaload, 1) := by decide +kernel
theorem dX8_resultOf_179 : decode cX8_resultOf 179 = .ok (.ifCond .ne 15, 3) := by decide +kernel
theorem dX8_resultOf_182 : decode cX8_resultOf 182 = .ok (.iload 5, 2) := by decide +kernel
theorem dX8_resultOf_184 : decode cX8_resultOf 184 = .ok (.sipush 128, 3) := by decide +kernel
theorem dX8_resultOf_187 : decode cX8_resultOf 187 = .ok (.isub, 1) := by decide +kernel
theorem dX8_resultOf_188 : decode cX8_resultOf 188 = .ok (.iload 4, 2) := by decide +kernel
theorem dX8_resultOf_190 : decode cX8_resultOf 190 = .ok (.irem, 1) := by decide +kernel
theorem dX8_resultOf_191 : decode cX8_resultOf 191 = .ok (.goto 11, 3) := by decide +kernel
theorem dX8_resultOf_194 : decode cX8_resultOf 194 = .ok (.aload_n 0, 1) := by decide +kernel
theorem dX8_resultOf_195 : decode cX8_resultOf 195 = .ok (.getfield 15, 3) := by decide +kernel
theorem dX8_resultOf_198 : decode cX8_resultOf 198 = .ok (.iload_n 2, 1) := by decide +kernel
theorem dX8_resultOf_199 : decode cX8_resultOf 199 = .ok (.iconst 1, 1) := by decide +kernel
theorem dX8_resultOf_200 : decode cX8_resultOf 200 = .ok (.iadd, 1) := by decide +kernel
theorem dX8_resultOf_201 : decode cX8_resultOf 201 = .ok (.iaload, 1) := by decide +kernel
theorem dX8_resultOf_202 : decode cX8_resultOf 202 = .ok (.ireturn, 1) := by decide +kernel
theorem dX8_resultOf_203 : decode cX8_resultOf 203 = .ok (.iload 5, 2) := by decide +kernel
theorem dX8_resultOf_205 : decode cX8_resultOf 205 = .ok (.bipush 57, 2) := by decide +kernel
theorem dX8_resultOf_207 : decode cX8_resultOf 207 = .ok (.if_icmp .gt 14, 3) := by decide +kernel
theorem dX8_resultOf_210 : decode cX8_resultOf 210 = .ok (.iload 5, 2) := by decide +kernel
theorem dX8_resultOf_212 : decode cX8_resultOf 212 = .ok (.bipush 48, 2) := by decide +kernel
theorem dX8_resultOf_214 : decode cX8_resultOf 214 = .ok (.isub, 1) := by decide +kernel
theorem dX8_resultOf_215 : decode cX8_resultOf 215 = .ok (.iload 4, 2) := by decide +kernel
theorem dX8_resultOf_217 : decode cX8_resultOf 217 = .ok (.irem, 1) := by decide +kernel
theorem dX8_resultOf_218 : decode cX8_resultOf 218 = .ok (.goto 24, 3) := by decide +kernel
theorem dX8_resultOf_221 : decode cX8_resultOf 221 = .ok (.aload_n 3, 1) := by decide +kernel
theorem dX8_resultOf_222 : decode cX8_resultOf 222 = .ok (.iload 5, 2) := by decide +kernel
theorem dX8_resultOf_224 : decode cX8_resultOf 224 = .ok (.bipush 65, 2) := by decide +kernel
theorem dX8_resultOf_226 : decode cX8_resultOf 226 = .ok (.isub, 1) := by decide +kernel
theorem dX8_resultOf_227 : decode cX8_resultOf 227 = .ok (.sipush 400, 3) := by decide +kernel
theorem dX8_resultOf_230 : decode cX8_resultOf 230 = .ok (.imul, 1) := by decide +kernel
theorem dX8_resultOf_231 : decode cX8_resultOf 231 = .ok (.aload_n 0, 1) := by decide +kernel
theorem dX8_resultOf_232 : decode cX8_resultOf 232 = .ok (.getfield 9, 3) := by decide +kernel
theorem dX8_resultOf_235 : decode cX8_resultOf 235 = .ok (.iload_n 2, 1) := by decide +kernel
theorem dX8_resultOf_236 : decode cX8_resultOf 236 = .ok (.iaload, 1) := by decide +kernel
theorem dX8_resultOf_237 : decode cX8_resultOf 237 = .ok (.iadd, 1) := by decide +kernel
theorem dX8_resultOf_238 : decode cX8_resultOf 238 = .ok (.iaload, 1) := by decide +kernel
theorem dX8_resultOf_239 : decode cX8_resultOf 239 = .ok (.bipush 16, 2) := by decide +kernel
theorem dX8_resultOf_241 : decode cX8_resultOf 241 = .ok (.irem, 1) := by decide +kernel
theorem dX8_resultOf_242 : decode cX8_resultOf 242 = .ok (.ireturn, 1) := by decide +kernel
theorem dX8_clearSeen_0 : decode cX8_clearSeen 0 = .ok (.aload_n 0, 1) := by decide +kernel
theorem dX8_clearSeen_1 : decode cX8_clearSeen 1 = .ok (.getfield 21, 3) := by decide +kernel
theorem dX8_clearSeen_4 : decode cX8_clearSeen 4 = .ok (.lconst 0, 1) := by decide +kernel
theorem dX8_clearSeen_5 : decode cX8_clearSeen 5 = .ok (.invokestatic 50, 3) := by decide +kernel
theorem dX8_clearSeen_8 : decode cX8_clearSeen 8 = .ok (.return_, 1) := by decide +kernel
theorem dX8_see_0 : decode cX8_see 0 = .ok (.lconst 1, 1) := by decide +kernel
theorem dX8_see_1 : decode cX8_see 1 = .ok (.iload_n 1, 1) := by decide +kernel
theorem dX8_see_2 : decode cX8_see 2 = .ok (.bipush 64, 2) := by decide +kernel
theorem dX8_see_4 : decode cX8_see 4 = .ok (.irem, 1) := by decide +kernel
theorem dX8_see_5 : decode cX8_see 5 = .ok (.lshl, 1) := by decide +kernel
theorem dX8_see_6 : decode cX8_see 6 = .ok (.lstore_n 2, 1) := by decide +kernel
theorem dX8_see_7 : decode cX8_see 7 = .ok (.aload_n 0, 1) := by decide +kernel
theorem dX8_see_8 : decode cX8_see 8 = .ok (.getfield 21, 3) := by decide +kernel
theorem dX8_see_11 : decode cX8_see 11 = .ok (.iload_n 1, 1) := by decide +kernel
theorem dX8_see_12 : decode cX8_see 12 = .ok (.bipush 64, 2) := by decide +kernel
theorem dX8_see_14 : decode cX8_see 14 = .ok (.idiv, 1) := by decide +kernel
theorem dX8_see_15 : decode cX8_see 15 = .ok (.laload, 1) := by decide +kernel
theorem dX8_see_16 : decode cX8_see 16 = .ok (.lload_n 2, 1) := by decide +kernel
theorem dX8_see_17 : decode cX8_see 17 = .ok (.land, 1) := by decide +kernel
theorem dX8_see_18 : decode cX8_see 18 = .ok (.lconst 0, 1) := by decide +kernel
theorem dX8_see_19 : decode cX8_see 19 = .ok (.lcmp, 1) := by decide +kernel
theorem dX8_see_20 : decode cX8_see 20 = .ok (.ifCond .eq 5, 3) := by decide +kernel
theorem dX8_see_23 : decode cX8_see 23 = .ok (.iconst 0, 1) := by decide +kernel
theorem dX8_see_24 : decode cX8_see 24 = .ok (.ireturn, 1) := by decide +kernel
theorem dX8_see_25 : decode cX8_see 25 = .ok (.aload_n 0, 1) := by decide +kernel
theorem dX8_see_26 : decode cX8_see 26 = .ok (.getfield 21, 3) := by decide +kernel
theorem dX8_see_29 : decode cX8_see 29 = .ok (.iload_n 1, 1) := by decide +kernel
theorem dX8_see_30 : decode cX8_see 30 = .ok (.bipush 64, 2) := by decide +kernel
theorem dX8_see_32 : decode cX8_see 32 = .ok (.idiv, 1) := by decide +kernel
theorem dX8_see_33 : decode cX8_see 33 = .ok (.dup2, 1) := by decide +kernel
theorem dX8_see_34 : decode cX8_see 34 = .ok (.laload, 1) := by decide +kernel
theorem dX8_see_35 : decode cX8_see 35 = .ok (.lload_n 2, 1) := by decide +kernel
theorem dX8_see_36 : decode cX8_see 36 = .ok (.lor, 1) := by decide +kernel
theorem dX8_see_37 : decode cX8_see 37 = .ok (.lastore, 1) := by decide +kernel
theorem dX8_see_38 : decode cX8_see 38 = .ok (.iconst 1, 1) := by decide +kernel
theorem dX8_see_39 : decode cX8_see 39 = .ok (.ireturn, 1) := by decide +kernel
theorem dX8_greatestIndex_0 : decode cX8_greatestIndex 0 = .ok (.bipush (-9), 2) := by decide +kernel
theorem dX8_greatestIndex_2 : decode cX8_greatestIndex 2 = .ok (.istore_n 2, 1) := by decide +kernel
theorem dX8_greatestIndex_3 : decode cX8_greatestIndex 3 = .ok (.iconst 1, 1) := by decide +kernel
theorem dX8_greatestIndex_4 : decode cX8_greatestIndex 4 = .ok (.istore_n 3, 1) := by decide +kernel
theorem dX8_greatestIndex_5 : decode cX8_greatestIndex 5 = .ok (.iload_n 3, 1) := by decide +kernel
theorem dX8_greatestIndex_6 : decode cX8_greatestIndex 6 = .ok (.iload_n 1, 1) := by decide +kernel
theorem dX8_greatestIndex_7 : decode cX8_greatestIndex 7 = .ok (.if_icmp .gt 31, 3) := by decide +kernel
theorem dX8_greatestIndex_10 : decode cX8_greatestIndex 10 = .ok (.iload_n 3, 1) := by decide +kernel
theorem dX8_greatestIndex_11 : decode cX8_greatestIndex 11 = .ok (.sipush 3200, 3) := by decide +kernel
theorem dX8_greatestIndex_14 : decode cX8_greatestIndex 14 = .ok (.if_icmp .ge 24, 3) := by decide +kernel
theorem dX8_greatestIndex_17 : decode cX8_greatestIndex 17 = .ok (.iload_n 2, 1) := by decide +kernel
theorem dX8_greatestIndex_18 : decode cX8_greatestIndex 18 = .ok (.aload_n 0, 1) := by decide +kernel
theorem dX8_greatestIndex_19 : decode cX8_greatestIndex 19 = .ok (.getfield 18, 3) := by decide +kernel
theorem dX8_greatestIndex_22 : decode cX8_greatestIndex 22 = .ok (.iload_n 3, 1) := by decide +kernel
theorem dX8_greatestIndex_23 : decode cX8_greatestIndex 23 = .ok (.iaload, 1) := by decide +kernel
theorem dX8_greatestIndex_24 : decode cX8_greatestIndex 24 = .ok (.sipush 400, 3) := by decide +kernel
theorem dX8_greatestIndex_27 : decode cX8_greatestIndex 27 = .ok (.irem, 1) := by decide +kernel
theorem dX8_greatestIndex_28 : decode cX8_greatestIndex 28 = .ok (.invokestatic 56, 3) := by decide +kernel
theorem dX8_greatestIndex_31 : decode cX8_greatestIndex 31 = .ok (.istore_n 2, 1) := by decide +kernel
theorem dX8_greatestIndex_32 : decode cX8_greatestIndex 32 = .ok (.iinc 3 1, 3) := by decide +kernel
theorem dX8_greatestIndex_35 : decode cX8_greatestIndex 35 = .ok (.goto (-30), 3) := by decide +kernel
theorem dX8_greatestIndex_38 : decode cX8_greatestIndex 38 = .ok (.iload_n 2, 1) := by decide +kernel
theorem dX8_greatestIndex_39 : decode cX8_greatestIndex 39 = .ok (.ireturn, 1) := by decide +kernel
theorem dX8_countStreams_0 : decode cX8_countStreams 0 = .ok (.iconst 0, 1) := by decide +kernel
theorem dX8_countStreams_1 : decode cX8_countStreams 1 = .ok (.istore_n 2, 1) := by decide +kernel
theorem dX8_countStreams_2 : decode cX8_countStreams 2 = .ok (.iconst 1, 1) := by decide +kernel
theorem dX8_countStreams_3 : decode cX8_countStreams 3 = .ok (.istore_n 3, 1) := by decide +kernel
theorem dX8_countStreams_4 : decode cX8_countStreams 4 = .ok (.iload_n 3, 1) := by decide +kernel
theorem dX8_countStreams_5 : decode cX8_countStreams 5 = .ok (.iload_n 1, 1) := by decide +kernel
theorem dX8_countStreams_6 : decode cX8_countStreams 6 = .ok (.if_icmp .gt 31, 3) := by decide +kernel
theorem dX8_countStreams_9 : decode cX8_countStreams 9 = .ok (.iload_n 3, 1) := by decide +kernel
theorem dX8_countStreams_10 : decode cX8_countStreams 10 = .ok (.sipush 3200, 3) := by decide +kernel
theorem dX8_countStreams_13 : decode cX8_countStreams 13 = .ok (.if_icmp .ge 24, 3) := by decide +kernel
theorem dX8_countStreams_16 : decode cX8_countStreams 16 = .ok (.iload_n 2, 1) := by decide +kernel
theorem dX8_countStreams_17 : decode cX8_countStreams 17 = .ok (.iconst 1, 1) := by decide +kernel
theorem dX8_countStreams_18 : decode cX8_countStreams 18 = .ok (.aload_n 0, 1) := by decide +kernel
theorem dX8_countStreams_19 : decode cX8_countStreams 19 = .ok (.getfield 18, 3) := by decide +kernel
theorem dX8_countStreams_22 : decode cX8_countStreams 22 = .ok (.iload_n 3, 1) := by decide +kernel
theorem dX8_countStreams_23 : decode cX8_countStreams 23 = .ok (.iaload, 1) := by decide +kernel
theorem dX8_countStreams_24 : decode cX8_countStreams 24 = .ok (.sipush 400, 3) := by decide +kernel
theorem dX8_countStreams_27 : decode cX8_countStreams 27 = .ok (.idiv, 1) := by decide +kernel
theorem dX8_countStreams_28 : decode cX8_countStreams 28 = .ok (.ishl, 1) := by decide +kernel
theorem dX8_countStreams_29 : decode cX8_countStreams 29 = .ok (.ior, 1) := by decide +kernel
theorem dX8_countStreams_30 : decode cX8_countStreams 30 = .ok (.istore_n 2, 1) := by decide +kernel
theorem dX8_countStreams_31 : decode cX8_countStreams 31 = .ok (.iinc 3 1, 3) := by decide +kernel
theorem dX8_countStreams_34 : decode cX8_countStreams 34 = .ok (.goto (-30), 3) := by decide +kernel
theorem dX8_countStreams_37 : decode cX8_countStreams 37 = .ok (.iload_n 2, 1) := by decide +kernel
theorem dX8_countStreams_38 : decode cX8_countStreams 38 = .ok (.invokestatic 62, 3) := by decide +kernel
theorem dX8_countStreams_41 : decode cX8_countStreams 41 = .ok (.ireturn, 1) := by decide +kernel
theorem dX9_init_0 : decode cX9_init 0 = .ok (.aload_n 0, 1) := by decide +kernel
theorem dX9_init_1 : decode cX9_init 1 = .ok (.invokespecial 3, 3) := by decide +kernel
theorem dX9_init_4 : decode cX9_init 4 = .ok (.aload_n 0, 1) := by decide +kernel
theorem dX9_init_5 : decode cX9_init 5 = .ok (.new 9, 3) := by decide +kernel
theorem dX9_init_8 : decode cX9_init 8 = .ok (.dup, 1) := by decide +kernel
theorem dX9_init_9 : decode cX9_init 9 = .ok (.invokespecial 11, 3) := by decide +kernel
theorem dX9_init_12 : decode cX9_init 12 = .ok (.putfield 12, 3) := by decide +kernel
theorem dX9_init_15 : decode cX9_init 15 = .ok (.aload_n 0, 1) := by decide +kernel
theorem dX9_init_16 : decode cX9_init 16 = .ok (.new 16, 3) := by decide +kernel
theorem dX9_init_19 : decode cX9_init 19 = .ok (.dup, 1) := by decide +kernel
theorem dX9_init_20 : decode cX9_init 20 = .ok (.invokespecial 18, 3) := by decide +kernel
theorem dX9_init_23 : decode cX9_init 23 = .ok (.putfield 19, 3) := by decide +kernel
theorem dX9_init_26 : decode cX9_init 26 = .ok (.aload_n 0, 1) := by decide +kernel
theorem dX9_init_27 : decode cX9_init 27 = .ok (.new 23, 3) := by decide +kernel
theorem dX9_init_30 : decode cX9_init 30 = .ok (.dup, 1) := by decide +kernel
theorem dX9_init_31 : decode cX9_init 31 = .ok (.invokespecial 25, 3) := by decide +kernel
theorem dX9_init_34 : decode cX9_init 34 = .ok (.putfield 26, 3) := by decide +kernel
theorem dX9_init_37 : decode cX9_init 37 = .ok (.aload_n 0, 1) := by decide +kernel
theorem dX9_init_38 : decode cX9_init 38 = .ok (.new 30, 3) := by decide +kernel
theorem dX9_init_41 : decode cX9_init 41 = .ok (.dup, 1) := by decide +kernel
theorem dX9_init_42 : decode cX9_init 42 = .ok (.invokespecial 32, 3) := by decide +kernel
theorem dX9_init_45 : decode cX9_init 45 = .ok (.putfield 33, 3) := by decide +kernel
theorem dX9_init_48 : decode cX9_init 48 = .ok (.aload_n 0, 1) := by decide +kernel
theorem dX9_init_49 : decode cX9_init 49 = .ok (.iconst 2, 1) := by decide +kernel
theorem dX9_init_50 : decode cX9_init 50 = .ok (.anewarray 16, 3) := by decide +kernel
theorem dX9_init_53 : decode cX9_init 53 = .ok (.putfield 37, 3) := by decide +kernel
theorem dX9_init_56 : decode cX9_init 56 = .ok (.aload_n 0, 1) := by decide +kernel
theorem dX9_init_57 : decode cX9_init 57 = .ok (.iconst 2, 1) := by decide +kernel
theorem dX9_init_58 : decode cX9_init 58 = .ok (.anewarray 41, 3) := by decide +kernel
theorem dX9_init_61 : decode cX9_init 61 = .ok (.putfield 43, 3) := by decide +kernel
theorem dX9_init_64 : decode cX9_init 64 = .ok (.return_, 1) := by decide +kernel
theorem dX9_write_0 : decode cX9_write 0 = .ok (.iload_n 1, 1) := by decide +kernel
theorem dX9_write_1 : decode cX9_write 1 = .ok (.bipush 32, 2) := by decide +kernel
theorem dX9_write_3 : decode cX9_write 3 = .ok (.if_icmp .lt 9, 3) := by decide +kernel
theorem dX9_write_6 : decode cX9_write 6 = .ok (.iload_n 1, 1) := by decide +kernel
theorem dX9_write_7 : decode cX9_write 7 = .ok (.bipush 126, 2) := by decide +kernel
theorem dX9_write_9 : decode cX9_write 9 = .ok (.if_icmp .le 5, 3) := by decide +kernel
theorem dX9_write_12 : decode cX9_write 12 = .ok (.iconst (-1), 1) := by decide +kernel
theorem dX9_write_13 : decode cX9_write 13 = .ok (.ireturn, 1) := by decide +kernel
theorem dX9_write_14 : decode cX9_write 14 = .ok (.aload_n 0, 1) := by decide +kernel
theorem dX9_write_15 : decode cX9_write 15 = .ok (.getfield 12, 3) := by decide +kernel
theorem dX9_write_18 : decode cX9_write 18 = .ok (.iload_n 1, 1) := by decide +kernel
theorem dX9_write_19 : decode cX9_write 19 = .ok (.invokevirtual 47, 3) := by decide +kernel
theorem dX9_write_22 : decode cX9_write 22 = .ok (.ireturn, 1) := by decide +kernel
theorem dX9_wipe_0 : decode cX9_wipe 0 = .ok (.aload_n 0, 1) := by decide +kernel
theorem dX9_wipe_1 : decode cX9_wipe 1 = .ok (.getfield 12, 3) := by decide +kernel
theorem dX9_wipe_4 : decode cX9_wipe 4 = .ok (.invokevirtual 51, 3) := by decide +kernel
theorem dX9_wipe_7 : decode cX9_wipe 7 = .ok (.ireturn, 1) := by decide +kernel
theorem dX9_fault_0 : decode cX9_fault 0 = .ok (.aload_n 0, 1) := by decide +kernel
theorem dX9_fault_1 : decode cX9_fault 1 = .ok (.getfield 12, 3) := by decide +kernel
theorem dX9_fault_4 : decode cX9_fault 4 = .ok (.invokevirtual 55, 3) := by decide +kernel
theorem dX9_fault_7 : decode cX9_fault 7 = .ok (.ireturn, 1) := by decide +kernel
theorem dX9_define_0 : decode cX9_define 0 = .ok (.iload_n 1, 1) := by decide +kernel
theorem dX9_define_1 : decode cX9_define 1 = .ok (.invokestatic 58, 3) := by decide +kernel
theorem dX9_define_4 : decode cX9_define 4 = .ok (.ifCond .ne 5, 3) := by decide +kernel
theorem dX9_define_7 : decode cX9_define 7 = .ok (.iconst (-1), 1) := by decide +kernel
theorem dX9_define_8 : decode cX9_define 8 = .ok (.ireturn, 1) := by decide +kernel
theorem dX9_define_9 : decode cX9_define 9 = .ok (.aload_n 0, 1) := by decide +kernel
theorem dX9_define_10 : decode cX9_define 10 = .ok (.getfield 12, 3) := by decide +kernel
theorem dX9_define_13 : decode cX9_define 13 = .ok (.invokevirtual 55, 3) := by decide +kernel
theorem dX9_define_16 : decode cX9_define 16 = .ok (.bipush (-9), 2) := by decide +kernel
theorem dX9_define_18 : decode cX9_define 18 = .ok (.if_icmp .eq 6, 3) := by decide +kernel
theorem dX9_define_21 : decode cX9_define 21 = .ok (.bipush (-2), 2) := by decide +kernel
theorem dX9_define_23 : decode cX9_define 23 = .ok (.ireturn, 1) := by decide +kernel
theorem dX9_define_24 : decode cX9_define 24 = .ok (.aload_n 0, 1) := by decide +kernel
theorem dX9_define_25 : decode cX9_define 25 = .ok (.getfield 12, 3) := by decide +kernel
theorem dX9_define_28 : decode cX9_define 28 = .ok (.invokevirtual 62, 3) := by decide +kernel
theorem dX9_define_31 : decode cX9_define 31 = .ok (.astore_n 2, 1) := by decide +kernel
theorem dX9_define_32 : decode cX9_define 32 = .ok (.aload_n 0, 1) := by decide +kernel
theorem dX9_define_33 : decode cX9_define 33 = .ok (.invokevirtual 66, 3) := by decide +kernel
theorem dX9_define_36 : decode cX9_define 36 = .ok (.aload_n 0, 1) := by decide +kernel
theorem dX9_define_37 : decode cX9_define 37 = .ok (.getfield 19, 3) := by decide +kernel
theorem dX9_define_40 : decode cX9_define 40 = .ok (.getfield 69, 3) := by decide +kernel
theorem dX9_define_43 : decode cX9_define 43 = .ok (.iload_n 1, 1) := by decide +kernel
theorem dX9_define_44 : decode cX9_define 44 = .ok (.aload_n 2, 1) := by decide +kernel
theorem dX9_define_45 : decode cX9_define 45 = .ok (.aastore, 1) := by decide +kernel
theorem dX9_define_46 : decode cX9_define 46 = .ok (.aload_n 2, 1) := by decide +kernel
theorem dX9_define_47 : decode cX9_define 47 = .ok (.getfield 73, 3) := by decide +kernel
theorem dX9_define_50 : decode cX9_define 50 = .ok (.ireturn, 1) := by decide +kernel
theorem dX9_undefine_0 : decode cX9_undefine 0 = .ok (.iload_n 1, 1) := by decide +kernel
theorem dX9_undefine_1 : decode cX9_undefine 1 = .ok (.invokestatic 58, 3) := by decide +kernel
theorem dX9_undefine_4 : decode cX9_undefine 4 = .ok (.ifCond .ne 5, 3) := by decide +kernel
theorem dX9_undefine_7 : decode cX9_undefine 7 = .ok (.iconst (-1), 1) := by decide +kernel
theorem dX9_undefine_8 : decode cX9_undefine 8 = .ok (.ireturn, 1) := by decide +kernel
theorem dX9_undefine_9 : decode cX9_undefine 9 = .ok (.aload_n 0, 1) := by decide +kernel
theorem dX9_undefine_10 : decode cX9_undefine 10 = .ok (.getfield 19, 3) := by decide +kernel
theorem dX9_undefine_13 : decode cX9_undefine 13 = .ok (.getfield 69, 3) := by decide +kernel
theorem dX9_undefine_16 : decode cX9_undefine 16 = .ok (.iload_n 1, 1) := by decide +kernel
theorem dX9_undefine_17 : decode cX9_undefine 17 = .ok (.aaload, 1) := by decide +kernel
theorem dX9_undefine_18 : decode cX9_undefine 18 = .ok (.astore_n 2, 1) := by decide +kernel
theorem dX9_undefine_19 : decode cX9_undefine 19 = .ok (.aload_n 2, 1) := by decide +kernel
theorem dX9_undefine_20 : decode cX9_undefine 20 = .ok (.ifnonnull 6, 3) := by decide +kernel
theorem dX9_undefine_23 : decode cX9_undefine 23 = .ok (.bipush (-2), 2) := by decide +kernel
theorem dX9_undefine_25 : decode cX9_undefine 25 = .ok (.ireturn, 1) := by decide +kernel
theorem dX9_undefine_26 : decode cX9_undefine 26 = .ok (.aload_n 0, 1) := by decide +kernel
theorem dX9_undefine_27 : decode cX9_undefine 27 = .ok (.invokevirtual 66, 3) := by decide +kernel
theorem dX9_undefine_30 : decode cX9_undefine 30 = .ok (.aload_n 0, 1) := by decide +kernel
theorem dX9_undefine_31 : decode cX9_undefine 31 = .ok (.getfield 19, 3) := by decide +kernel
theorem dX9_undefine_34 : decode cX9_undefine 34 = .ok (.getfield 69, 3) := by decide +kernel
theorem dX9_undefine_37 : decode cX9_undefine 37 = .ok (.iload_n 1, 1) := by decide +kernel
theorem dX9_undefine_38 : decode cX9_undefine 38 = .ok (.aconst_null, 1) := by decide +kernel
theorem dX9_undefine_39 : decode cX9_undefine 39 = .ok (.aastore, 1) := by decide +kernel
theorem dX9_undefine_40 : decode cX9_undefine 40 = .ok (.aload_n 2, 1) := by decide +kernel
theorem dX9_undefine_41 : decode cX9_undefine 41 = .ok (.getfield 73, 3) := by decide +kernel
theorem dX9_undefine_44 : decode cX9_undefine 44 = .ok (.ireturn, 1) := by decide +kernel
theorem dX9_setModulus_0 : decode cX9_setModulus 0 = .ok (.iload_n 1, 1) := by decide +kernel
theorem dX9_setModulus_1 : decode cX9_setModulus 1 = .ok (.iconst 2, 1) := by decide +kernel
theorem dX9_setModulus_2 : decode cX9_setModulus 2 = .ok (.if_icmp .lt 9, 3) := by decide +kernel
theorem dX9_setModulus_5 : decode cX9_setModulus 5 = .ok (.iload_n 1, 1) := by decide +kernel
theorem dX9_setModulus_6 : decode cX9_setModulus 6 = .ok (.bipush 10, 2) := by decide +kernel
theorem dX9_setModulus_8 : decode cX9_setModulus 8 = .ok (.if_icmp .le 5, 3) := by decide +kernel
theorem dX9_setModulus_11 : decode cX9_setModulus 11 = .ok (.iconst (-1), 1) := by decide +kernel
theorem dX9_setModulus_12 : decode cX9_setModulus 12 = .ok (.ireturn, 1) := by decide +kernel
theorem dX9_setModulus_13 : decode cX9_setModulus 13 = .ok (.aload_n 0, 1) := by decide +kernel
theorem dX9_setModulus_14 : decode cX9_setModulus 14 = .ok (.getfield 19, 3) := by decide +kernel
theorem dX9_setModulus_17 : decode cX9_setModulus 17 = .ok (.getfield 79, 3) := by decide +kernel
theorem dX9_setModulus_20 : decode cX9_setModulus 20 = .ok (.istore_n 2, 1) := by decide +kernel
theorem dX9_setModulus_21 : decode cX9_setModulus 21 = .ok (.aload_n 0, 1) := by decide +kernel
theorem dX9_setModulus_22 : decode cX9_setModulus 22 = .ok (.invokevirtual 66, 3) := by decide +kernel
theorem dX9_setModulus_25 : decode cX9_setModulus 25 = .ok (.aload_n 0, 1) := by decide +kernel
theorem dX9_setModulus_26 : decode cX9_setModulus 26 = .ok (.getfield 19, 3) := by decide +kernel
theorem dX9_setModulus_29 : decode cX9_setModulus 29 = .ok (.iload_n 1, 1) := by decide +kernel
theorem dX9_setModulus_30 : decode cX9_setModulus 30 = .ok (.putfield 79, 3) := by decide +kernel
theorem dX9_setModulus_33 : decode cX9_setModulus 33 = .ok (.iload_n 2, 1) := by decide +kernel
theorem dX9_setModulus_34 : decode cX9_setModulus 34 = .ok (.ireturn, 1) := by decide +kernel
theorem dX9_insert_0 : decode cX9_insert 0 = .ok (.iload_n 1, 1) := by decide +kernel
theorem dX9_insert_1 : decode cX9_insert 1 = .ok (.invokestatic 58, 3) := by decide +kernel
theorem dX9_insert_4 : decode cX9_insert 4 = .ok (.ifCond .eq 10, 3) := by decide +kernel
theorem dX9_insert_7 : decode cX9_insert 7 = .ok (.iload_n 2, 1) := by decide +kernel
theorem dX9_insert_8 : decode cX9_insert 8 = .ok (.invokestatic 58, 3) := by decide +kernel
theorem dX9_insert_11 : decode cX9_insert 11 = .ok (.ifCond .ne 5, 3) := by decide +kernel
theorem dX9_insert_14 : decode cX9_insert 14 = .ok (.iconst (-1), 1) := by decide +kernel
theorem dX9_insert_15 : decode cX9_insert 15 = .ok (.ireturn, 1) := by decide +kernel
theorem dX9_insert_16 : decode cX9_insert 16 = .ok (.aload_n 0, 1) := by decide +kernel
theorem dX9_insert_17 : decode cX9_insert 17 = .ok (.getfield 19, 3) := by decide +kernel
theorem dX9_insert_20 : decode cX9_insert 20 = .ok (.getfield 69, 3) := by decide +kernel
theorem dX9_insert_23 : decode cX9_insert 23 = .ok (.iload_n 1, 1) := by decide +kernel
theorem dX9_insert_24 : decode cX9_insert 24 = .ok (.aaload, 1) := by decide +kernel
theorem dX9_insert_25 : decode cX9_insert 25 = .ok (.astore_n 3, 1) := by decide +kernel
theorem dX9_insert_26 : decode cX9_insert 26 = .ok (.aload_n 0, 1) := by decide +kernel
theorem dX9_insert_27 : decode cX9_insert 27 = .ok (.getfield 19, 3) := by decide +kernel
theorem dX9_insert_30 : decode cX9_insert 30 = .ok (.getfield 69, 3) := by decide +kernel
theorem dX9_insert_33 : decode cX9_insert 33 = .ok (.iload_n 2, 1) := by decide +kernel
theorem dX9_insert_34 : decode cX9_insert 34 = .ok (.aaload, 1) := by decide +kernel
theorem dX9_insert_35 : decode cX9_insert 35 = .ok (.astore 4, 2) := by decide +kernel
theorem dX9_insert_37 : decode cX9_insert 37 = .ok (.aload_n 3, 1) := by decide +kernel
theorem dX9_insert_38 : decode cX9_insert 38 = .ok (.ifnull 8, 3) := by decide +kernel
theorem dX9_insert_41 : decode cX9_insert 41 = .ok (.aload 4, 2) := by decide +kernel
theorem dX9_insert_43 : decode cX9_insert 43 = .ok (.ifnonnull 6, 3) := by decide +kernel
theorem dX9_insert_46 : decode cX9_insert 46 = .ok (.bipush (-2), 2) := by decide +kernel
theorem dX9_insert_48 : decode cX9_insert 48 = .ok (.ireturn, 1) := by decide +kernel
theorem dX9_insert_49 : decode cX9_insert 49 = .ok (.aload_n 3, 1) := by decide +kernel
theorem dX9_insert_50 : decode cX9_insert 50 = .ok (.iload_n 2, 1) := by decide +kernel
theorem dX9_insert_51 : decode cX9_insert 51 = .ok (.aload 4, 2) := by decide +kernel
theorem dX9_insert_53 : decode cX9_insert 53 = .ok (.invokevirtual 82, 3) := by decide +kernel
theorem dX9_insert_56 : decode cX9_insert 56 = .ok (.bipush 120, 2) := by decide +kernel
theorem dX9_insert_58 : decode cX9_insert 58 = .ok (.if_icmp .le 6, 3) := by decide +kernel
theorem dX9_insert_61 : decode cX9_insert 61 = .ok (.bipush (-3), 2) := by decide +kernel
theorem dX9_insert_63 : decode cX9_insert 63 = .ok (.ireturn, 1) := by decide +kernel
theorem dX9_insert_64 : decode cX9_insert 64 = .ok (.aload_n 3, 1) := by decide +kernel
theorem dX9_insert_65 : decode cX9_insert 65 = .ok (.iload_n 2, 1) := by decide +kernel
theorem dX9_insert_66 : decode cX9_insert 66 = .ok (.aload 4, 2) := by decide +kernel
theorem dX9_insert_68 : decode cX9_insert 68 = .ok (.invokevirtual 86, 3) := by decide +kernel
theorem dX9_insert_71 : decode cX9_insert 71 = .ok (.astore 5, 2) := by decide +kernel
theorem dX9_insert_73 : decode cX9_insert 73 = .ok (.aload_n 0, 1) := by decide +kernel
theorem dX9_insert_74 : decode cX9_insert 74 = .ok (.invokevirtual 66, 3) := by decide +kernel
theorem dX9_insert_77 : decode cX9_insert 77 = .ok (.aload_n 0, 1) := by decide +kernel
theorem dX9_insert_78 : decode cX9_insert 78 = .ok (.getfield 19, 3) := by decide +kernel
theorem dX9_insert_81 : decode cX9_insert 81 = .ok (.getfield 69, 3) := by decide +kernel
theorem dX9_insert_84 : decode cX9_insert 84 = .ok (.iload_n 1, 1) := by decide +kernel
theorem dX9_insert_85 : decode cX9_insert 85 = .ok (.aload 5, 2) := by decide +kernel
theorem dX9_insert_87 : decode cX9_insert 87 = .ok (.aastore, 1) := by decide +kernel
theorem dX9_insert_88 : decode cX9_insert 88 = .ok (.aload 5, 2) := by decide +kernel
theorem dX9_insert_90 : decode cX9_insert 90 = .ok (.getfield 73, 3) := by decide +kernel
theorem dX9_insert_93 : decode cX9_insert 93 = .ok (.ireturn, 1) := by decide +kernel
theorem dX9_simplify_0 : decode cX9_simplify 0 = .ok (.iload_n 1, 1) := by decide +kernel
theorem dX9_simplify_1 : decode cX9_simplify 1 = .ok (.invokestatic 58, 3) := by decide +kernel
theorem dX9_simplify_4 : decode cX9_simplify 4 = .ok (.ifCond .ne 5, 3) := by decide +kernel
theorem dX9_simplify_7 : decode cX9_simplify 7 = .ok (.iconst (-1), 1) := by decide +kernel
theorem dX9_simplify_8 : decode cX9_simplify 8 = .ok (.ireturn, 1) := by decide +kernel
theorem dX9_simplify_9 : decode cX9_simplify 9 = .ok (.aload_n 0, 1) := by decide +kernel
theorem dX9_simplify_10 : decode cX9_simplify 10 = .ok (.getfield 19, 3) := by decide +kernel
theorem dX9_simplify_13 : decode cX9_simplify 13 = .ok (.getfield 69, 3) := by decide +kernel
theorem dX9_simplify_16 : decode cX9_simplify 16 = .ok (.iload_n 1, 1) := by decide +kernel
theorem dX9_simplify_17 : decode cX9_simplify 17 = .ok (.aaload, 1) := by decide +kernel
theorem dX9_simplify_18 : decode cX9_simplify 18 = .ok (.astore_n 2, 1) := by decide +kernel
theorem dX9_simplify_19 : decode cX9_simplify 19 = .ok (.aload_n 2, 1) := by decide +kernel
theorem dX9_simplify_20 : decode cX9_simplify 20 = .ok (.ifnonnull 6, 3) := by decide +kernel
theorem dX9_simplify_23 : decode cX9_simplify 23 = .ok (.bipush (-2), 2) := by decide +kernel
theorem dX9_simplify_25 : decode cX9_simplify 25 = .ok (.ireturn, 1) := by decide +kernel
theorem dX9_simplify_26 : decode cX9_simplify 26 = .ok (.aload_n 0, 1) := by decide +kernel
theorem dX9_simplify_27 : decode cX9_simplify 27 = .ok (.getfield 33, 3) := by decide +kernel
theorem dX9_simplify_30 : decode cX9_simplify 30 = .ok (.aload_n 2, 1) := by decide +kernel
theorem dX9_simplify_31 : decode cX9_simplify 31 = .ok (.invokevirtual 90, 3) := by decide +kernel
theorem dX9_simplify_34 : decode cX9_simplify 34 = .ok (.aload_n 0, 1) := by decide +kernel
theorem dX9_simplify_35 : decode cX9_simplify 35 = .ok (.getfield 33, 3) := by decide +kernel
theorem dX9_simplify_38 : decode cX9_simplify 38 = .ok (.invokevirtual 94, 3) := by decide +kernel
theorem dX9_simplify_41 : decode cX9_simplify 41 = .ok (.istore_n 3, 1) := by decide +kernel
theorem dX9_simplify_42 : decode cX9_simplify 42 = .ok (.iload_n 3, 1) := by decide +kernel
theorem dX9_simplify_43 : decode cX9_simplify 43 = .ok (.ifCond .ge 6, 3) := by decide +kernel
theorem dX9_simplify_46 : decode cX9_simplify 46 = .ok (.bipush (-3), 2) := by decide +kernel
theorem dX9_simplify_48 : decode cX9_simplify 48 = .ok (.ireturn, 1) := by decide +kernel
theorem dX9_simplify_49 : decode cX9_simplify 49 = .ok (.aload_n 0, 1) := by decide +kernel
theorem dX9_simplify_50 : decode cX9_simplify 50 = .ok (.invokevirtual 66, 3) := by decide +kernel
theorem dX9_simplify_53 : decode cX9_simplify 53 = .ok (.iload_n 3, 1) := by decide +kernel
theorem dX9_simplify_54 : decode cX9_simplify 54 = .ok (.ifCond .le 19, 3) := by decide +kernel
theorem dX9_simplify_57 : decode cX9_simplify 57 = .ok (.aload_n 0, 1) := by decide +kernel
theorem dX9_simplify_58 : decode cX9_simplify 58 = .ok (.getfield 19, 3) := by decide +kernel
theorem dX9_simplify_61 : decode cX9_simplify 61 = .ok (.getfield 69, 3) := by decide +kernel
theorem dX9_simplify_64 : decode cX9_simplify 64 = .ok (.iload_n 1, 1) := by decide +kernel
theorem dX9_simplify_65 : decode cX9_simplify 65 = .ok (.aload_n 0, 1) := by decide +kernel
theorem dX9_simplify_66 : decode cX9_simplify 66 = .ok (.getfield 33, 3) := by decide +kernel
theorem dX9_simplify_69 : decode cX9_simplify 69 = .ok (.invokevirtual 97, 3) := by decide +kernel
theorem dX9_simplify_72 : decode cX9_simplify 72 = .ok (.aastore, 1) := by decide +kernel
theorem dX9_simplify_73 : decode cX9_simplify 73 = .ok (.iload_n 3, 1) := by decide +kernel
theorem dX9_simplify_74 : decode cX9_simplify 74 = .ok (.ireturn, 1) := by decide +kernel
theorem dX9_undo_0 : decode cX9_undo 0 = .ok (.aload_n 0, 1) := by decide +kernel
theorem dX9_undo_1 : decode cX9_undo 1 = .ok (.getfield 26, 3) := by decide +kernel
theorem dX9_undo_4 : decode cX9_undo 4 = .ok (.getfield 100, 3) := by decide +kernel
theorem dX9_undo_7 : decode cX9_undo 7 = .ok (.ifCond .ne 6, 3) := by decide +kernel
theorem dX9_undo_10 : decode cX9_undo 10 = .ok (.bipush (-2), 2) := by decide +kernel
theorem dX9_undo_12 : decode cX9_undo 12 = .ok (.ireturn, 1) := by decide +kernel
theorem dX9_undo_13 : decode cX9_undo 13 = .ok (.aload_n 0, 1) := by decide +kernel
theorem dX9_undo_14 : decode cX9_undo 14 = .ok (.getfield 26, 3) := by decide +kernel
theorem dX9_undo_17 : decode cX9_undo 17 = .ok (.aload_n 0, 1) := by decide +kernel
theorem dX9_undo_18 : decode cX9_undo 18 = .ok (.getfield 19, 3) := by decide +kernel
theorem dX9_undo_21 : decode cX9_undo 21 = .ok (.invokevirtual 103, 3) := by decide +kernel
theorem dX9_undo_24 : decode cX9_undo 24 = .ok (.aload_n 0, 1) := by decide +kernel
theorem dX9_undo_25 : decode cX9_undo 25 = .ok (.invokevirtual 107, 3) := by decide +kernel
theorem dX9_undo_28 : decode cX9_undo 28 = .ok (.aload_n 0, 1) := by decide +kernel
theorem dX9_undo_29 : decode cX9_undo 29 = .ok (.getfield 26, 3) := by decide +kernel
theorem dX9_undo_32 : decode cX9_undo 32 = .ok (.getfield 100, 3) := by decide +kernel
theorem dX9_undo_35 : decode cX9_undo 35 = .ok (.ireturn, 1) := by decide +kernel
theorem dX9_told_0 : decode cX9_told 0 = .ok (.iload_n 1, 1) := by decide +kernel
theorem dX9_told_1 : decode cX9_told 1 = .ok (.ifCond .lt 9, 3) := by decide +kernel
theorem dX9_told_4 : decode cX9_told 4 = .ok (.iload_n 1, 1) := by decide +kernel
theorem dX9_told_5 : decode cX9_told 5 = .ok (.bipush 6, 2) := by decide +kernel
theorem dX9_told_7 : decode cX9_told 7 = .ok (.if_icmp .le 5, 3) := by decide +kernel
theorem dX9_told_10 : decode cX9_told 10 = .ok (.iconst (-1), 1) := by decide +kernel
theorem dX9_told_11 : decode cX9_told 11 = .ok (.ireturn, 1) := by decide +kernel
theorem dX9_told_12 : decode cX9_told 12 = .ok (.iload_n 1, 1) := by decide +kernel
theorem dX9_told_13 : decode cX9_told 13 = .ok (.tableswitch 95 0 5 #[39, 47, 55, 63, 79, 87], 39) := by decide +kernel
theorem dX9_told_52 : decode cX9_told 52 = .ok (.aload_n 0, 1) := by decide +kernel
theorem dX9_told_53 : decode cX9_told 53 = .ok (.getfield 19, 3) := by decide +kernel
theorem dX9_told_56 : decode cX9_told 56 = .ok (.getfield 79, 3) := by decide +kernel
theorem dX9_told_59 : decode cX9_told 59 = .ok (.ireturn, 1) := by decide +kernel
theorem dX9_told_60 : decode cX9_told 60 = .ok (.aload_n 0, 1) := by decide +kernel
theorem dX9_told_61 : decode cX9_told 61 = .ok (.getfield 19, 3) := by decide +kernel
theorem dX9_told_64 : decode cX9_told 64 = .ok (.invokevirtual 110, 3) := by decide +kernel
theorem dX9_told_67 : decode cX9_told 67 = .ok (.ireturn, 1) := by decide +kernel
theorem dX9_told_68 : decode cX9_told 68 = .ok (.aload_n 0, 1) := by decide +kernel
theorem dX9_told_69 : decode cX9_told 69 = .ok (.getfield 19, 3) := by decide +kernel
theorem dX9_told_72 : decode cX9_told 72 = .ok (.invokevirtual 112, 3) := by decide +kernel
theorem dX9_told_75 : decode cX9_told 75 = .ok (.ireturn, 1) := by decide +kernel
theorem dX9_told_76 : decode cX9_told 76 = .ok (.aload_n 0, 1) := by decide +kernel
theorem dX9_told_77 : decode cX9_told 77 = .ok (.getfield 19, 3) := by decide +kernel
theorem dX9_told_80 : decode cX9_told 80 = .ok (.invokevirtual 115, 3) := by decide +kernel
theorem dX9_told_83 : decode cX9_told 83 = .ok (.ifCond .eq 7, 3) := by decide +kernel
theorem dX9_told_86 : decode cX9_told 86 = .ok (.iconst 1, 1) := by decide +kernel
theorem dX9_told_87 : decode cX9_told 87 = .ok (.goto 4, 3) := by decide +kernel
theorem dX9_told_90 : decode cX9_told 90 = .ok (.iconst 0, 1) := by decide +kernel
theorem dX9_told_91 : decode cX9_told 91 = .ok (.ireturn, 1) := by decide +kernel
theorem dX9_told_92 : decode cX9_told 92 = .ok (.aload_n 0, 1) := by decide +kernel
theorem dX9_told_93 : decode cX9_told 93 = .ok (.getfield 12, 3) := by decide +kernel
theorem dX9_told_96 : decode cX9_told 96 = .ok (.getfield 119, 3) := by decide +kernel
theorem dX9_told_99 : decode cX9_told 99 = .ok (.ireturn, 1) := by decide +kernel
theorem dX9_told_100 : decode cX9_told 100 = .ok (.aload_n 0, 1) := by decide +kernel
theorem dX9_told_101 : decode cX9_told 101 = .ok (.getfield 26, 3) := by decide +kernel
theorem dX9_told_104 : decode cX9_told 104 = .ok (.getfield 100, 3) := by decide +kernel
theorem dX9_told_107 : decode cX9_told 107 = .ok (.ireturn, 1) := by decide +kernel
theorem dX9_told_108 : decode cX9_told 108 = .ok (.aload_n 0, 1) := by decide +kernel
theorem dX9_told_109 : decode cX9_told 109 = .ok (.invokevirtual 122, 3) := by decide +kernel
theorem dX9_told_112 : decode cX9_told 112 = .ok (.ireturn, 1) := by decide +kernel
theorem dX9_listing_0 : decode cX9_listing 0 = .ok (.iload_n 1, 1) := by decide +kernel
theorem dX9_listing_1 : decode cX9_listing 1 = .ok (.invokestatic 58, 3) := by decide +kernel
theorem dX9_listing_4 : decode cX9_listing 4 = .ok (.ifCond .eq 7, 3) := by decide +kernel
theorem dX9_listing_7 : decode cX9_listing 7 = .ok (.iload_n 2, 1) := by decide +kernel
theorem dX9_listing_8 : decode cX9_listing 8 = .ok (.ifCond .ge 5, 3) := by decide +kernel
theorem dX9_listing_11 : decode cX9_listing 11 = .ok (.iconst (-1), 1) := by decide +kernel
theorem dX9_listing_12 : decode cX9_listing 12 = .ok (.ireturn, 1) := by decide +kernel
theorem dX9_listing_13 : decode cX9_listing 13 = .ok (.aload_n 0, 1) := by decide +kernel
theorem dX9_listing_14 : decode cX9_listing 14 = .ok (.getfield 19, 3) := by decide +kernel
theorem dX9_listing_17 : decode cX9_listing 17 = .ok (.getfield 69, 3) := by decide +kernel
theorem dX9_listing_20 : decode cX9_listing 20 = .ok (.iload_n 1, 1) := by decide +kernel
theorem dX9_listing_21 : decode cX9_listing 21 = .ok (.aaload, 1) := by decide +kernel
theorem dX9_listing_22 : decode cX9_listing 22 = .ok (.astore_n 3, 1) := by decide +kernel
theorem dX9_listing_23 : decode cX9_listing 23 = .ok (.aload_n 3, 1) := by decide +kernel
theorem dX9_listing_24 : decode cX9_listing 24 = .ok (.ifnonnull 8, 3) := by decide +kernel
theorem dX9_listing_27 : decode cX9_listing 27 = .ok (.bipush (-9), 2) := by decide +kernel
theorem dX9_listing_29 : decode cX9_listing 29 = .ok (.goto 8, 3) := by decide +kernel
theorem dX9_listing_32 : decode cX9_listing 32 = .ok (.aload_n 3, 1) := by decide +kernel
theorem dX9_listing_33 : decode cX9_listing 33 = .ok (.iload_n 2, 1) := by decide +kernel
theorem dX9_listing_34 : decode cX9_listing 34 = .ok (.invokevirtual 125, 3) := by decide +kernel
theorem dX9_listing_37 : decode cX9_listing 37 = .ok (.ireturn, 1) := by decide +kernel
theorem dX9_uses_0 : decode cX9_uses 0 = .ok (.iload_n 1, 1) := by decide +kernel
theorem dX9_uses_1 : decode cX9_uses 1 = .ok (.invokestatic 58, 3) := by decide +kernel
theorem dX9_uses_4 : decode cX9_uses 4 = .ok (.ifCond .ne 5, 3) := by decide +kernel
theorem dX9_uses_7 : decode cX9_uses 7 = .ok (.iconst (-1), 1) := by decide +kernel
theorem dX9_uses_8 : decode cX9_uses 8 = .ok (.ireturn, 1) := by decide +kernel
theorem dX9_uses_9 : decode cX9_uses 9 = .ok (.aload_n 0, 1) := by decide +kernel
theorem dX9_uses_10 : decode cX9_uses 10 = .ok (.getfield 19, 3) := by decide +kernel
theorem dX9_uses_13 : decode cX9_uses 13 = .ok (.getfield 69, 3) := by decide +kernel
theorem dX9_uses_16 : decode cX9_uses 16 = .ok (.iload_n 1, 1) := by decide +kernel
theorem dX9_uses_17 : decode cX9_uses 17 = .ok (.aaload, 1) := by decide +kernel
theorem dX9_uses_18 : decode cX9_uses 18 = .ok (.astore_n 2, 1) := by decide +kernel
theorem dX9_uses_19 : decode cX9_uses 19 = .ok (.aload_n 2, 1) := by decide +kernel
theorem dX9_uses_20 : decode cX9_uses 20 = .ok (.ifnonnull 8, 3) := by decide +kernel
theorem dX9_uses_23 : decode cX9_uses 23 = .ok (.bipush (-9), 2) := by decide +kernel
theorem dX9_uses_25 : decode cX9_uses 25 = .ok (.goto 7, 3) := by decide +kernel
theorem dX9_uses_28 : decode cX9_uses 28 = .ok (.aload_n 2, 1) := by decide +kernel
theorem dX9_uses_29 : decode cX9_uses 29 = .ok (.invokevirtual 128, 3) := by decide +kernel
theorem dX9_uses_32 : decode cX9_uses 32 = .ok (.ireturn, 1) := by decide +kernel
theorem dX9_cycle_0 : decode cX9_cycle 0 = .ok (.iload_n 1, 1) := by decide +kernel
theorem dX9_cycle_1 : decode cX9_cycle 1 = .ok (.invokestatic 58, 3) := by decide +kernel
theorem dX9_cycle_4 : decode cX9_cycle 4 = .ok (.ifCond .ne 5, 3) := by decide +kernel
theorem dX9_cycle_7 : decode cX9_cycle 7 = .ok (.iconst (-1), 1) := by decide +kernel
theorem dX9_cycle_8 : decode cX9_cycle 8 = .ok (.ireturn, 1) := by decide +kernel
theorem dX9_cycle_9 : decode cX9_cycle 9 = .ok (.aload_n 0, 1) := by decide +kernel
theorem dX9_cycle_10 : decode cX9_cycle 10 = .ok (.getfield 19, 3) := by decide +kernel
theorem dX9_cycle_13 : decode cX9_cycle 13 = .ok (.invokevirtual 115, 3) := by decide +kernel
theorem dX9_cycle_16 : decode cX9_cycle 16 = .ok (.ifCond .ne 6, 3) := by decide +kernel
theorem dX9_cycle_19 : decode cX9_cycle 19 = .ok (.bipush (-2), 2) := by decide +kernel
theorem dX9_cycle_21 : decode cX9_cycle 21 = .ok (.ireturn, 1) := by decide +kernel
theorem dX9_cycle_22 : decode cX9_cycle 22 = .ok (.aload_n 0, 1) := by decide +kernel
theorem dX9_cycle_23 : decode cX9_cycle 23 = .ok (.getfield 131, 3) := by decide +kernel
theorem dX9_cycle_26 : decode cX9_cycle 26 = .ok (.ifnonnull 14, 3) := by decide +kernel
theorem dX9_cycle_29 : decode cX9_cycle 29 = .ok (.aload_n 0, 1) := by decide +kernel
theorem dX9_cycle_30 : decode cX9_cycle 30 = .ok (.new 135, 3) := by decide +kernel
theorem dX9_cycle_33 : decode cX9_cycle 33 = .ok (.dup, 1) := by decide +kernel
theorem dX9_cycle_34 : decode cX9_cycle 34 = .ok (.invokespecial 137, 3) := by decide +kernel
theorem dX9_cycle_37 : decode cX9_cycle 37 = .ok (.putfield 131, 3) := by decide +kernel
theorem dX9_cycle_40 : decode cX9_cycle 40 = .ok (.aload_n 0, 1) := by decide +kernel
theorem dX9_cycle_41 : decode cX9_cycle 41 = .ok (.getfield 131, 3) := by decide +kernel
theorem dX9_cycle_44 : decode cX9_cycle 44 = .ok (.aload_n 0, 1) := by decide +kernel
theorem dX9_cycle_45 : decode cX9_cycle 45 = .ok (.getfield 19, 3) := by decide +kernel
theorem dX9_cycle_48 : decode cX9_cycle 48 = .ok (.iload_n 1, 1) := by decide +kernel
theorem dX9_cycle_49 : decode cX9_cycle 49 = .ok (.invokevirtual 138, 3) := by decide +kernel
theorem dX9_cycle_52 : decode cX9_cycle 52 = .ok (.ireturn, 1) := by decide +kernel
theorem dX9_value_0 : decode cX9_value 0 = .ok (.iload_n 1, 1) := by decide +kernel
theorem dX9_value_1 : decode cX9_value 1 = .ok (.invokestatic 58, 3) := by decide +kernel
theorem dX9_value_4 : decode cX9_value 4 = .ok (.ifCond .eq 10, 3) := by decide +kernel
theorem dX9_value_7 : decode cX9_value 7 = .ok (.iload_n 2, 1) := by decide +kernel
theorem dX9_value_8 : decode cX9_value 8 = .ok (.invokestatic 142, 3) := by decide +kernel
theorem dX9_value_11 : decode cX9_value 11 = .ok (.ifCond .ne 5, 3) := by decide +kernel
theorem dX9_value_14 : decode cX9_value 14 = .ok (.iconst (-1), 1) := by decide +kernel
theorem dX9_value_15 : decode cX9_value 15 = .ok (.ireturn, 1) := by decide +kernel
theorem dX9_value_16 : decode cX9_value 16 = .ok (.aload_n 0, 1) := by decide +kernel
theorem dX9_value_17 : decode cX9_value 17 = .ok (.invokevirtual 145, 3) := by decide +kernel
theorem dX9_value_20 : decode cX9_value 20 = .ok (.astore_n 3, 1) := by decide +kernel
theorem dX9_value_21 : decode cX9_value 21 = .ok (.aload_n 3, 1) := by decide +kernel
theorem dX9_value_22 : decode cX9_value 22 = .ok (.iload_n 1, 1) := by decide +kernel
theorem dX9_value_23 : decode cX9_value 23 = .ok (.iload_n 2, 1) := by decide +kernel
theorem dX9_value_24 : decode cX9_value 24 = .ok (.invokevirtual 149, 3) := by decide +kernel
theorem dX9_value_27 : decode cX9_value 27 = .ok (.aload_n 3, 1) := by decide +kernel
theorem dX9_value_28 : decode cX9_value 28 = .ok (.iload_n 1, 1) := by decide +kernel
theorem dX9_value_29 : decode cX9_value 29 = .ok (.iload_n 2, 1) := by decide +kernel
theorem dX9_value_30 : decode cX9_value 30 = .ok (.invokevirtual 153, 3) := by decide +kernel
theorem dX9_value_33 : decode cX9_value 33 = .ok (.ireturn, 1) := by decide +kernel
theorem dX9_stream_0 : decode cX9_stream 0 = .ok (.iload_n 1, 1) := by decide +kernel
theorem dX9_stream_1 : decode cX9_stream 1 = .ok (.invokestatic 58, 3) := by decide +kernel
theorem dX9_stream_4 : decode cX9_stream 4 = .ok (.ifCond .eq 12, 3) := by decide +kernel
theorem dX9_stream_7 : decode cX9_stream 7 = .ok (.iload_n 2, 1) := by decide +kernel
theorem dX9_stream_8 : decode cX9_stream 8 = .ok (.ifCond .lt 8, 3) := by decide +kernel
theorem dX9_stream_11 : decode cX9_stream 11 = .ok (.iload_n 2, 1) := by decide +kernel
theorem dX9_stream_12 : decode cX9_stream 12 = .ok (.iconst 5, 1) := by decide +kernel
theorem dX9_stream_13 : decode cX9_stream 13 = .ok (.if_icmp .le 5, 3) := by decide +kernel
theorem dX9_stream_16 : decode cX9_stream 16 = .ok (.iconst (-1), 1) := by decide +kernel
theorem dX9_stream_17 : decode cX9_stream 17 = .ok (.ireturn, 1) := by decide +kernel
theorem dX9_stream_18 : decode cX9_stream 18 = .ok (.iload_n 2, 1) := by decide +kernel
theorem dX9_stream_19 : decode cX9_stream 19 = .ok (.ifCond .ne 27, 3) := by decide +kernel
theorem dX9_stream_22 : decode cX9_stream 22 = .ok (.aload_n 0, 1) := by decide +kernel
theorem dX9_stream_23 : decode cX9_stream 23 = .ok (.getfield 19, 3) := by decide +kernel
theorem dX9_stream_26 : decode cX9_stream 26 = .ok (.getfield 69, 3) := by decide +kernel
theorem dX9_stream_29 : decode cX9_stream 29 = .ok (.iload_n 1, 1) := by decide +kernel
theorem dX9_stream_30 : decode cX9_stream 30 = .ok (.aaload, 1) := by decide +kernel
theorem dX9_stream_31 : decode cX9_stream 31 = .ok (.astore_n 3, 1) := by decide +kernel
theorem dX9_stream_32 : decode cX9_stream 32 = .ok (.aload_n 3, 1) := by decide +kernel
theorem dX9_stream_33 : decode cX9_stream 33 = .ok (.ifnonnull 8, 3) := by decide +kernel
theorem dX9_stream_36 : decode cX9_stream 36 = .ok (.bipush (-9), 2) := by decide +kernel
theorem dX9_stream_38 : decode cX9_stream 38 = .ok (.goto 7, 3) := by decide +kernel
theorem dX9_stream_41 : decode cX9_stream 41 = .ok (.aload_n 3, 1) := by decide +kernel
theorem dX9_stream_42 : decode cX9_stream 42 = .ok (.getfield 73, 3) := by decide +kernel
theorem dX9_stream_45 : decode cX9_stream 45 = .ok (.ireturn, 1) := by decide +kernel
theorem dX9_stream_46 : decode cX9_stream 46 = .ok (.aload_n 0, 1) := by decide +kernel
theorem dX9_stream_47 : decode cX9_stream 47 = .ok (.invokevirtual 145, 3) := by decide +kernel
theorem dX9_stream_50 : decode cX9_stream 50 = .ok (.astore_n 3, 1) := by decide +kernel
theorem dX9_stream_51 : decode cX9_stream 51 = .ok (.aload_n 3, 1) := by decide +kernel
theorem dX9_stream_52 : decode cX9_stream 52 = .ok (.iload_n 1, 1) := by decide +kernel
theorem dX9_stream_53 : decode cX9_stream 53 = .ok (.invokevirtual 157, 3) := by decide +kernel
theorem dX9_stream_56 : decode cX9_stream 56 = .ok (.iload_n 2, 1) := by decide +kernel
theorem dX9_stream_57 : decode cX9_stream 57 = .ok (.tableswitch 55 1 4 #[31, 37, 43, 49], 31) := by decide +kernel
theorem dX9_stream_88 : decode cX9_stream 88 = .ok (.aload_n 3, 1) := by decide +kernel
theorem dX9_stream_89 : decode cX9_stream 89 = .ok (.iload_n 1, 1) := by decide +kernel
theorem dX9_stream_90 : decode cX9_stream 90 = .ok (.invokevirtual 161, 3) := by decide +kernel
theorem dX9_stream_93 : decode cX9_stream 93 = .ok (.ireturn, 1) := by decide +kernel
theorem dX9_stream_94 : decode cX9_stream 94 = .ok (.aload_n 3, 1) := by decide +kernel
theorem dX9_stream_95 : decode cX9_stream 95 = .ok (.iload_n 1, 1) := by decide +kernel
theorem dX9_stream_96 : decode cX9_stream 96 = .ok (.invokevirtual 164, 3) := by decide +kernel
theorem dX9_stream_99 : decode cX9_stream 99 = .ok (.ireturn, 1) := by decide +kernel
theorem dX9_stream_100 : decode cX9_stream 100 = .ok (.aload_n 3, 1) := by decide +kernel
theorem dX9_stream_101 : decode cX9_stream 101 = .ok (.iload_n 1, 1) := by decide +kernel
theorem dX9_stream_102 : decode cX9_stream 102 = .ok (.invokevirtual 167, 3) := by decide +kernel
theorem dX9_stream_105 : decode cX9_stream 105 = .ok (.ireturn, 1) := by decide +kernel
theorem dX9_stream_106 : decode cX9_stream 106 = .ok (.aload_n 3, 1) := by decide +kernel
theorem dX9_stream_107 : decode cX9_stream 107 = .ok (.iload_n 1, 1) := by decide +kernel
theorem dX9_stream_108 : decode cX9_stream 108 = .ok (.invokevirtual 170, 3) := by decide +kernel
theorem dX9_stream_111 : decode cX9_stream 111 = .ok (.ireturn, 1) := by decide +kernel
theorem dX9_stream_112 : decode cX9_stream 112 = .ok (.aload_n 3, 1) := by decide +kernel
theorem dX9_stream_113 : decode cX9_stream 113 = .ok (.iload_n 1, 1) := by decide +kernel
theorem dX9_stream_114 : decode cX9_stream 114 = .ok (.invokevirtual 173, 3) := by decide +kernel
theorem dX9_stream_117 : decode cX9_stream 117 = .ok (.ireturn, 1) := by decide +kernel
theorem dX9_parting_0 : decode cX9_parting 0 = .ok (.iload_n 1, 1) := by decide +kernel
theorem dX9_parting_1 : decode cX9_parting 1 = .ok (.invokestatic 58, 3) := by decide +kernel
theorem dX9_parting_4 : decode cX9_parting 4 = .ok (.ifCond .eq 10, 3) := by decide +kernel
theorem dX9_parting_7 : decode cX9_parting 7 = .ok (.iload_n 2, 1) := by decide +kernel
theorem dX9_parting_8 : decode cX9_parting 8 = .ok (.invokestatic 58, 3) := by decide +kernel
theorem dX9_parting_11 : decode cX9_parting 11 = .ok (.ifCond .ne 5, 3) := by decide +kernel
theorem dX9_parting_14 : decode cX9_parting 14 = .ok (.iconst (-1), 1) := by decide +kernel
theorem dX9_parting_15 : decode cX9_parting 15 = .ok (.ireturn, 1) := by decide +kernel
theorem dX9_parting_16 : decode cX9_parting 16 = .ok (.aload_n 0, 1) := by decide +kernel
theorem dX9_parting_17 : decode cX9_parting 17 = .ok (.invokevirtual 145, 3) := by decide +kernel
theorem dX9_parting_20 : decode cX9_parting 20 = .ok (.astore_n 3, 1) := by decide +kernel
theorem dX9_parting_21 : decode cX9_parting 21 = .ok (.aload_n 3, 1) := by decide +kernel
theorem dX9_parting_22 : decode cX9_parting 22 = .ok (.iload_n 1, 1) := by decide +kernel
theorem dX9_parting_23 : decode cX9_parting 23 = .ok (.invokevirtual 176, 3) := by decide +kernel
theorem dX9_parting_26 : decode cX9_parting 26 = .ok (.aload_n 3, 1) := by decide +kernel
theorem dX9_parting_27 : decode cX9_parting 27 = .ok (.iload_n 2, 1) := by decide +kernel
theorem dX9_parting_28 : decode cX9_parting 28 = .ok (.invokevirtual 176, 3) := by decide +kernel
theorem dX9_parting_31 : decode cX9_parting 31 = .ok (.aload_n 3, 1) := by decide +kernel
theorem dX9_parting_32 : decode cX9_parting 32 = .ok (.iload_n 1, 1) := by decide +kernel
theorem dX9_parting_33 : decode cX9_parting 33 = .ok (.iload_n 2, 1) := by decide +kernel
theorem dX9_parting_34 : decode cX9_parting 34 = .ok (.invokevirtual 179, 3) := by decide +kernel
theorem dX9_parting_37 : decode cX9_parting 37 = .ok (.ireturn, 1) := by decide +kernel
theorem dX9_alike_0 : decode cX9_alike 0 = .ok (.iload_n 1, 1) := by decide +kernel
theorem dX9_alike_1 : decode cX9_alike 1 = .ok (.invokestatic 58, 3) := by decide +kernel
theorem dX9_alike_4 : decode cX9_alike 4 = .ok (.ifCond .ne 5, 3) := by decide +kernel
theorem dX9_alike_7 : decode cX9_alike 7 = .ok (.iconst (-1), 1) := by decide +kernel
theorem dX9_alike_8 : decode cX9_alike 8 = .ok (.ireturn, 1) := by decide +kernel
theorem dX9_alike_9 : decode cX9_alike 9 = .ok (.aload_n 0, 1) := by decide +kernel
theorem dX9_alike_10 : decode cX9_alike 10 = .ok (.invokevirtual 145, 3) := by decide +kernel
theorem dX9_alike_13 : decode cX9_alike 13 = .ok (.astore_n 2, 1) := by decide +kernel
theorem dX9_alike_14 : decode cX9_alike 14 = .ok (.iconst 0, 1) := by decide +kernel
theorem dX9_alike_15 : decode cX9_alike 15 = .ok (.istore_n 3, 1) := by decide +kernel
theorem dX9_alike_16 : decode cX9_alike 16 = .ok (.iload_n 3, 1) := by decide +kernel
theorem dX9_alike_17 : decode cX9_alike 17 = .ok (.bipush 8, 2) := by decide +kernel
theorem dX9_alike_19 : decode cX9_alike 19 = .ok (.if_icmp .ge 14, 3) := by decide +kernel
theorem dX9_alike_22 : decode cX9_alike 22 = .ok (.aload_n 2, 1) := by decide +kernel
theorem dX9_alike_23 : decode cX9_alike 23 = .ok (.iload_n 3, 1) := by decide +kernel
theorem dX9_alike_24 : decode cX9_alike 24 = .ok (.invokevirtual 176, 3) := by decide +kernel
theorem dX9_alike_27 : decode cX9_alike 27 = .ok (.iinc 3 1, 3) := by decide +kernel
theorem dX9_alike_30 : decode cX9_alike 30 = .ok (.goto (-14), 3) := by decide +kernel
theorem dX9_alike_33 : decode cX9_alike 33 = .ok (.aload_n 2, 1) := by decide +kernel
theorem dX9_alike_34 : decode cX9_alike 34 = .ok (.iload_n 1, 1) := by decide +kernel
theorem dX9_alike_35 : decode cX9_alike 35 = .ok (.invokevirtual 182, 3) := by decide +kernel
theorem dX9_alike_38 : decode cX9_alike 38 = .ok (.ireturn, 1) := by decide +kernel
theorem dX9_needs_0 : decode cX9_needs 0 = .ok (.iload_n 1, 1) := by decide +kernel
theorem dX9_needs_1 : decode cX9_needs 1 = .ok (.invokestatic 58, 3) := by decide +kernel
theorem dX9_needs_4 : decode cX9_needs 4 = .ok (.ifCond .eq 19, 3) := by decide +kernel
theorem dX9_needs_7 : decode cX9_needs 7 = .ok (.iload_n 2, 1) := by decide +kernel
theorem dX9_needs_8 : decode cX9_needs 8 = .ok (.invokestatic 142, 3) := by decide +kernel
theorem dX9_needs_11 : decode cX9_needs 11 = .ok (.ifCond .eq 12, 3) := by decide +kernel
theorem dX9_needs_14 : decode cX9_needs 14 = .ok (.iload_n 3, 1) := by decide +kernel
theorem dX9_needs_15 : decode cX9_needs 15 = .ok (.ifCond .lt 8, 3) := by decide +kernel
theorem dX9_needs_18 : decode cX9_needs 18 = .ok (.iload_n 3, 1) := by decide +kernel
theorem dX9_needs_19 : decode cX9_needs 19 = .ok (.iconst 3, 1) := by decide +kernel
theorem dX9_needs_20 : decode cX9_needs 20 = .ok (.if_icmp .le 5, 3) := by decide +kernel
theorem dX9_needs_23 : decode cX9_needs 23 = .ok (.iconst (-1), 1) := by decide +kernel
theorem dX9_needs_24 : decode cX9_needs 24 = .ok (.ireturn, 1) := by decide +kernel
theorem dX9_needs_25 : decode cX9_needs 25 = .ok (.aload_n 0, 1) := by decide +kernel
theorem dX9_needs_26 : decode cX9_needs 26 = .ok (.invokevirtual 145, 3) := by decide +kernel
theorem dX9_needs_29 : decode cX9_needs 29 = .ok (.astore 4, 2) := by decide +kernel
theorem dX9_needs_31 : decode cX9_needs 31 = .ok (.aload 4, 2) := by decide +kernel
theorem dX9_needs_33 : decode cX9_needs 33 = .ok (.iload_n 1, 1) := by decide +kernel
theorem dX9_needs_34 : decode cX9_needs 34 = .ok (.iload_n 2, 1) := by decide +kernel
theorem dX9_needs_35 : decode cX9_needs 35 = .ok (.invokevirtual 149, 3) := by decide +kernel
theorem dX9_needs_38 : decode cX9_needs 38 = .ok (.aload 4, 2) := by decide +kernel
theorem dX9_needs_40 : decode cX9_needs 40 = .ok (.iload_n 1, 1) := by decide +kernel
theorem dX9_needs_41 : decode cX9_needs 41 = .ok (.iload_n 2, 1) := by decide +kernel
theorem dX9_needs_42 : decode cX9_needs 42 = .ok (.invokevirtual 153, 3) := by decide +kernel
theorem dX9_needs_45 : decode cX9_needs 45 = .ok (.bipush (-9), 2) := by decide +kernel
theorem dX9_needs_47 : decode cX9_needs 47 = .ok (.if_icmp .ne 6, 3) := by decide +kernel
theorem dX9_needs_50 : decode cX9_needs 50 = .ok (.bipush (-9), 2) := by decide +kernel
theorem dX9_needs_52 : decode cX9_needs 52 = .ok (.ireturn, 1) := by decide +kernel
theorem dX9_needs_53 : decode cX9_needs 53 = .ok (.iload_n 3, 1) := by decide +kernel
theorem dX9_needs_54 : decode cX9_needs 54 = .ok (.iconst 1, 1) := by decide +kernel
theorem dX9_needs_55 : decode cX9_needs 55 = .ok (.if_icmp .ne 11, 3) := by decide +kernel
theorem dX9_needs_58 : decode cX9_needs 58 = .ok (.aload 4, 2) := by decide +kernel
theorem dX9_needs_60 : decode cX9_needs 60 = .ok (.iload_n 1, 1) := by decide +kernel
theorem dX9_needs_61 : decode cX9_needs 61 = .ok (.iload_n 2, 1) := by decide +kernel
theorem dX9_needs_62 : decode cX9_needs 62 = .ok (.invokevirtual 185, 3) := by decide +kernel
theorem dX9_needs_65 : decode cX9_needs 65 = .ok (.ireturn, 1) := by decide +kernel
theorem dX9_needs_66 : decode cX9_needs 66 = .ok (.aload 4, 2) := by decide +kernel
theorem dX9_needs_68 : decode cX9_needs 68 = .ok (.iload_n 1, 1) := by decide +kernel
theorem dX9_needs_69 : decode cX9_needs 69 = .ok (.iload_n 2, 1) := by decide +kernel
theorem dX9_needs_70 : decode cX9_needs 70 = .ok (.invokevirtual 188, 3) := by decide +kernel
theorem dX9_needs_73 : decode cX9_needs 73 = .ok (.istore 5, 2) := by decide +kernel
theorem dX9_needs_75 : decode cX9_needs 75 = .ok (.iload_n 3, 1) := by decide +kernel
theorem dX9_needs_76 : decode cX9_needs 76 = .ok (.lookupswitch 41 #[(0, 28), (2, 31)], 28) := by decide +kernel
theorem dX9_needs_104 : decode cX9_needs 104 = .ok (.iload 5, 2) := by decide +kernel
theorem dX9_needs_106 : decode cX9_needs 106 = .ok (.ireturn, 1) := by decide +kernel
theorem dX9_needs_107 : decode cX9_needs 107 = .ok (.aload_n 0, 1) := by decide +kernel
theorem dX9_needs_108 : decode cX9_needs 108 = .ok (.invokevirtual 191, 3) := by decide +kernel
theorem dX9_needs_111 : decode cX9_needs 111 = .ok (.iload 5, 2) := by decide +kernel
theorem dX9_needs_113 : decode cX9_needs 113 = .ok (.invokevirtual 195, 3) := by decide +kernel
theorem dX9_needs_116 : decode cX9_needs 116 = .ok (.ireturn, 1) := by decide +kernel
theorem dX9_needs_117 : decode cX9_needs 117 = .ok (.aload_n 0, 1) := by decide +kernel
theorem dX9_needs_118 : decode cX9_needs 118 = .ok (.invokevirtual 191, 3) := by decide +kernel
theorem dX9_needs_121 : decode cX9_needs 121 = .ok (.iload 5, 2) := by decide +kernel
theorem dX9_needs_123 : decode cX9_needs 123 = .ok (.invokevirtual 200, 3) := by decide +kernel
theorem dX9_needs_126 : decode cX9_needs 126 = .ok (.ireturn, 1) := by decide +kernel
theorem dX9_keep_0 : decode cX9_keep 0 = .ok (.iload_n 1, 1) := by decide +kernel
theorem dX9_keep_1 : decode cX9_keep 1 = .ok (.invokestatic 203, 3) := by decide +kernel
theorem dX9_keep_4 : decode cX9_keep 4 = .ok (.ifCond .ne 5, 3) := by decide +kernel
theorem dX9_keep_7 : decode cX9_keep 7 = .ok (.iconst (-1), 1) := by decide +kernel
theorem dX9_keep_8 : decode cX9_keep 8 = .ok (.ireturn, 1) := by decide +kernel
theorem dX9_keep_9 : decode cX9_keep 9 = .ok (.aload_n 0, 1) := by decide +kernel
theorem dX9_keep_10 : decode cX9_keep 10 = .ok (.getfield 37, 3) := by decide +kernel
theorem dX9_keep_13 : decode cX9_keep 13 = .ok (.iload_n 1, 1) := by decide +kernel
theorem dX9_keep_14 : decode cX9_keep 14 = .ok (.aaload, 1) := by decide +kernel
theorem dX9_keep_15 : decode cX9_keep 15 = .ok (.astore_n 2, 1) := by decide +kernel
theorem dX9_keep_16 : decode cX9_keep 16 = .ok (.aload_n 2, 1) := by decide +kernel
theorem dX9_keep_17 : decode cX9_keep 17 = .ok (.ifnonnull 18, 3) := by decide +kernel
theorem dX9_keep_20 : decode cX9_keep 20 = .ok (.new 16, 3) := by decide +kernel
theorem dX9_keep_23 : decode cX9_keep 23 = .ok (.dup, 1) := by decide +kernel
theorem dX9_keep_24 : decode cX9_keep 24 = .ok (.invokespecial 18, 3) := by decide +kernel
theorem dX9_keep_27 : decode cX9_keep 27 = .ok (.astore_n 2, 1) := by decide +kernel
theorem dX9_keep_28 : decode cX9_keep 28 = .ok (.aload_n 0, 1) := by decide +kernel
theorem dX9_keep_29 : decode cX9_keep 29 = .ok (.getfield 37, 3) := by decide +kernel
theorem dX9_keep_32 : decode cX9_keep 32 = .ok (.iload_n 1, 1) := by decide +kernel
theorem dX9_keep_33 : decode cX9_keep 33 = .ok (.aload_n 2, 1) := by decide +kernel
theorem dX9_keep_34 : decode cX9_keep 34 = .ok (.aastore, 1) := by decide +kernel
theorem dX9_keep_35 : decode cX9_keep 35 = .ok (.aload_n 2, 1) := by decide +kernel
theorem dX9_keep_36 : decode cX9_keep 36 = .ok (.aload_n 0, 1) := by decide +kernel
theorem dX9_keep_37 : decode cX9_keep 37 = .ok (.getfield 19, 3) := by decide +kernel
theorem dX9_keep_40 : decode cX9_keep 40 = .ok (.invokevirtual 206, 3) := by decide +kernel
theorem dX9_keep_43 : decode cX9_keep 43 = .ok (.aload_n 0, 1) := by decide +kernel
theorem dX9_keep_44 : decode cX9_keep 44 = .ok (.getfield 43, 3) := by decide +kernel
theorem dX9_keep_47 : decode cX9_keep 47 = .ok (.iload_n 1, 1) := by decide +kernel
theorem dX9_keep_48 : decode cX9_keep 48 = .ok (.aaload, 1) := by decide +kernel
theorem dX9_keep_49 : decode cX9_keep 49 = .ok (.astore_n 3, 1) := by decide +kernel
theorem dX9_keep_50 : decode cX9_keep 50 = .ok (.aload_n 3, 1) := by decide +kernel
theorem dX9_keep_51 : decode cX9_keep 51 = .ok (.ifnull 7, 3) := by decide +kernel
theorem dX9_keep_54 : decode cX9_keep 54 = .ok (.aload_n 3, 1) := by decide +kernel
theorem dX9_keep_55 : decode cX9_keep 55 = .ok (.invokevirtual 209, 3) := by decide +kernel
theorem dX9_keep_58 : decode cX9_keep 58 = .ok (.aload_n 2, 1) := by decide +kernel
theorem dX9_keep_59 : decode cX9_keep 59 = .ok (.invokevirtual 110, 3) := by decide +kernel
theorem dX9_keep_62 : decode cX9_keep 62 = .ok (.ireturn, 1) := by decide +kernel
theorem dX9_back_0 : decode cX9_back 0 = .ok (.iload_n 1, 1) := by decide +kernel
theorem dX9_back_1 : decode cX9_back 1 = .ok (.invokestatic 203, 3) := by decide +kernel
theorem dX9_back_4 : decode cX9_back 4 = .ok (.ifCond .ne 5, 3) := by decide +kernel
theorem dX9_back_7 : decode cX9_back 7 = .ok (.iconst (-1), 1) := by decide +kernel
theorem dX9_back_8 : decode cX9_back 8 = .ok (.ireturn, 1) := by decide +kernel
theorem dX9_back_9 : decode cX9_back 9 = .ok (.aload_n 0, 1) := by decide +kernel
theorem dX9_back_10 : decode cX9_back 10 = .ok (.getfield 37, 3) := by decide +kernel
theorem dX9_back_13 : decode cX9_back 13 = .ok (.iload_n 1, 1) := by decide +kernel
theorem dX9_back_14 : decode cX9_back 14 = .ok (.aaload, 1) := by decide +kernel
theorem dX9_back_15 : decode cX9_back 15 = .ok (.astore_n 2, 1) := by decide +kernel
theorem dX9_back_16 : decode cX9_back 16 = .ok (.aload_n 2, 1) := by decide +kernel
theorem dX9_back_17 : decode cX9_back 17 = .ok (.ifnonnull 6, 3) := by decide +kernel
theorem dX9_back_20 : decode cX9_back 20 = .ok (.bipush (-2), 2) := by decide +kernel
theorem dX9_back_22 : decode cX9_back 22 = .ok (.ireturn, 1) := by decide +kernel
theorem dX9_back_23 : decode cX9_back 23 = .ok (.aload_n 0, 1) := by decide +kernel
theorem dX9_back_24 : decode cX9_back 24 = .ok (.invokevirtual 66, 3) := by decide +kernel
theorem dX9_back_27 : decode cX9_back 27 = .ok (.aload_n 0, 1) := by decide +kernel
theorem dX9_back_28 : decode cX9_back 28 = .ok (.getfield 19, 3) := by decide +kernel
theorem dX9_back_31 : decode cX9_back 31 = .ok (.aload_n 2, 1) := by decide +kernel
theorem dX9_back_32 : decode cX9_back 32 = .ok (.invokevirtual 206, 3) := by decide +kernel
theorem dX9_back_35 : decode cX9_back 35 = .ok (.aload_n 0, 1) := by decide +kernel
theorem dX9_back_36 : decode cX9_back 36 = .ok (.getfield 19, 3) := by decide +kernel
theorem dX9_back_39 : decode cX9_back 39 = .ok (.invokevirtual 110, 3) := by decide +kernel
theorem dX9_back_42 : decode cX9_back 42 = .ok (.ireturn, 1) := by decide +kernel
theorem dX9_changed_0 : decode cX9_changed 0 = .ok (.iload_n 1, 1) := by decide +kernel
theorem dX9_changed_1 : decode cX9_changed 1 = .ok (.invokestatic 58, 3) := by decide +kernel
theorem dX9_changed_4 : decode cX9_changed 4 = .ok (.ifCond .eq 10, 3) := by decide +kernel
theorem dX9_changed_7 : decode cX9_changed 7 = .ok (.iload_n 2, 1) := by decide +kernel
theorem dX9_changed_8 : decode cX9_changed 8 = .ok (.invokestatic 203, 3) := by decide +kernel
theorem dX9_changed_11 : decode cX9_changed 11 = .ok (.ifCond .ne 5, 3) := by decide +kernel
theorem dX9_changed_14 : decode cX9_changed 14 = .ok (.iconst (-1), 1) := by decide +kernel
theorem dX9_changed_15 : decode cX9_changed 15 = .ok (.ireturn, 1) := by decide +kernel
theorem dX9_changed_16 : decode cX9_changed 16 = .ok (.aload_n 0, 1) := by decide +kernel
theorem dX9_changed_17 : decode cX9_changed 17 = .ok (.getfield 37, 3) := by decide +kernel
theorem dX9_changed_20 : decode cX9_changed 20 = .ok (.iload_n 2, 1) := by decide +kernel
theorem dX9_changed_21 : decode cX9_changed 21 = .ok (.aaload, 1) := by decide +kernel
theorem dX9_changed_22 : decode cX9_changed 22 = .ok (.astore_n 3, 1) := by decide +kernel
theorem dX9_changed_23 : decode cX9_changed 23 = .ok (.aload_n 3, 1) := by decide +kernel
theorem dX9_changed_24 : decode cX9_changed 24 = .ok (.ifnonnull 6, 3) := by decide +kernel
theorem dX9_changed_27 : decode cX9_changed 27 = .ok (.bipush (-2), 2) := by decide +kernel
theorem dX9_changed_29 : decode cX9_changed 29 = .ok (.ireturn, 1) := by decide +kernel
theorem dX9_changed_30 : decode cX9_changed 30 = .ok (.aload_n 0, 1) := by decide +kernel
theorem dX9_changed_31 : decode cX9_changed 31 = .ok (.getfield 43, 3) := by decide +kernel
theorem dX9_changed_34 : decode cX9_changed 34 = .ok (.iload_n 2, 1) := by decide +kernel
theorem dX9_changed_35 : decode cX9_changed 35 = .ok (.aaload, 1) := by decide +kernel
theorem dX9_changed_36 : decode cX9_changed 36 = .ok (.astore 4, 2) := by decide +kernel
theorem dX9_changed_38 : decode cX9_changed 38 = .ok (.aload 4, 2) := by decide +kernel
theorem dX9_changed_40 : decode cX9_changed 40 = .ok (.ifnonnull 25, 3) := by decide +kernel
theorem dX9_changed_43 : decode cX9_changed 43 = .ok (.new 41, 3) := by decide +kernel
theorem dX9_changed_46 : decode cX9_changed 46 = .ok (.dup, 1) := by decide +kernel
theorem dX9_changed_47 : decode cX9_changed 47 = .ok (.aload_n 3, 1) := by decide +kernel
theorem dX9_changed_48 : decode cX9_changed 48 = .ok (.aload_n 0, 1) := by decide +kernel
theorem dX9_changed_49 : decode cX9_changed 49 = .ok (.invokevirtual 191, 3) := by decide +kernel
theorem dX9_changed_52 : decode cX9_changed 52 = .ok (.invokespecial 212, 3) := by decide +kernel
theorem dX9_changed_55 : decode cX9_changed 55 = .ok (.astore 4, 2) := by decide +kernel
theorem dX9_changed_57 : decode cX9_changed 57 = .ok (.aload_n 0, 1) := by decide +kernel
theorem dX9_changed_58 : decode cX9_changed 58 = .ok (.getfield 43, 3) := by decide +kernel
theorem dX9_changed_61 : decode cX9_changed 61 = .ok (.iload_n 2, 1) := by decide +kernel
theorem dX9_changed_62 : decode cX9_changed 62 = .ok (.aload 4, 2) := by decide +kernel
theorem dX9_changed_64 : decode cX9_changed 64 = .ok (.aastore, 1) := by decide +kernel
theorem dX9_changed_65 : decode cX9_changed 65 = .ok (.aload_n 0, 1) := by decide +kernel
theorem dX9_changed_66 : decode cX9_changed 66 = .ok (.invokevirtual 145, 3) := by decide +kernel
theorem dX9_changed_69 : decode cX9_changed 69 = .ok (.astore 5, 2) := by decide +kernel
theorem dX9_changed_71 : decode cX9_changed 71 = .ok (.aload 5, 2) := by decide +kernel
theorem dX9_changed_73 : decode cX9_changed 73 = .ok (.iload_n 1, 1) := by decide +kernel
theorem dX9_changed_74 : decode cX9_changed 74 = .ok (.invokevirtual 176, 3) := by decide +kernel
theorem dX9_changed_77 : decode cX9_changed 77 = .ok (.aload 4, 2) := by decide +kernel
theorem dX9_changed_79 : decode cX9_changed 79 = .ok (.iload_n 1, 1) := by decide +kernel
theorem dX9_changed_80 : decode cX9_changed 80 = .ok (.invokevirtual 176, 3) := by decide +kernel
theorem dX9_changed_83 : decode cX9_changed 83 = .ok (.aload 5, 2) := by decide +kernel
theorem dX9_changed_85 : decode cX9_changed 85 = .ok (.aload 4, 2) := by decide +kernel
theorem dX9_changed_87 : decode cX9_changed 87 = .ok (.iload_n 1, 1) := by decide +kernel
theorem dX9_changed_88 : decode cX9_changed 88 = .ok (.invokevirtual 215, 3) := by decide +kernel
theorem dX9_changed_91 : decode cX9_changed 91 = .ok (.ireturn, 1) := by decide +kernel
theorem dX9_isStream_0 : decode cX9_isStream 0 = .ok (.iload_n 0, 1) := by decide +kernel
theorem dX9_isStream_1 : decode cX9_isStream 1 = .ok (.ifCond .lt 13, 3) := by decide +kernel
theorem dX9_isStream_4 : decode cX9_isStream 4 = .ok (.iload_n 0, 1) := by decide +kernel
theorem dX9_isStream_5 : decode cX9_isStream 5 = .ok (.bipush 8, 2) := by decide +kernel
theorem dX9_isStream_7 : decode cX9_isStream 7 = .ok (.if_icmp .ge 7, 3) := by decide +kernel
theorem dX9_isStream_10 : decode cX9_isStream 10 = .ok (.iconst 1, 1) := by decide +kernel
theorem dX9_isStream_11 : decode cX9_isStream 11 = .ok (.goto 4, 3) := by decide +kernel
theorem dX9_isStream_14 : decode cX9_isStream 14 = .ok (.iconst 0, 1) := by decide +kernel
theorem dX9_isStream_15 : decode cX9_isStream 15 = .ok (.ireturn, 1) := by decide +kernel
theorem dX9_isIndex_0 : decode cX9_isIndex 0 = .ok (.iload_n 0, 1) := by decide +kernel
theorem dX9_isIndex_1 : decode cX9_isIndex 1 = .ok (.ifCond .lt 14, 3) := by decide +kernel
theorem dX9_isIndex_4 : decode cX9_isIndex 4 = .ok (.iload_n 0, 1) := by decide +kernel
theorem dX9_isIndex_5 : decode cX9_isIndex 5 = .ok (.sipush 400, 3) := by decide +kernel
theorem dX9_isIndex_8 : decode cX9_isIndex 8 = .ok (.if_icmp .ge 7, 3) := by decide +kernel
theorem dX9_isIndex_11 : decode cX9_isIndex 11 = .ok (.iconst 1, 1) := by decide +kernel
theorem dX9_isIndex_12 : decode cX9_isIndex 12 = .ok (.goto 4, 3) := by decide +kernel
theorem dX9_isIndex_15 : decode cX9_isIndex 15 = .ok (.iconst 0, 1) := by decide +kernel
theorem dX9_isIndex_16 : decode cX9_isIndex 16 = .ok (.ireturn, 1) := by decide +kernel
theorem dX9_isImage_0 : decode cX9_isImage 0 = .ok (.iload_n 0, 1) := by decide +kernel
theorem dX9_isImage_1 : decode cX9_isImage 1 = .ok (.ifCond .lt 12, 3) := by decide +kernel
theorem dX9_isImage_4 : decode cX9_isImage 4 = .ok (.iload_n 0, 1) := by decide +kernel
theorem dX9_isImage_5 : decode cX9_isImage 5 = .ok (.iconst 2, 1) := by decide +kernel
theorem dX9_isImage_6 : decode cX9_isImage 6 = .ok (.if_icmp .ge 7, 3) := by decide +kernel
theorem dX9_isImage_9 : decode cX9_isImage 9 = .ok (.iconst 1, 1) := by decide +kernel
theorem dX9_isImage_10 : decode cX9_isImage 10 = .ok (.goto 4, 3) := by decide +kernel
theorem dX9_isImage_13 : decode cX9_isImage 13 = .ok (.iconst 0, 1) := by decide +kernel
theorem dX9_isImage_14 : decode cX9_isImage 14 = .ok (.ireturn, 1) := by decide +kernel
theorem dX9_countFull_0 : decode cX9_countFull 0 = .ok (.aload_n 0, 1) := by decide +kernel
theorem dX9_countFull_1 : decode cX9_countFull 1 = .ok (.invokevirtual 145, 3) := by decide +kernel
theorem dX9_countFull_4 : decode cX9_countFull 4 = .ok (.astore_n 1, 1) := by decide +kernel
theorem dX9_countFull_5 : decode cX9_countFull 5 = .ok (.iconst 0, 1) := by decide +kernel
theorem dX9_countFull_6 : decode cX9_countFull 6 = .ok (.istore_n 2, 1) := by decide +kernel
theorem dX9_countFull_7 : decode cX9_countFull 7 = .ok (.iconst 0, 1) := by decide +kernel
theorem dX9_countFull_8 : decode cX9_countFull 8 = .ok (.istore_n 3, 1) := by decide +kernel
theorem dX9_countFull_9 : decode cX9_countFull 9 = .ok (.iload_n 3, 1) := by decide +kernel
theorem dX9_countFull_10 : decode cX9_countFull 10 = .ok (.bipush 8, 2) := by decide +kernel
theorem dX9_countFull_12 : decode cX9_countFull 12 = .ok (.if_icmp .ge 28, 3) := by decide +kernel
theorem dX9_countFull_15 : decode cX9_countFull 15 = .ok (.aload_n 1, 1) := by decide +kernel
theorem dX9_countFull_16 : decode cX9_countFull 16 = .ok (.iload_n 3, 1) := by decide +kernel
theorem dX9_countFull_17 : decode cX9_countFull 17 = .ok (.invokevirtual 157, 3) := by decide +kernel
theorem dX9_countFull_20 : decode cX9_countFull 20 = .ok (.aload_n 1, 1) := by decide +kernel
theorem dX9_countFull_21 : decode cX9_countFull 21 = .ok (.iload_n 3, 1) := by decide +kernel
theorem dX9_countFull_22 : decode cX9_countFull 22 = .ok (.invokevirtual 161, 3) := by decide +kernel
theorem dX9_countFull_25 : decode cX9_countFull 25 = .ok (.sipush 400, 3) := by decide +kernel
theorem dX9_countFull_28 : decode cX9_countFull 28 = .ok (.if_icmp .ne 6, 3) := by decide +kernel
theorem dX9_countFull_31 : decode cX9_countFull 31 = .ok (.iinc 2 1, 3) := by decide +kernel
theorem dX9_countFull_34 : decode cX9_countFull 34 = .ok (.iinc 3 1, 3) := by decide +kernel
theorem dX9_countFull_37 : decode cX9_countFull 37 = .ok (.goto (-28), 3) := by decide +kernel
theorem dX9_countFull_40 : decode cX9_countFull 40 = .ok (.iload_n 2, 1) := by decide +kernel
theorem dX9_countFull_41 : decode cX9_countFull 41 = .ok (.ireturn, 1) := by decide +kernel
theorem dX9_beginChange_0 : decode cX9_beginChange 0 = .ok (.aload_n 0, 1) := by decide +kernel
theorem dX9_beginChange_1 : decode cX9_beginChange 1 = .ok (.getfield 26, 3) := by decide +kernel
theorem dX9_beginChange_4 : decode cX9_beginChange 4 = .ok (.aload_n 0, 1) := by decide +kernel
theorem dX9_beginChange_5 : decode cX9_beginChange 5 = .ok (.getfield 19, 3) := by decide +kernel
theorem dX9_beginChange_8 : decode cX9_beginChange 8 = .ok (.invokevirtual 219, 3) := by decide +kernel
theorem dX9_beginChange_11 : decode cX9_beginChange 11 = .ok (.aload_n 0, 1) := by decide +kernel
theorem dX9_beginChange_12 : decode cX9_beginChange 12 = .ok (.invokevirtual 107, 3) := by decide +kernel
theorem dX9_beginChange_15 : decode cX9_beginChange 15 = .ok (.return_, 1) := by decide +kernel
theorem dX9_forgetPresentValues_0 : decode cX9_forgetPresentValues 0 = .ok (.aload_n 0, 1) := by decide +kernel
theorem dX9_forgetPresentValues_1 : decode cX9_forgetPresentValues 1 = .ok (.getfield 222, 3) := by decide +kernel
theorem dX9_forgetPresentValues_4 : decode cX9_forgetPresentValues 4 = .ok (.ifnull 10, 3) := by decide +kernel
theorem dX9_forgetPresentValues_7 : decode cX9_forgetPresentValues 7 = .ok (.aload_n 0, 1) := by decide +kernel
theorem dX9_forgetPresentValues_8 : decode cX9_forgetPresentValues 8 = .ok (.getfield 222, 3) := by decide +kernel
theorem dX9_forgetPresentValues_11 : decode cX9_forgetPresentValues 11 = .ok (.invokevirtual 209, 3) := by decide +kernel
theorem dX9_forgetPresentValues_14 : decode cX9_forgetPresentValues 14 = .ok (.return_, 1) := by decide +kernel
theorem dX9_sharedWorkspace_0 : decode cX9_sharedWorkspace 0 = .ok (.aload_n 0, 1) := by decide +kernel
theorem dX9_sharedWorkspace_1 : decode cX9_sharedWorkspace 1 = .ok (.getfield 226, 3) := by decide +kernel
theorem dX9_sharedWorkspace_4 : decode cX9_sharedWorkspace 4 = .ok (.ifnonnull 14, 3) := by decide +kernel
theorem dX9_sharedWorkspace_7 : decode cX9_sharedWorkspace 7 = .ok (.aload_n 0, 1) := by decide +kernel
theorem dX9_sharedWorkspace_8 : decode cX9_sharedWorkspace 8 = .ok (.new 196, 3) := by decide +kernel
theorem dX9_sharedWorkspace_11 : decode cX9_sharedWorkspace 11 = .ok (.dup, 1) := by decide +kernel
theorem dX9_sharedWorkspace_12 : decode cX9_sharedWorkspace 12 = .ok (.invokespecial 230, 3) := by decide +kernel
theorem dX9_sharedWorkspace_15 : decode cX9_sharedWorkspace 15 = .ok (.putfield 226, 3) := by decide +kernel
theorem dX9_sharedWorkspace_18 : decode cX9_sharedWorkspace 18 = .ok (.aload_n 0, 1) := by decide +kernel
theorem dX9_sharedWorkspace_19 : decode cX9_sharedWorkspace 19 = .ok (.getfield 226, 3) := by decide +kernel
theorem dX9_sharedWorkspace_22 : decode cX9_sharedWorkspace 22 = .ok (.areturn, 1) := by decide +kernel
theorem dX9_valuesNow_0 : decode cX9_valuesNow 0 = .ok (.aload_n 0, 1) := by decide +kernel
theorem dX9_valuesNow_1 : decode cX9_valuesNow 1 = .ok (.getfield 222, 3) := by decide +kernel
theorem dX9_valuesNow_4 : decode cX9_valuesNow 4 = .ok (.ifnonnull 22, 3) := by decide +kernel
theorem dX9_valuesNow_7 : decode cX9_valuesNow 7 = .ok (.aload_n 0, 1) := by decide +kernel
theorem dX9_valuesNow_8 : decode cX9_valuesNow 8 = .ok (.new 41, 3) := by decide +kernel
theorem dX9_valuesNow_11 : decode cX9_valuesNow 11 = .ok (.dup, 1) := by decide +kernel
theorem dX9_valuesNow_12 : decode cX9_valuesNow 12 = .ok (.aload_n 0, 1) := by decide +kernel
theorem dX9_valuesNow_13 : decode cX9_valuesNow 13 = .ok (.getfield 19, 3) := by decide +kernel
theorem dX9_valuesNow_16 : decode cX9_valuesNow 16 = .ok (.aload_n 0, 1) := by decide +kernel
theorem dX9_valuesNow_17 : decode cX9_valuesNow 17 = .ok (.invokevirtual 191, 3) := by decide +kernel
theorem dX9_valuesNow_20 : decode cX9_valuesNow 20 = .ok (.invokespecial 212, 3) := by decide +kernel
theorem dX9_valuesNow_23 : decode cX9_valuesNow 23 = .ok (.putfield 222, 3) := by decide +kernel
theorem dX9_valuesNow_26 : decode cX9_valuesNow 26 = .ok (.aload_n 0, 1) := by decide +kernel
theorem dX9_valuesNow_27 : decode cX9_valuesNow 27 = .ok (.getfield 222, 3) := by decide +kernel
theorem dX9_valuesNow_30 : decode cX9_valuesNow 30 = .ok (.areturn, 1) := by decide +kernel
theorem dX10_init_0 : decode cX10_init 0 = .ok (.aload_n 0, 1) := by decide +kernel
theorem dX10_init_1 : decode cX10_init 1 = .ok (.invokespecial 1, 3) := by decide +kernel
theorem dX10_init_4 : decode cX10_init 4 = .ok (.aload_n 0, 1) := by decide +kernel
theorem dX10_init_5 : decode cX10_init 5 = .ok (.sipush 2001, 3) := by decide +kernel
theorem dX10_init_8 : decode cX10_init 8 = .ok (.newarray .int, 2) := by decide +kernel
theorem dX10_init_10 : decode cX10_init 10 = .ok (.putfield 7, 3) := by decide +kernel
theorem dX10_init_13 : decode cX10_init 13 = .ok (.aload_n 0, 1) := by decide +kernel
theorem dX10_init_14 : decode cX10_init 14 = .ok (.sipush 16008, 3) := by decide +kernel
theorem dX10_init_17 : decode cX10_init 17 = .ok (.newarray .int, 2) := by decide +kernel
theorem dX10_init_19 : decode cX10_init 19 = .ok (.putfield 13, 3) := by decide +kernel
theorem dX10_init_22 : decode cX10_init 22 = .ok (.aload_n 0, 1) := by decide +kernel
theorem dX10_init_23 : decode cX10_init 23 = .ok (.sipush 4002, 3) := by decide +kernel
theorem dX10_init_26 : decode cX10_init 26 = .ok (.newarray .int, 2) := by decide +kernel
theorem dX10_init_28 : decode cX10_init 28 = .ok (.putfield 16, 3) := by decide +kernel
theorem dX10_init_31 : decode cX10_init 31 = .ok (.aload_n 0, 1) := by decide +kernel
theorem dX10_init_32 : decode cX10_init 32 = .ok (.bipush 80, 2) := by decide +kernel
theorem dX10_init_34 : decode cX10_init 34 = .ok (.newarray .int, 2) := by decide +kernel
theorem dX10_init_36 : decode cX10_init 36 = .ok (.putfield 19, 3) := by decide +kernel
theorem dX10_init_39 : decode cX10_init 39 = .ok (.aload_n 0, 1) := by decide +kernel
theorem dX10_init_40 : decode cX10_init 40 = .ok (.bipush 80, 2) := by decide +kernel
theorem dX10_init_42 : decode cX10_init 42 = .ok (.newarray .int, 2) := by decide +kernel
theorem dX10_init_44 : decode cX10_init 44 = .ok (.putfield 22, 3) := by decide +kernel
theorem dX10_init_47 : decode cX10_init 47 = .ok (.aload_n 0, 1) := by decide +kernel
theorem dX10_init_48 : decode cX10_init 48 = .ok (.sipush 500, 3) := by decide +kernel
theorem dX10_init_51 : decode cX10_init 51 = .ok (.newarray .int, 2) := by decide +kernel
theorem dX10_init_53 : decode cX10_init 53 = .ok (.putfield 25, 3) := by decide +kernel
theorem dX10_init_56 : decode cX10_init 56 = .ok (.aload_n 0, 1) := by decide +kernel
theorem dX10_init_57 : decode cX10_init 57 = .ok (.sipush 500, 3) := by decide +kernel
theorem dX10_init_60 : decode cX10_init 60 = .ok (.newarray .int, 2) := by decide +kernel
theorem dX10_init_62 : decode cX10_init 62 = .ok (.putfield 28, 3) := by decide +kernel
theorem dX10_init_65 : decode cX10_init 65 = .ok (.aload_n 0, 1) := by decide +kernel
theorem dX10_init_66 : decode cX10_init 66 = .ok (.sipush 3200, 3) := by decide +kernel
theorem dX10_init_69 : decode cX10_init 69 = .ok (.newarray .int, 2) := by decide +kernel
theorem dX10_init_71 : decode cX10_init 71 = .ok (.putfield 31, 3) := by decide +kernel
theorem dX10_init_74 : decode cX10_init 74 = .ok (.aload_n 0, 1) := by decide +kernel
theorem dX10_init_75 : decode cX10_init 75 = .ok (.sipush 3200, 3) := by decide +kernel
theorem dX10_init_78 : decode cX10_init 78 = .ok (.newarray .int, 2) := by decide +kernel
theorem dX10_init_80 : decode cX10_init 80 = .ok (.putfield 34, 3) := by decide +kernel
theorem dX10_init_83 : decode cX10_init 83 = .ok (.aload_n 0, 1) := by decide +kernel
theorem dX10_init_84 : decode cX10_init 84 = .ok (.sipush 130, 3) := by decide +kernel
theorem dX10_init_87 : decode cX10_init 87 = .ok (.newarray .int, 2) := by decide +kernel
end
section
theorem dX10_init_89 : decode cX10_init 89 = .ok (.putfield 37, 3) := by decide +kernel
theorem dX10_init_92 : decode cX10_init 92 = .ok (.aload_n 0, 1) := by decide +kernel
theorem dX10_init_93 : decode cX10_init 93 = .ok (.sipush 130, 3) := by decide +kernel
theorem dX10_init_96 : decode cX10_init 96 = .ok (.newarray .int, 2) := by decide +kernel
theorem dX10_init_98 : decode cX10_init 98 = .ok (.putfield 40, 3) := by decide +kernel
theorem dX10_init_101 : decode cX10_init 101 = .ok (.aload_n 0, 1) := by decide +kernel
theorem dX10_init_102 : decode cX10_init 102 = .ok (.sipush 130, 3) := by decide +kernel
theorem dX10_init_105 : decode cX10_init 105 = .ok (.newarray .int, 2) := by decide +kernel
theorem dX10_init_107 : decode cX10_init 107 = .ok (.putfield 43, 3) := by decide +kernel
theorem dX10_init_110 : decode cX10_init 110 = .ok (.aload_n 0, 1) := by decide +kernel
theorem dX10_init_111 : decode cX10_init 111 = .ok (.sipush 130, 3) := by decide +kernel
theorem dX10_init_114 : decode cX10_init 114 = .ok (.newarray .int, 2) := by decide +kernel
theorem dX10_init_116 : decode cX10_init 116 = .ok (.putfield 46, 3) := by decide +kernel
theorem dX10_init_119 : decode cX10_init 119 = .ok (.aload_n 0, 1) := by decide +kernel
theorem dX10_init_120 : decode cX10_init 120 = .ok (.sipush 130, 3) := by decide +kernel
theorem dX10_init_123 : decode cX10_init 123 = .ok (.newarray .int, 2) := by decide +kernel
theorem dX10_init_125 : decode cX10_init 125 = .ok (.putfield 49, 3) := by decide +kernel
theorem dX10_init_128 : decode cX10_init 128 = .ok (.aload_n 0, 1) := by decide +kernel
theorem dX10_init_129 : decode cX10_init 129 = .ok (.bipush 64, 2) := by decide +kernel
theorem dX10_init_131 : decode cX10_init 131 = .ok (.newarray .int, 2) := by decide +kernel
theorem dX10_init_133 : decode cX10_init 133 = .ok (.putfield 52, 3) := by decide +kernel
theorem dX10_init_136 : decode cX10_init 136 = .ok (.aload_n 0, 1) := by decide +kernel
theorem dX10_init_137 : decode cX10_init 137 = .ok (.sipush 130, 3) := by decide +kernel
theorem dX10_init_140 : decode cX10_init 140 = .ok (.newarray .int, 2) := by decide +kernel
theorem dX10_init_142 : decode cX10_init 142 = .ok (.putfield 55, 3) := by decide +kernel
theorem dX10_init_145 : decode cX10_init 145 = .ok (.aload_n 0, 1) := by decide +kernel
theorem dX10_init_146 : decode cX10_init 146 = .ok (.sipush 2048, 3) := by decide +kernel
theorem dX10_init_149 : decode cX10_init 149 = .ok (.newarray .int, 2) := by decide +kernel
theorem dX10_init_151 : decode cX10_init 151 = .ok (.putfield 58, 3) := by decide +kernel
theorem dX10_init_154 : decode cX10_init 154 = .ok (.aload_n 0, 1) := by decide +kernel
theorem dX10_init_155 : decode cX10_init 155 = .ok (.sipush 3200, 3) := by decide +kernel
theorem dX10_init_158 : decode cX10_init 158 = .ok (.newarray .boolean, 2) := by decide +kernel
theorem dX10_init_160 : decode cX10_init 160 = .ok (.putfield 61, 3) := by decide +kernel
theorem dX10_init_163 : decode cX10_init 163 = .ok (.aload_n 0, 1) := by decide +kernel
theorem dX10_init_164 : decode cX10_init 164 = .ok (.sipush 3200, 3) := by decide +kernel
theorem dX10_init_167 : decode cX10_init 167 = .ok (.newarray .int, 2) := by decide +kernel
theorem dX10_init_169 : decode cX10_init 169 = .ok (.putfield 65, 3) := by decide +kernel
theorem dX10_init_172 : decode cX10_init 172 = .ok (.aload_n 0, 1) := by decide +kernel
theorem dX10_init_173 : decode cX10_init 173 = .ok (.sipush 2001, 3) := by decide +kernel
theorem dX10_init_176 : decode cX10_init 176 = .ok (.newarray .int, 2) := by decide +kernel
theorem dX10_init_178 : decode cX10_init 178 = .ok (.putfield 68, 3) := by decide +kernel
theorem dX10_init_181 : decode cX10_init 181 = .ok (.aload_n 0, 1) := by decide +kernel
theorem dX10_init_182 : decode cX10_init 182 = .ok (.sipush 400, 3) := by decide +kernel
theorem dX10_init_185 : decode cX10_init 185 = .ok (.newarray .int, 2) := by decide +kernel
theorem dX10_init_187 : decode cX10_init 187 = .ok (.putfield 71, 3) := by decide +kernel
theorem dX10_init_190 : decode cX10_init 190 = .ok (.aload_n 0, 1) := by decide +kernel
theorem dX10_init_191 : decode cX10_init 191 = .ok (.getfield 7, 3) := by decide +kernel
theorem dX10_init_194 : decode cX10_init 194 = .ok (.iconst 0, 1) := by decide +kernel
theorem dX10_init_195 : decode cX10_init 195 = .ok (.iconst 2, 1) := by decide +kernel
theorem dX10_init_196 : decode cX10_init 196 = .ok (.iastore, 1) := by decide +kernel
theorem dX10_init_197 : decode cX10_init 197 = .ok (.return_, 1) := by decide +kernel
theorem dX10_isIn_0 : decode cX10_isIn 0 = .ok (.iload_n 0, 1) := by decide +kernel
theorem dX10_isIn_1 : decode cX10_isIn 1 = .ok (.iload_n 1, 1) := by decide +kernel
theorem dX10_isIn_2 : decode cX10_isIn 2 = .ok (.if_icmp .lt 12, 3) := by decide +kernel
theorem dX10_isIn_5 : decode cX10_isIn 5 = .ok (.iload_n 0, 1) := by decide +kernel
theorem dX10_isIn_6 : decode cX10_isIn 6 = .ok (.iload_n 2, 1) := by decide +kernel
theorem dX10_isIn_7 : decode cX10_isIn 7 = .ok (.if_icmp .gt 7, 3) := by decide +kernel
theorem dX10_isIn_10 : decode cX10_isIn 10 = .ok (.iconst 1, 1) := by decide +kernel
theorem dX10_isIn_11 : decode cX10_isIn 11 = .ok (.goto 4, 3) := by decide +kernel
theorem dX10_isIn_14 : decode cX10_isIn 14 = .ok (.iconst 0, 1) := by decide +kernel
theorem dX10_isIn_15 : decode cX10_isIn 15 = .ok (.ireturn, 1) := by decide +kernel
theorem dX10_isStream_0 : decode cX10_isStream 0 = .ok (.iload_n 0, 1) := by decide +kernel
theorem dX10_isStream_1 : decode cX10_isStream 1 = .ok (.iconst 0, 1) := by decide +kernel
theorem dX10_isStream_2 : decode cX10_isStream 2 = .ok (.bipush 7, 2) := by decide +kernel
theorem dX10_isStream_4 : decode cX10_isStream 4 = .ok (.invokestatic 74, 3) := by decide +kernel
theorem dX10_isStream_7 : decode cX10_isStream 7 = .ok (.ireturn, 1) := by decide +kernel
theorem dX10_begin_0 : decode cX10_begin 0 = .ok (.iconst 2, 1) := by decide +kernel
theorem dX10_begin_1 : decode cX10_begin 1 = .ok (.sipush 250, 3) := by decide +kernel
theorem dX10_begin_4 : decode cX10_begin 4 = .ok (.iload_n 0, 1) := by decide +kernel
theorem dX10_begin_5 : decode cX10_begin 5 = .ok (.imul, 1) := by decide +kernel
theorem dX10_begin_6 : decode cX10_begin 6 = .ok (.iadd, 1) := by decide +kernel
theorem dX10_begin_7 : decode cX10_begin 7 = .ok (.ireturn, 1) := by decide +kernel
theorem dX10_bytes_0 : decode cX10_bytes 0 = .ok (.aload_n 0, 1) := by decide +kernel
theorem dX10_bytes_1 : decode cX10_bytes 1 = .ok (.getfield 7, 3) := by decide +kernel
theorem dX10_bytes_4 : decode cX10_bytes 4 = .ok (.iconst 1, 1) := by decide +kernel
theorem dX10_bytes_5 : decode cX10_bytes 5 = .ok (.sipush 250, 3) := by decide +kernel
theorem dX10_bytes_8 : decode cX10_bytes 8 = .ok (.iload_n 1, 1) := by decide +kernel
theorem dX10_bytes_9 : decode cX10_bytes 9 = .ok (.imul, 1) := by decide +kernel
theorem dX10_bytes_10 : decode cX10_bytes 10 = .ok (.iadd, 1) := by decide +kernel
theorem dX10_bytes_11 : decode cX10_bytes 11 = .ok (.iaload, 1) := by decide +kernel
theorem dX10_bytes_12 : decode cX10_bytes 12 = .ok (.ireturn, 1) := by decide +kernel
theorem dX10_has_0 : decode cX10_has 0 = .ok (.aload_n 0, 1) := by decide +kernel
theorem dX10_has_1 : decode cX10_has 1 = .ok (.iload_n 1, 1) := by decide +kernel
theorem dX10_has_2 : decode cX10_has 2 = .ok (.invokevirtual 78, 3) := by decide +kernel
theorem dX10_has_5 : decode cX10_has 5 = .ok (.ifCond .le 7, 3) := by decide +kernel
theorem dX10_has_8 : decode cX10_has 8 = .ok (.iconst 1, 1) := by decide +kernel
theorem dX10_has_9 : decode cX10_has 9 = .ok (.goto 4, 3) := by decide +kernel
theorem dX10_has_12 : decode cX10_has 12 = .ok (.iconst 0, 1) := by decide +kernel
theorem dX10_has_13 : decode cX10_has 13 = .ok (.ireturn, 1) := by decide +kernel
theorem dX10_remember_0 : decode cX10_remember 0 = .ok (.aload_n 0, 1) := by decide +kernel
theorem dX10_remember_1 : decode cX10_remember 1 = .ok (.getfield 82, 3) := by decide +kernel
theorem dX10_remember_4 : decode cX10_remember 4 = .ok (.bipush 8, 2) := by decide +kernel
theorem dX10_remember_6 : decode cX10_remember 6 = .ok (.if_icmp .ne 44, 3) := by decide +kernel
theorem dX10_remember_9 : decode cX10_remember 9 = .ok (.iconst 0, 1) := by decide +kernel
theorem dX10_remember_10 : decode cX10_remember 10 = .ok (.istore_n 1, 1) := by decide +kernel
theorem dX10_remember_11 : decode cX10_remember 11 = .ok (.iload_n 1, 1) := by decide +kernel
theorem dX10_remember_12 : decode cX10_remember 12 = .ok (.sipush 14007, 3) := by decide +kernel
theorem dX10_remember_15 : decode cX10_remember 15 = .ok (.if_icmp .ge 25, 3) := by decide +kernel
theorem dX10_remember_18 : decode cX10_remember 18 = .ok (.aload_n 0, 1) := by decide +kernel
theorem dX10_remember_19 : decode cX10_remember 19 = .ok (.getfield 13, 3) := by decide +kernel
theorem dX10_remember_22 : decode cX10_remember 22 = .ok (.iload_n 1, 1) := by decide +kernel
theorem dX10_remember_23 : decode cX10_remember 23 = .ok (.aload_n 0, 1) := by decide +kernel
theorem dX10_remember_24 : decode cX10_remember 24 = .ok (.getfield 13, 3) := by decide +kernel
theorem dX10_remember_27 : decode cX10_remember 27 = .ok (.iload_n 1, 1) := by decide +kernel
theorem dX10_remember_28 : decode cX10_remember 28 = .ok (.sipush 2001, 3) := by decide +kernel
theorem dX10_remember_31 : decode cX10_remember 31 = .ok (.iadd, 1) := by decide +kernel
theorem dX10_remember_32 : decode cX10_remember 32 = .ok (.iaload, 1) := by decide +kernel
theorem dX10_remember_33 : decode cX10_remember 33 = .ok (.iastore, 1) := by decide +kernel
theorem dX10_remember_34 : decode cX10_remember 34 = .ok (.iinc 1 1, 3) := by decide +kernel
theorem dX10_remember_37 : decode cX10_remember 37 = .ok (.goto (-26), 3) := by decide +kernel
theorem dX10_remember_40 : decode cX10_remember 40 = .ok (.aload_n 0, 1) := by decide +kernel
theorem dX10_remember_41 : decode cX10_remember 41 = .ok (.dup, 1) := by decide +kernel
theorem dX10_remember_42 : decode cX10_remember 42 = .ok (.getfield 82, 3) := by decide +kernel
theorem dX10_remember_45 : decode cX10_remember 45 = .ok (.iconst 1, 1) := by decide +kernel
theorem dX10_remember_46 : decode cX10_remember 46 = .ok (.isub, 1) := by decide +kernel
theorem dX10_remember_47 : decode cX10_remember 47 = .ok (.putfield 82, 3) := by decide +kernel
theorem dX10_remember_50 : decode cX10_remember 50 = .ok (.iconst 0, 1) := by decide +kernel
theorem dX10_remember_51 : decode cX10_remember 51 = .ok (.istore_n 1, 1) := by decide +kernel
theorem dX10_remember_52 : decode cX10_remember 52 = .ok (.iload_n 1, 1) := by decide +kernel
theorem dX10_remember_53 : decode cX10_remember 53 = .ok (.sipush 2001, 3) := by decide +kernel
theorem dX10_remember_56 : decode cX10_remember 56 = .ok (.if_icmp .ge 30, 3) := by decide +kernel
theorem dX10_remember_59 : decode cX10_remember 59 = .ok (.aload_n 0, 1) := by decide +kernel
theorem dX10_remember_60 : decode cX10_remember 60 = .ok (.getfield 13, 3) := by decide +kernel
theorem dX10_remember_63 : decode cX10_remember 63 = .ok (.sipush 2001, 3) := by decide +kernel
theorem dX10_remember_66 : decode cX10_remember 66 = .ok (.aload_n 0, 1) := by decide +kernel
theorem dX10_remember_67 : decode cX10_remember 67 = .ok (.getfield 82, 3) := by decide +kernel
theorem dX10_remember_70 : decode cX10_remember 70 = .ok (.imul, 1) := by decide +kernel
theorem dX10_remember_71 : decode cX10_remember 71 = .ok (.iload_n 1, 1) := by decide +kernel
theorem dX10_remember_72 : decode cX10_remember 72 = .ok (.iadd, 1) := by decide +kernel
theorem dX10_remember_73 : decode cX10_remember 73 = .ok (.aload_n 0, 1) := by decide +kernel
theorem dX10_remember_74 : decode cX10_remember 74 = .ok (.getfield 7, 3) := by decide +kernel
theorem dX10_remember_77 : decode cX10_remember 77 = .ok (.iload_n 1, 1) := by decide +kernel
theorem dX10_remember_78 : decode cX10_remember 78 = .ok (.iaload, 1) := by decide +kernel
theorem dX10_remember_79 : decode cX10_remember 79 = .ok (.iastore, 1) := by decide +kernel
theorem dX10_remember_80 : decode cX10_remember 80 = .ok (.iinc 1 1, 3) := by decide +kernel
theorem dX10_remember_83 : decode cX10_remember 83 = .ok (.goto (-31), 3) := by decide +kernel
theorem dX10_remember_86 : decode cX10_remember 86 = .ok (.aload_n 0, 1) := by decide +kernel
theorem dX10_remember_87 : decode cX10_remember 87 = .ok (.dup, 1) := by decide +kernel
theorem dX10_remember_88 : decode cX10_remember 88 = .ok (.getfield 82, 3) := by decide +kernel
theorem dX10_remember_91 : decode cX10_remember 91 = .ok (.iconst 1, 1) := by decide +kernel
theorem dX10_remember_92 : decode cX10_remember 92 = .ok (.iadd, 1) := by decide +kernel
theorem dX10_remember_93 : decode cX10_remember 93 = .ok (.putfield 82, 3) := by decide +kernel
theorem dX10_remember_96 : decode cX10_remember 96 = .ok (.aload_n 0, 1) := by decide +kernel
theorem dX10_remember_97 : decode cX10_remember 97 = .ok (.iconst 0, 1) := by decide +kernel
theorem dX10_remember_98 : decode cX10_remember 98 = .ok (.putfield 86, 3) := by decide +kernel
theorem dX10_remember_101 : decode cX10_remember 101 = .ok (.return_, 1) := by decide +kernel
theorem dX10_write_0 : decode cX10_write 0 = .ok (.iload_n 1, 1) := by decide +kernel
theorem dX10_write_1 : decode cX10_write 1 = .ok (.bipush 32, 2) := by decide +kernel
theorem dX10_write_3 : decode cX10_write 3 = .ok (.bipush 126, 2) := by decide +kernel
theorem dX10_write_5 : decode cX10_write 5 = .ok (.invokestatic 74, 3) := by decide +kernel
theorem dX10_write_8 : decode cX10_write 8 = .ok (.ifCond .ne 5, 3) := by decide +kernel
theorem dX10_write_11 : decode cX10_write 11 = .ok (.iconst (-1), 1) := by decide +kernel
theorem dX10_write_12 : decode cX10_write 12 = .ok (.ireturn, 1) := by decide +kernel
theorem dX10_write_13 : decode cX10_write 13 = .ok (.aload_n 0, 1) := by decide +kernel
theorem dX10_write_14 : decode cX10_write 14 = .ok (.getfield 90, 3) := by decide +kernel
theorem dX10_write_17 : decode cX10_write 17 = .ok (.bipush 80, 2) := by decide +kernel
theorem dX10_write_19 : decode cX10_write 19 = .ok (.if_icmp .ne 6, 3) := by decide +kernel
theorem dX10_write_22 : decode cX10_write 22 = .ok (.bipush (-3), 2) := by decide +kernel
theorem dX10_write_24 : decode cX10_write 24 = .ok (.ireturn, 1) := by decide +kernel
theorem dX10_write_25 : decode cX10_write 25 = .ok (.aload_n 0, 1) := by decide +kernel
theorem dX10_write_26 : decode cX10_write 26 = .ok (.getfield 19, 3) := by decide +kernel
theorem dX10_write_29 : decode cX10_write 29 = .ok (.aload_n 0, 1) := by decide +kernel
theorem dX10_write_30 : decode cX10_write 30 = .ok (.getfield 90, 3) := by decide +kernel
theorem dX10_write_33 : decode cX10_write 33 = .ok (.iload_n 1, 1) := by decide +kernel
theorem dX10_write_34 : decode cX10_write 34 = .ok (.iastore, 1) := by decide +kernel
theorem dX10_write_35 : decode cX10_write 35 = .ok (.aload_n 0, 1) := by decide +kernel
theorem dX10_write_36 : decode cX10_write 36 = .ok (.dup, 1) := by decide +kernel
theorem dX10_write_37 : decode cX10_write 37 = .ok (.getfield 90, 3) := by decide +kernel
theorem dX10_write_40 : decode cX10_write 40 = .ok (.iconst 1, 1) := by decide +kernel
theorem dX10_write_41 : decode cX10_write 41 = .ok (.iadd, 1) := by decide +kernel
theorem dX10_write_42 : decode cX10_write 42 = .ok (.putfield 90, 3) := by decide +kernel
theorem dX10_write_45 : decode cX10_write 45 = .ok (.aload_n 0, 1) := by decide +kernel
theorem dX10_write_46 : decode cX10_write 46 = .ok (.getfield 90, 3) := by decide +kernel
theorem dX10_write_49 : decode cX10_write 49 = .ok (.ireturn, 1) := by decide +kernel
theorem dX10_wipe_0 : decode cX10_wipe 0 = .ok (.aload_n 0, 1) := by decide +kernel
theorem dX10_wipe_1 : decode cX10_wipe 1 = .ok (.getfield 90, 3) := by decide +kernel
theorem dX10_wipe_4 : decode cX10_wipe 4 = .ok (.istore_n 1, 1) := by decide +kernel
theorem dX10_wipe_5 : decode cX10_wipe 5 = .ok (.aload_n 0, 1) := by decide +kernel
theorem dX10_wipe_6 : decode cX10_wipe 6 = .ok (.iconst 0, 1) := by decide +kernel
theorem dX10_wipe_7 : decode cX10_wipe 7 = .ok (.putfield 90, 3) := by decide +kernel
theorem dX10_wipe_10 : decode cX10_wipe 10 = .ok (.iload_n 1, 1) := by decide +kernel
theorem dX10_wipe_11 : decode cX10_wipe 11 = .ok (.ireturn, 1) := by decide +kernel
theorem dX10_isDigit_0 : decode cX10_isDigit 0 = .ok (.iload_n 0, 1) := by decide +kernel
theorem dX10_isDigit_1 : decode cX10_isDigit 1 = .ok (.bipush 48, 2) := by decide +kernel
theorem dX10_isDigit_3 : decode cX10_isDigit 3 = .ok (.if_icmp .lt 13, 3) := by decide +kernel
theorem dX10_isDigit_6 : decode cX10_isDigit 6 = .ok (.iload_n 0, 1) := by decide +kernel
theorem dX10_isDigit_7 : decode cX10_isDigit 7 = .ok (.bipush 57, 2) := by decide +kernel
theorem dX10_isDigit_9 : decode cX10_isDigit 9 = .ok (.if_icmp .gt 7, 3) := by decide +kernel
theorem dX10_isDigit_12 : decode cX10_isDigit 12 = .ok (.iconst 1, 1) := by decide +kernel
theorem dX10_isDigit_13 : decode cX10_isDigit 13 = .ok (.goto 4, 3) := by decide +kernel
theorem dX10_isDigit_16 : decode cX10_isDigit 16 = .ok (.iconst 0, 1) := by decide +kernel
theorem dX10_isDigit_17 : decode cX10_isDigit 17 = .ok (.ireturn, 1) := by decide +kernel
theorem dX10_isLetter_0 : decode cX10_isLetter 0 = .ok (.iload_n 0, 1) := by decide +kernel
theorem dX10_isLetter_1 : decode cX10_isLetter 1 = .ok (.bipush 65, 2) := by decide +kernel
theorem dX10_isLetter_3 : decode cX10_isLetter 3 = .ok (.if_icmp .lt 13, 3) := by decide +kernel
theorem dX10_isLetter_6 : decode cX10_isLetter 6 = .ok (.iload_n 0, 1) := by decide +kernel
theorem dX10_isLetter_7 : decode cX10_isLetter 7 = .ok (.bipush 72, 2) := by decide +kernel
theorem dX10_isLetter_9 : decode cX10_isLetter 9 = .ok (.if_icmp .gt 7, 3) := by decide +kernel
theorem dX10_isLetter_12 : decode cX10_isLetter 12 = .ok (.iconst 1, 1) := by decide +kernel
theorem dX10_isLetter_13 : decode cX10_isLetter 13 = .ok (.goto 4, 3) := by decide +kernel
theorem dX10_isLetter_16 : decode cX10_isLetter 16 = .ok (.iconst 0, 1) := by decide +kernel
theorem dX10_isLetter_17 : decode cX10_isLetter 17 = .ok (.ireturn, 1) := by decide +kernel
theorem dX10_parts_0 : decode cX10_parts 0 = .ok (.iload_n 0, 1) := by decide +kernel
theorem dX10_parts_1 : decode cX10_parts 1 = .ok (.lookupswitch 71 #[(42, 69), (43, 69), (58, 67), (101, 67), (111, 67), (116, 67), (122, 69)], 67) := by decide +kernel
theorem dX10_parts_68 : decode cX10_parts 68 = .ok (.iconst 1, 1) := by decide +kernel
theorem dX10_parts_69 : decode cX10_parts 69 = .ok (.ireturn, 1) := by decide +kernel
theorem dX10_parts_70 : decode cX10_parts 70 = .ok (.iconst 2, 1) := by decide +kernel
theorem dX10_parts_71 : decode cX10_parts 71 = .ok (.ireturn, 1) := by decide +kernel
theorem dX10_parts_72 : decode cX10_parts 72 = .ok (.iload_n 0, 1) := by decide +kernel
theorem dX10_parts_73 : decode cX10_parts 73 = .ok (.invokestatic 93, 3) := by decide +kernel
theorem dX10_parts_76 : decode cX10_parts 76 = .ok (.ifCond .ne 10, 3) := by decide +kernel
theorem dX10_parts_79 : decode cX10_parts 79 = .ok (.iload_n 0, 1) := by decide +kernel
theorem dX10_parts_80 : decode cX10_parts 80 = .ok (.invokestatic 97, 3) := by decide +kernel
theorem dX10_parts_83 : decode cX10_parts 83 = .ok (.ifCond .eq 7, 3) := by decide +kernel
theorem dX10_parts_86 : decode cX10_parts 86 = .ok (.iconst 0, 1) := by decide +kernel
theorem dX10_parts_87 : decode cX10_parts 87 = .ok (.goto 5, 3) := by decide +kernel
theorem dX10_parts_90 : decode cX10_parts 90 = .ok (.bipush (-9), 2) := by decide +kernel
theorem dX10_parts_92 : decode cX10_parts 92 = .ok (.ireturn, 1) := by decide +kernel
theorem dX10_fault_0 : decode cX10_fault 0 = .ok (.aload_n 0, 1) := by decide +kernel
theorem dX10_fault_1 : decode cX10_fault 1 = .ok (.iconst 0, 1) := by decide +kernel
theorem dX10_fault_2 : decode cX10_fault 2 = .ok (.putfield 100, 3) := by decide +kernel
theorem dX10_fault_5 : decode cX10_fault 5 = .ok (.iconst 1, 1) := by decide +kernel
theorem dX10_fault_6 : decode cX10_fault 6 = .ok (.istore_n 1, 1) := by decide +kernel
theorem dX10_fault_7 : decode cX10_fault 7 = .ok (.iconst 0, 1) := by decide +kernel
theorem dX10_fault_8 : decode cX10_fault 8 = .ok (.istore_n 2, 1) := by decide +kernel
theorem dX10_fault_9 : decode cX10_fault 9 = .ok (.iconst 0, 1) := by decide +kernel
theorem dX10_fault_10 : decode cX10_fault 10 = .ok (.istore_n 3, 1) := by decide +kernel
theorem dX10_fault_11 : decode cX10_fault 11 = .ok (.iload_n 3, 1) := by decide +kernel
theorem dX10_fault_12 : decode cX10_fault 12 = .ok (.aload_n 0, 1) := by decide +kernel
theorem dX10_fault_13 : decode cX10_fault 13 = .ok (.getfield 90, 3) := by decide +kernel
theorem dX10_fault_16 : decode cX10_fault 16 = .ok (.if_icmp .ge 111, 3) := by decide +kernel
theorem dX10_fault_19 : decode cX10_fault 19 = .ok (.aload_n 0, 1) := by decide +kernel
theorem dX10_fault_20 : decode cX10_fault 20 = .ok (.getfield 19, 3) := by decide +kernel
theorem dX10_fault_23 : decode cX10_fault 23 = .ok (.iload_n 3, 1) := by decide +kernel
theorem dX10_fault_24 : decode cX10_fault 24 = .ok (.iaload, 1) := by decide +kernel
theorem dX10_fault_25 : decode cX10_fault 25 = .ok (.istore 4, 2) := by decide +kernel
theorem dX10_fault_27 : decode cX10_fault 27 = .ok (.iload 4, 2) := by decide +kernel
theorem dX10_fault_29 : decode cX10_fault 29 = .ok (.bipush 32, 2) := by decide +kernel
theorem dX10_fault_31 : decode cX10_fault 31 = .ok (.if_icmp .eq 90, 3) := by decide +kernel
theorem dX10_fault_34 : decode cX10_fault 34 = .ok (.iload_n 2, 1) := by decide +kernel
theorem dX10_fault_35 : decode cX10_fault 35 = .ok (.ifCond .eq 14, 3) := by decide +kernel
theorem dX10_fault_38 : decode cX10_fault 38 = .ok (.iload 4, 2) := by decide +kernel
theorem dX10_fault_40 : decode cX10_fault 40 = .ok (.invokestatic 93, 3) := by decide +kernel
theorem dX10_fault_43 : decode cX10_fault 43 = .ok (.ifCond .ne 22, 3) := by decide +kernel
theorem dX10_fault_46 : decode cX10_fault 46 = .ok (.goto 17, 3) := by decide +kernel
theorem dX10_fault_49 : decode cX10_fault 49 = .ok (.iload_n 1, 1) := by decide +kernel
theorem dX10_fault_50 : decode cX10_fault 50 = .ok (.ifCond .eq 13, 3) := by decide +kernel
theorem dX10_fault_53 : decode cX10_fault 53 = .ok (.iload 4, 2) := by decide +kernel
theorem dX10_fault_55 : decode cX10_fault 55 = .ok (.invokestatic 103, 3) := by decide +kernel
theorem dX10_fault_58 : decode cX10_fault 58 = .ok (.bipush (-9), 2) := by decide +kernel
theorem dX10_fault_60 : decode cX10_fault 60 = .ok (.if_icmp .ne 5, 3) := by decide +kernel
theorem dX10_fault_63 : decode cX10_fault 63 = .ok (.iload_n 3, 1) := by decide +kernel
theorem dX10_fault_64 : decode cX10_fault 64 = .ok (.ireturn, 1) := by decide +kernel
theorem dX10_fault_65 : decode cX10_fault 65 = .ok (.aload_n 0, 1) := by decide +kernel
theorem dX10_fault_66 : decode cX10_fault 66 = .ok (.getfield 22, 3) := by decide +kernel
theorem dX10_fault_69 : decode cX10_fault 69 = .ok (.aload_n 0, 1) := by decide +kernel
theorem dX10_fault_70 : decode cX10_fault 70 = .ok (.getfield 100, 3) := by decide +kernel
theorem dX10_fault_73 : decode cX10_fault 73 = .ok (.iload 4, 2) := by decide +kernel
theorem dX10_fault_75 : decode cX10_fault 75 = .ok (.iastore, 1) := by decide +kernel
theorem dX10_fault_76 : decode cX10_fault 76 = .ok (.aload_n 0, 1) := by decide +kernel
theorem dX10_fault_77 : decode cX10_fault 77 = .ok (.dup, 1) := by decide +kernel
theorem dX10_fault_78 : decode cX10_fault 78 = .ok (.getfield 100, 3) := by decide +kernel
theorem dX10_fault_81 : decode cX10_fault 81 = .ok (.iconst 1, 1) := by decide +kernel
theorem dX10_fault_82 : decode cX10_fault 82 = .ok (.iadd, 1) := by decide +kernel
theorem dX10_fault_83 : decode cX10_fault 83 = .ok (.putfield 100, 3) := by decide +kernel
theorem dX10_fault_86 : decode cX10_fault 86 = .ok (.iload_n 1, 1) := by decide +kernel
theorem dX10_fault_87 : decode cX10_fault 87 = .ok (.iload_n 2, 1) := by decide +kernel
theorem dX10_fault_88 : decode cX10_fault 88 = .ok (.ifCond .eq 7, 3) := by decide +kernel
theorem dX10_fault_91 : decode cX10_fault 91 = .ok (.iconst 0, 1) := by decide +kernel
theorem dX10_fault_92 : decode cX10_fault 92 = .ok (.goto 10, 3) := by decide +kernel
theorem dX10_fault_95 : decode cX10_fault 95 = .ok (.iload 4, 2) := by decide +kernel
theorem dX10_fault_97 : decode cX10_fault 97 = .ok (.invokestatic 103, 3) := by decide +kernel
theorem dX10_fault_100 : decode cX10_fault 100 = .ok (.iconst 1, 1) := by decide +kernel
theorem dX10_fault_101 : decode cX10_fault 101 = .ok (.isub, 1) := by decide +kernel
theorem dX10_fault_102 : decode cX10_fault 102 = .ok (.iadd, 1) := by decide +kernel
theorem dX10_fault_103 : decode cX10_fault 103 = .ok (.istore_n 1, 1) := by decide +kernel
theorem dX10_fault_104 : decode cX10_fault 104 = .ok (.iload_n 2, 1) := by decide +kernel
theorem dX10_fault_105 : decode cX10_fault 105 = .ok (.ifCond .ne 14, 3) := by decide +kernel
theorem dX10_fault_108 : decode cX10_fault 108 = .ok (.iload 4, 2) := by decide +kernel
theorem dX10_fault_110 : decode cX10_fault 110 = .ok (.bipush 58, 2) := by decide +kernel
theorem dX10_fault_112 : decode cX10_fault 112 = .ok (.if_icmp .ne 7, 3) := by decide +kernel
theorem dX10_fault_115 : decode cX10_fault 115 = .ok (.iconst 1, 1) := by decide +kernel
theorem dX10_fault_116 : decode cX10_fault 116 = .ok (.goto 4, 3) := by decide +kernel
theorem dX10_fault_119 : decode cX10_fault 119 = .ok (.iconst 0, 1) := by decide +kernel
theorem dX10_fault_120 : decode cX10_fault 120 = .ok (.istore_n 2, 1) := by decide +kernel
theorem dX10_fault_121 : decode cX10_fault 121 = .ok (.iinc 3 1, 3) := by decide +kernel
theorem dX10_fault_124 : decode cX10_fault 124 = .ok (.goto (-113), 3) := by decide +kernel
theorem dX10_fault_127 : decode cX10_fault 127 = .ok (.iload_n 1, 1) := by decide +kernel
theorem dX10_fault_128 : decode cX10_fault 128 = .ok (.ifCond .gt 7, 3) := by decide +kernel
theorem dX10_fault_131 : decode cX10_fault 131 = .ok (.iload_n 2, 1) := by decide +kernel
theorem dX10_fault_132 : decode cX10_fault 132 = .ok (.ifCond .eq 10, 3) := by decide +kernel
theorem dX10_fault_135 : decode cX10_fault 135 = .ok (.aload_n 0, 1) := by decide +kernel
theorem dX10_fault_136 : decode cX10_fault 136 = .ok (.getfield 90, 3) := by decide +kernel
theorem dX10_fault_139 : decode cX10_fault 139 = .ok (.goto 5, 3) := by decide +kernel
theorem dX10_fault_142 : decode cX10_fault 142 = .ok (.bipush (-9), 2) := by decide +kernel
theorem dX10_fault_144 : decode cX10_fault 144 = .ok (.ireturn, 1) := by decide +kernel
theorem dX10_sizeOf_0 : decode cX10_sizeOf 0 = .ok (.iconst 0, 1) := by decide +kernel
theorem dX10_sizeOf_1 : decode cX10_sizeOf 1 = .ok (.istore_n 2, 1) := by decide +kernel
theorem dX10_sizeOf_2 : decode cX10_sizeOf 2 = .ok (.iconst 0, 1) := by decide +kernel
theorem dX10_sizeOf_3 : decode cX10_sizeOf 3 = .ok (.istore_n 3, 1) := by decide +kernel
theorem dX10_sizeOf_4 : decode cX10_sizeOf 4 = .ok (.iload_n 3, 1) := by decide +kernel
theorem dX10_sizeOf_5 : decode cX10_sizeOf 5 = .ok (.aload_n 0, 1) := by decide +kernel
theorem dX10_sizeOf_6 : decode cX10_sizeOf 6 = .ok (.iload_n 1, 1) := by decide +kernel
theorem dX10_sizeOf_7 : decode cX10_sizeOf 7 = .ok (.invokevirtual 78, 3) := by decide +kernel
theorem dX10_sizeOf_10 : decode cX10_sizeOf 10 = .ok (.if_icmp .ge 39, 3) := by decide +kernel
theorem dX10_sizeOf_13 : decode cX10_sizeOf 13 = .ok (.iload_n 2, 1) := by decide +kernel
theorem dX10_sizeOf_14 : decode cX10_sizeOf 14 = .ok (.iload_n 3, 1) := by decide +kernel
theorem dX10_sizeOf_15 : decode cX10_sizeOf 15 = .ok (.ifCond .le 25, 3) := by decide +kernel
theorem dX10_sizeOf_18 : decode cX10_sizeOf 18 = .ok (.aload_n 0, 1) := by decide +kernel
theorem dX10_sizeOf_19 : decode cX10_sizeOf 19 = .ok (.getfield 7, 3) := by decide +kernel
theorem dX10_sizeOf_22 : decode cX10_sizeOf 22 = .ok (.iload_n 1, 1) := by decide +kernel
theorem dX10_sizeOf_23 : decode cX10_sizeOf 23 = .ok (.invokestatic 106, 3) := by decide +kernel
theorem dX10_sizeOf_26 : decode cX10_sizeOf 26 = .ok (.iload_n 3, 1) := by decide +kernel
theorem dX10_sizeOf_27 : decode cX10_sizeOf 27 = .ok (.iadd, 1) := by decide +kernel
theorem dX10_sizeOf_28 : decode cX10_sizeOf 28 = .ok (.iconst 1, 1) := by decide +kernel
theorem dX10_sizeOf_29 : decode cX10_sizeOf 29 = .ok (.isub, 1) := by decide +kernel
theorem dX10_sizeOf_30 : decode cX10_sizeOf 30 = .ok (.iaload, 1) := by decide +kernel
theorem dX10_sizeOf_31 : decode cX10_sizeOf 31 = .ok (.bipush 58, 2) := by decide +kernel
theorem dX10_sizeOf_33 : decode cX10_sizeOf 33 = .ok (.if_icmp .ne 7, 3) := by decide +kernel
theorem dX10_sizeOf_36 : decode cX10_sizeOf 36 = .ok (.iconst 0, 1) := by decide +kernel
theorem dX10_sizeOf_37 : decode cX10_sizeOf 37 = .ok (.goto 4, 3) := by decide +kernel
theorem dX10_sizeOf_40 : decode cX10_sizeOf 40 = .ok (.iconst 1, 1) := by decide +kernel
theorem dX10_sizeOf_41 : decode cX10_sizeOf 41 = .ok (.iadd, 1) := by decide +kernel
theorem dX10_sizeOf_42 : decode cX10_sizeOf 42 = .ok (.istore_n 2, 1) := by decide +kernel
theorem dX10_sizeOf_43 : decode cX10_sizeOf 43 = .ok (.iinc 3 1, 3) := by decide +kernel
theorem dX10_sizeOf_46 : decode cX10_sizeOf 46 = .ok (.goto (-42), 3) := by decide +kernel
theorem dX10_sizeOf_49 : decode cX10_sizeOf 49 = .ok (.iload_n 2, 1) := by decide +kernel
theorem dX10_sizeOf_50 : decode cX10_sizeOf 50 = .ok (.ireturn, 1) := by decide +kernel
theorem dX10_skip_0 : decode cX10_skip 0 = .ok (.iload_n 1, 1) := by decide +kernel
theorem dX10_skip_1 : decode cX10_skip 1 = .ok (.istore_n 2, 1) := by decide +kernel
theorem dX10_skip_2 : decode cX10_skip 2 = .ok (.iconst 1, 1) := by decide +kernel
theorem dX10_skip_3 : decode cX10_skip 3 = .ok (.istore_n 3, 1) := by decide +kernel
theorem dX10_skip_4 : decode cX10_skip 4 = .ok (.iload_n 3, 1) := by decide +kernel
theorem dX10_skip_5 : decode cX10_skip 5 = .ok (.ifCond .le 33, 3) := by decide +kernel
theorem dX10_skip_8 : decode cX10_skip 8 = .ok (.iload_n 3, 1) := by decide +kernel
theorem dX10_skip_9 : decode cX10_skip 9 = .ok (.aload_n 0, 1) := by decide +kernel
theorem dX10_skip_10 : decode cX10_skip 10 = .ok (.iload_n 2, 1) := by decide +kernel
theorem dX10_skip_11 : decode cX10_skip 11 = .ok (.iaload, 1) := by decide +kernel
theorem dX10_skip_12 : decode cX10_skip 12 = .ok (.invokestatic 103, 3) := by decide +kernel
theorem dX10_skip_15 : decode cX10_skip 15 = .ok (.iconst 1, 1) := by decide +kernel
theorem dX10_skip_16 : decode cX10_skip 16 = .ok (.isub, 1) := by decide +kernel
theorem dX10_skip_17 : decode cX10_skip 17 = .ok (.iadd, 1) := by decide +kernel
theorem dX10_skip_18 : decode cX10_skip 18 = .ok (.istore_n 3, 1) := by decide +kernel
theorem dX10_skip_19 : decode cX10_skip 19 = .ok (.iload_n 2, 1) := by decide +kernel
theorem dX10_skip_20 : decode cX10_skip 20 = .ok (.aload_n 0, 1) := by decide +kernel
theorem dX10_skip_21 : decode cX10_skip 21 = .ok (.iload_n 2, 1) := by decide +kernel
theorem dX10_skip_22 : decode cX10_skip 22 = .ok (.iaload, 1) := by decide +kernel
theorem dX10_skip_23 : decode cX10_skip 23 = .ok (.bipush 58, 2) := by decide +kernel
theorem dX10_skip_25 : decode cX10_skip 25 = .ok (.if_icmp .ne 7, 3) := by decide +kernel
theorem dX10_skip_28 : decode cX10_skip 28 = .ok (.iconst 2, 1) := by decide +kernel
theorem dX10_skip_29 : decode cX10_skip 29 = .ok (.goto 4, 3) := by decide +kernel
theorem dX10_skip_32 : decode cX10_skip 32 = .ok (.iconst 1, 1) := by decide +kernel
theorem dX10_skip_33 : decode cX10_skip 33 = .ok (.iadd, 1) := by decide +kernel
theorem dX10_skip_34 : decode cX10_skip 34 = .ok (.istore_n 2, 1) := by decide +kernel
theorem dX10_skip_35 : decode cX10_skip 35 = .ok (.goto (-31), 3) := by decide +kernel
theorem dX10_skip_38 : decode cX10_skip 38 = .ok (.iload_n 2, 1) := by decide +kernel
theorem dX10_skip_39 : decode cX10_skip 39 = .ok (.ireturn, 1) := by decide +kernel
theorem dX10_define_0 : decode cX10_define 0 = .ok (.iload_n 1, 1) := by decide +kernel
theorem dX10_define_1 : decode cX10_define 1 = .ok (.invokestatic 109, 3) := by decide +kernel
theorem dX10_define_4 : decode cX10_define 4 = .ok (.ifCond .ne 5, 3) := by decide +kernel
theorem dX10_define_7 : decode cX10_define 7 = .ok (.iconst (-1), 1) := by decide +kernel
theorem dX10_define_8 : decode cX10_define 8 = .ok (.ireturn, 1) := by decide +kernel
theorem dX10_define_9 : decode cX10_define 9 = .ok (.aload_n 0, 1) := by decide +kernel
theorem dX10_define_10 : decode cX10_define 10 = .ok (.invokevirtual 112, 3) := by decide +kernel
theorem dX10_define_13 : decode cX10_define 13 = .ok (.bipush (-9), 2) := by decide +kernel
theorem dX10_define_15 : decode cX10_define 15 = .ok (.if_icmp .eq 6, 3) := by decide +kernel
theorem dX10_define_18 : decode cX10_define 18 = .ok (.bipush (-2), 2) := by decide +kernel
theorem dX10_define_20 : decode cX10_define 20 = .ok (.ireturn, 1) := by decide +kernel
theorem dX10_define_21 : decode cX10_define 21 = .ok (.aload_n 0, 1) := by decide +kernel
theorem dX10_define_22 : decode cX10_define 22 = .ok (.invokevirtual 116, 3) := by decide +kernel
theorem dX10_define_25 : decode cX10_define 25 = .ok (.iconst 0, 1) := by decide +kernel
theorem dX10_define_26 : decode cX10_define 26 = .ok (.istore_n 2, 1) := by decide +kernel
theorem dX10_define_27 : decode cX10_define 27 = .ok (.iload_n 2, 1) := by decide +kernel
theorem dX10_define_28 : decode cX10_define 28 = .ok (.aload_n 0, 1) := by decide +kernel
theorem dX10_define_29 : decode cX10_define 29 = .ok (.getfield 100, 3) := by decide +kernel
theorem dX10_define_32 : decode cX10_define 32 = .ok (.if_icmp .ge 26, 3) := by decide +kernel
theorem dX10_define_35 : decode cX10_define 35 = .ok (.aload_n 0, 1) := by decide +kernel
theorem dX10_define_36 : decode cX10_define 36 = .ok (.getfield 7, 3) := by decide +kernel
theorem dX10_define_39 : decode cX10_define 39 = .ok (.iload_n 1, 1) := by decide +kernel
theorem dX10_define_40 : decode cX10_define 40 = .ok (.invokestatic 106, 3) := by decide +kernel
theorem dX10_define_43 : decode cX10_define 43 = .ok (.iload_n 2, 1) := by decide +kernel
theorem dX10_define_44 : decode cX10_define 44 = .ok (.iadd, 1) := by decide +kernel
theorem dX10_define_45 : decode cX10_define 45 = .ok (.aload_n 0, 1) := by decide +kernel
theorem dX10_define_46 : decode cX10_define 46 = .ok (.getfield 22, 3) := by decide +kernel
theorem dX10_define_49 : decode cX10_define 49 = .ok (.iload_n 2, 1) := by decide +kernel
theorem dX10_define_50 : decode cX10_define 50 = .ok (.iaload, 1) := by decide +kernel
theorem dX10_define_51 : decode cX10_define 51 = .ok (.iastore, 1) := by decide +kernel
theorem dX10_define_52 : decode cX10_define 52 = .ok (.iinc 2 1, 3) := by decide +kernel
theorem dX10_define_55 : decode cX10_define 55 = .ok (.goto (-28), 3) := by decide +kernel
theorem dX10_define_58 : decode cX10_define 58 = .ok (.aload_n 0, 1) := by decide +kernel
theorem dX10_define_59 : decode cX10_define 59 = .ok (.getfield 7, 3) := by decide +kernel
theorem dX10_define_62 : decode cX10_define 62 = .ok (.iconst 1, 1) := by decide +kernel
theorem dX10_define_63 : decode cX10_define 63 = .ok (.sipush 250, 3) := by decide +kernel
theorem dX10_define_66 : decode cX10_define 66 = .ok (.iload_n 1, 1) := by decide +kernel
theorem dX10_define_67 : decode cX10_define 67 = .ok (.imul, 1) := by decide +kernel
theorem dX10_define_68 : decode cX10_define 68 = .ok (.iadd, 1) := by decide +kernel
theorem dX10_define_69 : decode cX10_define 69 = .ok (.aload_n 0, 1) := by decide +kernel
theorem dX10_define_70 : decode cX10_define 70 = .ok (.getfield 100, 3) := by decide +kernel
theorem dX10_define_73 : decode cX10_define 73 = .ok (.iastore, 1) := by decide +kernel
theorem dX10_define_74 : decode cX10_define 74 = .ok (.aload_n 0, 1) := by decide +kernel
theorem dX10_define_75 : decode cX10_define 75 = .ok (.iload_n 1, 1) := by decide +kernel
theorem dX10_define_76 : decode cX10_define 76 = .ok (.invokevirtual 119, 3) := by decide +kernel
theorem dX10_define_79 : decode cX10_define 79 = .ok (.ireturn, 1) := by decide +kernel
theorem dX10_undefine_0 : decode cX10_undefine 0 = .ok (.iload_n 1, 1) := by decide +kernel
theorem dX10_undefine_1 : decode cX10_undefine 1 = .ok (.invokestatic 109, 3) := by decide +kernel
theorem dX10_undefine_4 : decode cX10_undefine 4 = .ok (.ifCond .ne 5, 3) := by decide +kernel
theorem dX10_undefine_7 : decode cX10_undefine 7 = .ok (.iconst (-1), 1) := by decide +kernel
theorem dX10_undefine_8 : decode cX10_undefine 8 = .ok (.ireturn, 1) := by decide +kernel
theorem dX10_undefine_9 : decode cX10_undefine 9 = .ok (.aload_n 0, 1) := by decide +kernel
theorem dX10_undefine_10 : decode cX10_undefine 10 = .ok (.iload_n 1, 1) := by decide +kernel
theorem dX10_undefine_11 : decode cX10_undefine 11 = .ok (.invokevirtual 122, 3) := by decide +kernel
theorem dX10_undefine_14 : decode cX10_undefine 14 = .ok (.ifCond .ne 6, 3) := by decide +kernel
theorem dX10_undefine_17 : decode cX10_undefine 17 = .ok (.bipush (-2), 2) := by decide +kernel
theorem dX10_undefine_19 : decode cX10_undefine 19 = .ok (.ireturn, 1) := by decide +kernel
theorem dX10_undefine_20 : decode cX10_undefine 20 = .ok (.aload_n 0, 1) := by decide +kernel
theorem dX10_undefine_21 : decode cX10_undefine 21 = .ok (.iload_n 1, 1) := by decide +kernel
theorem dX10_undefine_22 : decode cX10_undefine 22 = .ok (.invokevirtual 119, 3) := by decide +kernel
theorem dX10_undefine_25 : decode cX10_undefine 25 = .ok (.istore_n 2, 1) := by decide +kernel
theorem dX10_undefine_26 : decode cX10_undefine 26 = .ok (.aload_n 0, 1) := by decide +kernel
theorem dX10_undefine_27 : decode cX10_undefine 27 = .ok (.invokevirtual 116, 3) := by decide +kernel
theorem dX10_undefine_30 : decode cX10_undefine 30 = .ok (.aload_n 0, 1) := by decide +kernel
theorem dX10_undefine_31 : decode cX10_undefine 31 = .ok (.getfield 7, 3) := by decide +kernel
theorem dX10_undefine_34 : decode cX10_undefine 34 = .ok (.iconst 1, 1) := by decide +kernel
theorem dX10_undefine_35 : decode cX10_undefine 35 = .ok (.sipush 250, 3) := by decide +kernel
theorem dX10_undefine_38 : decode cX10_undefine 38 = .ok (.iload_n 1, 1) := by decide +kernel
theorem dX10_undefine_39 : decode cX10_undefine 39 = .ok (.imul, 1) := by decide +kernel
theorem dX10_undefine_40 : decode cX10_undefine 40 = .ok (.iadd, 1) := by decide +kernel
theorem dX10_undefine_41 : decode cX10_undefine 41 = .ok (.iconst 0, 1) := by decide +kernel
theorem dX10_undefine_42 : decode cX10_undefine 42 = .ok (.iastore, 1) := by decide +kernel
theorem dX10_undefine_43 : decode cX10_undefine 43 = .ok (.iload_n 2, 1) := by decide +kernel
theorem dX10_undefine_44 : decode cX10_undefine 44 = .ok (.ireturn, 1) := by decide +kernel
theorem dX10_setModulus_0 : decode cX10_setModulus 0 = .ok (.iload_n 1, 1) := by decide +kernel
theorem dX10_setModulus_1 : decode cX10_setModulus 1 = .ok (.iconst 2, 1) := by decide +kernel
theorem dX10_setModulus_2 : decode cX10_setModulus 2 = .ok (.bipush 10, 2) := by decide +kernel
theorem dX10_setModulus_4 : decode cX10_setModulus 4 = .ok (.invokestatic 74, 3) := by decide +kernel
theorem dX10_setModulus_7 : decode cX10_setModulus 7 = .ok (.ifCond .ne 5, 3) := by decide +kernel
theorem dX10_setModulus_10 : decode cX10_setModulus 10 = .ok (.iconst (-1), 1) := by decide +kernel
theorem dX10_setModulus_11 : decode cX10_setModulus 11 = .ok (.ireturn, 1) := by decide +kernel
theorem dX10_setModulus_12 : decode cX10_setModulus 12 = .ok (.aload_n 0, 1) := by decide +kernel
theorem dX10_setModulus_13 : decode cX10_setModulus 13 = .ok (.invokevirtual 116, 3) := by decide +kernel
theorem dX10_setModulus_16 : decode cX10_setModulus 16 = .ok (.aload_n 0, 1) := by decide +kernel
theorem dX10_setModulus_17 : decode cX10_setModulus 17 = .ok (.getfield 7, 3) := by decide +kernel
theorem dX10_setModulus_20 : decode cX10_setModulus 20 = .ok (.iconst 0, 1) := by decide +kernel
theorem dX10_setModulus_21 : decode cX10_setModulus 21 = .ok (.iaload, 1) := by decide +kernel
theorem dX10_setModulus_22 : decode cX10_setModulus 22 = .ok (.istore_n 2, 1) := by decide +kernel
theorem dX10_setModulus_23 : decode cX10_setModulus 23 = .ok (.aload_n 0, 1) := by decide +kernel
theorem dX10_setModulus_24 : decode cX10_setModulus 24 = .ok (.getfield 7, 3) := by decide +kernel
theorem dX10_setModulus_27 : decode cX10_setModulus 27 = .ok (.iconst 0, 1) := by decide +kernel
theorem dX10_setModulus_28 : decode cX10_setModulus 28 = .ok (.iload_n 1, 1) := by decide +kernel
theorem dX10_setModulus_29 : decode cX10_setModulus 29 = .ok (.iastore, 1) := by decide +kernel
theorem dX10_setModulus_30 : decode cX10_setModulus 30 = .ok (.iload_n 2, 1) := by decide +kernel
theorem dX10_setModulus_31 : decode cX10_setModulus 31 = .ok (.ireturn, 1) := by decide +kernel
theorem dX10_occurrences_0 : decode cX10_occurrences 0 = .ok (.iconst 0, 1) := by decide +kernel
theorem dX10_occurrences_1 : decode cX10_occurrences 1 = .ok (.istore_n 3, 1) := by decide +kernel
theorem dX10_occurrences_2 : decode cX10_occurrences 2 = .ok (.iconst 0, 1) := by decide +kernel
theorem dX10_occurrences_3 : decode cX10_occurrences 3 = .ok (.istore 4, 2) := by decide +kernel
theorem dX10_occurrences_5 : decode cX10_occurrences 5 = .ok (.iload 4, 2) := by decide +kernel
theorem dX10_occurrences_7 : decode cX10_occurrences 7 = .ok (.aload_n 0, 1) := by decide +kernel
theorem dX10_occurrences_8 : decode cX10_occurrences 8 = .ok (.iload_n 1, 1) := by decide +kernel
theorem dX10_occurrences_9 : decode cX10_occurrences 9 = .ok (.invokevirtual 78, 3) := by decide +kernel
theorem dX10_occurrences_12 : decode cX10_occurrences 12 = .ok (.if_icmp .ge 36, 3) := by decide +kernel
theorem dX10_occurrences_15 : decode cX10_occurrences 15 = .ok (.iload_n 3, 1) := by decide +kernel
theorem dX10_occurrences_16 : decode cX10_occurrences 16 = .ok (.aload_n 0, 1) := by decide +kernel
theorem dX10_occurrences_17 : decode cX10_occurrences 17 = .ok (.getfield 7, 3) := by decide +kernel
theorem dX10_occurrences_20 : decode cX10_occurrences 20 = .ok (.iload_n 1, 1) := by decide +kernel
theorem dX10_occurrences_21 : decode cX10_occurrences 21 = .ok (.invokestatic 106, 3) := by decide +kernel
theorem dX10_occurrences_24 : decode cX10_occurrences 24 = .ok (.iload 4, 2) := by decide +kernel
theorem dX10_occurrences_26 : decode cX10_occurrences 26 = .ok (.iadd, 1) := by decide +kernel
theorem dX10_occurrences_27 : decode cX10_occurrences 27 = .ok (.iaload, 1) := by decide +kernel
theorem dX10_occurrences_28 : decode cX10_occurrences 28 = .ok (.bipush 65, 2) := by decide +kernel
theorem dX10_occurrences_30 : decode cX10_occurrences 30 = .ok (.iload_n 2, 1) := by decide +kernel
theorem dX10_occurrences_31 : decode cX10_occurrences 31 = .ok (.iadd, 1) := by decide +kernel
theorem dX10_occurrences_32 : decode cX10_occurrences 32 = .ok (.if_icmp .ne 7, 3) := by decide +kernel
theorem dX10_occurrences_35 : decode cX10_occurrences 35 = .ok (.iconst 1, 1) := by decide +kernel
theorem dX10_occurrences_36 : decode cX10_occurrences 36 = .ok (.goto 4, 3) := by decide +kernel
theorem dX10_occurrences_39 : decode cX10_occurrences 39 = .ok (.iconst 0, 1) := by decide +kernel
theorem dX10_occurrences_40 : decode cX10_occurrences 40 = .ok (.iadd, 1) := by decide +kernel
theorem dX10_occurrences_41 : decode cX10_occurrences 41 = .ok (.istore_n 3, 1) := by decide +kernel
theorem dX10_occurrences_42 : decode cX10_occurrences 42 = .ok (.iinc 4 1, 3) := by decide +kernel
theorem dX10_occurrences_45 : decode cX10_occurrences 45 = .ok (.goto (-40), 3) := by decide +kernel
theorem dX10_occurrences_48 : decode cX10_occurrences 48 = .ok (.iload_n 3, 1) := by decide +kernel
theorem dX10_occurrences_49 : decode cX10_occurrences 49 = .ok (.ireturn, 1) := by decide +kernel
theorem dX10_insert_0 : decode cX10_insert 0 = .ok (.iload_n 1, 1) := by decide +kernel
theorem dX10_insert_1 : decode cX10_insert 1 = .ok (.invokestatic 109, 3) := by decide +kernel
theorem dX10_insert_4 : decode cX10_insert 4 = .ok (.ifCond .eq 10, 3) := by decide +kernel
theorem dX10_insert_7 : decode cX10_insert 7 = .ok (.iload_n 2, 1) := by decide +kernel
theorem dX10_insert_8 : decode cX10_insert 8 = .ok (.invokestatic 109, 3) := by decide +kernel
theorem dX10_insert_11 : decode cX10_insert 11 = .ok (.ifCond .ne 5, 3) := by decide +kernel
theorem dX10_insert_14 : decode cX10_insert 14 = .ok (.iconst (-1), 1) := by decide +kernel
theorem dX10_insert_15 : decode cX10_insert 15 = .ok (.ireturn, 1) := by decide +kernel
theorem dX10_insert_16 : decode cX10_insert 16 = .ok (.aload_n 0, 1) := by decide +kernel
theorem dX10_insert_17 : decode cX10_insert 17 = .ok (.iload_n 1, 1) := by decide +kernel
theorem dX10_insert_18 : decode cX10_insert 18 = .ok (.invokevirtual 122, 3) := by decide +kernel
theorem dX10_insert_21 : decode cX10_insert 21 = .ok (.ifCond .eq 11, 3) := by decide +kernel
theorem dX10_insert_24 : decode cX10_insert 24 = .ok (.aload_n 0, 1) := by decide +kernel
theorem dX10_insert_25 : decode cX10_insert 25 = .ok (.iload_n 2, 1) := by decide +kernel
theorem dX10_insert_26 : decode cX10_insert 26 = .ok (.invokevirtual 122, 3) := by decide +kernel
theorem dX10_insert_29 : decode cX10_insert 29 = .ok (.ifCond .ne 6, 3) := by decide +kernel
theorem dX10_insert_32 : decode cX10_insert 32 = .ok (.bipush (-2), 2) := by decide +kernel
theorem dX10_insert_34 : decode cX10_insert 34 = .ok (.ireturn, 1) := by decide +kernel
theorem dX10_insert_35 : decode cX10_insert 35 = .ok (.aload_n 0, 1) := by decide +kernel
theorem dX10_insert_36 : decode cX10_insert 36 = .ok (.iload_n 1, 1) := by decide +kernel
theorem dX10_insert_37 : decode cX10_insert 37 = .ok (.invokevirtual 119, 3) := by decide +kernel
theorem dX10_insert_40 : decode cX10_insert 40 = .ok (.aload_n 0, 1) := by decide +kernel
theorem dX10_insert_41 : decode cX10_insert 41 = .ok (.iload_n 1, 1) := by decide +kernel
theorem dX10_insert_42 : decode cX10_insert 42 = .ok (.iload_n 2, 1) := by decide +kernel
theorem dX10_insert_43 : decode cX10_insert 43 = .ok (.invokevirtual 125, 3) := by decide +kernel
theorem dX10_insert_46 : decode cX10_insert 46 = .ok (.aload_n 0, 1) := by decide +kernel
theorem dX10_insert_47 : decode cX10_insert 47 = .ok (.iload_n 2, 1) := by decide +kernel
theorem dX10_insert_48 : decode cX10_insert 48 = .ok (.invokevirtual 119, 3) := by decide +kernel
theorem dX10_insert_51 : decode cX10_insert 51 = .ok (.iconst 1, 1) := by decide +kernel
theorem dX10_insert_52 : decode cX10_insert 52 = .ok (.isub, 1) := by decide +kernel
theorem dX10_insert_53 : decode cX10_insert 53 = .ok (.imul, 1) := by decide +kernel
theorem dX10_insert_54 : decode cX10_insert 54 = .ok (.iadd, 1) := by decide +kernel
theorem dX10_insert_55 : decode cX10_insert 55 = .ok (.bipush 120, 2) := by decide +kernel
theorem dX10_insert_57 : decode cX10_insert 57 = .ok (.if_icmp .le 6, 3) := by decide +kernel
theorem dX10_insert_60 : decode cX10_insert 60 = .ok (.bipush (-3), 2) := by decide +kernel
theorem dX10_insert_62 : decode cX10_insert 62 = .ok (.ireturn, 1) := by decide +kernel
theorem dX10_insert_63 : decode cX10_insert 63 = .ok (.aload_n 0, 1) := by decide +kernel
theorem dX10_insert_64 : decode cX10_insert 64 = .ok (.invokevirtual 116, 3) := by decide +kernel
theorem dX10_insert_67 : decode cX10_insert 67 = .ok (.iconst 0, 1) := by decide +kernel
theorem dX10_insert_68 : decode cX10_insert 68 = .ok (.istore_n 3, 1) := by decide +kernel
theorem dX10_insert_69 : decode cX10_insert 69 = .ok (.iconst 0, 1) := by decide +kernel
theorem dX10_insert_70 : decode cX10_insert 70 = .ok (.istore 4, 2) := by decide +kernel
theorem dX10_insert_72 : decode cX10_insert 72 = .ok (.iload 4, 2) := by decide +kernel
theorem dX10_insert_74 : decode cX10_insert 74 = .ok (.aload_n 0, 1) := by decide +kernel
theorem dX10_insert_75 : decode cX10_insert 75 = .ok (.iload_n 1, 1) := by decide +kernel
theorem dX10_insert_76 : decode cX10_insert 76 = .ok (.invokevirtual 78, 3) := by decide +kernel
theorem dX10_insert_79 : decode cX10_insert 79 = .ok (.if_icmp .ge 86, 3) := by decide +kernel
theorem dX10_insert_82 : decode cX10_insert 82 = .ok (.aload_n 0, 1) := by decide +kernel
theorem dX10_insert_83 : decode cX10_insert 83 = .ok (.getfield 7, 3) := by decide +kernel
theorem dX10_insert_86 : decode cX10_insert 86 = .ok (.iload_n 1, 1) := by decide +kernel
theorem dX10_insert_87 : decode cX10_insert 87 = .ok (.invokestatic 106, 3) := by decide +kernel
theorem dX10_insert_90 : decode cX10_insert 90 = .ok (.iload 4, 2) := by decide +kernel
theorem dX10_insert_92 : decode cX10_insert 92 = .ok (.iadd, 1) := by decide +kernel
theorem dX10_insert_93 : decode cX10_insert 93 = .ok (.iaload, 1) := by decide +kernel
theorem dX10_insert_94 : decode cX10_insert 94 = .ok (.istore 5, 2) := by decide +kernel
theorem dX10_insert_96 : decode cX10_insert 96 = .ok (.iload 5, 2) := by decide +kernel
theorem dX10_insert_98 : decode cX10_insert 98 = .ok (.bipush 65, 2) := by decide +kernel
theorem dX10_insert_100 : decode cX10_insert 100 = .ok (.iload_n 2, 1) := by decide +kernel
theorem dX10_insert_101 : decode cX10_insert 101 = .ok (.iadd, 1) := by decide +kernel
theorem dX10_insert_102 : decode cX10_insert 102 = .ok (.if_icmp .ne 46, 3) := by decide +kernel
theorem dX10_insert_105 : decode cX10_insert 105 = .ok (.iconst 0, 1) := by decide +kernel
theorem dX10_insert_106 : decode cX10_insert 106 = .ok (.istore 6, 2) := by decide +kernel
theorem dX10_insert_108 : decode cX10_insert 108 = .ok (.iload 6, 2) := by decide +kernel
theorem dX10_insert_110 : decode cX10_insert 110 = .ok (.aload_n 0, 1) := by decide +kernel
theorem dX10_insert_111 : decode cX10_insert 111 = .ok (.iload_n 2, 1) := by decide +kernel
theorem dX10_insert_112 : decode cX10_insert 112 = .ok (.invokevirtual 78, 3) := by decide +kernel
theorem dX10_insert_115 : decode cX10_insert 115 = .ok (.if_icmp .ge 30, 3) := by decide +kernel
theorem dX10_insert_118 : decode cX10_insert 118 = .ok (.aload_n 0, 1) := by decide +kernel
theorem dX10_insert_119 : decode cX10_insert 119 = .ok (.getfield 25, 3) := by decide +kernel
theorem dX10_insert_122 : decode cX10_insert 122 = .ok (.iload_n 3, 1) := by decide +kernel
theorem dX10_insert_123 : decode cX10_insert 123 = .ok (.aload_n 0, 1) := by decide +kernel
theorem dX10_insert_124 : decode cX10_insert 124 = .ok (.getfield 7, 3) := by decide +kernel
theorem dX10_insert_127 : decode cX10_insert 127 = .ok (.iload_n 2, 1) := by decide +kernel
theorem dX10_insert_128 : decode cX10_insert 128 = .ok (.invokestatic 106, 3) := by decide +kernel
theorem dX10_insert_131 : decode cX10_insert 131 = .ok (.iload 6, 2) := by decide +kernel
theorem dX10_insert_133 : decode cX10_insert 133 = .ok (.iadd, 1) := by decide +kernel
theorem dX10_insert_134 : decode cX10_insert 134 = .ok (.iaload, 1) := by decide +kernel
theorem dX10_insert_135 : decode cX10_insert 135 = .ok (.iastore, 1) := by decide +kernel
theorem dX10_insert_136 : decode cX10_insert 136 = .ok (.iinc 3 1, 3) := by decide +kernel
theorem dX10_insert_139 : decode cX10_insert 139 = .ok (.iinc 6 1, 3) := by decide +kernel
theorem dX10_insert_142 : decode cX10_insert 142 = .ok (.goto (-34), 3) := by decide +kernel
theorem dX10_insert_145 : decode cX10_insert 145 = .ok (.goto 14, 3) := by decide +kernel
theorem dX10_insert_148 : decode cX10_insert 148 = .ok (.aload_n 0, 1) := by decide +kernel
theorem dX10_insert_149 : decode cX10_insert 149 = .ok (.getfield 25, 3) := by decide +kernel
theorem dX10_insert_152 : decode cX10_insert 152 = .ok (.iload_n 3, 1) := by decide +kernel
theorem dX10_insert_153 : decode cX10_insert 153 = .ok (.iload 5, 2) := by decide +kernel
theorem dX10_insert_155 : decode cX10_insert 155 = .ok (.iastore, 1) := by decide +kernel
theorem dX10_insert_156 : decode cX10_insert 156 = .ok (.iinc 3 1, 3) := by decide +kernel
theorem dX10_insert_159 : decode cX10_insert 159 = .ok (.iinc 4 1, 3) := by decide +kernel
theorem dX10_insert_162 : decode cX10_insert 162 = .ok (.goto (-90), 3) := by decide +kernel
theorem dX10_insert_165 : decode cX10_insert 165 = .ok (.iconst 0, 1) := by decide +kernel
theorem dX10_insert_166 : decode cX10_insert 166 = .ok (.istore 4, 2) := by decide +kernel
theorem dX10_insert_168 : decode cX10_insert 168 = .ok (.iload 4, 2) := by decide +kernel
theorem dX10_insert_170 : decode cX10_insert 170 = .ok (.iload_n 3, 1) := by decide +kernel
theorem dX10_insert_171 : decode cX10_insert 171 = .ok (.if_icmp .ge 28, 3) := by decide +kernel
theorem dX10_insert_174 : decode cX10_insert 174 = .ok (.aload_n 0, 1) := by decide +kernel
theorem dX10_insert_175 : decode cX10_insert 175 = .ok (.getfield 7, 3) := by decide +kernel
theorem dX10_insert_178 : decode cX10_insert 178 = .ok (.iload_n 1, 1) := by decide +kernel
theorem dX10_insert_179 : decode cX10_insert 179 = .ok (.invokestatic 106, 3) := by decide +kernel
theorem dX10_insert_182 : decode cX10_insert 182 = .ok (.iload 4, 2) := by decide +kernel
theorem dX10_insert_184 : decode cX10_insert 184 = .ok (.iadd, 1) := by decide +kernel
theorem dX10_insert_185 : decode cX10_insert 185 = .ok (.aload_n 0, 1) := by decide +kernel
theorem dX10_insert_186 : decode cX10_insert 186 = .ok (.getfield 25, 3) := by decide +kernel
theorem dX10_insert_189 : decode cX10_insert 189 = .ok (.iload 4, 2) := by decide +kernel
theorem dX10_insert_191 : decode cX10_insert 191 = .ok (.iaload, 1) := by decide +kernel
theorem dX10_insert_192 : decode cX10_insert 192 = .ok (.iastore, 1) := by decide +kernel
theorem dX10_insert_193 : decode cX10_insert 193 = .ok (.iinc 4 1, 3) := by decide +kernel
theorem dX10_insert_196 : decode cX10_insert 196 = .ok (.goto (-28), 3) := by decide +kernel
theorem dX10_insert_199 : decode cX10_insert 199 = .ok (.aload_n 0, 1) := by decide +kernel
theorem dX10_insert_200 : decode cX10_insert 200 = .ok (.getfield 7, 3) := by decide +kernel
theorem dX10_insert_203 : decode cX10_insert 203 = .ok (.iconst 1, 1) := by decide +kernel
theorem dX10_insert_204 : decode cX10_insert 204 = .ok (.sipush 250, 3) := by decide +kernel
theorem dX10_insert_207 : decode cX10_insert 207 = .ok (.iload_n 1, 1) := by decide +kernel
theorem dX10_insert_208 : decode cX10_insert 208 = .ok (.imul, 1) := by decide +kernel
theorem dX10_insert_209 : decode cX10_insert 209 = .ok (.iadd, 1) := by decide +kernel
theorem dX10_insert_210 : decode cX10_insert 210 = .ok (.iload_n 3, 1) := by decide +kernel
theorem dX10_insert_211 : decode cX10_insert 211 = .ok (.iastore, 1) := by decide +kernel
theorem dX10_insert_212 : decode cX10_insert 212 = .ok (.aload_n 0, 1) := by decide +kernel
theorem dX10_insert_213 : decode cX10_insert 213 = .ok (.iload_n 1, 1) := by decide +kernel
theorem dX10_insert_214 : decode cX10_insert 214 = .ok (.invokevirtual 119, 3) := by decide +kernel
theorem dX10_insert_217 : decode cX10_insert 217 = .ok (.ireturn, 1) := by decide +kernel
theorem dX10_lay_0 : decode cX10_lay 0 = .ok (.aload_n 0, 1) := by decide +kernel
theorem dX10_lay_1 : decode cX10_lay 1 = .ok (.getfield 25, 3) := by decide +kernel
theorem dX10_lay_4 : decode cX10_lay 4 = .ok (.aload_n 0, 1) := by decide +kernel
theorem dX10_lay_5 : decode cX10_lay 5 = .ok (.getfield 129, 3) := by decide +kernel
theorem dX10_lay_8 : decode cX10_lay 8 = .ok (.iload_n 1, 1) := by decide +kernel
theorem dX10_lay_9 : decode cX10_lay 9 = .ok (.iastore, 1) := by decide +kernel
theorem dX10_lay_10 : decode cX10_lay 10 = .ok (.aload_n 0, 1) := by decide +kernel
theorem dX10_lay_11 : decode cX10_lay 11 = .ok (.dup, 1) := by decide +kernel
theorem dX10_lay_12 : decode cX10_lay 12 = .ok (.getfield 129, 3) := by decide +kernel
theorem dX10_lay_15 : decode cX10_lay 15 = .ok (.iconst 1, 1) := by decide +kernel
theorem dX10_lay_16 : decode cX10_lay 16 = .ok (.iadd, 1) := by decide +kernel
theorem dX10_lay_17 : decode cX10_lay 17 = .ok (.putfield 129, 3) := by decide +kernel
theorem dX10_lay_20 : decode cX10_lay 20 = .ok (.return_, 1) := by decide +kernel
theorem dX10_layPart_0 : decode cX10_layPart 0 = .ok (.iload_n 1, 1) := by decide +kernel
theorem dX10_layPart_1 : decode cX10_layPart 1 = .ok (.istore_n 3, 1) := by decide +kernel
theorem dX10_layPart_2 : decode cX10_layPart 2 = .ok (.iload_n 3, 1) := by decide +kernel
theorem dX10_layPart_3 : decode cX10_layPart 3 = .ok (.iload_n 2, 1) := by decide +kernel
theorem dX10_layPart_4 : decode cX10_layPart 4 = .ok (.if_icmp .ge 19, 3) := by decide +kernel
theorem dX10_layPart_7 : decode cX10_layPart 7 = .ok (.aload_n 0, 1) := by decide +kernel
theorem dX10_layPart_8 : decode cX10_layPart 8 = .ok (.aload_n 0, 1) := by decide +kernel
theorem dX10_layPart_9 : decode cX10_layPart 9 = .ok (.getfield 28, 3) := by decide +kernel
theorem dX10_layPart_12 : decode cX10_layPart 12 = .ok (.iload_n 3, 1) := by decide +kernel
theorem dX10_layPart_13 : decode cX10_layPart 13 = .ok (.iaload, 1) := by decide +kernel
theorem dX10_layPart_14 : decode cX10_layPart 14 = .ok (.invokevirtual 132, 3) := by decide +kernel
theorem dX10_layPart_17 : decode cX10_layPart 17 = .ok (.iinc 3 1, 3) := by decide +kernel
theorem dX10_layPart_20 : decode cX10_layPart 20 = .ok (.goto (-18), 3) := by decide +kernel
theorem dX10_layPart_23 : decode cX10_layPart 23 = .ok (.return_, 1) := by decide +kernel
theorem dX10_isSamePart_0 : decode cX10_isSamePart 0 = .ok (.iconst 0, 1) := by decide +kernel
theorem dX10_isSamePart_1 : decode cX10_isSamePart 1 = .ok (.istore 4, 2) := by decide +kernel
theorem dX10_isSamePart_3 : decode cX10_isSamePart 3 = .ok (.iload 4, 2) := by decide +kernel
theorem dX10_isSamePart_5 : decode cX10_isSamePart 5 = .ok (.iload_n 3, 1) := by decide +kernel
theorem dX10_isSamePart_6 : decode cX10_isSamePart 6 = .ok (.if_icmp .ge 32, 3) := by decide +kernel
theorem dX10_isSamePart_9 : decode cX10_isSamePart 9 = .ok (.aload_n 0, 1) := by decide +kernel
theorem dX10_isSamePart_10 : decode cX10_isSamePart 10 = .ok (.getfield 28, 3) := by decide +kernel
theorem dX10_isSamePart_13 : decode cX10_isSamePart 13 = .ok (.iload_n 1, 1) := by decide +kernel
theorem dX10_isSamePart_14 : decode cX10_isSamePart 14 = .ok (.iload 4, 2) := by decide +kernel
theorem dX10_isSamePart_16 : decode cX10_isSamePart 16 = .ok (.iadd, 1) := by decide +kernel
theorem dX10_isSamePart_17 : decode cX10_isSamePart 17 = .ok (.iaload, 1) := by decide +kernel
theorem dX10_isSamePart_18 : decode cX10_isSamePart 18 = .ok (.aload_n 0, 1) := by decide +kernel
theorem dX10_isSamePart_19 : decode cX10_isSamePart 19 = .ok (.getfield 28, 3) := by decide +kernel
theorem dX10_isSamePart_22 : decode cX10_isSamePart 22 = .ok (.iload_n 2, 1) := by decide +kernel
theorem dX10_isSamePart_23 : decode cX10_isSamePart 23 = .ok (.iload 4, 2) := by decide +kernel
theorem dX10_isSamePart_25 : decode cX10_isSamePart 25 = .ok (.iadd, 1) := by decide +kernel
theorem dX10_isSamePart_26 : decode cX10_isSamePart 26 = .ok (.iaload, 1) := by decide +kernel
theorem dX10_isSamePart_27 : decode cX10_isSamePart 27 = .ok (.if_icmp .eq 5, 3) := by decide +kernel
theorem dX10_isSamePart_30 : decode cX10_isSamePart 30 = .ok (.iconst 0, 1) := by decide +kernel
theorem dX10_isSamePart_31 : decode cX10_isSamePart 31 = .ok (.ireturn, 1) := by decide +kernel
theorem dX10_isSamePart_32 : decode cX10_isSamePart 32 = .ok (.iinc 4 1, 3) := by decide +kernel
theorem dX10_isSamePart_35 : decode cX10_isSamePart 35 = .ok (.goto (-32), 3) := by decide +kernel
theorem dX10_isSamePart_38 : decode cX10_isSamePart 38 = .ok (.iconst 1, 1) := by decide +kernel
theorem dX10_isSamePart_39 : decode cX10_isSamePart 39 = .ok (.ireturn, 1) := by decide +kernel
theorem dX10_layTail_0 : decode cX10_layTail 0 = .ok (.aload_n 0, 1) := by decide +kernel
theorem dX10_layTail_1 : decode cX10_layTail 1 = .ok (.getfield 28, 3) := by decide +kernel
theorem dX10_layTail_4 : decode cX10_layTail 4 = .ok (.iload_n 1, 1) := by decide +kernel
theorem dX10_layTail_5 : decode cX10_layTail 5 = .ok (.iconst 1, 1) := by decide +kernel
theorem dX10_layTail_6 : decode cX10_layTail 6 = .ok (.iadd, 1) := by decide +kernel
theorem dX10_layTail_7 : decode cX10_layTail 7 = .ok (.iaload, 1) := by decide +kernel
theorem dX10_layTail_8 : decode cX10_layTail 8 = .ok (.istore_n 2, 1) := by decide +kernel
theorem dX10_layTail_9 : decode cX10_layTail 9 = .ok (.aload_n 0, 1) := by decide +kernel
theorem dX10_layTail_10 : decode cX10_layTail 10 = .ok (.getfield 28, 3) := by decide +kernel
theorem dX10_layTail_13 : decode cX10_layTail 13 = .ok (.iload_n 1, 1) := by decide +kernel
theorem dX10_layTail_14 : decode cX10_layTail 14 = .ok (.invokestatic 136, 3) := by decide +kernel
theorem dX10_layTail_17 : decode cX10_layTail 17 = .ok (.istore_n 3, 1) := by decide +kernel
theorem dX10_layTail_18 : decode cX10_layTail 18 = .ok (.iload_n 1, 1) := by decide +kernel
theorem dX10_layTail_19 : decode cX10_layTail 19 = .ok (.iconst 2, 1) := by decide +kernel
theorem dX10_layTail_20 : decode cX10_layTail 20 = .ok (.iadd, 1) := by decide +kernel
theorem dX10_layTail_21 : decode cX10_layTail 21 = .ok (.istore 4, 2) := by decide +kernel
theorem dX10_layTail_23 : decode cX10_layTail 23 = .ok (.iload_n 2, 1) := by decide +kernel
theorem dX10_layTail_24 : decode cX10_layTail 24 = .ok (.lookupswitch 187 #[(42, 70), (43, 70), (58, 60), (101, 161), (111, 161), (122, 118)], 60) := by decide +kernel
theorem dX10_layTail_84 : decode cX10_layTail 84 = .ok (.aload_n 0, 1) := by decide +kernel
theorem dX10_layTail_85 : decode cX10_layTail 85 = .ok (.iload_n 1, 1) := by decide +kernel
theorem dX10_layTail_86 : decode cX10_layTail 86 = .ok (.iconst 3, 1) := by decide +kernel
theorem dX10_layTail_87 : decode cX10_layTail 87 = .ok (.iadd, 1) := by decide +kernel
theorem dX10_layTail_88 : decode cX10_layTail 88 = .ok (.iload_n 3, 1) := by decide +kernel
theorem dX10_layTail_89 : decode cX10_layTail 89 = .ok (.invokevirtual 140, 3) := by decide +kernel
theorem dX10_layTail_92 : decode cX10_layTail 92 = .ok (.iconst 1, 1) := by decide +kernel
theorem dX10_layTail_93 : decode cX10_layTail 93 = .ok (.ireturn, 1) := by decide +kernel
theorem dX10_layTail_94 : decode cX10_layTail 94 = .ok (.aload_n 0, 1) := by decide +kernel
theorem dX10_layTail_95 : decode cX10_layTail 95 = .ok (.iload_n 2, 1) := by decide +kernel
theorem dX10_layTail_96 : decode cX10_layTail 96 = .ok (.invokevirtual 132, 3) := by decide +kernel
theorem dX10_layTail_99 : decode cX10_layTail 99 = .ok (.aload_n 0, 1) := by decide +kernel
theorem dX10_layTail_100 : decode cX10_layTail 100 = .ok (.bipush 116, 2) := by decide +kernel
theorem dX10_layTail_102 : decode cX10_layTail 102 = .ok (.invokevirtual 132, 3) := by decide +kernel
theorem dX10_layTail_105 : decode cX10_layTail 105 = .ok (.aload_n 0, 1) := by decide +kernel
theorem dX10_layTail_106 : decode cX10_layTail 106 = .ok (.iload 4, 2) := by decide +kernel
theorem dX10_layTail_108 : decode cX10_layTail 108 = .ok (.aload_n 0, 1) := by decide +kernel
theorem dX10_layTail_109 : decode cX10_layTail 109 = .ok (.getfield 28, 3) := by decide +kernel
theorem dX10_layTail_112 : decode cX10_layTail 112 = .ok (.iload 4, 2) := by decide +kernel
theorem dX10_layTail_114 : decode cX10_layTail 114 = .ok (.invokestatic 136, 3) := by decide +kernel
theorem dX10_layTail_117 : decode cX10_layTail 117 = .ok (.invokevirtual 140, 3) := by decide +kernel
theorem dX10_layTail_120 : decode cX10_layTail 120 = .ok (.aload_n 0, 1) := by decide +kernel
theorem dX10_layTail_121 : decode cX10_layTail 121 = .ok (.bipush 116, 2) := by decide +kernel
theorem dX10_layTail_123 : decode cX10_layTail 123 = .ok (.invokevirtual 132, 3) := by decide +kernel
theorem dX10_layTail_126 : decode cX10_layTail 126 = .ok (.aload_n 0, 1) := by decide +kernel
theorem dX10_layTail_127 : decode cX10_layTail 127 = .ok (.aload_n 0, 1) := by decide +kernel
theorem dX10_layTail_128 : decode cX10_layTail 128 = .ok (.getfield 28, 3) := by decide +kernel
theorem dX10_layTail_131 : decode cX10_layTail 131 = .ok (.iload 4, 2) := by decide +kernel
theorem dX10_layTail_133 : decode cX10_layTail 133 = .ok (.invokestatic 136, 3) := by decide +kernel
theorem dX10_layTail_136 : decode cX10_layTail 136 = .ok (.iload_n 3, 1) := by decide +kernel
theorem dX10_layTail_137 : decode cX10_layTail 137 = .ok (.invokevirtual 140, 3) := by decide +kernel
theorem dX10_layTail_140 : decode cX10_layTail 140 = .ok (.iconst 1, 1) := by decide +kernel
theorem dX10_layTail_141 : decode cX10_layTail 141 = .ok (.ireturn, 1) := by decide +kernel
theorem dX10_layTail_142 : decode cX10_layTail 142 = .ok (.aload_n 0, 1) := by decide +kernel
theorem dX10_layTail_143 : decode cX10_layTail 143 = .ok (.bipush 122, 2) := by decide +kernel
theorem dX10_layTail_145 : decode cX10_layTail 145 = .ok (.invokevirtual 132, 3) := by decide +kernel
theorem dX10_layTail_148 : decode cX10_layTail 148 = .ok (.aload_n 0, 1) := by decide +kernel
theorem dX10_layTail_149 : decode cX10_layTail 149 = .ok (.aload_n 0, 1) := by decide +kernel
theorem dX10_layTail_150 : decode cX10_layTail 150 = .ok (.getfield 28, 3) := by decide +kernel
theorem dX10_layTail_153 : decode cX10_layTail 153 = .ok (.iload 4, 2) := by decide +kernel
theorem dX10_layTail_155 : decode cX10_layTail 155 = .ok (.invokestatic 136, 3) := by decide +kernel
theorem dX10_layTail_158 : decode cX10_layTail 158 = .ok (.iload_n 3, 1) := by decide +kernel
theorem dX10_layTail_159 : decode cX10_layTail 159 = .ok (.invokevirtual 140, 3) := by decide +kernel
theorem dX10_layTail_162 : decode cX10_layTail 162 = .ok (.aload_n 0, 1) := by decide +kernel
theorem dX10_layTail_163 : decode cX10_layTail 163 = .ok (.bipush 116, 2) := by decide +kernel
theorem dX10_layTail_165 : decode cX10_layTail 165 = .ok (.invokevirtual 132, 3) := by decide +kernel
theorem dX10_layTail_168 : decode cX10_layTail 168 = .ok (.aload_n 0, 1) := by decide +kernel
theorem dX10_layTail_169 : decode cX10_layTail 169 = .ok (.iload 4, 2) := by decide +kernel
theorem dX10_layTail_171 : decode cX10_layTail 171 = .ok (.aload_n 0, 1) := by decide +kernel
theorem dX10_layTail_172 : decode cX10_layTail 172 = .ok (.getfield 28, 3) := by decide +kernel
theorem dX10_layTail_175 : decode cX10_layTail 175 = .ok (.iload 4, 2) := by decide +kernel
theorem dX10_layTail_177 : decode cX10_layTail 177 = .ok (.invokestatic 136, 3) := by decide +kernel
theorem dX10_layTail_180 : decode cX10_layTail 180 = .ok (.invokevirtual 140, 3) := by decide +kernel
theorem dX10_layTail_183 : decode cX10_layTail 183 = .ok (.iconst 1, 1) := by decide +kernel
theorem dX10_layTail_184 : decode cX10_layTail 184 = .ok (.ireturn, 1) := by decide +kernel
theorem dX10_layTail_185 : decode cX10_layTail 185 = .ok (.aload_n 0, 1) := by decide +kernel
theorem dX10_layTail_186 : decode cX10_layTail 186 = .ok (.iload_n 2, 1) := by decide +kernel
theorem dX10_layTail_187 : decode cX10_layTail 187 = .ok (.invokevirtual 132, 3) := by decide +kernel
theorem dX10_layTail_190 : decode cX10_layTail 190 = .ok (.aload_n 0, 1) := by decide +kernel
theorem dX10_layTail_191 : decode cX10_layTail 191 = .ok (.bipush 116, 2) := by decide +kernel
theorem dX10_layTail_193 : decode cX10_layTail 193 = .ok (.invokevirtual 132, 3) := by decide +kernel
theorem dX10_layTail_196 : decode cX10_layTail 196 = .ok (.aload_n 0, 1) := by decide +kernel
theorem dX10_layTail_197 : decode cX10_layTail 197 = .ok (.bipush 116, 2) := by decide +kernel
theorem dX10_layTail_199 : decode cX10_layTail 199 = .ok (.invokevirtual 132, 3) := by decide +kernel
theorem dX10_layTail_202 : decode cX10_layTail 202 = .ok (.aload_n 0, 1) := by decide +kernel
theorem dX10_layTail_203 : decode cX10_layTail 203 = .ok (.iload 4, 2) := by decide +kernel
theorem dX10_layTail_205 : decode cX10_layTail 205 = .ok (.iload_n 3, 1) := by decide +kernel
theorem dX10_layTail_206 : decode cX10_layTail 206 = .ok (.invokevirtual 140, 3) := by decide +kernel
theorem dX10_layTail_209 : decode cX10_layTail 209 = .ok (.iconst 1, 1) := by decide +kernel
theorem dX10_layTail_210 : decode cX10_layTail 210 = .ok (.ireturn, 1) := by decide +kernel
theorem dX10_layTail_211 : decode cX10_layTail 211 = .ok (.iload_n 2, 1) := by decide +kernel
theorem dX10_layTail_212 : decode cX10_layTail 212 = .ok (.invokestatic 93, 3) := by decide +kernel
theorem dX10_layTail_215 : decode cX10_layTail 215 = .ok (.ifCond .eq 10, 3) := by decide +kernel
theorem dX10_layTail_218 : decode cX10_layTail 218 = .ok (.aload_n 0, 1) := by decide +kernel
theorem dX10_layTail_219 : decode cX10_layTail 219 = .ok (.iload_n 2, 1) := by decide +kernel
theorem dX10_layTail_220 : decode cX10_layTail 220 = .ok (.invokevirtual 132, 3) := by decide +kernel
theorem dX10_layTail_223 : decode cX10_layTail 223 = .ok (.iconst 1, 1) := by decide +kernel
theorem dX10_layTail_224 : decode cX10_layTail 224 = .ok (.ireturn, 1) := by decide +kernel
theorem dX10_layTail_225 : decode cX10_layTail 225 = .ok (.iconst 0, 1) := by decide +kernel
theorem dX10_layTail_226 : decode cX10_layTail 226 = .ok (.ireturn, 1) := by decide +kernel
theorem dX10_layEvery_0 : decode cX10_layEvery 0 = .ok (.aload_n 0, 1) := by decide +kernel
theorem dX10_layEvery_1 : decode cX10_layEvery 1 = .ok (.getfield 28, 3) := by decide +kernel
theorem dX10_layEvery_4 : decode cX10_layEvery 4 = .ok (.iload_n 1, 1) := by decide +kernel
theorem dX10_layEvery_5 : decode cX10_layEvery 5 = .ok (.iconst 1, 1) := by decide +kernel
theorem dX10_layEvery_6 : decode cX10_layEvery 6 = .ok (.iadd, 1) := by decide +kernel
theorem dX10_layEvery_7 : decode cX10_layEvery 7 = .ok (.iaload, 1) := by decide +kernel
theorem dX10_layEvery_8 : decode cX10_layEvery 8 = .ok (.istore_n 2, 1) := by decide +kernel
theorem dX10_layEvery_9 : decode cX10_layEvery 9 = .ok (.iload_n 1, 1) := by decide +kernel
theorem dX10_layEvery_10 : decode cX10_layEvery 10 = .ok (.iconst 2, 1) := by decide +kernel
theorem dX10_layEvery_11 : decode cX10_layEvery 11 = .ok (.iadd, 1) := by decide +kernel
theorem dX10_layEvery_12 : decode cX10_layEvery 12 = .ok (.istore_n 3, 1) := by decide +kernel
theorem dX10_layEvery_13 : decode cX10_layEvery 13 = .ok (.iload_n 2, 1) := by decide +kernel
theorem dX10_layEvery_14 : decode cX10_layEvery 14 = .ok (.invokestatic 93, 3) := by decide +kernel
theorem dX10_layEvery_17 : decode cX10_layEvery 17 = .ok (.ifCond .eq 10, 3) := by decide +kernel
theorem dX10_layEvery_20 : decode cX10_layEvery 20 = .ok (.aload_n 0, 1) := by decide +kernel
theorem dX10_layEvery_21 : decode cX10_layEvery 21 = .ok (.iload_n 2, 1) := by decide +kernel
theorem dX10_layEvery_22 : decode cX10_layEvery 22 = .ok (.invokevirtual 132, 3) := by decide +kernel
theorem dX10_layEvery_25 : decode cX10_layEvery 25 = .ok (.iconst 1, 1) := by decide +kernel
theorem dX10_layEvery_26 : decode cX10_layEvery 26 = .ok (.ireturn, 1) := by decide +kernel
theorem dX10_layEvery_27 : decode cX10_layEvery 27 = .ok (.iload_n 2, 1) := by decide +kernel
theorem dX10_layEvery_28 : decode cX10_layEvery 28 = .ok (.bipush 122, 2) := by decide +kernel
theorem dX10_layEvery_30 : decode cX10_layEvery 30 = .ok (.if_icmp .eq 5, 3) := by decide +kernel
theorem dX10_layEvery_33 : decode cX10_layEvery 33 = .ok (.iconst 0, 1) := by decide +kernel
theorem dX10_layEvery_34 : decode cX10_layEvery 34 = .ok (.ireturn, 1) := by decide +kernel
theorem dX10_layEvery_35 : decode cX10_layEvery 35 = .ok (.aload_n 0, 1) := by decide +kernel
theorem dX10_layEvery_36 : decode cX10_layEvery 36 = .ok (.getfield 28, 3) := by decide +kernel
theorem dX10_layEvery_39 : decode cX10_layEvery 39 = .ok (.iload_n 3, 1) := by decide +kernel
theorem dX10_layEvery_40 : decode cX10_layEvery 40 = .ok (.invokestatic 136, 3) := by decide +kernel
theorem dX10_layEvery_43 : decode cX10_layEvery 43 = .ok (.istore 4, 2) := by decide +kernel
theorem dX10_layEvery_45 : decode cX10_layEvery 45 = .ok (.aload_n 0, 1) := by decide +kernel
theorem dX10_layEvery_46 : decode cX10_layEvery 46 = .ok (.getfield 28, 3) := by decide +kernel
theorem dX10_layEvery_49 : decode cX10_layEvery 49 = .ok (.iload_n 1, 1) := by decide +kernel
theorem dX10_layEvery_50 : decode cX10_layEvery 50 = .ok (.iaload, 1) := by decide +kernel
theorem dX10_layEvery_51 : decode cX10_layEvery 51 = .ok (.bipush 101, 2) := by decide +kernel
theorem dX10_layEvery_53 : decode cX10_layEvery 53 = .ok (.if_icmp .ne 13, 3) := by decide +kernel
theorem dX10_layEvery_56 : decode cX10_layEvery 56 = .ok (.aload_n 0, 1) := by decide +kernel
theorem dX10_layEvery_57 : decode cX10_layEvery 57 = .ok (.iload_n 3, 1) := by decide +kernel
theorem dX10_layEvery_58 : decode cX10_layEvery 58 = .ok (.iload 4, 2) := by decide +kernel
theorem dX10_layEvery_60 : decode cX10_layEvery 60 = .ok (.invokevirtual 140, 3) := by decide +kernel
theorem dX10_layEvery_63 : decode cX10_layEvery 63 = .ok (.goto 18, 3) := by decide +kernel
theorem dX10_layEvery_66 : decode cX10_layEvery 66 = .ok (.aload_n 0, 1) := by decide +kernel
theorem dX10_layEvery_67 : decode cX10_layEvery 67 = .ok (.iload 4, 2) := by decide +kernel
theorem dX10_layEvery_69 : decode cX10_layEvery 69 = .ok (.aload_n 0, 1) := by decide +kernel
theorem dX10_layEvery_70 : decode cX10_layEvery 70 = .ok (.getfield 28, 3) := by decide +kernel
theorem dX10_layEvery_73 : decode cX10_layEvery 73 = .ok (.iload 4, 2) := by decide +kernel
theorem dX10_layEvery_75 : decode cX10_layEvery 75 = .ok (.invokestatic 136, 3) := by decide +kernel
theorem dX10_layEvery_78 : decode cX10_layEvery 78 = .ok (.invokevirtual 140, 3) := by decide +kernel
theorem dX10_layEvery_81 : decode cX10_layEvery 81 = .ok (.iconst 1, 1) := by decide +kernel
theorem dX10_layEvery_82 : decode cX10_layEvery 82 = .ok (.ireturn, 1) := by decide +kernel
theorem dX10_layZip_0 : decode cX10_layZip 0 = .ok (.iload_n 1, 1) := by decide +kernel
theorem dX10_layZip_1 : decode cX10_layZip 1 = .ok (.iconst 1, 1) := by decide +kernel
theorem dX10_layZip_2 : decode cX10_layZip 2 = .ok (.iadd, 1) := by decide +kernel
theorem dX10_layZip_3 : decode cX10_layZip 3 = .ok (.istore_n 2, 1) := by decide +kernel
theorem dX10_layZip_4 : decode cX10_layZip 4 = .ok (.aload_n 0, 1) := by decide +kernel
theorem dX10_layZip_5 : decode cX10_layZip 5 = .ok (.getfield 28, 3) := by decide +kernel
theorem dX10_layZip_8 : decode cX10_layZip 8 = .ok (.iload_n 2, 1) := by decide +kernel
theorem dX10_layZip_9 : decode cX10_layZip 9 = .ok (.invokestatic 136, 3) := by decide +kernel
theorem dX10_layZip_12 : decode cX10_layZip 12 = .ok (.istore_n 3, 1) := by decide +kernel
theorem dX10_layZip_13 : decode cX10_layZip 13 = .ok (.aload_n 0, 1) := by decide +kernel
theorem dX10_layZip_14 : decode cX10_layZip 14 = .ok (.getfield 28, 3) := by decide +kernel
theorem dX10_layZip_17 : decode cX10_layZip 17 = .ok (.iload_n 3, 1) := by decide +kernel
theorem dX10_layZip_18 : decode cX10_layZip 18 = .ok (.invokestatic 136, 3) := by decide +kernel
theorem dX10_layZip_21 : decode cX10_layZip 21 = .ok (.istore 4, 2) := by decide +kernel
theorem dX10_layZip_23 : decode cX10_layZip 23 = .ok (.aload_n 0, 1) := by decide +kernel
theorem dX10_layZip_24 : decode cX10_layZip 24 = .ok (.getfield 28, 3) := by decide +kernel
theorem dX10_layZip_27 : decode cX10_layZip 27 = .ok (.iload_n 2, 1) := by decide +kernel
theorem dX10_layZip_28 : decode cX10_layZip 28 = .ok (.iaload, 1) := by decide +kernel
theorem dX10_layZip_29 : decode cX10_layZip 29 = .ok (.bipush 101, 2) := by decide +kernel
theorem dX10_layZip_31 : decode cX10_layZip 31 = .ok (.if_icmp .ne 46, 3) := by decide +kernel
theorem dX10_layZip_34 : decode cX10_layZip 34 = .ok (.aload_n 0, 1) := by decide +kernel
theorem dX10_layZip_35 : decode cX10_layZip 35 = .ok (.getfield 28, 3) := by decide +kernel
theorem dX10_layZip_38 : decode cX10_layZip 38 = .ok (.iload_n 3, 1) := by decide +kernel
theorem dX10_layZip_39 : decode cX10_layZip 39 = .ok (.iaload, 1) := by decide +kernel
theorem dX10_layZip_40 : decode cX10_layZip 40 = .ok (.bipush 111, 2) := by decide +kernel
theorem dX10_layZip_42 : decode cX10_layZip 42 = .ok (.if_icmp .ne 35, 3) := by decide +kernel
theorem dX10_layZip_45 : decode cX10_layZip 45 = .ok (.iload_n 3, 1) := by decide +kernel
theorem dX10_layZip_46 : decode cX10_layZip 46 = .ok (.iload_n 2, 1) := by decide +kernel
theorem dX10_layZip_47 : decode cX10_layZip 47 = .ok (.isub, 1) := by decide +kernel
theorem dX10_layZip_48 : decode cX10_layZip 48 = .ok (.iload 4, 2) := by decide +kernel
theorem dX10_layZip_50 : decode cX10_layZip 50 = .ok (.iload_n 3, 1) := by decide +kernel
theorem dX10_layZip_51 : decode cX10_layZip 51 = .ok (.isub, 1) := by decide +kernel
theorem dX10_layZip_52 : decode cX10_layZip 52 = .ok (.if_icmp .ne 25, 3) := by decide +kernel
theorem dX10_layZip_55 : decode cX10_layZip 55 = .ok (.aload_n 0, 1) := by decide +kernel
theorem dX10_layZip_56 : decode cX10_layZip 56 = .ok (.iload_n 2, 1) := by decide +kernel
theorem dX10_layZip_57 : decode cX10_layZip 57 = .ok (.iconst 1, 1) := by decide +kernel
theorem dX10_layZip_58 : decode cX10_layZip 58 = .ok (.iadd, 1) := by decide +kernel
theorem dX10_layZip_59 : decode cX10_layZip 59 = .ok (.iload_n 3, 1) := by decide +kernel
theorem dX10_layZip_60 : decode cX10_layZip 60 = .ok (.iconst 1, 1) := by decide +kernel
theorem dX10_layZip_61 : decode cX10_layZip 61 = .ok (.iadd, 1) := by decide +kernel
theorem dX10_layZip_62 : decode cX10_layZip 62 = .ok (.iload_n 3, 1) := by decide +kernel
theorem dX10_layZip_63 : decode cX10_layZip 63 = .ok (.iload_n 2, 1) := by decide +kernel
theorem dX10_layZip_64 : decode cX10_layZip 64 = .ok (.isub, 1) := by decide +kernel
theorem dX10_layZip_65 : decode cX10_layZip 65 = .ok (.iconst 1, 1) := by decide +kernel
theorem dX10_layZip_66 : decode cX10_layZip 66 = .ok (.isub, 1) := by decide +kernel
theorem dX10_layZip_67 : decode cX10_layZip 67 = .ok (.invokevirtual 144, 3) := by decide +kernel
theorem dX10_layZip_70 : decode cX10_layZip 70 = .ok (.ifCond .eq 7, 3) := by decide +kernel
theorem dX10_layZip_73 : decode cX10_layZip 73 = .ok (.iconst 1, 1) := by decide +kernel
theorem dX10_layZip_74 : decode cX10_layZip 74 = .ok (.goto 4, 3) := by decide +kernel
theorem dX10_layZip_77 : decode cX10_layZip 77 = .ok (.iconst 0, 1) := by decide +kernel
theorem dX10_layZip_78 : decode cX10_layZip 78 = .ok (.istore 5, 2) := by decide +kernel
theorem dX10_layZip_80 : decode cX10_layZip 80 = .ok (.iload 5, 2) := by decide +kernel
theorem dX10_layZip_82 : decode cX10_layZip 82 = .ok (.ifCond .eq 11, 3) := by decide +kernel
theorem dX10_layZip_85 : decode cX10_layZip 85 = .ok (.aload_n 0, 1) := by decide +kernel
theorem dX10_layZip_86 : decode cX10_layZip 86 = .ok (.iload_n 2, 1) := by decide +kernel
theorem dX10_layZip_87 : decode cX10_layZip 87 = .ok (.iconst 1, 1) := by decide +kernel
theorem dX10_layZip_88 : decode cX10_layZip 88 = .ok (.iadd, 1) := by decide +kernel
theorem dX10_layZip_89 : decode cX10_layZip 89 = .ok (.iload_n 3, 1) := by decide +kernel
theorem dX10_layZip_90 : decode cX10_layZip 90 = .ok (.invokevirtual 140, 3) := by decide +kernel
theorem dX10_layZip_93 : decode cX10_layZip 93 = .ok (.iload 5, 2) := by decide +kernel
theorem dX10_layZip_95 : decode cX10_layZip 95 = .ok (.ireturn, 1) := by decide +kernel
theorem dX10_layRule_0 : decode cX10_layRule 0 = .ok (.aload_n 0, 1) := by decide +kernel
theorem dX10_layRule_1 : decode cX10_layRule 1 = .ok (.getfield 28, 3) := by decide +kernel
theorem dX10_layRule_4 : decode cX10_layRule 4 = .ok (.iload_n 1, 1) := by decide +kernel
theorem dX10_layRule_5 : decode cX10_layRule 5 = .ok (.iaload, 1) := by decide +kernel
theorem dX10_layRule_6 : decode cX10_layRule 6 = .ok (.lookupswitch 60 #[(101, 48), (111, 48), (116, 42), (122, 54)], 42) := by decide +kernel
theorem dX10_layRule_48 : decode cX10_layRule 48 = .ok (.aload_n 0, 1) := by decide +kernel
theorem dX10_layRule_49 : decode cX10_layRule 49 = .ok (.iload_n 1, 1) := by decide +kernel
theorem dX10_layRule_50 : decode cX10_layRule 50 = .ok (.invokevirtual 147, 3) := by decide +kernel
theorem dX10_layRule_53 : decode cX10_layRule 53 = .ok (.ireturn, 1) := by decide +kernel
theorem dX10_layRule_54 : decode cX10_layRule 54 = .ok (.aload_n 0, 1) := by decide +kernel
theorem dX10_layRule_55 : decode cX10_layRule 55 = .ok (.iload_n 1, 1) := by decide +kernel
theorem dX10_layRule_56 : decode cX10_layRule 56 = .ok (.invokevirtual 150, 3) := by decide +kernel
theorem dX10_layRule_59 : decode cX10_layRule 59 = .ok (.ireturn, 1) := by decide +kernel
theorem dX10_layRule_60 : decode cX10_layRule 60 = .ok (.aload_n 0, 1) := by decide +kernel
theorem dX10_layRule_61 : decode cX10_layRule 61 = .ok (.iload_n 1, 1) := by decide +kernel
theorem dX10_layRule_62 : decode cX10_layRule 62 = .ok (.invokevirtual 153, 3) := by decide +kernel
theorem dX10_layRule_65 : decode cX10_layRule 65 = .ok (.ireturn, 1) := by decide +kernel
theorem dX10_layRule_66 : decode cX10_layRule 66 = .ok (.iconst 0, 1) := by decide +kernel
theorem dX10_layRule_67 : decode cX10_layRule 67 = .ok (.ireturn, 1) := by decide +kernel
theorem dX10_simplifies_0 : decode cX10_simplifies 0 = .ok (.iconst 0, 1) := by decide +kernel
theorem dX10_simplifies_1 : decode cX10_simplifies 1 = .ok (.istore_n 1, 1) := by decide +kernel
theorem dX10_simplifies_2 : decode cX10_simplifies 2 = .ok (.iload_n 1, 1) := by decide +kernel
theorem dX10_simplifies_3 : decode cX10_simplifies 3 = .ok (.aload_n 0, 1) := by decide +kernel
theorem dX10_simplifies_4 : decode cX10_simplifies 4 = .ok (.getfield 156, 3) := by decide +kernel
theorem dX10_simplifies_7 : decode cX10_simplifies 7 = .ok (.if_icmp .ge 98, 3) := by decide +kernel
theorem dX10_simplifies_10 : decode cX10_simplifies 10 = .ok (.aload_n 0, 1) := by decide +kernel
theorem dX10_simplifies_11 : decode cX10_simplifies 11 = .ok (.iconst 0, 1) := by decide +kernel
theorem dX10_simplifies_12 : decode cX10_simplifies 12 = .ok (.putfield 129, 3) := by decide +kernel
theorem dX10_simplifies_15 : decode cX10_simplifies 15 = .ok (.aload_n 0, 1) := by decide +kernel
theorem dX10_simplifies_16 : decode cX10_simplifies 16 = .ok (.iconst 0, 1) := by decide +kernel
theorem dX10_simplifies_17 : decode cX10_simplifies 17 = .ok (.iload_n 1, 1) := by decide +kernel
theorem dX10_simplifies_18 : decode cX10_simplifies 18 = .ok (.invokevirtual 140, 3) := by decide +kernel
theorem dX10_simplifies_21 : decode cX10_simplifies 21 = .ok (.aload_n 0, 1) := by decide +kernel
theorem dX10_simplifies_22 : decode cX10_simplifies 22 = .ok (.iload_n 1, 1) := by decide +kernel
theorem dX10_simplifies_23 : decode cX10_simplifies 23 = .ok (.invokevirtual 159, 3) := by decide +kernel
theorem dX10_simplifies_26 : decode cX10_simplifies 26 = .ok (.ifCond .eq 57, 3) := by decide +kernel
theorem dX10_simplifies_29 : decode cX10_simplifies 29 = .ok (.aload_n 0, 1) := by decide +kernel
theorem dX10_simplifies_30 : decode cX10_simplifies 30 = .ok (.aload_n 0, 1) := by decide +kernel
theorem dX10_simplifies_31 : decode cX10_simplifies 31 = .ok (.getfield 28, 3) := by decide +kernel
theorem dX10_simplifies_34 : decode cX10_simplifies 34 = .ok (.iload_n 1, 1) := by decide +kernel
theorem dX10_simplifies_35 : decode cX10_simplifies 35 = .ok (.invokestatic 136, 3) := by decide +kernel
theorem dX10_simplifies_38 : decode cX10_simplifies 38 = .ok (.aload_n 0, 1) := by decide +kernel
theorem dX10_simplifies_39 : decode cX10_simplifies 39 = .ok (.getfield 156, 3) := by decide +kernel
theorem dX10_simplifies_42 : decode cX10_simplifies 42 = .ok (.invokevirtual 140, 3) := by decide +kernel
theorem dX10_simplifies_45 : decode cX10_simplifies 45 = .ok (.iconst 0, 1) := by decide +kernel
theorem dX10_simplifies_46 : decode cX10_simplifies 46 = .ok (.istore_n 2, 1) := by decide +kernel
theorem dX10_simplifies_47 : decode cX10_simplifies 47 = .ok (.iload_n 2, 1) := by decide +kernel
theorem dX10_simplifies_48 : decode cX10_simplifies 48 = .ok (.aload_n 0, 1) := by decide +kernel
theorem dX10_simplifies_49 : decode cX10_simplifies 49 = .ok (.getfield 129, 3) := by decide +kernel
theorem dX10_simplifies_52 : decode cX10_simplifies 52 = .ok (.if_icmp .ge 21, 3) := by decide +kernel
theorem dX10_simplifies_55 : decode cX10_simplifies 55 = .ok (.aload_n 0, 1) := by decide +kernel
theorem dX10_simplifies_56 : decode cX10_simplifies 56 = .ok (.getfield 28, 3) := by decide +kernel
theorem dX10_simplifies_59 : decode cX10_simplifies 59 = .ok (.iload_n 2, 1) := by decide +kernel
theorem dX10_simplifies_60 : decode cX10_simplifies 60 = .ok (.aload_n 0, 1) := by decide +kernel
theorem dX10_simplifies_61 : decode cX10_simplifies 61 = .ok (.getfield 25, 3) := by decide +kernel
theorem dX10_simplifies_64 : decode cX10_simplifies 64 = .ok (.iload_n 2, 1) := by decide +kernel
theorem dX10_simplifies_65 : decode cX10_simplifies 65 = .ok (.iaload, 1) := by decide +kernel
theorem dX10_simplifies_66 : decode cX10_simplifies 66 = .ok (.iastore, 1) := by decide +kernel
theorem dX10_simplifies_67 : decode cX10_simplifies 67 = .ok (.iinc 2 1, 3) := by decide +kernel
theorem dX10_simplifies_70 : decode cX10_simplifies 70 = .ok (.goto (-23), 3) := by decide +kernel
theorem dX10_simplifies_73 : decode cX10_simplifies 73 = .ok (.aload_n 0, 1) := by decide +kernel
theorem dX10_simplifies_74 : decode cX10_simplifies 74 = .ok (.aload_n 0, 1) := by decide +kernel
theorem dX10_simplifies_75 : decode cX10_simplifies 75 = .ok (.getfield 129, 3) := by decide +kernel
theorem dX10_simplifies_78 : decode cX10_simplifies 78 = .ok (.putfield 156, 3) := by decide +kernel
theorem dX10_simplifies_81 : decode cX10_simplifies 81 = .ok (.iconst 1, 1) := by decide +kernel
theorem dX10_simplifies_82 : decode cX10_simplifies 82 = .ok (.ireturn, 1) := by decide +kernel
theorem dX10_simplifies_83 : decode cX10_simplifies 83 = .ok (.iload_n 1, 1) := by decide +kernel
theorem dX10_simplifies_84 : decode cX10_simplifies 84 = .ok (.aload_n 0, 1) := by decide +kernel
theorem dX10_simplifies_85 : decode cX10_simplifies 85 = .ok (.getfield 28, 3) := by decide +kernel
theorem dX10_simplifies_88 : decode cX10_simplifies 88 = .ok (.iload_n 1, 1) := by decide +kernel
theorem dX10_simplifies_89 : decode cX10_simplifies 89 = .ok (.iaload, 1) := by decide +kernel
theorem dX10_simplifies_90 : decode cX10_simplifies 90 = .ok (.bipush 58, 2) := by decide +kernel
theorem dX10_simplifies_92 : decode cX10_simplifies 92 = .ok (.if_icmp .ne 7, 3) := by decide +kernel
theorem dX10_simplifies_95 : decode cX10_simplifies 95 = .ok (.iconst 2, 1) := by decide +kernel
theorem dX10_simplifies_96 : decode cX10_simplifies 96 = .ok (.goto 4, 3) := by decide +kernel
theorem dX10_simplifies_99 : decode cX10_simplifies 99 = .ok (.iconst 1, 1) := by decide +kernel
theorem dX10_simplifies_100 : decode cX10_simplifies 100 = .ok (.iadd, 1) := by decide +kernel
theorem dX10_simplifies_101 : decode cX10_simplifies 101 = .ok (.istore_n 1, 1) := by decide +kernel
theorem dX10_simplifies_102 : decode cX10_simplifies 102 = .ok (.goto (-100), 3) := by decide +kernel
theorem dX10_simplifies_105 : decode cX10_simplifies 105 = .ok (.iconst 0, 1) := by decide +kernel
theorem dX10_simplifies_106 : decode cX10_simplifies 106 = .ok (.ireturn, 1) := by decide +kernel
theorem dX10_oldSize_0 : decode cX10_oldSize 0 = .ok (.iconst 0, 1) := by decide +kernel
theorem dX10_oldSize_1 : decode cX10_oldSize 1 = .ok (.istore_n 1, 1) := by decide +kernel
theorem dX10_oldSize_2 : decode cX10_oldSize 2 = .ok (.iconst 0, 1) := by decide +kernel
theorem dX10_oldSize_3 : decode cX10_oldSize 3 = .ok (.istore_n 2, 1) := by decide +kernel
theorem dX10_oldSize_4 : decode cX10_oldSize 4 = .ok (.iload_n 2, 1) := by decide +kernel
theorem dX10_oldSize_5 : decode cX10_oldSize 5 = .ok (.aload_n 0, 1) := by decide +kernel
theorem dX10_oldSize_6 : decode cX10_oldSize 6 = .ok (.getfield 156, 3) := by decide +kernel
theorem dX10_oldSize_9 : decode cX10_oldSize 9 = .ok (.if_icmp .ge 34, 3) := by decide +kernel
theorem dX10_oldSize_12 : decode cX10_oldSize 12 = .ok (.iload_n 1, 1) := by decide +kernel
theorem dX10_oldSize_13 : decode cX10_oldSize 13 = .ok (.iload_n 2, 1) := by decide +kernel
theorem dX10_oldSize_14 : decode cX10_oldSize 14 = .ok (.ifCond .le 20, 3) := by decide +kernel
theorem dX10_oldSize_17 : decode cX10_oldSize 17 = .ok (.aload_n 0, 1) := by decide +kernel
theorem dX10_oldSize_18 : decode cX10_oldSize 18 = .ok (.getfield 28, 3) := by decide +kernel
theorem dX10_oldSize_21 : decode cX10_oldSize 21 = .ok (.iload_n 2, 1) := by decide +kernel
theorem dX10_oldSize_22 : decode cX10_oldSize 22 = .ok (.iconst 1, 1) := by decide +kernel
theorem dX10_oldSize_23 : decode cX10_oldSize 23 = .ok (.isub, 1) := by decide +kernel
theorem dX10_oldSize_24 : decode cX10_oldSize 24 = .ok (.iaload, 1) := by decide +kernel
theorem dX10_oldSize_25 : decode cX10_oldSize 25 = .ok (.bipush 58, 2) := by decide +kernel
theorem dX10_oldSize_27 : decode cX10_oldSize 27 = .ok (.if_icmp .ne 7, 3) := by decide +kernel
theorem dX10_oldSize_30 : decode cX10_oldSize 30 = .ok (.iconst 0, 1) := by decide +kernel
theorem dX10_oldSize_31 : decode cX10_oldSize 31 = .ok (.goto 4, 3) := by decide +kernel
theorem dX10_oldSize_34 : decode cX10_oldSize 34 = .ok (.iconst 1, 1) := by decide +kernel
theorem dX10_oldSize_35 : decode cX10_oldSize 35 = .ok (.iadd, 1) := by decide +kernel
theorem dX10_oldSize_36 : decode cX10_oldSize 36 = .ok (.istore_n 1, 1) := by decide +kernel
theorem dX10_oldSize_37 : decode cX10_oldSize 37 = .ok (.iinc 2 1, 3) := by decide +kernel
theorem dX10_oldSize_40 : decode cX10_oldSize 40 = .ok (.goto (-36), 3) := by decide +kernel
theorem dX10_oldSize_43 : decode cX10_oldSize 43 = .ok (.iload_n 1, 1) := by decide +kernel
theorem dX10_oldSize_44 : decode cX10_oldSize 44 = .ok (.ireturn, 1) := by decide +kernel
theorem dX10_simplify_0 : decode cX10_simplify 0 = .ok (.iload_n 1, 1) := by decide +kernel
theorem dX10_simplify_1 : decode cX10_simplify 1 = .ok (.invokestatic 109, 3) := by decide +kernel
theorem dX10_simplify_4 : decode cX10_simplify 4 = .ok (.ifCond .ne 5, 3) := by decide +kernel
theorem dX10_simplify_7 : decode cX10_simplify 7 = .ok (.iconst (-1), 1) := by decide +kernel
theorem dX10_simplify_8 : decode cX10_simplify 8 = .ok (.ireturn, 1) := by decide +kernel
theorem dX10_simplify_9 : decode cX10_simplify 9 = .ok (.aload_n 0, 1) := by decide +kernel
theorem dX10_simplify_10 : decode cX10_simplify 10 = .ok (.iload_n 1, 1) := by decide +kernel
theorem dX10_simplify_11 : decode cX10_simplify 11 = .ok (.invokevirtual 122, 3) := by decide +kernel
theorem dX10_simplify_14 : decode cX10_simplify 14 = .ok (.ifCond .ne 6, 3) := by decide +kernel
theorem dX10_simplify_17 : decode cX10_simplify 17 = .ok (.bipush (-2), 2) := by decide +kernel
theorem dX10_simplify_19 : decode cX10_simplify 19 = .ok (.ireturn, 1) := by decide +kernel
theorem dX10_simplify_20 : decode cX10_simplify 20 = .ok (.aload_n 0, 1) := by decide +kernel
theorem dX10_simplify_21 : decode cX10_simplify 21 = .ok (.aload_n 0, 1) := by decide +kernel
theorem dX10_simplify_22 : decode cX10_simplify 22 = .ok (.iload_n 1, 1) := by decide +kernel
theorem dX10_simplify_23 : decode cX10_simplify 23 = .ok (.invokevirtual 78, 3) := by decide +kernel
theorem dX10_simplify_26 : decode cX10_simplify 26 = .ok (.putfield 156, 3) := by decide +kernel
theorem dX10_simplify_29 : decode cX10_simplify 29 = .ok (.iconst 0, 1) := by decide +kernel
theorem dX10_simplify_30 : decode cX10_simplify 30 = .ok (.istore_n 2, 1) := by decide +kernel
theorem dX10_simplify_31 : decode cX10_simplify 31 = .ok (.iload_n 2, 1) := by decide +kernel
theorem dX10_simplify_32 : decode cX10_simplify 32 = .ok (.aload_n 0, 1) := by decide +kernel
theorem dX10_simplify_33 : decode cX10_simplify 33 = .ok (.getfield 156, 3) := by decide +kernel
theorem dX10_simplify_36 : decode cX10_simplify 36 = .ok (.if_icmp .ge 26, 3) := by decide +kernel
theorem dX10_simplify_39 : decode cX10_simplify 39 = .ok (.aload_n 0, 1) := by decide +kernel
theorem dX10_simplify_40 : decode cX10_simplify 40 = .ok (.getfield 28, 3) := by decide +kernel
theorem dX10_simplify_43 : decode cX10_simplify 43 = .ok (.iload_n 2, 1) := by decide +kernel
theorem dX10_simplify_44 : decode cX10_simplify 44 = .ok (.aload_n 0, 1) := by decide +kernel
theorem dX10_simplify_45 : decode cX10_simplify 45 = .ok (.getfield 7, 3) := by decide +kernel
theorem dX10_simplify_48 : decode cX10_simplify 48 = .ok (.iload_n 1, 1) := by decide +kernel
theorem dX10_simplify_49 : decode cX10_simplify 49 = .ok (.invokestatic 106, 3) := by decide +kernel
theorem dX10_simplify_52 : decode cX10_simplify 52 = .ok (.iload_n 2, 1) := by decide +kernel
theorem dX10_simplify_53 : decode cX10_simplify 53 = .ok (.iadd, 1) := by decide +kernel
theorem dX10_simplify_54 : decode cX10_simplify 54 = .ok (.iaload, 1) := by decide +kernel
theorem dX10_simplify_55 : decode cX10_simplify 55 = .ok (.iastore, 1) := by decide +kernel
theorem dX10_simplify_56 : decode cX10_simplify 56 = .ok (.iinc 2 1, 3) := by decide +kernel
theorem dX10_simplify_59 : decode cX10_simplify 59 = .ok (.goto (-28), 3) := by decide +kernel
theorem dX10_simplify_62 : decode cX10_simplify 62 = .ok (.iconst 0, 1) := by decide +kernel
theorem dX10_simplify_63 : decode cX10_simplify 63 = .ok (.istore_n 2, 1) := by decide +kernel
theorem dX10_simplify_64 : decode cX10_simplify 64 = .ok (.aload_n 0, 1) := by decide +kernel
theorem dX10_simplify_65 : decode cX10_simplify 65 = .ok (.invokevirtual 162, 3) := by decide +kernel
theorem dX10_simplify_68 : decode cX10_simplify 68 = .ok (.ifCond .eq 18, 3) := by decide +kernel
theorem dX10_simplify_71 : decode cX10_simplify 71 = .ok (.iinc 2 1, 3) := by decide +kernel
theorem dX10_simplify_74 : decode cX10_simplify 74 = .ok (.aload_n 0, 1) := by decide +kernel
theorem dX10_simplify_75 : decode cX10_simplify 75 = .ok (.invokevirtual 166, 3) := by decide +kernel
theorem dX10_simplify_78 : decode cX10_simplify 78 = .ok (.bipush 120, 2) := by decide +kernel
theorem dX10_simplify_80 : decode cX10_simplify 80 = .ok (.if_icmp .le (-16), 3) := by decide +kernel
theorem dX10_simplify_83 : decode cX10_simplify 83 = .ok (.bipush (-3), 2) := by decide +kernel
theorem dX10_simplify_85 : decode cX10_simplify 85 = .ok (.ireturn, 1) := by decide +kernel
theorem dX10_simplify_86 : decode cX10_simplify 86 = .ok (.aload_n 0, 1) := by decide +kernel
theorem dX10_simplify_87 : decode cX10_simplify 87 = .ok (.invokevirtual 116, 3) := by decide +kernel
theorem dX10_simplify_90 : decode cX10_simplify 90 = .ok (.iconst 0, 1) := by decide +kernel
theorem dX10_simplify_91 : decode cX10_simplify 91 = .ok (.istore_n 3, 1) := by decide +kernel
theorem dX10_simplify_92 : decode cX10_simplify 92 = .ok (.iload_n 3, 1) := by decide +kernel
theorem dX10_simplify_93 : decode cX10_simplify 93 = .ok (.aload_n 0, 1) := by decide +kernel
theorem dX10_simplify_94 : decode cX10_simplify 94 = .ok (.getfield 156, 3) := by decide +kernel
theorem dX10_simplify_97 : decode cX10_simplify 97 = .ok (.if_icmp .ge 26, 3) := by decide +kernel
theorem dX10_simplify_100 : decode cX10_simplify 100 = .ok (.aload_n 0, 1) := by decide +kernel
theorem dX10_simplify_101 : decode cX10_simplify 101 = .ok (.getfield 7, 3) := by decide +kernel
theorem dX10_simplify_104 : decode cX10_simplify 104 = .ok (.iload_n 1, 1) := by decide +kernel
theorem dX10_simplify_105 : decode cX10_simplify 105 = .ok (.invokestatic 106, 3) := by decide +kernel
theorem dX10_simplify_108 : decode cX10_simplify 108 = .ok (.iload_n 3, 1) := by decide +kernel
theorem dX10_simplify_109 : decode cX10_simplify 109 = .ok (.iadd, 1) := by decide +kernel
theorem dX10_simplify_110 : decode cX10_simplify 110 = .ok (.aload_n 0, 1) := by decide +kernel
theorem dX10_simplify_111 : decode cX10_simplify 111 = .ok (.getfield 28, 3) := by decide +kernel
theorem dX10_simplify_114 : decode cX10_simplify 114 = .ok (.iload_n 3, 1) := by decide +kernel
theorem dX10_simplify_115 : decode cX10_simplify 115 = .ok (.iaload, 1) := by decide +kernel
theorem dX10_simplify_116 : decode cX10_simplify 116 = .ok (.iastore, 1) := by decide +kernel
theorem dX10_simplify_117 : decode cX10_simplify 117 = .ok (.iinc 3 1, 3) := by decide +kernel
theorem dX10_simplify_120 : decode cX10_simplify 120 = .ok (.goto (-28), 3) := by decide +kernel
theorem dX10_simplify_123 : decode cX10_simplify 123 = .ok (.aload_n 0, 1) := by decide +kernel
theorem dX10_simplify_124 : decode cX10_simplify 124 = .ok (.getfield 7, 3) := by decide +kernel
theorem dX10_simplify_127 : decode cX10_simplify 127 = .ok (.iconst 1, 1) := by decide +kernel
theorem dX10_simplify_128 : decode cX10_simplify 128 = .ok (.sipush 250, 3) := by decide +kernel
theorem dX10_simplify_131 : decode cX10_simplify 131 = .ok (.iload_n 1, 1) := by decide +kernel
theorem dX10_simplify_132 : decode cX10_simplify 132 = .ok (.imul, 1) := by decide +kernel
theorem dX10_simplify_133 : decode cX10_simplify 133 = .ok (.iadd, 1) := by decide +kernel
theorem dX10_simplify_134 : decode cX10_simplify 134 = .ok (.aload_n 0, 1) := by decide +kernel
theorem dX10_simplify_135 : decode cX10_simplify 135 = .ok (.getfield 156, 3) := by decide +kernel
theorem dX10_simplify_138 : decode cX10_simplify 138 = .ok (.iastore, 1) := by decide +kernel
theorem dX10_simplify_139 : decode cX10_simplify 139 = .ok (.iload_n 2, 1) := by decide +kernel
theorem dX10_simplify_140 : decode cX10_simplify 140 = .ok (.ireturn, 1) := by decide +kernel
theorem dX10_undo_0 : decode cX10_undo 0 = .ok (.aload_n 0, 1) := by decide +kernel
theorem dX10_undo_1 : decode cX10_undo 1 = .ok (.getfield 82, 3) := by decide +kernel
theorem dX10_undo_4 : decode cX10_undo 4 = .ok (.ifCond .ne 6, 3) := by decide +kernel
theorem dX10_undo_7 : decode cX10_undo 7 = .ok (.bipush (-2), 2) := by decide +kernel
theorem dX10_undo_9 : decode cX10_undo 9 = .ok (.ireturn, 1) := by decide +kernel
theorem dX10_undo_10 : decode cX10_undo 10 = .ok (.aload_n 0, 1) := by decide +kernel
theorem dX10_undo_11 : decode cX10_undo 11 = .ok (.dup, 1) := by decide +kernel
theorem dX10_undo_12 : decode cX10_undo 12 = .ok (.getfield 82, 3) := by decide +kernel
theorem dX10_undo_15 : decode cX10_undo 15 = .ok (.iconst 1, 1) := by decide +kernel
theorem dX10_undo_16 : decode cX10_undo 16 = .ok (.isub, 1) := by decide +kernel
theorem dX10_undo_17 : decode cX10_undo 17 = .ok (.putfield 82, 3) := by decide +kernel
theorem dX10_undo_20 : decode cX10_undo 20 = .ok (.iconst 0, 1) := by decide +kernel
theorem dX10_undo_21 : decode cX10_undo 21 = .ok (.istore_n 1, 1) := by decide +kernel
theorem dX10_undo_22 : decode cX10_undo 22 = .ok (.iload_n 1, 1) := by decide +kernel
theorem dX10_undo_23 : decode cX10_undo 23 = .ok (.sipush 2001, 3) := by decide +kernel
theorem dX10_undo_26 : decode cX10_undo 26 = .ok (.if_icmp .ge 30, 3) := by decide +kernel
theorem dX10_undo_29 : decode cX10_undo 29 = .ok (.aload_n 0, 1) := by decide +kernel
theorem dX10_undo_30 : decode cX10_undo 30 = .ok (.getfield 7, 3) := by decide +kernel
theorem dX10_undo_33 : decode cX10_undo 33 = .ok (.iload_n 1, 1) := by decide +kernel
theorem dX10_undo_34 : decode cX10_undo 34 = .ok (.aload_n 0, 1) := by decide +kernel
theorem dX10_undo_35 : decode cX10_undo 35 = .ok (.getfield 13, 3) := by decide +kernel
theorem dX10_undo_38 : decode cX10_undo 38 = .ok (.sipush 2001, 3) := by decide +kernel
theorem dX10_undo_41 : decode cX10_undo 41 = .ok (.aload_n 0, 1) := by decide +kernel
theorem dX10_undo_42 : decode cX10_undo 42 = .ok (.getfield 82, 3) := by decide +kernel
theorem dX10_undo_45 : decode cX10_undo 45 = .ok (.imul, 1) := by decide +kernel
theorem dX10_undo_46 : decode cX10_undo 46 = .ok (.iload_n 1, 1) := by decide +kernel
theorem dX10_undo_47 : decode cX10_undo 47 = .ok (.iadd, 1) := by decide +kernel
theorem dX10_undo_48 : decode cX10_undo 48 = .ok (.iaload, 1) := by decide +kernel
theorem dX10_undo_49 : decode cX10_undo 49 = .ok (.iastore, 1) := by decide +kernel
theorem dX10_undo_50 : decode cX10_undo 50 = .ok (.iinc 1 1, 3) := by decide +kernel
theorem dX10_undo_53 : decode cX10_undo 53 = .ok (.goto (-31), 3) := by decide +kernel
theorem dX10_undo_56 : decode cX10_undo 56 = .ok (.aload_n 0, 1) := by decide +kernel
theorem dX10_undo_57 : decode cX10_undo 57 = .ok (.iconst 0, 1) := by decide +kernel
theorem dX10_undo_58 : decode cX10_undo 58 = .ok (.putfield 86, 3) := by decide +kernel
theorem dX10_undo_61 : decode cX10_undo 61 = .ok (.aload_n 0, 1) := by decide +kernel
theorem dX10_undo_62 : decode cX10_undo 62 = .ok (.getfield 82, 3) := by decide +kernel
theorem dX10_undo_65 : decode cX10_undo 65 = .ok (.ireturn, 1) := by decide +kernel
theorem dX10_descend_0 : decode cX10_descend 0 = .ok (.aload_n 0, 1) := by decide +kernel
theorem dX10_descend_1 : decode cX10_descend 1 = .ok (.getfield 7, 3) := by decide +kernel
theorem dX10_descend_4 : decode cX10_descend 4 = .ok (.aload_n 0, 1) := by decide +kernel
theorem dX10_descend_5 : decode cX10_descend 5 = .ok (.getfield 169, 3) := by decide +kernel
theorem dX10_descend_8 : decode cX10_descend 8 = .ok (.iaload, 1) := by decide +kernel
theorem dX10_descend_9 : decode cX10_descend 9 = .ok (.istore_n 1, 1) := by decide +kernel
theorem dX10_descend_10 : decode cX10_descend 10 = .ok (.aload_n 0, 1) := by decide +kernel
theorem dX10_descend_11 : decode cX10_descend 11 = .ok (.getfield 172, 3) := by decide +kernel
theorem dX10_descend_14 : decode cX10_descend 14 = .ok (.ldc 175, 2) := by decide +kernel
theorem dX10_descend_16 : decode cX10_descend 16 = .ok (.if_icmp .le 6, 3) := by decide +kernel
theorem dX10_descend_19 : decode cX10_descend 19 = .ok (.bipush (-9), 2) := by decide +kernel
theorem dX10_descend_21 : decode cX10_descend 21 = .ok (.ireturn, 1) := by decide +kernel
end
section
theorem dX10_descend_22 : decode cX10_descend 22 = .ok (.iload_n 1, 1) := by decide +kernel
theorem dX10_descend_23 : decode cX10_descend 23 = .ok (.invokestatic 93, 3) := by decide +kernel
theorem dX10_descend_26 : decode cX10_descend 26 = .ok (.ifCond .eq 15, 3) := by decide +kernel
theorem dX10_descend_29 : decode cX10_descend 29 = .ok (.iload_n 1, 1) := by decide +kernel
theorem dX10_descend_30 : decode cX10_descend 30 = .ok (.bipush 48, 2) := by decide +kernel
theorem dX10_descend_32 : decode cX10_descend 32 = .ok (.isub, 1) := by decide +kernel
theorem dX10_descend_33 : decode cX10_descend 33 = .ok (.aload_n 0, 1) := by decide +kernel
theorem dX10_descend_34 : decode cX10_descend 34 = .ok (.getfield 7, 3) := by decide +kernel
theorem dX10_descend_37 : decode cX10_descend 37 = .ok (.iconst 0, 1) := by decide +kernel
theorem dX10_descend_38 : decode cX10_descend 38 = .ok (.iaload, 1) := by decide +kernel
theorem dX10_descend_39 : decode cX10_descend 39 = .ok (.irem, 1) := by decide +kernel
theorem dX10_descend_40 : decode cX10_descend 40 = .ok (.ireturn, 1) := by decide +kernel
theorem dX10_descend_41 : decode cX10_descend 41 = .ok (.iload_n 1, 1) := by decide +kernel
theorem dX10_descend_42 : decode cX10_descend 42 = .ok (.bipush 58, 2) := by decide +kernel
theorem dX10_descend_44 : decode cX10_descend 44 = .ok (.if_icmp .ne 32, 3) := by decide +kernel
theorem dX10_descend_47 : decode cX10_descend 47 = .ok (.aload_n 0, 1) := by decide +kernel
theorem dX10_descend_48 : decode cX10_descend 48 = .ok (.getfield 172, 3) := by decide +kernel
theorem dX10_descend_51 : decode cX10_descend 51 = .ok (.ifCond .ne 25, 3) := by decide +kernel
theorem dX10_descend_54 : decode cX10_descend 54 = .ok (.aload_n 0, 1) := by decide +kernel
theorem dX10_descend_55 : decode cX10_descend 55 = .ok (.getfield 7, 3) := by decide +kernel
theorem dX10_descend_58 : decode cX10_descend 58 = .ok (.aload_n 0, 1) := by decide +kernel
theorem dX10_descend_59 : decode cX10_descend 59 = .ok (.getfield 169, 3) := by decide +kernel
theorem dX10_descend_62 : decode cX10_descend 62 = .ok (.iconst 1, 1) := by decide +kernel
theorem dX10_descend_63 : decode cX10_descend 63 = .ok (.iadd, 1) := by decide +kernel
theorem dX10_descend_64 : decode cX10_descend 64 = .ok (.iaload, 1) := by decide +kernel
theorem dX10_descend_65 : decode cX10_descend 65 = .ok (.bipush 48, 2) := by decide +kernel
theorem dX10_descend_67 : decode cX10_descend 67 = .ok (.isub, 1) := by decide +kernel
theorem dX10_descend_68 : decode cX10_descend 68 = .ok (.aload_n 0, 1) := by decide +kernel
theorem dX10_descend_69 : decode cX10_descend 69 = .ok (.getfield 7, 3) := by decide +kernel
theorem dX10_descend_72 : decode cX10_descend 72 = .ok (.iconst 0, 1) := by decide +kernel
theorem dX10_descend_73 : decode cX10_descend 73 = .ok (.iaload, 1) := by decide +kernel
theorem dX10_descend_74 : decode cX10_descend 74 = .ok (.irem, 1) := by decide +kernel
theorem dX10_descend_75 : decode cX10_descend 75 = .ok (.ireturn, 1) := by decide +kernel
theorem dX10_descend_76 : decode cX10_descend 76 = .ok (.iload_n 1, 1) := by decide +kernel
theorem dX10_descend_77 : decode cX10_descend 77 = .ok (.lookupswitch 221 #[(58, 51), (101, 97), (111, 134), (116, 74), (122, 173)], 51) := by decide +kernel
theorem dX10_descend_128 : decode cX10_descend 128 = .ok (.aload_n 0, 1) := by decide +kernel
theorem dX10_descend_129 : decode cX10_descend 129 = .ok (.dup, 1) := by decide +kernel
theorem dX10_descend_130 : decode cX10_descend 130 = .ok (.getfield 169, 3) := by decide +kernel
theorem dX10_descend_133 : decode cX10_descend 133 = .ok (.iconst 2, 1) := by decide +kernel
theorem dX10_descend_134 : decode cX10_descend 134 = .ok (.iadd, 1) := by decide +kernel
theorem dX10_descend_135 : decode cX10_descend 135 = .ok (.putfield 169, 3) := by decide +kernel
theorem dX10_descend_138 : decode cX10_descend 138 = .ok (.aload_n 0, 1) := by decide +kernel
theorem dX10_descend_139 : decode cX10_descend 139 = .ok (.dup, 1) := by decide +kernel
theorem dX10_descend_140 : decode cX10_descend 140 = .ok (.getfield 172, 3) := by decide +kernel
theorem dX10_descend_143 : decode cX10_descend 143 = .ok (.iconst 1, 1) := by decide +kernel
theorem dX10_descend_144 : decode cX10_descend 144 = .ok (.isub, 1) := by decide +kernel
theorem dX10_descend_145 : decode cX10_descend 145 = .ok (.putfield 172, 3) := by decide +kernel
theorem dX10_descend_148 : decode cX10_descend 148 = .ok (.goto 153, 3) := by decide +kernel
theorem dX10_descend_151 : decode cX10_descend 151 = .ok (.aload_n 0, 1) := by decide +kernel
theorem dX10_descend_152 : decode cX10_descend 152 = .ok (.dup, 1) := by decide +kernel
theorem dX10_descend_153 : decode cX10_descend 153 = .ok (.getfield 169, 3) := by decide +kernel
theorem dX10_descend_156 : decode cX10_descend 156 = .ok (.iconst 1, 1) := by decide +kernel
theorem dX10_descend_157 : decode cX10_descend 157 = .ok (.iadd, 1) := by decide +kernel
theorem dX10_descend_158 : decode cX10_descend 158 = .ok (.putfield 169, 3) := by decide +kernel
theorem dX10_descend_161 : decode cX10_descend 161 = .ok (.aload_n 0, 1) := by decide +kernel
theorem dX10_descend_162 : decode cX10_descend 162 = .ok (.dup, 1) := by decide +kernel
theorem dX10_descend_163 : decode cX10_descend 163 = .ok (.getfield 172, 3) := by decide +kernel
theorem dX10_descend_166 : decode cX10_descend 166 = .ok (.iconst 1, 1) := by decide +kernel
theorem dX10_descend_167 : decode cX10_descend 167 = .ok (.iadd, 1) := by decide +kernel
theorem dX10_descend_168 : decode cX10_descend 168 = .ok (.putfield 172, 3) := by decide +kernel
theorem dX10_descend_171 : decode cX10_descend 171 = .ok (.goto 130, 3) := by decide +kernel
theorem dX10_descend_174 : decode cX10_descend 174 = .ok (.aload_n 0, 1) := by decide +kernel
theorem dX10_descend_175 : decode cX10_descend 175 = .ok (.dup, 1) := by decide +kernel
theorem dX10_descend_176 : decode cX10_descend 176 = .ok (.getfield 169, 3) := by decide +kernel
theorem dX10_descend_179 : decode cX10_descend 179 = .ok (.iconst 1, 1) := by decide +kernel
theorem dX10_descend_180 : decode cX10_descend 180 = .ok (.iadd, 1) := by decide +kernel
theorem dX10_descend_181 : decode cX10_descend 181 = .ok (.putfield 169, 3) := by decide +kernel
theorem dX10_descend_184 : decode cX10_descend 184 = .ok (.aload_n 0, 1) := by decide +kernel
theorem dX10_descend_185 : decode cX10_descend 185 = .ok (.aload_n 0, 1) := by decide +kernel
theorem dX10_descend_186 : decode cX10_descend 186 = .ok (.getfield 172, 3) := by decide +kernel
theorem dX10_descend_189 : decode cX10_descend 189 = .ok (.ldc 176, 2) := by decide +kernel
theorem dX10_descend_191 : decode cX10_descend 191 = .ok (.if_icmp .le 8, 3) := by decide +kernel
theorem dX10_descend_194 : decode cX10_descend 194 = .ok (.ldc 177, 2) := by decide +kernel
theorem dX10_descend_196 : decode cX10_descend 196 = .ok (.goto 9, 3) := by decide +kernel
theorem dX10_descend_199 : decode cX10_descend 199 = .ok (.iconst 2, 1) := by decide +kernel
theorem dX10_descend_200 : decode cX10_descend 200 = .ok (.aload_n 0, 1) := by decide +kernel
theorem dX10_descend_201 : decode cX10_descend 201 = .ok (.getfield 172, 3) := by decide +kernel
theorem dX10_descend_204 : decode cX10_descend 204 = .ok (.imul, 1) := by decide +kernel
theorem dX10_descend_205 : decode cX10_descend 205 = .ok (.putfield 172, 3) := by decide +kernel
theorem dX10_descend_208 : decode cX10_descend 208 = .ok (.goto 93, 3) := by decide +kernel
theorem dX10_descend_211 : decode cX10_descend 211 = .ok (.aload_n 0, 1) := by decide +kernel
theorem dX10_descend_212 : decode cX10_descend 212 = .ok (.dup, 1) := by decide +kernel
theorem dX10_descend_213 : decode cX10_descend 213 = .ok (.getfield 169, 3) := by decide +kernel
theorem dX10_descend_216 : decode cX10_descend 216 = .ok (.iconst 1, 1) := by decide +kernel
theorem dX10_descend_217 : decode cX10_descend 217 = .ok (.iadd, 1) := by decide +kernel
theorem dX10_descend_218 : decode cX10_descend 218 = .ok (.putfield 169, 3) := by decide +kernel
theorem dX10_descend_221 : decode cX10_descend 221 = .ok (.aload_n 0, 1) := by decide +kernel
theorem dX10_descend_222 : decode cX10_descend 222 = .ok (.aload_n 0, 1) := by decide +kernel
theorem dX10_descend_223 : decode cX10_descend 223 = .ok (.getfield 172, 3) := by decide +kernel
theorem dX10_descend_226 : decode cX10_descend 226 = .ok (.ldc 176, 2) := by decide +kernel
theorem dX10_descend_228 : decode cX10_descend 228 = .ok (.if_icmp .le 8, 3) := by decide +kernel
theorem dX10_descend_231 : decode cX10_descend 231 = .ok (.ldc 177, 2) := by decide +kernel
theorem dX10_descend_233 : decode cX10_descend 233 = .ok (.goto 11, 3) := by decide +kernel
theorem dX10_descend_236 : decode cX10_descend 236 = .ok (.iconst 2, 1) := by decide +kernel
theorem dX10_descend_237 : decode cX10_descend 237 = .ok (.aload_n 0, 1) := by decide +kernel
theorem dX10_descend_238 : decode cX10_descend 238 = .ok (.getfield 172, 3) := by decide +kernel
theorem dX10_descend_241 : decode cX10_descend 241 = .ok (.imul, 1) := by decide +kernel
theorem dX10_descend_242 : decode cX10_descend 242 = .ok (.iconst 1, 1) := by decide +kernel
theorem dX10_descend_243 : decode cX10_descend 243 = .ok (.iadd, 1) := by decide +kernel
theorem dX10_descend_244 : decode cX10_descend 244 = .ok (.putfield 172, 3) := by decide +kernel
theorem dX10_descend_247 : decode cX10_descend 247 = .ok (.goto 54, 3) := by decide +kernel
theorem dX10_descend_250 : decode cX10_descend 250 = .ok (.aload_n 0, 1) := by decide +kernel
theorem dX10_descend_251 : decode cX10_descend 251 = .ok (.aload_n 0, 1) := by decide +kernel
theorem dX10_descend_252 : decode cX10_descend 252 = .ok (.getfield 172, 3) := by decide +kernel
theorem dX10_descend_255 : decode cX10_descend 255 = .ok (.iconst 2, 1) := by decide +kernel
theorem dX10_descend_256 : decode cX10_descend 256 = .ok (.irem, 1) := by decide +kernel
theorem dX10_descend_257 : decode cX10_descend 257 = .ok (.ifCond .ne 12, 3) := by decide +kernel
theorem dX10_descend_260 : decode cX10_descend 260 = .ok (.aload_n 0, 1) := by decide +kernel
theorem dX10_descend_261 : decode cX10_descend 261 = .ok (.getfield 169, 3) := by decide +kernel
theorem dX10_descend_264 : decode cX10_descend 264 = .ok (.iconst 1, 1) := by decide +kernel
theorem dX10_descend_265 : decode cX10_descend 265 = .ok (.iadd, 1) := by decide +kernel
theorem dX10_descend_266 : decode cX10_descend 266 = .ok (.goto 16, 3) := by decide +kernel
theorem dX10_descend_269 : decode cX10_descend 269 = .ok (.aload_n 0, 1) := by decide +kernel
theorem dX10_descend_270 : decode cX10_descend 270 = .ok (.getfield 7, 3) := by decide +kernel
theorem dX10_descend_273 : decode cX10_descend 273 = .ok (.aload_n 0, 1) := by decide +kernel
theorem dX10_descend_274 : decode cX10_descend 274 = .ok (.getfield 169, 3) := by decide +kernel
theorem dX10_descend_277 : decode cX10_descend 277 = .ok (.iconst 1, 1) := by decide +kernel
theorem dX10_descend_278 : decode cX10_descend 278 = .ok (.iadd, 1) := by decide +kernel
theorem dX10_descend_279 : decode cX10_descend 279 = .ok (.invokestatic 136, 3) := by decide +kernel
theorem dX10_descend_282 : decode cX10_descend 282 = .ok (.putfield 169, 3) := by decide +kernel
theorem dX10_descend_285 : decode cX10_descend 285 = .ok (.aload_n 0, 1) := by decide +kernel
theorem dX10_descend_286 : decode cX10_descend 286 = .ok (.aload_n 0, 1) := by decide +kernel
theorem dX10_descend_287 : decode cX10_descend 287 = .ok (.getfield 172, 3) := by decide +kernel
theorem dX10_descend_290 : decode cX10_descend 290 = .ok (.iconst 2, 1) := by decide +kernel
theorem dX10_descend_291 : decode cX10_descend 291 = .ok (.idiv, 1) := by decide +kernel
theorem dX10_descend_292 : decode cX10_descend 292 = .ok (.putfield 172, 3) := by decide +kernel
theorem dX10_descend_295 : decode cX10_descend 295 = .ok (.goto 6, 3) := by decide +kernel
theorem dX10_descend_298 : decode cX10_descend 298 = .ok (.bipush (-9), 2) := by decide +kernel
theorem dX10_descend_300 : decode cX10_descend 300 = .ok (.ireturn, 1) := by decide +kernel
theorem dX10_descend_301 : decode cX10_descend 301 = .ok (.goto (-301), 3) := by decide +kernel
theorem dX10_compute_0 : decode cX10_compute 0 = .ok (.aload_n 0, 1) := by decide +kernel
theorem dX10_compute_1 : decode cX10_compute 1 = .ok (.iconst 0, 1) := by decide +kernel
theorem dX10_compute_2 : decode cX10_compute 2 = .ok (.putfield 178, 3) := by decide +kernel
theorem dX10_compute_5 : decode cX10_compute 5 = .ok (.aload_n 0, 1) := by decide +kernel
theorem dX10_compute_6 : decode cX10_compute 6 = .ok (.iload_n 1, 1) := by decide +kernel
theorem dX10_compute_7 : decode cX10_compute 7 = .ok (.invokevirtual 122, 3) := by decide +kernel
theorem dX10_compute_10 : decode cX10_compute 10 = .ok (.ifCond .ne 6, 3) := by decide +kernel
theorem dX10_compute_13 : decode cX10_compute 13 = .ok (.bipush (-9), 2) := by decide +kernel
theorem dX10_compute_15 : decode cX10_compute 15 = .ok (.ireturn, 1) := by decide +kernel
theorem dX10_compute_16 : decode cX10_compute 16 = .ok (.iconst 0, 1) := by decide +kernel
theorem dX10_compute_17 : decode cX10_compute 17 = .ok (.istore_n 3, 1) := by decide +kernel
theorem dX10_compute_18 : decode cX10_compute 18 = .ok (.aload_n 0, 1) := by decide +kernel
theorem dX10_compute_19 : decode cX10_compute 19 = .ok (.iload_n 1, 1) := by decide +kernel
theorem dX10_compute_20 : decode cX10_compute 20 = .ok (.invokestatic 106, 3) := by decide +kernel
theorem dX10_compute_23 : decode cX10_compute 23 = .ok (.putfield 169, 3) := by decide +kernel
theorem dX10_compute_26 : decode cX10_compute 26 = .ok (.aload_n 0, 1) := by decide +kernel
theorem dX10_compute_27 : decode cX10_compute 27 = .ok (.iload_n 2, 1) := by decide +kernel
theorem dX10_compute_28 : decode cX10_compute 28 = .ok (.putfield 172, 3) := by decide +kernel
theorem dX10_compute_31 : decode cX10_compute 31 = .ok (.aload_n 0, 1) := by decide +kernel
theorem dX10_compute_32 : decode cX10_compute 32 = .ok (.invokevirtual 181, 3) := by decide +kernel
theorem dX10_compute_35 : decode cX10_compute 35 = .ok (.istore 4, 2) := by decide +kernel
theorem dX10_compute_37 : decode cX10_compute 37 = .ok (.aload_n 0, 1) := by decide +kernel
theorem dX10_compute_38 : decode cX10_compute 38 = .ok (.getfield 7, 3) := by decide +kernel
theorem dX10_compute_41 : decode cX10_compute 41 = .ok (.aload_n 0, 1) := by decide +kernel
theorem dX10_compute_42 : decode cX10_compute 42 = .ok (.getfield 169, 3) := by decide +kernel
theorem dX10_compute_45 : decode cX10_compute 45 = .ok (.iaload, 1) := by decide +kernel
theorem dX10_compute_46 : decode cX10_compute 46 = .ok (.istore 5, 2) := by decide +kernel
theorem dX10_compute_48 : decode cX10_compute 48 = .ok (.iload 4, 2) := by decide +kernel
theorem dX10_compute_50 : decode cX10_compute 50 = .ok (.bipush (-9), 2) := by decide +kernel
theorem dX10_compute_52 : decode cX10_compute 52 = .ok (.if_icmp .ne 87, 3) := by decide +kernel
theorem dX10_compute_55 : decode cX10_compute 55 = .ok (.iload 5, 2) := by decide +kernel
theorem dX10_compute_57 : decode cX10_compute 57 = .ok (.bipush 43, 2) := by decide +kernel
theorem dX10_compute_59 : decode cX10_compute 59 = .ok (.if_icmp .eq 10, 3) := by decide +kernel
theorem dX10_compute_62 : decode cX10_compute 62 = .ok (.iload 5, 2) := by decide +kernel
theorem dX10_compute_64 : decode cX10_compute 64 = .ok (.bipush 42, 2) := by decide +kernel
theorem dX10_compute_66 : decode cX10_compute 66 = .ok (.if_icmp .ne 73, 3) := by decide +kernel
theorem dX10_compute_69 : decode cX10_compute 69 = .ok (.aload_n 0, 1) := by decide +kernel
theorem dX10_compute_70 : decode cX10_compute 70 = .ok (.getfield 172, 3) := by decide +kernel
theorem dX10_compute_73 : decode cX10_compute 73 = .ok (.ldc 175, 2) := by decide +kernel
theorem dX10_compute_75 : decode cX10_compute 75 = .ok (.if_icmp .gt 64, 3) := by decide +kernel
theorem dX10_compute_78 : decode cX10_compute 78 = .ok (.aload_n 0, 1) := by decide +kernel
theorem dX10_compute_79 : decode cX10_compute 79 = .ok (.getfield 37, 3) := by decide +kernel
theorem dX10_compute_82 : decode cX10_compute 82 = .ok (.iload_n 3, 1) := by decide +kernel
theorem dX10_compute_83 : decode cX10_compute 83 = .ok (.iload 5, 2) := by decide +kernel
theorem dX10_compute_85 : decode cX10_compute 85 = .ok (.iastore, 1) := by decide +kernel
theorem dX10_compute_86 : decode cX10_compute 86 = .ok (.aload_n 0, 1) := by decide +kernel
theorem dX10_compute_87 : decode cX10_compute 87 = .ok (.getfield 40, 3) := by decide +kernel
theorem dX10_compute_90 : decode cX10_compute 90 = .ok (.iload_n 3, 1) := by decide +kernel
theorem dX10_compute_91 : decode cX10_compute 91 = .ok (.aload_n 0, 1) := by decide +kernel
theorem dX10_compute_92 : decode cX10_compute 92 = .ok (.getfield 172, 3) := by decide +kernel
theorem dX10_compute_95 : decode cX10_compute 95 = .ok (.iastore, 1) := by decide +kernel
theorem dX10_compute_96 : decode cX10_compute 96 = .ok (.aload_n 0, 1) := by decide +kernel
theorem dX10_compute_97 : decode cX10_compute 97 = .ok (.getfield 43, 3) := by decide +kernel
theorem dX10_compute_100 : decode cX10_compute 100 = .ok (.iload_n 3, 1) := by decide +kernel
theorem dX10_compute_101 : decode cX10_compute 101 = .ok (.aload_n 0, 1) := by decide +kernel
theorem dX10_compute_102 : decode cX10_compute 102 = .ok (.getfield 7, 3) := by decide +kernel
theorem dX10_compute_105 : decode cX10_compute 105 = .ok (.aload_n 0, 1) := by decide +kernel
theorem dX10_compute_106 : decode cX10_compute 106 = .ok (.getfield 169, 3) := by decide +kernel
theorem dX10_compute_109 : decode cX10_compute 109 = .ok (.iconst 1, 1) := by decide +kernel
theorem dX10_compute_110 : decode cX10_compute 110 = .ok (.iadd, 1) := by decide +kernel
theorem dX10_compute_111 : decode cX10_compute 111 = .ok (.invokestatic 136, 3) := by decide +kernel
theorem dX10_compute_114 : decode cX10_compute 114 = .ok (.iastore, 1) := by decide +kernel
theorem dX10_compute_115 : decode cX10_compute 115 = .ok (.aload_n 0, 1) := by decide +kernel
theorem dX10_compute_116 : decode cX10_compute 116 = .ok (.getfield 46, 3) := by decide +kernel
theorem dX10_compute_119 : decode cX10_compute 119 = .ok (.iload_n 3, 1) := by decide +kernel
theorem dX10_compute_120 : decode cX10_compute 120 = .ok (.bipush (-9), 2) := by decide +kernel
theorem dX10_compute_122 : decode cX10_compute 122 = .ok (.iastore, 1) := by decide +kernel
theorem dX10_compute_123 : decode cX10_compute 123 = .ok (.iinc 3 1, 3) := by decide +kernel
theorem dX10_compute_126 : decode cX10_compute 126 = .ok (.aload_n 0, 1) := by decide +kernel
theorem dX10_compute_127 : decode cX10_compute 127 = .ok (.dup, 1) := by decide +kernel
theorem dX10_compute_128 : decode cX10_compute 128 = .ok (.getfield 169, 3) := by decide +kernel
theorem dX10_compute_131 : decode cX10_compute 131 = .ok (.iconst 1, 1) := by decide +kernel
theorem dX10_compute_132 : decode cX10_compute 132 = .ok (.iadd, 1) := by decide +kernel
theorem dX10_compute_133 : decode cX10_compute 133 = .ok (.putfield 169, 3) := by decide +kernel
theorem dX10_compute_136 : decode cX10_compute 136 = .ok (.goto 206, 3) := by decide +kernel
theorem dX10_compute_139 : decode cX10_compute 139 = .ok (.iload 4, 2) := by decide +kernel
theorem dX10_compute_141 : decode cX10_compute 141 = .ok (.bipush (-9), 2) := by decide +kernel
theorem dX10_compute_143 : decode cX10_compute 143 = .ok (.if_icmp .ne 94, 3) := by decide +kernel
theorem dX10_compute_146 : decode cX10_compute 146 = .ok (.aload_n 0, 1) := by decide +kernel
theorem dX10_compute_147 : decode cX10_compute 147 = .ok (.getfield 172, 3) := by decide +kernel
theorem dX10_compute_150 : decode cX10_compute 150 = .ok (.sipush 400, 3) := by decide +kernel
theorem dX10_compute_153 : decode cX10_compute 153 = .ok (.if_icmp .ge 27, 3) := by decide +kernel
theorem dX10_compute_156 : decode cX10_compute 156 = .ok (.aload_n 0, 1) := by decide +kernel
theorem dX10_compute_157 : decode cX10_compute 157 = .ok (.getfield 31, 3) := by decide +kernel
theorem dX10_compute_160 : decode cX10_compute 160 = .ok (.sipush 400, 3) := by decide +kernel
theorem dX10_compute_163 : decode cX10_compute 163 = .ok (.iload 5, 2) := by decide +kernel
theorem dX10_compute_165 : decode cX10_compute 165 = .ok (.bipush 65, 2) := by decide +kernel
theorem dX10_compute_167 : decode cX10_compute 167 = .ok (.isub, 1) := by decide +kernel
theorem dX10_compute_168 : decode cX10_compute 168 = .ok (.imul, 1) := by decide +kernel
theorem dX10_compute_169 : decode cX10_compute 169 = .ok (.aload_n 0, 1) := by decide +kernel
theorem dX10_compute_170 : decode cX10_compute 170 = .ok (.getfield 172, 3) := by decide +kernel
theorem dX10_compute_173 : decode cX10_compute 173 = .ok (.iadd, 1) := by decide +kernel
theorem dX10_compute_174 : decode cX10_compute 174 = .ok (.iaload, 1) := by decide +kernel
theorem dX10_compute_175 : decode cX10_compute 175 = .ok (.bipush (-9), 2) := by decide +kernel
theorem dX10_compute_177 : decode cX10_compute 177 = .ok (.if_icmp .ne 6, 3) := by decide +kernel
theorem dX10_compute_180 : decode cX10_compute 180 = .ok (.bipush (-9), 2) := by decide +kernel
theorem dX10_compute_182 : decode cX10_compute 182 = .ok (.ireturn, 1) := by decide +kernel
theorem dX10_compute_183 : decode cX10_compute 183 = .ok (.aload_n 0, 1) := by decide +kernel
theorem dX10_compute_184 : decode cX10_compute 184 = .ok (.getfield 49, 3) := by decide +kernel
theorem dX10_compute_187 : decode cX10_compute 187 = .ok (.aload_n 0, 1) := by decide +kernel
theorem dX10_compute_188 : decode cX10_compute 188 = .ok (.getfield 178, 3) := by decide +kernel
theorem dX10_compute_191 : decode cX10_compute 191 = .ok (.sipush 400, 3) := by decide +kernel
theorem dX10_compute_194 : decode cX10_compute 194 = .ok (.iload 5, 2) := by decide +kernel
theorem dX10_compute_196 : decode cX10_compute 196 = .ok (.bipush 65, 2) := by decide +kernel
theorem dX10_compute_198 : decode cX10_compute 198 = .ok (.isub, 1) := by decide +kernel
theorem dX10_compute_199 : decode cX10_compute 199 = .ok (.imul, 1) := by decide +kernel
theorem dX10_compute_200 : decode cX10_compute 200 = .ok (.aload_n 0, 1) := by decide +kernel
theorem dX10_compute_201 : decode cX10_compute 201 = .ok (.getfield 172, 3) := by decide +kernel
theorem dX10_compute_204 : decode cX10_compute 204 = .ok (.iadd, 1) := by decide +kernel
theorem dX10_compute_205 : decode cX10_compute 205 = .ok (.iastore, 1) := by decide +kernel
theorem dX10_compute_206 : decode cX10_compute 206 = .ok (.aload_n 0, 1) := by decide +kernel
theorem dX10_compute_207 : decode cX10_compute 207 = .ok (.dup, 1) := by decide +kernel
theorem dX10_compute_208 : decode cX10_compute 208 = .ok (.getfield 178, 3) := by decide +kernel
theorem dX10_compute_211 : decode cX10_compute 211 = .ok (.iconst 1, 1) := by decide +kernel
theorem dX10_compute_212 : decode cX10_compute 212 = .ok (.iadd, 1) := by decide +kernel
theorem dX10_compute_213 : decode cX10_compute 213 = .ok (.putfield 178, 3) := by decide +kernel
theorem dX10_compute_216 : decode cX10_compute 216 = .ok (.aload_n 0, 1) := by decide +kernel
theorem dX10_compute_217 : decode cX10_compute 217 = .ok (.getfield 31, 3) := by decide +kernel
theorem dX10_compute_220 : decode cX10_compute 220 = .ok (.sipush 400, 3) := by decide +kernel
theorem dX10_compute_223 : decode cX10_compute 223 = .ok (.iload 5, 2) := by decide +kernel
theorem dX10_compute_225 : decode cX10_compute 225 = .ok (.bipush 65, 2) := by decide +kernel
theorem dX10_compute_227 : decode cX10_compute 227 = .ok (.isub, 1) := by decide +kernel
theorem dX10_compute_228 : decode cX10_compute 228 = .ok (.imul, 1) := by decide +kernel
theorem dX10_compute_229 : decode cX10_compute 229 = .ok (.aload_n 0, 1) := by decide +kernel
theorem dX10_compute_230 : decode cX10_compute 230 = .ok (.getfield 172, 3) := by decide +kernel
theorem dX10_compute_233 : decode cX10_compute 233 = .ok (.iadd, 1) := by decide +kernel
theorem dX10_compute_234 : decode cX10_compute 234 = .ok (.iaload, 1) := by decide +kernel
theorem dX10_compute_235 : decode cX10_compute 235 = .ok (.istore 4, 2) := by decide +kernel
theorem dX10_compute_237 : decode cX10_compute 237 = .ok (.iload_n 3, 1) := by decide +kernel
theorem dX10_compute_238 : decode cX10_compute 238 = .ok (.ifCond .le 63, 3) := by decide +kernel
theorem dX10_compute_241 : decode cX10_compute 241 = .ok (.aload_n 0, 1) := by decide +kernel
theorem dX10_compute_242 : decode cX10_compute 242 = .ok (.getfield 46, 3) := by decide +kernel
theorem dX10_compute_245 : decode cX10_compute 245 = .ok (.iload_n 3, 1) := by decide +kernel
theorem dX10_compute_246 : decode cX10_compute 246 = .ok (.iconst 1, 1) := by decide +kernel
theorem dX10_compute_247 : decode cX10_compute 247 = .ok (.isub, 1) := by decide +kernel
theorem dX10_compute_248 : decode cX10_compute 248 = .ok (.iaload, 1) := by decide +kernel
theorem dX10_compute_249 : decode cX10_compute 249 = .ok (.bipush (-9), 2) := by decide +kernel
theorem dX10_compute_251 : decode cX10_compute 251 = .ok (.if_icmp .eq 50, 3) := by decide +kernel
theorem dX10_compute_254 : decode cX10_compute 254 = .ok (.iinc 3 (-1), 3) := by decide +kernel
theorem dX10_compute_257 : decode cX10_compute 257 = .ok (.aload_n 0, 1) := by decide +kernel
theorem dX10_compute_258 : decode cX10_compute 258 = .ok (.getfield 37, 3) := by decide +kernel
theorem dX10_compute_261 : decode cX10_compute 261 = .ok (.iload_n 3, 1) := by decide +kernel
theorem dX10_compute_262 : decode cX10_compute 262 = .ok (.iaload, 1) := by decide +kernel
theorem dX10_compute_263 : decode cX10_compute 263 = .ok (.bipush 43, 2) := by decide +kernel
theorem dX10_compute_265 : decode cX10_compute 265 = .ok (.if_icmp .ne 15, 3) := by decide +kernel
theorem dX10_compute_268 : decode cX10_compute 268 = .ok (.aload_n 0, 1) := by decide +kernel
theorem dX10_compute_269 : decode cX10_compute 269 = .ok (.getfield 46, 3) := by decide +kernel
theorem dX10_compute_272 : decode cX10_compute 272 = .ok (.iload_n 3, 1) := by decide +kernel
theorem dX10_compute_273 : decode cX10_compute 273 = .ok (.iaload, 1) := by decide +kernel
theorem dX10_compute_274 : decode cX10_compute 274 = .ok (.iload 4, 2) := by decide +kernel
theorem dX10_compute_276 : decode cX10_compute 276 = .ok (.iadd, 1) := by decide +kernel
theorem dX10_compute_277 : decode cX10_compute 277 = .ok (.goto 12, 3) := by decide +kernel
theorem dX10_compute_280 : decode cX10_compute 280 = .ok (.aload_n 0, 1) := by decide +kernel
theorem dX10_compute_281 : decode cX10_compute 281 = .ok (.getfield 46, 3) := by decide +kernel
theorem dX10_compute_284 : decode cX10_compute 284 = .ok (.iload_n 3, 1) := by decide +kernel
theorem dX10_compute_285 : decode cX10_compute 285 = .ok (.iaload, 1) := by decide +kernel
theorem dX10_compute_286 : decode cX10_compute 286 = .ok (.iload 4, 2) := by decide +kernel
theorem dX10_compute_288 : decode cX10_compute 288 = .ok (.imul, 1) := by decide +kernel
theorem dX10_compute_289 : decode cX10_compute 289 = .ok (.aload_n 0, 1) := by decide +kernel
theorem dX10_compute_290 : decode cX10_compute 290 = .ok (.getfield 7, 3) := by decide +kernel
theorem dX10_compute_293 : decode cX10_compute 293 = .ok (.iconst 0, 1) := by decide +kernel
theorem dX10_compute_294 : decode cX10_compute 294 = .ok (.iaload, 1) := by decide +kernel
theorem dX10_compute_295 : decode cX10_compute 295 = .ok (.irem, 1) := by decide +kernel
theorem dX10_compute_296 : decode cX10_compute 296 = .ok (.istore 4, 2) := by decide +kernel
theorem dX10_compute_298 : decode cX10_compute 298 = .ok (.goto (-61), 3) := by decide +kernel
theorem dX10_compute_301 : decode cX10_compute 301 = .ok (.iload_n 3, 1) := by decide +kernel
theorem dX10_compute_302 : decode cX10_compute 302 = .ok (.ifCond .ne 6, 3) := by decide +kernel
theorem dX10_compute_305 : decode cX10_compute 305 = .ok (.iload 4, 2) := by decide +kernel
theorem dX10_compute_307 : decode cX10_compute 307 = .ok (.ireturn, 1) := by decide +kernel
theorem dX10_compute_308 : decode cX10_compute 308 = .ok (.aload_n 0, 1) := by decide +kernel
theorem dX10_compute_309 : decode cX10_compute 309 = .ok (.getfield 46, 3) := by decide +kernel
theorem dX10_compute_312 : decode cX10_compute 312 = .ok (.iload_n 3, 1) := by decide +kernel
theorem dX10_compute_313 : decode cX10_compute 313 = .ok (.iconst 1, 1) := by decide +kernel
theorem dX10_compute_314 : decode cX10_compute 314 = .ok (.isub, 1) := by decide +kernel
theorem dX10_compute_315 : decode cX10_compute 315 = .ok (.iload 4, 2) := by decide +kernel
theorem dX10_compute_317 : decode cX10_compute 317 = .ok (.iastore, 1) := by decide +kernel
theorem dX10_compute_318 : decode cX10_compute 318 = .ok (.aload_n 0, 1) := by decide +kernel
theorem dX10_compute_319 : decode cX10_compute 319 = .ok (.aload_n 0, 1) := by decide +kernel
theorem dX10_compute_320 : decode cX10_compute 320 = .ok (.getfield 43, 3) := by decide +kernel
theorem dX10_compute_323 : decode cX10_compute 323 = .ok (.iload_n 3, 1) := by decide +kernel
theorem dX10_compute_324 : decode cX10_compute 324 = .ok (.iconst 1, 1) := by decide +kernel
theorem dX10_compute_325 : decode cX10_compute 325 = .ok (.isub, 1) := by decide +kernel
theorem dX10_compute_326 : decode cX10_compute 326 = .ok (.iaload, 1) := by decide +kernel
theorem dX10_compute_327 : decode cX10_compute 327 = .ok (.putfield 169, 3) := by decide +kernel
theorem dX10_compute_330 : decode cX10_compute 330 = .ok (.aload_n 0, 1) := by decide +kernel
theorem dX10_compute_331 : decode cX10_compute 331 = .ok (.aload_n 0, 1) := by decide +kernel
theorem dX10_compute_332 : decode cX10_compute 332 = .ok (.getfield 40, 3) := by decide +kernel
theorem dX10_compute_335 : decode cX10_compute 335 = .ok (.iload_n 3, 1) := by decide +kernel
theorem dX10_compute_336 : decode cX10_compute 336 = .ok (.iconst 1, 1) := by decide +kernel
theorem dX10_compute_337 : decode cX10_compute 337 = .ok (.isub, 1) := by decide +kernel
theorem dX10_compute_338 : decode cX10_compute 338 = .ok (.iaload, 1) := by decide +kernel
theorem dX10_compute_339 : decode cX10_compute 339 = .ok (.putfield 172, 3) := by decide +kernel
theorem dX10_compute_342 : decode cX10_compute 342 = .ok (.goto (-311), 3) := by decide +kernel
theorem dX10_find_0 : decode cX10_find 0 = .ok (.aload_n 0, 1) := by decide +kernel
theorem dX10_find_1 : decode cX10_find 1 = .ok (.getfield 31, 3) := by decide +kernel
theorem dX10_find_4 : decode cX10_find 4 = .ok (.iload_n 1, 1) := by decide +kernel
theorem dX10_find_5 : decode cX10_find 5 = .ok (.iaload, 1) := by decide +kernel
theorem dX10_find_6 : decode cX10_find 6 = .ok (.bipush (-9), 2) := by decide +kernel
theorem dX10_find_8 : decode cX10_find 8 = .ok (.if_icmp .eq 5, 3) := by decide +kernel
theorem dX10_find_11 : decode cX10_find 11 = .ok (.iconst 0, 1) := by decide +kernel
theorem dX10_find_12 : decode cX10_find 12 = .ok (.ireturn, 1) := by decide +kernel
theorem dX10_find_13 : decode cX10_find 13 = .ok (.aload_n 0, 1) := by decide +kernel
theorem dX10_find_14 : decode cX10_find 14 = .ok (.iload_n 1, 1) := by decide +kernel
theorem dX10_find_15 : decode cX10_find 15 = .ok (.sipush 400, 3) := by decide +kernel
theorem dX10_find_18 : decode cX10_find 18 = .ok (.idiv, 1) := by decide +kernel
theorem dX10_find_19 : decode cX10_find 19 = .ok (.iload_n 1, 1) := by decide +kernel
theorem dX10_find_20 : decode cX10_find 20 = .ok (.sipush 400, 3) := by decide +kernel
theorem dX10_find_23 : decode cX10_find 23 = .ok (.irem, 1) := by decide +kernel
theorem dX10_find_24 : decode cX10_find 24 = .ok (.invokevirtual 184, 3) := by decide +kernel
theorem dX10_find_27 : decode cX10_find 27 = .ok (.istore_n 2, 1) := by decide +kernel
theorem dX10_find_28 : decode cX10_find 28 = .ok (.iload_n 2, 1) := by decide +kernel
theorem dX10_find_29 : decode cX10_find 29 = .ok (.bipush (-9), 2) := by decide +kernel
theorem dX10_find_31 : decode cX10_find 31 = .ok (.if_icmp .ne 5, 3) := by decide +kernel
theorem dX10_find_34 : decode cX10_find 34 = .ok (.iconst 0, 1) := by decide +kernel
theorem dX10_find_35 : decode cX10_find 35 = .ok (.ireturn, 1) := by decide +kernel
theorem dX10_find_36 : decode cX10_find 36 = .ok (.iconst 0, 1) := by decide +kernel
theorem dX10_find_37 : decode cX10_find 37 = .ok (.istore_n 3, 1) := by decide +kernel
theorem dX10_find_38 : decode cX10_find 38 = .ok (.iconst 0, 1) := by decide +kernel
theorem dX10_find_39 : decode cX10_find 39 = .ok (.istore 4, 2) := by decide +kernel
theorem dX10_find_41 : decode cX10_find 41 = .ok (.iload 4, 2) := by decide +kernel
theorem dX10_find_43 : decode cX10_find 43 = .ok (.aload_n 0, 1) := by decide +kernel
theorem dX10_find_44 : decode cX10_find 44 = .ok (.getfield 178, 3) := by decide +kernel
theorem dX10_find_47 : decode cX10_find 47 = .ok (.if_icmp .ge 46, 3) := by decide +kernel
theorem dX10_find_50 : decode cX10_find 50 = .ok (.aload_n 0, 1) := by decide +kernel
theorem dX10_find_51 : decode cX10_find 51 = .ok (.getfield 34, 3) := by decide +kernel
theorem dX10_find_54 : decode cX10_find 54 = .ok (.aload_n 0, 1) := by decide +kernel
theorem dX10_find_55 : decode cX10_find 55 = .ok (.getfield 49, 3) := by decide +kernel
theorem dX10_find_58 : decode cX10_find 58 = .ok (.iload 4, 2) := by decide +kernel
theorem dX10_find_60 : decode cX10_find 60 = .ok (.iaload, 1) := by decide +kernel
theorem dX10_find_61 : decode cX10_find 61 = .ok (.iaload, 1) := by decide +kernel
theorem dX10_find_62 : decode cX10_find 62 = .ok (.iconst 1, 1) := by decide +kernel
theorem dX10_find_63 : decode cX10_find 63 = .ok (.iadd, 1) := by decide +kernel
theorem dX10_find_64 : decode cX10_find 64 = .ok (.iload_n 3, 1) := by decide +kernel
theorem dX10_find_65 : decode cX10_find 65 = .ok (.if_icmp .le 20, 3) := by decide +kernel
theorem dX10_find_68 : decode cX10_find 68 = .ok (.aload_n 0, 1) := by decide +kernel
theorem dX10_find_69 : decode cX10_find 69 = .ok (.getfield 34, 3) := by decide +kernel
theorem dX10_find_72 : decode cX10_find 72 = .ok (.aload_n 0, 1) := by decide +kernel
theorem dX10_find_73 : decode cX10_find 73 = .ok (.getfield 49, 3) := by decide +kernel
theorem dX10_find_76 : decode cX10_find 76 = .ok (.iload 4, 2) := by decide +kernel
theorem dX10_find_78 : decode cX10_find 78 = .ok (.iaload, 1) := by decide +kernel
theorem dX10_find_79 : decode cX10_find 79 = .ok (.iaload, 1) := by decide +kernel
theorem dX10_find_80 : decode cX10_find 80 = .ok (.iconst 1, 1) := by decide +kernel
theorem dX10_find_81 : decode cX10_find 81 = .ok (.iadd, 1) := by decide +kernel
theorem dX10_find_82 : decode cX10_find 82 = .ok (.goto 4, 3) := by decide +kernel
theorem dX10_find_85 : decode cX10_find 85 = .ok (.iload_n 3, 1) := by decide +kernel
theorem dX10_find_86 : decode cX10_find 86 = .ok (.istore_n 3, 1) := by decide +kernel
theorem dX10_find_87 : decode cX10_find 87 = .ok (.iinc 4 1, 3) := by decide +kernel
theorem dX10_find_90 : decode cX10_find 90 = .ok (.goto (-49), 3) := by decide +kernel
theorem dX10_find_93 : decode cX10_find 93 = .ok (.aload_n 0, 1) := by decide +kernel
theorem dX10_find_94 : decode cX10_find 94 = .ok (.getfield 31, 3) := by decide +kernel
theorem dX10_find_97 : decode cX10_find 97 = .ok (.iload_n 1, 1) := by decide +kernel
theorem dX10_find_98 : decode cX10_find 98 = .ok (.iload_n 2, 1) := by decide +kernel
theorem dX10_find_99 : decode cX10_find 99 = .ok (.iastore, 1) := by decide +kernel
theorem dX10_find_100 : decode cX10_find 100 = .ok (.aload_n 0, 1) := by decide +kernel
theorem dX10_find_101 : decode cX10_find 101 = .ok (.getfield 34, 3) := by decide +kernel
theorem dX10_find_104 : decode cX10_find 104 = .ok (.iload_n 1, 1) := by decide +kernel
theorem dX10_find_105 : decode cX10_find 105 = .ok (.iload_n 3, 1) := by decide +kernel
theorem dX10_find_106 : decode cX10_find 106 = .ok (.iastore, 1) := by decide +kernel
theorem dX10_find_107 : decode cX10_find 107 = .ok (.iconst 1, 1) := by decide +kernel
theorem dX10_find_108 : decode cX10_find 108 = .ok (.ireturn, 1) := by decide +kernel
theorem dX10_layValues_0 : decode cX10_layValues 0 = .ok (.aload_n 0, 1) := by decide +kernel
theorem dX10_layValues_1 : decode cX10_layValues 1 = .ok (.getfield 86, 3) := by decide +kernel
theorem dX10_layValues_4 : decode cX10_layValues 4 = .ok (.ifCond .eq 4, 3) := by decide +kernel
theorem dX10_layValues_7 : decode cX10_layValues 7 = .ok (.return_, 1) := by decide +kernel
theorem dX10_layValues_8 : decode cX10_layValues 8 = .ok (.aload_n 0, 1) := by decide +kernel
theorem dX10_layValues_9 : decode cX10_layValues 9 = .ok (.iconst 1, 1) := by decide +kernel
theorem dX10_layValues_10 : decode cX10_layValues 10 = .ok (.putfield 86, 3) := by decide +kernel
theorem dX10_layValues_13 : decode cX10_layValues 13 = .ok (.iconst 0, 1) := by decide +kernel
theorem dX10_layValues_14 : decode cX10_layValues 14 = .ok (.istore_n 1, 1) := by decide +kernel
theorem dX10_layValues_15 : decode cX10_layValues 15 = .ok (.iload_n 1, 1) := by decide +kernel
theorem dX10_layValues_16 : decode cX10_layValues 16 = .ok (.sipush 3200, 3) := by decide +kernel
theorem dX10_layValues_19 : decode cX10_layValues 19 = .ok (.if_icmp .ge 24, 3) := by decide +kernel
theorem dX10_layValues_22 : decode cX10_layValues 22 = .ok (.aload_n 0, 1) := by decide +kernel
theorem dX10_layValues_23 : decode cX10_layValues 23 = .ok (.getfield 31, 3) := by decide +kernel
theorem dX10_layValues_26 : decode cX10_layValues 26 = .ok (.iload_n 1, 1) := by decide +kernel
theorem dX10_layValues_27 : decode cX10_layValues 27 = .ok (.bipush (-9), 2) := by decide +kernel
theorem dX10_layValues_29 : decode cX10_layValues 29 = .ok (.iastore, 1) := by decide +kernel
theorem dX10_layValues_30 : decode cX10_layValues 30 = .ok (.aload_n 0, 1) := by decide +kernel
theorem dX10_layValues_31 : decode cX10_layValues 31 = .ok (.getfield 34, 3) := by decide +kernel
theorem dX10_layValues_34 : decode cX10_layValues 34 = .ok (.iload_n 1, 1) := by decide +kernel
theorem dX10_layValues_35 : decode cX10_layValues 35 = .ok (.iconst 0, 1) := by decide +kernel
theorem dX10_layValues_36 : decode cX10_layValues 36 = .ok (.iastore, 1) := by decide +kernel
theorem dX10_layValues_37 : decode cX10_layValues 37 = .ok (.iinc 1 1, 3) := by decide +kernel
theorem dX10_layValues_40 : decode cX10_layValues 40 = .ok (.goto (-25), 3) := by decide +kernel
theorem dX10_layValues_43 : decode cX10_layValues 43 = .ok (.iconst 1, 1) := by decide +kernel
theorem dX10_layValues_44 : decode cX10_layValues 44 = .ok (.istore_n 1, 1) := by decide +kernel
theorem dX10_layValues_45 : decode cX10_layValues 45 = .ok (.iload_n 1, 1) := by decide +kernel
theorem dX10_layValues_46 : decode cX10_layValues 46 = .ok (.ifCond .eq 92, 3) := by decide +kernel
theorem dX10_layValues_49 : decode cX10_layValues 49 = .ok (.iconst 0, 1) := by decide +kernel
theorem dX10_layValues_50 : decode cX10_layValues 50 = .ok (.istore_n 1, 1) := by decide +kernel
theorem dX10_layValues_51 : decode cX10_layValues 51 = .ok (.iconst 0, 1) := by decide +kernel
theorem dX10_layValues_52 : decode cX10_layValues 52 = .ok (.istore_n 2, 1) := by decide +kernel
theorem dX10_layValues_53 : decode cX10_layValues 53 = .ok (.iload_n 2, 1) := by decide +kernel
theorem dX10_layValues_54 : decode cX10_layValues 54 = .ok (.sipush 400, 3) := by decide +kernel
theorem dX10_layValues_57 : decode cX10_layValues 57 = .ok (.if_icmp .ge 37, 3) := by decide +kernel
theorem dX10_layValues_60 : decode cX10_layValues 60 = .ok (.iconst 0, 1) := by decide +kernel
theorem dX10_layValues_61 : decode cX10_layValues 61 = .ok (.istore_n 3, 1) := by decide +kernel
theorem dX10_layValues_62 : decode cX10_layValues 62 = .ok (.iload_n 3, 1) := by decide +kernel
theorem dX10_layValues_63 : decode cX10_layValues 63 = .ok (.bipush 8, 2) := by decide +kernel
theorem dX10_layValues_65 : decode cX10_layValues 65 = .ok (.if_icmp .ge 23, 3) := by decide +kernel
theorem dX10_layValues_68 : decode cX10_layValues 68 = .ok (.iload_n 1, 1) := by decide +kernel
theorem dX10_layValues_69 : decode cX10_layValues 69 = .ok (.aload_n 0, 1) := by decide +kernel
theorem dX10_layValues_70 : decode cX10_layValues 70 = .ok (.sipush 400, 3) := by decide +kernel
theorem dX10_layValues_73 : decode cX10_layValues 73 = .ok (.iload_n 3, 1) := by decide +kernel
theorem dX10_layValues_74 : decode cX10_layValues 74 = .ok (.imul, 1) := by decide +kernel
theorem dX10_layValues_75 : decode cX10_layValues 75 = .ok (.iload_n 2, 1) := by decide +kernel
theorem dX10_layValues_76 : decode cX10_layValues 76 = .ok (.iadd, 1) := by decide +kernel
theorem dX10_layValues_77 : decode cX10_layValues 77 = .ok (.invokevirtual 187, 3) := by decide +kernel
theorem dX10_layValues_80 : decode cX10_layValues 80 = .ok (.ior, 1) := by decide +kernel
theorem dX10_layValues_81 : decode cX10_layValues 81 = .ok (.istore_n 1, 1) := by decide +kernel
theorem dX10_layValues_82 : decode cX10_layValues 82 = .ok (.iinc 3 1, 3) := by decide +kernel
theorem dX10_layValues_85 : decode cX10_layValues 85 = .ok (.goto (-23), 3) := by decide +kernel
theorem dX10_layValues_88 : decode cX10_layValues 88 = .ok (.iinc 2 1, 3) := by decide +kernel
theorem dX10_layValues_91 : decode cX10_layValues 91 = .ok (.goto (-38), 3) := by decide +kernel
theorem dX10_layValues_94 : decode cX10_layValues 94 = .ok (.sipush 399, 3) := by decide +kernel
theorem dX10_layValues_97 : decode cX10_layValues 97 = .ok (.istore_n 2, 1) := by decide +kernel
theorem dX10_layValues_98 : decode cX10_layValues 98 = .ok (.iload_n 2, 1) := by decide +kernel
theorem dX10_layValues_99 : decode cX10_layValues 99 = .ok (.ifCond .lt 36, 3) := by decide +kernel
theorem dX10_layValues_102 : decode cX10_layValues 102 = .ok (.bipush 7, 2) := by decide +kernel
theorem dX10_layValues_104 : decode cX10_layValues 104 = .ok (.istore_n 3, 1) := by decide +kernel
theorem dX10_layValues_105 : decode cX10_layValues 105 = .ok (.iload_n 3, 1) := by decide +kernel
theorem dX10_layValues_106 : decode cX10_layValues 106 = .ok (.ifCond .lt 23, 3) := by decide +kernel
theorem dX10_layValues_109 : decode cX10_layValues 109 = .ok (.iload_n 1, 1) := by decide +kernel
theorem dX10_layValues_110 : decode cX10_layValues 110 = .ok (.aload_n 0, 1) := by decide +kernel
theorem dX10_layValues_111 : decode cX10_layValues 111 = .ok (.sipush 400, 3) := by decide +kernel
theorem dX10_layValues_114 : decode cX10_layValues 114 = .ok (.iload_n 3, 1) := by decide +kernel
theorem dX10_layValues_115 : decode cX10_layValues 115 = .ok (.imul, 1) := by decide +kernel
theorem dX10_layValues_116 : decode cX10_layValues 116 = .ok (.iload_n 2, 1) := by decide +kernel
theorem dX10_layValues_117 : decode cX10_layValues 117 = .ok (.iadd, 1) := by decide +kernel
theorem dX10_layValues_118 : decode cX10_layValues 118 = .ok (.invokevirtual 187, 3) := by decide +kernel
theorem dX10_layValues_121 : decode cX10_layValues 121 = .ok (.ior, 1) := by decide +kernel
theorem dX10_layValues_122 : decode cX10_layValues 122 = .ok (.istore_n 1, 1) := by decide +kernel
theorem dX10_layValues_123 : decode cX10_layValues 123 = .ok (.iinc 3 (-1), 3) := by decide +kernel
theorem dX10_layValues_126 : decode cX10_layValues 126 = .ok (.goto (-21), 3) := by decide +kernel
theorem dX10_layValues_129 : decode cX10_layValues 129 = .ok (.iinc 2 (-1), 3) := by decide +kernel
theorem dX10_layValues_132 : decode cX10_layValues 132 = .ok (.goto (-34), 3) := by decide +kernel
theorem dX10_layValues_135 : decode cX10_layValues 135 = .ok (.goto (-90), 3) := by decide +kernel
theorem dX10_layValues_138 : decode cX10_layValues 138 = .ok (.return_, 1) := by decide +kernel
theorem dX10_at_0 : decode cX10_at 0 = .ok (.aload_n 0, 1) := by decide +kernel
theorem dX10_at_1 : decode cX10_at 1 = .ok (.getfield 31, 3) := by decide +kernel
theorem dX10_at_4 : decode cX10_at 4 = .ok (.sipush 400, 3) := by decide +kernel
theorem dX10_at_7 : decode cX10_at 7 = .ok (.iload_n 1, 1) := by decide +kernel
theorem dX10_at_8 : decode cX10_at 8 = .ok (.imul, 1) := by decide +kernel
theorem dX10_at_9 : decode cX10_at 9 = .ok (.iload_n 2, 1) := by decide +kernel
theorem dX10_at_10 : decode cX10_at 10 = .ok (.iadd, 1) := by decide +kernel
theorem dX10_at_11 : decode cX10_at 11 = .ok (.iaload, 1) := by decide +kernel
theorem dX10_at_12 : decode cX10_at 12 = .ok (.ireturn, 1) := by decide +kernel
theorem dX10_reach_0 : decode cX10_reach 0 = .ok (.iconst 0, 1) := by decide +kernel
theorem dX10_reach_1 : decode cX10_reach 1 = .ok (.istore_n 2, 1) := by decide +kernel
theorem dX10_reach_2 : decode cX10_reach 2 = .ok (.iload_n 2, 1) := by decide +kernel
theorem dX10_reach_3 : decode cX10_reach 3 = .ok (.sipush 400, 3) := by decide +kernel
theorem dX10_reach_6 : decode cX10_reach 6 = .ok (.if_icmp .ge 20, 3) := by decide +kernel
theorem dX10_reach_9 : decode cX10_reach 9 = .ok (.aload_n 0, 1) := by decide +kernel
theorem dX10_reach_10 : decode cX10_reach 10 = .ok (.iload_n 1, 1) := by decide +kernel
theorem dX10_reach_11 : decode cX10_reach 11 = .ok (.iload_n 2, 1) := by decide +kernel
theorem dX10_reach_12 : decode cX10_reach 12 = .ok (.invokevirtual 190, 3) := by decide +kernel
theorem dX10_reach_15 : decode cX10_reach 15 = .ok (.bipush (-9), 2) := by decide +kernel
theorem dX10_reach_17 : decode cX10_reach 17 = .ok (.if_icmp .eq 9, 3) := by decide +kernel
theorem dX10_reach_20 : decode cX10_reach 20 = .ok (.iinc 2 1, 3) := by decide +kernel
theorem dX10_reach_23 : decode cX10_reach 23 = .ok (.goto (-21), 3) := by decide +kernel
theorem dX10_reach_26 : decode cX10_reach 26 = .ok (.iload_n 2, 1) := by decide +kernel
theorem dX10_reach_27 : decode cX10_reach 27 = .ok (.ireturn, 1) := by decide +kernel
theorem dX10_defined_0 : decode cX10_defined 0 = .ok (.iconst 0, 1) := by decide +kernel
theorem dX10_defined_1 : decode cX10_defined 1 = .ok (.istore_n 1, 1) := by decide +kernel
theorem dX10_defined_2 : decode cX10_defined 2 = .ok (.iconst 0, 1) := by decide +kernel
theorem dX10_defined_3 : decode cX10_defined 3 = .ok (.istore_n 2, 1) := by decide +kernel
theorem dX10_defined_4 : decode cX10_defined 4 = .ok (.iload_n 2, 1) := by decide +kernel
theorem dX10_defined_5 : decode cX10_defined 5 = .ok (.bipush 8, 2) := by decide +kernel
theorem dX10_defined_7 : decode cX10_defined 7 = .ok (.if_icmp .ge 25, 3) := by decide +kernel
theorem dX10_defined_10 : decode cX10_defined 10 = .ok (.iload_n 1, 1) := by decide +kernel
theorem dX10_defined_11 : decode cX10_defined 11 = .ok (.aload_n 0, 1) := by decide +kernel
theorem dX10_defined_12 : decode cX10_defined 12 = .ok (.iload_n 2, 1) := by decide +kernel
theorem dX10_defined_13 : decode cX10_defined 13 = .ok (.invokevirtual 122, 3) := by decide +kernel
theorem dX10_defined_16 : decode cX10_defined 16 = .ok (.ifCond .eq 7, 3) := by decide +kernel
theorem dX10_defined_19 : decode cX10_defined 19 = .ok (.iconst 1, 1) := by decide +kernel
theorem dX10_defined_20 : decode cX10_defined 20 = .ok (.goto 4, 3) := by decide +kernel
theorem dX10_defined_23 : decode cX10_defined 23 = .ok (.iconst 0, 1) := by decide +kernel
theorem dX10_defined_24 : decode cX10_defined 24 = .ok (.iadd, 1) := by decide +kernel
theorem dX10_defined_25 : decode cX10_defined 25 = .ok (.istore_n 1, 1) := by decide +kernel
theorem dX10_defined_26 : decode cX10_defined 26 = .ok (.iinc 2 1, 3) := by decide +kernel
theorem dX10_defined_29 : decode cX10_defined 29 = .ok (.goto (-25), 3) := by decide +kernel
theorem dX10_defined_32 : decode cX10_defined 32 = .ok (.iload_n 1, 1) := by decide +kernel
theorem dX10_defined_33 : decode cX10_defined 33 = .ok (.ireturn, 1) := by decide +kernel
theorem dX10_isPlain_0 : decode cX10_isPlain 0 = .ok (.iconst 1, 1) := by decide +kernel
theorem dX10_isPlain_1 : decode cX10_isPlain 1 = .ok (.istore_n 1, 1) := by decide +kernel
theorem dX10_isPlain_2 : decode cX10_isPlain 2 = .ok (.iconst 0, 1) := by decide +kernel
theorem dX10_isPlain_3 : decode cX10_isPlain 3 = .ok (.istore_n 2, 1) := by decide +kernel
theorem dX10_isPlain_4 : decode cX10_isPlain 4 = .ok (.iload_n 2, 1) := by decide +kernel
theorem dX10_isPlain_5 : decode cX10_isPlain 5 = .ok (.bipush 8, 2) := by decide +kernel
theorem dX10_isPlain_7 : decode cX10_isPlain 7 = .ok (.if_icmp .ge 68, 3) := by decide +kernel
theorem dX10_isPlain_10 : decode cX10_isPlain 10 = .ok (.iconst 0, 1) := by decide +kernel
theorem dX10_isPlain_11 : decode cX10_isPlain 11 = .ok (.istore_n 3, 1) := by decide +kernel
theorem dX10_isPlain_12 : decode cX10_isPlain 12 = .ok (.iload_n 3, 1) := by decide +kernel
theorem dX10_isPlain_13 : decode cX10_isPlain 13 = .ok (.aload_n 0, 1) := by decide +kernel
theorem dX10_isPlain_14 : decode cX10_isPlain 14 = .ok (.iload_n 2, 1) := by decide +kernel
theorem dX10_isPlain_15 : decode cX10_isPlain 15 = .ok (.invokevirtual 78, 3) := by decide +kernel
theorem dX10_isPlain_18 : decode cX10_isPlain 18 = .ok (.if_icmp .ge 51, 3) := by decide +kernel
theorem dX10_isPlain_21 : decode cX10_isPlain 21 = .ok (.aload_n 0, 1) := by decide +kernel
theorem dX10_isPlain_22 : decode cX10_isPlain 22 = .ok (.getfield 7, 3) := by decide +kernel
theorem dX10_isPlain_25 : decode cX10_isPlain 25 = .ok (.iload_n 2, 1) := by decide +kernel
theorem dX10_isPlain_26 : decode cX10_isPlain 26 = .ok (.invokestatic 106, 3) := by decide +kernel
theorem dX10_isPlain_29 : decode cX10_isPlain 29 = .ok (.iload_n 3, 1) := by decide +kernel
theorem dX10_isPlain_30 : decode cX10_isPlain 30 = .ok (.iadd, 1) := by decide +kernel
theorem dX10_isPlain_31 : decode cX10_isPlain 31 = .ok (.iaload, 1) := by decide +kernel
theorem dX10_isPlain_32 : decode cX10_isPlain 32 = .ok (.istore 4, 2) := by decide +kernel
theorem dX10_isPlain_34 : decode cX10_isPlain 34 = .ok (.iload_n 1, 1) := by decide +kernel
theorem dX10_isPlain_35 : decode cX10_isPlain 35 = .ok (.iload 4, 2) := by decide +kernel
theorem dX10_isPlain_37 : decode cX10_isPlain 37 = .ok (.bipush 122, 2) := by decide +kernel
theorem dX10_isPlain_39 : decode cX10_isPlain 39 = .ok (.if_icmp .eq 21, 3) := by decide +kernel
theorem dX10_isPlain_42 : decode cX10_isPlain 42 = .ok (.iload 4, 2) := by decide +kernel
theorem dX10_isPlain_44 : decode cX10_isPlain 44 = .ok (.bipush 101, 2) := by decide +kernel
theorem dX10_isPlain_46 : decode cX10_isPlain 46 = .ok (.if_icmp .eq 14, 3) := by decide +kernel
theorem dX10_isPlain_49 : decode cX10_isPlain 49 = .ok (.iload 4, 2) := by decide +kernel
theorem dX10_isPlain_51 : decode cX10_isPlain 51 = .ok (.bipush 111, 2) := by decide +kernel
theorem dX10_isPlain_53 : decode cX10_isPlain 53 = .ok (.if_icmp .eq 7, 3) := by decide +kernel
theorem dX10_isPlain_56 : decode cX10_isPlain 56 = .ok (.iconst 1, 1) := by decide +kernel
theorem dX10_isPlain_57 : decode cX10_isPlain 57 = .ok (.goto 4, 3) := by decide +kernel
theorem dX10_isPlain_60 : decode cX10_isPlain 60 = .ok (.iconst 0, 1) := by decide +kernel
theorem dX10_isPlain_61 : decode cX10_isPlain 61 = .ok (.iand, 1) := by decide +kernel
theorem dX10_isPlain_62 : decode cX10_isPlain 62 = .ok (.istore_n 1, 1) := by decide +kernel
theorem dX10_isPlain_63 : decode cX10_isPlain 63 = .ok (.iinc 3 1, 3) := by decide +kernel
theorem dX10_isPlain_66 : decode cX10_isPlain 66 = .ok (.goto (-54), 3) := by decide +kernel
theorem dX10_isPlain_69 : decode cX10_isPlain 69 = .ok (.iinc 2 1, 3) := by decide +kernel
theorem dX10_isPlain_72 : decode cX10_isPlain 72 = .ok (.goto (-68), 3) := by decide +kernel
theorem dX10_isPlain_75 : decode cX10_isPlain 75 = .ok (.iload_n 1, 1) := by decide +kernel
theorem dX10_isPlain_76 : decode cX10_isPlain 76 = .ok (.ireturn, 1) := by decide +kernel
theorem dX10_endless_0 : decode cX10_endless 0 = .ok (.aload_n 0, 1) := by decide +kernel
theorem dX10_endless_1 : decode cX10_endless 1 = .ok (.invokevirtual 193, 3) := by decide +kernel
theorem dX10_endless_4 : decode cX10_endless 4 = .ok (.iconst 0, 1) := by decide +kernel
theorem dX10_endless_5 : decode cX10_endless 5 = .ok (.istore_n 1, 1) := by decide +kernel
theorem dX10_endless_6 : decode cX10_endless 6 = .ok (.iconst 0, 1) := by decide +kernel
theorem dX10_endless_7 : decode cX10_endless 7 = .ok (.istore_n 2, 1) := by decide +kernel
theorem dX10_endless_8 : decode cX10_endless 8 = .ok (.iload_n 2, 1) := by decide +kernel
theorem dX10_endless_9 : decode cX10_endless 9 = .ok (.bipush 8, 2) := by decide +kernel
theorem dX10_endless_11 : decode cX10_endless 11 = .ok (.if_icmp .ge 28, 3) := by decide +kernel
theorem dX10_endless_14 : decode cX10_endless 14 = .ok (.iload_n 1, 1) := by decide +kernel
theorem dX10_endless_15 : decode cX10_endless 15 = .ok (.aload_n 0, 1) := by decide +kernel
theorem dX10_endless_16 : decode cX10_endless 16 = .ok (.iload_n 2, 1) := by decide +kernel
theorem dX10_endless_17 : decode cX10_endless 17 = .ok (.invokevirtual 196, 3) := by decide +kernel
theorem dX10_endless_20 : decode cX10_endless 20 = .ok (.sipush 400, 3) := by decide +kernel
theorem dX10_endless_23 : decode cX10_endless 23 = .ok (.if_icmp .ne 7, 3) := by decide +kernel
theorem dX10_endless_26 : decode cX10_endless 26 = .ok (.iconst 1, 1) := by decide +kernel
theorem dX10_endless_27 : decode cX10_endless 27 = .ok (.goto 4, 3) := by decide +kernel
theorem dX10_endless_30 : decode cX10_endless 30 = .ok (.iconst 0, 1) := by decide +kernel
theorem dX10_endless_31 : decode cX10_endless 31 = .ok (.iadd, 1) := by decide +kernel
theorem dX10_endless_32 : decode cX10_endless 32 = .ok (.istore_n 1, 1) := by decide +kernel
theorem dX10_endless_33 : decode cX10_endless 33 = .ok (.iinc 2 1, 3) := by decide +kernel
theorem dX10_endless_36 : decode cX10_endless 36 = .ok (.goto (-28), 3) := by decide +kernel
theorem dX10_endless_39 : decode cX10_endless 39 = .ok (.iload_n 1, 1) := by decide +kernel
theorem dX10_endless_40 : decode cX10_endless 40 = .ok (.ireturn, 1) := by decide +kernel
theorem dX10_allSizes_0 : decode cX10_allSizes 0 = .ok (.iconst 0, 1) := by decide +kernel
theorem dX10_allSizes_1 : decode cX10_allSizes 1 = .ok (.istore_n 1, 1) := by decide +kernel
theorem dX10_allSizes_2 : decode cX10_allSizes 2 = .ok (.iconst 0, 1) := by decide +kernel
theorem dX10_allSizes_3 : decode cX10_allSizes 3 = .ok (.istore_n 2, 1) := by decide +kernel
theorem dX10_allSizes_4 : decode cX10_allSizes 4 = .ok (.iload_n 2, 1) := by decide +kernel
theorem dX10_allSizes_5 : decode cX10_allSizes 5 = .ok (.bipush 8, 2) := by decide +kernel
theorem dX10_allSizes_7 : decode cX10_allSizes 7 = .ok (.if_icmp .ge 17, 3) := by decide +kernel
theorem dX10_allSizes_10 : decode cX10_allSizes 10 = .ok (.iload_n 1, 1) := by decide +kernel
theorem dX10_allSizes_11 : decode cX10_allSizes 11 = .ok (.aload_n 0, 1) := by decide +kernel
theorem dX10_allSizes_12 : decode cX10_allSizes 12 = .ok (.iload_n 2, 1) := by decide +kernel
theorem dX10_allSizes_13 : decode cX10_allSizes 13 = .ok (.invokevirtual 119, 3) := by decide +kernel
theorem dX10_allSizes_16 : decode cX10_allSizes 16 = .ok (.iadd, 1) := by decide +kernel
theorem dX10_allSizes_17 : decode cX10_allSizes 17 = .ok (.istore_n 1, 1) := by decide +kernel
theorem dX10_allSizes_18 : decode cX10_allSizes 18 = .ok (.iinc 2 1, 3) := by decide +kernel
theorem dX10_allSizes_21 : decode cX10_allSizes 21 = .ok (.goto (-17), 3) := by decide +kernel
theorem dX10_allSizes_24 : decode cX10_allSizes 24 = .ok (.iload_n 1, 1) := by decide +kernel
theorem dX10_allSizes_25 : decode cX10_allSizes 25 = .ok (.ireturn, 1) := by decide +kernel
theorem dX10_told_0 : decode cX10_told 0 = .ok (.iload_n 1, 1) := by decide +kernel
theorem dX10_told_1 : decode cX10_told 1 = .ok (.tableswitch 88 0 6 #[43, 50, 55, 60, 73, 78, 83], 43) := by decide +kernel
theorem dX10_told_44 : decode cX10_told 44 = .ok (.aload_n 0, 1) := by decide +kernel
theorem dX10_told_45 : decode cX10_told 45 = .ok (.getfield 7, 3) := by decide +kernel
theorem dX10_told_48 : decode cX10_told 48 = .ok (.iconst 0, 1) := by decide +kernel
theorem dX10_told_49 : decode cX10_told 49 = .ok (.iaload, 1) := by decide +kernel
theorem dX10_told_50 : decode cX10_told 50 = .ok (.ireturn, 1) := by decide +kernel
theorem dX10_told_51 : decode cX10_told 51 = .ok (.aload_n 0, 1) := by decide +kernel
theorem dX10_told_52 : decode cX10_told 52 = .ok (.invokevirtual 199, 3) := by decide +kernel
theorem dX10_told_55 : decode cX10_told 55 = .ok (.ireturn, 1) := by decide +kernel
theorem dX10_told_56 : decode cX10_told 56 = .ok (.aload_n 0, 1) := by decide +kernel
theorem dX10_told_57 : decode cX10_told 57 = .ok (.invokevirtual 202, 3) := by decide +kernel
theorem dX10_told_60 : decode cX10_told 60 = .ok (.ireturn, 1) := by decide +kernel
theorem dX10_told_61 : decode cX10_told 61 = .ok (.aload_n 0, 1) := by decide +kernel
theorem dX10_told_62 : decode cX10_told 62 = .ok (.invokevirtual 205, 3) := by decide +kernel
theorem dX10_told_65 : decode cX10_told 65 = .ok (.ifCond .eq 7, 3) := by decide +kernel
theorem dX10_told_68 : decode cX10_told 68 = .ok (.iconst 1, 1) := by decide +kernel
theorem dX10_told_69 : decode cX10_told 69 = .ok (.goto 4, 3) := by decide +kernel
theorem dX10_told_72 : decode cX10_told 72 = .ok (.iconst 0, 1) := by decide +kernel
theorem dX10_told_73 : decode cX10_told 73 = .ok (.ireturn, 1) := by decide +kernel
theorem dX10_told_74 : decode cX10_told 74 = .ok (.aload_n 0, 1) := by decide +kernel
theorem dX10_told_75 : decode cX10_told 75 = .ok (.getfield 90, 3) := by decide +kernel
theorem dX10_told_78 : decode cX10_told 78 = .ok (.ireturn, 1) := by decide +kernel
theorem dX10_told_79 : decode cX10_told 79 = .ok (.aload_n 0, 1) := by decide +kernel
theorem dX10_told_80 : decode cX10_told 80 = .ok (.getfield 82, 3) := by decide +kernel
theorem dX10_told_83 : decode cX10_told 83 = .ok (.ireturn, 1) := by decide +kernel
theorem dX10_told_84 : decode cX10_told 84 = .ok (.aload_n 0, 1) := by decide +kernel
theorem dX10_told_85 : decode cX10_told 85 = .ok (.invokevirtual 208, 3) := by decide +kernel
theorem dX10_told_88 : decode cX10_told 88 = .ok (.ireturn, 1) := by decide +kernel
theorem dX10_told_89 : decode cX10_told 89 = .ok (.iconst (-1), 1) := by decide +kernel
theorem dX10_told_90 : decode cX10_told 90 = .ok (.ireturn, 1) := by decide +kernel
theorem dX10_listing_0 : decode cX10_listing 0 = .ok (.iload_n 1, 1) := by decide +kernel
theorem dX10_listing_1 : decode cX10_listing 1 = .ok (.invokestatic 109, 3) := by decide +kernel
theorem dX10_listing_4 : decode cX10_listing 4 = .ok (.ifCond .eq 7, 3) := by decide +kernel
theorem dX10_listing_7 : decode cX10_listing 7 = .ok (.iload_n 2, 1) := by decide +kernel
theorem dX10_listing_8 : decode cX10_listing 8 = .ok (.ifCond .ge 5, 3) := by decide +kernel
theorem dX10_listing_11 : decode cX10_listing 11 = .ok (.iconst (-1), 1) := by decide +kernel
theorem dX10_listing_12 : decode cX10_listing 12 = .ok (.ireturn, 1) := by decide +kernel
theorem dX10_listing_13 : decode cX10_listing 13 = .ok (.iload_n 2, 1) := by decide +kernel
theorem dX10_listing_14 : decode cX10_listing 14 = .ok (.aload_n 0, 1) := by decide +kernel
theorem dX10_listing_15 : decode cX10_listing 15 = .ok (.iload_n 1, 1) := by decide +kernel
theorem dX10_listing_16 : decode cX10_listing 16 = .ok (.invokevirtual 78, 3) := by decide +kernel
theorem dX10_listing_19 : decode cX10_listing 19 = .ok (.if_icmp .ge 17, 3) := by decide +kernel
theorem dX10_listing_22 : decode cX10_listing 22 = .ok (.aload_n 0, 1) := by decide +kernel
theorem dX10_listing_23 : decode cX10_listing 23 = .ok (.getfield 7, 3) := by decide +kernel
theorem dX10_listing_26 : decode cX10_listing 26 = .ok (.iload_n 1, 1) := by decide +kernel
theorem dX10_listing_27 : decode cX10_listing 27 = .ok (.invokestatic 106, 3) := by decide +kernel
theorem dX10_listing_30 : decode cX10_listing 30 = .ok (.iload_n 2, 1) := by decide +kernel
theorem dX10_listing_31 : decode cX10_listing 31 = .ok (.iadd, 1) := by decide +kernel
theorem dX10_listing_32 : decode cX10_listing 32 = .ok (.iaload, 1) := by decide +kernel
theorem dX10_listing_33 : decode cX10_listing 33 = .ok (.goto 5, 3) := by decide +kernel
theorem dX10_listing_36 : decode cX10_listing 36 = .ok (.bipush (-9), 2) := by decide +kernel
theorem dX10_listing_38 : decode cX10_listing 38 = .ok (.ireturn, 1) := by decide +kernel
theorem dX10_uses_0 : decode cX10_uses 0 = .ok (.iload_n 1, 1) := by decide +kernel
theorem dX10_uses_1 : decode cX10_uses 1 = .ok (.invokestatic 109, 3) := by decide +kernel
theorem dX10_uses_4 : decode cX10_uses 4 = .ok (.ifCond .ne 5, 3) := by decide +kernel
theorem dX10_uses_7 : decode cX10_uses 7 = .ok (.iconst (-1), 1) := by decide +kernel
theorem dX10_uses_8 : decode cX10_uses 8 = .ok (.ireturn, 1) := by decide +kernel
theorem dX10_uses_9 : decode cX10_uses 9 = .ok (.iconst 0, 1) := by decide +kernel
theorem dX10_uses_10 : decode cX10_uses 10 = .ok (.istore_n 2, 1) := by decide +kernel
theorem dX10_uses_11 : decode cX10_uses 11 = .ok (.iconst 0, 1) := by decide +kernel
theorem dX10_uses_12 : decode cX10_uses 12 = .ok (.istore_n 3, 1) := by decide +kernel
theorem dX10_uses_13 : decode cX10_uses 13 = .ok (.iload_n 3, 1) := by decide +kernel
theorem dX10_uses_14 : decode cX10_uses 14 = .ok (.bipush 8, 2) := by decide +kernel
theorem dX10_uses_16 : decode cX10_uses 16 = .ok (.if_icmp .ge 28, 3) := by decide +kernel
theorem dX10_uses_19 : decode cX10_uses 19 = .ok (.iload_n 2, 1) := by decide +kernel
theorem dX10_uses_20 : decode cX10_uses 20 = .ok (.aload_n 0, 1) := by decide +kernel
theorem dX10_uses_21 : decode cX10_uses 21 = .ok (.iload_n 1, 1) := by decide +kernel
theorem dX10_uses_22 : decode cX10_uses 22 = .ok (.iload_n 3, 1) := by decide +kernel
theorem dX10_uses_23 : decode cX10_uses 23 = .ok (.invokevirtual 125, 3) := by decide +kernel
theorem dX10_uses_26 : decode cX10_uses 26 = .ok (.ifCond .le 9, 3) := by decide +kernel
theorem dX10_uses_29 : decode cX10_uses 29 = .ok (.iconst 1, 1) := by decide +kernel
theorem dX10_uses_30 : decode cX10_uses 30 = .ok (.iload_n 3, 1) := by decide +kernel
theorem dX10_uses_31 : decode cX10_uses 31 = .ok (.ishl, 1) := by decide +kernel
theorem dX10_uses_32 : decode cX10_uses 32 = .ok (.goto 4, 3) := by decide +kernel
theorem dX10_uses_35 : decode cX10_uses 35 = .ok (.iconst 0, 1) := by decide +kernel
theorem dX10_uses_36 : decode cX10_uses 36 = .ok (.ior, 1) := by decide +kernel
theorem dX10_uses_37 : decode cX10_uses 37 = .ok (.istore_n 2, 1) := by decide +kernel
theorem dX10_uses_38 : decode cX10_uses 38 = .ok (.iinc 3 1, 3) := by decide +kernel
theorem dX10_uses_41 : decode cX10_uses 41 = .ok (.goto (-28), 3) := by decide +kernel
theorem dX10_uses_44 : decode cX10_uses 44 = .ok (.aload_n 0, 1) := by decide +kernel
theorem dX10_uses_45 : decode cX10_uses 45 = .ok (.iload_n 1, 1) := by decide +kernel
theorem dX10_uses_46 : decode cX10_uses 46 = .ok (.invokevirtual 122, 3) := by decide +kernel
theorem dX10_uses_49 : decode cX10_uses 49 = .ok (.ifCond .eq 7, 3) := by decide +kernel
theorem dX10_uses_52 : decode cX10_uses 52 = .ok (.iload_n 2, 1) := by decide +kernel
theorem dX10_uses_53 : decode cX10_uses 53 = .ok (.goto 5, 3) := by decide +kernel
theorem dX10_uses_56 : decode cX10_uses 56 = .ok (.bipush (-9), 2) := by decide +kernel
theorem dX10_uses_58 : decode cX10_uses 58 = .ok (.ireturn, 1) := by decide +kernel
theorem dX10_layShifts_0 : decode cX10_layShifts 0 = .ok (.iconst 0, 1) := by decide +kernel
theorem dX10_layShifts_1 : decode cX10_layShifts 1 = .ok (.istore_n 2, 1) := by decide +kernel
theorem dX10_layShifts_2 : decode cX10_layShifts 2 = .ok (.iconst 0, 1) := by decide +kernel
theorem dX10_layShifts_3 : decode cX10_layShifts 3 = .ok (.istore_n 3, 1) := by decide +kernel
theorem dX10_layShifts_4 : decode cX10_layShifts 4 = .ok (.iload_n 1, 1) := by decide +kernel
theorem dX10_layShifts_5 : decode cX10_layShifts 5 = .ok (.invokestatic 106, 3) := by decide +kernel
theorem dX10_layShifts_8 : decode cX10_layShifts 8 = .ok (.istore 4, 2) := by decide +kernel
theorem dX10_layShifts_10 : decode cX10_layShifts 10 = .ok (.iload 4, 2) := by decide +kernel
theorem dX10_layShifts_12 : decode cX10_layShifts 12 = .ok (.iload_n 1, 1) := by decide +kernel
theorem dX10_layShifts_13 : decode cX10_layShifts 13 = .ok (.invokestatic 106, 3) := by decide +kernel
theorem dX10_layShifts_16 : decode cX10_layShifts 16 = .ok (.aload_n 0, 1) := by decide +kernel
theorem dX10_layShifts_17 : decode cX10_layShifts 17 = .ok (.iload_n 1, 1) := by decide +kernel
theorem dX10_layShifts_18 : decode cX10_layShifts 18 = .ok (.invokevirtual 78, 3) := by decide +kernel
theorem dX10_layShifts_21 : decode cX10_layShifts 21 = .ok (.iadd, 1) := by decide +kernel
theorem dX10_layShifts_22 : decode cX10_layShifts 22 = .ok (.if_icmp .ge 135, 3) := by decide +kernel
theorem dX10_layShifts_25 : decode cX10_layShifts 25 = .ok (.aload_n 0, 1) := by decide +kernel
theorem dX10_layShifts_26 : decode cX10_layShifts 26 = .ok (.getfield 7, 3) := by decide +kernel
theorem dX10_layShifts_29 : decode cX10_layShifts 29 = .ok (.iload 4, 2) := by decide +kernel
theorem dX10_layShifts_31 : decode cX10_layShifts 31 = .ok (.iaload, 1) := by decide +kernel
theorem dX10_layShifts_32 : decode cX10_layShifts 32 = .ok (.istore 5, 2) := by decide +kernel
theorem dX10_layShifts_34 : decode cX10_layShifts 34 = .ok (.iload 5, 2) := by decide +kernel
theorem dX10_layShifts_36 : decode cX10_layShifts 36 = .ok (.bipush 43, 2) := by decide +kernel
theorem dX10_layShifts_38 : decode cX10_layShifts 38 = .ok (.if_icmp .eq 10, 3) := by decide +kernel
theorem dX10_layShifts_41 : decode cX10_layShifts 41 = .ok (.iload 5, 2) := by decide +kernel
theorem dX10_layShifts_43 : decode cX10_layShifts 43 = .ok (.bipush 42, 2) := by decide +kernel
theorem dX10_layShifts_45 : decode cX10_layShifts 45 = .ok (.if_icmp .ne 16, 3) := by decide +kernel
theorem dX10_layShifts_48 : decode cX10_layShifts 48 = .ok (.aload_n 0, 1) := by decide +kernel
theorem dX10_layShifts_49 : decode cX10_layShifts 49 = .ok (.getfield 55, 3) := by decide +kernel
theorem dX10_layShifts_52 : decode cX10_layShifts 52 = .ok (.iload_n 2, 1) := by decide +kernel
theorem dX10_layShifts_53 : decode cX10_layShifts 53 = .ok (.iload_n 3, 1) := by decide +kernel
theorem dX10_layShifts_54 : decode cX10_layShifts 54 = .ok (.iastore, 1) := by decide +kernel
theorem dX10_layShifts_55 : decode cX10_layShifts 55 = .ok (.iinc 2 1, 3) := by decide +kernel
theorem dX10_layShifts_58 : decode cX10_layShifts 58 = .ok (.goto 93, 3) := by decide +kernel
theorem dX10_layShifts_61 : decode cX10_layShifts 61 = .ok (.iload 5, 2) := by decide +kernel
theorem dX10_layShifts_63 : decode cX10_layShifts 63 = .ok (.bipush 116, 2) := by decide +kernel
theorem dX10_layShifts_65 : decode cX10_layShifts 65 = .ok (.if_icmp .ne 9, 3) := by decide +kernel
theorem dX10_layShifts_68 : decode cX10_layShifts 68 = .ok (.iinc 3 1, 3) := by decide +kernel
theorem dX10_layShifts_71 : decode cX10_layShifts 71 = .ok (.goto 80, 3) := by decide +kernel
theorem dX10_layShifts_74 : decode cX10_layShifts 74 = .ok (.iload 5, 2) := by decide +kernel
theorem dX10_layShifts_76 : decode cX10_layShifts 76 = .ok (.bipush 58, 2) := by decide +kernel
theorem dX10_layShifts_78 : decode cX10_layShifts 78 = .ok (.if_icmp .ne 12, 3) := by decide +kernel
theorem dX10_layShifts_81 : decode cX10_layShifts 81 = .ok (.iinc 3 (-1), 3) := by decide +kernel
theorem dX10_layShifts_84 : decode cX10_layShifts 84 = .ok (.iinc 4 1, 3) := by decide +kernel
theorem dX10_layShifts_87 : decode cX10_layShifts 87 = .ok (.goto 64, 3) := by decide +kernel
theorem dX10_layShifts_90 : decode cX10_layShifts 90 = .ok (.iload 5, 2) := by decide +kernel
theorem dX10_layShifts_92 : decode cX10_layShifts 92 = .ok (.invokestatic 97, 3) := by decide +kernel
theorem dX10_layShifts_95 : decode cX10_layShifts 95 = .ok (.ifCond .eq 38, 3) := by decide +kernel
theorem dX10_layShifts_98 : decode cX10_layShifts 98 = .ok (.iload_n 3, 1) := by decide +kernel
theorem dX10_layShifts_99 : decode cX10_layShifts 99 = .ok (.aload_n 0, 1) := by decide +kernel
theorem dX10_layShifts_100 : decode cX10_layShifts 100 = .ok (.getfield 52, 3) := by decide +kernel
theorem dX10_layShifts_103 : decode cX10_layShifts 103 = .ok (.bipush 8, 2) := by decide +kernel
theorem dX10_layShifts_105 : decode cX10_layShifts 105 = .ok (.iload_n 1, 1) := by decide +kernel
theorem dX10_layShifts_106 : decode cX10_layShifts 106 = .ok (.imul, 1) := by decide +kernel
theorem dX10_layShifts_107 : decode cX10_layShifts 107 = .ok (.iload 5, 2) := by decide +kernel
theorem dX10_layShifts_109 : decode cX10_layShifts 109 = .ok (.iadd, 1) := by decide +kernel
theorem dX10_layShifts_110 : decode cX10_layShifts 110 = .ok (.bipush 65, 2) := by decide +kernel
theorem dX10_layShifts_112 : decode cX10_layShifts 112 = .ok (.isub, 1) := by decide +kernel
theorem dX10_layShifts_113 : decode cX10_layShifts 113 = .ok (.iaload, 1) := by decide +kernel
theorem dX10_layShifts_114 : decode cX10_layShifts 114 = .ok (.if_icmp .le 19, 3) := by decide +kernel
theorem dX10_layShifts_117 : decode cX10_layShifts 117 = .ok (.aload_n 0, 1) := by decide +kernel
theorem dX10_layShifts_118 : decode cX10_layShifts 118 = .ok (.getfield 52, 3) := by decide +kernel
theorem dX10_layShifts_121 : decode cX10_layShifts 121 = .ok (.bipush 8, 2) := by decide +kernel
theorem dX10_layShifts_123 : decode cX10_layShifts 123 = .ok (.iload_n 1, 1) := by decide +kernel
theorem dX10_layShifts_124 : decode cX10_layShifts 124 = .ok (.imul, 1) := by decide +kernel
theorem dX10_layShifts_125 : decode cX10_layShifts 125 = .ok (.iload 5, 2) := by decide +kernel
theorem dX10_layShifts_127 : decode cX10_layShifts 127 = .ok (.iadd, 1) := by decide +kernel
theorem dX10_layShifts_128 : decode cX10_layShifts 128 = .ok (.bipush 65, 2) := by decide +kernel
theorem dX10_layShifts_130 : decode cX10_layShifts 130 = .ok (.isub, 1) := by decide +kernel
theorem dX10_layShifts_131 : decode cX10_layShifts 131 = .ok (.iload_n 3, 1) := by decide +kernel
theorem dX10_layShifts_132 : decode cX10_layShifts 132 = .ok (.iastore, 1) := by decide +kernel
theorem dX10_layShifts_133 : decode cX10_layShifts 133 = .ok (.iinc 2 (-1), 3) := by decide +kernel
theorem dX10_layShifts_136 : decode cX10_layShifts 136 = .ok (.iload_n 2, 1) := by decide +kernel
theorem dX10_layShifts_137 : decode cX10_layShifts 137 = .ok (.ifCond .lt 12, 3) := by decide +kernel
theorem dX10_layShifts_140 : decode cX10_layShifts 140 = .ok (.aload_n 0, 1) := by decide +kernel
theorem dX10_layShifts_141 : decode cX10_layShifts 141 = .ok (.getfield 55, 3) := by decide +kernel
theorem dX10_layShifts_144 : decode cX10_layShifts 144 = .ok (.iload_n 2, 1) := by decide +kernel
theorem dX10_layShifts_145 : decode cX10_layShifts 145 = .ok (.iaload, 1) := by decide +kernel
theorem dX10_layShifts_146 : decode cX10_layShifts 146 = .ok (.goto 4, 3) := by decide +kernel
theorem dX10_layShifts_149 : decode cX10_layShifts 149 = .ok (.iconst 0, 1) := by decide +kernel
theorem dX10_layShifts_150 : decode cX10_layShifts 150 = .ok (.istore_n 3, 1) := by decide +kernel
theorem dX10_layShifts_151 : decode cX10_layShifts 151 = .ok (.iinc 4 1, 3) := by decide +kernel
theorem dX10_layShifts_154 : decode cX10_layShifts 154 = .ok (.goto (-144), 3) := by decide +kernel
theorem dX10_layShifts_157 : decode cX10_layShifts 157 = .ok (.return_, 1) := by decide +kernel
theorem dX10_greatestCycle_0 : decode cX10_greatestCycle 0 = .ok (.iconst 0, 1) := by decide +kernel
theorem dX10_greatestCycle_1 : decode cX10_greatestCycle 1 = .ok (.istore_n 2, 1) := by decide +kernel
theorem dX10_greatestCycle_2 : decode cX10_greatestCycle 2 = .ok (.iload_n 2, 1) := by decide +kernel
theorem dX10_greatestCycle_3 : decode cX10_greatestCycle 3 = .ok (.bipush 64, 2) := by decide +kernel
theorem dX10_greatestCycle_5 : decode cX10_greatestCycle 5 = .ok (.if_icmp .ge 18, 3) := by decide +kernel
theorem dX10_greatestCycle_8 : decode cX10_greatestCycle 8 = .ok (.aload_n 0, 1) := by decide +kernel
theorem dX10_greatestCycle_9 : decode cX10_greatestCycle 9 = .ok (.getfield 52, 3) := by decide +kernel
theorem dX10_greatestCycle_12 : decode cX10_greatestCycle 12 = .ok (.iload_n 2, 1) := by decide +kernel
theorem dX10_greatestCycle_13 : decode cX10_greatestCycle 13 = .ok (.sipush (-1000), 3) := by decide +kernel
theorem dX10_greatestCycle_16 : decode cX10_greatestCycle 16 = .ok (.iastore, 1) := by decide +kernel
theorem dX10_greatestCycle_17 : decode cX10_greatestCycle 17 = .ok (.iinc 2 1, 3) := by decide +kernel
theorem dX10_greatestCycle_20 : decode cX10_greatestCycle 20 = .ok (.goto (-18), 3) := by decide +kernel
theorem dX10_greatestCycle_23 : decode cX10_greatestCycle 23 = .ok (.iconst 0, 1) := by decide +kernel
theorem dX10_greatestCycle_24 : decode cX10_greatestCycle 24 = .ok (.istore_n 2, 1) := by decide +kernel
theorem dX10_greatestCycle_25 : decode cX10_greatestCycle 25 = .ok (.iload_n 2, 1) := by decide +kernel
theorem dX10_greatestCycle_26 : decode cX10_greatestCycle 26 = .ok (.bipush 8, 2) := by decide +kernel
theorem dX10_greatestCycle_28 : decode cX10_greatestCycle 28 = .ok (.if_icmp .ge 14, 3) := by decide +kernel
theorem dX10_greatestCycle_31 : decode cX10_greatestCycle 31 = .ok (.aload_n 0, 1) := by decide +kernel
theorem dX10_greatestCycle_32 : decode cX10_greatestCycle 32 = .ok (.iload_n 2, 1) := by decide +kernel
theorem dX10_greatestCycle_33 : decode cX10_greatestCycle 33 = .ok (.invokevirtual 211, 3) := by decide +kernel
theorem dX10_greatestCycle_36 : decode cX10_greatestCycle 36 = .ok (.iinc 2 1, 3) := by decide +kernel
theorem dX10_greatestCycle_39 : decode cX10_greatestCycle 39 = .ok (.goto (-14), 3) := by decide +kernel
theorem dX10_greatestCycle_42 : decode cX10_greatestCycle 42 = .ok (.iconst 0, 1) := by decide +kernel
theorem dX10_greatestCycle_43 : decode cX10_greatestCycle 43 = .ok (.istore_n 2, 1) := by decide +kernel
theorem dX10_greatestCycle_44 : decode cX10_greatestCycle 44 = .ok (.iload_n 2, 1) := by decide +kernel
theorem dX10_greatestCycle_45 : decode cX10_greatestCycle 45 = .ok (.sipush 2048, 3) := by decide +kernel
theorem dX10_greatestCycle_48 : decode cX10_greatestCycle 48 = .ok (.if_icmp .ge 17, 3) := by decide +kernel
theorem dX10_greatestCycle_51 : decode cX10_greatestCycle 51 = .ok (.aload_n 0, 1) := by decide +kernel
theorem dX10_greatestCycle_52 : decode cX10_greatestCycle 52 = .ok (.getfield 58, 3) := by decide +kernel
theorem dX10_greatestCycle_55 : decode cX10_greatestCycle 55 = .ok (.iload_n 2, 1) := by decide +kernel
theorem dX10_greatestCycle_56 : decode cX10_greatestCycle 56 = .ok (.ldc 214, 2) := by decide +kernel
theorem dX10_greatestCycle_58 : decode cX10_greatestCycle 58 = .ok (.iastore, 1) := by decide +kernel
theorem dX10_greatestCycle_59 : decode cX10_greatestCycle 59 = .ok (.iinc 2 1, 3) := by decide +kernel
theorem dX10_greatestCycle_62 : decode cX10_greatestCycle 62 = .ok (.goto (-18), 3) := by decide +kernel
theorem dX10_greatestCycle_65 : decode cX10_greatestCycle 65 = .ok (.aload_n 0, 1) := by decide +kernel
theorem dX10_greatestCycle_66 : decode cX10_greatestCycle 66 = .ok (.getfield 58, 3) := by decide +kernel
theorem dX10_greatestCycle_69 : decode cX10_greatestCycle 69 = .ok (.bipush 8, 2) := by decide +kernel
theorem dX10_greatestCycle_71 : decode cX10_greatestCycle 71 = .ok (.iconst 1, 1) := by decide +kernel
theorem dX10_greatestCycle_72 : decode cX10_greatestCycle 72 = .ok (.iload_n 1, 1) := by decide +kernel
theorem dX10_greatestCycle_73 : decode cX10_greatestCycle 73 = .ok (.ishl, 1) := by decide +kernel
theorem dX10_greatestCycle_74 : decode cX10_greatestCycle 74 = .ok (.imul, 1) := by decide +kernel
theorem dX10_greatestCycle_75 : decode cX10_greatestCycle 75 = .ok (.iload_n 1, 1) := by decide +kernel
theorem dX10_greatestCycle_76 : decode cX10_greatestCycle 76 = .ok (.iadd, 1) := by decide +kernel
theorem dX10_greatestCycle_77 : decode cX10_greatestCycle 77 = .ok (.iconst 0, 1) := by decide +kernel
theorem dX10_greatestCycle_78 : decode cX10_greatestCycle 78 = .ok (.iastore, 1) := by decide +kernel
theorem dX10_greatestCycle_79 : decode cX10_greatestCycle 79 = .ok (.ldc 214, 2) := by decide +kernel
theorem dX10_greatestCycle_81 : decode cX10_greatestCycle 81 = .ok (.istore_n 2, 1) := by decide +kernel
theorem dX10_greatestCycle_82 : decode cX10_greatestCycle 82 = .ok (.iconst 0, 1) := by decide +kernel
theorem dX10_greatestCycle_83 : decode cX10_greatestCycle 83 = .ok (.istore_n 3, 1) := by decide +kernel
theorem dX10_greatestCycle_84 : decode cX10_greatestCycle 84 = .ok (.iload_n 3, 1) := by decide +kernel
theorem dX10_greatestCycle_85 : decode cX10_greatestCycle 85 = .ok (.sipush 256, 3) := by decide +kernel
theorem dX10_greatestCycle_88 : decode cX10_greatestCycle 88 = .ok (.if_icmp .ge 96, 3) := by decide +kernel
theorem dX10_greatestCycle_91 : decode cX10_greatestCycle 91 = .ok (.iconst 0, 1) := by decide +kernel
theorem dX10_greatestCycle_92 : decode cX10_greatestCycle 92 = .ok (.istore 4, 2) := by decide +kernel
theorem dX10_greatestCycle_94 : decode cX10_greatestCycle 94 = .ok (.iload 4, 2) := by decide +kernel
theorem dX10_greatestCycle_96 : decode cX10_greatestCycle 96 = .ok (.bipush 8, 2) := by decide +kernel
theorem dX10_greatestCycle_98 : decode cX10_greatestCycle 98 = .ok (.if_icmp .ge 80, 3) := by decide +kernel
theorem dX10_greatestCycle_101 : decode cX10_greatestCycle 101 = .ok (.aload_n 0, 1) := by decide +kernel
theorem dX10_greatestCycle_102 : decode cX10_greatestCycle 102 = .ok (.getfield 58, 3) := by decide +kernel
theorem dX10_greatestCycle_105 : decode cX10_greatestCycle 105 = .ok (.bipush 8, 2) := by decide +kernel
theorem dX10_greatestCycle_107 : decode cX10_greatestCycle 107 = .ok (.iload_n 3, 1) := by decide +kernel
theorem dX10_greatestCycle_108 : decode cX10_greatestCycle 108 = .ok (.imul, 1) := by decide +kernel
theorem dX10_greatestCycle_109 : decode cX10_greatestCycle 109 = .ok (.iload 4, 2) := by decide +kernel
theorem dX10_greatestCycle_111 : decode cX10_greatestCycle 111 = .ok (.iadd, 1) := by decide +kernel
theorem dX10_greatestCycle_112 : decode cX10_greatestCycle 112 = .ok (.iaload, 1) := by decide +kernel
theorem dX10_greatestCycle_113 : decode cX10_greatestCycle 113 = .ok (.istore 5, 2) := by decide +kernel
theorem dX10_greatestCycle_115 : decode cX10_greatestCycle 115 = .ok (.iload 5, 2) := by decide +kernel
theorem dX10_greatestCycle_117 : decode cX10_greatestCycle 117 = .ok (.ldc 214, 2) := by decide +kernel
theorem dX10_greatestCycle_119 : decode cX10_greatestCycle 119 = .ok (.if_icmp .le 53, 3) := by decide +kernel
theorem dX10_greatestCycle_122 : decode cX10_greatestCycle 122 = .ok (.aload_n 0, 1) := by decide +kernel
theorem dX10_greatestCycle_123 : decode cX10_greatestCycle 123 = .ok (.getfield 52, 3) := by decide +kernel
theorem dX10_greatestCycle_126 : decode cX10_greatestCycle 126 = .ok (.bipush 8, 2) := by decide +kernel
theorem dX10_greatestCycle_128 : decode cX10_greatestCycle 128 = .ok (.iload 4, 2) := by decide +kernel
theorem dX10_greatestCycle_130 : decode cX10_greatestCycle 130 = .ok (.imul, 1) := by decide +kernel
theorem dX10_greatestCycle_131 : decode cX10_greatestCycle 131 = .ok (.iload_n 1, 1) := by decide +kernel
theorem dX10_greatestCycle_132 : decode cX10_greatestCycle 132 = .ok (.iadd, 1) := by decide +kernel
theorem dX10_greatestCycle_133 : decode cX10_greatestCycle 133 = .ok (.iaload, 1) := by decide +kernel
theorem dX10_greatestCycle_134 : decode cX10_greatestCycle 134 = .ok (.istore 6, 2) := by decide +kernel
theorem dX10_greatestCycle_136 : decode cX10_greatestCycle 136 = .ok (.iload 6, 2) := by decide +kernel
theorem dX10_greatestCycle_138 : decode cX10_greatestCycle 138 = .ok (.sipush (-1000), 3) := by decide +kernel
theorem dX10_greatestCycle_141 : decode cX10_greatestCycle 141 = .ok (.if_icmp .le 20, 3) := by decide +kernel
theorem dX10_greatestCycle_144 : decode cX10_greatestCycle 144 = .ok (.iload 5, 2) := by decide +kernel
theorem dX10_greatestCycle_146 : decode cX10_greatestCycle 146 = .ok (.iload 6, 2) := by decide +kernel
theorem dX10_greatestCycle_148 : decode cX10_greatestCycle 148 = .ok (.iadd, 1) := by decide +kernel
theorem dX10_greatestCycle_149 : decode cX10_greatestCycle 149 = .ok (.iload_n 2, 1) := by decide +kernel
theorem dX10_greatestCycle_150 : decode cX10_greatestCycle 150 = .ok (.if_icmp .le 11, 3) := by decide +kernel
theorem dX10_greatestCycle_153 : decode cX10_greatestCycle 153 = .ok (.iload 5, 2) := by decide +kernel
theorem dX10_greatestCycle_155 : decode cX10_greatestCycle 155 = .ok (.iload 6, 2) := by decide +kernel
theorem dX10_greatestCycle_157 : decode cX10_greatestCycle 157 = .ok (.iadd, 1) := by decide +kernel
theorem dX10_greatestCycle_158 : decode cX10_greatestCycle 158 = .ok (.goto 4, 3) := by decide +kernel
theorem dX10_greatestCycle_161 : decode cX10_greatestCycle 161 = .ok (.iload_n 2, 1) := by decide +kernel
theorem dX10_greatestCycle_162 : decode cX10_greatestCycle 162 = .ok (.istore_n 2, 1) := by decide +kernel
theorem dX10_greatestCycle_163 : decode cX10_greatestCycle 163 = .ok (.aload_n 0, 1) := by decide +kernel
theorem dX10_greatestCycle_164 : decode cX10_greatestCycle 164 = .ok (.iload_n 3, 1) := by decide +kernel
theorem dX10_greatestCycle_165 : decode cX10_greatestCycle 165 = .ok (.iload 4, 2) := by decide +kernel
theorem dX10_greatestCycle_167 : decode cX10_greatestCycle 167 = .ok (.iload 5, 2) := by decide +kernel
theorem dX10_greatestCycle_169 : decode cX10_greatestCycle 169 = .ok (.invokevirtual 215, 3) := by decide +kernel
theorem dX10_greatestCycle_172 : decode cX10_greatestCycle 172 = .ok (.iinc 4 1, 3) := by decide +kernel
theorem dX10_greatestCycle_175 : decode cX10_greatestCycle 175 = .ok (.goto (-81), 3) := by decide +kernel
theorem dX10_greatestCycle_178 : decode cX10_greatestCycle 178 = .ok (.iinc 3 1, 3) := by decide +kernel
theorem dX10_greatestCycle_181 : decode cX10_greatestCycle 181 = .ok (.goto (-97), 3) := by decide +kernel
theorem dX10_greatestCycle_184 : decode cX10_greatestCycle 184 = .ok (.iload_n 2, 1) := by decide +kernel
theorem dX10_greatestCycle_185 : decode cX10_greatestCycle 185 = .ok (.ireturn, 1) := by decide +kernel
theorem dX10_extend_0 : decode cX10_extend 0 = .ok (.iconst 0, 1) := by decide +kernel
theorem dX10_extend_1 : decode cX10_extend 1 = .ok (.istore 4, 2) := by decide +kernel
theorem dX10_extend_3 : decode cX10_extend 3 = .ok (.iload 4, 2) := by decide +kernel
theorem dX10_extend_5 : decode cX10_extend 5 = .ok (.bipush 8, 2) := by decide +kernel
theorem dX10_extend_7 : decode cX10_extend 7 = .ok (.if_icmp .ge 89, 3) := by decide +kernel
theorem dX10_extend_10 : decode cX10_extend 10 = .ok (.aload_n 0, 1) := by decide +kernel
theorem dX10_extend_11 : decode cX10_extend 11 = .ok (.getfield 52, 3) := by decide +kernel
theorem dX10_extend_14 : decode cX10_extend 14 = .ok (.bipush 8, 2) := by decide +kernel
theorem dX10_extend_16 : decode cX10_extend 16 = .ok (.iload_n 2, 1) := by decide +kernel
theorem dX10_extend_17 : decode cX10_extend 17 = .ok (.imul, 1) := by decide +kernel
theorem dX10_extend_18 : decode cX10_extend 18 = .ok (.iload 4, 2) := by decide +kernel
theorem dX10_extend_20 : decode cX10_extend 20 = .ok (.iadd, 1) := by decide +kernel
theorem dX10_extend_21 : decode cX10_extend 21 = .ok (.iaload, 1) := by decide +kernel
theorem dX10_extend_22 : decode cX10_extend 22 = .ok (.istore 5, 2) := by decide +kernel
theorem dX10_extend_24 : decode cX10_extend 24 = .ok (.iload_n 1, 1) := by decide +kernel
theorem dX10_extend_25 : decode cX10_extend 25 = .ok (.iload 4, 2) := by decide +kernel
theorem dX10_extend_27 : decode cX10_extend 27 = .ok (.ishr, 1) := by decide +kernel
theorem dX10_extend_28 : decode cX10_extend 28 = .ok (.iconst 1, 1) := by decide +kernel
theorem dX10_extend_29 : decode cX10_extend 29 = .ok (.iand, 1) := by decide +kernel
theorem dX10_extend_30 : decode cX10_extend 30 = .ok (.ifCond .ne 60, 3) := by decide +kernel
theorem dX10_extend_33 : decode cX10_extend 33 = .ok (.iload 5, 2) := by decide +kernel
theorem dX10_extend_35 : decode cX10_extend 35 = .ok (.sipush (-1000), 3) := by decide +kernel
theorem dX10_extend_38 : decode cX10_extend 38 = .ok (.if_icmp .le 52, 3) := by decide +kernel
theorem dX10_extend_41 : decode cX10_extend 41 = .ok (.bipush 8, 2) := by decide +kernel
theorem dX10_extend_43 : decode cX10_extend 43 = .ok (.iload_n 1, 1) := by decide +kernel
theorem dX10_extend_44 : decode cX10_extend 44 = .ok (.iconst 1, 1) := by decide +kernel
theorem dX10_extend_45 : decode cX10_extend 45 = .ok (.iload 4, 2) := by decide +kernel
theorem dX10_extend_47 : decode cX10_extend 47 = .ok (.ishl, 1) := by decide +kernel
theorem dX10_extend_48 : decode cX10_extend 48 = .ok (.ior, 1) := by decide +kernel
theorem dX10_extend_49 : decode cX10_extend 49 = .ok (.imul, 1) := by decide +kernel
theorem dX10_extend_50 : decode cX10_extend 50 = .ok (.iload 4, 2) := by decide +kernel
theorem dX10_extend_52 : decode cX10_extend 52 = .ok (.iadd, 1) := by decide +kernel
theorem dX10_extend_53 : decode cX10_extend 53 = .ok (.istore 6, 2) := by decide +kernel
theorem dX10_extend_55 : decode cX10_extend 55 = .ok (.aload_n 0, 1) := by decide +kernel
theorem dX10_extend_56 : decode cX10_extend 56 = .ok (.getfield 58, 3) := by decide +kernel
theorem dX10_extend_59 : decode cX10_extend 59 = .ok (.iload 6, 2) := by decide +kernel
theorem dX10_extend_61 : decode cX10_extend 61 = .ok (.iload_n 3, 1) := by decide +kernel
theorem dX10_extend_62 : decode cX10_extend 62 = .ok (.iload 5, 2) := by decide +kernel
theorem dX10_extend_64 : decode cX10_extend 64 = .ok (.iadd, 1) := by decide +kernel
theorem dX10_extend_65 : decode cX10_extend 65 = .ok (.aload_n 0, 1) := by decide +kernel
theorem dX10_extend_66 : decode cX10_extend 66 = .ok (.getfield 58, 3) := by decide +kernel
theorem dX10_extend_69 : decode cX10_extend 69 = .ok (.iload 6, 2) := by decide +kernel
theorem dX10_extend_71 : decode cX10_extend 71 = .ok (.iaload, 1) := by decide +kernel
theorem dX10_extend_72 : decode cX10_extend 72 = .ok (.if_icmp .le 10, 3) := by decide +kernel
theorem dX10_extend_75 : decode cX10_extend 75 = .ok (.iload_n 3, 1) := by decide +kernel
theorem dX10_extend_76 : decode cX10_extend 76 = .ok (.iload 5, 2) := by decide +kernel
theorem dX10_extend_78 : decode cX10_extend 78 = .ok (.iadd, 1) := by decide +kernel
theorem dX10_extend_79 : decode cX10_extend 79 = .ok (.goto 10, 3) := by decide +kernel
theorem dX10_extend_82 : decode cX10_extend 82 = .ok (.aload_n 0, 1) := by decide +kernel
theorem dX10_extend_83 : decode cX10_extend 83 = .ok (.getfield 58, 3) := by decide +kernel
theorem dX10_extend_86 : decode cX10_extend 86 = .ok (.iload 6, 2) := by decide +kernel
theorem dX10_extend_88 : decode cX10_extend 88 = .ok (.iaload, 1) := by decide +kernel
theorem dX10_extend_89 : decode cX10_extend 89 = .ok (.iastore, 1) := by decide +kernel
theorem dX10_extend_90 : decode cX10_extend 90 = .ok (.iinc 4 1, 3) := by decide +kernel
theorem dX10_extend_93 : decode cX10_extend 93 = .ok (.goto (-90), 3) := by decide +kernel
theorem dX10_extend_96 : decode cX10_extend 96 = .ok (.return_, 1) := by decide +kernel
theorem dX10_cycle_0 : decode cX10_cycle 0 = .ok (.iload_n 1, 1) := by decide +kernel
theorem dX10_cycle_1 : decode cX10_cycle 1 = .ok (.invokestatic 109, 3) := by decide +kernel
theorem dX10_cycle_4 : decode cX10_cycle 4 = .ok (.ifCond .ne 5, 3) := by decide +kernel
theorem dX10_cycle_7 : decode cX10_cycle 7 = .ok (.iconst (-1), 1) := by decide +kernel
theorem dX10_cycle_8 : decode cX10_cycle 8 = .ok (.ireturn, 1) := by decide +kernel
theorem dX10_cycle_9 : decode cX10_cycle 9 = .ok (.aload_n 0, 1) := by decide +kernel
theorem dX10_cycle_10 : decode cX10_cycle 10 = .ok (.invokevirtual 205, 3) := by decide +kernel
theorem dX10_cycle_13 : decode cX10_cycle 13 = .ok (.ifCond .ne 6, 3) := by decide +kernel
theorem dX10_cycle_16 : decode cX10_cycle 16 = .ok (.bipush (-2), 2) := by decide +kernel
theorem dX10_cycle_18 : decode cX10_cycle 18 = .ok (.ireturn, 1) := by decide +kernel
theorem dX10_cycle_19 : decode cX10_cycle 19 = .ok (.aload_n 0, 1) := by decide +kernel
theorem dX10_cycle_20 : decode cX10_cycle 20 = .ok (.iload_n 1, 1) := by decide +kernel
theorem dX10_cycle_21 : decode cX10_cycle 21 = .ok (.invokevirtual 219, 3) := by decide +kernel
theorem dX10_cycle_24 : decode cX10_cycle 24 = .ok (.istore_n 2, 1) := by decide +kernel
theorem dX10_cycle_25 : decode cX10_cycle 25 = .ok (.iload_n 2, 1) := by decide +kernel
theorem dX10_cycle_26 : decode cX10_cycle 26 = .ok (.ldc 214, 2) := by decide +kernel
theorem dX10_cycle_28 : decode cX10_cycle 28 = .ok (.if_icmp .ne 8, 3) := by decide +kernel
theorem dX10_cycle_31 : decode cX10_cycle 31 = .ok (.bipush (-9), 2) := by decide +kernel
theorem dX10_cycle_33 : decode cX10_cycle 33 = .ok (.goto 8, 3) := by decide +kernel
theorem dX10_cycle_36 : decode cX10_cycle 36 = .ok (.iload_n 2, 1) := by decide +kernel
theorem dX10_cycle_37 : decode cX10_cycle 37 = .ok (.sipush 1000, 3) := by decide +kernel
theorem dX10_cycle_40 : decode cX10_cycle 40 = .ok (.iadd, 1) := by decide +kernel
theorem dX10_cycle_41 : decode cX10_cycle 41 = .ok (.ireturn, 1) := by decide +kernel
theorem dX10_value_0 : decode cX10_value 0 = .ok (.iload_n 1, 1) := by decide +kernel
theorem dX10_value_1 : decode cX10_value 1 = .ok (.invokestatic 109, 3) := by decide +kernel
theorem dX10_value_4 : decode cX10_value 4 = .ok (.ifCond .eq 14, 3) := by decide +kernel
theorem dX10_value_7 : decode cX10_value 7 = .ok (.iload_n 2, 1) := by decide +kernel
theorem dX10_value_8 : decode cX10_value 8 = .ok (.iconst 0, 1) := by decide +kernel
theorem dX10_value_9 : decode cX10_value 9 = .ok (.sipush 399, 3) := by decide +kernel
theorem dX10_value_12 : decode cX10_value 12 = .ok (.invokestatic 74, 3) := by decide +kernel
theorem dX10_value_15 : decode cX10_value 15 = .ok (.ifCond .ne 5, 3) := by decide +kernel
theorem dX10_value_18 : decode cX10_value 18 = .ok (.iconst (-1), 1) := by decide +kernel
theorem dX10_value_19 : decode cX10_value 19 = .ok (.ireturn, 1) := by decide +kernel
theorem dX10_value_20 : decode cX10_value 20 = .ok (.aload_n 0, 1) := by decide +kernel
theorem dX10_value_21 : decode cX10_value 21 = .ok (.invokevirtual 193, 3) := by decide +kernel
theorem dX10_value_24 : decode cX10_value 24 = .ok (.aload_n 0, 1) := by decide +kernel
theorem dX10_value_25 : decode cX10_value 25 = .ok (.iload_n 1, 1) := by decide +kernel
theorem dX10_value_26 : decode cX10_value 26 = .ok (.iload_n 2, 1) := by decide +kernel
theorem dX10_value_27 : decode cX10_value 27 = .ok (.invokevirtual 190, 3) := by decide +kernel
theorem dX10_value_30 : decode cX10_value 30 = .ok (.ireturn, 1) := by decide +kernel
theorem dX10_differentValues_0 : decode cX10_differentValues 0 = .ok (.iconst 0, 1) := by decide +kernel
theorem dX10_differentValues_1 : decode cX10_differentValues 1 = .ok (.istore_n 3, 1) := by decide +kernel
theorem dX10_differentValues_2 : decode cX10_differentValues 2 = .ok (.iconst 0, 1) := by decide +kernel
theorem dX10_differentValues_3 : decode cX10_differentValues 3 = .ok (.istore 4, 2) := by decide +kernel
theorem dX10_differentValues_5 : decode cX10_differentValues 5 = .ok (.iconst 0, 1) := by decide +kernel
theorem dX10_differentValues_6 : decode cX10_differentValues 6 = .ok (.istore 5, 2) := by decide +kernel
theorem dX10_differentValues_8 : decode cX10_differentValues 8 = .ok (.iload 5, 2) := by decide +kernel
theorem dX10_differentValues_10 : decode cX10_differentValues 10 = .ok (.iload_n 2, 1) := by decide +kernel
theorem dX10_differentValues_11 : decode cX10_differentValues 11 = .ok (.if_icmp .ge 45, 3) := by decide +kernel
theorem dX10_differentValues_14 : decode cX10_differentValues 14 = .ok (.iload 4, 2) := by decide +kernel
theorem dX10_differentValues_16 : decode cX10_differentValues 16 = .ok (.iload_n 3, 1) := by decide +kernel
theorem dX10_differentValues_17 : decode cX10_differentValues 17 = .ok (.aload_n 0, 1) := by decide +kernel
theorem dX10_differentValues_18 : decode cX10_differentValues 18 = .ok (.iload_n 1, 1) := by decide +kernel
theorem dX10_differentValues_19 : decode cX10_differentValues 19 = .ok (.iload 5, 2) := by decide +kernel
theorem dX10_differentValues_21 : decode cX10_differentValues 21 = .ok (.invokevirtual 190, 3) := by decide +kernel
theorem dX10_differentValues_24 : decode cX10_differentValues 24 = .ok (.ishr, 1) := by decide +kernel
theorem dX10_differentValues_25 : decode cX10_differentValues 25 = .ok (.iconst 1, 1) := by decide +kernel
theorem dX10_differentValues_26 : decode cX10_differentValues 26 = .ok (.iand, 1) := by decide +kernel
theorem dX10_differentValues_27 : decode cX10_differentValues 27 = .ok (.ifCond .ne 7, 3) := by decide +kernel
theorem dX10_differentValues_30 : decode cX10_differentValues 30 = .ok (.iconst 1, 1) := by decide +kernel
theorem dX10_differentValues_31 : decode cX10_differentValues 31 = .ok (.goto 4, 3) := by decide +kernel
theorem dX10_differentValues_34 : decode cX10_differentValues 34 = .ok (.iconst 0, 1) := by decide +kernel
theorem dX10_differentValues_35 : decode cX10_differentValues 35 = .ok (.iadd, 1) := by decide +kernel
theorem dX10_differentValues_36 : decode cX10_differentValues 36 = .ok (.istore 4, 2) := by decide +kernel
theorem dX10_differentValues_38 : decode cX10_differentValues 38 = .ok (.iload_n 3, 1) := by decide +kernel
theorem dX10_differentValues_39 : decode cX10_differentValues 39 = .ok (.iconst 1, 1) := by decide +kernel
theorem dX10_differentValues_40 : decode cX10_differentValues 40 = .ok (.aload_n 0, 1) := by decide +kernel
theorem dX10_differentValues_41 : decode cX10_differentValues 41 = .ok (.iload_n 1, 1) := by decide +kernel
theorem dX10_differentValues_42 : decode cX10_differentValues 42 = .ok (.iload 5, 2) := by decide +kernel
theorem dX10_differentValues_44 : decode cX10_differentValues 44 = .ok (.invokevirtual 190, 3) := by decide +kernel
theorem dX10_differentValues_47 : decode cX10_differentValues 47 = .ok (.ishl, 1) := by decide +kernel
theorem dX10_differentValues_48 : decode cX10_differentValues 48 = .ok (.ior, 1) := by decide +kernel
theorem dX10_differentValues_49 : decode cX10_differentValues 49 = .ok (.istore_n 3, 1) := by decide +kernel
theorem dX10_differentValues_50 : decode cX10_differentValues 50 = .ok (.iinc 5 1, 3) := by decide +kernel
theorem dX10_differentValues_53 : decode cX10_differentValues 53 = .ok (.goto (-45), 3) := by decide +kernel
theorem dX10_differentValues_56 : decode cX10_differentValues 56 = .ok (.iload 4, 2) := by decide +kernel
theorem dX10_differentValues_58 : decode cX10_differentValues 58 = .ok (.ireturn, 1) := by decide +kernel
theorem dX10_sumOf_0 : decode cX10_sumOf 0 = .ok (.iconst 0, 1) := by decide +kernel
theorem dX10_sumOf_1 : decode cX10_sumOf 1 = .ok (.istore_n 3, 1) := by decide +kernel
theorem dX10_sumOf_2 : decode cX10_sumOf 2 = .ok (.iconst 0, 1) := by decide +kernel
theorem dX10_sumOf_3 : decode cX10_sumOf 3 = .ok (.istore 4, 2) := by decide +kernel
theorem dX10_sumOf_5 : decode cX10_sumOf 5 = .ok (.iload 4, 2) := by decide +kernel
theorem dX10_sumOf_7 : decode cX10_sumOf 7 = .ok (.iload_n 2, 1) := by decide +kernel
theorem dX10_sumOf_8 : decode cX10_sumOf 8 = .ok (.if_icmp .ge 19, 3) := by decide +kernel
theorem dX10_sumOf_11 : decode cX10_sumOf 11 = .ok (.iload_n 3, 1) := by decide +kernel
theorem dX10_sumOf_12 : decode cX10_sumOf 12 = .ok (.aload_n 0, 1) := by decide +kernel
theorem dX10_sumOf_13 : decode cX10_sumOf 13 = .ok (.iload_n 1, 1) := by decide +kernel
theorem dX10_sumOf_14 : decode cX10_sumOf 14 = .ok (.iload 4, 2) := by decide +kernel
theorem dX10_sumOf_16 : decode cX10_sumOf 16 = .ok (.invokevirtual 190, 3) := by decide +kernel
theorem dX10_sumOf_19 : decode cX10_sumOf 19 = .ok (.iadd, 1) := by decide +kernel
theorem dX10_sumOf_20 : decode cX10_sumOf 20 = .ok (.istore_n 3, 1) := by decide +kernel
theorem dX10_sumOf_21 : decode cX10_sumOf 21 = .ok (.iinc 4 1, 3) := by decide +kernel
theorem dX10_sumOf_24 : decode cX10_sumOf 24 = .ok (.goto (-19), 3) := by decide +kernel
theorem dX10_sumOf_27 : decode cX10_sumOf 27 = .ok (.iload_n 3, 1) := by decide +kernel
theorem dX10_sumOf_28 : decode cX10_sumOf 28 = .ok (.ireturn, 1) := by decide +kernel
theorem dX10_ahead_0 : decode cX10_ahead 0 = .ok (.sipush 200, 3) := by decide +kernel
theorem dX10_ahead_3 : decode cX10_ahead 3 = .ok (.iload_n 2, 1) := by decide +kernel
theorem dX10_ahead_4 : decode cX10_ahead 4 = .ok (.isub, 1) := by decide +kernel
theorem dX10_ahead_5 : decode cX10_ahead 5 = .ok (.istore_n 3, 1) := by decide +kernel
theorem dX10_ahead_6 : decode cX10_ahead 6 = .ok (.iload_n 3, 1) := by decide +kernel
theorem dX10_ahead_7 : decode cX10_ahead 7 = .ok (.ifCond .le 30, 3) := by decide +kernel
theorem dX10_ahead_10 : decode cX10_ahead 10 = .ok (.aload_n 0, 1) := by decide +kernel
theorem dX10_ahead_11 : decode cX10_ahead 11 = .ok (.iload_n 1, 1) := by decide +kernel
theorem dX10_ahead_12 : decode cX10_ahead 12 = .ok (.iload_n 3, 1) := by decide +kernel
theorem dX10_ahead_13 : decode cX10_ahead 13 = .ok (.iconst 1, 1) := by decide +kernel
theorem dX10_ahead_14 : decode cX10_ahead 14 = .ok (.isub, 1) := by decide +kernel
theorem dX10_ahead_15 : decode cX10_ahead 15 = .ok (.invokevirtual 190, 3) := by decide +kernel
theorem dX10_ahead_18 : decode cX10_ahead 18 = .ok (.aload_n 0, 1) := by decide +kernel
theorem dX10_ahead_19 : decode cX10_ahead 19 = .ok (.iload_n 1, 1) := by decide +kernel
theorem dX10_ahead_20 : decode cX10_ahead 20 = .ok (.iload_n 3, 1) := by decide +kernel
theorem dX10_ahead_21 : decode cX10_ahead 21 = .ok (.iconst 1, 1) := by decide +kernel
theorem dX10_ahead_22 : decode cX10_ahead 22 = .ok (.isub, 1) := by decide +kernel
theorem dX10_ahead_23 : decode cX10_ahead 23 = .ok (.iload_n 2, 1) := by decide +kernel
theorem dX10_ahead_24 : decode cX10_ahead 24 = .ok (.iadd, 1) := by decide +kernel
theorem dX10_ahead_25 : decode cX10_ahead 25 = .ok (.invokevirtual 190, 3) := by decide +kernel
theorem dX10_ahead_28 : decode cX10_ahead 28 = .ok (.if_icmp .ne 9, 3) := by decide +kernel
theorem dX10_ahead_31 : decode cX10_ahead 31 = .ok (.iinc 3 (-1), 3) := by decide +kernel
theorem dX10_ahead_34 : decode cX10_ahead 34 = .ok (.goto (-28), 3) := by decide +kernel
theorem dX10_ahead_37 : decode cX10_ahead 37 = .ok (.iload_n 3, 1) := by decide +kernel
theorem dX10_ahead_38 : decode cX10_ahead 38 = .ok (.iconst 2, 1) := by decide +kernel
theorem dX10_ahead_39 : decode cX10_ahead 39 = .ok (.iload_n 2, 1) := by decide +kernel
theorem dX10_ahead_40 : decode cX10_ahead 40 = .ok (.imul, 1) := by decide +kernel
theorem dX10_ahead_41 : decode cX10_ahead 41 = .ok (.iadd, 1) := by decide +kernel
theorem dX10_ahead_42 : decode cX10_ahead 42 = .ok (.sipush 200, 3) := by decide +kernel
theorem dX10_ahead_45 : decode cX10_ahead 45 = .ok (.if_icmp .gt 7, 3) := by decide +kernel
theorem dX10_ahead_48 : decode cX10_ahead 48 = .ok (.iload_n 3, 1) := by decide +kernel
theorem dX10_ahead_49 : decode cX10_ahead 49 = .ok (.goto 5, 3) := by decide +kernel
theorem dX10_ahead_52 : decode cX10_ahead 52 = .ok (.bipush (-9), 2) := by decide +kernel
theorem dX10_ahead_54 : decode cX10_ahead 54 = .ok (.ireturn, 1) := by decide +kernel
theorem dX10_period_0 : decode cX10_period 0 = .ok (.aload_n 0, 1) := by decide +kernel
theorem dX10_period_1 : decode cX10_period 1 = .ok (.iload_n 1, 1) := by decide +kernel
theorem dX10_period_2 : decode cX10_period 2 = .ok (.invokevirtual 196, 3) := by decide +kernel
theorem dX10_period_5 : decode cX10_period 5 = .ok (.sipush 200, 3) := by decide +kernel
theorem dX10_period_8 : decode cX10_period 8 = .ok (.if_icmp .ge 6, 3) := by decide +kernel
theorem dX10_period_11 : decode cX10_period 11 = .ok (.bipush (-9), 2) := by decide +kernel
theorem dX10_period_13 : decode cX10_period 13 = .ok (.ireturn, 1) := by decide +kernel
theorem dX10_period_14 : decode cX10_period 14 = .ok (.iconst 1, 1) := by decide +kernel
theorem dX10_period_15 : decode cX10_period 15 = .ok (.istore_n 3, 1) := by decide +kernel
theorem dX10_period_16 : decode cX10_period 16 = .ok (.iload_n 3, 1) := by decide +kernel
theorem dX10_period_17 : decode cX10_period 17 = .ok (.bipush 100, 2) := by decide +kernel
theorem dX10_period_19 : decode cX10_period 19 = .ok (.if_icmp .gt 35, 3) := by decide +kernel
theorem dX10_period_22 : decode cX10_period 22 = .ok (.aload_n 0, 1) := by decide +kernel
theorem dX10_period_23 : decode cX10_period 23 = .ok (.iload_n 1, 1) := by decide +kernel
theorem dX10_period_24 : decode cX10_period 24 = .ok (.iload_n 3, 1) := by decide +kernel
theorem dX10_period_25 : decode cX10_period 25 = .ok (.invokevirtual 222, 3) := by decide +kernel
theorem dX10_period_28 : decode cX10_period 28 = .ok (.bipush (-9), 2) := by decide +kernel
theorem dX10_period_30 : decode cX10_period 30 = .ok (.if_icmp .eq 18, 3) := by decide +kernel
theorem dX10_period_33 : decode cX10_period 33 = .ok (.iload_n 2, 1) := by decide +kernel
theorem dX10_period_34 : decode cX10_period 34 = .ok (.ifCond .eq 7, 3) := by decide +kernel
theorem dX10_period_37 : decode cX10_period 37 = .ok (.iload_n 3, 1) := by decide +kernel
theorem dX10_period_38 : decode cX10_period 38 = .ok (.goto 9, 3) := by decide +kernel
theorem dX10_period_41 : decode cX10_period 41 = .ok (.aload_n 0, 1) := by decide +kernel
theorem dX10_period_42 : decode cX10_period 42 = .ok (.iload_n 1, 1) := by decide +kernel
theorem dX10_period_43 : decode cX10_period 43 = .ok (.iload_n 3, 1) := by decide +kernel
theorem dX10_period_44 : decode cX10_period 44 = .ok (.invokevirtual 222, 3) := by decide +kernel
theorem dX10_period_47 : decode cX10_period 47 = .ok (.ireturn, 1) := by decide +kernel
theorem dX10_period_48 : decode cX10_period 48 = .ok (.iinc 3 1, 3) := by decide +kernel
theorem dX10_period_51 : decode cX10_period 51 = .ok (.goto (-35), 3) := by decide +kernel
theorem dX10_period_54 : decode cX10_period 54 = .ok (.bipush (-9), 2) := by decide +kernel
theorem dX10_period_56 : decode cX10_period 56 = .ok (.ireturn, 1) := by decide +kernel
theorem dX10_stream_0 : decode cX10_stream 0 = .ok (.iload_n 1, 1) := by decide +kernel
theorem dX10_stream_1 : decode cX10_stream 1 = .ok (.invokestatic 109, 3) := by decide +kernel
theorem dX10_stream_4 : decode cX10_stream 4 = .ok (.ifCond .eq 12, 3) := by decide +kernel
theorem dX10_stream_7 : decode cX10_stream 7 = .ok (.iload_n 2, 1) := by decide +kernel
theorem dX10_stream_8 : decode cX10_stream 8 = .ok (.iconst 0, 1) := by decide +kernel
theorem dX10_stream_9 : decode cX10_stream 9 = .ok (.iconst 5, 1) := by decide +kernel
theorem dX10_stream_10 : decode cX10_stream 10 = .ok (.invokestatic 74, 3) := by decide +kernel
theorem dX10_stream_13 : decode cX10_stream 13 = .ok (.ifCond .ne 5, 3) := by decide +kernel
theorem dX10_stream_16 : decode cX10_stream 16 = .ok (.iconst (-1), 1) := by decide +kernel
theorem dX10_stream_17 : decode cX10_stream 17 = .ok (.ireturn, 1) := by decide +kernel
theorem dX10_stream_18 : decode cX10_stream 18 = .ok (.iload_n 2, 1) := by decide +kernel
theorem dX10_stream_19 : decode cX10_stream 19 = .ok (.ifCond .ne 22, 3) := by decide +kernel
theorem dX10_stream_22 : decode cX10_stream 22 = .ok (.aload_n 0, 1) := by decide +kernel
end
section
theorem dX10_stream_23 : decode cX10_stream 23 = .ok (.iload_n 1, 1) := by decide +kernel
theorem dX10_stream_24 : decode cX10_stream 24 = .ok (.invokevirtual 122, 3) := by decide +kernel
theorem dX10_stream_27 : decode cX10_stream 27 = .ok (.ifCond .eq 11, 3) := by decide +kernel
theorem dX10_stream_30 : decode cX10_stream 30 = .ok (.aload_n 0, 1) := by decide +kernel
theorem dX10_stream_31 : decode cX10_stream 31 = .ok (.iload_n 1, 1) := by decide +kernel
theorem dX10_stream_32 : decode cX10_stream 32 = .ok (.invokevirtual 119, 3) := by decide +kernel
theorem dX10_stream_35 : decode cX10_stream 35 = .ok (.goto 5, 3) := by decide +kernel
theorem dX10_stream_38 : decode cX10_stream 38 = .ok (.bipush (-9), 2) := by decide +kernel
theorem dX10_stream_40 : decode cX10_stream 40 = .ok (.ireturn, 1) := by decide +kernel
theorem dX10_stream_41 : decode cX10_stream 41 = .ok (.aload_n 0, 1) := by decide +kernel
theorem dX10_stream_42 : decode cX10_stream 42 = .ok (.invokevirtual 193, 3) := by decide +kernel
theorem dX10_stream_45 : decode cX10_stream 45 = .ok (.iload_n 2, 1) := by decide +kernel
theorem dX10_stream_46 : decode cX10_stream 46 = .ok (.tableswitch 54 1 3 #[26, 32, 43], 26) := by decide +kernel
theorem dX10_stream_72 : decode cX10_stream 72 = .ok (.aload_n 0, 1) := by decide +kernel
theorem dX10_stream_73 : decode cX10_stream 73 = .ok (.iload_n 1, 1) := by decide +kernel
theorem dX10_stream_74 : decode cX10_stream 74 = .ok (.invokevirtual 196, 3) := by decide +kernel
theorem dX10_stream_77 : decode cX10_stream 77 = .ok (.ireturn, 1) := by decide +kernel
theorem dX10_stream_78 : decode cX10_stream 78 = .ok (.aload_n 0, 1) := by decide +kernel
theorem dX10_stream_79 : decode cX10_stream 79 = .ok (.iload_n 1, 1) := by decide +kernel
theorem dX10_stream_80 : decode cX10_stream 80 = .ok (.aload_n 0, 1) := by decide +kernel
theorem dX10_stream_81 : decode cX10_stream 81 = .ok (.iload_n 1, 1) := by decide +kernel
theorem dX10_stream_82 : decode cX10_stream 82 = .ok (.invokevirtual 196, 3) := by decide +kernel
theorem dX10_stream_85 : decode cX10_stream 85 = .ok (.invokevirtual 225, 3) := by decide +kernel
theorem dX10_stream_88 : decode cX10_stream 88 = .ok (.ireturn, 1) := by decide +kernel
theorem dX10_stream_89 : decode cX10_stream 89 = .ok (.aload_n 0, 1) := by decide +kernel
theorem dX10_stream_90 : decode cX10_stream 90 = .ok (.iload_n 1, 1) := by decide +kernel
theorem dX10_stream_91 : decode cX10_stream 91 = .ok (.aload_n 0, 1) := by decide +kernel
theorem dX10_stream_92 : decode cX10_stream 92 = .ok (.iload_n 1, 1) := by decide +kernel
theorem dX10_stream_93 : decode cX10_stream 93 = .ok (.invokevirtual 196, 3) := by decide +kernel
theorem dX10_stream_96 : decode cX10_stream 96 = .ok (.invokevirtual 228, 3) := by decide +kernel
theorem dX10_stream_99 : decode cX10_stream 99 = .ok (.ireturn, 1) := by decide +kernel
theorem dX10_stream_100 : decode cX10_stream 100 = .ok (.aload_n 0, 1) := by decide +kernel
theorem dX10_stream_101 : decode cX10_stream 101 = .ok (.iload_n 1, 1) := by decide +kernel
theorem dX10_stream_102 : decode cX10_stream 102 = .ok (.iload_n 2, 1) := by decide +kernel
theorem dX10_stream_103 : decode cX10_stream 103 = .ok (.iconst 4, 1) := by decide +kernel
theorem dX10_stream_104 : decode cX10_stream 104 = .ok (.if_icmp .ne 7, 3) := by decide +kernel
theorem dX10_stream_107 : decode cX10_stream 107 = .ok (.iconst 1, 1) := by decide +kernel
theorem dX10_stream_108 : decode cX10_stream 108 = .ok (.goto 4, 3) := by decide +kernel
theorem dX10_stream_111 : decode cX10_stream 111 = .ok (.iconst 0, 1) := by decide +kernel
theorem dX10_stream_112 : decode cX10_stream 112 = .ok (.invokevirtual 231, 3) := by decide +kernel
theorem dX10_stream_115 : decode cX10_stream 115 = .ok (.ireturn, 1) := by decide +kernel
theorem dX10_partingOf_0 : decode cX10_partingOf 0 = .ok (.iconst 0, 1) := by decide +kernel
theorem dX10_partingOf_1 : decode cX10_partingOf 1 = .ok (.istore_n 3, 1) := by decide +kernel
theorem dX10_partingOf_2 : decode cX10_partingOf 2 = .ok (.iload_n 3, 1) := by decide +kernel
theorem dX10_partingOf_3 : decode cX10_partingOf 3 = .ok (.sipush 400, 3) := by decide +kernel
theorem dX10_partingOf_6 : decode cX10_partingOf 6 = .ok (.if_icmp .ge 48, 3) := by decide +kernel
theorem dX10_partingOf_9 : decode cX10_partingOf 9 = .ok (.aload_n 0, 1) := by decide +kernel
theorem dX10_partingOf_10 : decode cX10_partingOf 10 = .ok (.iload_n 1, 1) := by decide +kernel
theorem dX10_partingOf_11 : decode cX10_partingOf 11 = .ok (.iload_n 3, 1) := by decide +kernel
theorem dX10_partingOf_12 : decode cX10_partingOf 12 = .ok (.invokevirtual 190, 3) := by decide +kernel
theorem dX10_partingOf_15 : decode cX10_partingOf 15 = .ok (.bipush (-9), 2) := by decide +kernel
theorem dX10_partingOf_17 : decode cX10_partingOf 17 = .ok (.if_icmp .eq 31, 3) := by decide +kernel
theorem dX10_partingOf_20 : decode cX10_partingOf 20 = .ok (.aload_n 0, 1) := by decide +kernel
theorem dX10_partingOf_21 : decode cX10_partingOf 21 = .ok (.iload_n 2, 1) := by decide +kernel
theorem dX10_partingOf_22 : decode cX10_partingOf 22 = .ok (.iload_n 3, 1) := by decide +kernel
theorem dX10_partingOf_23 : decode cX10_partingOf 23 = .ok (.invokevirtual 190, 3) := by decide +kernel
theorem dX10_partingOf_26 : decode cX10_partingOf 26 = .ok (.bipush (-9), 2) := by decide +kernel
theorem dX10_partingOf_28 : decode cX10_partingOf 28 = .ok (.if_icmp .eq 20, 3) := by decide +kernel
theorem dX10_partingOf_31 : decode cX10_partingOf 31 = .ok (.aload_n 0, 1) := by decide +kernel
theorem dX10_partingOf_32 : decode cX10_partingOf 32 = .ok (.iload_n 1, 1) := by decide +kernel
theorem dX10_partingOf_33 : decode cX10_partingOf 33 = .ok (.iload_n 3, 1) := by decide +kernel
theorem dX10_partingOf_34 : decode cX10_partingOf 34 = .ok (.invokevirtual 190, 3) := by decide +kernel
theorem dX10_partingOf_37 : decode cX10_partingOf 37 = .ok (.aload_n 0, 1) := by decide +kernel
theorem dX10_partingOf_38 : decode cX10_partingOf 38 = .ok (.iload_n 2, 1) := by decide +kernel
theorem dX10_partingOf_39 : decode cX10_partingOf 39 = .ok (.iload_n 3, 1) := by decide +kernel
theorem dX10_partingOf_40 : decode cX10_partingOf 40 = .ok (.invokevirtual 190, 3) := by decide +kernel
theorem dX10_partingOf_43 : decode cX10_partingOf 43 = .ok (.if_icmp .eq 5, 3) := by decide +kernel
theorem dX10_partingOf_46 : decode cX10_partingOf 46 = .ok (.iload_n 3, 1) := by decide +kernel
theorem dX10_partingOf_47 : decode cX10_partingOf 47 = .ok (.ireturn, 1) := by decide +kernel
theorem dX10_partingOf_48 : decode cX10_partingOf 48 = .ok (.iinc 3 1, 3) := by decide +kernel
theorem dX10_partingOf_51 : decode cX10_partingOf 51 = .ok (.goto (-49), 3) := by decide +kernel
theorem dX10_partingOf_54 : decode cX10_partingOf 54 = .ok (.bipush (-9), 2) := by decide +kernel
theorem dX10_partingOf_56 : decode cX10_partingOf 56 = .ok (.ireturn, 1) := by decide +kernel
theorem dX10_parting_0 : decode cX10_parting 0 = .ok (.iload_n 1, 1) := by decide +kernel
theorem dX10_parting_1 : decode cX10_parting 1 = .ok (.invokestatic 109, 3) := by decide +kernel
theorem dX10_parting_4 : decode cX10_parting 4 = .ok (.ifCond .eq 10, 3) := by decide +kernel
theorem dX10_parting_7 : decode cX10_parting 7 = .ok (.iload_n 2, 1) := by decide +kernel
theorem dX10_parting_8 : decode cX10_parting 8 = .ok (.invokestatic 109, 3) := by decide +kernel
theorem dX10_parting_11 : decode cX10_parting 11 = .ok (.ifCond .ne 5, 3) := by decide +kernel
theorem dX10_parting_14 : decode cX10_parting 14 = .ok (.iconst (-1), 1) := by decide +kernel
theorem dX10_parting_15 : decode cX10_parting 15 = .ok (.ireturn, 1) := by decide +kernel
theorem dX10_parting_16 : decode cX10_parting 16 = .ok (.aload_n 0, 1) := by decide +kernel
theorem dX10_parting_17 : decode cX10_parting 17 = .ok (.invokevirtual 193, 3) := by decide +kernel
theorem dX10_parting_20 : decode cX10_parting 20 = .ok (.aload_n 0, 1) := by decide +kernel
theorem dX10_parting_21 : decode cX10_parting 21 = .ok (.iload_n 1, 1) := by decide +kernel
theorem dX10_parting_22 : decode cX10_parting 22 = .ok (.iload_n 2, 1) := by decide +kernel
theorem dX10_parting_23 : decode cX10_parting 23 = .ok (.invokevirtual 235, 3) := by decide +kernel
theorem dX10_parting_26 : decode cX10_parting 26 = .ok (.ireturn, 1) := by decide +kernel
theorem dX10_alike_0 : decode cX10_alike 0 = .ok (.iload_n 1, 1) := by decide +kernel
theorem dX10_alike_1 : decode cX10_alike 1 = .ok (.invokestatic 109, 3) := by decide +kernel
theorem dX10_alike_4 : decode cX10_alike 4 = .ok (.ifCond .ne 5, 3) := by decide +kernel
theorem dX10_alike_7 : decode cX10_alike 7 = .ok (.iconst (-1), 1) := by decide +kernel
theorem dX10_alike_8 : decode cX10_alike 8 = .ok (.ireturn, 1) := by decide +kernel
theorem dX10_alike_9 : decode cX10_alike 9 = .ok (.aload_n 0, 1) := by decide +kernel
theorem dX10_alike_10 : decode cX10_alike 10 = .ok (.invokevirtual 193, 3) := by decide +kernel
theorem dX10_alike_13 : decode cX10_alike 13 = .ok (.iconst 0, 1) := by decide +kernel
theorem dX10_alike_14 : decode cX10_alike 14 = .ok (.istore_n 2, 1) := by decide +kernel
theorem dX10_alike_15 : decode cX10_alike 15 = .ok (.iconst 0, 1) := by decide +kernel
theorem dX10_alike_16 : decode cX10_alike 16 = .ok (.istore_n 3, 1) := by decide +kernel
theorem dX10_alike_17 : decode cX10_alike 17 = .ok (.iload_n 3, 1) := by decide +kernel
theorem dX10_alike_18 : decode cX10_alike 18 = .ok (.bipush 8, 2) := by decide +kernel
theorem dX10_alike_20 : decode cX10_alike 20 = .ok (.if_icmp .ge 48, 3) := by decide +kernel
theorem dX10_alike_23 : decode cX10_alike 23 = .ok (.iload_n 2, 1) := by decide +kernel
theorem dX10_alike_24 : decode cX10_alike 24 = .ok (.iload_n 3, 1) := by decide +kernel
theorem dX10_alike_25 : decode cX10_alike 25 = .ok (.iload_n 1, 1) := by decide +kernel
theorem dX10_alike_26 : decode cX10_alike 26 = .ok (.if_icmp .eq 33, 3) := by decide +kernel
theorem dX10_alike_29 : decode cX10_alike 29 = .ok (.aload_n 0, 1) := by decide +kernel
theorem dX10_alike_30 : decode cX10_alike 30 = .ok (.iload_n 3, 1) := by decide +kernel
theorem dX10_alike_31 : decode cX10_alike 31 = .ok (.invokevirtual 196, 3) := by decide +kernel
theorem dX10_alike_34 : decode cX10_alike 34 = .ok (.aload_n 0, 1) := by decide +kernel
theorem dX10_alike_35 : decode cX10_alike 35 = .ok (.iload_n 1, 1) := by decide +kernel
theorem dX10_alike_36 : decode cX10_alike 36 = .ok (.invokevirtual 196, 3) := by decide +kernel
theorem dX10_alike_39 : decode cX10_alike 39 = .ok (.if_icmp .ne 20, 3) := by decide +kernel
theorem dX10_alike_42 : decode cX10_alike 42 = .ok (.aload_n 0, 1) := by decide +kernel
theorem dX10_alike_43 : decode cX10_alike 43 = .ok (.iload_n 1, 1) := by decide +kernel
theorem dX10_alike_44 : decode cX10_alike 44 = .ok (.iload_n 3, 1) := by decide +kernel
theorem dX10_alike_45 : decode cX10_alike 45 = .ok (.invokevirtual 235, 3) := by decide +kernel
theorem dX10_alike_48 : decode cX10_alike 48 = .ok (.bipush (-9), 2) := by decide +kernel
theorem dX10_alike_50 : decode cX10_alike 50 = .ok (.if_icmp .ne 9, 3) := by decide +kernel
theorem dX10_alike_53 : decode cX10_alike 53 = .ok (.iconst 1, 1) := by decide +kernel
theorem dX10_alike_54 : decode cX10_alike 54 = .ok (.iload_n 3, 1) := by decide +kernel
theorem dX10_alike_55 : decode cX10_alike 55 = .ok (.ishl, 1) := by decide +kernel
theorem dX10_alike_56 : decode cX10_alike 56 = .ok (.goto 4, 3) := by decide +kernel
theorem dX10_alike_59 : decode cX10_alike 59 = .ok (.iconst 0, 1) := by decide +kernel
theorem dX10_alike_60 : decode cX10_alike 60 = .ok (.ior, 1) := by decide +kernel
theorem dX10_alike_61 : decode cX10_alike 61 = .ok (.istore_n 2, 1) := by decide +kernel
theorem dX10_alike_62 : decode cX10_alike 62 = .ok (.iinc 3 1, 3) := by decide +kernel
theorem dX10_alike_65 : decode cX10_alike 65 = .ok (.goto (-48), 3) := by decide +kernel
theorem dX10_alike_68 : decode cX10_alike 68 = .ok (.iload_n 2, 1) := by decide +kernel
theorem dX10_alike_69 : decode cX10_alike 69 = .ok (.ireturn, 1) := by decide +kernel
theorem dX10_gather_0 : decode cX10_gather 0 = .ok (.iconst 0, 1) := by decide +kernel
theorem dX10_gather_1 : decode cX10_gather 1 = .ok (.istore_n 2, 1) := by decide +kernel
theorem dX10_gather_2 : decode cX10_gather 2 = .ok (.iload_n 2, 1) := by decide +kernel
theorem dX10_gather_3 : decode cX10_gather 3 = .ok (.sipush 3200, 3) := by decide +kernel
theorem dX10_gather_6 : decode cX10_gather 6 = .ok (.if_icmp .ge 16, 3) := by decide +kernel
theorem dX10_gather_9 : decode cX10_gather 9 = .ok (.aload_n 0, 1) := by decide +kernel
theorem dX10_gather_10 : decode cX10_gather 10 = .ok (.getfield 61, 3) := by decide +kernel
theorem dX10_gather_13 : decode cX10_gather 13 = .ok (.iload_n 2, 1) := by decide +kernel
theorem dX10_gather_14 : decode cX10_gather 14 = .ok (.iconst 0, 1) := by decide +kernel
theorem dX10_gather_15 : decode cX10_gather 15 = .ok (.bastore, 1) := by decide +kernel
theorem dX10_gather_16 : decode cX10_gather 16 = .ok (.iinc 2 1, 3) := by decide +kernel
theorem dX10_gather_19 : decode cX10_gather 19 = .ok (.goto (-17), 3) := by decide +kernel
theorem dX10_gather_22 : decode cX10_gather 22 = .ok (.aload_n 0, 1) := by decide +kernel
theorem dX10_gather_23 : decode cX10_gather 23 = .ok (.getfield 65, 3) := by decide +kernel
theorem dX10_gather_26 : decode cX10_gather 26 = .ok (.iconst 0, 1) := by decide +kernel
theorem dX10_gather_27 : decode cX10_gather 27 = .ok (.iload_n 1, 1) := by decide +kernel
theorem dX10_gather_28 : decode cX10_gather 28 = .ok (.iastore, 1) := by decide +kernel
theorem dX10_gather_29 : decode cX10_gather 29 = .ok (.iconst 1, 1) := by decide +kernel
theorem dX10_gather_30 : decode cX10_gather 30 = .ok (.istore_n 2, 1) := by decide +kernel
theorem dX10_gather_31 : decode cX10_gather 31 = .ok (.iconst 0, 1) := by decide +kernel
theorem dX10_gather_32 : decode cX10_gather 32 = .ok (.istore_n 3, 1) := by decide +kernel
theorem dX10_gather_33 : decode cX10_gather 33 = .ok (.iload_n 3, 1) := by decide +kernel
theorem dX10_gather_34 : decode cX10_gather 34 = .ok (.iload_n 2, 1) := by decide +kernel
theorem dX10_gather_35 : decode cX10_gather 35 = .ok (.if_icmp .ge 97, 3) := by decide +kernel
theorem dX10_gather_38 : decode cX10_gather 38 = .ok (.aload_n 0, 1) := by decide +kernel
theorem dX10_gather_39 : decode cX10_gather 39 = .ok (.aload_n 0, 1) := by decide +kernel
theorem dX10_gather_40 : decode cX10_gather 40 = .ok (.getfield 65, 3) := by decide +kernel
theorem dX10_gather_43 : decode cX10_gather 43 = .ok (.iload_n 3, 1) := by decide +kernel
theorem dX10_gather_44 : decode cX10_gather 44 = .ok (.iaload, 1) := by decide +kernel
theorem dX10_gather_45 : decode cX10_gather 45 = .ok (.sipush 400, 3) := by decide +kernel
theorem dX10_gather_48 : decode cX10_gather 48 = .ok (.idiv, 1) := by decide +kernel
theorem dX10_gather_49 : decode cX10_gather 49 = .ok (.aload_n 0, 1) := by decide +kernel
theorem dX10_gather_50 : decode cX10_gather 50 = .ok (.getfield 65, 3) := by decide +kernel
theorem dX10_gather_53 : decode cX10_gather 53 = .ok (.iload_n 3, 1) := by decide +kernel
theorem dX10_gather_54 : decode cX10_gather 54 = .ok (.iaload, 1) := by decide +kernel
theorem dX10_gather_55 : decode cX10_gather 55 = .ok (.sipush 400, 3) := by decide +kernel
theorem dX10_gather_58 : decode cX10_gather 58 = .ok (.irem, 1) := by decide +kernel
theorem dX10_gather_59 : decode cX10_gather 59 = .ok (.invokevirtual 184, 3) := by decide +kernel
theorem dX10_gather_62 : decode cX10_gather 62 = .ok (.istore 4, 2) := by decide +kernel
theorem dX10_gather_64 : decode cX10_gather 64 = .ok (.iconst 0, 1) := by decide +kernel
theorem dX10_gather_65 : decode cX10_gather 65 = .ok (.istore 5, 2) := by decide +kernel
theorem dX10_gather_67 : decode cX10_gather 67 = .ok (.iload 5, 2) := by decide +kernel
theorem dX10_gather_69 : decode cX10_gather 69 = .ok (.aload_n 0, 1) := by decide +kernel
theorem dX10_gather_70 : decode cX10_gather 70 = .ok (.getfield 178, 3) := by decide +kernel
theorem dX10_gather_73 : decode cX10_gather 73 = .ok (.if_icmp .ge 53, 3) := by decide +kernel
theorem dX10_gather_76 : decode cX10_gather 76 = .ok (.aload_n 0, 1) := by decide +kernel
theorem dX10_gather_77 : decode cX10_gather 77 = .ok (.getfield 61, 3) := by decide +kernel
theorem dX10_gather_80 : decode cX10_gather 80 = .ok (.aload_n 0, 1) := by decide +kernel
theorem dX10_gather_81 : decode cX10_gather 81 = .ok (.getfield 49, 3) := by decide +kernel
theorem dX10_gather_84 : decode cX10_gather 84 = .ok (.iload 5, 2) := by decide +kernel
theorem dX10_gather_86 : decode cX10_gather 86 = .ok (.iaload, 1) := by decide +kernel
theorem dX10_gather_87 : decode cX10_gather 87 = .ok (.baload, 1) := by decide +kernel
theorem dX10_gather_88 : decode cX10_gather 88 = .ok (.ifCond .ne 32, 3) := by decide +kernel
theorem dX10_gather_91 : decode cX10_gather 91 = .ok (.aload_n 0, 1) := by decide +kernel
theorem dX10_gather_92 : decode cX10_gather 92 = .ok (.getfield 61, 3) := by decide +kernel
theorem dX10_gather_95 : decode cX10_gather 95 = .ok (.aload_n 0, 1) := by decide +kernel
theorem dX10_gather_96 : decode cX10_gather 96 = .ok (.getfield 49, 3) := by decide +kernel
theorem dX10_gather_99 : decode cX10_gather 99 = .ok (.iload 5, 2) := by decide +kernel
theorem dX10_gather_101 : decode cX10_gather 101 = .ok (.iaload, 1) := by decide +kernel
theorem dX10_gather_102 : decode cX10_gather 102 = .ok (.iconst 1, 1) := by decide +kernel
theorem dX10_gather_103 : decode cX10_gather 103 = .ok (.bastore, 1) := by decide +kernel
theorem dX10_gather_104 : decode cX10_gather 104 = .ok (.aload_n 0, 1) := by decide +kernel
theorem dX10_gather_105 : decode cX10_gather 105 = .ok (.getfield 65, 3) := by decide +kernel
theorem dX10_gather_108 : decode cX10_gather 108 = .ok (.iload_n 2, 1) := by decide +kernel
theorem dX10_gather_109 : decode cX10_gather 109 = .ok (.aload_n 0, 1) := by decide +kernel
theorem dX10_gather_110 : decode cX10_gather 110 = .ok (.getfield 49, 3) := by decide +kernel
theorem dX10_gather_113 : decode cX10_gather 113 = .ok (.iload 5, 2) := by decide +kernel
theorem dX10_gather_115 : decode cX10_gather 115 = .ok (.iaload, 1) := by decide +kernel
theorem dX10_gather_116 : decode cX10_gather 116 = .ok (.iastore, 1) := by decide +kernel
theorem dX10_gather_117 : decode cX10_gather 117 = .ok (.iinc 2 1, 3) := by decide +kernel
theorem dX10_gather_120 : decode cX10_gather 120 = .ok (.iinc 5 1, 3) := by decide +kernel
theorem dX10_gather_123 : decode cX10_gather 123 = .ok (.goto (-56), 3) := by decide +kernel
theorem dX10_gather_126 : decode cX10_gather 126 = .ok (.iinc 3 1, 3) := by decide +kernel
theorem dX10_gather_129 : decode cX10_gather 129 = .ok (.goto (-96), 3) := by decide +kernel
theorem dX10_gather_132 : decode cX10_gather 132 = .ok (.iload_n 2, 1) := by decide +kernel
theorem dX10_gather_133 : decode cX10_gather 133 = .ok (.iconst 1, 1) := by decide +kernel
theorem dX10_gather_134 : decode cX10_gather 134 = .ok (.isub, 1) := by decide +kernel
theorem dX10_gather_135 : decode cX10_gather 135 = .ok (.ireturn, 1) := by decide +kernel
theorem dX10_highestNeeded_0 : decode cX10_highestNeeded 0 = .ok (.bipush (-9), 2) := by decide +kernel
theorem dX10_highestNeeded_2 : decode cX10_highestNeeded 2 = .ok (.istore_n 2, 1) := by decide +kernel
theorem dX10_highestNeeded_3 : decode cX10_highestNeeded 3 = .ok (.iconst 1, 1) := by decide +kernel
theorem dX10_highestNeeded_4 : decode cX10_highestNeeded 4 = .ok (.istore_n 3, 1) := by decide +kernel
theorem dX10_highestNeeded_5 : decode cX10_highestNeeded 5 = .ok (.iload_n 3, 1) := by decide +kernel
theorem dX10_highestNeeded_6 : decode cX10_highestNeeded 6 = .ok (.iload_n 1, 1) := by decide +kernel
theorem dX10_highestNeeded_7 : decode cX10_highestNeeded 7 = .ok (.if_icmp .gt 38, 3) := by decide +kernel
theorem dX10_highestNeeded_10 : decode cX10_highestNeeded 10 = .ok (.aload_n 0, 1) := by decide +kernel
theorem dX10_highestNeeded_11 : decode cX10_highestNeeded 11 = .ok (.getfield 65, 3) := by decide +kernel
theorem dX10_highestNeeded_14 : decode cX10_highestNeeded 14 = .ok (.iload_n 3, 1) := by decide +kernel
theorem dX10_highestNeeded_15 : decode cX10_highestNeeded 15 = .ok (.iaload, 1) := by decide +kernel
theorem dX10_highestNeeded_16 : decode cX10_highestNeeded 16 = .ok (.sipush 400, 3) := by decide +kernel
theorem dX10_highestNeeded_19 : decode cX10_highestNeeded 19 = .ok (.irem, 1) := by decide +kernel
theorem dX10_highestNeeded_20 : decode cX10_highestNeeded 20 = .ok (.iload_n 2, 1) := by decide +kernel
theorem dX10_highestNeeded_21 : decode cX10_highestNeeded 21 = .ok (.if_icmp .le 16, 3) := by decide +kernel
theorem dX10_highestNeeded_24 : decode cX10_highestNeeded 24 = .ok (.aload_n 0, 1) := by decide +kernel
theorem dX10_highestNeeded_25 : decode cX10_highestNeeded 25 = .ok (.getfield 65, 3) := by decide +kernel
theorem dX10_highestNeeded_28 : decode cX10_highestNeeded 28 = .ok (.iload_n 3, 1) := by decide +kernel
theorem dX10_highestNeeded_29 : decode cX10_highestNeeded 29 = .ok (.iaload, 1) := by decide +kernel
theorem dX10_highestNeeded_30 : decode cX10_highestNeeded 30 = .ok (.sipush 400, 3) := by decide +kernel
theorem dX10_highestNeeded_33 : decode cX10_highestNeeded 33 = .ok (.irem, 1) := by decide +kernel
theorem dX10_highestNeeded_34 : decode cX10_highestNeeded 34 = .ok (.goto 4, 3) := by decide +kernel
theorem dX10_highestNeeded_37 : decode cX10_highestNeeded 37 = .ok (.iload_n 2, 1) := by decide +kernel
theorem dX10_highestNeeded_38 : decode cX10_highestNeeded 38 = .ok (.istore_n 2, 1) := by decide +kernel
theorem dX10_highestNeeded_39 : decode cX10_highestNeeded 39 = .ok (.iinc 3 1, 3) := by decide +kernel
theorem dX10_highestNeeded_42 : decode cX10_highestNeeded 42 = .ok (.goto (-37), 3) := by decide +kernel
theorem dX10_highestNeeded_45 : decode cX10_highestNeeded 45 = .ok (.iload_n 2, 1) := by decide +kernel
theorem dX10_highestNeeded_46 : decode cX10_highestNeeded 46 = .ok (.ireturn, 1) := by decide +kernel
theorem dX10_streamsNeeded_0 : decode cX10_streamsNeeded 0 = .ok (.iconst 0, 1) := by decide +kernel
theorem dX10_streamsNeeded_1 : decode cX10_streamsNeeded 1 = .ok (.istore_n 2, 1) := by decide +kernel
theorem dX10_streamsNeeded_2 : decode cX10_streamsNeeded 2 = .ok (.iconst 0, 1) := by decide +kernel
theorem dX10_streamsNeeded_3 : decode cX10_streamsNeeded 3 = .ok (.istore_n 3, 1) := by decide +kernel
theorem dX10_streamsNeeded_4 : decode cX10_streamsNeeded 4 = .ok (.iconst 1, 1) := by decide +kernel
theorem dX10_streamsNeeded_5 : decode cX10_streamsNeeded 5 = .ok (.istore 4, 2) := by decide +kernel
theorem dX10_streamsNeeded_7 : decode cX10_streamsNeeded 7 = .ok (.iload 4, 2) := by decide +kernel
theorem dX10_streamsNeeded_9 : decode cX10_streamsNeeded 9 = .ok (.iload_n 1, 1) := by decide +kernel
theorem dX10_streamsNeeded_10 : decode cX10_streamsNeeded 10 = .ok (.if_icmp .gt 46, 3) := by decide +kernel
theorem dX10_streamsNeeded_13 : decode cX10_streamsNeeded 13 = .ok (.aload_n 0, 1) := by decide +kernel
theorem dX10_streamsNeeded_14 : decode cX10_streamsNeeded 14 = .ok (.getfield 65, 3) := by decide +kernel
theorem dX10_streamsNeeded_17 : decode cX10_streamsNeeded 17 = .ok (.iload 4, 2) := by decide +kernel
theorem dX10_streamsNeeded_19 : decode cX10_streamsNeeded 19 = .ok (.iaload, 1) := by decide +kernel
theorem dX10_streamsNeeded_20 : decode cX10_streamsNeeded 20 = .ok (.sipush 400, 3) := by decide +kernel
theorem dX10_streamsNeeded_23 : decode cX10_streamsNeeded 23 = .ok (.idiv, 1) := by decide +kernel
theorem dX10_streamsNeeded_24 : decode cX10_streamsNeeded 24 = .ok (.istore 5, 2) := by decide +kernel
theorem dX10_streamsNeeded_26 : decode cX10_streamsNeeded 26 = .ok (.iload_n 3, 1) := by decide +kernel
theorem dX10_streamsNeeded_27 : decode cX10_streamsNeeded 27 = .ok (.iload_n 2, 1) := by decide +kernel
theorem dX10_streamsNeeded_28 : decode cX10_streamsNeeded 28 = .ok (.iload 5, 2) := by decide +kernel
theorem dX10_streamsNeeded_30 : decode cX10_streamsNeeded 30 = .ok (.ishr, 1) := by decide +kernel
theorem dX10_streamsNeeded_31 : decode cX10_streamsNeeded 31 = .ok (.iconst 1, 1) := by decide +kernel
theorem dX10_streamsNeeded_32 : decode cX10_streamsNeeded 32 = .ok (.iand, 1) := by decide +kernel
theorem dX10_streamsNeeded_33 : decode cX10_streamsNeeded 33 = .ok (.ifCond .ne 7, 3) := by decide +kernel
theorem dX10_streamsNeeded_36 : decode cX10_streamsNeeded 36 = .ok (.iconst 1, 1) := by decide +kernel
theorem dX10_streamsNeeded_37 : decode cX10_streamsNeeded 37 = .ok (.goto 4, 3) := by decide +kernel
theorem dX10_streamsNeeded_40 : decode cX10_streamsNeeded 40 = .ok (.iconst 0, 1) := by decide +kernel
theorem dX10_streamsNeeded_41 : decode cX10_streamsNeeded 41 = .ok (.iadd, 1) := by decide +kernel
theorem dX10_streamsNeeded_42 : decode cX10_streamsNeeded 42 = .ok (.istore_n 3, 1) := by decide +kernel
theorem dX10_streamsNeeded_43 : decode cX10_streamsNeeded 43 = .ok (.iload_n 2, 1) := by decide +kernel
theorem dX10_streamsNeeded_44 : decode cX10_streamsNeeded 44 = .ok (.iconst 1, 1) := by decide +kernel
theorem dX10_streamsNeeded_45 : decode cX10_streamsNeeded 45 = .ok (.iload 5, 2) := by decide +kernel
theorem dX10_streamsNeeded_47 : decode cX10_streamsNeeded 47 = .ok (.ishl, 1) := by decide +kernel
theorem dX10_streamsNeeded_48 : decode cX10_streamsNeeded 48 = .ok (.ior, 1) := by decide +kernel
theorem dX10_streamsNeeded_49 : decode cX10_streamsNeeded 49 = .ok (.istore_n 2, 1) := by decide +kernel
theorem dX10_streamsNeeded_50 : decode cX10_streamsNeeded 50 = .ok (.iinc 4 1, 3) := by decide +kernel
theorem dX10_streamsNeeded_53 : decode cX10_streamsNeeded 53 = .ok (.goto (-46), 3) := by decide +kernel
theorem dX10_streamsNeeded_56 : decode cX10_streamsNeeded 56 = .ok (.iload_n 3, 1) := by decide +kernel
theorem dX10_streamsNeeded_57 : decode cX10_streamsNeeded 57 = .ok (.ireturn, 1) := by decide +kernel
theorem dX10_needs_0 : decode cX10_needs 0 = .ok (.iload_n 1, 1) := by decide +kernel
theorem dX10_needs_1 : decode cX10_needs 1 = .ok (.invokestatic 109, 3) := by decide +kernel
theorem dX10_needs_4 : decode cX10_needs 4 = .ok (.ifCond .eq 23, 3) := by decide +kernel
theorem dX10_needs_7 : decode cX10_needs 7 = .ok (.iload_n 2, 1) := by decide +kernel
theorem dX10_needs_8 : decode cX10_needs 8 = .ok (.iconst 0, 1) := by decide +kernel
theorem dX10_needs_9 : decode cX10_needs 9 = .ok (.sipush 399, 3) := by decide +kernel
theorem dX10_needs_12 : decode cX10_needs 12 = .ok (.invokestatic 74, 3) := by decide +kernel
theorem dX10_needs_15 : decode cX10_needs 15 = .ok (.ifCond .eq 12, 3) := by decide +kernel
theorem dX10_needs_18 : decode cX10_needs 18 = .ok (.iload_n 3, 1) := by decide +kernel
theorem dX10_needs_19 : decode cX10_needs 19 = .ok (.iconst 0, 1) := by decide +kernel
theorem dX10_needs_20 : decode cX10_needs 20 = .ok (.iconst 3, 1) := by decide +kernel
theorem dX10_needs_21 : decode cX10_needs 21 = .ok (.invokestatic 74, 3) := by decide +kernel
theorem dX10_needs_24 : decode cX10_needs 24 = .ok (.ifCond .ne 5, 3) := by decide +kernel
theorem dX10_needs_27 : decode cX10_needs 27 = .ok (.iconst (-1), 1) := by decide +kernel
theorem dX10_needs_28 : decode cX10_needs 28 = .ok (.ireturn, 1) := by decide +kernel
theorem dX10_needs_29 : decode cX10_needs 29 = .ok (.aload_n 0, 1) := by decide +kernel
theorem dX10_needs_30 : decode cX10_needs 30 = .ok (.invokevirtual 193, 3) := by decide +kernel
theorem dX10_needs_33 : decode cX10_needs 33 = .ok (.aload_n 0, 1) := by decide +kernel
theorem dX10_needs_34 : decode cX10_needs 34 = .ok (.iload_n 1, 1) := by decide +kernel
theorem dX10_needs_35 : decode cX10_needs 35 = .ok (.iload_n 2, 1) := by decide +kernel
theorem dX10_needs_36 : decode cX10_needs 36 = .ok (.invokevirtual 190, 3) := by decide +kernel
theorem dX10_needs_39 : decode cX10_needs 39 = .ok (.bipush (-9), 2) := by decide +kernel
theorem dX10_needs_41 : decode cX10_needs 41 = .ok (.if_icmp .ne 6, 3) := by decide +kernel
theorem dX10_needs_44 : decode cX10_needs 44 = .ok (.bipush (-9), 2) := by decide +kernel
theorem dX10_needs_46 : decode cX10_needs 46 = .ok (.ireturn, 1) := by decide +kernel
theorem dX10_needs_47 : decode cX10_needs 47 = .ok (.iload_n 3, 1) := by decide +kernel
theorem dX10_needs_48 : decode cX10_needs 48 = .ok (.iconst 1, 1) := by decide +kernel
theorem dX10_needs_49 : decode cX10_needs 49 = .ok (.if_icmp .ne 16, 3) := by decide +kernel
theorem dX10_needs_52 : decode cX10_needs 52 = .ok (.aload_n 0, 1) := by decide +kernel
theorem dX10_needs_53 : decode cX10_needs 53 = .ok (.getfield 34, 3) := by decide +kernel
theorem dX10_needs_56 : decode cX10_needs 56 = .ok (.sipush 400, 3) := by decide +kernel
theorem dX10_needs_59 : decode cX10_needs 59 = .ok (.iload_n 1, 1) := by decide +kernel
theorem dX10_needs_60 : decode cX10_needs 60 = .ok (.imul, 1) := by decide +kernel
theorem dX10_needs_61 : decode cX10_needs 61 = .ok (.iload_n 2, 1) := by decide +kernel
theorem dX10_needs_62 : decode cX10_needs 62 = .ok (.iadd, 1) := by decide +kernel
theorem dX10_needs_63 : decode cX10_needs 63 = .ok (.iaload, 1) := by decide +kernel
theorem dX10_needs_64 : decode cX10_needs 64 = .ok (.ireturn, 1) := by decide +kernel
theorem dX10_needs_65 : decode cX10_needs 65 = .ok (.aload_n 0, 1) := by decide +kernel
theorem dX10_needs_66 : decode cX10_needs 66 = .ok (.sipush 400, 3) := by decide +kernel
theorem dX10_needs_69 : decode cX10_needs 69 = .ok (.iload_n 1, 1) := by decide +kernel
theorem dX10_needs_70 : decode cX10_needs 70 = .ok (.imul, 1) := by decide +kernel
theorem dX10_needs_71 : decode cX10_needs 71 = .ok (.iload_n 2, 1) := by decide +kernel
theorem dX10_needs_72 : decode cX10_needs 72 = .ok (.iadd, 1) := by decide +kernel
theorem dX10_needs_73 : decode cX10_needs 73 = .ok (.invokevirtual 238, 3) := by decide +kernel
theorem dX10_needs_76 : decode cX10_needs 76 = .ok (.istore 4, 2) := by decide +kernel
theorem dX10_needs_78 : decode cX10_needs 78 = .ok (.iload_n 3, 1) := by decide +kernel
theorem dX10_needs_79 : decode cX10_needs 79 = .ok (.ifCond .ne 8, 3) := by decide +kernel
theorem dX10_needs_82 : decode cX10_needs 82 = .ok (.iload 4, 2) := by decide +kernel
theorem dX10_needs_84 : decode cX10_needs 84 = .ok (.goto 23, 3) := by decide +kernel
theorem dX10_needs_87 : decode cX10_needs 87 = .ok (.iload_n 3, 1) := by decide +kernel
theorem dX10_needs_88 : decode cX10_needs 88 = .ok (.iconst 2, 1) := by decide +kernel
theorem dX10_needs_89 : decode cX10_needs 89 = .ok (.if_icmp .ne 12, 3) := by decide +kernel
theorem dX10_needs_92 : decode cX10_needs 92 = .ok (.aload_n 0, 1) := by decide +kernel
theorem dX10_needs_93 : decode cX10_needs 93 = .ok (.iload 4, 2) := by decide +kernel
theorem dX10_needs_95 : decode cX10_needs 95 = .ok (.invokevirtual 241, 3) := by decide +kernel
theorem dX10_needs_98 : decode cX10_needs 98 = .ok (.goto 9, 3) := by decide +kernel
theorem dX10_needs_101 : decode cX10_needs 101 = .ok (.aload_n 0, 1) := by decide +kernel
theorem dX10_needs_102 : decode cX10_needs 102 = .ok (.iload 4, 2) := by decide +kernel
theorem dX10_needs_104 : decode cX10_needs 104 = .ok (.invokevirtual 244, 3) := by decide +kernel
theorem dX10_needs_107 : decode cX10_needs 107 = .ok (.ireturn, 1) := by decide +kernel
theorem dX10_isImage_0 : decode cX10_isImage 0 = .ok (.iload_n 0, 1) := by decide +kernel
theorem dX10_isImage_1 : decode cX10_isImage 1 = .ok (.iconst 0, 1) := by decide +kernel
theorem dX10_isImage_2 : decode cX10_isImage 2 = .ok (.iconst 1, 1) := by decide +kernel
theorem dX10_isImage_3 : decode cX10_isImage 3 = .ok (.invokestatic 74, 3) := by decide +kernel
theorem dX10_isImage_6 : decode cX10_isImage 6 = .ok (.ireturn, 1) := by decide +kernel
theorem dX10_isKept_0 : decode cX10_isKept 0 = .ok (.aload_n 0, 1) := by decide +kernel
theorem dX10_isKept_1 : decode cX10_isKept 1 = .ok (.getfield 247, 3) := by decide +kernel
theorem dX10_isKept_4 : decode cX10_isKept 4 = .ok (.iload_n 1, 1) := by decide +kernel
theorem dX10_isKept_5 : decode cX10_isKept 5 = .ok (.ishr, 1) := by decide +kernel
theorem dX10_isKept_6 : decode cX10_isKept 6 = .ok (.iconst 1, 1) := by decide +kernel
theorem dX10_isKept_7 : decode cX10_isKept 7 = .ok (.iand, 1) := by decide +kernel
theorem dX10_isKept_8 : decode cX10_isKept 8 = .ok (.iconst 1, 1) := by decide +kernel
theorem dX10_isKept_9 : decode cX10_isKept 9 = .ok (.if_icmp .ne 7, 3) := by decide +kernel
theorem dX10_isKept_12 : decode cX10_isKept 12 = .ok (.iconst 1, 1) := by decide +kernel
theorem dX10_isKept_13 : decode cX10_isKept 13 = .ok (.goto 4, 3) := by decide +kernel
theorem dX10_isKept_16 : decode cX10_isKept 16 = .ok (.iconst 0, 1) := by decide +kernel
theorem dX10_isKept_17 : decode cX10_isKept 17 = .ok (.ireturn, 1) := by decide +kernel
theorem dX10_keep_0 : decode cX10_keep 0 = .ok (.iload_n 1, 1) := by decide +kernel
theorem dX10_keep_1 : decode cX10_keep 1 = .ok (.invokestatic 250, 3) := by decide +kernel
theorem dX10_keep_4 : decode cX10_keep 4 = .ok (.ifCond .ne 5, 3) := by decide +kernel
theorem dX10_keep_7 : decode cX10_keep 7 = .ok (.iconst (-1), 1) := by decide +kernel
theorem dX10_keep_8 : decode cX10_keep 8 = .ok (.ireturn, 1) := by decide +kernel
theorem dX10_keep_9 : decode cX10_keep 9 = .ok (.iconst 0, 1) := by decide +kernel
theorem dX10_keep_10 : decode cX10_keep 10 = .ok (.istore_n 2, 1) := by decide +kernel
theorem dX10_keep_11 : decode cX10_keep 11 = .ok (.iload_n 2, 1) := by decide +kernel
theorem dX10_keep_12 : decode cX10_keep 12 = .ok (.sipush 2001, 3) := by decide +kernel
theorem dX10_keep_15 : decode cX10_keep 15 = .ok (.if_icmp .ge 27, 3) := by decide +kernel
theorem dX10_keep_18 : decode cX10_keep 18 = .ok (.aload_n 0, 1) := by decide +kernel
theorem dX10_keep_19 : decode cX10_keep 19 = .ok (.getfield 16, 3) := by decide +kernel
theorem dX10_keep_22 : decode cX10_keep 22 = .ok (.sipush 2001, 3) := by decide +kernel
theorem dX10_keep_25 : decode cX10_keep 25 = .ok (.iload_n 1, 1) := by decide +kernel
theorem dX10_keep_26 : decode cX10_keep 26 = .ok (.imul, 1) := by decide +kernel
theorem dX10_keep_27 : decode cX10_keep 27 = .ok (.iload_n 2, 1) := by decide +kernel
theorem dX10_keep_28 : decode cX10_keep 28 = .ok (.iadd, 1) := by decide +kernel
theorem dX10_keep_29 : decode cX10_keep 29 = .ok (.aload_n 0, 1) := by decide +kernel
theorem dX10_keep_30 : decode cX10_keep 30 = .ok (.getfield 7, 3) := by decide +kernel
theorem dX10_keep_33 : decode cX10_keep 33 = .ok (.iload_n 2, 1) := by decide +kernel
theorem dX10_keep_34 : decode cX10_keep 34 = .ok (.iaload, 1) := by decide +kernel
theorem dX10_keep_35 : decode cX10_keep 35 = .ok (.iastore, 1) := by decide +kernel
theorem dX10_keep_36 : decode cX10_keep 36 = .ok (.iinc 2 1, 3) := by decide +kernel
theorem dX10_keep_39 : decode cX10_keep 39 = .ok (.goto (-28), 3) := by decide +kernel
theorem dX10_keep_42 : decode cX10_keep 42 = .ok (.aload_n 0, 1) := by decide +kernel
theorem dX10_keep_43 : decode cX10_keep 43 = .ok (.dup, 1) := by decide +kernel
theorem dX10_keep_44 : decode cX10_keep 44 = .ok (.getfield 247, 3) := by decide +kernel
theorem dX10_keep_47 : decode cX10_keep 47 = .ok (.iconst 1, 1) := by decide +kernel
theorem dX10_keep_48 : decode cX10_keep 48 = .ok (.iload_n 1, 1) := by decide +kernel
theorem dX10_keep_49 : decode cX10_keep 49 = .ok (.ishl, 1) := by decide +kernel
theorem dX10_keep_50 : decode cX10_keep 50 = .ok (.ior, 1) := by decide +kernel
theorem dX10_keep_51 : decode cX10_keep 51 = .ok (.putfield 247, 3) := by decide +kernel
theorem dX10_keep_54 : decode cX10_keep 54 = .ok (.aload_n 0, 1) := by decide +kernel
theorem dX10_keep_55 : decode cX10_keep 55 = .ok (.invokevirtual 199, 3) := by decide +kernel
theorem dX10_keep_58 : decode cX10_keep 58 = .ok (.ireturn, 1) := by decide +kernel
theorem dX10_back_0 : decode cX10_back 0 = .ok (.iload_n 1, 1) := by decide +kernel
theorem dX10_back_1 : decode cX10_back 1 = .ok (.invokestatic 250, 3) := by decide +kernel
theorem dX10_back_4 : decode cX10_back 4 = .ok (.ifCond .ne 5, 3) := by decide +kernel
theorem dX10_back_7 : decode cX10_back 7 = .ok (.iconst (-1), 1) := by decide +kernel
theorem dX10_back_8 : decode cX10_back 8 = .ok (.ireturn, 1) := by decide +kernel
theorem dX10_back_9 : decode cX10_back 9 = .ok (.aload_n 0, 1) := by decide +kernel
theorem dX10_back_10 : decode cX10_back 10 = .ok (.iload_n 1, 1) := by decide +kernel
theorem dX10_back_11 : decode cX10_back 11 = .ok (.invokevirtual 253, 3) := by decide +kernel
theorem dX10_back_14 : decode cX10_back 14 = .ok (.ifCond .ne 6, 3) := by decide +kernel
theorem dX10_back_17 : decode cX10_back 17 = .ok (.bipush (-2), 2) := by decide +kernel
theorem dX10_back_19 : decode cX10_back 19 = .ok (.ireturn, 1) := by decide +kernel
theorem dX10_back_20 : decode cX10_back 20 = .ok (.aload_n 0, 1) := by decide +kernel
theorem dX10_back_21 : decode cX10_back 21 = .ok (.invokevirtual 116, 3) := by decide +kernel
theorem dX10_back_24 : decode cX10_back 24 = .ok (.iconst 0, 1) := by decide +kernel
theorem dX10_back_25 : decode cX10_back 25 = .ok (.istore_n 2, 1) := by decide +kernel
theorem dX10_back_26 : decode cX10_back 26 = .ok (.iload_n 2, 1) := by decide +kernel
theorem dX10_back_27 : decode cX10_back 27 = .ok (.sipush 2001, 3) := by decide +kernel
theorem dX10_back_30 : decode cX10_back 30 = .ok (.if_icmp .ge 27, 3) := by decide +kernel
theorem dX10_back_33 : decode cX10_back 33 = .ok (.aload_n 0, 1) := by decide +kernel
theorem dX10_back_34 : decode cX10_back 34 = .ok (.getfield 7, 3) := by decide +kernel
theorem dX10_back_37 : decode cX10_back 37 = .ok (.iload_n 2, 1) := by decide +kernel
theorem dX10_back_38 : decode cX10_back 38 = .ok (.aload_n 0, 1) := by decide +kernel
theorem dX10_back_39 : decode cX10_back 39 = .ok (.getfield 16, 3) := by decide +kernel
theorem dX10_back_42 : decode cX10_back 42 = .ok (.sipush 2001, 3) := by decide +kernel
theorem dX10_back_45 : decode cX10_back 45 = .ok (.iload_n 1, 1) := by decide +kernel
theorem dX10_back_46 : decode cX10_back 46 = .ok (.imul, 1) := by decide +kernel
theorem dX10_back_47 : decode cX10_back 47 = .ok (.iload_n 2, 1) := by decide +kernel
theorem dX10_back_48 : decode cX10_back 48 = .ok (.iadd, 1) := by decide +kernel
theorem dX10_back_49 : decode cX10_back 49 = .ok (.iaload, 1) := by decide +kernel
theorem dX10_back_50 : decode cX10_back 50 = .ok (.iastore, 1) := by decide +kernel
theorem dX10_back_51 : decode cX10_back 51 = .ok (.iinc 2 1, 3) := by decide +kernel
theorem dX10_back_54 : decode cX10_back 54 = .ok (.goto (-28), 3) := by decide +kernel
theorem dX10_back_57 : decode cX10_back 57 = .ok (.aload_n 0, 1) := by decide +kernel
theorem dX10_back_58 : decode cX10_back 58 = .ok (.invokevirtual 199, 3) := by decide +kernel
theorem dX10_back_61 : decode cX10_back 61 = .ok (.ireturn, 1) := by decide +kernel
theorem dX10_changed_0 : decode cX10_changed 0 = .ok (.iload_n 1, 1) := by decide +kernel
theorem dX10_changed_1 : decode cX10_changed 1 = .ok (.invokestatic 109, 3) := by decide +kernel
theorem dX10_changed_4 : decode cX10_changed 4 = .ok (.ifCond .eq 10, 3) := by decide +kernel
theorem dX10_changed_7 : decode cX10_changed 7 = .ok (.iload_n 2, 1) := by decide +kernel
theorem dX10_changed_8 : decode cX10_changed 8 = .ok (.invokestatic 250, 3) := by decide +kernel
theorem dX10_changed_11 : decode cX10_changed 11 = .ok (.ifCond .ne 5, 3) := by decide +kernel
theorem dX10_changed_14 : decode cX10_changed 14 = .ok (.iconst (-1), 1) := by decide +kernel
theorem dX10_changed_15 : decode cX10_changed 15 = .ok (.ireturn, 1) := by decide +kernel
theorem dX10_changed_16 : decode cX10_changed 16 = .ok (.aload_n 0, 1) := by decide +kernel
theorem dX10_changed_17 : decode cX10_changed 17 = .ok (.iload_n 2, 1) := by decide +kernel
theorem dX10_changed_18 : decode cX10_changed 18 = .ok (.invokevirtual 253, 3) := by decide +kernel
theorem dX10_changed_21 : decode cX10_changed 21 = .ok (.ifCond .ne 6, 3) := by decide +kernel
theorem dX10_changed_24 : decode cX10_changed 24 = .ok (.bipush (-2), 2) := by decide +kernel
theorem dX10_changed_26 : decode cX10_changed 26 = .ok (.ireturn, 1) := by decide +kernel
theorem dX10_changed_27 : decode cX10_changed 27 = .ok (.iconst 0, 1) := by decide +kernel
theorem dX10_changed_28 : decode cX10_changed 28 = .ok (.istore_n 3, 1) := by decide +kernel
theorem dX10_changed_29 : decode cX10_changed 29 = .ok (.iload_n 3, 1) := by decide +kernel
theorem dX10_changed_30 : decode cX10_changed 30 = .ok (.sipush 2001, 3) := by decide +kernel
theorem dX10_changed_33 : decode cX10_changed 33 = .ok (.if_icmp .ge 39, 3) := by decide +kernel
theorem dX10_changed_36 : decode cX10_changed 36 = .ok (.aload_n 0, 1) := by decide +kernel
theorem dX10_changed_37 : decode cX10_changed 37 = .ok (.getfield 68, 3) := by decide +kernel
theorem dX10_changed_40 : decode cX10_changed 40 = .ok (.iload_n 3, 1) := by decide +kernel
theorem dX10_changed_41 : decode cX10_changed 41 = .ok (.aload_n 0, 1) := by decide +kernel
theorem dX10_changed_42 : decode cX10_changed 42 = .ok (.getfield 7, 3) := by decide +kernel
theorem dX10_changed_45 : decode cX10_changed 45 = .ok (.iload_n 3, 1) := by decide +kernel
theorem dX10_changed_46 : decode cX10_changed 46 = .ok (.iaload, 1) := by decide +kernel
theorem dX10_changed_47 : decode cX10_changed 47 = .ok (.iastore, 1) := by decide +kernel
theorem dX10_changed_48 : decode cX10_changed 48 = .ok (.aload_n 0, 1) := by decide +kernel
theorem dX10_changed_49 : decode cX10_changed 49 = .ok (.getfield 7, 3) := by decide +kernel
theorem dX10_changed_52 : decode cX10_changed 52 = .ok (.iload_n 3, 1) := by decide +kernel
theorem dX10_changed_53 : decode cX10_changed 53 = .ok (.aload_n 0, 1) := by decide +kernel
theorem dX10_changed_54 : decode cX10_changed 54 = .ok (.getfield 16, 3) := by decide +kernel
theorem dX10_changed_57 : decode cX10_changed 57 = .ok (.sipush 2001, 3) := by decide +kernel
theorem dX10_changed_60 : decode cX10_changed 60 = .ok (.iload_n 2, 1) := by decide +kernel
theorem dX10_changed_61 : decode cX10_changed 61 = .ok (.imul, 1) := by decide +kernel
theorem dX10_changed_62 : decode cX10_changed 62 = .ok (.iload_n 3, 1) := by decide +kernel
theorem dX10_changed_63 : decode cX10_changed 63 = .ok (.iadd, 1) := by decide +kernel
theorem dX10_changed_64 : decode cX10_changed 64 = .ok (.iaload, 1) := by decide +kernel
theorem dX10_changed_65 : decode cX10_changed 65 = .ok (.iastore, 1) := by decide +kernel
theorem dX10_changed_66 : decode cX10_changed 66 = .ok (.iinc 3 1, 3) := by decide +kernel
theorem dX10_changed_69 : decode cX10_changed 69 = .ok (.goto (-40), 3) := by decide +kernel
theorem dX10_changed_72 : decode cX10_changed 72 = .ok (.aload_n 0, 1) := by decide +kernel
theorem dX10_changed_73 : decode cX10_changed 73 = .ok (.iconst 0, 1) := by decide +kernel
theorem dX10_changed_74 : decode cX10_changed 74 = .ok (.putfield 86, 3) := by decide +kernel
theorem dX10_changed_77 : decode cX10_changed 77 = .ok (.aload_n 0, 1) := by decide +kernel
theorem dX10_changed_78 : decode cX10_changed 78 = .ok (.invokevirtual 193, 3) := by decide +kernel
theorem dX10_changed_81 : decode cX10_changed 81 = .ok (.iconst 0, 1) := by decide +kernel
theorem dX10_changed_82 : decode cX10_changed 82 = .ok (.istore_n 3, 1) := by decide +kernel
theorem dX10_changed_83 : decode cX10_changed 83 = .ok (.iload_n 3, 1) := by decide +kernel
theorem dX10_changed_84 : decode cX10_changed 84 = .ok (.sipush 400, 3) := by decide +kernel
theorem dX10_changed_87 : decode cX10_changed 87 = .ok (.if_icmp .ge 21, 3) := by decide +kernel
theorem dX10_changed_90 : decode cX10_changed 90 = .ok (.aload_n 0, 1) := by decide +kernel
theorem dX10_changed_91 : decode cX10_changed 91 = .ok (.getfield 71, 3) := by decide +kernel
theorem dX10_changed_94 : decode cX10_changed 94 = .ok (.iload_n 3, 1) := by decide +kernel
theorem dX10_changed_95 : decode cX10_changed 95 = .ok (.aload_n 0, 1) := by decide +kernel
theorem dX10_changed_96 : decode cX10_changed 96 = .ok (.iload_n 1, 1) := by decide +kernel
theorem dX10_changed_97 : decode cX10_changed 97 = .ok (.iload_n 3, 1) := by decide +kernel
theorem dX10_changed_98 : decode cX10_changed 98 = .ok (.invokevirtual 190, 3) := by decide +kernel
theorem dX10_changed_101 : decode cX10_changed 101 = .ok (.iastore, 1) := by decide +kernel
theorem dX10_changed_102 : decode cX10_changed 102 = .ok (.iinc 3 1, 3) := by decide +kernel
theorem dX10_changed_105 : decode cX10_changed 105 = .ok (.goto (-22), 3) := by decide +kernel
theorem dX10_changed_108 : decode cX10_changed 108 = .ok (.iconst 0, 1) := by decide +kernel
theorem dX10_changed_109 : decode cX10_changed 109 = .ok (.istore_n 3, 1) := by decide +kernel
theorem dX10_changed_110 : decode cX10_changed 110 = .ok (.iload_n 3, 1) := by decide +kernel
theorem dX10_changed_111 : decode cX10_changed 111 = .ok (.sipush 2001, 3) := by decide +kernel
theorem dX10_changed_114 : decode cX10_changed 114 = .ok (.if_icmp .ge 21, 3) := by decide +kernel
theorem dX10_changed_117 : decode cX10_changed 117 = .ok (.aload_n 0, 1) := by decide +kernel
theorem dX10_changed_118 : decode cX10_changed 118 = .ok (.getfield 7, 3) := by decide +kernel
theorem dX10_changed_121 : decode cX10_changed 121 = .ok (.iload_n 3, 1) := by decide +kernel
theorem dX10_changed_122 : decode cX10_changed 122 = .ok (.aload_n 0, 1) := by decide +kernel
theorem dX10_changed_123 : decode cX10_changed 123 = .ok (.getfield 68, 3) := by decide +kernel
theorem dX10_changed_126 : decode cX10_changed 126 = .ok (.iload_n 3, 1) := by decide +kernel
theorem dX10_changed_127 : decode cX10_changed 127 = .ok (.iaload, 1) := by decide +kernel
theorem dX10_changed_128 : decode cX10_changed 128 = .ok (.iastore, 1) := by decide +kernel
theorem dX10_changed_129 : decode cX10_changed 129 = .ok (.iinc 3 1, 3) := by decide +kernel
theorem dX10_changed_132 : decode cX10_changed 132 = .ok (.goto (-22), 3) := by decide +kernel
theorem dX10_changed_135 : decode cX10_changed 135 = .ok (.aload_n 0, 1) := by decide +kernel
theorem dX10_changed_136 : decode cX10_changed 136 = .ok (.iconst 0, 1) := by decide +kernel
theorem dX10_changed_137 : decode cX10_changed 137 = .ok (.putfield 86, 3) := by decide +kernel
theorem dX10_changed_140 : decode cX10_changed 140 = .ok (.aload_n 0, 1) := by decide +kernel
theorem dX10_changed_141 : decode cX10_changed 141 = .ok (.invokevirtual 193, 3) := by decide +kernel
theorem dX10_changed_144 : decode cX10_changed 144 = .ok (.iconst 0, 1) := by decide +kernel
theorem dX10_changed_145 : decode cX10_changed 145 = .ok (.istore_n 3, 1) := by decide +kernel
theorem dX10_changed_146 : decode cX10_changed 146 = .ok (.iload_n 3, 1) := by decide +kernel
theorem dX10_changed_147 : decode cX10_changed 147 = .ok (.sipush 400, 3) := by decide +kernel
theorem dX10_changed_150 : decode cX10_changed 150 = .ok (.if_icmp .ge 26, 3) := by decide +kernel
theorem dX10_changed_153 : decode cX10_changed 153 = .ok (.aload_n 0, 1) := by decide +kernel
theorem dX10_changed_154 : decode cX10_changed 154 = .ok (.iload_n 1, 1) := by decide +kernel
theorem dX10_changed_155 : decode cX10_changed 155 = .ok (.iload_n 3, 1) := by decide +kernel
theorem dX10_changed_156 : decode cX10_changed 156 = .ok (.invokevirtual 190, 3) := by decide +kernel
theorem dX10_changed_159 : decode cX10_changed 159 = .ok (.aload_n 0, 1) := by decide +kernel
theorem dX10_changed_160 : decode cX10_changed 160 = .ok (.getfield 71, 3) := by decide +kernel
theorem dX10_changed_163 : decode cX10_changed 163 = .ok (.iload_n 3, 1) := by decide +kernel
theorem dX10_changed_164 : decode cX10_changed 164 = .ok (.iaload, 1) := by decide +kernel
theorem dX10_changed_165 : decode cX10_changed 165 = .ok (.if_icmp .eq 5, 3) := by decide +kernel
theorem dX10_changed_168 : decode cX10_changed 168 = .ok (.iload_n 3, 1) := by decide +kernel
theorem dX10_changed_169 : decode cX10_changed 169 = .ok (.ireturn, 1) := by decide +kernel
theorem dX10_changed_170 : decode cX10_changed 170 = .ok (.iinc 3 1, 3) := by decide +kernel
theorem dX10_changed_173 : decode cX10_changed 173 = .ok (.goto (-27), 3) := by decide +kernel
theorem dX10_changed_176 : decode cX10_changed 176 = .ok (.bipush (-9), 2) := by decide +kernel
theorem dX10_changed_178 : decode cX10_changed 178 = .ok (.ireturn, 1) := by decide +kernel
theorem dJ6_bitCount_0f7a4_0 : decode cJ6_bitCount_0f7a4 0 = .ok (.iload_n 0, 1) := by decide +kernel
theorem dJ6_bitCount_0f7a4_1 : decode cJ6_bitCount_0f7a4 1 = .ok (.iload_n 0, 1) := by decide +kernel
theorem dJ6_bitCount_0f7a4_2 : decode cJ6_bitCount_0f7a4 2 = .ok (.iconst 1, 1) := by decide +kernel
theorem dJ6_bitCount_0f7a4_3 : decode cJ6_bitCount_0f7a4 3 = .ok (.iushr, 1) := by decide +kernel
theorem dJ6_bitCount_0f7a4_4 : decode cJ6_bitCount_0f7a4 4 = .ok (.ldc_w 265, 3) := by decide +kernel
theorem dJ6_bitCount_0f7a4_7 : decode cJ6_bitCount_0f7a4 7 = .ok (.iand, 1) := by decide +kernel
theorem dJ6_bitCount_0f7a4_8 : decode cJ6_bitCount_0f7a4 8 = .ok (.isub, 1) := by decide +kernel
theorem dJ6_bitCount_0f7a4_9 : decode cJ6_bitCount_0f7a4 9 = .ok (.istore_n 0, 1) := by decide +kernel
theorem dJ6_bitCount_0f7a4_10 : decode cJ6_bitCount_0f7a4 10 = .ok (.iload_n 0, 1) := by decide +kernel
theorem dJ6_bitCount_0f7a4_11 : decode cJ6_bitCount_0f7a4 11 = .ok (.ldc_w 266, 3) := by decide +kernel
theorem dJ6_bitCount_0f7a4_14 : decode cJ6_bitCount_0f7a4 14 = .ok (.iand, 1) := by decide +kernel
theorem dJ6_bitCount_0f7a4_15 : decode cJ6_bitCount_0f7a4 15 = .ok (.iload_n 0, 1) := by decide +kernel
theorem dJ6_bitCount_0f7a4_16 : decode cJ6_bitCount_0f7a4 16 = .ok (.iconst 2, 1) := by decide +kernel
theorem dJ6_bitCount_0f7a4_17 : decode cJ6_bitCount_0f7a4 17 = .ok (.iushr, 1) := by decide +kernel
theorem dJ6_bitCount_0f7a4_18 : decode cJ6_bitCount_0f7a4 18 = .ok (.ldc_w 266, 3) := by decide +kernel
theorem dJ6_bitCount_0f7a4_21 : decode cJ6_bitCount_0f7a4 21 = .ok (.iand, 1) := by decide +kernel
theorem dJ6_bitCount_0f7a4_22 : decode cJ6_bitCount_0f7a4 22 = .ok (.iadd, 1) := by decide +kernel
theorem dJ6_bitCount_0f7a4_23 : decode cJ6_bitCount_0f7a4 23 = .ok (.istore_n 0, 1) := by decide +kernel
theorem dJ6_bitCount_0f7a4_24 : decode cJ6_bitCount_0f7a4 24 = .ok (.iload_n 0, 1) := by decide +kernel
theorem dJ6_bitCount_0f7a4_25 : decode cJ6_bitCount_0f7a4 25 = .ok (.iload_n 0, 1) := by decide +kernel
theorem dJ6_bitCount_0f7a4_26 : decode cJ6_bitCount_0f7a4 26 = .ok (.iconst 4, 1) := by decide +kernel
theorem dJ6_bitCount_0f7a4_27 : decode cJ6_bitCount_0f7a4 27 = .ok (.iushr, 1) := by decide +kernel
theorem dJ6_bitCount_0f7a4_28 : decode cJ6_bitCount_0f7a4 28 = .ok (.iadd, 1) := by decide +kernel
theorem dJ6_bitCount_0f7a4_29 : decode cJ6_bitCount_0f7a4 29 = .ok (.ldc_w 267, 3) := by decide +kernel
theorem dJ6_bitCount_0f7a4_32 : decode cJ6_bitCount_0f7a4 32 = .ok (.iand, 1) := by decide +kernel
theorem dJ6_bitCount_0f7a4_33 : decode cJ6_bitCount_0f7a4 33 = .ok (.istore_n 0, 1) := by decide +kernel
theorem dJ6_bitCount_0f7a4_34 : decode cJ6_bitCount_0f7a4 34 = .ok (.iload_n 0, 1) := by decide +kernel
theorem dJ6_bitCount_0f7a4_35 : decode cJ6_bitCount_0f7a4 35 = .ok (.iload_n 0, 1) := by decide +kernel
theorem dJ6_bitCount_0f7a4_36 : decode cJ6_bitCount_0f7a4 36 = .ok (.bipush 8, 2) := by decide +kernel
theorem dJ6_bitCount_0f7a4_38 : decode cJ6_bitCount_0f7a4 38 = .ok (.iushr, 1) := by decide +kernel
theorem dJ6_bitCount_0f7a4_39 : decode cJ6_bitCount_0f7a4 39 = .ok (.iadd, 1) := by decide +kernel
theorem dJ6_bitCount_0f7a4_40 : decode cJ6_bitCount_0f7a4 40 = .ok (.istore_n 0, 1) := by decide +kernel
theorem dJ6_bitCount_0f7a4_41 : decode cJ6_bitCount_0f7a4 41 = .ok (.iload_n 0, 1) := by decide +kernel
theorem dJ6_bitCount_0f7a4_42 : decode cJ6_bitCount_0f7a4 42 = .ok (.iload_n 0, 1) := by decide +kernel
theorem dJ6_bitCount_0f7a4_43 : decode cJ6_bitCount_0f7a4 43 = .ok (.bipush 16, 2) := by decide +kernel
theorem dJ6_bitCount_0f7a4_45 : decode cJ6_bitCount_0f7a4 45 = .ok (.iushr, 1) := by decide +kernel
theorem dJ6_bitCount_0f7a4_46 : decode cJ6_bitCount_0f7a4 46 = .ok (.iadd, 1) := by decide +kernel
theorem dJ6_bitCount_0f7a4_47 : decode cJ6_bitCount_0f7a4 47 = .ok (.istore_n 0, 1) := by decide +kernel
theorem dJ6_bitCount_0f7a4_48 : decode cJ6_bitCount_0f7a4 48 = .ok (.iload_n 0, 1) := by decide +kernel
theorem dJ6_bitCount_0f7a4_49 : decode cJ6_bitCount_0f7a4 49 = .ok (.bipush 63, 2) := by decide +kernel
theorem dJ6_bitCount_0f7a4_51 : decode cJ6_bitCount_0f7a4 51 = .ok (.iand, 1) := by decide +kernel
theorem dJ6_bitCount_0f7a4_52 : decode cJ6_bitCount_0f7a4 52 = .ok (.ireturn, 1) := by decide +kernel
theorem dJ9_max_7cf53_0 : decode cJ9_max_7cf53 0 = .ok (.iload_n 0, 1) := by decide +kernel
theorem dJ9_max_7cf53_1 : decode cJ9_max_7cf53 1 = .ok (.iload_n 1, 1) := by decide +kernel
theorem dJ9_max_7cf53_2 : decode cJ9_max_7cf53 2 = .ok (.if_icmp .lt 7, 3) := by decide +kernel
theorem dJ9_max_7cf53_5 : decode cJ9_max_7cf53 5 = .ok (.iload_n 0, 1) := by decide +kernel
theorem dJ9_max_7cf53_6 : decode cJ9_max_7cf53 6 = .ok (.goto 4, 3) := by decide +kernel
theorem dJ9_max_7cf53_9 : decode cJ9_max_7cf53 9 = .ok (.iload_n 1, 1) := by decide +kernel
theorem dJ9_max_7cf53_10 : decode cJ9_max_7cf53 10 = .ok (.ireturn, 1) := by decide +kernel
theorem dJ9_min_7cf53_0 : decode cJ9_min_7cf53 0 = .ok (.iload_n 0, 1) := by decide +kernel
theorem dJ9_min_7cf53_1 : decode cJ9_min_7cf53 1 = .ok (.iload_n 1, 1) := by decide +kernel
theorem dJ9_min_7cf53_2 : decode cJ9_min_7cf53 2 = .ok (.if_icmp .gt 7, 3) := by decide +kernel
theorem dJ9_min_7cf53_5 : decode cJ9_min_7cf53 5 = .ok (.iload_n 0, 1) := by decide +kernel
theorem dJ9_min_7cf53_6 : decode cJ9_min_7cf53 6 = .ok (.goto 4, 3) := by decide +kernel
theorem dJ9_min_7cf53_9 : decode cJ9_min_7cf53 9 = .ok (.iload_n 1, 1) := by decide +kernel
theorem dJ9_min_7cf53_10 : decode cJ9_min_7cf53 10 = .ok (.ireturn, 1) := by decide +kernel
theorem dJ7_fill_d0a16_0 : decode cJ7_fill_d0a16 0 = .ok (.iconst 0, 1) := by decide +kernel
theorem dJ7_fill_d0a16_1 : decode cJ7_fill_d0a16 1 = .ok (.istore_n 3, 1) := by decide +kernel
theorem dJ7_fill_d0a16_2 : decode cJ7_fill_d0a16 2 = .ok (.aload_n 0, 1) := by decide +kernel
theorem dJ7_fill_d0a16_3 : decode cJ7_fill_d0a16 3 = .ok (.arraylength, 1) := by decide +kernel
theorem dJ7_fill_d0a16_4 : decode cJ7_fill_d0a16 4 = .ok (.istore 4, 2) := by decide +kernel
theorem dJ7_fill_d0a16_6 : decode cJ7_fill_d0a16 6 = .ok (.iload_n 3, 1) := by decide +kernel
theorem dJ7_fill_d0a16_7 : decode cJ7_fill_d0a16 7 = .ok (.iload 4, 2) := by decide +kernel
theorem dJ7_fill_d0a16_9 : decode cJ7_fill_d0a16 9 = .ok (.if_icmp .ge 13, 3) := by decide +kernel
theorem dJ7_fill_d0a16_12 : decode cJ7_fill_d0a16 12 = .ok (.aload_n 0, 1) := by decide +kernel
theorem dJ7_fill_d0a16_13 : decode cJ7_fill_d0a16 13 = .ok (.iload_n 3, 1) := by decide +kernel
theorem dJ7_fill_d0a16_14 : decode cJ7_fill_d0a16 14 = .ok (.lload_n 1, 1) := by decide +kernel
theorem dJ7_fill_d0a16_15 : decode cJ7_fill_d0a16 15 = .ok (.lastore, 1) := by decide +kernel
theorem dJ7_fill_d0a16_16 : decode cJ7_fill_d0a16 16 = .ok (.iinc 3 1, 3) := by decide +kernel
theorem dJ7_fill_d0a16_19 : decode cJ7_fill_d0a16 19 = .ok (.goto (-13), 3) := by decide +kernel
theorem dJ7_fill_d0a16_22 : decode cJ7_fill_d0a16 22 = .ok (.return_, 1) := by decide +kernel
theorem dJ7_fill_53178_0 : decode cJ7_fill_53178 0 = .ok (.iconst 0, 1) := by decide +kernel
theorem dJ7_fill_53178_1 : decode cJ7_fill_53178 1 = .ok (.istore_n 2, 1) := by decide +kernel
theorem dJ7_fill_53178_2 : decode cJ7_fill_53178 2 = .ok (.aload_n 0, 1) := by decide +kernel
theorem dJ7_fill_53178_3 : decode cJ7_fill_53178 3 = .ok (.arraylength, 1) := by decide +kernel
theorem dJ7_fill_53178_4 : decode cJ7_fill_53178 4 = .ok (.istore_n 3, 1) := by decide +kernel
theorem dJ7_fill_53178_5 : decode cJ7_fill_53178 5 = .ok (.iload_n 2, 1) := by decide +kernel
theorem dJ7_fill_53178_6 : decode cJ7_fill_53178 6 = .ok (.iload_n 3, 1) := by decide +kernel
theorem dJ7_fill_53178_7 : decode cJ7_fill_53178 7 = .ok (.if_icmp .ge 13, 3) := by decide +kernel
theorem dJ7_fill_53178_10 : decode cJ7_fill_53178 10 = .ok (.aload_n 0, 1) := by decide +kernel
theorem dJ7_fill_53178_11 : decode cJ7_fill_53178 11 = .ok (.iload_n 2, 1) := by decide +kernel
theorem dJ7_fill_53178_12 : decode cJ7_fill_53178 12 = .ok (.iload_n 1, 1) := by decide +kernel
theorem dJ7_fill_53178_13 : decode cJ7_fill_53178 13 = .ok (.iastore, 1) := by decide +kernel
theorem dJ7_fill_53178_14 : decode cJ7_fill_53178 14 = .ok (.iinc 2 1, 3) := by decide +kernel
theorem dJ7_fill_53178_17 : decode cJ7_fill_53178 17 = .ok (.goto (-12), 3) := by decide +kernel
theorem dJ7_fill_53178_20 : decode cJ7_fill_53178 20 = .ok (.return_, 1) := by decide +kernel
theorem dJ7_copyOf_59c91_0 : decode cJ7_copyOf_59c91 0 = .ok (.iload_n 1, 1) := by decide +kernel
theorem dJ7_copyOf_59c91_1 : decode cJ7_copyOf_59c91 1 = .ok (.aload_n 0, 1) := by decide +kernel
theorem dJ7_copyOf_59c91_2 : decode cJ7_copyOf_59c91 2 = .ok (.arraylength, 1) := by decide +kernel
theorem dJ7_copyOf_59c91_3 : decode cJ7_copyOf_59c91 3 = .ok (.if_icmp .ne 11, 3) := by decide +kernel
theorem dJ7_copyOf_59c91_6 : decode cJ7_copyOf_59c91 6 = .ok (.aload_n 0, 1) := by decide +kernel
theorem dJ7_copyOf_59c91_7 : decode cJ7_copyOf_59c91 7 = .ok (.invokevirtual 316, 3) := by decide +kernel
theorem dJ7_copyOf_59c91_10 : decode cJ7_copyOf_59c91 10 = .ok (.checkcast 317, 3) := by decide +kernel
theorem dJ7_copyOf_59c91_13 : decode cJ7_copyOf_59c91 13 = .ok (.areturn, 1) := by decide +kernel
theorem dJ7_copyOf_59c91_14 : decode cJ7_copyOf_59c91 14 = .ok (.iload_n 1, 1) := by decide +kernel
theorem dJ7_copyOf_59c91_15 : decode cJ7_copyOf_59c91 15 = .ok (.newarray .int, 2) := by decide +kernel
theorem dJ7_copyOf_59c91_17 : decode cJ7_copyOf_59c91 17 = .ok (.astore_n 2, 1) := by decide +kernel
theorem dJ7_copyOf_59c91_18 : decode cJ7_copyOf_59c91 18 = .ok (.aload_n 0, 1) := by decide +kernel
theorem dJ7_copyOf_59c91_19 : decode cJ7_copyOf_59c91 19 = .ok (.iconst 0, 1) := by decide +kernel
theorem dJ7_copyOf_59c91_20 : decode cJ7_copyOf_59c91 20 = .ok (.aload_n 2, 1) := by decide +kernel
theorem dJ7_copyOf_59c91_21 : decode cJ7_copyOf_59c91 21 = .ok (.iconst 0, 1) := by decide +kernel
theorem dJ7_copyOf_59c91_22 : decode cJ7_copyOf_59c91 22 = .ok (.aload_n 0, 1) := by decide +kernel
theorem dJ7_copyOf_59c91_23 : decode cJ7_copyOf_59c91 23 = .ok (.arraylength, 1) := by decide +kernel
theorem dJ7_copyOf_59c91_24 : decode cJ7_copyOf_59c91 24 = .ok (.iload_n 1, 1) := by decide +kernel
theorem dJ7_copyOf_59c91_25 : decode cJ7_copyOf_59c91 25 = .ok (.invokestatic 304, 3) := by decide +kernel
theorem dJ7_copyOf_59c91_28 : decode cJ7_copyOf_59c91 28 = .ok (.invokestatic 150, 3) := by decide +kernel
theorem dJ7_copyOf_59c91_31 : decode cJ7_copyOf_59c91 31 = .ok (.aload_n 2, 1) := by decide +kernel
theorem dJ7_copyOf_59c91_32 : decode cJ7_copyOf_59c91 32 = .ok (.areturn, 1) := by decide +kernel
theorem dL_law_0 : decode cL_law 0 = .ok (.new 7, 3) := by decide +kernel
theorem dL_law_3 : decode cL_law 3 = .ok (.dup, 1) := by decide +kernel
theorem dL_law_4 : decode cL_law 4 = .ok (.invokespecial 9, 3) := by decide +kernel
theorem dL_law_7 : decode cL_law 7 = .ok (.astore_n 1, 1) := by decide +kernel
theorem dL_law_8 : decode cL_law 8 = .ok (.new 10, 3) := by decide +kernel
theorem dL_law_11 : decode cL_law 11 = .ok (.dup, 1) := by decide +kernel
theorem dL_law_12 : decode cL_law 12 = .ok (.invokespecial 12, 3) := by decide +kernel
theorem dL_law_15 : decode cL_law 15 = .ok (.astore_n 2, 1) := by decide +kernel
theorem dL_law_16 : decode cL_law 16 = .ok (.iconst 0, 1) := by decide +kernel
theorem dL_law_17 : decode cL_law 17 = .ok (.istore_n 3, 1) := by decide +kernel
theorem dL_law_18 : decode cL_law 18 = .ok (.iload_n 3, 1) := by decide +kernel
theorem dL_law_19 : decode cL_law 19 = .ok (.aload_n 0, 1) := by decide +kernel
theorem dL_law_20 : decode cL_law 20 = .ok (.arraylength, 1) := by decide +kernel
theorem dL_law_21 : decode cL_law 21 = .ok (.iconst 4, 1) := by decide +kernel
theorem dL_law_22 : decode cL_law 22 = .ok (.isub, 1) := by decide +kernel
theorem dL_law_23 : decode cL_law 23 = .ok (.if_icmp .gt 648, 3) := by decide +kernel
theorem dL_law_26 : decode cL_law 26 = .ok (.aload_n 0, 1) := by decide +kernel
theorem dL_law_27 : decode cL_law 27 = .ok (.iload_n 3, 1) := by decide +kernel
theorem dL_law_28 : decode cL_law 28 = .ok (.iaload, 1) := by decide +kernel
theorem dL_law_29 : decode cL_law 29 = .ok (.bipush 31, 2) := by decide +kernel
theorem dL_law_31 : decode cL_law 31 = .ok (.iand, 1) := by decide +kernel
theorem dL_law_32 : decode cL_law 32 = .ok (.tableswitch 633 0 20 #[100, 123, 136, 149, 172, 195, 218, 251, 274, 287, 310, 343, 366, 389, 422, 455, 488, 511, 554, 577, 600], 100) := by decide +kernel
theorem dL_law_132 : decode cL_law 132 = .ok (.aload_n 1, 1) := by decide +kernel
theorem dL_law_133 : decode cL_law 133 = .ok (.aload_n 0, 1) := by decide +kernel
theorem dL_law_134 : decode cL_law 134 = .ok (.iload_n 3, 1) := by decide +kernel
theorem dL_law_135 : decode cL_law 135 = .ok (.iconst 1, 1) := by decide +kernel
theorem dL_law_136 : decode cL_law 136 = .ok (.iadd, 1) := by decide +kernel
theorem dL_law_137 : decode cL_law 137 = .ok (.iaload, 1) := by decide +kernel
theorem dL_law_138 : decode cL_law 138 = .ok (.invokevirtual 13, 3) := by decide +kernel
theorem dL_law_141 : decode cL_law 141 = .ok (.aload_n 2, 1) := by decide +kernel
theorem dL_law_142 : decode cL_law 142 = .ok (.aload_n 0, 1) := by decide +kernel
theorem dL_law_143 : decode cL_law 143 = .ok (.iload_n 3, 1) := by decide +kernel
theorem dL_law_144 : decode cL_law 144 = .ok (.iconst 1, 1) := by decide +kernel
theorem dL_law_145 : decode cL_law 145 = .ok (.iadd, 1) := by decide +kernel
theorem dL_law_146 : decode cL_law 146 = .ok (.iaload, 1) := by decide +kernel
theorem dL_law_147 : decode cL_law 147 = .ok (.invokevirtual 17, 3) := by decide +kernel
theorem dL_law_150 : decode cL_law 150 = .ok (.if_icmp .eq 515, 3) := by decide +kernel
theorem dL_law_153 : decode cL_law 153 = .ok (.iconst 0, 1) := by decide +kernel
theorem dL_law_154 : decode cL_law 154 = .ok (.ireturn, 1) := by decide +kernel
theorem dL_law_155 : decode cL_law 155 = .ok (.aload_n 1, 1) := by decide +kernel
theorem dL_law_156 : decode cL_law 156 = .ok (.invokevirtual 18, 3) := by decide +kernel
theorem dL_law_159 : decode cL_law 159 = .ok (.aload_n 2, 1) := by decide +kernel
theorem dL_law_160 : decode cL_law 160 = .ok (.invokevirtual 22, 3) := by decide +kernel
theorem dL_law_163 : decode cL_law 163 = .ok (.if_icmp .eq 502, 3) := by decide +kernel
theorem dL_law_166 : decode cL_law 166 = .ok (.iconst 0, 1) := by decide +kernel
theorem dL_law_167 : decode cL_law 167 = .ok (.ireturn, 1) := by decide +kernel
theorem dL_law_168 : decode cL_law 168 = .ok (.aload_n 1, 1) := by decide +kernel
theorem dL_law_169 : decode cL_law 169 = .ok (.invokevirtual 23, 3) := by decide +kernel
theorem dL_law_172 : decode cL_law 172 = .ok (.aload_n 2, 1) := by decide +kernel
theorem dL_law_173 : decode cL_law 173 = .ok (.invokevirtual 26, 3) := by decide +kernel
theorem dL_law_176 : decode cL_law 176 = .ok (.if_icmp .eq 489, 3) := by decide +kernel
theorem dL_law_179 : decode cL_law 179 = .ok (.iconst 0, 1) := by decide +kernel
theorem dL_law_180 : decode cL_law 180 = .ok (.ireturn, 1) := by decide +kernel
theorem dL_law_181 : decode cL_law 181 = .ok (.aload_n 1, 1) := by decide +kernel
theorem dL_law_182 : decode cL_law 182 = .ok (.aload_n 0, 1) := by decide +kernel
theorem dL_law_183 : decode cL_law 183 = .ok (.iload_n 3, 1) := by decide +kernel
theorem dL_law_184 : decode cL_law 184 = .ok (.iconst 1, 1) := by decide +kernel
theorem dL_law_185 : decode cL_law 185 = .ok (.iadd, 1) := by decide +kernel
theorem dL_law_186 : decode cL_law 186 = .ok (.iaload, 1) := by decide +kernel
theorem dL_law_187 : decode cL_law 187 = .ok (.invokevirtual 27, 3) := by decide +kernel
theorem dL_law_190 : decode cL_law 190 = .ok (.aload_n 2, 1) := by decide +kernel
theorem dL_law_191 : decode cL_law 191 = .ok (.aload_n 0, 1) := by decide +kernel
theorem dL_law_192 : decode cL_law 192 = .ok (.iload_n 3, 1) := by decide +kernel
theorem dL_law_193 : decode cL_law 193 = .ok (.iconst 1, 1) := by decide +kernel
theorem dL_law_194 : decode cL_law 194 = .ok (.iadd, 1) := by decide +kernel
theorem dL_law_195 : decode cL_law 195 = .ok (.iaload, 1) := by decide +kernel
theorem dL_law_196 : decode cL_law 196 = .ok (.invokevirtual 30, 3) := by decide +kernel
theorem dL_law_199 : decode cL_law 199 = .ok (.if_icmp .eq 466, 3) := by decide +kernel
theorem dL_law_202 : decode cL_law 202 = .ok (.iconst 0, 1) := by decide +kernel
theorem dL_law_203 : decode cL_law 203 = .ok (.ireturn, 1) := by decide +kernel
theorem dL_law_204 : decode cL_law 204 = .ok (.aload_n 1, 1) := by decide +kernel
theorem dL_law_205 : decode cL_law 205 = .ok (.aload_n 0, 1) := by decide +kernel
theorem dL_law_206 : decode cL_law 206 = .ok (.iload_n 3, 1) := by decide +kernel
theorem dL_law_207 : decode cL_law 207 = .ok (.iconst 1, 1) := by decide +kernel
theorem dL_law_208 : decode cL_law 208 = .ok (.iadd, 1) := by decide +kernel
theorem dL_law_209 : decode cL_law 209 = .ok (.iaload, 1) := by decide +kernel
theorem dL_law_210 : decode cL_law 210 = .ok (.invokevirtual 31, 3) := by decide +kernel
theorem dL_law_213 : decode cL_law 213 = .ok (.aload_n 2, 1) := by decide +kernel
theorem dL_law_214 : decode cL_law 214 = .ok (.aload_n 0, 1) := by decide +kernel
theorem dL_law_215 : decode cL_law 215 = .ok (.iload_n 3, 1) := by decide +kernel
theorem dL_law_216 : decode cL_law 216 = .ok (.iconst 1, 1) := by decide +kernel
theorem dL_law_217 : decode cL_law 217 = .ok (.iadd, 1) := by decide +kernel
theorem dL_law_218 : decode cL_law 218 = .ok (.iaload, 1) := by decide +kernel
theorem dL_law_219 : decode cL_law 219 = .ok (.invokevirtual 34, 3) := by decide +kernel
theorem dL_law_222 : decode cL_law 222 = .ok (.if_icmp .eq 443, 3) := by decide +kernel
theorem dL_law_225 : decode cL_law 225 = .ok (.iconst 0, 1) := by decide +kernel
theorem dL_law_226 : decode cL_law 226 = .ok (.ireturn, 1) := by decide +kernel
theorem dL_law_227 : decode cL_law 227 = .ok (.aload_n 1, 1) := by decide +kernel
theorem dL_law_228 : decode cL_law 228 = .ok (.aload_n 0, 1) := by decide +kernel
theorem dL_law_229 : decode cL_law 229 = .ok (.iload_n 3, 1) := by decide +kernel
theorem dL_law_230 : decode cL_law 230 = .ok (.iconst 1, 1) := by decide +kernel
theorem dL_law_231 : decode cL_law 231 = .ok (.iadd, 1) := by decide +kernel
theorem dL_law_232 : decode cL_law 232 = .ok (.iaload, 1) := by decide +kernel
theorem dL_law_233 : decode cL_law 233 = .ok (.invokevirtual 35, 3) := by decide +kernel
theorem dL_law_236 : decode cL_law 236 = .ok (.aload_n 2, 1) := by decide +kernel
theorem dL_law_237 : decode cL_law 237 = .ok (.aload_n 0, 1) := by decide +kernel
theorem dL_law_238 : decode cL_law 238 = .ok (.iload_n 3, 1) := by decide +kernel
theorem dL_law_239 : decode cL_law 239 = .ok (.iconst 1, 1) := by decide +kernel
theorem dL_law_240 : decode cL_law 240 = .ok (.iadd, 1) := by decide +kernel
theorem dL_law_241 : decode cL_law 241 = .ok (.iaload, 1) := by decide +kernel
theorem dL_law_242 : decode cL_law 242 = .ok (.invokevirtual 38, 3) := by decide +kernel
theorem dL_law_245 : decode cL_law 245 = .ok (.if_icmp .eq 420, 3) := by decide +kernel
theorem dL_law_248 : decode cL_law 248 = .ok (.iconst 0, 1) := by decide +kernel
theorem dL_law_249 : decode cL_law 249 = .ok (.ireturn, 1) := by decide +kernel
theorem dL_law_250 : decode cL_law 250 = .ok (.aload_n 1, 1) := by decide +kernel
theorem dL_law_251 : decode cL_law 251 = .ok (.aload_n 0, 1) := by decide +kernel
theorem dL_law_252 : decode cL_law 252 = .ok (.iload_n 3, 1) := by decide +kernel
theorem dL_law_253 : decode cL_law 253 = .ok (.iconst 1, 1) := by decide +kernel
theorem dL_law_254 : decode cL_law 254 = .ok (.iadd, 1) := by decide +kernel
theorem dL_law_255 : decode cL_law 255 = .ok (.iaload, 1) := by decide +kernel
theorem dL_law_256 : decode cL_law 256 = .ok (.aload_n 0, 1) := by decide +kernel
theorem dL_law_257 : decode cL_law 257 = .ok (.iload_n 3, 1) := by decide +kernel
theorem dL_law_258 : decode cL_law 258 = .ok (.iconst 2, 1) := by decide +kernel
theorem dL_law_259 : decode cL_law 259 = .ok (.iadd, 1) := by decide +kernel
theorem dL_law_260 : decode cL_law 260 = .ok (.iaload, 1) := by decide +kernel
theorem dL_law_261 : decode cL_law 261 = .ok (.invokevirtual 39, 3) := by decide +kernel
theorem dL_law_264 : decode cL_law 264 = .ok (.aload_n 2, 1) := by decide +kernel
theorem dL_law_265 : decode cL_law 265 = .ok (.aload_n 0, 1) := by decide +kernel
theorem dL_law_266 : decode cL_law 266 = .ok (.iload_n 3, 1) := by decide +kernel
theorem dL_law_267 : decode cL_law 267 = .ok (.iconst 1, 1) := by decide +kernel
theorem dL_law_268 : decode cL_law 268 = .ok (.iadd, 1) := by decide +kernel
theorem dL_law_269 : decode cL_law 269 = .ok (.iaload, 1) := by decide +kernel
theorem dL_law_270 : decode cL_law 270 = .ok (.aload_n 0, 1) := by decide +kernel
theorem dL_law_271 : decode cL_law 271 = .ok (.iload_n 3, 1) := by decide +kernel
theorem dL_law_272 : decode cL_law 272 = .ok (.iconst 2, 1) := by decide +kernel
theorem dL_law_273 : decode cL_law 273 = .ok (.iadd, 1) := by decide +kernel
theorem dL_law_274 : decode cL_law 274 = .ok (.iaload, 1) := by decide +kernel
theorem dL_law_275 : decode cL_law 275 = .ok (.invokevirtual 43, 3) := by decide +kernel
theorem dL_law_278 : decode cL_law 278 = .ok (.if_icmp .eq 387, 3) := by decide +kernel
theorem dL_law_281 : decode cL_law 281 = .ok (.iconst 0, 1) := by decide +kernel
theorem dL_law_282 : decode cL_law 282 = .ok (.ireturn, 1) := by decide +kernel
theorem dL_law_283 : decode cL_law 283 = .ok (.aload_n 1, 1) := by decide +kernel
theorem dL_law_284 : decode cL_law 284 = .ok (.aload_n 0, 1) := by decide +kernel
theorem dL_law_285 : decode cL_law 285 = .ok (.iload_n 3, 1) := by decide +kernel
theorem dL_law_286 : decode cL_law 286 = .ok (.iconst 1, 1) := by decide +kernel
theorem dL_law_287 : decode cL_law 287 = .ok (.iadd, 1) := by decide +kernel
theorem dL_law_288 : decode cL_law 288 = .ok (.iaload, 1) := by decide +kernel
theorem dL_law_289 : decode cL_law 289 = .ok (.invokevirtual 44, 3) := by decide +kernel
theorem dL_law_292 : decode cL_law 292 = .ok (.aload_n 2, 1) := by decide +kernel
theorem dL_law_293 : decode cL_law 293 = .ok (.aload_n 0, 1) := by decide +kernel
theorem dL_law_294 : decode cL_law 294 = .ok (.iload_n 3, 1) := by decide +kernel
theorem dL_law_295 : decode cL_law 295 = .ok (.iconst 1, 1) := by decide +kernel
theorem dL_law_296 : decode cL_law 296 = .ok (.iadd, 1) := by decide +kernel
theorem dL_law_297 : decode cL_law 297 = .ok (.iaload, 1) := by decide +kernel
theorem dL_law_298 : decode cL_law 298 = .ok (.invokevirtual 47, 3) := by decide +kernel
theorem dL_law_301 : decode cL_law 301 = .ok (.if_icmp .eq 364, 3) := by decide +kernel
theorem dL_law_304 : decode cL_law 304 = .ok (.iconst 0, 1) := by decide +kernel
theorem dL_law_305 : decode cL_law 305 = .ok (.ireturn, 1) := by decide +kernel
theorem dL_law_306 : decode cL_law 306 = .ok (.aload_n 1, 1) := by decide +kernel
theorem dL_law_307 : decode cL_law 307 = .ok (.invokevirtual 48, 3) := by decide +kernel
theorem dL_law_310 : decode cL_law 310 = .ok (.aload_n 2, 1) := by decide +kernel
theorem dL_law_311 : decode cL_law 311 = .ok (.invokevirtual 51, 3) := by decide +kernel
theorem dL_law_314 : decode cL_law 314 = .ok (.if_icmp .eq 351, 3) := by decide +kernel
theorem dL_law_317 : decode cL_law 317 = .ok (.iconst 0, 1) := by decide +kernel
theorem dL_law_318 : decode cL_law 318 = .ok (.ireturn, 1) := by decide +kernel
theorem dL_law_319 : decode cL_law 319 = .ok (.aload_n 1, 1) := by decide +kernel
theorem dL_law_320 : decode cL_law 320 = .ok (.aload_n 0, 1) := by decide +kernel
theorem dL_law_321 : decode cL_law 321 = .ok (.iload_n 3, 1) := by decide +kernel
theorem dL_law_322 : decode cL_law 322 = .ok (.iconst 1, 1) := by decide +kernel
theorem dL_law_323 : decode cL_law 323 = .ok (.iadd, 1) := by decide +kernel
theorem dL_law_324 : decode cL_law 324 = .ok (.iaload, 1) := by decide +kernel
theorem dL_law_325 : decode cL_law 325 = .ok (.invokevirtual 52, 3) := by decide +kernel
theorem dL_law_328 : decode cL_law 328 = .ok (.aload_n 2, 1) := by decide +kernel
theorem dL_law_329 : decode cL_law 329 = .ok (.aload_n 0, 1) := by decide +kernel
theorem dL_law_330 : decode cL_law 330 = .ok (.iload_n 3, 1) := by decide +kernel
theorem dL_law_331 : decode cL_law 331 = .ok (.iconst 1, 1) := by decide +kernel
theorem dL_law_332 : decode cL_law 332 = .ok (.iadd, 1) := by decide +kernel
theorem dL_law_333 : decode cL_law 333 = .ok (.iaload, 1) := by decide +kernel
theorem dL_law_334 : decode cL_law 334 = .ok (.invokevirtual 55, 3) := by decide +kernel
theorem dL_law_337 : decode cL_law 337 = .ok (.if_icmp .eq 328, 3) := by decide +kernel
theorem dL_law_340 : decode cL_law 340 = .ok (.iconst 0, 1) := by decide +kernel
theorem dL_law_341 : decode cL_law 341 = .ok (.ireturn, 1) := by decide +kernel
theorem dL_law_342 : decode cL_law 342 = .ok (.aload_n 1, 1) := by decide +kernel
theorem dL_law_343 : decode cL_law 343 = .ok (.aload_n 0, 1) := by decide +kernel
theorem dL_law_344 : decode cL_law 344 = .ok (.iload_n 3, 1) := by decide +kernel
theorem dL_law_345 : decode cL_law 345 = .ok (.iconst 1, 1) := by decide +kernel
theorem dL_law_346 : decode cL_law 346 = .ok (.iadd, 1) := by decide +kernel
theorem dL_law_347 : decode cL_law 347 = .ok (.iaload, 1) := by decide +kernel
theorem dL_law_348 : decode cL_law 348 = .ok (.aload_n 0, 1) := by decide +kernel
theorem dL_law_349 : decode cL_law 349 = .ok (.iload_n 3, 1) := by decide +kernel
theorem dL_law_350 : decode cL_law 350 = .ok (.iconst 2, 1) := by decide +kernel
theorem dL_law_351 : decode cL_law 351 = .ok (.iadd, 1) := by decide +kernel
theorem dL_law_352 : decode cL_law 352 = .ok (.iaload, 1) := by decide +kernel
theorem dL_law_353 : decode cL_law 353 = .ok (.invokevirtual 56, 3) := by decide +kernel
theorem dL_law_356 : decode cL_law 356 = .ok (.aload_n 2, 1) := by decide +kernel
theorem dL_law_357 : decode cL_law 357 = .ok (.aload_n 0, 1) := by decide +kernel
theorem dL_law_358 : decode cL_law 358 = .ok (.iload_n 3, 1) := by decide +kernel
theorem dL_law_359 : decode cL_law 359 = .ok (.iconst 1, 1) := by decide +kernel
theorem dL_law_360 : decode cL_law 360 = .ok (.iadd, 1) := by decide +kernel
theorem dL_law_361 : decode cL_law 361 = .ok (.iaload, 1) := by decide +kernel
theorem dL_law_362 : decode cL_law 362 = .ok (.aload_n 0, 1) := by decide +kernel
theorem dL_law_363 : decode cL_law 363 = .ok (.iload_n 3, 1) := by decide +kernel
theorem dL_law_364 : decode cL_law 364 = .ok (.iconst 2, 1) := by decide +kernel
theorem dL_law_365 : decode cL_law 365 = .ok (.iadd, 1) := by decide +kernel
theorem dL_law_366 : decode cL_law 366 = .ok (.iaload, 1) := by decide +kernel
theorem dL_law_367 : decode cL_law 367 = .ok (.invokevirtual 59, 3) := by decide +kernel
theorem dL_law_370 : decode cL_law 370 = .ok (.if_icmp .eq 295, 3) := by decide +kernel
theorem dL_law_373 : decode cL_law 373 = .ok (.iconst 0, 1) := by decide +kernel
theorem dL_law_374 : decode cL_law 374 = .ok (.ireturn, 1) := by decide +kernel
theorem dL_law_375 : decode cL_law 375 = .ok (.aload_n 1, 1) := by decide +kernel
theorem dL_law_376 : decode cL_law 376 = .ok (.aload_n 0, 1) := by decide +kernel
theorem dL_law_377 : decode cL_law 377 = .ok (.iload_n 3, 1) := by decide +kernel
theorem dL_law_378 : decode cL_law 378 = .ok (.iconst 1, 1) := by decide +kernel
theorem dL_law_379 : decode cL_law 379 = .ok (.iadd, 1) := by decide +kernel
theorem dL_law_380 : decode cL_law 380 = .ok (.iaload, 1) := by decide +kernel
theorem dL_law_381 : decode cL_law 381 = .ok (.invokevirtual 60, 3) := by decide +kernel
theorem dL_law_384 : decode cL_law 384 = .ok (.aload_n 2, 1) := by decide +kernel
theorem dL_law_385 : decode cL_law 385 = .ok (.aload_n 0, 1) := by decide +kernel
theorem dL_law_386 : decode cL_law 386 = .ok (.iload_n 3, 1) := by decide +kernel
theorem dL_law_387 : decode cL_law 387 = .ok (.iconst 1, 1) := by decide +kernel
theorem dL_law_388 : decode cL_law 388 = .ok (.iadd, 1) := by decide +kernel
theorem dL_law_389 : decode cL_law 389 = .ok (.iaload, 1) := by decide +kernel
theorem dL_law_390 : decode cL_law 390 = .ok (.invokevirtual 63, 3) := by decide +kernel
theorem dL_law_393 : decode cL_law 393 = .ok (.if_icmp .eq 272, 3) := by decide +kernel
theorem dL_law_396 : decode cL_law 396 = .ok (.iconst 0, 1) := by decide +kernel
theorem dL_law_397 : decode cL_law 397 = .ok (.ireturn, 1) := by decide +kernel
theorem dL_law_398 : decode cL_law 398 = .ok (.aload_n 1, 1) := by decide +kernel
theorem dL_law_399 : decode cL_law 399 = .ok (.aload_n 0, 1) := by decide +kernel
theorem dL_law_400 : decode cL_law 400 = .ok (.iload_n 3, 1) := by decide +kernel
theorem dL_law_401 : decode cL_law 401 = .ok (.iconst 1, 1) := by decide +kernel
theorem dL_law_402 : decode cL_law 402 = .ok (.iadd, 1) := by decide +kernel
theorem dL_law_403 : decode cL_law 403 = .ok (.iaload, 1) := by decide +kernel
theorem dL_law_404 : decode cL_law 404 = .ok (.invokevirtual 64, 3) := by decide +kernel
theorem dL_law_407 : decode cL_law 407 = .ok (.aload_n 2, 1) := by decide +kernel
theorem dL_law_408 : decode cL_law 408 = .ok (.aload_n 0, 1) := by decide +kernel
theorem dL_law_409 : decode cL_law 409 = .ok (.iload_n 3, 1) := by decide +kernel
theorem dL_law_410 : decode cL_law 410 = .ok (.iconst 1, 1) := by decide +kernel
theorem dL_law_411 : decode cL_law 411 = .ok (.iadd, 1) := by decide +kernel
theorem dL_law_412 : decode cL_law 412 = .ok (.iaload, 1) := by decide +kernel
theorem dL_law_413 : decode cL_law 413 = .ok (.invokevirtual 67, 3) := by decide +kernel
theorem dL_law_416 : decode cL_law 416 = .ok (.if_icmp .eq 249, 3) := by decide +kernel
theorem dL_law_419 : decode cL_law 419 = .ok (.iconst 0, 1) := by decide +kernel
theorem dL_law_420 : decode cL_law 420 = .ok (.ireturn, 1) := by decide +kernel
theorem dL_law_421 : decode cL_law 421 = .ok (.aload_n 1, 1) := by decide +kernel
theorem dL_law_422 : decode cL_law 422 = .ok (.aload_n 0, 1) := by decide +kernel
theorem dL_law_423 : decode cL_law 423 = .ok (.iload_n 3, 1) := by decide +kernel
theorem dL_law_424 : decode cL_law 424 = .ok (.iconst 1, 1) := by decide +kernel
theorem dL_law_425 : decode cL_law 425 = .ok (.iadd, 1) := by decide +kernel
theorem dL_law_426 : decode cL_law 426 = .ok (.iaload, 1) := by decide +kernel
theorem dL_law_427 : decode cL_law 427 = .ok (.aload_n 0, 1) := by decide +kernel
theorem dL_law_428 : decode cL_law 428 = .ok (.iload_n 3, 1) := by decide +kernel
theorem dL_law_429 : decode cL_law 429 = .ok (.iconst 2, 1) := by decide +kernel
theorem dL_law_430 : decode cL_law 430 = .ok (.iadd, 1) := by decide +kernel
theorem dL_law_431 : decode cL_law 431 = .ok (.iaload, 1) := by decide +kernel
theorem dL_law_432 : decode cL_law 432 = .ok (.invokevirtual 68, 3) := by decide +kernel
theorem dL_law_435 : decode cL_law 435 = .ok (.aload_n 2, 1) := by decide +kernel
theorem dL_law_436 : decode cL_law 436 = .ok (.aload_n 0, 1) := by decide +kernel
theorem dL_law_437 : decode cL_law 437 = .ok (.iload_n 3, 1) := by decide +kernel
theorem dL_law_438 : decode cL_law 438 = .ok (.iconst 1, 1) := by decide +kernel
theorem dL_law_439 : decode cL_law 439 = .ok (.iadd, 1) := by decide +kernel
theorem dL_law_440 : decode cL_law 440 = .ok (.iaload, 1) := by decide +kernel
theorem dL_law_441 : decode cL_law 441 = .ok (.aload_n 0, 1) := by decide +kernel
theorem dL_law_442 : decode cL_law 442 = .ok (.iload_n 3, 1) := by decide +kernel
theorem dL_law_443 : decode cL_law 443 = .ok (.iconst 2, 1) := by decide +kernel
theorem dL_law_444 : decode cL_law 444 = .ok (.iadd, 1) := by decide +kernel
theorem dL_law_445 : decode cL_law 445 = .ok (.iaload, 1) := by decide +kernel
theorem dL_law_446 : decode cL_law 446 = .ok (.invokevirtual 71, 3) := by decide +kernel
theorem dL_law_449 : decode cL_law 449 = .ok (.if_icmp .eq 216, 3) := by decide +kernel
theorem dL_law_452 : decode cL_law 452 = .ok (.iconst 0, 1) := by decide +kernel
theorem dL_law_453 : decode cL_law 453 = .ok (.ireturn, 1) := by decide +kernel
theorem dL_law_454 : decode cL_law 454 = .ok (.aload_n 1, 1) := by decide +kernel
theorem dL_law_455 : decode cL_law 455 = .ok (.aload_n 0, 1) := by decide +kernel
theorem dL_law_456 : decode cL_law 456 = .ok (.iload_n 3, 1) := by decide +kernel
theorem dL_law_457 : decode cL_law 457 = .ok (.iconst 1, 1) := by decide +kernel
theorem dL_law_458 : decode cL_law 458 = .ok (.iadd, 1) := by decide +kernel
theorem dL_law_459 : decode cL_law 459 = .ok (.iaload, 1) := by decide +kernel
theorem dL_law_460 : decode cL_law 460 = .ok (.aload_n 0, 1) := by decide +kernel
theorem dL_law_461 : decode cL_law 461 = .ok (.iload_n 3, 1) := by decide +kernel
theorem dL_law_462 : decode cL_law 462 = .ok (.iconst 2, 1) := by decide +kernel
theorem dL_law_463 : decode cL_law 463 = .ok (.iadd, 1) := by decide +kernel
theorem dL_law_464 : decode cL_law 464 = .ok (.iaload, 1) := by decide +kernel
theorem dL_law_465 : decode cL_law 465 = .ok (.invokevirtual 72, 3) := by decide +kernel
theorem dL_law_468 : decode cL_law 468 = .ok (.aload_n 2, 1) := by decide +kernel
theorem dL_law_469 : decode cL_law 469 = .ok (.aload_n 0, 1) := by decide +kernel
theorem dL_law_470 : decode cL_law 470 = .ok (.iload_n 3, 1) := by decide +kernel
theorem dL_law_471 : decode cL_law 471 = .ok (.iconst 1, 1) := by decide +kernel
theorem dL_law_472 : decode cL_law 472 = .ok (.iadd, 1) := by decide +kernel
theorem dL_law_473 : decode cL_law 473 = .ok (.iaload, 1) := by decide +kernel
theorem dL_law_474 : decode cL_law 474 = .ok (.aload_n 0, 1) := by decide +kernel
theorem dL_law_475 : decode cL_law 475 = .ok (.iload_n 3, 1) := by decide +kernel
theorem dL_law_476 : decode cL_law 476 = .ok (.iconst 2, 1) := by decide +kernel
theorem dL_law_477 : decode cL_law 477 = .ok (.iadd, 1) := by decide +kernel
theorem dL_law_478 : decode cL_law 478 = .ok (.iaload, 1) := by decide +kernel
theorem dL_law_479 : decode cL_law 479 = .ok (.invokevirtual 75, 3) := by decide +kernel
theorem dL_law_482 : decode cL_law 482 = .ok (.if_icmp .eq 183, 3) := by decide +kernel
theorem dL_law_485 : decode cL_law 485 = .ok (.iconst 0, 1) := by decide +kernel
theorem dL_law_486 : decode cL_law 486 = .ok (.ireturn, 1) := by decide +kernel
theorem dL_law_487 : decode cL_law 487 = .ok (.aload_n 1, 1) := by decide +kernel
theorem dL_law_488 : decode cL_law 488 = .ok (.aload_n 0, 1) := by decide +kernel
theorem dL_law_489 : decode cL_law 489 = .ok (.iload_n 3, 1) := by decide +kernel
theorem dL_law_490 : decode cL_law 490 = .ok (.iconst 1, 1) := by decide +kernel
theorem dL_law_491 : decode cL_law 491 = .ok (.iadd, 1) := by decide +kernel
theorem dL_law_492 : decode cL_law 492 = .ok (.iaload, 1) := by decide +kernel
theorem dL_law_493 : decode cL_law 493 = .ok (.aload_n 0, 1) := by decide +kernel
theorem dL_law_494 : decode cL_law 494 = .ok (.iload_n 3, 1) := by decide +kernel
theorem dL_law_495 : decode cL_law 495 = .ok (.iconst 2, 1) := by decide +kernel
theorem dL_law_496 : decode cL_law 496 = .ok (.iadd, 1) := by decide +kernel
theorem dL_law_497 : decode cL_law 497 = .ok (.iaload, 1) := by decide +kernel
theorem dL_law_498 : decode cL_law 498 = .ok (.invokevirtual 76, 3) := by decide +kernel
theorem dL_law_501 : decode cL_law 501 = .ok (.aload_n 2, 1) := by decide +kernel
theorem dL_law_502 : decode cL_law 502 = .ok (.aload_n 0, 1) := by decide +kernel
theorem dL_law_503 : decode cL_law 503 = .ok (.iload_n 3, 1) := by decide +kernel
theorem dL_law_504 : decode cL_law 504 = .ok (.iconst 1, 1) := by decide +kernel
theorem dL_law_505 : decode cL_law 505 = .ok (.iadd, 1) := by decide +kernel
theorem dL_law_506 : decode cL_law 506 = .ok (.iaload, 1) := by decide +kernel
theorem dL_law_507 : decode cL_law 507 = .ok (.aload_n 0, 1) := by decide +kernel
theorem dL_law_508 : decode cL_law 508 = .ok (.iload_n 3, 1) := by decide +kernel
theorem dL_law_509 : decode cL_law 509 = .ok (.iconst 2, 1) := by decide +kernel
theorem dL_law_510 : decode cL_law 510 = .ok (.iadd, 1) := by decide +kernel
theorem dL_law_511 : decode cL_law 511 = .ok (.iaload, 1) := by decide +kernel
theorem dL_law_512 : decode cL_law 512 = .ok (.invokevirtual 79, 3) := by decide +kernel
theorem dL_law_515 : decode cL_law 515 = .ok (.if_icmp .eq 150, 3) := by decide +kernel
theorem dL_law_518 : decode cL_law 518 = .ok (.iconst 0, 1) := by decide +kernel
theorem dL_law_519 : decode cL_law 519 = .ok (.ireturn, 1) := by decide +kernel
theorem dL_law_520 : decode cL_law 520 = .ok (.aload_n 1, 1) := by decide +kernel
theorem dL_law_521 : decode cL_law 521 = .ok (.aload_n 0, 1) := by decide +kernel
theorem dL_law_522 : decode cL_law 522 = .ok (.iload_n 3, 1) := by decide +kernel
theorem dL_law_523 : decode cL_law 523 = .ok (.iconst 1, 1) := by decide +kernel
theorem dL_law_524 : decode cL_law 524 = .ok (.iadd, 1) := by decide +kernel
theorem dL_law_525 : decode cL_law 525 = .ok (.iaload, 1) := by decide +kernel
theorem dL_law_526 : decode cL_law 526 = .ok (.invokevirtual 80, 3) := by decide +kernel
theorem dL_law_529 : decode cL_law 529 = .ok (.aload_n 2, 1) := by decide +kernel
theorem dL_law_530 : decode cL_law 530 = .ok (.aload_n 0, 1) := by decide +kernel
theorem dL_law_531 : decode cL_law 531 = .ok (.iload_n 3, 1) := by decide +kernel
theorem dL_law_532 : decode cL_law 532 = .ok (.iconst 1, 1) := by decide +kernel
theorem dL_law_533 : decode cL_law 533 = .ok (.iadd, 1) := by decide +kernel
theorem dL_law_534 : decode cL_law 534 = .ok (.iaload, 1) := by decide +kernel
theorem dL_law_535 : decode cL_law 535 = .ok (.invokevirtual 83, 3) := by decide +kernel
theorem dL_law_538 : decode cL_law 538 = .ok (.if_icmp .eq 127, 3) := by decide +kernel
theorem dL_law_541 : decode cL_law 541 = .ok (.iconst 0, 1) := by decide +kernel
theorem dL_law_542 : decode cL_law 542 = .ok (.ireturn, 1) := by decide +kernel
theorem dL_law_543 : decode cL_law 543 = .ok (.aload_n 1, 1) := by decide +kernel
theorem dL_law_544 : decode cL_law 544 = .ok (.aload_n 0, 1) := by decide +kernel
theorem dL_law_545 : decode cL_law 545 = .ok (.iload_n 3, 1) := by decide +kernel
theorem dL_law_546 : decode cL_law 546 = .ok (.iconst 1, 1) := by decide +kernel
theorem dL_law_547 : decode cL_law 547 = .ok (.iadd, 1) := by decide +kernel
theorem dL_law_548 : decode cL_law 548 = .ok (.iaload, 1) := by decide +kernel
theorem dL_law_549 : decode cL_law 549 = .ok (.aload_n 0, 1) := by decide +kernel
theorem dL_law_550 : decode cL_law 550 = .ok (.iload_n 3, 1) := by decide +kernel
theorem dL_law_551 : decode cL_law 551 = .ok (.iconst 2, 1) := by decide +kernel
theorem dL_law_552 : decode cL_law 552 = .ok (.iadd, 1) := by decide +kernel
theorem dL_law_553 : decode cL_law 553 = .ok (.iaload, 1) := by decide +kernel
theorem dL_law_554 : decode cL_law 554 = .ok (.aload_n 0, 1) := by decide +kernel
theorem dL_law_555 : decode cL_law 555 = .ok (.iload_n 3, 1) := by decide +kernel
theorem dL_law_556 : decode cL_law 556 = .ok (.iconst 3, 1) := by decide +kernel
theorem dL_law_557 : decode cL_law 557 = .ok (.iadd, 1) := by decide +kernel
theorem dL_law_558 : decode cL_law 558 = .ok (.iaload, 1) := by decide +kernel
theorem dL_law_559 : decode cL_law 559 = .ok (.invokevirtual 84, 3) := by decide +kernel
theorem dL_law_562 : decode cL_law 562 = .ok (.aload_n 2, 1) := by decide +kernel
theorem dL_law_563 : decode cL_law 563 = .ok (.aload_n 0, 1) := by decide +kernel
theorem dL_law_564 : decode cL_law 564 = .ok (.iload_n 3, 1) := by decide +kernel
theorem dL_law_565 : decode cL_law 565 = .ok (.iconst 1, 1) := by decide +kernel
theorem dL_law_566 : decode cL_law 566 = .ok (.iadd, 1) := by decide +kernel
theorem dL_law_567 : decode cL_law 567 = .ok (.iaload, 1) := by decide +kernel
theorem dL_law_568 : decode cL_law 568 = .ok (.aload_n 0, 1) := by decide +kernel
theorem dL_law_569 : decode cL_law 569 = .ok (.iload_n 3, 1) := by decide +kernel
theorem dL_law_570 : decode cL_law 570 = .ok (.iconst 2, 1) := by decide +kernel
theorem dL_law_571 : decode cL_law 571 = .ok (.iadd, 1) := by decide +kernel
theorem dL_law_572 : decode cL_law 572 = .ok (.iaload, 1) := by decide +kernel
theorem dL_law_573 : decode cL_law 573 = .ok (.aload_n 0, 1) := by decide +kernel
theorem dL_law_574 : decode cL_law 574 = .ok (.iload_n 3, 1) := by decide +kernel
theorem dL_law_575 : decode cL_law 575 = .ok (.iconst 3, 1) := by decide +kernel
theorem dL_law_576 : decode cL_law 576 = .ok (.iadd, 1) := by decide +kernel
theorem dL_law_577 : decode cL_law 577 = .ok (.iaload, 1) := by decide +kernel
theorem dL_law_578 : decode cL_law 578 = .ok (.invokevirtual 88, 3) := by decide +kernel
theorem dL_law_581 : decode cL_law 581 = .ok (.if_icmp .eq 84, 3) := by decide +kernel
theorem dL_law_584 : decode cL_law 584 = .ok (.iconst 0, 1) := by decide +kernel
theorem dL_law_585 : decode cL_law 585 = .ok (.ireturn, 1) := by decide +kernel
theorem dL_law_586 : decode cL_law 586 = .ok (.aload_n 1, 1) := by decide +kernel
theorem dL_law_587 : decode cL_law 587 = .ok (.aload_n 0, 1) := by decide +kernel
theorem dL_law_588 : decode cL_law 588 = .ok (.iload_n 3, 1) := by decide +kernel
theorem dL_law_589 : decode cL_law 589 = .ok (.iconst 1, 1) := by decide +kernel
theorem dL_law_590 : decode cL_law 590 = .ok (.iadd, 1) := by decide +kernel
theorem dL_law_591 : decode cL_law 591 = .ok (.iaload, 1) := by decide +kernel
theorem dL_law_592 : decode cL_law 592 = .ok (.invokevirtual 89, 3) := by decide +kernel
theorem dL_law_595 : decode cL_law 595 = .ok (.aload_n 2, 1) := by decide +kernel
theorem dL_law_596 : decode cL_law 596 = .ok (.aload_n 0, 1) := by decide +kernel
theorem dL_law_597 : decode cL_law 597 = .ok (.iload_n 3, 1) := by decide +kernel
theorem dL_law_598 : decode cL_law 598 = .ok (.iconst 1, 1) := by decide +kernel
theorem dL_law_599 : decode cL_law 599 = .ok (.iadd, 1) := by decide +kernel
theorem dL_law_600 : decode cL_law 600 = .ok (.iaload, 1) := by decide +kernel
theorem dL_law_601 : decode cL_law 601 = .ok (.invokevirtual 92, 3) := by decide +kernel
theorem dL_law_604 : decode cL_law 604 = .ok (.if_icmp .eq 61, 3) := by decide +kernel
theorem dL_law_607 : decode cL_law 607 = .ok (.iconst 0, 1) := by decide +kernel
theorem dL_law_608 : decode cL_law 608 = .ok (.ireturn, 1) := by decide +kernel
theorem dL_law_609 : decode cL_law 609 = .ok (.aload_n 1, 1) := by decide +kernel
theorem dL_law_610 : decode cL_law 610 = .ok (.aload_n 0, 1) := by decide +kernel
theorem dL_law_611 : decode cL_law 611 = .ok (.iload_n 3, 1) := by decide +kernel
theorem dL_law_612 : decode cL_law 612 = .ok (.iconst 1, 1) := by decide +kernel
theorem dL_law_613 : decode cL_law 613 = .ok (.iadd, 1) := by decide +kernel
theorem dL_law_614 : decode cL_law 614 = .ok (.iaload, 1) := by decide +kernel
theorem dL_law_615 : decode cL_law 615 = .ok (.invokevirtual 93, 3) := by decide +kernel
theorem dL_law_618 : decode cL_law 618 = .ok (.aload_n 2, 1) := by decide +kernel
theorem dL_law_619 : decode cL_law 619 = .ok (.aload_n 0, 1) := by decide +kernel
theorem dL_law_620 : decode cL_law 620 = .ok (.iload_n 3, 1) := by decide +kernel
theorem dL_law_621 : decode cL_law 621 = .ok (.iconst 1, 1) := by decide +kernel
theorem dL_law_622 : decode cL_law 622 = .ok (.iadd, 1) := by decide +kernel
theorem dL_law_623 : decode cL_law 623 = .ok (.iaload, 1) := by decide +kernel
theorem dL_law_624 : decode cL_law 624 = .ok (.invokevirtual 96, 3) := by decide +kernel
theorem dL_law_627 : decode cL_law 627 = .ok (.if_icmp .eq 38, 3) := by decide +kernel
theorem dL_law_630 : decode cL_law 630 = .ok (.iconst 0, 1) := by decide +kernel
theorem dL_law_631 : decode cL_law 631 = .ok (.ireturn, 1) := by decide +kernel
theorem dL_law_632 : decode cL_law 632 = .ok (.aload_n 1, 1) := by decide +kernel
theorem dL_law_633 : decode cL_law 633 = .ok (.aload_n 0, 1) := by decide +kernel
theorem dL_law_634 : decode cL_law 634 = .ok (.iload_n 3, 1) := by decide +kernel
theorem dL_law_635 : decode cL_law 635 = .ok (.iconst 1, 1) := by decide +kernel
theorem dL_law_636 : decode cL_law 636 = .ok (.iadd, 1) := by decide +kernel
theorem dL_law_637 : decode cL_law 637 = .ok (.iaload, 1) := by decide +kernel
theorem dL_law_638 : decode cL_law 638 = .ok (.aload_n 0, 1) := by decide +kernel
theorem dL_law_639 : decode cL_law 639 = .ok (.iload_n 3, 1) := by decide +kernel
theorem dL_law_640 : decode cL_law 640 = .ok (.iconst 2, 1) := by decide +kernel
theorem dL_law_641 : decode cL_law 641 = .ok (.iadd, 1) := by decide +kernel
theorem dL_law_642 : decode cL_law 642 = .ok (.iaload, 1) := by decide +kernel
theorem dL_law_643 : decode cL_law 643 = .ok (.invokevirtual 97, 3) := by decide +kernel
theorem dL_law_646 : decode cL_law 646 = .ok (.aload_n 2, 1) := by decide +kernel
theorem dL_law_647 : decode cL_law 647 = .ok (.aload_n 0, 1) := by decide +kernel
theorem dL_law_648 : decode cL_law 648 = .ok (.iload_n 3, 1) := by decide +kernel
theorem dL_law_649 : decode cL_law 649 = .ok (.iconst 1, 1) := by decide +kernel
theorem dL_law_650 : decode cL_law 650 = .ok (.iadd, 1) := by decide +kernel
theorem dL_law_651 : decode cL_law 651 = .ok (.iaload, 1) := by decide +kernel
theorem dL_law_652 : decode cL_law 652 = .ok (.aload_n 0, 1) := by decide +kernel
theorem dL_law_653 : decode cL_law 653 = .ok (.iload_n 3, 1) := by decide +kernel
theorem dL_law_654 : decode cL_law 654 = .ok (.iconst 2, 1) := by decide +kernel
theorem dL_law_655 : decode cL_law 655 = .ok (.iadd, 1) := by decide +kernel
theorem dL_law_656 : decode cL_law 656 = .ok (.iaload, 1) := by decide +kernel
theorem dL_law_657 : decode cL_law 657 = .ok (.invokevirtual 100, 3) := by decide +kernel
theorem dL_law_660 : decode cL_law 660 = .ok (.if_icmp .eq 5, 3) := by decide +kernel
theorem dL_law_663 : decode cL_law 663 = .ok (.iconst 0, 1) := by decide +kernel
theorem dL_law_664 : decode cL_law 664 = .ok (.ireturn, 1) := by decide +kernel
theorem dL_law_665 : decode cL_law 665 = .ok (.iinc 3 4, 3) := by decide +kernel
theorem dL_law_668 : decode cL_law 668 = .ok (.goto (-650), 3) := by decide +kernel
theorem dL_law_671 : decode cL_law 671 = .ok (.iconst 1, 1) := by decide +kernel
theorem dL_law_672 : decode cL_law 672 = .ok (.ireturn, 1) := by decide +kernel
end
section
/-! numbers: an int by its number -/
def zI (z : Int) : Int32 := Int32.ofInt z
def zL (z : Int) : Int64 := Int64.ofInt z
theorem zI_toInt {z : Int} (h : -2147483648 ≤ z ∧ z < 2147483648) : (zI z).toInt = z := Int32.toInt_ofInt_of_le (by omega) (by omega)
theorem zI_of (x : Int32) : zI x.toInt = x := Int32.ofInt_toInt x
theorem zI_ex (x : Int32) : ∃ z : Int, (-2147483648 ≤ z ∧ z < 2147483648) ∧ x = zI z := ⟨x.toInt, ⟨Int32.le_toInt x, Int32.toInt_lt x⟩, (zI_of x).symm⟩
theorem zI_add (a b : Int) : zI a + zI b = zI (a + b) := (Int32.ofInt_add a b).symm
theorem zI_sub (a b : Int) : zI a - zI b = zI (a - b) := (Int32.ofInt_sub a b).symm
theorem zI_mul (a b : Int) : zI a * zI b = zI (a * b) := (Int32.ofInt_mul a b).symm
theorem zI_lt {a b : Int} (ha : -2147483648 ≤ a ∧ a < 2147483648) (hb : -2147483648 ≤ b ∧ b < 2147483648) : zI a < zI b ↔ a < b := by
  rw [Int32.lt_iff_toInt_lt, zI_toInt ha, zI_toInt hb]
theorem zI_le {a b : Int} (ha : -2147483648 ≤ a ∧ a < 2147483648) (hb : -2147483648 ≤ b ∧ b < 2147483648) : zI a ≤ zI b ↔ a ≤ b := by
  rw [Int32.le_iff_toInt_le, zI_toInt ha, zI_toInt hb]
theorem zI_eq {a b : Int} (ha : -2147483648 ≤ a ∧ a < 2147483648) (hb : -2147483648 ≤ b ∧ b < 2147483648) : zI a = zI b ↔ a = b := by
  rw [← Int32.toInt_inj, zI_toInt ha, zI_toInt hb]
theorem zI_0 : (0 : Int32) = zI 0 := rfl
theorem zI_cl {a : Int} (h : 0 ≤ a ∧ a < 2147483648) : (zI a).toNatClampNeg = a.toNat := by
  show (zI a).toInt.toNat = a.toNat
  rw [zI_toInt (by omega)]
theorem zI_in {a : Int} {n : Nat} (h : 0 ≤ a ∧ a < n) (hn : n ≤ 2147483647) : ¬ (zI a < 0 ∨ n ≤ (zI a).toNatClampNeg) := by
  rw [zI_cl (by omega), zI_0, zI_lt (by omega) (by omega)]
  omega
theorem zI_rem {a b : Int} (ha : 0 ≤ a ∧ a < 2147483648) (hb : 0 < b ∧ b < 2147483648) : zI a % zI b = zI (a % b) := by
  have hm : 0 ≤ a % b := Int.emod_nonneg a (by omega)
  have hm2 : a % b < b := Int.emod_lt_of_pos a (by omega)
  apply Int32.toInt_inj.mp
  rw [Int32.toInt_mod, zI_toInt (by omega), zI_toInt (by omega), zI_toInt (by omega), Int.tmod_eq_emod_of_nonneg (by omega)]
theorem zI_div {a b : Int} (ha : 0 ≤ a ∧ a < 2147483648) (hb : 0 < b ∧ b < 2147483648) : zI a / zI b = zI (a / b) := by
  have hm : 0 ≤ a / b := Int.ediv_nonneg (by omega) (by omega)
  have hm2 : a / b ≤ a := Int.ediv_le_self b (by omega)
  apply Int32.toInt_inj.mp
  rw [Int32.toInt_div_of_ne_right _ _ (by
    intro h
    have h2 := congrArg Int32.toInt h
    rw [zI_toInt (by omega)] at h2
    have h3 : (-1 : Int32).toInt = -1 := by decide
    omega), zI_toInt (by omega), zI_toInt (by omega), zI_toInt (by omega), Int.tdiv_eq_ediv_of_nonneg (by omega)]
theorem zI_n (n : Nat) : Int32.ofNat n = zI (n : Int) := Int32.ofInt_eq_ofNat.symm
/-! words of the tables that hold everywhere -/
def sj_good : Cond → Bool
  | .fieldLinkNest _ _ _ _ _ _ => true
  | .methodLinkNest _ _ _ _ => true
  | .castable _ _ => true
  | .arrayOver (.object _) => true
  | w => goodWord w
def sj_in (w : Cond) : Prop := w ∈ lw_tbl ∧ sj_good w = true
theorem sj_warm {w : Cond} (hg : sj_good w = true) {s U : State} (hW : s.WarmedH U.vm) (h : w.before #[] s = true) (a : Array Value) : w.before a U = true := by
  unfold sj_good at hg
  split at hg
  · exact va_Nw.use rfl (va_Nw.warmF hW h)
  · exact va_Nw.use rfl (va_Nw.warmM hW h)
  · exact va_Nw.use rfl (va_Nw.warmC hW h)
  · exact va_AO.use (va_AO.moved hW.alike h)
  · exact word_at hW (good_of_word hg) h
/-! memory: what stands at an address (kind, length, references), and its numbers. Kinds 0 to 9: objects of vwCl; 10 int[], 11 long[], 12 boolean[], 13 Term[], 14 Equations[], 15 Values[] -/
abbrev sjSh : Type := Nat × Nat × (Nat → Option Nat)
/-- the next address, and what stands where -/
abbrev sjS : Type := Nat × (Nat → Option sjSh)
abbrev sjI : Type := Nat → Nat → Int
/-- class ids, slots, array class ids, the heap at the law's start -/
abbrev sjG : Type := (Nat → ClassId) × (Nat → Nat → Nat) × (Nat → ClassId) × Heap
/-- is the field a reference -/
def sj_rf : Nat → Nat → Bool
  | 0, _ => true
  | 1, k => k != 0
  | 2, k => k == 0
  | 3, k => k != 3
  | 4, k => k != 0
  | 5, k => k != 2
  | 6, k => k != 3
  | 7, _ => true
  | 8, _ => true
  | _, k => !(k == 2 || k == 4 || k == 6 || k == 8 || k == 11 || k == 12 || k == 15 || k == 21 || k == 22 || k == 23)
def sj_fv (κ : Nat) (ρ : Nat → Option Nat) (f : Nat → Int) (k : Nat) : Value := if sj_rf κ k = true then va_rf (ρ k) else .int (zI (f k))
def sj_cell (G : sjG) (H : Heap) (a : Nat) (h : sjSh) (f : Nat → Int) : Prop :=
  if h.1 < 10 then ∃ r : vw_C, vwCl[h.1]? = some r ∧ t_OB a (G.1 h.1) r.2.2 (G.2.1 h.1) H (sj_fv h.1 h.2.2 f)
  else if h.1 = 11 then H[a]? = some (arrV (G.2.2.1 11) h.2.1 (fun j => .long (zL (f j))))
  else if h.1 = 10 ∨ h.1 = 12 then H[a]? = some (arrV (G.2.2.1 h.1) h.2.1 (fun j => .int (zI (f j))))
  else H[a]? = some (arrV (G.2.2.1 h.1) h.2.1 (fun j => va_rf (h.2.2 j)))
def sj_Rep (G : sjG) (σ : sjS) (I : sjI) (H : Heap) : Prop :=
  (σ.1 = H.size ∧ G.2.2.2.size ≤ H.size) ∧ (∀ q : Nat, q < G.2.2.2.size → H[q]? = G.2.2.2[q]?) ∧ ∀ (a : Nat) (h : sjSh), σ.2 a = some h → G.2.2.2.size ≤ a ∧ sj_cell G H a h (I a)
abbrev sj_tys (G : sjG) : List (ClassId × FieldType) := [(G.2.2.1 10, .int), (G.2.2.1 11, .long), (G.2.2.1 12, .boolean), (G.2.2.1 13, .object "StreamJudge$Term"), (G.2.2.1 14, .object "StreamJudge$Equations"), (G.2.2.1 15, .object "StreamJudge$Values")]
def sj_K (G : sjG) (U : State) : Prop := va_K (G.1, G.2.1) vwCl (sj_tys G) U ∧ ∀ w : Cond, sj_in w → w.before #[] U = true
theorem sj_K.warm {G : sjG} {s U : State} (h : sj_K G s) (hW : s.WarmedH U.vm) : sj_K G U :=
  ⟨va_K.moved hW.alike h.1, fun w hw => sj_warm hw.2 hW (h.2 w hw) #[]⟩
theorem sj_K.word {G : sjG} {s : State} (h : sj_K G s) {w : Cond} (hw : sj_in w) (a : Array Value) : w.before a s = true := sj_warm hw.2 (State.WarmedH.refl s) (h.2 w hw) a
def sj_up (I : sjI) (a j : Nat) (v : Int) : sjI := fun q i => if q = a ∧ i = j then v else I q i
theorem sj_up_self (I : sjI) (a j : Nat) (v : Int) : sj_up I a j v a j = v := by simp [sj_up]
theorem sj_up_ne {I : sjI} {a j q i : Nat} {v : Int} (h : ¬ (q = a ∧ i = j)) : sj_up I a j v q i = I q i := by simp [sj_up, h]
theorem sj_up_row {I : sjI} {a j q : Nat} {v : Int} (h : q ≠ a) : sj_up I a j v q = I q := by funext i; simp [sj_up, h]
def sj_us (σ : sjS) (a : Nat) (h : sjSh) : sjS := (σ.1, fun q => if q = a then some h else σ.2 q)
/-- a new cell -/
def sj_nw (σ : sjS) (h : sjSh) : sjS := (σ.1 + 1, fun q => if q = σ.1 then some h else σ.2 q)
theorem sj_nw_self (σ : sjS) (h : sjSh) : (sj_nw σ h).2 σ.1 = some h := by simp [sj_nw]
theorem sj_nw_ne {σ : sjS} {q : Nat} {h : sjSh} (hn : q ≠ σ.1) : (sj_nw σ h).2 q = σ.2 q := by simp [sj_nw, hn]
theorem sj_us_self (σ : sjS) (a : Nat) (h : sjSh) : (sj_us σ a h).2 a = some h := by simp [sj_us]
theorem sj_us_ne {σ : sjS} {a q : Nat} {h : sjSh} (hn : q ≠ a) : (sj_us σ a h).2 q = σ.2 q := by simp [sj_us, hn]
/-- a whole row of numbers anew -/
def sj_ur (I : sjI) (a : Nat) (f : Nat → Int) : sjI := fun q => if q = a then f else I q
theorem sj_ur_self (I : sjI) (a : Nat) (f : Nat → Int) : sj_ur I a f a = f := by simp [sj_ur]
theorem sj_ur_ne {I : sjI} {a q : Nat} {f : Nat → Int} (hn : q ≠ a) : sj_ur I a f q = I q := by simp [sj_ur, hn]
theorem sj_cell.lt {G : sjG} {H : Heap} {a : Nat} {h : sjSh} {f : Nat → Int} (c : sj_cell G H a h f) : a < H.size := by
  unfold sj_cell at c
  split at c
  · obtain ⟨r, -, cell, q, -⟩ := c
    exact (Array.getElem?_eq_some_iff.mp q).1
  · split at c
    · exact (Array.getElem?_eq_some_iff.mp c).1
    · split at c
      · exact (Array.getElem?_eq_some_iff.mp c).1
      · exact (Array.getElem?_eq_some_iff.mp c).1
theorem sj_cell.kept {G : sjG} {H H1 : Heap} {a : Nat} {h : sjSh} {f : Nat → Int} (c : sj_cell G H a h f) (e : H1[a]? = H[a]?) : sj_cell G H1 a h f := by
  unfold sj_cell at c ⊢
  split
  · rename_i h1
    rw [if_pos h1] at c
    obtain ⟨r, h2, h3⟩ := c
    exact ⟨r, h2, h3.kept e⟩
  · rename_i h1
    rw [if_neg h1] at c
    rw [e]
    exact c
theorem sj_Rep.lt {G : sjG} {σ : sjS} {I : sjI} {H : Heap} (h : sj_Rep G σ I H) {a : Nat} {x : sjSh} (e : σ.2 a = some x) : a < σ.1 := by
  rw [h.1.1]; exact (h.2.2 a x e).2.lt
/-- one cell is written -/
theorem sj_Rep.put {G : sjG} {σ : sjS} {I : sjI} {H H1 : Heap} (h : sj_Rep G σ I H) {a : Nat} (ha : G.2.2.2.size ≤ a) (hz : H1.size = H.size) (ho : ∀ q : Nat, q ≠ a → H1[q]? = H[q]?) {x : sjSh} {f : Nat → Int} (hc : sj_cell G H1 a x f) : sj_Rep G (sj_us σ a x) (sj_ur I a f) H1 := by
  refine ⟨⟨by rw [hz]; exact h.1.1, by rw [hz]; exact h.1.2⟩, fun q hq => by rw [ho q (by omega)]; exact h.2.1 q hq, fun q y hy => ?_⟩
  by_cases e : q = a
  · subst e
    rw [sj_us_self] at hy
    cases hy
    rw [sj_ur_self]
    exact ⟨ha, hc⟩
  · rw [sj_us_ne e] at hy
    rw [sj_ur_ne e]
    exact ⟨(h.2.2 q y hy).1, (h.2.2 q y hy).2.kept (ho q e)⟩
/-- one cell is new -/
theorem sj_Rep.new {G : sjG} {σ : sjS} {I : sjI} {H H1 : Heap} (h : sj_Rep G σ I H) (hz : H1.size = H.size + 1) (ho : ∀ q : Nat, q < H.size → H1[q]? = H[q]?) {x : sjSh} {f : Nat → Int} (hc : sj_cell G H1 H.size x f) : sj_Rep G (sj_nw σ x) (sj_ur I σ.1 f) H1 := by
  have h0 := h.1.1
  refine ⟨⟨by show σ.1 + 1 = _; omega, by have := h.1.2; omega⟩, fun q hq => by rw [ho q (by have := h.1.2; omega)]; exact h.2.1 q hq, fun q y hy => ?_⟩
  by_cases e : q = σ.1
  · subst e
    rw [sj_nw_self] at hy
    cases hy
    rw [sj_ur_self, h0]
    exact ⟨h.1.2, hc⟩
  · rw [sj_nw_ne e] at hy
    rw [sj_ur_ne e]
    have hq := (h.2.2 q y hy).2.lt
    exact ⟨(h.2.2 q y hy).1, (h.2.2 q y hy).2.kept (ho q hq)⟩
theorem sj_us_same {σ : sjS} {a : Nat} {h : sjSh} (e : σ.2 a = some h) : sj_us σ a h = σ := by
  refine Prod.ext rfl ?_
  funext q
  by_cases c : q = a
  · subst c; rw [sj_us_self, e]
  · rw [sj_us_ne c]
theorem sj_ur_up (I : sjI) (a j : Nat) (v : Int) : sj_ur I a (fun i => if i = j then v else I a i) = sj_up I a j v := by
  funext q i
  by_cases c : q = a
  · subst c; simp [sj_ur, sj_up]
  · simp [sj_ur, sj_up, c]
theorem sj_ur_same (I : sjI) (a : Nat) : sj_ur I a (I a) = I := by
  funext q i
  by_cases c : q = a
  · subst c; simp [sj_ur]
  · simp [sj_ur, c]
/-! the judgement -/
/-- locals: what is known of them -/
def sj_L (ls : Array Slot) (nL : Nat) (L : List (Option Value)) : Prop := ls.size = nL ∧ lv_wf ls ∧ ∀ (i : Nat) (v : Value), L[i]? = some (some v) → ls[i]? = some (.val v)
abbrev sjC : Type := Program × Env × State × MethodId × Array Value × List Frame × Method × Code × (State → Prop)
abbrev sjM : Type := ByteArray × String × Nat × Option FieldType × String × Room
abbrev sjP : Type := Option Value → sjS → sjI → Prop
/-- how the method may end -/
def sj_ret (l : Launch) (Γ : sjC) (μ : sjM) (G : sjG) (post : sjP) : Prop := match Γ, μ with
  | (p, e, s, m, args, below, meth, c, Q), (cc, _, _, ret, _, R) => ∀ (H : Heap) (locs : List Loc) (k n pc : Nat) (ls : Array Slot) (σ : sjS) (I : sjI), sj_Rep G σ I H → (∀ q ∈ locs, G.2.2.2.size ≤ q.base) → k ≤ R.cells → n ≤ R.slots →
    (∀ (v : Int32) (ty : FieldType), decode cc pc = .ok (.ireturn, 1) → ret = some ty → narrow ty (.int v) = .int v → post (some (.int v)) σ I → W p l e R s m args below meth c H locs k n Q (F0 m pc ls [.int v])) ∧
    (decode cc pc = .ok (.return_, 1) → ret = none → post none σ I → W p l e R s m args below meth c H locs k n Q (F0 m pc ls [])) ∧
    (∀ (v : Value) (ty : FieldType), decode cc pc = .ok (.areturn, 1) → ret = some ty → ((∃ x, ty = .object x) ∨ ∃ t, ty = .array t) → (v = .null ∨ ∃ a, v = .ref a) → post (some v) σ I → W p l e R s m args below meth c H locs k n Q (F0 m pc ls [v]))
def sj_V (l : Launch) (Γ : sjC) (μ : sjM) (G : sjG) (post : sjP) (σ : sjS) (I : sjI) (k n pc : Nat) (L : List (Option Value)) (st : List Value) : Prop := match Γ, μ with
  | (p, e, s, m, args, below, meth, c, Q), (cc, own, nL, ret, nm, R) => (p.tables.exec = Jvm.exec ∧ c.code = cc ∧ c.maxLocals = nL ∧ s.vm.findClass own = some m.cls ∧ meth.name = nm) → sj_K G s → sj_ret l (p, e, s, m, args, below, meth, c, Q) (cc, own, nL, ret, nm, R) G post →
    ∀ (H : Heap) (locs : List Loc) (ls : Array Slot), sj_Rep G σ I H → (∀ q ∈ locs, G.2.2.2.size ≤ q.base) → sj_L ls nL L → W p l e R s m args below meth c H locs k n Q (F0 m pc ls st)
def sj_Pre (G : sjG) (σ : sjS) (I : sjI) (av : List Value) : Array Value → State → Prop := fun v U => v = av.toArray ∧ sj_K G U ∧ sj_Rep G σ I U.heap
def sj_Post (G : sjG) (post : sjP) : Array Value → State → Outcome → State → Prop := fun _ _ oc t => ∃ (r : Option Value) (σ' : sjS) (I' : sjI), oc = .returned r ∧ post r σ' I' ∧ sj_K G t ∧ sj_Rep G σ' I' t.heap
def sj_Con (l : Launch) (y : MethodName) (μ : sjM) (G : sjG) (σ : sjS) (I : sjI) (av : List Value) (post : sjP) : Prop :=
  Met l y [.code y μ.1 μ.2.2.1 μ.2.2.2.1] μ.2.2.2.2.2 (sj_Pre G σ I av) (sj_Post G post) μ.2.2.2.2.2.cells μ.2.2.2.2.2.slots (fun q => G.2.2.2.size ≤ q)
theorem sj_Pre.blind (G : sjG) (σ : sjS) (I : sjI) (av : List Value) : FrameBlind (sj_Pre G σ I av) := fun a U g mk h =>
  ⟨h.1, h.2.1.warm (U := U.calling g mk a) (State.WarmedH.refl U), h.2.2⟩
theorem sj_args {ls : Array Slot} {nL : Nat} : ∀ (av : List Value) (i : Nat), (∀ v ∈ av, v.category = 1) → ∀ (j : Nat) (v : Value), av[j]? = some v → (i + j, v) ∈ lv_args i av
  | [], _, _, j, v, h => by simp at h
  | x :: xs, i, hc, 0, v, h => by
    simp at h
    subst h
    exact List.mem_cons_self
  | x :: xs, i, hc, j + 1, v, h => by
    have h1 : x.category = 1 := hc x List.mem_cons_self
    have h2 := sj_args (ls := ls) (nL := nL) xs (i + 1) (fun w hw => hc w (List.mem_cons_of_mem _ hw)) j v (by simpa using h)
    show (i + (j + 1), v) ∈ (i, x) :: lv_args (if x.category = 2 then i + 2 else i + 1) xs
    rw [if_neg (by omega), show i + (j + 1) = i + 1 + j by omega]
    exact List.mem_cons_of_mem _ h2
theorem sj_L.entry {ls : Array Slot} {nL : Nat} {av : List Value} (hc : ∀ v ∈ av, v.category = 1) (h : lv_has ls nL (lv_args 0 av)) : sj_L ls nL (av.map some ++ List.replicate (nL - av.length) none) := by
  refine ⟨h.1, h.2.1, fun i v hv => ?_⟩
  have h1 : av[i]? = some v := by
    by_cases hi : i < av.length
    · rw [List.getElem?_append_left (by simpa using hi)] at hv
      simpa using hv
    · rw [List.getElem?_append_right (by simpa using hi)] at hv
      simp [List.getElem?_replicate] at hv
  have h2 := sj_args (ls := ls) (nL := nL) av 0 hc i v h1
  rw [Nat.zero_add] at h2
  exact h.2.2 _ h2
set_option maxHeartbeats 1000000 in
/-- a contract out of the walk of the method's body -/
theorem sj_con_of' {l : Launch} {y : MethodName} {cc : ByteArray} {own nm : String} {nL : Nat} {ret : Option FieldType} {R : Room} {G : sjG} {σ : sjS} {I : sjI} {av : List Value} {post : sjP} {L0 : List (Option Value)} (hy : plainName y.cls = true) (hyc : y.cls = own) (hyn : y.name = nm) (hlen : (lg_sl av).length ≤ nL)
    (hL0 : ∀ ls : Array Slot, lv_has ls nL (lv_args 0 av) → sj_L ls nL L0) (h : ∀ Γ : sjC, sj_V l Γ (cc, own, nL, ret, nm, R) G post σ I 0 0 0 L0 []) : sj_Con l y (cc, own, nL, ret, nm, R) G σ I av post := by
  refine Met.ofW (cc := cc) (maxL := nL) (ret := ret) hy rfl ?_
  intro p e s m args below meth c s₁ B hml hv
  obtain ⟨rfl, hK, hRep⟩ := hv
  have hx := B.exec
  have hb := B.bytes
  have hr := B.returns
  have hlocks := B.notSynchronized
  have hown : s.vm.findClass own = some m.cls := by rw [← hyc]; exact findClass_of_methodNamed B.named
  have hnm : meth.name = nm := by rw [← hyn]; exact (name_of_methodNamed B.named B.method).1
  have hl := lv_entry av (n := nL) hlen
  rw [lg_entry_eq]
  generalize (lg_sl av ++ List.replicate (nL - (lg_sl av).length) Slot.unset).toArray = ls at hl ⊢
  refine h (p, e, s, m, av.toArray, below, meth, c, MQ below (sj_Post G post) av.toArray s R.cells R.slots (fun q => G.2.2.2.size ≤ q)) ⟨hx, hb, hml, hown, hnm⟩ hK ?_ s.heap [] ls hRep (fun q h => by cases h) (hL0 ls hl)
  intro H locs k n pc ls σ' I' hR hlo hk hn
  refine ⟨fun v ty hd hty hnr hp => ?_, fun hd hty hp => ?_, fun v ty hd hty ht hv hp => ?_⟩
  · refine W.widen hk hn ?_
    exact W.zret hx hb (by rw [hr, hty]) hnr (fun t ht hW => ⟨_, σ', I', rfl, hp, hK.warm hW, by rw [ht]; exact hR⟩) hlo hd
  · refine W.widen hk hn ?_
    exact W.vret hx hb (by rw [hr, hty]) (fun t ht hW => ⟨_, σ', I', rfl, hp, hK.warm hW, by rw [ht]; exact hR⟩) hlo hd
  · refine W.widen hk hn ?_
    exact W.aret hx hb (by rw [hr, hty]) ht hv (fun t ht hW => ⟨_, σ', I', rfl, hp, hK.warm hW, by rw [ht]; exact hR⟩) hlo hd
theorem sj_sl1 : ∀ (av : List Value), (∀ v ∈ av, v.category = 1) → (lg_sl av).length = av.length
  | [], _ => rfl
  | x :: xs, h => by
    have h1 : x.category = 1 := h x List.mem_cons_self
    have h2 := sj_sl1 xs (fun v hv => h v (List.mem_cons_of_mem _ hv))
    unfold lg_sl at h2 ⊢
    rw [List.flatMap_cons, if_neg (by omega), List.length_append, h2]
    simp
    omega
def sj_cat : List Value → Bool
  | [] => true
  | .int _ :: r => sj_cat r
  | .ref _ :: r => sj_cat r
  | .null :: r => sj_cat r
  | _ => false
theorem sj_cat_ok : ∀ (av : List Value), sj_cat av = true → ∀ v ∈ av, v.category = 1
  | [], _, v, h => by cases h
  | .int _ :: r, h, v, hv => by
    rcases List.mem_cons.mp hv with rfl | hv
    · rfl
    · exact sj_cat_ok r h v hv
  | .ref _ :: r, h, v, hv => by
    rcases List.mem_cons.mp hv with rfl | hv
    · rfl
    · exact sj_cat_ok r h v hv
  | .null :: r, h, v, hv => by
    rcases List.mem_cons.mp hv with rfl | hv
    · rfl
    · exact sj_cat_ok r h v hv
  | .long _ :: r, h, v, hv => by cases h
  | .float _ :: r, h, v, hv => by cases h
  | .double _ :: r, h, v, hv => by cases h
  | .retAddr _ :: r, h, v, hv => by cases h
theorem sj_con_of {l : Launch} {y : MethodName} {cc : ByteArray} {own nm : String} {nL : Nat} {ret : Option FieldType} {R : Room} {G : sjG} {σ : sjS} {I : sjI} {av : List Value} {post : sjP} {L0 : List (Option Value)} (hy : plainName y.cls = true) (hyc : y.cls = own) (hyn : y.name = nm) (hc : sj_cat av = true) (hlen : av.length ≤ nL)
    (hL0 : av.map some ++ List.replicate (nL - av.length) none = L0) (h : ∀ Γ : sjC, sj_V l Γ (cc, own, nL, ret, nm, R) G post σ I 0 0 0 L0 []) : sj_Con l y (cc, own, nL, ret, nm, R) G σ I av post :=
  sj_con_of' hy hyc hyn (by rw [sj_sl1 av (sj_cat_ok av hc)]; exact hlen) (fun ls hl => by rw [← hL0]; exact sj_L.entry (sj_cat_ok av hc) hl) h
/-! locals -/
def sj_c1 : Option Value → Bool
  | some (.long _) => false
  | some (.double _) => false
  | _ => true
theorem sj_c1_ok {o : Option Value} (h : sj_c1 o = true) {w : Value} (e : o = some w) : w.category ≠ 2 := by
  subst e
  cases w <;> first | (intro q; cases q; done) | cases h
def sj_al (L : List (Option Value)) : List (Nat × Value) := (List.range L.length).filterMap (fun i => (L.getD i none).map (fun v => (i, v)))
theorem sj_al_mem {L : List (Option Value)} {i : Nat} {v : Value} : (i, v) ∈ sj_al L ↔ L[i]? = some (some v) := by
  unfold sj_al
  rw [List.mem_filterMap]
  constructor
  · rintro ⟨j, hj, h⟩
    rw [List.mem_range] at hj
    rw [Option.map_eq_some_iff] at h
    obtain ⟨w, h1, h2⟩ := h
    cases h2
    rw [List.getD_eq_getElem?_getD, List.getElem?_eq_getElem hj] at h1
    rw [List.getElem?_eq_getElem hj]
    simpa using h1
  · intro h
    have hi : i < L.length := (List.getElem?_eq_some_iff.mp h).1
    refine ⟨i, List.mem_range.mpr hi, ?_⟩
    rw [List.getD_eq_getElem?_getD, h]
    rfl
theorem sj_L.has {ls : Array Slot} {nL : Nat} {L : List (Option Value)} (h : sj_L ls nL L) : lv_has ls nL (sj_al L) := ⟨h.1, h.2.1, fun q hq => h.2.2 q.1 q.2 (sj_al_mem.mp hq)⟩
/-- a store of one word at place i -/
theorem sj_L.stored {ls' : Array Slot} {nL i : Nat} {L : List (Option Value)} {v : Value} (hp : ∀ w : Value, 0 < i → L[i - 1]? = some (some w) → w.category ≠ 2) (h : lv_has ls' nL ((i, v) :: (sj_al L).filter (fun q => !(q.1 == i) && !(q.1 + 1 == i && q.2.category == 2)))) : sj_L ls' nL (L.set i (some v)) := by
  refine ⟨h.1, h.2.1, fun j w hj => ?_⟩
  by_cases e : j = i
  · subst e
    have hi : j < L.length := by
      have := (List.getElem?_eq_some_iff.mp hj).1
      simpa using this
    rw [List.getElem?_set_self hi] at hj
    cases hj
    exact h.2.2 (j, v) List.mem_cons_self
  · rw [List.getElem?_set_ne (fun q => e q.symm)] at hj
    refine h.2.2 (j, w) (List.mem_cons_of_mem _ (List.mem_filter.mpr ⟨sj_al_mem.mpr hj, ?_⟩))
    simp only [Bool.and_eq_true, Bool.not_eq_true', beq_eq_false_iff_ne, ne_eq, Bool.and_eq_false_iff]
    refine ⟨e, ?_⟩
    by_cases e2 : j + 1 = i
    · right
      exact hp w (by omega) (by rw [show i - 1 = j by omega]; exact hj)
    · exact Or.inl e2

section ROWS
variable {l : Launch} {Γ : sjC} {cc : ByteArray} {own nm : String} {nL : Nat} {ret : Option FieldType} {R : Room} {G : sjG} {post : sjP} {σ : sjS} {I : sjI} {k n pc : Nat} {L : List (Option Value)} {st : List Value}

theorem sj_iconst {z : Int} (d : decode cc pc = .ok (.iconst z, 1)) (kk : sj_V l Γ (cc, own, nL, ret, nm, R) G post σ I k n (pc + 1) L (.int (zI z) :: st)) : sj_V l Γ (cc, own, nL, ret, nm, R) G post σ I k n pc L (st) := by
  obtain ⟨p, e, s, m, args, below, meth, c, Q⟩ := Γ
  intro hC hK hr H locs ls hR hlo hL
  obtain ⟨hx, hb, hml, hown, hnm⟩ := id hC
  exact lv_iconst (v := zI z) hx hb d rfl (kk hC hK hr H locs ls hR hlo hL)
theorem sj_bipush {z : Int} (d : decode cc pc = .ok (.bipush z, 2)) (hz : (Int8.ofInt z).toInt32 = zI z) (kk : sj_V l Γ (cc, own, nL, ret, nm, R) G post σ I k n (pc + 2) L (.int (zI z) :: st)) : sj_V l Γ (cc, own, nL, ret, nm, R) G post σ I k n pc L (st) := by
  obtain ⟨p, e, s, m, args, below, meth, c, Q⟩ := Γ
  intro hC hK hr H locs ls hR hlo hL
  obtain ⟨hx, hb, hml, hown, hnm⟩ := id hC
  exact lv_bipush (v := zI z) hx hb d hz (kk hC hK hr H locs ls hR hlo hL)
theorem sj_sipush {z : Int} (d : decode cc pc = .ok (.sipush z, 3)) (hz : (Int16.ofInt z).toInt32 = zI z) (kk : sj_V l Γ (cc, own, nL, ret, nm, R) G post σ I k n (pc + 3) L (.int (zI z) :: st)) : sj_V l Γ (cc, own, nL, ret, nm, R) G post σ I k n pc L (st) := by
  obtain ⟨p, e, s, m, args, below, meth, c, Q⟩ := Γ
  intro hC hK hr H locs ls hR hlo hL
  obtain ⟨hx, hb, hml, hown, hnm⟩ := id hC
  exact lv_sipush (v := zI z) hx hb d hz (kk hC hK hr H locs ls hR hlo hL)
theorem sj_ldc {idx : Nat} {z : Int} (hw : sj_in (.constant own idx (zI z))) (d : decode cc pc = .ok (.ldc idx, 2)) (kk : sj_V l Γ (cc, own, nL, ret, nm, R) G post σ I k n (pc + 2) L (.int (zI z) :: st)) : sj_V l Γ (cc, own, nL, ret, nm, R) G post σ I k n pc L (st) := by
  obtain ⟨p, e, s, m, args, below, meth, c, Q⟩ := Γ
  intro hC hK hr H locs ls hR hlo hL
  obtain ⟨hx, hb, hml, hown, hnm⟩ := id hC
  exact lv_ldc hx hb hown (hK.word hw args) d (kk hC hK hr H locs ls hR hlo hL)
theorem sj_ldcw {idx : Nat} {z : Int} (hw : sj_in (.constant own idx (zI z))) (d : decode cc pc = .ok (.ldc_w idx, 3)) (kk : sj_V l Γ (cc, own, nL, ret, nm, R) G post σ I k n (pc + 3) L (.int (zI z) :: st)) : sj_V l Γ (cc, own, nL, ret, nm, R) G post σ I k n pc L (st) := by
  obtain ⟨p, e, s, m, args, below, meth, c, Q⟩ := Γ
  intro hC hK hr H locs ls hR hlo hL
  obtain ⟨hx, hb, hml, hown, hnm⟩ := id hC
  exact lv_ldcw hx hb hown (hK.word hw args) d (kk hC hK hr H locs ls hR hlo hL)
theorem sj_null (d : decode cc pc = .ok (.aconst_null, 1)) (kk : sj_V l Γ (cc, own, nL, ret, nm, R) G post σ I k n (pc + 1) L (.null :: st)) : sj_V l Γ (cc, own, nL, ret, nm, R) G post σ I k n pc L (st) := by
  obtain ⟨p, e, s, m, args, below, meth, c, Q⟩ := Γ
  intro hC hK hr H locs ls hR hlo hL
  obtain ⟨hx, hb, hml, hown, hnm⟩ := id hC
  exact lv_null hx hb d (kk hC hK hr H locs ls hR hlo hL)
theorem sj_iadd {a b : Int} (d : decode cc pc = .ok (.iadd, 1)) (kk : sj_V l Γ (cc, own, nL, ret, nm, R) G post σ I k n (pc + 1) L (.int (zI (a + b)) :: st)) : sj_V l Γ (cc, own, nL, ret, nm, R) G post σ I k n pc L (.int (zI b) :: .int (zI a) :: st) := by
  obtain ⟨p, e, s, m, args, below, meth, c, Q⟩ := Γ
  intro hC hK hr H locs ls hR hlo hL
  obtain ⟨hx, hb, hml, hown, hnm⟩ := id hC
  refine lv_iadd hx hb d ?_
  rw [zI_add]
  exact kk hC hK hr H locs ls hR hlo hL
theorem sj_isub {a b : Int} (d : decode cc pc = .ok (.isub, 1)) (kk : sj_V l Γ (cc, own, nL, ret, nm, R) G post σ I k n (pc + 1) L (.int (zI (a - b)) :: st)) : sj_V l Γ (cc, own, nL, ret, nm, R) G post σ I k n pc L (.int (zI b) :: .int (zI a) :: st) := by
  obtain ⟨p, e, s, m, args, below, meth, c, Q⟩ := Γ
  intro hC hK hr H locs ls hR hlo hL
  obtain ⟨hx, hb, hml, hown, hnm⟩ := id hC
  refine lv_isub hx hb d ?_
  rw [zI_sub]
  exact kk hC hK hr H locs ls hR hlo hL
theorem sj_imul {a b : Int} (d : decode cc pc = .ok (.imul, 1)) (kk : sj_V l Γ (cc, own, nL, ret, nm, R) G post σ I k n (pc + 1) L (.int (zI (a * b)) :: st)) : sj_V l Γ (cc, own, nL, ret, nm, R) G post σ I k n pc L (.int (zI b) :: .int (zI a) :: st) := by
  obtain ⟨p, e, s, m, args, below, meth, c, Q⟩ := Γ
  intro hC hK hr H locs ls hR hlo hL
  obtain ⟨hx, hb, hml, hown, hnm⟩ := id hC
  refine lv_imul hx hb d ?_
  rw [zI_mul]
  exact kk hC hK hr H locs ls hR hlo hL
theorem sj_nz {b : Int} (hb : 0 < b ∧ b < 2147483648) : zI b ≠ 0 := by
  intro h
  rw [zI_0, zI_eq (by omega) (by omega)] at h
  omega
theorem sj_irem {a b : Int} (d : decode cc pc = .ok (.irem, 1)) (ha : 0 ≤ a ∧ a < 2147483648) (hb2 : 0 < b ∧ b < 2147483648) (kk : sj_V l Γ (cc, own, nL, ret, nm, R) G post σ I k n (pc + 1) L (.int (zI (a % b)) :: st)) : sj_V l Γ (cc, own, nL, ret, nm, R) G post σ I k n pc L (.int (zI b) :: .int (zI a) :: st) := by
  obtain ⟨p, e, s, m, args, below, meth, c, Q⟩ := Γ
  intro hC hK hr H locs ls hR hlo hL
  obtain ⟨hx, hb, hml, hown, hnm⟩ := id hC
  refine lv_irem hx hb d (sj_nz hb2) ?_
  rw [zI_div ha hb2, zI_mul, zI_sub, show a - a / b * b = a % b by rw [Int.emod_def, Int.mul_comm]]
  exact kk hC hK hr H locs ls hR hlo hL
theorem sj_idiv {a b : Int} (d : decode cc pc = .ok (.idiv, 1)) (ha : 0 ≤ a ∧ a < 2147483648) (hb2 : 0 < b ∧ b < 2147483648) (kk : sj_V l Γ (cc, own, nL, ret, nm, R) G post σ I k n (pc + 1) L (.int (zI (a / b)) :: st)) : sj_V l Γ (cc, own, nL, ret, nm, R) G post σ I k n pc L (.int (zI b) :: .int (zI a) :: st) := by
  obtain ⟨p, e, s, m, args, below, meth, c, Q⟩ := Γ
  intro hC hK hr H locs ls hR hlo hL
  obtain ⟨hx, hb, hml, hown, hnm⟩ := id hC
  refine lv_idiv hx hb d (sj_nz hb2) ?_
  rw [zI_div ha hb2]
  exact kk hC hK hr H locs ls hR hlo hL
theorem sj_iand {a b x : Int} (d : decode cc pc = .ok (.iand, 1)) (h : zI a &&& zI b = zI x) (kk : sj_V l Γ (cc, own, nL, ret, nm, R) G post σ I k n (pc + 1) L (.int (zI x) :: st)) : sj_V l Γ (cc, own, nL, ret, nm, R) G post σ I k n pc L (.int (zI b) :: .int (zI a) :: st) := by
  obtain ⟨p, e, s, m, args, below, meth, c, Q⟩ := Γ
  intro hC hK hr H locs ls hR hlo hL
  obtain ⟨hx, hb, hml, hown, hnm⟩ := id hC
  refine lv_iand hx hb d ?_
  rw [h]
  exact kk hC hK hr H locs ls hR hlo hL
theorem sj_ior {a b x : Int} (d : decode cc pc = .ok (.ior, 1)) (h : zI a ||| zI b = zI x) (kk : sj_V l Γ (cc, own, nL, ret, nm, R) G post σ I k n (pc + 1) L (.int (zI x) :: st)) : sj_V l Γ (cc, own, nL, ret, nm, R) G post σ I k n pc L (.int (zI b) :: .int (zI a) :: st) := by
  obtain ⟨p, e, s, m, args, below, meth, c, Q⟩ := Γ
  intro hC hK hr H locs ls hR hlo hL
  obtain ⟨hx, hb, hml, hown, hnm⟩ := id hC
  refine lv_ior hx hb d ?_
  rw [h]
  exact kk hC hK hr H locs ls hR hlo hL
theorem sj_icmp_eq {a b : Int} {off : Int} (tgt : Nat) (d : decode cc pc = .ok (.if_icmp .eq off, 3)) (ht : (pc : Int) + off = (tgt : Int)) (ha : -2147483648 ≤ a ∧ a < 2147483648) (hb2 : -2147483648 ≤ b ∧ b < 2147483648) (kt : a = b → sj_V l Γ (cc, own, nL, ret, nm, R) G post σ I k n tgt L st) (kf : ¬ (a = b) → sj_V l Γ (cc, own, nL, ret, nm, R) G post σ I k n (pc + 3) L st) : sj_V l Γ (cc, own, nL, ret, nm, R) G post σ I k n pc L (.int (zI b) :: .int (zI a) :: st) := by
  obtain ⟨p, e, s, m, args, below, meth, c, Q⟩ := Γ
  intro hC hK hr H locs ls hR hlo hL
  obtain ⟨hx, hb, hml, hown, hnm⟩ := id hC
  exact lv_icmp_eq hx hb d ht (fun h => kt ((zI_eq ha hb2).mp h) hC hK hr H locs ls hR hlo hL) (fun h => kf (fun q => h ((zI_eq ha hb2).mpr q)) hC hK hr H locs ls hR hlo hL)
theorem sj_if_eq {a : Int} {off : Int} (tgt : Nat) (d : decode cc pc = .ok (.ifCond .eq off, 3)) (ht : (pc : Int) + off = (tgt : Int)) (ha : -2147483648 ≤ a ∧ a < 2147483648) (kt : a = 0 → sj_V l Γ (cc, own, nL, ret, nm, R) G post σ I k n tgt L st) (kf : ¬ (a = 0) → sj_V l Γ (cc, own, nL, ret, nm, R) G post σ I k n (pc + 3) L st) : sj_V l Γ (cc, own, nL, ret, nm, R) G post σ I k n pc L (.int (zI a) :: st) := by
  obtain ⟨p, e, s, m, args, below, meth, c, Q⟩ := Γ
  intro hC hK hr H locs ls hR hlo hL
  obtain ⟨hx, hb, hml, hown, hnm⟩ := id hC
  exact lv_if_eq hx hb d ht (fun h => kt ((zI_eq ha (by omega)).mp h) hC hK hr H locs ls hR hlo hL) (fun h => kf (fun q => h ((zI_eq ha (by omega)).mpr q)) hC hK hr H locs ls hR hlo hL)
theorem sj_icmp_ne {a b : Int} {off : Int} (tgt : Nat) (d : decode cc pc = .ok (.if_icmp .ne off, 3)) (ht : (pc : Int) + off = (tgt : Int)) (ha : -2147483648 ≤ a ∧ a < 2147483648) (hb2 : -2147483648 ≤ b ∧ b < 2147483648) (kt : ¬ a = b → sj_V l Γ (cc, own, nL, ret, nm, R) G post σ I k n tgt L st) (kf : ¬ (¬ a = b) → sj_V l Γ (cc, own, nL, ret, nm, R) G post σ I k n (pc + 3) L st) : sj_V l Γ (cc, own, nL, ret, nm, R) G post σ I k n pc L (.int (zI b) :: .int (zI a) :: st) := by
  obtain ⟨p, e, s, m, args, below, meth, c, Q⟩ := Γ
  intro hC hK hr H locs ls hR hlo hL
  obtain ⟨hx, hb, hml, hown, hnm⟩ := id hC
  exact lv_icmp_ne hx hb d ht (fun h => kt (fun q => h ((zI_eq ha hb2).mpr q)) hC hK hr H locs ls hR hlo hL) (fun h => kf (fun q => q ((zI_eq ha hb2).mp h)) hC hK hr H locs ls hR hlo hL)
theorem sj_if_ne {a : Int} {off : Int} (tgt : Nat) (d : decode cc pc = .ok (.ifCond .ne off, 3)) (ht : (pc : Int) + off = (tgt : Int)) (ha : -2147483648 ≤ a ∧ a < 2147483648) (kt : ¬ a = 0 → sj_V l Γ (cc, own, nL, ret, nm, R) G post σ I k n tgt L st) (kf : ¬ (¬ a = 0) → sj_V l Γ (cc, own, nL, ret, nm, R) G post σ I k n (pc + 3) L st) : sj_V l Γ (cc, own, nL, ret, nm, R) G post σ I k n pc L (.int (zI a) :: st) := by
  obtain ⟨p, e, s, m, args, below, meth, c, Q⟩ := Γ
  intro hC hK hr H locs ls hR hlo hL
  obtain ⟨hx, hb, hml, hown, hnm⟩ := id hC
  exact lv_if_ne hx hb d ht (fun h => kt (fun q => h ((zI_eq ha (by omega)).mpr q)) hC hK hr H locs ls hR hlo hL) (fun h => kf (fun q => q ((zI_eq ha (by omega)).mp h)) hC hK hr H locs ls hR hlo hL)
theorem sj_icmp_lt {a b : Int} {off : Int} (tgt : Nat) (d : decode cc pc = .ok (.if_icmp .lt off, 3)) (ht : (pc : Int) + off = (tgt : Int)) (ha : -2147483648 ≤ a ∧ a < 2147483648) (hb2 : -2147483648 ≤ b ∧ b < 2147483648) (kt : a < b → sj_V l Γ (cc, own, nL, ret, nm, R) G post σ I k n tgt L st) (kf : ¬ (a < b) → sj_V l Γ (cc, own, nL, ret, nm, R) G post σ I k n (pc + 3) L st) : sj_V l Γ (cc, own, nL, ret, nm, R) G post σ I k n pc L (.int (zI b) :: .int (zI a) :: st) := by
  obtain ⟨p, e, s, m, args, below, meth, c, Q⟩ := Γ
  intro hC hK hr H locs ls hR hlo hL
  obtain ⟨hx, hb, hml, hown, hnm⟩ := id hC
  exact lv_icmp_lt hx hb d ht (fun h => kt ((zI_lt ha hb2).mp h) hC hK hr H locs ls hR hlo hL) (fun h => kf (fun q => h ((zI_lt ha hb2).mpr q)) hC hK hr H locs ls hR hlo hL)
theorem sj_if_lt {a : Int} {off : Int} (tgt : Nat) (d : decode cc pc = .ok (.ifCond .lt off, 3)) (ht : (pc : Int) + off = (tgt : Int)) (ha : -2147483648 ≤ a ∧ a < 2147483648) (kt : a < 0 → sj_V l Γ (cc, own, nL, ret, nm, R) G post σ I k n tgt L st) (kf : ¬ (a < 0) → sj_V l Γ (cc, own, nL, ret, nm, R) G post σ I k n (pc + 3) L st) : sj_V l Γ (cc, own, nL, ret, nm, R) G post σ I k n pc L (.int (zI a) :: st) := by
  obtain ⟨p, e, s, m, args, below, meth, c, Q⟩ := Γ
  intro hC hK hr H locs ls hR hlo hL
  obtain ⟨hx, hb, hml, hown, hnm⟩ := id hC
  exact lv_if_lt hx hb d ht (fun h => kt ((zI_lt ha (by omega)).mp h) hC hK hr H locs ls hR hlo hL) (fun h => kf (fun q => h ((zI_lt ha (by omega)).mpr q)) hC hK hr H locs ls hR hlo hL)
theorem sj_icmp_ge {a b : Int} {off : Int} (tgt : Nat) (d : decode cc pc = .ok (.if_icmp .ge off, 3)) (ht : (pc : Int) + off = (tgt : Int)) (ha : -2147483648 ≤ a ∧ a < 2147483648) (hb2 : -2147483648 ≤ b ∧ b < 2147483648) (kt : b ≤ a → sj_V l Γ (cc, own, nL, ret, nm, R) G post σ I k n tgt L st) (kf : ¬ (b ≤ a) → sj_V l Γ (cc, own, nL, ret, nm, R) G post σ I k n (pc + 3) L st) : sj_V l Γ (cc, own, nL, ret, nm, R) G post σ I k n pc L (.int (zI b) :: .int (zI a) :: st) := by
  obtain ⟨p, e, s, m, args, below, meth, c, Q⟩ := Γ
  intro hC hK hr H locs ls hR hlo hL
  obtain ⟨hx, hb, hml, hown, hnm⟩ := id hC
  exact lv_icmp_ge hx hb d ht (fun h => kt ((zI_le hb2 ha).mp h) hC hK hr H locs ls hR hlo hL) (fun h => kf (fun q => h ((zI_le hb2 ha).mpr q)) hC hK hr H locs ls hR hlo hL)
theorem sj_if_ge {a : Int} {off : Int} (tgt : Nat) (d : decode cc pc = .ok (.ifCond .ge off, 3)) (ht : (pc : Int) + off = (tgt : Int)) (ha : -2147483648 ≤ a ∧ a < 2147483648) (kt : 0 ≤ a → sj_V l Γ (cc, own, nL, ret, nm, R) G post σ I k n tgt L st) (kf : ¬ (0 ≤ a) → sj_V l Γ (cc, own, nL, ret, nm, R) G post σ I k n (pc + 3) L st) : sj_V l Γ (cc, own, nL, ret, nm, R) G post σ I k n pc L (.int (zI a) :: st) := by
  obtain ⟨p, e, s, m, args, below, meth, c, Q⟩ := Γ
  intro hC hK hr H locs ls hR hlo hL
  obtain ⟨hx, hb, hml, hown, hnm⟩ := id hC
  exact lv_if_ge hx hb d ht (fun h => kt ((zI_le (by omega) ha).mp h) hC hK hr H locs ls hR hlo hL) (fun h => kf (fun q => h ((zI_le (by omega) ha).mpr q)) hC hK hr H locs ls hR hlo hL)
theorem sj_icmp_gt {a b : Int} {off : Int} (tgt : Nat) (d : decode cc pc = .ok (.if_icmp .gt off, 3)) (ht : (pc : Int) + off = (tgt : Int)) (ha : -2147483648 ≤ a ∧ a < 2147483648) (hb2 : -2147483648 ≤ b ∧ b < 2147483648) (kt : b < a → sj_V l Γ (cc, own, nL, ret, nm, R) G post σ I k n tgt L st) (kf : ¬ (b < a) → sj_V l Γ (cc, own, nL, ret, nm, R) G post σ I k n (pc + 3) L st) : sj_V l Γ (cc, own, nL, ret, nm, R) G post σ I k n pc L (.int (zI b) :: .int (zI a) :: st) := by
  obtain ⟨p, e, s, m, args, below, meth, c, Q⟩ := Γ
  intro hC hK hr H locs ls hR hlo hL
  obtain ⟨hx, hb, hml, hown, hnm⟩ := id hC
  exact lv_icmp_gt hx hb d ht (fun h => kt ((zI_lt hb2 ha).mp h) hC hK hr H locs ls hR hlo hL) (fun h => kf (fun q => h ((zI_lt hb2 ha).mpr q)) hC hK hr H locs ls hR hlo hL)
theorem sj_if_gt {a : Int} {off : Int} (tgt : Nat) (d : decode cc pc = .ok (.ifCond .gt off, 3)) (ht : (pc : Int) + off = (tgt : Int)) (ha : -2147483648 ≤ a ∧ a < 2147483648) (kt : 0 < a → sj_V l Γ (cc, own, nL, ret, nm, R) G post σ I k n tgt L st) (kf : ¬ (0 < a) → sj_V l Γ (cc, own, nL, ret, nm, R) G post σ I k n (pc + 3) L st) : sj_V l Γ (cc, own, nL, ret, nm, R) G post σ I k n pc L (.int (zI a) :: st) := by
  obtain ⟨p, e, s, m, args, below, meth, c, Q⟩ := Γ
  intro hC hK hr H locs ls hR hlo hL
  obtain ⟨hx, hb, hml, hown, hnm⟩ := id hC
  exact lv_if_gt hx hb d ht (fun h => kt ((zI_lt (by omega) ha).mp h) hC hK hr H locs ls hR hlo hL) (fun h => kf (fun q => h ((zI_lt (by omega) ha).mpr q)) hC hK hr H locs ls hR hlo hL)
theorem sj_icmp_le {a b : Int} {off : Int} (tgt : Nat) (d : decode cc pc = .ok (.if_icmp .le off, 3)) (ht : (pc : Int) + off = (tgt : Int)) (ha : -2147483648 ≤ a ∧ a < 2147483648) (hb2 : -2147483648 ≤ b ∧ b < 2147483648) (kt : a ≤ b → sj_V l Γ (cc, own, nL, ret, nm, R) G post σ I k n tgt L st) (kf : ¬ (a ≤ b) → sj_V l Γ (cc, own, nL, ret, nm, R) G post σ I k n (pc + 3) L st) : sj_V l Γ (cc, own, nL, ret, nm, R) G post σ I k n pc L (.int (zI b) :: .int (zI a) :: st) := by
  obtain ⟨p, e, s, m, args, below, meth, c, Q⟩ := Γ
  intro hC hK hr H locs ls hR hlo hL
  obtain ⟨hx, hb, hml, hown, hnm⟩ := id hC
  exact lv_icmp_le hx hb d ht (fun h => kt ((zI_le ha hb2).mp h) hC hK hr H locs ls hR hlo hL) (fun h => kf (fun q => h ((zI_le ha hb2).mpr q)) hC hK hr H locs ls hR hlo hL)
theorem sj_if_le {a : Int} {off : Int} (tgt : Nat) (d : decode cc pc = .ok (.ifCond .le off, 3)) (ht : (pc : Int) + off = (tgt : Int)) (ha : -2147483648 ≤ a ∧ a < 2147483648) (kt : a ≤ 0 → sj_V l Γ (cc, own, nL, ret, nm, R) G post σ I k n tgt L st) (kf : ¬ (a ≤ 0) → sj_V l Γ (cc, own, nL, ret, nm, R) G post σ I k n (pc + 3) L st) : sj_V l Γ (cc, own, nL, ret, nm, R) G post σ I k n pc L (.int (zI a) :: st) := by
  obtain ⟨p, e, s, m, args, below, meth, c, Q⟩ := Γ
  intro hC hK hr H locs ls hR hlo hL
  obtain ⟨hx, hb, hml, hown, hnm⟩ := id hC
  exact lv_if_le hx hb d ht (fun h => kt ((zI_le ha (by omega)).mp h) hC hK hr H locs ls hR hlo hL) (fun h => kf (fun q => h ((zI_le ha (by omega)).mpr q)) hC hK hr H locs ls hR hlo hL)
theorem sj_goto {off : Int} (tgt : Nat) (d : decode cc pc = .ok (.goto off, 3)) (ht : (pc : Int) + off = (tgt : Int)) (kk : sj_V l Γ (cc, own, nL, ret, nm, R) G post σ I k n tgt L st) : sj_V l Γ (cc, own, nL, ret, nm, R) G post σ I k n pc L st := by
  obtain ⟨p, e, s, m, args, below, meth, c, Q⟩ := Γ
  intro hC hK hr H locs ls hR hlo hL
  obtain ⟨hx, hb, hml, hown, hnm⟩ := id hC
  exact lv_goto hx hb d ht (kk hC hK hr H locs ls hR hlo hL)
theorem sj_ifnull {x : Nat} {off : Int} (d : decode cc pc = .ok (.ifnull off, 3)) (kk : sj_V l Γ (cc, own, nL, ret, nm, R) G post σ I k n (pc + 3) L st) : sj_V l Γ (cc, own, nL, ret, nm, R) G post σ I k n pc L (.ref x :: st) := by
  obtain ⟨p, e, s, m, args, below, meth, c, Q⟩ := Γ
  intro hC hK hr H locs ls hR hlo hL
  obtain ⟨hx, hb, hml, hown, hnm⟩ := id hC
  exact lv_ifnull hx hb d (kk hC hK hr H locs ls hR hlo hL)
theorem sj_ifnullN {off : Int} (tgt : Nat) (d : decode cc pc = .ok (.ifnull off, 3)) (ht : (pc : Int) + off = (tgt : Int)) (kk : sj_V l Γ (cc, own, nL, ret, nm, R) G post σ I k n tgt L st) : sj_V l Γ (cc, own, nL, ret, nm, R) G post σ I k n pc L (.null :: st) := by
  obtain ⟨p, e, s, m, args, below, meth, c, Q⟩ := Γ
  intro hC hK hr H locs ls hR hlo hL
  obtain ⟨hx, hb, hml, hown, hnm⟩ := id hC
  exact lv_ifnullN hx hb d ht (kk hC hK hr H locs ls hR hlo hL)
theorem sj_ifnonnull {x : Nat} {off : Int} (tgt : Nat) (d : decode cc pc = .ok (.ifnonnull off, 3)) (ht : (pc : Int) + off = (tgt : Int)) (kk : sj_V l Γ (cc, own, nL, ret, nm, R) G post σ I k n tgt L st) : sj_V l Γ (cc, own, nL, ret, nm, R) G post σ I k n pc L (.ref x :: st) := by
  obtain ⟨p, e, s, m, args, below, meth, c, Q⟩ := Γ
  intro hC hK hr H locs ls hR hlo hL
  obtain ⟨hx, hb, hml, hown, hnm⟩ := id hC
  exact lv_ifnonnull hx hb d ht (kk hC hK hr H locs ls hR hlo hL)
theorem sj_ifnonnullN {off : Int} (d : decode cc pc = .ok (.ifnonnull off, 3)) (kk : sj_V l Γ (cc, own, nL, ret, nm, R) G post σ I k n (pc + 3) L st) : sj_V l Γ (cc, own, nL, ret, nm, R) G post σ I k n pc L (.null :: st) := by
  obtain ⟨p, e, s, m, args, below, meth, c, Q⟩ := Γ
  intro hC hK hr H locs ls hR hlo hL
  obtain ⟨hx, hb, hml, hown, hnm⟩ := id hC
  exact lv_ifnonnullN hx hb d (kk hC hK hr H locs ls hR hlo hL)
theorem sj_dup {v : Value} (d : decode cc pc = .ok (.dup, 1)) (hv : v.category = 1) (kk : sj_V l Γ (cc, own, nL, ret, nm, R) G post σ I k n (pc + 1) L (v :: v :: st)) : sj_V l Γ (cc, own, nL, ret, nm, R) G post σ I k n pc L (v :: st) := by
  obtain ⟨p, e, s, m, args, below, meth, c, Q⟩ := Γ
  intro hC hK hr H locs ls hR hlo hL
  obtain ⟨hx, hb, hml, hown, hnm⟩ := id hC
  exact lv_dup hx hb d hv (kk hC hK hr H locs ls hR hlo hL)
theorem sj_pop {v : Value} (d : decode cc pc = .ok (.pop, 1)) (hv : v.category = 1) (kk : sj_V l Γ (cc, own, nL, ret, nm, R) G post σ I k n (pc + 1) L st) : sj_V l Γ (cc, own, nL, ret, nm, R) G post σ I k n pc L (v :: st) := by
  obtain ⟨p, e, s, m, args, below, meth, c, Q⟩ := Γ
  intro hC hK hr H locs ls hR hlo hL
  obtain ⟨hx, hb, hml, hown, hnm⟩ := id hC
  exact lv_pop hx hb d hv (kk hC hK hr H locs ls hR hlo hL)
theorem sj_ild0 {tl : List (Option Value)} {v : Int32} (d : decode cc pc = .ok (.iload_n 0, 1)) (kk : sj_V l Γ (cc, own, nL, ret, nm, R) G post σ I k n (pc + 1) (some (.int v) :: tl) (.int v :: st)) : sj_V l Γ (cc, own, nL, ret, nm, R) G post σ I k n pc (some (.int v) :: tl) st := by
  obtain ⟨p, e, s, m, args, below, meth, c, Q⟩ := Γ
  intro hC hK hr H locs ls hR hlo hL
  obtain ⟨hx, hb, hml, hown, hnm⟩ := id hC
  exact lv_iload_n hx hb d rfl (hL.2.2 0 _ rfl) (kk hC hK hr H locs ls hR hlo hL)
theorem sj_ald0 {tl : List (Option Value)} {v : Nat} (d : decode cc pc = .ok (.aload_n 0, 1)) (kk : sj_V l Γ (cc, own, nL, ret, nm, R) G post σ I k n (pc + 1) (some (.ref v) :: tl) (.ref v :: st)) : sj_V l Γ (cc, own, nL, ret, nm, R) G post σ I k n pc (some (.ref v) :: tl) st := by
  obtain ⟨p, e, s, m, args, below, meth, c, Q⟩ := Γ
  intro hC hK hr H locs ls hR hlo hL
  obtain ⟨hx, hb, hml, hown, hnm⟩ := id hC
  exact lv_aload_n hx hb d rfl (hL.2.2 0 _ rfl) (kk hC hK hr H locs ls hR hlo hL)
theorem sj_aldN0 {tl : List (Option Value)}  (d : decode cc pc = .ok (.aload_n 0, 1)) (kk : sj_V l Γ (cc, own, nL, ret, nm, R) G post σ I k n (pc + 1) (some (.null) :: tl) (.null :: st)) : sj_V l Γ (cc, own, nL, ret, nm, R) G post σ I k n pc (some (.null) :: tl) st := by
  obtain ⟨p, e, s, m, args, below, meth, c, Q⟩ := Γ
  intro hC hK hr H locs ls hR hlo hL
  obtain ⟨hx, hb, hml, hown, hnm⟩ := id hC
  exact lv_aload_nN hx hb d rfl (hL.2.2 0 _ rfl) (kk hC hK hr H locs ls hR hlo hL)
theorem sj_ist0 {x : Option Value} {tl : List (Option Value)} {v : Int32} (hi : 0 < nL) (d : decode cc pc = .ok (.istore_n 0, 1)) (kk : sj_V l Γ (cc, own, nL, ret, nm, R) G post σ I k n (pc + 1) (some (.int v) :: tl) st) : sj_V l Γ (cc, own, nL, ret, nm, R) G post σ I k n pc (x :: tl) (.int v :: st) := by
  obtain ⟨p, e, s, m, args, below, meth, c, Q⟩ := Γ
  intro hC hK hr H locs ls hR hlo hL
  obtain ⟨hx, hb, hml, hown, hnm⟩ := id hC
  exact lv_istore_n hx hb d rfl hL.has hi rfl (fun ls' hl' => kk hC hK hr H locs ls' hR hlo (sj_L.stored (L := x :: tl) (fun w h0 _ => absurd h0 (by decide)) hl'))
theorem sj_ast0 {x : Option Value} {tl : List (Option Value)} {v : Nat} (hi : 0 < nL) (d : decode cc pc = .ok (.astore_n 0, 1)) (kk : sj_V l Γ (cc, own, nL, ret, nm, R) G post σ I k n (pc + 1) (some (.ref v) :: tl) st) : sj_V l Γ (cc, own, nL, ret, nm, R) G post σ I k n pc (x :: tl) (.ref v :: st) := by
  obtain ⟨p, e, s, m, args, below, meth, c, Q⟩ := Γ
  intro hC hK hr H locs ls hR hlo hL
  obtain ⟨hx, hb, hml, hown, hnm⟩ := id hC
  exact lv_astore_n hx hb d rfl hL.has hi rfl (fun ls' hl' => kk hC hK hr H locs ls' hR hlo (sj_L.stored (L := x :: tl) (fun w h0 _ => absurd h0 (by decide)) hl'))
theorem sj_astN0 {x : Option Value} {tl : List (Option Value)}  (hi : 0 < nL) (d : decode cc pc = .ok (.astore_n 0, 1)) (kk : sj_V l Γ (cc, own, nL, ret, nm, R) G post σ I k n (pc + 1) (some (.null) :: tl) st) : sj_V l Γ (cc, own, nL, ret, nm, R) G post σ I k n pc (x :: tl) (.null :: st) := by
  obtain ⟨p, e, s, m, args, below, meth, c, Q⟩ := Γ
  intro hC hK hr H locs ls hR hlo hL
  obtain ⟨hx, hb, hml, hown, hnm⟩ := id hC
  exact lv_astore_nN hx hb d rfl hL.has hi rfl (fun ls' hl' => kk hC hK hr H locs ls' hR hlo (sj_L.stored (L := x :: tl) (fun w h0 _ => absurd h0 (by decide)) hl'))
theorem sj_inc0 {tl : List (Option Value)} {a z : Int} (hi : 0 < nL) (d : decode cc pc = .ok (.iinc 0 z, 3)) (kk : sj_V l Γ (cc, own, nL, ret, nm, R) G post σ I k n (pc + 3) (some (.int (zI (a + z))) :: tl) st) : sj_V l Γ (cc, own, nL, ret, nm, R) G post σ I k n pc (some (.int (zI a)) :: tl) st := by
  obtain ⟨p, e, s, m, args, below, meth, c, Q⟩ := Γ
  intro hC hK hr H locs ls hR hlo hL
  obtain ⟨hx, hb, hml, hown, hnm⟩ := id hC
  obtain ⟨j, hj⟩ := List.getElem?_of_mem (sj_al_mem (L := some (.int (zI a)) :: tl) (i := 0) (v := .int (zI a)) |>.mpr rfl)
  exact lv_iinc (v := zI (a + z)) hx hb d hL.has hj (by rw [← zI_add]; rfl) hi rfl (fun ls' hl' => kk hC hK hr H locs ls' hR hlo (sj_L.stored (L := some (.int (zI a)) :: tl) (fun w h0 _ => absurd h0 (by decide)) hl'))
theorem sj_ild1 {a0 : Option Value} {tl : List (Option Value)} {v : Int32} (d : decode cc pc = .ok (.iload_n 1, 1)) (kk : sj_V l Γ (cc, own, nL, ret, nm, R) G post σ I k n (pc + 1) (a0 :: some (.int v) :: tl) (.int v :: st)) : sj_V l Γ (cc, own, nL, ret, nm, R) G post σ I k n pc (a0 :: some (.int v) :: tl) st := by
  obtain ⟨p, e, s, m, args, below, meth, c, Q⟩ := Γ
  intro hC hK hr H locs ls hR hlo hL
  obtain ⟨hx, hb, hml, hown, hnm⟩ := id hC
  exact lv_iload_n hx hb d rfl (hL.2.2 1 _ rfl) (kk hC hK hr H locs ls hR hlo hL)
theorem sj_ald1 {a0 : Option Value} {tl : List (Option Value)} {v : Nat} (d : decode cc pc = .ok (.aload_n 1, 1)) (kk : sj_V l Γ (cc, own, nL, ret, nm, R) G post σ I k n (pc + 1) (a0 :: some (.ref v) :: tl) (.ref v :: st)) : sj_V l Γ (cc, own, nL, ret, nm, R) G post σ I k n pc (a0 :: some (.ref v) :: tl) st := by
  obtain ⟨p, e, s, m, args, below, meth, c, Q⟩ := Γ
  intro hC hK hr H locs ls hR hlo hL
  obtain ⟨hx, hb, hml, hown, hnm⟩ := id hC
  exact lv_aload_n hx hb d rfl (hL.2.2 1 _ rfl) (kk hC hK hr H locs ls hR hlo hL)
theorem sj_aldN1 {a0 : Option Value} {tl : List (Option Value)}  (d : decode cc pc = .ok (.aload_n 1, 1)) (kk : sj_V l Γ (cc, own, nL, ret, nm, R) G post σ I k n (pc + 1) (a0 :: some (.null) :: tl) (.null :: st)) : sj_V l Γ (cc, own, nL, ret, nm, R) G post σ I k n pc (a0 :: some (.null) :: tl) st := by
  obtain ⟨p, e, s, m, args, below, meth, c, Q⟩ := Γ
  intro hC hK hr H locs ls hR hlo hL
  obtain ⟨hx, hb, hml, hown, hnm⟩ := id hC
  exact lv_aload_nN hx hb d rfl (hL.2.2 1 _ rfl) (kk hC hK hr H locs ls hR hlo hL)
theorem sj_ist1 {a0 : Option Value} {x : Option Value} {tl : List (Option Value)} {v : Int32} (hi : 1 < nL) (hc : sj_c1 a0 = true) (d : decode cc pc = .ok (.istore_n 1, 1)) (kk : sj_V l Γ (cc, own, nL, ret, nm, R) G post σ I k n (pc + 1) (a0 :: some (.int v) :: tl) st) : sj_V l Γ (cc, own, nL, ret, nm, R) G post σ I k n pc (a0 :: x :: tl) (.int v :: st) := by
  obtain ⟨p, e, s, m, args, below, meth, c, Q⟩ := Γ
  intro hC hK hr H locs ls hR hlo hL
  obtain ⟨hx, hb, hml, hown, hnm⟩ := id hC
  exact lv_istore_n hx hb d rfl hL.has hi rfl (fun ls' hl' => kk hC hK hr H locs ls' hR hlo (sj_L.stored (L := a0 :: x :: tl) (fun w _ h2 => sj_c1_ok hc (Option.some.inj h2)) hl'))
theorem sj_ast1 {a0 : Option Value} {x : Option Value} {tl : List (Option Value)} {v : Nat} (hi : 1 < nL) (hc : sj_c1 a0 = true) (d : decode cc pc = .ok (.astore_n 1, 1)) (kk : sj_V l Γ (cc, own, nL, ret, nm, R) G post σ I k n (pc + 1) (a0 :: some (.ref v) :: tl) st) : sj_V l Γ (cc, own, nL, ret, nm, R) G post σ I k n pc (a0 :: x :: tl) (.ref v :: st) := by
  obtain ⟨p, e, s, m, args, below, meth, c, Q⟩ := Γ
  intro hC hK hr H locs ls hR hlo hL
  obtain ⟨hx, hb, hml, hown, hnm⟩ := id hC
  exact lv_astore_n hx hb d rfl hL.has hi rfl (fun ls' hl' => kk hC hK hr H locs ls' hR hlo (sj_L.stored (L := a0 :: x :: tl) (fun w _ h2 => sj_c1_ok hc (Option.some.inj h2)) hl'))
theorem sj_astN1 {a0 : Option Value} {x : Option Value} {tl : List (Option Value)}  (hi : 1 < nL) (hc : sj_c1 a0 = true) (d : decode cc pc = .ok (.astore_n 1, 1)) (kk : sj_V l Γ (cc, own, nL, ret, nm, R) G post σ I k n (pc + 1) (a0 :: some (.null) :: tl) st) : sj_V l Γ (cc, own, nL, ret, nm, R) G post σ I k n pc (a0 :: x :: tl) (.null :: st) := by
  obtain ⟨p, e, s, m, args, below, meth, c, Q⟩ := Γ
  intro hC hK hr H locs ls hR hlo hL
  obtain ⟨hx, hb, hml, hown, hnm⟩ := id hC
  exact lv_astore_nN hx hb d rfl hL.has hi rfl (fun ls' hl' => kk hC hK hr H locs ls' hR hlo (sj_L.stored (L := a0 :: x :: tl) (fun w _ h2 => sj_c1_ok hc (Option.some.inj h2)) hl'))
theorem sj_inc1 {a0 : Option Value} {tl : List (Option Value)} {a z : Int} (hi : 1 < nL) (hc : sj_c1 a0 = true) (d : decode cc pc = .ok (.iinc 1 z, 3)) (kk : sj_V l Γ (cc, own, nL, ret, nm, R) G post σ I k n (pc + 3) (a0 :: some (.int (zI (a + z))) :: tl) st) : sj_V l Γ (cc, own, nL, ret, nm, R) G post σ I k n pc (a0 :: some (.int (zI a)) :: tl) st := by
  obtain ⟨p, e, s, m, args, below, meth, c, Q⟩ := Γ
  intro hC hK hr H locs ls hR hlo hL
  obtain ⟨hx, hb, hml, hown, hnm⟩ := id hC
  obtain ⟨j, hj⟩ := List.getElem?_of_mem (sj_al_mem (L := a0 :: some (.int (zI a)) :: tl) (i := 1) (v := .int (zI a)) |>.mpr rfl)
  exact lv_iinc (v := zI (a + z)) hx hb d hL.has hj (by rw [← zI_add]; rfl) hi rfl (fun ls' hl' => kk hC hK hr H locs ls' hR hlo (sj_L.stored (L := a0 :: some (.int (zI a)) :: tl) (fun w _ h2 => sj_c1_ok hc (Option.some.inj h2)) hl'))
theorem sj_ild2 {a0 a1 : Option Value} {tl : List (Option Value)} {v : Int32} (d : decode cc pc = .ok (.iload_n 2, 1)) (kk : sj_V l Γ (cc, own, nL, ret, nm, R) G post σ I k n (pc + 1) (a0 :: a1 :: some (.int v) :: tl) (.int v :: st)) : sj_V l Γ (cc, own, nL, ret, nm, R) G post σ I k n pc (a0 :: a1 :: some (.int v) :: tl) st := by
  obtain ⟨p, e, s, m, args, below, meth, c, Q⟩ := Γ
  intro hC hK hr H locs ls hR hlo hL
  obtain ⟨hx, hb, hml, hown, hnm⟩ := id hC
  exact lv_iload_n hx hb d rfl (hL.2.2 2 _ rfl) (kk hC hK hr H locs ls hR hlo hL)
theorem sj_ald2 {a0 a1 : Option Value} {tl : List (Option Value)} {v : Nat} (d : decode cc pc = .ok (.aload_n 2, 1)) (kk : sj_V l Γ (cc, own, nL, ret, nm, R) G post σ I k n (pc + 1) (a0 :: a1 :: some (.ref v) :: tl) (.ref v :: st)) : sj_V l Γ (cc, own, nL, ret, nm, R) G post σ I k n pc (a0 :: a1 :: some (.ref v) :: tl) st := by
  obtain ⟨p, e, s, m, args, below, meth, c, Q⟩ := Γ
  intro hC hK hr H locs ls hR hlo hL
  obtain ⟨hx, hb, hml, hown, hnm⟩ := id hC
  exact lv_aload_n hx hb d rfl (hL.2.2 2 _ rfl) (kk hC hK hr H locs ls hR hlo hL)
theorem sj_aldN2 {a0 a1 : Option Value} {tl : List (Option Value)}  (d : decode cc pc = .ok (.aload_n 2, 1)) (kk : sj_V l Γ (cc, own, nL, ret, nm, R) G post σ I k n (pc + 1) (a0 :: a1 :: some (.null) :: tl) (.null :: st)) : sj_V l Γ (cc, own, nL, ret, nm, R) G post σ I k n pc (a0 :: a1 :: some (.null) :: tl) st := by
  obtain ⟨p, e, s, m, args, below, meth, c, Q⟩ := Γ
  intro hC hK hr H locs ls hR hlo hL
  obtain ⟨hx, hb, hml, hown, hnm⟩ := id hC
  exact lv_aload_nN hx hb d rfl (hL.2.2 2 _ rfl) (kk hC hK hr H locs ls hR hlo hL)
theorem sj_ist2 {a0 a1 : Option Value} {x : Option Value} {tl : List (Option Value)} {v : Int32} (hi : 2 < nL) (hc : sj_c1 a1 = true) (d : decode cc pc = .ok (.istore_n 2, 1)) (kk : sj_V l Γ (cc, own, nL, ret, nm, R) G post σ I k n (pc + 1) (a0 :: a1 :: some (.int v) :: tl) st) : sj_V l Γ (cc, own, nL, ret, nm, R) G post σ I k n pc (a0 :: a1 :: x :: tl) (.int v :: st) := by
  obtain ⟨p, e, s, m, args, below, meth, c, Q⟩ := Γ
  intro hC hK hr H locs ls hR hlo hL
  obtain ⟨hx, hb, hml, hown, hnm⟩ := id hC
  exact lv_istore_n hx hb d rfl hL.has hi rfl (fun ls' hl' => kk hC hK hr H locs ls' hR hlo (sj_L.stored (L := a0 :: a1 :: x :: tl) (fun w _ h2 => sj_c1_ok hc (Option.some.inj h2)) hl'))
theorem sj_ast2 {a0 a1 : Option Value} {x : Option Value} {tl : List (Option Value)} {v : Nat} (hi : 2 < nL) (hc : sj_c1 a1 = true) (d : decode cc pc = .ok (.astore_n 2, 1)) (kk : sj_V l Γ (cc, own, nL, ret, nm, R) G post σ I k n (pc + 1) (a0 :: a1 :: some (.ref v) :: tl) st) : sj_V l Γ (cc, own, nL, ret, nm, R) G post σ I k n pc (a0 :: a1 :: x :: tl) (.ref v :: st) := by
  obtain ⟨p, e, s, m, args, below, meth, c, Q⟩ := Γ
  intro hC hK hr H locs ls hR hlo hL
  obtain ⟨hx, hb, hml, hown, hnm⟩ := id hC
  exact lv_astore_n hx hb d rfl hL.has hi rfl (fun ls' hl' => kk hC hK hr H locs ls' hR hlo (sj_L.stored (L := a0 :: a1 :: x :: tl) (fun w _ h2 => sj_c1_ok hc (Option.some.inj h2)) hl'))
theorem sj_astN2 {a0 a1 : Option Value} {x : Option Value} {tl : List (Option Value)}  (hi : 2 < nL) (hc : sj_c1 a1 = true) (d : decode cc pc = .ok (.astore_n 2, 1)) (kk : sj_V l Γ (cc, own, nL, ret, nm, R) G post σ I k n (pc + 1) (a0 :: a1 :: some (.null) :: tl) st) : sj_V l Γ (cc, own, nL, ret, nm, R) G post σ I k n pc (a0 :: a1 :: x :: tl) (.null :: st) := by
  obtain ⟨p, e, s, m, args, below, meth, c, Q⟩ := Γ
  intro hC hK hr H locs ls hR hlo hL
  obtain ⟨hx, hb, hml, hown, hnm⟩ := id hC
  exact lv_astore_nN hx hb d rfl hL.has hi rfl (fun ls' hl' => kk hC hK hr H locs ls' hR hlo (sj_L.stored (L := a0 :: a1 :: x :: tl) (fun w _ h2 => sj_c1_ok hc (Option.some.inj h2)) hl'))
theorem sj_inc2 {a0 a1 : Option Value} {tl : List (Option Value)} {a z : Int} (hi : 2 < nL) (hc : sj_c1 a1 = true) (d : decode cc pc = .ok (.iinc 2 z, 3)) (kk : sj_V l Γ (cc, own, nL, ret, nm, R) G post σ I k n (pc + 3) (a0 :: a1 :: some (.int (zI (a + z))) :: tl) st) : sj_V l Γ (cc, own, nL, ret, nm, R) G post σ I k n pc (a0 :: a1 :: some (.int (zI a)) :: tl) st := by
  obtain ⟨p, e, s, m, args, below, meth, c, Q⟩ := Γ
  intro hC hK hr H locs ls hR hlo hL
  obtain ⟨hx, hb, hml, hown, hnm⟩ := id hC
  obtain ⟨j, hj⟩ := List.getElem?_of_mem (sj_al_mem (L := a0 :: a1 :: some (.int (zI a)) :: tl) (i := 2) (v := .int (zI a)) |>.mpr rfl)
  exact lv_iinc (v := zI (a + z)) hx hb d hL.has hj (by rw [← zI_add]; rfl) hi rfl (fun ls' hl' => kk hC hK hr H locs ls' hR hlo (sj_L.stored (L := a0 :: a1 :: some (.int (zI a)) :: tl) (fun w _ h2 => sj_c1_ok hc (Option.some.inj h2)) hl'))
theorem sj_ild3 {a0 a1 a2 : Option Value} {tl : List (Option Value)} {v : Int32} (d : decode cc pc = .ok (.iload_n 3, 1)) (kk : sj_V l Γ (cc, own, nL, ret, nm, R) G post σ I k n (pc + 1) (a0 :: a1 :: a2 :: some (.int v) :: tl) (.int v :: st)) : sj_V l Γ (cc, own, nL, ret, nm, R) G post σ I k n pc (a0 :: a1 :: a2 :: some (.int v) :: tl) st := by
  obtain ⟨p, e, s, m, args, below, meth, c, Q⟩ := Γ
  intro hC hK hr H locs ls hR hlo hL
  obtain ⟨hx, hb, hml, hown, hnm⟩ := id hC
  exact lv_iload_n hx hb d rfl (hL.2.2 3 _ rfl) (kk hC hK hr H locs ls hR hlo hL)
theorem sj_ald3 {a0 a1 a2 : Option Value} {tl : List (Option Value)} {v : Nat} (d : decode cc pc = .ok (.aload_n 3, 1)) (kk : sj_V l Γ (cc, own, nL, ret, nm, R) G post σ I k n (pc + 1) (a0 :: a1 :: a2 :: some (.ref v) :: tl) (.ref v :: st)) : sj_V l Γ (cc, own, nL, ret, nm, R) G post σ I k n pc (a0 :: a1 :: a2 :: some (.ref v) :: tl) st := by
  obtain ⟨p, e, s, m, args, below, meth, c, Q⟩ := Γ
  intro hC hK hr H locs ls hR hlo hL
  obtain ⟨hx, hb, hml, hown, hnm⟩ := id hC
  exact lv_aload_n hx hb d rfl (hL.2.2 3 _ rfl) (kk hC hK hr H locs ls hR hlo hL)
theorem sj_aldN3 {a0 a1 a2 : Option Value} {tl : List (Option Value)}  (d : decode cc pc = .ok (.aload_n 3, 1)) (kk : sj_V l Γ (cc, own, nL, ret, nm, R) G post σ I k n (pc + 1) (a0 :: a1 :: a2 :: some (.null) :: tl) (.null :: st)) : sj_V l Γ (cc, own, nL, ret, nm, R) G post σ I k n pc (a0 :: a1 :: a2 :: some (.null) :: tl) st := by
  obtain ⟨p, e, s, m, args, below, meth, c, Q⟩ := Γ
  intro hC hK hr H locs ls hR hlo hL
  obtain ⟨hx, hb, hml, hown, hnm⟩ := id hC
  exact lv_aload_nN hx hb d rfl (hL.2.2 3 _ rfl) (kk hC hK hr H locs ls hR hlo hL)
theorem sj_ist3 {a0 a1 a2 : Option Value} {x : Option Value} {tl : List (Option Value)} {v : Int32} (hi : 3 < nL) (hc : sj_c1 a2 = true) (d : decode cc pc = .ok (.istore_n 3, 1)) (kk : sj_V l Γ (cc, own, nL, ret, nm, R) G post σ I k n (pc + 1) (a0 :: a1 :: a2 :: some (.int v) :: tl) st) : sj_V l Γ (cc, own, nL, ret, nm, R) G post σ I k n pc (a0 :: a1 :: a2 :: x :: tl) (.int v :: st) := by
  obtain ⟨p, e, s, m, args, below, meth, c, Q⟩ := Γ
  intro hC hK hr H locs ls hR hlo hL
  obtain ⟨hx, hb, hml, hown, hnm⟩ := id hC
  exact lv_istore_n hx hb d rfl hL.has hi rfl (fun ls' hl' => kk hC hK hr H locs ls' hR hlo (sj_L.stored (L := a0 :: a1 :: a2 :: x :: tl) (fun w _ h2 => sj_c1_ok hc (Option.some.inj h2)) hl'))
theorem sj_ast3 {a0 a1 a2 : Option Value} {x : Option Value} {tl : List (Option Value)} {v : Nat} (hi : 3 < nL) (hc : sj_c1 a2 = true) (d : decode cc pc = .ok (.astore_n 3, 1)) (kk : sj_V l Γ (cc, own, nL, ret, nm, R) G post σ I k n (pc + 1) (a0 :: a1 :: a2 :: some (.ref v) :: tl) st) : sj_V l Γ (cc, own, nL, ret, nm, R) G post σ I k n pc (a0 :: a1 :: a2 :: x :: tl) (.ref v :: st) := by
  obtain ⟨p, e, s, m, args, below, meth, c, Q⟩ := Γ
  intro hC hK hr H locs ls hR hlo hL
  obtain ⟨hx, hb, hml, hown, hnm⟩ := id hC
  exact lv_astore_n hx hb d rfl hL.has hi rfl (fun ls' hl' => kk hC hK hr H locs ls' hR hlo (sj_L.stored (L := a0 :: a1 :: a2 :: x :: tl) (fun w _ h2 => sj_c1_ok hc (Option.some.inj h2)) hl'))
theorem sj_astN3 {a0 a1 a2 : Option Value} {x : Option Value} {tl : List (Option Value)}  (hi : 3 < nL) (hc : sj_c1 a2 = true) (d : decode cc pc = .ok (.astore_n 3, 1)) (kk : sj_V l Γ (cc, own, nL, ret, nm, R) G post σ I k n (pc + 1) (a0 :: a1 :: a2 :: some (.null) :: tl) st) : sj_V l Γ (cc, own, nL, ret, nm, R) G post σ I k n pc (a0 :: a1 :: a2 :: x :: tl) (.null :: st) := by
  obtain ⟨p, e, s, m, args, below, meth, c, Q⟩ := Γ
  intro hC hK hr H locs ls hR hlo hL
  obtain ⟨hx, hb, hml, hown, hnm⟩ := id hC
  exact lv_astore_nN hx hb d rfl hL.has hi rfl (fun ls' hl' => kk hC hK hr H locs ls' hR hlo (sj_L.stored (L := a0 :: a1 :: a2 :: x :: tl) (fun w _ h2 => sj_c1_ok hc (Option.some.inj h2)) hl'))
theorem sj_inc3 {a0 a1 a2 : Option Value} {tl : List (Option Value)} {a z : Int} (hi : 3 < nL) (hc : sj_c1 a2 = true) (d : decode cc pc = .ok (.iinc 3 z, 3)) (kk : sj_V l Γ (cc, own, nL, ret, nm, R) G post σ I k n (pc + 3) (a0 :: a1 :: a2 :: some (.int (zI (a + z))) :: tl) st) : sj_V l Γ (cc, own, nL, ret, nm, R) G post σ I k n pc (a0 :: a1 :: a2 :: some (.int (zI a)) :: tl) st := by
  obtain ⟨p, e, s, m, args, below, meth, c, Q⟩ := Γ
  intro hC hK hr H locs ls hR hlo hL
  obtain ⟨hx, hb, hml, hown, hnm⟩ := id hC
  obtain ⟨j, hj⟩ := List.getElem?_of_mem (sj_al_mem (L := a0 :: a1 :: a2 :: some (.int (zI a)) :: tl) (i := 3) (v := .int (zI a)) |>.mpr rfl)
  exact lv_iinc (v := zI (a + z)) hx hb d hL.has hj (by rw [← zI_add]; rfl) hi rfl (fun ls' hl' => kk hC hK hr H locs ls' hR hlo (sj_L.stored (L := a0 :: a1 :: a2 :: some (.int (zI a)) :: tl) (fun w _ h2 => sj_c1_ok hc (Option.some.inj h2)) hl'))
theorem sj_ild4 {a0 a1 a2 a3 : Option Value} {tl : List (Option Value)} {v : Int32} (d : decode cc pc = .ok (.iload 4, 2)) (kk : sj_V l Γ (cc, own, nL, ret, nm, R) G post σ I k n (pc + 2) (a0 :: a1 :: a2 :: a3 :: some (.int v) :: tl) (.int v :: st)) : sj_V l Γ (cc, own, nL, ret, nm, R) G post σ I k n pc (a0 :: a1 :: a2 :: a3 :: some (.int v) :: tl) st := by
  obtain ⟨p, e, s, m, args, below, meth, c, Q⟩ := Γ
  intro hC hK hr H locs ls hR hlo hL
  obtain ⟨hx, hb, hml, hown, hnm⟩ := id hC
  exact lv_iload hx hb d (hL.2.2 4 _ rfl) (kk hC hK hr H locs ls hR hlo hL)
theorem sj_ald4 {a0 a1 a2 a3 : Option Value} {tl : List (Option Value)} {v : Nat} (d : decode cc pc = .ok (.aload 4, 2)) (kk : sj_V l Γ (cc, own, nL, ret, nm, R) G post σ I k n (pc + 2) (a0 :: a1 :: a2 :: a3 :: some (.ref v) :: tl) (.ref v :: st)) : sj_V l Γ (cc, own, nL, ret, nm, R) G post σ I k n pc (a0 :: a1 :: a2 :: a3 :: some (.ref v) :: tl) st := by
  obtain ⟨p, e, s, m, args, below, meth, c, Q⟩ := Γ
  intro hC hK hr H locs ls hR hlo hL
  obtain ⟨hx, hb, hml, hown, hnm⟩ := id hC
  exact lv_aload hx hb d (hL.2.2 4 _ rfl) (kk hC hK hr H locs ls hR hlo hL)
theorem sj_aldN4 {a0 a1 a2 a3 : Option Value} {tl : List (Option Value)}  (d : decode cc pc = .ok (.aload 4, 2)) (kk : sj_V l Γ (cc, own, nL, ret, nm, R) G post σ I k n (pc + 2) (a0 :: a1 :: a2 :: a3 :: some (.null) :: tl) (.null :: st)) : sj_V l Γ (cc, own, nL, ret, nm, R) G post σ I k n pc (a0 :: a1 :: a2 :: a3 :: some (.null) :: tl) st := by
  obtain ⟨p, e, s, m, args, below, meth, c, Q⟩ := Γ
  intro hC hK hr H locs ls hR hlo hL
  obtain ⟨hx, hb, hml, hown, hnm⟩ := id hC
  exact lv_aloadN hx hb d (hL.2.2 4 _ rfl) (kk hC hK hr H locs ls hR hlo hL)
theorem sj_ist4 {a0 a1 a2 a3 : Option Value} {x : Option Value} {tl : List (Option Value)} {v : Int32} (hi : 4 < nL) (hc : sj_c1 a3 = true) (d : decode cc pc = .ok (.istore 4, 2)) (kk : sj_V l Γ (cc, own, nL, ret, nm, R) G post σ I k n (pc + 2) (a0 :: a1 :: a2 :: a3 :: some (.int v) :: tl) st) : sj_V l Γ (cc, own, nL, ret, nm, R) G post σ I k n pc (a0 :: a1 :: a2 :: a3 :: x :: tl) (.int v :: st) := by
  obtain ⟨p, e, s, m, args, below, meth, c, Q⟩ := Γ
  intro hC hK hr H locs ls hR hlo hL
  obtain ⟨hx, hb, hml, hown, hnm⟩ := id hC
  exact lv_istore hx hb d hL.has hi rfl (fun ls' hl' => kk hC hK hr H locs ls' hR hlo (sj_L.stored (L := a0 :: a1 :: a2 :: a3 :: x :: tl) (fun w _ h2 => sj_c1_ok hc (Option.some.inj h2)) hl'))
theorem sj_ast4 {a0 a1 a2 a3 : Option Value} {x : Option Value} {tl : List (Option Value)} {v : Nat} (hi : 4 < nL) (hc : sj_c1 a3 = true) (d : decode cc pc = .ok (.astore 4, 2)) (kk : sj_V l Γ (cc, own, nL, ret, nm, R) G post σ I k n (pc + 2) (a0 :: a1 :: a2 :: a3 :: some (.ref v) :: tl) st) : sj_V l Γ (cc, own, nL, ret, nm, R) G post σ I k n pc (a0 :: a1 :: a2 :: a3 :: x :: tl) (.ref v :: st) := by
  obtain ⟨p, e, s, m, args, below, meth, c, Q⟩ := Γ
  intro hC hK hr H locs ls hR hlo hL
  obtain ⟨hx, hb, hml, hown, hnm⟩ := id hC
  exact lv_astore hx hb d hL.has hi rfl (fun ls' hl' => kk hC hK hr H locs ls' hR hlo (sj_L.stored (L := a0 :: a1 :: a2 :: a3 :: x :: tl) (fun w _ h2 => sj_c1_ok hc (Option.some.inj h2)) hl'))
theorem sj_astN4 {a0 a1 a2 a3 : Option Value} {x : Option Value} {tl : List (Option Value)}  (hi : 4 < nL) (hc : sj_c1 a3 = true) (d : decode cc pc = .ok (.astore 4, 2)) (kk : sj_V l Γ (cc, own, nL, ret, nm, R) G post σ I k n (pc + 2) (a0 :: a1 :: a2 :: a3 :: some (.null) :: tl) st) : sj_V l Γ (cc, own, nL, ret, nm, R) G post σ I k n pc (a0 :: a1 :: a2 :: a3 :: x :: tl) (.null :: st) := by
  obtain ⟨p, e, s, m, args, below, meth, c, Q⟩ := Γ
  intro hC hK hr H locs ls hR hlo hL
  obtain ⟨hx, hb, hml, hown, hnm⟩ := id hC
  exact lv_astoreN hx hb d hL.has hi rfl (fun ls' hl' => kk hC hK hr H locs ls' hR hlo (sj_L.stored (L := a0 :: a1 :: a2 :: a3 :: x :: tl) (fun w _ h2 => sj_c1_ok hc (Option.some.inj h2)) hl'))
theorem sj_inc4 {a0 a1 a2 a3 : Option Value} {tl : List (Option Value)} {a z : Int} (hi : 4 < nL) (hc : sj_c1 a3 = true) (d : decode cc pc = .ok (.iinc 4 z, 3)) (kk : sj_V l Γ (cc, own, nL, ret, nm, R) G post σ I k n (pc + 3) (a0 :: a1 :: a2 :: a3 :: some (.int (zI (a + z))) :: tl) st) : sj_V l Γ (cc, own, nL, ret, nm, R) G post σ I k n pc (a0 :: a1 :: a2 :: a3 :: some (.int (zI a)) :: tl) st := by
  obtain ⟨p, e, s, m, args, below, meth, c, Q⟩ := Γ
  intro hC hK hr H locs ls hR hlo hL
  obtain ⟨hx, hb, hml, hown, hnm⟩ := id hC
  obtain ⟨j, hj⟩ := List.getElem?_of_mem (sj_al_mem (L := a0 :: a1 :: a2 :: a3 :: some (.int (zI a)) :: tl) (i := 4) (v := .int (zI a)) |>.mpr rfl)
  exact lv_iinc (v := zI (a + z)) hx hb d hL.has hj (by rw [← zI_add]; rfl) hi rfl (fun ls' hl' => kk hC hK hr H locs ls' hR hlo (sj_L.stored (L := a0 :: a1 :: a2 :: a3 :: some (.int (zI a)) :: tl) (fun w _ h2 => sj_c1_ok hc (Option.some.inj h2)) hl'))
theorem sj_ild5 {a0 a1 a2 a3 a4 : Option Value} {tl : List (Option Value)} {v : Int32} (d : decode cc pc = .ok (.iload 5, 2)) (kk : sj_V l Γ (cc, own, nL, ret, nm, R) G post σ I k n (pc + 2) (a0 :: a1 :: a2 :: a3 :: a4 :: some (.int v) :: tl) (.int v :: st)) : sj_V l Γ (cc, own, nL, ret, nm, R) G post σ I k n pc (a0 :: a1 :: a2 :: a3 :: a4 :: some (.int v) :: tl) st := by
  obtain ⟨p, e, s, m, args, below, meth, c, Q⟩ := Γ
  intro hC hK hr H locs ls hR hlo hL
  obtain ⟨hx, hb, hml, hown, hnm⟩ := id hC
  exact lv_iload hx hb d (hL.2.2 5 _ rfl) (kk hC hK hr H locs ls hR hlo hL)
theorem sj_ald5 {a0 a1 a2 a3 a4 : Option Value} {tl : List (Option Value)} {v : Nat} (d : decode cc pc = .ok (.aload 5, 2)) (kk : sj_V l Γ (cc, own, nL, ret, nm, R) G post σ I k n (pc + 2) (a0 :: a1 :: a2 :: a3 :: a4 :: some (.ref v) :: tl) (.ref v :: st)) : sj_V l Γ (cc, own, nL, ret, nm, R) G post σ I k n pc (a0 :: a1 :: a2 :: a3 :: a4 :: some (.ref v) :: tl) st := by
  obtain ⟨p, e, s, m, args, below, meth, c, Q⟩ := Γ
  intro hC hK hr H locs ls hR hlo hL
  obtain ⟨hx, hb, hml, hown, hnm⟩ := id hC
  exact lv_aload hx hb d (hL.2.2 5 _ rfl) (kk hC hK hr H locs ls hR hlo hL)
theorem sj_aldN5 {a0 a1 a2 a3 a4 : Option Value} {tl : List (Option Value)}  (d : decode cc pc = .ok (.aload 5, 2)) (kk : sj_V l Γ (cc, own, nL, ret, nm, R) G post σ I k n (pc + 2) (a0 :: a1 :: a2 :: a3 :: a4 :: some (.null) :: tl) (.null :: st)) : sj_V l Γ (cc, own, nL, ret, nm, R) G post σ I k n pc (a0 :: a1 :: a2 :: a3 :: a4 :: some (.null) :: tl) st := by
  obtain ⟨p, e, s, m, args, below, meth, c, Q⟩ := Γ
  intro hC hK hr H locs ls hR hlo hL
  obtain ⟨hx, hb, hml, hown, hnm⟩ := id hC
  exact lv_aloadN hx hb d (hL.2.2 5 _ rfl) (kk hC hK hr H locs ls hR hlo hL)
theorem sj_ist5 {a0 a1 a2 a3 a4 : Option Value} {x : Option Value} {tl : List (Option Value)} {v : Int32} (hi : 5 < nL) (hc : sj_c1 a4 = true) (d : decode cc pc = .ok (.istore 5, 2)) (kk : sj_V l Γ (cc, own, nL, ret, nm, R) G post σ I k n (pc + 2) (a0 :: a1 :: a2 :: a3 :: a4 :: some (.int v) :: tl) st) : sj_V l Γ (cc, own, nL, ret, nm, R) G post σ I k n pc (a0 :: a1 :: a2 :: a3 :: a4 :: x :: tl) (.int v :: st) := by
  obtain ⟨p, e, s, m, args, below, meth, c, Q⟩ := Γ
  intro hC hK hr H locs ls hR hlo hL
  obtain ⟨hx, hb, hml, hown, hnm⟩ := id hC
  exact lv_istore hx hb d hL.has hi rfl (fun ls' hl' => kk hC hK hr H locs ls' hR hlo (sj_L.stored (L := a0 :: a1 :: a2 :: a3 :: a4 :: x :: tl) (fun w _ h2 => sj_c1_ok hc (Option.some.inj h2)) hl'))
theorem sj_ast5 {a0 a1 a2 a3 a4 : Option Value} {x : Option Value} {tl : List (Option Value)} {v : Nat} (hi : 5 < nL) (hc : sj_c1 a4 = true) (d : decode cc pc = .ok (.astore 5, 2)) (kk : sj_V l Γ (cc, own, nL, ret, nm, R) G post σ I k n (pc + 2) (a0 :: a1 :: a2 :: a3 :: a4 :: some (.ref v) :: tl) st) : sj_V l Γ (cc, own, nL, ret, nm, R) G post σ I k n pc (a0 :: a1 :: a2 :: a3 :: a4 :: x :: tl) (.ref v :: st) := by
  obtain ⟨p, e, s, m, args, below, meth, c, Q⟩ := Γ
  intro hC hK hr H locs ls hR hlo hL
  obtain ⟨hx, hb, hml, hown, hnm⟩ := id hC
  exact lv_astore hx hb d hL.has hi rfl (fun ls' hl' => kk hC hK hr H locs ls' hR hlo (sj_L.stored (L := a0 :: a1 :: a2 :: a3 :: a4 :: x :: tl) (fun w _ h2 => sj_c1_ok hc (Option.some.inj h2)) hl'))
theorem sj_astN5 {a0 a1 a2 a3 a4 : Option Value} {x : Option Value} {tl : List (Option Value)}  (hi : 5 < nL) (hc : sj_c1 a4 = true) (d : decode cc pc = .ok (.astore 5, 2)) (kk : sj_V l Γ (cc, own, nL, ret, nm, R) G post σ I k n (pc + 2) (a0 :: a1 :: a2 :: a3 :: a4 :: some (.null) :: tl) st) : sj_V l Γ (cc, own, nL, ret, nm, R) G post σ I k n pc (a0 :: a1 :: a2 :: a3 :: a4 :: x :: tl) (.null :: st) := by
  obtain ⟨p, e, s, m, args, below, meth, c, Q⟩ := Γ
  intro hC hK hr H locs ls hR hlo hL
  obtain ⟨hx, hb, hml, hown, hnm⟩ := id hC
  exact lv_astoreN hx hb d hL.has hi rfl (fun ls' hl' => kk hC hK hr H locs ls' hR hlo (sj_L.stored (L := a0 :: a1 :: a2 :: a3 :: a4 :: x :: tl) (fun w _ h2 => sj_c1_ok hc (Option.some.inj h2)) hl'))
theorem sj_inc5 {a0 a1 a2 a3 a4 : Option Value} {tl : List (Option Value)} {a z : Int} (hi : 5 < nL) (hc : sj_c1 a4 = true) (d : decode cc pc = .ok (.iinc 5 z, 3)) (kk : sj_V l Γ (cc, own, nL, ret, nm, R) G post σ I k n (pc + 3) (a0 :: a1 :: a2 :: a3 :: a4 :: some (.int (zI (a + z))) :: tl) st) : sj_V l Γ (cc, own, nL, ret, nm, R) G post σ I k n pc (a0 :: a1 :: a2 :: a3 :: a4 :: some (.int (zI a)) :: tl) st := by
  obtain ⟨p, e, s, m, args, below, meth, c, Q⟩ := Γ
  intro hC hK hr H locs ls hR hlo hL
  obtain ⟨hx, hb, hml, hown, hnm⟩ := id hC
  obtain ⟨j, hj⟩ := List.getElem?_of_mem (sj_al_mem (L := a0 :: a1 :: a2 :: a3 :: a4 :: some (.int (zI a)) :: tl) (i := 5) (v := .int (zI a)) |>.mpr rfl)
  exact lv_iinc (v := zI (a + z)) hx hb d hL.has hj (by rw [← zI_add]; rfl) hi rfl (fun ls' hl' => kk hC hK hr H locs ls' hR hlo (sj_L.stored (L := a0 :: a1 :: a2 :: a3 :: a4 :: some (.int (zI a)) :: tl) (fun w _ h2 => sj_c1_ok hc (Option.some.inj h2)) hl'))
theorem sj_ild6 {a0 a1 a2 a3 a4 a5 : Option Value} {tl : List (Option Value)} {v : Int32} (d : decode cc pc = .ok (.iload 6, 2)) (kk : sj_V l Γ (cc, own, nL, ret, nm, R) G post σ I k n (pc + 2) (a0 :: a1 :: a2 :: a3 :: a4 :: a5 :: some (.int v) :: tl) (.int v :: st)) : sj_V l Γ (cc, own, nL, ret, nm, R) G post σ I k n pc (a0 :: a1 :: a2 :: a3 :: a4 :: a5 :: some (.int v) :: tl) st := by
  obtain ⟨p, e, s, m, args, below, meth, c, Q⟩ := Γ
  intro hC hK hr H locs ls hR hlo hL
  obtain ⟨hx, hb, hml, hown, hnm⟩ := id hC
  exact lv_iload hx hb d (hL.2.2 6 _ rfl) (kk hC hK hr H locs ls hR hlo hL)
theorem sj_ald6 {a0 a1 a2 a3 a4 a5 : Option Value} {tl : List (Option Value)} {v : Nat} (d : decode cc pc = .ok (.aload 6, 2)) (kk : sj_V l Γ (cc, own, nL, ret, nm, R) G post σ I k n (pc + 2) (a0 :: a1 :: a2 :: a3 :: a4 :: a5 :: some (.ref v) :: tl) (.ref v :: st)) : sj_V l Γ (cc, own, nL, ret, nm, R) G post σ I k n pc (a0 :: a1 :: a2 :: a3 :: a4 :: a5 :: some (.ref v) :: tl) st := by
  obtain ⟨p, e, s, m, args, below, meth, c, Q⟩ := Γ
  intro hC hK hr H locs ls hR hlo hL
  obtain ⟨hx, hb, hml, hown, hnm⟩ := id hC
  exact lv_aload hx hb d (hL.2.2 6 _ rfl) (kk hC hK hr H locs ls hR hlo hL)
theorem sj_aldN6 {a0 a1 a2 a3 a4 a5 : Option Value} {tl : List (Option Value)}  (d : decode cc pc = .ok (.aload 6, 2)) (kk : sj_V l Γ (cc, own, nL, ret, nm, R) G post σ I k n (pc + 2) (a0 :: a1 :: a2 :: a3 :: a4 :: a5 :: some (.null) :: tl) (.null :: st)) : sj_V l Γ (cc, own, nL, ret, nm, R) G post σ I k n pc (a0 :: a1 :: a2 :: a3 :: a4 :: a5 :: some (.null) :: tl) st := by
  obtain ⟨p, e, s, m, args, below, meth, c, Q⟩ := Γ
  intro hC hK hr H locs ls hR hlo hL
  obtain ⟨hx, hb, hml, hown, hnm⟩ := id hC
  exact lv_aloadN hx hb d (hL.2.2 6 _ rfl) (kk hC hK hr H locs ls hR hlo hL)
theorem sj_ist6 {a0 a1 a2 a3 a4 a5 : Option Value} {x : Option Value} {tl : List (Option Value)} {v : Int32} (hi : 6 < nL) (hc : sj_c1 a5 = true) (d : decode cc pc = .ok (.istore 6, 2)) (kk : sj_V l Γ (cc, own, nL, ret, nm, R) G post σ I k n (pc + 2) (a0 :: a1 :: a2 :: a3 :: a4 :: a5 :: some (.int v) :: tl) st) : sj_V l Γ (cc, own, nL, ret, nm, R) G post σ I k n pc (a0 :: a1 :: a2 :: a3 :: a4 :: a5 :: x :: tl) (.int v :: st) := by
  obtain ⟨p, e, s, m, args, below, meth, c, Q⟩ := Γ
  intro hC hK hr H locs ls hR hlo hL
  obtain ⟨hx, hb, hml, hown, hnm⟩ := id hC
  exact lv_istore hx hb d hL.has hi rfl (fun ls' hl' => kk hC hK hr H locs ls' hR hlo (sj_L.stored (L := a0 :: a1 :: a2 :: a3 :: a4 :: a5 :: x :: tl) (fun w _ h2 => sj_c1_ok hc (Option.some.inj h2)) hl'))
theorem sj_ast6 {a0 a1 a2 a3 a4 a5 : Option Value} {x : Option Value} {tl : List (Option Value)} {v : Nat} (hi : 6 < nL) (hc : sj_c1 a5 = true) (d : decode cc pc = .ok (.astore 6, 2)) (kk : sj_V l Γ (cc, own, nL, ret, nm, R) G post σ I k n (pc + 2) (a0 :: a1 :: a2 :: a3 :: a4 :: a5 :: some (.ref v) :: tl) st) : sj_V l Γ (cc, own, nL, ret, nm, R) G post σ I k n pc (a0 :: a1 :: a2 :: a3 :: a4 :: a5 :: x :: tl) (.ref v :: st) := by
  obtain ⟨p, e, s, m, args, below, meth, c, Q⟩ := Γ
  intro hC hK hr H locs ls hR hlo hL
  obtain ⟨hx, hb, hml, hown, hnm⟩ := id hC
  exact lv_astore hx hb d hL.has hi rfl (fun ls' hl' => kk hC hK hr H locs ls' hR hlo (sj_L.stored (L := a0 :: a1 :: a2 :: a3 :: a4 :: a5 :: x :: tl) (fun w _ h2 => sj_c1_ok hc (Option.some.inj h2)) hl'))
theorem sj_astN6 {a0 a1 a2 a3 a4 a5 : Option Value} {x : Option Value} {tl : List (Option Value)}  (hi : 6 < nL) (hc : sj_c1 a5 = true) (d : decode cc pc = .ok (.astore 6, 2)) (kk : sj_V l Γ (cc, own, nL, ret, nm, R) G post σ I k n (pc + 2) (a0 :: a1 :: a2 :: a3 :: a4 :: a5 :: some (.null) :: tl) st) : sj_V l Γ (cc, own, nL, ret, nm, R) G post σ I k n pc (a0 :: a1 :: a2 :: a3 :: a4 :: a5 :: x :: tl) (.null :: st) := by
  obtain ⟨p, e, s, m, args, below, meth, c, Q⟩ := Γ
  intro hC hK hr H locs ls hR hlo hL
  obtain ⟨hx, hb, hml, hown, hnm⟩ := id hC
  exact lv_astoreN hx hb d hL.has hi rfl (fun ls' hl' => kk hC hK hr H locs ls' hR hlo (sj_L.stored (L := a0 :: a1 :: a2 :: a3 :: a4 :: a5 :: x :: tl) (fun w _ h2 => sj_c1_ok hc (Option.some.inj h2)) hl'))
theorem sj_inc6 {a0 a1 a2 a3 a4 a5 : Option Value} {tl : List (Option Value)} {a z : Int} (hi : 6 < nL) (hc : sj_c1 a5 = true) (d : decode cc pc = .ok (.iinc 6 z, 3)) (kk : sj_V l Γ (cc, own, nL, ret, nm, R) G post σ I k n (pc + 3) (a0 :: a1 :: a2 :: a3 :: a4 :: a5 :: some (.int (zI (a + z))) :: tl) st) : sj_V l Γ (cc, own, nL, ret, nm, R) G post σ I k n pc (a0 :: a1 :: a2 :: a3 :: a4 :: a5 :: some (.int (zI a)) :: tl) st := by
  obtain ⟨p, e, s, m, args, below, meth, c, Q⟩ := Γ
  intro hC hK hr H locs ls hR hlo hL
  obtain ⟨hx, hb, hml, hown, hnm⟩ := id hC
  obtain ⟨j, hj⟩ := List.getElem?_of_mem (sj_al_mem (L := a0 :: a1 :: a2 :: a3 :: a4 :: a5 :: some (.int (zI a)) :: tl) (i := 6) (v := .int (zI a)) |>.mpr rfl)
  exact lv_iinc (v := zI (a + z)) hx hb d hL.has hj (by rw [← zI_add]; rfl) hi rfl (fun ls' hl' => kk hC hK hr H locs ls' hR hlo (sj_L.stored (L := a0 :: a1 :: a2 :: a3 :: a4 :: a5 :: some (.int (zI a)) :: tl) (fun w _ h2 => sj_c1_ok hc (Option.some.inj h2)) hl'))
theorem sj_ild7 {a0 a1 a2 a3 a4 a5 a6 : Option Value} {tl : List (Option Value)} {v : Int32} (d : decode cc pc = .ok (.iload 7, 2)) (kk : sj_V l Γ (cc, own, nL, ret, nm, R) G post σ I k n (pc + 2) (a0 :: a1 :: a2 :: a3 :: a4 :: a5 :: a6 :: some (.int v) :: tl) (.int v :: st)) : sj_V l Γ (cc, own, nL, ret, nm, R) G post σ I k n pc (a0 :: a1 :: a2 :: a3 :: a4 :: a5 :: a6 :: some (.int v) :: tl) st := by
  obtain ⟨p, e, s, m, args, below, meth, c, Q⟩ := Γ
  intro hC hK hr H locs ls hR hlo hL
  obtain ⟨hx, hb, hml, hown, hnm⟩ := id hC
  exact lv_iload hx hb d (hL.2.2 7 _ rfl) (kk hC hK hr H locs ls hR hlo hL)
theorem sj_ald7 {a0 a1 a2 a3 a4 a5 a6 : Option Value} {tl : List (Option Value)} {v : Nat} (d : decode cc pc = .ok (.aload 7, 2)) (kk : sj_V l Γ (cc, own, nL, ret, nm, R) G post σ I k n (pc + 2) (a0 :: a1 :: a2 :: a3 :: a4 :: a5 :: a6 :: some (.ref v) :: tl) (.ref v :: st)) : sj_V l Γ (cc, own, nL, ret, nm, R) G post σ I k n pc (a0 :: a1 :: a2 :: a3 :: a4 :: a5 :: a6 :: some (.ref v) :: tl) st := by
  obtain ⟨p, e, s, m, args, below, meth, c, Q⟩ := Γ
  intro hC hK hr H locs ls hR hlo hL
  obtain ⟨hx, hb, hml, hown, hnm⟩ := id hC
  exact lv_aload hx hb d (hL.2.2 7 _ rfl) (kk hC hK hr H locs ls hR hlo hL)
theorem sj_aldN7 {a0 a1 a2 a3 a4 a5 a6 : Option Value} {tl : List (Option Value)}  (d : decode cc pc = .ok (.aload 7, 2)) (kk : sj_V l Γ (cc, own, nL, ret, nm, R) G post σ I k n (pc + 2) (a0 :: a1 :: a2 :: a3 :: a4 :: a5 :: a6 :: some (.null) :: tl) (.null :: st)) : sj_V l Γ (cc, own, nL, ret, nm, R) G post σ I k n pc (a0 :: a1 :: a2 :: a3 :: a4 :: a5 :: a6 :: some (.null) :: tl) st := by
  obtain ⟨p, e, s, m, args, below, meth, c, Q⟩ := Γ
  intro hC hK hr H locs ls hR hlo hL
  obtain ⟨hx, hb, hml, hown, hnm⟩ := id hC
  exact lv_aloadN hx hb d (hL.2.2 7 _ rfl) (kk hC hK hr H locs ls hR hlo hL)
theorem sj_ist7 {a0 a1 a2 a3 a4 a5 a6 : Option Value} {x : Option Value} {tl : List (Option Value)} {v : Int32} (hi : 7 < nL) (hc : sj_c1 a6 = true) (d : decode cc pc = .ok (.istore 7, 2)) (kk : sj_V l Γ (cc, own, nL, ret, nm, R) G post σ I k n (pc + 2) (a0 :: a1 :: a2 :: a3 :: a4 :: a5 :: a6 :: some (.int v) :: tl) st) : sj_V l Γ (cc, own, nL, ret, nm, R) G post σ I k n pc (a0 :: a1 :: a2 :: a3 :: a4 :: a5 :: a6 :: x :: tl) (.int v :: st) := by
  obtain ⟨p, e, s, m, args, below, meth, c, Q⟩ := Γ
  intro hC hK hr H locs ls hR hlo hL
  obtain ⟨hx, hb, hml, hown, hnm⟩ := id hC
  exact lv_istore hx hb d hL.has hi rfl (fun ls' hl' => kk hC hK hr H locs ls' hR hlo (sj_L.stored (L := a0 :: a1 :: a2 :: a3 :: a4 :: a5 :: a6 :: x :: tl) (fun w _ h2 => sj_c1_ok hc (Option.some.inj h2)) hl'))
theorem sj_ast7 {a0 a1 a2 a3 a4 a5 a6 : Option Value} {x : Option Value} {tl : List (Option Value)} {v : Nat} (hi : 7 < nL) (hc : sj_c1 a6 = true) (d : decode cc pc = .ok (.astore 7, 2)) (kk : sj_V l Γ (cc, own, nL, ret, nm, R) G post σ I k n (pc + 2) (a0 :: a1 :: a2 :: a3 :: a4 :: a5 :: a6 :: some (.ref v) :: tl) st) : sj_V l Γ (cc, own, nL, ret, nm, R) G post σ I k n pc (a0 :: a1 :: a2 :: a3 :: a4 :: a5 :: a6 :: x :: tl) (.ref v :: st) := by
  obtain ⟨p, e, s, m, args, below, meth, c, Q⟩ := Γ
  intro hC hK hr H locs ls hR hlo hL
  obtain ⟨hx, hb, hml, hown, hnm⟩ := id hC
  exact lv_astore hx hb d hL.has hi rfl (fun ls' hl' => kk hC hK hr H locs ls' hR hlo (sj_L.stored (L := a0 :: a1 :: a2 :: a3 :: a4 :: a5 :: a6 :: x :: tl) (fun w _ h2 => sj_c1_ok hc (Option.some.inj h2)) hl'))
theorem sj_astN7 {a0 a1 a2 a3 a4 a5 a6 : Option Value} {x : Option Value} {tl : List (Option Value)}  (hi : 7 < nL) (hc : sj_c1 a6 = true) (d : decode cc pc = .ok (.astore 7, 2)) (kk : sj_V l Γ (cc, own, nL, ret, nm, R) G post σ I k n (pc + 2) (a0 :: a1 :: a2 :: a3 :: a4 :: a5 :: a6 :: some (.null) :: tl) st) : sj_V l Γ (cc, own, nL, ret, nm, R) G post σ I k n pc (a0 :: a1 :: a2 :: a3 :: a4 :: a5 :: a6 :: x :: tl) (.null :: st) := by
  obtain ⟨p, e, s, m, args, below, meth, c, Q⟩ := Γ
  intro hC hK hr H locs ls hR hlo hL
  obtain ⟨hx, hb, hml, hown, hnm⟩ := id hC
  exact lv_astoreN hx hb d hL.has hi rfl (fun ls' hl' => kk hC hK hr H locs ls' hR hlo (sj_L.stored (L := a0 :: a1 :: a2 :: a3 :: a4 :: a5 :: a6 :: x :: tl) (fun w _ h2 => sj_c1_ok hc (Option.some.inj h2)) hl'))
theorem sj_inc7 {a0 a1 a2 a3 a4 a5 a6 : Option Value} {tl : List (Option Value)} {a z : Int} (hi : 7 < nL) (hc : sj_c1 a6 = true) (d : decode cc pc = .ok (.iinc 7 z, 3)) (kk : sj_V l Γ (cc, own, nL, ret, nm, R) G post σ I k n (pc + 3) (a0 :: a1 :: a2 :: a3 :: a4 :: a5 :: a6 :: some (.int (zI (a + z))) :: tl) st) : sj_V l Γ (cc, own, nL, ret, nm, R) G post σ I k n pc (a0 :: a1 :: a2 :: a3 :: a4 :: a5 :: a6 :: some (.int (zI a)) :: tl) st := by
  obtain ⟨p, e, s, m, args, below, meth, c, Q⟩ := Γ
  intro hC hK hr H locs ls hR hlo hL
  obtain ⟨hx, hb, hml, hown, hnm⟩ := id hC
  obtain ⟨j, hj⟩ := List.getElem?_of_mem (sj_al_mem (L := a0 :: a1 :: a2 :: a3 :: a4 :: a5 :: a6 :: some (.int (zI a)) :: tl) (i := 7) (v := .int (zI a)) |>.mpr rfl)
  exact lv_iinc (v := zI (a + z)) hx hb d hL.has hj (by rw [← zI_add]; rfl) hi rfl (fun ls' hl' => kk hC hK hr H locs ls' hR hlo (sj_L.stored (L := a0 :: a1 :: a2 :: a3 :: a4 :: a5 :: a6 :: some (.int (zI a)) :: tl) (fun w _ h2 => sj_c1_ok hc (Option.some.inj h2)) hl'))
theorem sj_ild8 {a0 a1 a2 a3 a4 a5 a6 a7 : Option Value} {tl : List (Option Value)} {v : Int32} (d : decode cc pc = .ok (.iload 8, 2)) (kk : sj_V l Γ (cc, own, nL, ret, nm, R) G post σ I k n (pc + 2) (a0 :: a1 :: a2 :: a3 :: a4 :: a5 :: a6 :: a7 :: some (.int v) :: tl) (.int v :: st)) : sj_V l Γ (cc, own, nL, ret, nm, R) G post σ I k n pc (a0 :: a1 :: a2 :: a3 :: a4 :: a5 :: a6 :: a7 :: some (.int v) :: tl) st := by
  obtain ⟨p, e, s, m, args, below, meth, c, Q⟩ := Γ
  intro hC hK hr H locs ls hR hlo hL
  obtain ⟨hx, hb, hml, hown, hnm⟩ := id hC
  exact lv_iload hx hb d (hL.2.2 8 _ rfl) (kk hC hK hr H locs ls hR hlo hL)
theorem sj_ald8 {a0 a1 a2 a3 a4 a5 a6 a7 : Option Value} {tl : List (Option Value)} {v : Nat} (d : decode cc pc = .ok (.aload 8, 2)) (kk : sj_V l Γ (cc, own, nL, ret, nm, R) G post σ I k n (pc + 2) (a0 :: a1 :: a2 :: a3 :: a4 :: a5 :: a6 :: a7 :: some (.ref v) :: tl) (.ref v :: st)) : sj_V l Γ (cc, own, nL, ret, nm, R) G post σ I k n pc (a0 :: a1 :: a2 :: a3 :: a4 :: a5 :: a6 :: a7 :: some (.ref v) :: tl) st := by
  obtain ⟨p, e, s, m, args, below, meth, c, Q⟩ := Γ
  intro hC hK hr H locs ls hR hlo hL
  obtain ⟨hx, hb, hml, hown, hnm⟩ := id hC
  exact lv_aload hx hb d (hL.2.2 8 _ rfl) (kk hC hK hr H locs ls hR hlo hL)
theorem sj_aldN8 {a0 a1 a2 a3 a4 a5 a6 a7 : Option Value} {tl : List (Option Value)}  (d : decode cc pc = .ok (.aload 8, 2)) (kk : sj_V l Γ (cc, own, nL, ret, nm, R) G post σ I k n (pc + 2) (a0 :: a1 :: a2 :: a3 :: a4 :: a5 :: a6 :: a7 :: some (.null) :: tl) (.null :: st)) : sj_V l Γ (cc, own, nL, ret, nm, R) G post σ I k n pc (a0 :: a1 :: a2 :: a3 :: a4 :: a5 :: a6 :: a7 :: some (.null) :: tl) st := by
  obtain ⟨p, e, s, m, args, below, meth, c, Q⟩ := Γ
  intro hC hK hr H locs ls hR hlo hL
  obtain ⟨hx, hb, hml, hown, hnm⟩ := id hC
  exact lv_aloadN hx hb d (hL.2.2 8 _ rfl) (kk hC hK hr H locs ls hR hlo hL)
theorem sj_ist8 {a0 a1 a2 a3 a4 a5 a6 a7 : Option Value} {x : Option Value} {tl : List (Option Value)} {v : Int32} (hi : 8 < nL) (hc : sj_c1 a7 = true) (d : decode cc pc = .ok (.istore 8, 2)) (kk : sj_V l Γ (cc, own, nL, ret, nm, R) G post σ I k n (pc + 2) (a0 :: a1 :: a2 :: a3 :: a4 :: a5 :: a6 :: a7 :: some (.int v) :: tl) st) : sj_V l Γ (cc, own, nL, ret, nm, R) G post σ I k n pc (a0 :: a1 :: a2 :: a3 :: a4 :: a5 :: a6 :: a7 :: x :: tl) (.int v :: st) := by
  obtain ⟨p, e, s, m, args, below, meth, c, Q⟩ := Γ
  intro hC hK hr H locs ls hR hlo hL
  obtain ⟨hx, hb, hml, hown, hnm⟩ := id hC
  exact lv_istore hx hb d hL.has hi rfl (fun ls' hl' => kk hC hK hr H locs ls' hR hlo (sj_L.stored (L := a0 :: a1 :: a2 :: a3 :: a4 :: a5 :: a6 :: a7 :: x :: tl) (fun w _ h2 => sj_c1_ok hc (Option.some.inj h2)) hl'))
theorem sj_ast8 {a0 a1 a2 a3 a4 a5 a6 a7 : Option Value} {x : Option Value} {tl : List (Option Value)} {v : Nat} (hi : 8 < nL) (hc : sj_c1 a7 = true) (d : decode cc pc = .ok (.astore 8, 2)) (kk : sj_V l Γ (cc, own, nL, ret, nm, R) G post σ I k n (pc + 2) (a0 :: a1 :: a2 :: a3 :: a4 :: a5 :: a6 :: a7 :: some (.ref v) :: tl) st) : sj_V l Γ (cc, own, nL, ret, nm, R) G post σ I k n pc (a0 :: a1 :: a2 :: a3 :: a4 :: a5 :: a6 :: a7 :: x :: tl) (.ref v :: st) := by
  obtain ⟨p, e, s, m, args, below, meth, c, Q⟩ := Γ
  intro hC hK hr H locs ls hR hlo hL
  obtain ⟨hx, hb, hml, hown, hnm⟩ := id hC
  exact lv_astore hx hb d hL.has hi rfl (fun ls' hl' => kk hC hK hr H locs ls' hR hlo (sj_L.stored (L := a0 :: a1 :: a2 :: a3 :: a4 :: a5 :: a6 :: a7 :: x :: tl) (fun w _ h2 => sj_c1_ok hc (Option.some.inj h2)) hl'))
theorem sj_astN8 {a0 a1 a2 a3 a4 a5 a6 a7 : Option Value} {x : Option Value} {tl : List (Option Value)}  (hi : 8 < nL) (hc : sj_c1 a7 = true) (d : decode cc pc = .ok (.astore 8, 2)) (kk : sj_V l Γ (cc, own, nL, ret, nm, R) G post σ I k n (pc + 2) (a0 :: a1 :: a2 :: a3 :: a4 :: a5 :: a6 :: a7 :: some (.null) :: tl) st) : sj_V l Γ (cc, own, nL, ret, nm, R) G post σ I k n pc (a0 :: a1 :: a2 :: a3 :: a4 :: a5 :: a6 :: a7 :: x :: tl) (.null :: st) := by
  obtain ⟨p, e, s, m, args, below, meth, c, Q⟩ := Γ
  intro hC hK hr H locs ls hR hlo hL
  obtain ⟨hx, hb, hml, hown, hnm⟩ := id hC
  exact lv_astoreN hx hb d hL.has hi rfl (fun ls' hl' => kk hC hK hr H locs ls' hR hlo (sj_L.stored (L := a0 :: a1 :: a2 :: a3 :: a4 :: a5 :: a6 :: a7 :: x :: tl) (fun w _ h2 => sj_c1_ok hc (Option.some.inj h2)) hl'))
theorem sj_inc8 {a0 a1 a2 a3 a4 a5 a6 a7 : Option Value} {tl : List (Option Value)} {a z : Int} (hi : 8 < nL) (hc : sj_c1 a7 = true) (d : decode cc pc = .ok (.iinc 8 z, 3)) (kk : sj_V l Γ (cc, own, nL, ret, nm, R) G post σ I k n (pc + 3) (a0 :: a1 :: a2 :: a3 :: a4 :: a5 :: a6 :: a7 :: some (.int (zI (a + z))) :: tl) st) : sj_V l Γ (cc, own, nL, ret, nm, R) G post σ I k n pc (a0 :: a1 :: a2 :: a3 :: a4 :: a5 :: a6 :: a7 :: some (.int (zI a)) :: tl) st := by
  obtain ⟨p, e, s, m, args, below, meth, c, Q⟩ := Γ
  intro hC hK hr H locs ls hR hlo hL
  obtain ⟨hx, hb, hml, hown, hnm⟩ := id hC
  obtain ⟨j, hj⟩ := List.getElem?_of_mem (sj_al_mem (L := a0 :: a1 :: a2 :: a3 :: a4 :: a5 :: a6 :: a7 :: some (.int (zI a)) :: tl) (i := 8) (v := .int (zI a)) |>.mpr rfl)
  exact lv_iinc (v := zI (a + z)) hx hb d hL.has hj (by rw [← zI_add]; rfl) hi rfl (fun ls' hl' => kk hC hK hr H locs ls' hR hlo (sj_L.stored (L := a0 :: a1 :: a2 :: a3 :: a4 :: a5 :: a6 :: a7 :: some (.int (zI a)) :: tl) (fun w _ h2 => sj_c1_ok hc (Option.some.inj h2)) hl'))
theorem sj_ild9 {a0 a1 a2 a3 a4 a5 a6 a7 a8 : Option Value} {tl : List (Option Value)} {v : Int32} (d : decode cc pc = .ok (.iload 9, 2)) (kk : sj_V l Γ (cc, own, nL, ret, nm, R) G post σ I k n (pc + 2) (a0 :: a1 :: a2 :: a3 :: a4 :: a5 :: a6 :: a7 :: a8 :: some (.int v) :: tl) (.int v :: st)) : sj_V l Γ (cc, own, nL, ret, nm, R) G post σ I k n pc (a0 :: a1 :: a2 :: a3 :: a4 :: a5 :: a6 :: a7 :: a8 :: some (.int v) :: tl) st := by
  obtain ⟨p, e, s, m, args, below, meth, c, Q⟩ := Γ
  intro hC hK hr H locs ls hR hlo hL
  obtain ⟨hx, hb, hml, hown, hnm⟩ := id hC
  exact lv_iload hx hb d (hL.2.2 9 _ rfl) (kk hC hK hr H locs ls hR hlo hL)
theorem sj_ald9 {a0 a1 a2 a3 a4 a5 a6 a7 a8 : Option Value} {tl : List (Option Value)} {v : Nat} (d : decode cc pc = .ok (.aload 9, 2)) (kk : sj_V l Γ (cc, own, nL, ret, nm, R) G post σ I k n (pc + 2) (a0 :: a1 :: a2 :: a3 :: a4 :: a5 :: a6 :: a7 :: a8 :: some (.ref v) :: tl) (.ref v :: st)) : sj_V l Γ (cc, own, nL, ret, nm, R) G post σ I k n pc (a0 :: a1 :: a2 :: a3 :: a4 :: a5 :: a6 :: a7 :: a8 :: some (.ref v) :: tl) st := by
  obtain ⟨p, e, s, m, args, below, meth, c, Q⟩ := Γ
  intro hC hK hr H locs ls hR hlo hL
  obtain ⟨hx, hb, hml, hown, hnm⟩ := id hC
  exact lv_aload hx hb d (hL.2.2 9 _ rfl) (kk hC hK hr H locs ls hR hlo hL)
theorem sj_aldN9 {a0 a1 a2 a3 a4 a5 a6 a7 a8 : Option Value} {tl : List (Option Value)}  (d : decode cc pc = .ok (.aload 9, 2)) (kk : sj_V l Γ (cc, own, nL, ret, nm, R) G post σ I k n (pc + 2) (a0 :: a1 :: a2 :: a3 :: a4 :: a5 :: a6 :: a7 :: a8 :: some (.null) :: tl) (.null :: st)) : sj_V l Γ (cc, own, nL, ret, nm, R) G post σ I k n pc (a0 :: a1 :: a2 :: a3 :: a4 :: a5 :: a6 :: a7 :: a8 :: some (.null) :: tl) st := by
  obtain ⟨p, e, s, m, args, below, meth, c, Q⟩ := Γ
  intro hC hK hr H locs ls hR hlo hL
  obtain ⟨hx, hb, hml, hown, hnm⟩ := id hC
  exact lv_aloadN hx hb d (hL.2.2 9 _ rfl) (kk hC hK hr H locs ls hR hlo hL)
theorem sj_ist9 {a0 a1 a2 a3 a4 a5 a6 a7 a8 : Option Value} {x : Option Value} {tl : List (Option Value)} {v : Int32} (hi : 9 < nL) (hc : sj_c1 a8 = true) (d : decode cc pc = .ok (.istore 9, 2)) (kk : sj_V l Γ (cc, own, nL, ret, nm, R) G post σ I k n (pc + 2) (a0 :: a1 :: a2 :: a3 :: a4 :: a5 :: a6 :: a7 :: a8 :: some (.int v) :: tl) st) : sj_V l Γ (cc, own, nL, ret, nm, R) G post σ I k n pc (a0 :: a1 :: a2 :: a3 :: a4 :: a5 :: a6 :: a7 :: a8 :: x :: tl) (.int v :: st) := by
  obtain ⟨p, e, s, m, args, below, meth, c, Q⟩ := Γ
  intro hC hK hr H locs ls hR hlo hL
  obtain ⟨hx, hb, hml, hown, hnm⟩ := id hC
  exact lv_istore hx hb d hL.has hi rfl (fun ls' hl' => kk hC hK hr H locs ls' hR hlo (sj_L.stored (L := a0 :: a1 :: a2 :: a3 :: a4 :: a5 :: a6 :: a7 :: a8 :: x :: tl) (fun w _ h2 => sj_c1_ok hc (Option.some.inj h2)) hl'))
theorem sj_ast9 {a0 a1 a2 a3 a4 a5 a6 a7 a8 : Option Value} {x : Option Value} {tl : List (Option Value)} {v : Nat} (hi : 9 < nL) (hc : sj_c1 a8 = true) (d : decode cc pc = .ok (.astore 9, 2)) (kk : sj_V l Γ (cc, own, nL, ret, nm, R) G post σ I k n (pc + 2) (a0 :: a1 :: a2 :: a3 :: a4 :: a5 :: a6 :: a7 :: a8 :: some (.ref v) :: tl) st) : sj_V l Γ (cc, own, nL, ret, nm, R) G post σ I k n pc (a0 :: a1 :: a2 :: a3 :: a4 :: a5 :: a6 :: a7 :: a8 :: x :: tl) (.ref v :: st) := by
  obtain ⟨p, e, s, m, args, below, meth, c, Q⟩ := Γ
  intro hC hK hr H locs ls hR hlo hL
  obtain ⟨hx, hb, hml, hown, hnm⟩ := id hC
  exact lv_astore hx hb d hL.has hi rfl (fun ls' hl' => kk hC hK hr H locs ls' hR hlo (sj_L.stored (L := a0 :: a1 :: a2 :: a3 :: a4 :: a5 :: a6 :: a7 :: a8 :: x :: tl) (fun w _ h2 => sj_c1_ok hc (Option.some.inj h2)) hl'))
theorem sj_astN9 {a0 a1 a2 a3 a4 a5 a6 a7 a8 : Option Value} {x : Option Value} {tl : List (Option Value)}  (hi : 9 < nL) (hc : sj_c1 a8 = true) (d : decode cc pc = .ok (.astore 9, 2)) (kk : sj_V l Γ (cc, own, nL, ret, nm, R) G post σ I k n (pc + 2) (a0 :: a1 :: a2 :: a3 :: a4 :: a5 :: a6 :: a7 :: a8 :: some (.null) :: tl) st) : sj_V l Γ (cc, own, nL, ret, nm, R) G post σ I k n pc (a0 :: a1 :: a2 :: a3 :: a4 :: a5 :: a6 :: a7 :: a8 :: x :: tl) (.null :: st) := by
  obtain ⟨p, e, s, m, args, below, meth, c, Q⟩ := Γ
  intro hC hK hr H locs ls hR hlo hL
  obtain ⟨hx, hb, hml, hown, hnm⟩ := id hC
  exact lv_astoreN hx hb d hL.has hi rfl (fun ls' hl' => kk hC hK hr H locs ls' hR hlo (sj_L.stored (L := a0 :: a1 :: a2 :: a3 :: a4 :: a5 :: a6 :: a7 :: a8 :: x :: tl) (fun w _ h2 => sj_c1_ok hc (Option.some.inj h2)) hl'))
theorem sj_inc9 {a0 a1 a2 a3 a4 a5 a6 a7 a8 : Option Value} {tl : List (Option Value)} {a z : Int} (hi : 9 < nL) (hc : sj_c1 a8 = true) (d : decode cc pc = .ok (.iinc 9 z, 3)) (kk : sj_V l Γ (cc, own, nL, ret, nm, R) G post σ I k n (pc + 3) (a0 :: a1 :: a2 :: a3 :: a4 :: a5 :: a6 :: a7 :: a8 :: some (.int (zI (a + z))) :: tl) st) : sj_V l Γ (cc, own, nL, ret, nm, R) G post σ I k n pc (a0 :: a1 :: a2 :: a3 :: a4 :: a5 :: a6 :: a7 :: a8 :: some (.int (zI a)) :: tl) st := by
  obtain ⟨p, e, s, m, args, below, meth, c, Q⟩ := Γ
  intro hC hK hr H locs ls hR hlo hL
  obtain ⟨hx, hb, hml, hown, hnm⟩ := id hC
  obtain ⟨j, hj⟩ := List.getElem?_of_mem (sj_al_mem (L := a0 :: a1 :: a2 :: a3 :: a4 :: a5 :: a6 :: a7 :: a8 :: some (.int (zI a)) :: tl) (i := 9) (v := .int (zI a)) |>.mpr rfl)
  exact lv_iinc (v := zI (a + z)) hx hb d hL.has hj (by rw [← zI_add]; rfl) hi rfl (fun ls' hl' => kk hC hK hr H locs ls' hR hlo (sj_L.stored (L := a0 :: a1 :: a2 :: a3 :: a4 :: a5 :: a6 :: a7 :: a8 :: some (.int (zI a)) :: tl) (fun w _ h2 => sj_c1_ok hc (Option.some.inj h2)) hl'))
theorem sj_ild10 {a0 a1 a2 a3 a4 a5 a6 a7 a8 a9 : Option Value} {tl : List (Option Value)} {v : Int32} (d : decode cc pc = .ok (.iload 10, 2)) (kk : sj_V l Γ (cc, own, nL, ret, nm, R) G post σ I k n (pc + 2) (a0 :: a1 :: a2 :: a3 :: a4 :: a5 :: a6 :: a7 :: a8 :: a9 :: some (.int v) :: tl) (.int v :: st)) : sj_V l Γ (cc, own, nL, ret, nm, R) G post σ I k n pc (a0 :: a1 :: a2 :: a3 :: a4 :: a5 :: a6 :: a7 :: a8 :: a9 :: some (.int v) :: tl) st := by
  obtain ⟨p, e, s, m, args, below, meth, c, Q⟩ := Γ
  intro hC hK hr H locs ls hR hlo hL
  obtain ⟨hx, hb, hml, hown, hnm⟩ := id hC
  exact lv_iload hx hb d (hL.2.2 10 _ rfl) (kk hC hK hr H locs ls hR hlo hL)
theorem sj_ald10 {a0 a1 a2 a3 a4 a5 a6 a7 a8 a9 : Option Value} {tl : List (Option Value)} {v : Nat} (d : decode cc pc = .ok (.aload 10, 2)) (kk : sj_V l Γ (cc, own, nL, ret, nm, R) G post σ I k n (pc + 2) (a0 :: a1 :: a2 :: a3 :: a4 :: a5 :: a6 :: a7 :: a8 :: a9 :: some (.ref v) :: tl) (.ref v :: st)) : sj_V l Γ (cc, own, nL, ret, nm, R) G post σ I k n pc (a0 :: a1 :: a2 :: a3 :: a4 :: a5 :: a6 :: a7 :: a8 :: a9 :: some (.ref v) :: tl) st := by
  obtain ⟨p, e, s, m, args, below, meth, c, Q⟩ := Γ
  intro hC hK hr H locs ls hR hlo hL
  obtain ⟨hx, hb, hml, hown, hnm⟩ := id hC
  exact lv_aload hx hb d (hL.2.2 10 _ rfl) (kk hC hK hr H locs ls hR hlo hL)
theorem sj_aldN10 {a0 a1 a2 a3 a4 a5 a6 a7 a8 a9 : Option Value} {tl : List (Option Value)}  (d : decode cc pc = .ok (.aload 10, 2)) (kk : sj_V l Γ (cc, own, nL, ret, nm, R) G post σ I k n (pc + 2) (a0 :: a1 :: a2 :: a3 :: a4 :: a5 :: a6 :: a7 :: a8 :: a9 :: some (.null) :: tl) (.null :: st)) : sj_V l Γ (cc, own, nL, ret, nm, R) G post σ I k n pc (a0 :: a1 :: a2 :: a3 :: a4 :: a5 :: a6 :: a7 :: a8 :: a9 :: some (.null) :: tl) st := by
  obtain ⟨p, e, s, m, args, below, meth, c, Q⟩ := Γ
  intro hC hK hr H locs ls hR hlo hL
  obtain ⟨hx, hb, hml, hown, hnm⟩ := id hC
  exact lv_aloadN hx hb d (hL.2.2 10 _ rfl) (kk hC hK hr H locs ls hR hlo hL)
theorem sj_ist10 {a0 a1 a2 a3 a4 a5 a6 a7 a8 a9 : Option Value} {x : Option Value} {tl : List (Option Value)} {v : Int32} (hi : 10 < nL) (hc : sj_c1 a9 = true) (d : decode cc pc = .ok (.istore 10, 2)) (kk : sj_V l Γ (cc, own, nL, ret, nm, R) G post σ I k n (pc + 2) (a0 :: a1 :: a2 :: a3 :: a4 :: a5 :: a6 :: a7 :: a8 :: a9 :: some (.int v) :: tl) st) : sj_V l Γ (cc, own, nL, ret, nm, R) G post σ I k n pc (a0 :: a1 :: a2 :: a3 :: a4 :: a5 :: a6 :: a7 :: a8 :: a9 :: x :: tl) (.int v :: st) := by
  obtain ⟨p, e, s, m, args, below, meth, c, Q⟩ := Γ
  intro hC hK hr H locs ls hR hlo hL
  obtain ⟨hx, hb, hml, hown, hnm⟩ := id hC
  exact lv_istore hx hb d hL.has hi rfl (fun ls' hl' => kk hC hK hr H locs ls' hR hlo (sj_L.stored (L := a0 :: a1 :: a2 :: a3 :: a4 :: a5 :: a6 :: a7 :: a8 :: a9 :: x :: tl) (fun w _ h2 => sj_c1_ok hc (Option.some.inj h2)) hl'))
theorem sj_ast10 {a0 a1 a2 a3 a4 a5 a6 a7 a8 a9 : Option Value} {x : Option Value} {tl : List (Option Value)} {v : Nat} (hi : 10 < nL) (hc : sj_c1 a9 = true) (d : decode cc pc = .ok (.astore 10, 2)) (kk : sj_V l Γ (cc, own, nL, ret, nm, R) G post σ I k n (pc + 2) (a0 :: a1 :: a2 :: a3 :: a4 :: a5 :: a6 :: a7 :: a8 :: a9 :: some (.ref v) :: tl) st) : sj_V l Γ (cc, own, nL, ret, nm, R) G post σ I k n pc (a0 :: a1 :: a2 :: a3 :: a4 :: a5 :: a6 :: a7 :: a8 :: a9 :: x :: tl) (.ref v :: st) := by
  obtain ⟨p, e, s, m, args, below, meth, c, Q⟩ := Γ
  intro hC hK hr H locs ls hR hlo hL
  obtain ⟨hx, hb, hml, hown, hnm⟩ := id hC
  exact lv_astore hx hb d hL.has hi rfl (fun ls' hl' => kk hC hK hr H locs ls' hR hlo (sj_L.stored (L := a0 :: a1 :: a2 :: a3 :: a4 :: a5 :: a6 :: a7 :: a8 :: a9 :: x :: tl) (fun w _ h2 => sj_c1_ok hc (Option.some.inj h2)) hl'))
theorem sj_astN10 {a0 a1 a2 a3 a4 a5 a6 a7 a8 a9 : Option Value} {x : Option Value} {tl : List (Option Value)}  (hi : 10 < nL) (hc : sj_c1 a9 = true) (d : decode cc pc = .ok (.astore 10, 2)) (kk : sj_V l Γ (cc, own, nL, ret, nm, R) G post σ I k n (pc + 2) (a0 :: a1 :: a2 :: a3 :: a4 :: a5 :: a6 :: a7 :: a8 :: a9 :: some (.null) :: tl) st) : sj_V l Γ (cc, own, nL, ret, nm, R) G post σ I k n pc (a0 :: a1 :: a2 :: a3 :: a4 :: a5 :: a6 :: a7 :: a8 :: a9 :: x :: tl) (.null :: st) := by
  obtain ⟨p, e, s, m, args, below, meth, c, Q⟩ := Γ
  intro hC hK hr H locs ls hR hlo hL
  obtain ⟨hx, hb, hml, hown, hnm⟩ := id hC
  exact lv_astoreN hx hb d hL.has hi rfl (fun ls' hl' => kk hC hK hr H locs ls' hR hlo (sj_L.stored (L := a0 :: a1 :: a2 :: a3 :: a4 :: a5 :: a6 :: a7 :: a8 :: a9 :: x :: tl) (fun w _ h2 => sj_c1_ok hc (Option.some.inj h2)) hl'))
theorem sj_inc10 {a0 a1 a2 a3 a4 a5 a6 a7 a8 a9 : Option Value} {tl : List (Option Value)} {a z : Int} (hi : 10 < nL) (hc : sj_c1 a9 = true) (d : decode cc pc = .ok (.iinc 10 z, 3)) (kk : sj_V l Γ (cc, own, nL, ret, nm, R) G post σ I k n (pc + 3) (a0 :: a1 :: a2 :: a3 :: a4 :: a5 :: a6 :: a7 :: a8 :: a9 :: some (.int (zI (a + z))) :: tl) st) : sj_V l Γ (cc, own, nL, ret, nm, R) G post σ I k n pc (a0 :: a1 :: a2 :: a3 :: a4 :: a5 :: a6 :: a7 :: a8 :: a9 :: some (.int (zI a)) :: tl) st := by
  obtain ⟨p, e, s, m, args, below, meth, c, Q⟩ := Γ
  intro hC hK hr H locs ls hR hlo hL
  obtain ⟨hx, hb, hml, hown, hnm⟩ := id hC
  obtain ⟨j, hj⟩ := List.getElem?_of_mem (sj_al_mem (L := a0 :: a1 :: a2 :: a3 :: a4 :: a5 :: a6 :: a7 :: a8 :: a9 :: some (.int (zI a)) :: tl) (i := 10) (v := .int (zI a)) |>.mpr rfl)
  exact lv_iinc (v := zI (a + z)) hx hb d hL.has hj (by rw [← zI_add]; rfl) hi rfl (fun ls' hl' => kk hC hK hr H locs ls' hR hlo (sj_L.stored (L := a0 :: a1 :: a2 :: a3 :: a4 :: a5 :: a6 :: a7 :: a8 :: a9 :: some (.int (zI a)) :: tl) (fun w _ h2 => sj_c1_ok hc (Option.some.inj h2)) hl'))
theorem sj_ild11 {a0 a1 a2 a3 a4 a5 a6 a7 a8 a9 a10 : Option Value} {tl : List (Option Value)} {v : Int32} (d : decode cc pc = .ok (.iload 11, 2)) (kk : sj_V l Γ (cc, own, nL, ret, nm, R) G post σ I k n (pc + 2) (a0 :: a1 :: a2 :: a3 :: a4 :: a5 :: a6 :: a7 :: a8 :: a9 :: a10 :: some (.int v) :: tl) (.int v :: st)) : sj_V l Γ (cc, own, nL, ret, nm, R) G post σ I k n pc (a0 :: a1 :: a2 :: a3 :: a4 :: a5 :: a6 :: a7 :: a8 :: a9 :: a10 :: some (.int v) :: tl) st := by
  obtain ⟨p, e, s, m, args, below, meth, c, Q⟩ := Γ
  intro hC hK hr H locs ls hR hlo hL
  obtain ⟨hx, hb, hml, hown, hnm⟩ := id hC
  exact lv_iload hx hb d (hL.2.2 11 _ rfl) (kk hC hK hr H locs ls hR hlo hL)
theorem sj_ald11 {a0 a1 a2 a3 a4 a5 a6 a7 a8 a9 a10 : Option Value} {tl : List (Option Value)} {v : Nat} (d : decode cc pc = .ok (.aload 11, 2)) (kk : sj_V l Γ (cc, own, nL, ret, nm, R) G post σ I k n (pc + 2) (a0 :: a1 :: a2 :: a3 :: a4 :: a5 :: a6 :: a7 :: a8 :: a9 :: a10 :: some (.ref v) :: tl) (.ref v :: st)) : sj_V l Γ (cc, own, nL, ret, nm, R) G post σ I k n pc (a0 :: a1 :: a2 :: a3 :: a4 :: a5 :: a6 :: a7 :: a8 :: a9 :: a10 :: some (.ref v) :: tl) st := by
  obtain ⟨p, e, s, m, args, below, meth, c, Q⟩ := Γ
  intro hC hK hr H locs ls hR hlo hL
  obtain ⟨hx, hb, hml, hown, hnm⟩ := id hC
  exact lv_aload hx hb d (hL.2.2 11 _ rfl) (kk hC hK hr H locs ls hR hlo hL)
theorem sj_aldN11 {a0 a1 a2 a3 a4 a5 a6 a7 a8 a9 a10 : Option Value} {tl : List (Option Value)}  (d : decode cc pc = .ok (.aload 11, 2)) (kk : sj_V l Γ (cc, own, nL, ret, nm, R) G post σ I k n (pc + 2) (a0 :: a1 :: a2 :: a3 :: a4 :: a5 :: a6 :: a7 :: a8 :: a9 :: a10 :: some (.null) :: tl) (.null :: st)) : sj_V l Γ (cc, own, nL, ret, nm, R) G post σ I k n pc (a0 :: a1 :: a2 :: a3 :: a4 :: a5 :: a6 :: a7 :: a8 :: a9 :: a10 :: some (.null) :: tl) st := by
  obtain ⟨p, e, s, m, args, below, meth, c, Q⟩ := Γ
  intro hC hK hr H locs ls hR hlo hL
  obtain ⟨hx, hb, hml, hown, hnm⟩ := id hC
  exact lv_aloadN hx hb d (hL.2.2 11 _ rfl) (kk hC hK hr H locs ls hR hlo hL)
theorem sj_ist11 {a0 a1 a2 a3 a4 a5 a6 a7 a8 a9 a10 : Option Value} {x : Option Value} {tl : List (Option Value)} {v : Int32} (hi : 11 < nL) (hc : sj_c1 a10 = true) (d : decode cc pc = .ok (.istore 11, 2)) (kk : sj_V l Γ (cc, own, nL, ret, nm, R) G post σ I k n (pc + 2) (a0 :: a1 :: a2 :: a3 :: a4 :: a5 :: a6 :: a7 :: a8 :: a9 :: a10 :: some (.int v) :: tl) st) : sj_V l Γ (cc, own, nL, ret, nm, R) G post σ I k n pc (a0 :: a1 :: a2 :: a3 :: a4 :: a5 :: a6 :: a7 :: a8 :: a9 :: a10 :: x :: tl) (.int v :: st) := by
  obtain ⟨p, e, s, m, args, below, meth, c, Q⟩ := Γ
  intro hC hK hr H locs ls hR hlo hL
  obtain ⟨hx, hb, hml, hown, hnm⟩ := id hC
  exact lv_istore hx hb d hL.has hi rfl (fun ls' hl' => kk hC hK hr H locs ls' hR hlo (sj_L.stored (L := a0 :: a1 :: a2 :: a3 :: a4 :: a5 :: a6 :: a7 :: a8 :: a9 :: a10 :: x :: tl) (fun w _ h2 => sj_c1_ok hc (Option.some.inj h2)) hl'))
theorem sj_ast11 {a0 a1 a2 a3 a4 a5 a6 a7 a8 a9 a10 : Option Value} {x : Option Value} {tl : List (Option Value)} {v : Nat} (hi : 11 < nL) (hc : sj_c1 a10 = true) (d : decode cc pc = .ok (.astore 11, 2)) (kk : sj_V l Γ (cc, own, nL, ret, nm, R) G post σ I k n (pc + 2) (a0 :: a1 :: a2 :: a3 :: a4 :: a5 :: a6 :: a7 :: a8 :: a9 :: a10 :: some (.ref v) :: tl) st) : sj_V l Γ (cc, own, nL, ret, nm, R) G post σ I k n pc (a0 :: a1 :: a2 :: a3 :: a4 :: a5 :: a6 :: a7 :: a8 :: a9 :: a10 :: x :: tl) (.ref v :: st) := by
  obtain ⟨p, e, s, m, args, below, meth, c, Q⟩ := Γ
  intro hC hK hr H locs ls hR hlo hL
  obtain ⟨hx, hb, hml, hown, hnm⟩ := id hC
  exact lv_astore hx hb d hL.has hi rfl (fun ls' hl' => kk hC hK hr H locs ls' hR hlo (sj_L.stored (L := a0 :: a1 :: a2 :: a3 :: a4 :: a5 :: a6 :: a7 :: a8 :: a9 :: a10 :: x :: tl) (fun w _ h2 => sj_c1_ok hc (Option.some.inj h2)) hl'))
theorem sj_astN11 {a0 a1 a2 a3 a4 a5 a6 a7 a8 a9 a10 : Option Value} {x : Option Value} {tl : List (Option Value)}  (hi : 11 < nL) (hc : sj_c1 a10 = true) (d : decode cc pc = .ok (.astore 11, 2)) (kk : sj_V l Γ (cc, own, nL, ret, nm, R) G post σ I k n (pc + 2) (a0 :: a1 :: a2 :: a3 :: a4 :: a5 :: a6 :: a7 :: a8 :: a9 :: a10 :: some (.null) :: tl) st) : sj_V l Γ (cc, own, nL, ret, nm, R) G post σ I k n pc (a0 :: a1 :: a2 :: a3 :: a4 :: a5 :: a6 :: a7 :: a8 :: a9 :: a10 :: x :: tl) (.null :: st) := by
  obtain ⟨p, e, s, m, args, below, meth, c, Q⟩ := Γ
  intro hC hK hr H locs ls hR hlo hL
  obtain ⟨hx, hb, hml, hown, hnm⟩ := id hC
  exact lv_astoreN hx hb d hL.has hi rfl (fun ls' hl' => kk hC hK hr H locs ls' hR hlo (sj_L.stored (L := a0 :: a1 :: a2 :: a3 :: a4 :: a5 :: a6 :: a7 :: a8 :: a9 :: a10 :: x :: tl) (fun w _ h2 => sj_c1_ok hc (Option.some.inj h2)) hl'))
theorem sj_inc11 {a0 a1 a2 a3 a4 a5 a6 a7 a8 a9 a10 : Option Value} {tl : List (Option Value)} {a z : Int} (hi : 11 < nL) (hc : sj_c1 a10 = true) (d : decode cc pc = .ok (.iinc 11 z, 3)) (kk : sj_V l Γ (cc, own, nL, ret, nm, R) G post σ I k n (pc + 3) (a0 :: a1 :: a2 :: a3 :: a4 :: a5 :: a6 :: a7 :: a8 :: a9 :: a10 :: some (.int (zI (a + z))) :: tl) st) : sj_V l Γ (cc, own, nL, ret, nm, R) G post σ I k n pc (a0 :: a1 :: a2 :: a3 :: a4 :: a5 :: a6 :: a7 :: a8 :: a9 :: a10 :: some (.int (zI a)) :: tl) st := by
  obtain ⟨p, e, s, m, args, below, meth, c, Q⟩ := Γ
  intro hC hK hr H locs ls hR hlo hL
  obtain ⟨hx, hb, hml, hown, hnm⟩ := id hC
  obtain ⟨j, hj⟩ := List.getElem?_of_mem (sj_al_mem (L := a0 :: a1 :: a2 :: a3 :: a4 :: a5 :: a6 :: a7 :: a8 :: a9 :: a10 :: some (.int (zI a)) :: tl) (i := 11) (v := .int (zI a)) |>.mpr rfl)
  exact lv_iinc (v := zI (a + z)) hx hb d hL.has hj (by rw [← zI_add]; rfl) hi rfl (fun ls' hl' => kk hC hK hr H locs ls' hR hlo (sj_L.stored (L := a0 :: a1 :: a2 :: a3 :: a4 :: a5 :: a6 :: a7 :: a8 :: a9 :: a10 :: some (.int (zI a)) :: tl) (fun w _ h2 => sj_c1_ok hc (Option.some.inj h2)) hl'))
theorem sj_ild12 {a0 a1 a2 a3 a4 a5 a6 a7 a8 a9 a10 a11 : Option Value} {tl : List (Option Value)} {v : Int32} (d : decode cc pc = .ok (.iload 12, 2)) (kk : sj_V l Γ (cc, own, nL, ret, nm, R) G post σ I k n (pc + 2) (a0 :: a1 :: a2 :: a3 :: a4 :: a5 :: a6 :: a7 :: a8 :: a9 :: a10 :: a11 :: some (.int v) :: tl) (.int v :: st)) : sj_V l Γ (cc, own, nL, ret, nm, R) G post σ I k n pc (a0 :: a1 :: a2 :: a3 :: a4 :: a5 :: a6 :: a7 :: a8 :: a9 :: a10 :: a11 :: some (.int v) :: tl) st := by
  obtain ⟨p, e, s, m, args, below, meth, c, Q⟩ := Γ
  intro hC hK hr H locs ls hR hlo hL
  obtain ⟨hx, hb, hml, hown, hnm⟩ := id hC
  exact lv_iload hx hb d (hL.2.2 12 _ rfl) (kk hC hK hr H locs ls hR hlo hL)
theorem sj_ald12 {a0 a1 a2 a3 a4 a5 a6 a7 a8 a9 a10 a11 : Option Value} {tl : List (Option Value)} {v : Nat} (d : decode cc pc = .ok (.aload 12, 2)) (kk : sj_V l Γ (cc, own, nL, ret, nm, R) G post σ I k n (pc + 2) (a0 :: a1 :: a2 :: a3 :: a4 :: a5 :: a6 :: a7 :: a8 :: a9 :: a10 :: a11 :: some (.ref v) :: tl) (.ref v :: st)) : sj_V l Γ (cc, own, nL, ret, nm, R) G post σ I k n pc (a0 :: a1 :: a2 :: a3 :: a4 :: a5 :: a6 :: a7 :: a8 :: a9 :: a10 :: a11 :: some (.ref v) :: tl) st := by
  obtain ⟨p, e, s, m, args, below, meth, c, Q⟩ := Γ
  intro hC hK hr H locs ls hR hlo hL
  obtain ⟨hx, hb, hml, hown, hnm⟩ := id hC
  exact lv_aload hx hb d (hL.2.2 12 _ rfl) (kk hC hK hr H locs ls hR hlo hL)
theorem sj_aldN12 {a0 a1 a2 a3 a4 a5 a6 a7 a8 a9 a10 a11 : Option Value} {tl : List (Option Value)}  (d : decode cc pc = .ok (.aload 12, 2)) (kk : sj_V l Γ (cc, own, nL, ret, nm, R) G post σ I k n (pc + 2) (a0 :: a1 :: a2 :: a3 :: a4 :: a5 :: a6 :: a7 :: a8 :: a9 :: a10 :: a11 :: some (.null) :: tl) (.null :: st)) : sj_V l Γ (cc, own, nL, ret, nm, R) G post σ I k n pc (a0 :: a1 :: a2 :: a3 :: a4 :: a5 :: a6 :: a7 :: a8 :: a9 :: a10 :: a11 :: some (.null) :: tl) st := by
  obtain ⟨p, e, s, m, args, below, meth, c, Q⟩ := Γ
  intro hC hK hr H locs ls hR hlo hL
  obtain ⟨hx, hb, hml, hown, hnm⟩ := id hC
  exact lv_aloadN hx hb d (hL.2.2 12 _ rfl) (kk hC hK hr H locs ls hR hlo hL)
theorem sj_ist12 {a0 a1 a2 a3 a4 a5 a6 a7 a8 a9 a10 a11 : Option Value} {x : Option Value} {tl : List (Option Value)} {v : Int32} (hi : 12 < nL) (hc : sj_c1 a11 = true) (d : decode cc pc = .ok (.istore 12, 2)) (kk : sj_V l Γ (cc, own, nL, ret, nm, R) G post σ I k n (pc + 2) (a0 :: a1 :: a2 :: a3 :: a4 :: a5 :: a6 :: a7 :: a8 :: a9 :: a10 :: a11 :: some (.int v) :: tl) st) : sj_V l Γ (cc, own, nL, ret, nm, R) G post σ I k n pc (a0 :: a1 :: a2 :: a3 :: a4 :: a5 :: a6 :: a7 :: a8 :: a9 :: a10 :: a11 :: x :: tl) (.int v :: st) := by
  obtain ⟨p, e, s, m, args, below, meth, c, Q⟩ := Γ
  intro hC hK hr H locs ls hR hlo hL
  obtain ⟨hx, hb, hml, hown, hnm⟩ := id hC
  exact lv_istore hx hb d hL.has hi rfl (fun ls' hl' => kk hC hK hr H locs ls' hR hlo (sj_L.stored (L := a0 :: a1 :: a2 :: a3 :: a4 :: a5 :: a6 :: a7 :: a8 :: a9 :: a10 :: a11 :: x :: tl) (fun w _ h2 => sj_c1_ok hc (Option.some.inj h2)) hl'))
theorem sj_ast12 {a0 a1 a2 a3 a4 a5 a6 a7 a8 a9 a10 a11 : Option Value} {x : Option Value} {tl : List (Option Value)} {v : Nat} (hi : 12 < nL) (hc : sj_c1 a11 = true) (d : decode cc pc = .ok (.astore 12, 2)) (kk : sj_V l Γ (cc, own, nL, ret, nm, R) G post σ I k n (pc + 2) (a0 :: a1 :: a2 :: a3 :: a4 :: a5 :: a6 :: a7 :: a8 :: a9 :: a10 :: a11 :: some (.ref v) :: tl) st) : sj_V l Γ (cc, own, nL, ret, nm, R) G post σ I k n pc (a0 :: a1 :: a2 :: a3 :: a4 :: a5 :: a6 :: a7 :: a8 :: a9 :: a10 :: a11 :: x :: tl) (.ref v :: st) := by
  obtain ⟨p, e, s, m, args, below, meth, c, Q⟩ := Γ
  intro hC hK hr H locs ls hR hlo hL
  obtain ⟨hx, hb, hml, hown, hnm⟩ := id hC
  exact lv_astore hx hb d hL.has hi rfl (fun ls' hl' => kk hC hK hr H locs ls' hR hlo (sj_L.stored (L := a0 :: a1 :: a2 :: a3 :: a4 :: a5 :: a6 :: a7 :: a8 :: a9 :: a10 :: a11 :: x :: tl) (fun w _ h2 => sj_c1_ok hc (Option.some.inj h2)) hl'))
theorem sj_astN12 {a0 a1 a2 a3 a4 a5 a6 a7 a8 a9 a10 a11 : Option Value} {x : Option Value} {tl : List (Option Value)}  (hi : 12 < nL) (hc : sj_c1 a11 = true) (d : decode cc pc = .ok (.astore 12, 2)) (kk : sj_V l Γ (cc, own, nL, ret, nm, R) G post σ I k n (pc + 2) (a0 :: a1 :: a2 :: a3 :: a4 :: a5 :: a6 :: a7 :: a8 :: a9 :: a10 :: a11 :: some (.null) :: tl) st) : sj_V l Γ (cc, own, nL, ret, nm, R) G post σ I k n pc (a0 :: a1 :: a2 :: a3 :: a4 :: a5 :: a6 :: a7 :: a8 :: a9 :: a10 :: a11 :: x :: tl) (.null :: st) := by
  obtain ⟨p, e, s, m, args, below, meth, c, Q⟩ := Γ
  intro hC hK hr H locs ls hR hlo hL
  obtain ⟨hx, hb, hml, hown, hnm⟩ := id hC
  exact lv_astoreN hx hb d hL.has hi rfl (fun ls' hl' => kk hC hK hr H locs ls' hR hlo (sj_L.stored (L := a0 :: a1 :: a2 :: a3 :: a4 :: a5 :: a6 :: a7 :: a8 :: a9 :: a10 :: a11 :: x :: tl) (fun w _ h2 => sj_c1_ok hc (Option.some.inj h2)) hl'))
theorem sj_inc12 {a0 a1 a2 a3 a4 a5 a6 a7 a8 a9 a10 a11 : Option Value} {tl : List (Option Value)} {a z : Int} (hi : 12 < nL) (hc : sj_c1 a11 = true) (d : decode cc pc = .ok (.iinc 12 z, 3)) (kk : sj_V l Γ (cc, own, nL, ret, nm, R) G post σ I k n (pc + 3) (a0 :: a1 :: a2 :: a3 :: a4 :: a5 :: a6 :: a7 :: a8 :: a9 :: a10 :: a11 :: some (.int (zI (a + z))) :: tl) st) : sj_V l Γ (cc, own, nL, ret, nm, R) G post σ I k n pc (a0 :: a1 :: a2 :: a3 :: a4 :: a5 :: a6 :: a7 :: a8 :: a9 :: a10 :: a11 :: some (.int (zI a)) :: tl) st := by
  obtain ⟨p, e, s, m, args, below, meth, c, Q⟩ := Γ
  intro hC hK hr H locs ls hR hlo hL
  obtain ⟨hx, hb, hml, hown, hnm⟩ := id hC
  obtain ⟨j, hj⟩ := List.getElem?_of_mem (sj_al_mem (L := a0 :: a1 :: a2 :: a3 :: a4 :: a5 :: a6 :: a7 :: a8 :: a9 :: a10 :: a11 :: some (.int (zI a)) :: tl) (i := 12) (v := .int (zI a)) |>.mpr rfl)
  exact lv_iinc (v := zI (a + z)) hx hb d hL.has hj (by rw [← zI_add]; rfl) hi rfl (fun ls' hl' => kk hC hK hr H locs ls' hR hlo (sj_L.stored (L := a0 :: a1 :: a2 :: a3 :: a4 :: a5 :: a6 :: a7 :: a8 :: a9 :: a10 :: a11 :: some (.int (zI a)) :: tl) (fun w _ h2 => sj_c1_ok hc (Option.some.inj h2)) hl'))
theorem sj_widen {k2 n2 : Nat} (h1 : k ≤ k2) (h2 : n ≤ n2) (kk : sj_V l Γ (cc, own, nL, ret, nm, R) G post σ I k2 n2 pc L st) : sj_V l Γ (cc, own, nL, ret, nm, R) G post σ I k n pc L st := by
  obtain ⟨p, e, s, m, args, below, meth, c, Q⟩ := Γ
  intro hC hK hr H locs ls hR hlo hL
  obtain ⟨hx, hb, hml, hown, hnm⟩ := id hC
  exact W.widen h1 h2 (kk hC hK hr H locs ls hR hlo hL)
theorem sj_wfI  (kk : (∀ (a : Nat) (x : sjSh), σ.2 a = some x → a < σ.1) → sj_V l Γ (cc, own, nL, ret, nm, R) G post σ I k n pc L st) : sj_V l Γ (cc, own, nL, ret, nm, R) G post σ I k n pc L st := by
  obtain ⟨p, e, s, m, args, below, meth, c, Q⟩ := Γ
  intro hC hK hr H locs ls hR hlo hL
  obtain ⟨hx, hb, hml, hown, hnm⟩ := id hC
  exact kk (fun a x h => hR.lt h) hC hK hr H locs ls hR hlo hL
theorem sj_iret {v : Int32} {ty : FieldType} (d : decode cc pc = .ok (.ireturn, 1)) (hty : ret = some ty) (hn : narrow ty (.int v) = .int v) (hk : k ≤ R.cells) (hs : n ≤ R.slots) (hp : post (some (.int v)) σ I) : sj_V l Γ (cc, own, nL, ret, nm, R) G post σ I k n pc L [.int v] := by
  obtain ⟨p, e, s, m, args, below, meth, c, Q⟩ := Γ
  intro hC hK hr H locs ls hR hlo hL
  obtain ⟨hx, hb, hml, hown, hnm⟩ := id hC
  exact (hr H locs k n pc ls σ I hR hlo hk hs).1 v ty d hty hn hp
theorem sj_vret (d : decode cc pc = .ok (.return_, 1)) (hty : ret = none) (hk : k ≤ R.cells) (hs : n ≤ R.slots) (hp : post none σ I) : sj_V l Γ (cc, own, nL, ret, nm, R) G post σ I k n pc L [] := by
  obtain ⟨p, e, s, m, args, below, meth, c, Q⟩ := Γ
  intro hC hK hr H locs ls hR hlo hL
  obtain ⟨hx, hb, hml, hown, hnm⟩ := id hC
  exact (hr H locs k n pc ls σ I hR hlo hk hs).2.1 d hty hp
theorem sj_aret {v : Value} {ty : FieldType} (d : decode cc pc = .ok (.areturn, 1)) (hty : ret = some ty) (ht : (∃ x, ty = .object x) ∨ ∃ t, ty = .array t) (hv : v = .null ∨ ∃ a, v = .ref a) (hk : k ≤ R.cells) (hs : n ≤ R.slots) (hp : post (some v) σ I) : sj_V l Γ (cc, own, nL, ret, nm, R) G post σ I k n pc L [v] := by
  obtain ⟨p, e, s, m, args, below, meth, c, Q⟩ := Γ
  intro hC hK hr H locs ls hR hlo hL
  obtain ⟨hx, hb, hml, hown, hnm⟩ := id hC
  exact (hr H locs k n pc ls σ I hR hlo hk hs).2.2 v ty d hty ht hv hp
end ROWS
end
section
/-! what the tables say of the classes -/
def sj_clOk (κ : Nat) (q : vw_C) : Prop := (∀ w ∈ u_ws q.1 q.2.1 q.2.2, sj_in w) ∧ ∃ ty : Nat → FieldType, (∀ k, k < q.2.2 → parseFieldDescriptor (q.2.1 k).2.2.1 = some (ty k)) ∧ (∀ a, a < q.2.2 → ∀ b, b < q.2.2 → a ≠ b → (q.2.1 a).2.1 ≠ (q.2.1 b).2.1) ∧ (∀ k, k < q.2.2 → defaultValue (ty k) = sj_fv κ (fun _ => none) (fun _ => 0) k)
theorem sj_lay {C : String} {T : u_T} {N : Nat} (h : ∀ k, k < N → u_lay C T k ∈ lw_tbl ∧ sj_good (u_lay C T k) = true) : ∀ w ∈ u_ws C T N, sj_in w := by
  intro w hw
  obtain ⟨k, hk, rfl⟩ := List.mem_map.mp hw
  exact h k (List.mem_range.mp hk)
theorem sj_cl0 : sj_clOk 0 (RX1, TX1, 3) := ⟨sj_lay (by decide +kernel), tyX1, tyX1_ok, nmX1, by decide +kernel⟩
theorem sj_cl1 : sj_clOk 1 (RX2, TX2, 2) := ⟨sj_lay (by decide +kernel), tyX2, tyX2_ok, nmX2, by decide +kernel⟩
theorem sj_cl2 : sj_clOk 2 (RX3, TX3, 3) := ⟨sj_lay (by decide +kernel), tyX3, tyX3_ok, nmX3, by decide +kernel⟩
theorem sj_cl3 : sj_clOk 3 (RX4, TX4, 4) := ⟨sj_lay (by decide +kernel), tyX4, tyX4_ok, nmX4, by decide +kernel⟩
theorem sj_cl4 : sj_clOk 4 (RX5, TX5, 4) := ⟨sj_lay (by decide +kernel), tyX5, tyX5_ok, nmX5, by decide +kernel⟩
theorem sj_cl5 : sj_clOk 5 (RX6, TX6, 3) := ⟨sj_lay (by decide +kernel), tyX6, tyX6_ok, nmX6, by decide +kernel⟩
theorem sj_cl6 : sj_clOk 6 (RX7, TX7, 4) := ⟨sj_lay (by decide +kernel), tyX7, tyX7_ok, nmX7, by decide +kernel⟩
theorem sj_cl7 : sj_clOk 7 (RX8, TX8, 4) := ⟨sj_lay (by decide +kernel), tyX8, tyX8_ok, nmX8, by decide +kernel⟩
theorem sj_cl8 : sj_clOk 8 (RX9, TX9, 9) := ⟨sj_lay (by decide +kernel), tyX9, tyX9_ok, nmX9, by decide +kernel⟩
theorem sj_cl9 : sj_clOk 9 (RX10, TX10, 31) := ⟨sj_lay (by decide +kernel), tyX10, tyX10_ok, nmX10, by decide +kernel⟩
theorem sj_cl (κ : Nat) (q : vw_C) (h : vwCl[κ]? = some q) : κ < 10 ∧ sj_clOk κ q := by
  match κ, h with
  | 0, h => cases h; exact ⟨by decide, sj_cl0⟩
  | 1, h => cases h; exact ⟨by decide, sj_cl1⟩
  | 2, h => cases h; exact ⟨by decide, sj_cl2⟩
  | 3, h => cases h; exact ⟨by decide, sj_cl3⟩
  | 4, h => cases h; exact ⟨by decide, sj_cl4⟩
  | 5, h => cases h; exact ⟨by decide, sj_cl5⟩
  | 6, h => cases h; exact ⟨by decide, sj_cl6⟩
  | 7, h => cases h; exact ⟨by decide, sj_cl7⟩
  | 8, h => cases h; exact ⟨by decide, sj_cl8⟩
  | 9, h => cases h; exact ⟨by decide, sj_cl9⟩
  | k + 10, h => simp [vwCl] at h
def sj_fl (own : String) (idx κ k : Nat) (ty : FieldType) (fin : Bool) : Prop := ∃ q : vw_C, vwCl[κ]? = some q ∧ k < q.2.2 ∧ sj_in (.fieldLink own idx (q.2.1 k).1 (q.2.1 k).2.1 (q.2.1 k).2.2.1) ∧ parseFieldDescriptor (q.2.1 k).2.2.1 = some ty ∧ (q.2.1 k).2.2.2 = fin ∧ (q.2.1 k).1 = q.1
def sj_fn (own : String) (idx κ k : Nat) : Prop := ∃ (q : vw_C) (host : String), vwCl[κ]? = some q ∧ k < q.2.2 ∧ sj_in (.fieldLinkNest own idx (q.2.1 k).1 (q.2.1 k).2.1 (q.2.1 k).2.2.1 host)
def sj_ru (ρ : Nat → Option Nat) (k : Nat) (b : Option Nat) : Nat → Option Nat := fun j => if j = k then b else ρ j
theorem sj_obj {G : sjG} {H : Heap} {a κ n0 : Nat} {ρ : Nat → Option Nat} {f : Nat → Int} {q : vw_C} (hq : vwCl[κ]? = some q) (h : sj_cell G H a (κ, n0, ρ) f) : t_OB a (G.1 κ) q.2.2 (G.2.1 κ) H (sj_fv κ ρ f) := by
  unfold sj_cell at h
  rw [if_pos (sj_cl κ q hq).1] at h
  obtain ⟨r, h1, h2⟩ := h
  cases hq.symm.trans h1
  exact h2
theorem sj_obj' {G : sjG} {H : Heap} {a κ n0 : Nat} {ρ : Nat → Option Nat} {f : Nat → Int} {q : vw_C} (hq : vwCl[κ]? = some q) (h : t_OB a (G.1 κ) q.2.2 (G.2.1 κ) H (sj_fv κ ρ f)) : sj_cell G H a (κ, n0, ρ) f := by
  unfold sj_cell
  rw [if_pos (sj_cl κ q hq).1]
  exact ⟨q, hq, h⟩
section HEAP
variable {l : Launch} {Γ : sjC} {cc : ByteArray} {own nm : String} {nL : Nat} {ret : Option FieldType} {R : Room} {G : sjG} {post : sjP} {σ : sjS} {I : sjI} {k n pc : Nat} {L : List (Option Value)} {st : List Value}
theorem sj_getV {idx κ j n0 a : Nat} {ρ : Nat → Option Nat} {ty : FieldType} {fin : Bool} (f : sj_fl own idx κ j ty fin) (hσ : σ.2 a = some (κ, n0, ρ)) (d : decode cc pc = .ok (.getfield idx, 3)) (kk : sj_V l Γ (cc, own, nL, ret, nm, R) G post σ I k n (pc + 3) L (sj_fv κ ρ (I a) j :: st)) : sj_V l Γ (cc, own, nL, ret, nm, R) G post σ I k n pc L (.ref a :: st) := by
  obtain ⟨p, e, s, m, args, below, meth, c, Q⟩ := Γ
  intro hC hK hr H locs ls hR hlo hL
  obtain ⟨hx, hb, hml, hown, hnm⟩ := id hC
  obtain ⟨q, hq, hk, hw, -, -, -⟩ := f
  obtain ⟨cell, q1, q2, q3, q4⟩ := sj_obj hq (hR.2.2 a _ hσ).2
  obtain ⟨hS, hfc, kC, hkC, hkind⟩ := hK.1.1 κ _ hq
  obtain ⟨cf, kf, fi, f, hi, hsl⟩ := hS j hk
  have hlay := u_lays (fun w h => hK.word ((sj_cl κ q hq).2.1 w h) args) (fun _ h => h) hk
  refine W.getf hx hb hown (hK.word hw args) hi (u_facts hfc hkC hlay hi).1 q1 (by rw [q3]; exact fun h => by cases h) (v := sj_fv κ ρ (I a) j) ?_ rfl rfl d (kk hC hK hr H locs ls hR hlo hL)
  have hsl' : f.slot = G.2.1 κ j := hsl
  rw [hsl']
  exact q4 j hk
theorem sj_getVN {idx κ j n0 a : Nat} {ρ : Nat → Option Nat} (f : sj_fn own idx κ j) (hσ : σ.2 a = some (κ, n0, ρ)) (d : decode cc pc = .ok (.getfield idx, 3)) (kk : sj_V l Γ (cc, own, nL, ret, nm, R) G post σ I k n (pc + 3) L (sj_fv κ ρ (I a) j :: st)) : sj_V l Γ (cc, own, nL, ret, nm, R) G post σ I k n pc L (.ref a :: st) := by
  obtain ⟨p, e, s, m, args, below, meth, c, Q⟩ := Γ
  intro hC hK hr H locs ls hR hlo hL
  obtain ⟨hx, hb, hml, hown, hnm⟩ := id hC
  obtain ⟨q, host, hq, hk, hw⟩ := f
  obtain ⟨cell, q1, q2, q3, q4⟩ := sj_obj hq (hR.2.2 a _ hσ).2
  obtain ⟨hS, hfc, kC, hkC, hkind⟩ := hK.1.1 κ _ hq
  obtain ⟨cf, kf, fi, f, hi, hsl⟩ := hS j hk
  have hlay := u_lays (fun w h => hK.word ((sj_cl κ q hq).2.1 w h) args) (fun _ h => h) hk
  refine va_Wgetf hx hb hown (hK.word hw args) hi (u_facts hfc hkC hlay hi).1 q1 (by rw [q3]; exact fun h => by cases h) (v := sj_fv κ ρ (I a) j) ?_ rfl rfl d (kk hC hK hr H locs ls hR hlo hL)
  have hsl' : f.slot = G.2.1 κ j := hsl
  rw [hsl']
  exact q4 j hk
theorem sj_fvI {κ j : Nat} {ρ : Nat → Option Nat} {f : Nat → Int} (h : sj_rf κ j = false) : sj_fv κ ρ f j = .int (zI (f j)) := by simp [sj_fv, h]
theorem sj_fvR {κ j b : Nat} {ρ : Nat → Option Nat} {f : Nat → Int} (h : sj_rf κ j = true) (hb : ρ j = some b) : sj_fv κ ρ f j = .ref b := by simp [sj_fv, h, hb, va_rf]
theorem sj_fvN {κ j : Nat} {ρ : Nat → Option Nat} {f : Nat → Int} (h : sj_rf κ j = true) (hb : ρ j = none) : sj_fv κ ρ f j = .null := by simp [sj_fv, h, hb, va_rf]
theorem sj_getI {idx κ j n0 a : Nat} {ρ : Nat → Option Nat} {ty : FieldType} {fin : Bool} (f : sj_fl own idx κ j ty fin) (hσ : σ.2 a = some (κ, n0, ρ)) (hj : sj_rf κ j = false) (d : decode cc pc = .ok (.getfield idx, 3)) (kk : sj_V l Γ (cc, own, nL, ret, nm, R) G post σ I k n (pc + 3) L (.int (zI (I a j)) :: st)) : sj_V l Γ (cc, own, nL, ret, nm, R) G post σ I k n pc L (.ref a :: st) := sj_getV f hσ d (by rw [sj_fvI hj]; exact kk)
theorem sj_getR {idx κ j n0 a : Nat} {ρ : Nat → Option Nat} {ty : FieldType} {fin : Bool} {b : Nat} (f : sj_fl own idx κ j ty fin) (hσ : σ.2 a = some (κ, n0, ρ)) (hj : sj_rf κ j = true) (hb : ρ j = some b) (d : decode cc pc = .ok (.getfield idx, 3)) (kk : sj_V l Γ (cc, own, nL, ret, nm, R) G post σ I k n (pc + 3) L (.ref b :: st)) : sj_V l Γ (cc, own, nL, ret, nm, R) G post σ I k n pc L (.ref a :: st) := sj_getV f hσ d (by rw [sj_fvR hj hb]; exact kk)
theorem sj_getNull {idx κ j n0 a : Nat} {ρ : Nat → Option Nat} {ty : FieldType} {fin : Bool} (f : sj_fl own idx κ j ty fin) (hσ : σ.2 a = some (κ, n0, ρ)) (hj : sj_rf κ j = true) (hb : ρ j = none) (d : decode cc pc = .ok (.getfield idx, 3)) (kk : sj_V l Γ (cc, own, nL, ret, nm, R) G post σ I k n (pc + 3) L (.null :: st)) : sj_V l Γ (cc, own, nL, ret, nm, R) G post σ I k n pc L (.ref a :: st) := sj_getV f hσ d (by rw [sj_fvN hj hb]; exact kk)
theorem sj_getIN {idx κ j n0 a : Nat} {ρ : Nat → Option Nat} (f : sj_fn own idx κ j) (hσ : σ.2 a = some (κ, n0, ρ)) (hj : sj_rf κ j = false) (d : decode cc pc = .ok (.getfield idx, 3)) (kk : sj_V l Γ (cc, own, nL, ret, nm, R) G post σ I k n (pc + 3) L (.int (zI (I a j)) :: st)) : sj_V l Γ (cc, own, nL, ret, nm, R) G post σ I k n pc L (.ref a :: st) := sj_getVN f hσ d (by rw [sj_fvI hj]; exact kk)
theorem sj_getRN {idx κ j n0 a : Nat} {ρ : Nat → Option Nat} {b : Nat} (f : sj_fn own idx κ j) (hσ : σ.2 a = some (κ, n0, ρ)) (hj : sj_rf κ j = true) (hb : ρ j = some b) (d : decode cc pc = .ok (.getfield idx, 3)) (kk : sj_V l Γ (cc, own, nL, ret, nm, R) G post σ I k n (pc + 3) L (.ref b :: st)) : sj_V l Γ (cc, own, nL, ret, nm, R) G post σ I k n pc L (.ref a :: st) := sj_getVN f hσ d (by rw [sj_fvR hj hb]; exact kk)
theorem sj_getNullN {idx κ j n0 a : Nat} {ρ : Nat → Option Nat} (f : sj_fn own idx κ j) (hσ : σ.2 a = some (κ, n0, ρ)) (hj : sj_rf κ j = true) (hb : ρ j = none) (d : decode cc pc = .ok (.getfield idx, 3)) (kk : sj_V l Γ (cc, own, nL, ret, nm, R) G post σ I k n (pc + 3) L (.null :: st)) : sj_V l Γ (cc, own, nL, ret, nm, R) G post σ I k n pc L (.ref a :: st) := sj_getVN f hσ d (by rw [sj_fvN hj hb]; exact kk)
theorem sj_putV {idx κ j n0 a : Nat} {ρ ρ' : Nat → Option Nat} {g : Nat → Int} {ty : FieldType} {v : Value} (f : sj_fl own idx κ j ty false) (hσ : σ.2 a = some (κ, n0, ρ)) (hn : narrow ty v = v) (hfit : fits ty v = true) (hv : ∀ i, sj_fv κ ρ' g i = if i = j then v else sj_fv κ ρ (I a) i) (d : decode cc pc = .ok (.putfield idx, 3)) (kk : sj_V l Γ (cc, own, nL, ret, nm, R) G post (sj_us σ a (κ, n0, ρ')) (sj_ur I a g) k n (pc + 3) L st) : sj_V l Γ (cc, own, nL, ret, nm, R) G post σ I k n pc L (v :: .ref a :: st) := by
  obtain ⟨p, e, s, m, args, below, meth, c, Q⟩ := Γ
  intro hC hK hr H locs ls hR hlo hL
  obtain ⟨hx, hb, hml, hown, hnm⟩ := id hC
  obtain ⟨q, hq, hk, hw, hty, hfin, hdecl⟩ := f
  
  obtain ⟨hlo2, hcell⟩ := hR.2.2 a _ hσ
  obtain ⟨cell, q1, q2, q3, q4⟩ := sj_obj hq hcell
  obtain ⟨hS, hfc, kC, hkC, hkind⟩ := hK.1.1 κ _ hq
  obtain ⟨hws, tys, hty2, hnmm, -⟩ := (sj_cl κ q hq).2
  obtain ⟨cf, kf, fi, f, hi, hsl⟩ := hS j hk
  have hsl' : f.slot = G.2.1 κ j := hsl
  have hts : ∀ w ∈ u_ws q.1 q.2.1 q.2.2, w.before args s = true := fun w h => hK.word (hws w h) args
  have hlays := hts _ (u_in_lay hk)
  have hlay := u_lays hts (fun _ h => h) hk
  have hap := va_apart (own := own) (D := (G.1, G.2.1)) (ci := κ) hts (fun _ h => h) tys hty2 hnmm hK.1 hq
  have h6 := u_store hfc hkC hkind (by have h := hlays; unfold u_lay at h; rw [if_neg (by rw [hfin]; decide)] at h; exact h) hi hty hn hfit
  refine W.putK hx hb (f := f) ⟨hown, hK.word hw args, ⟨_, _, _, hi⟩, (u_facts hfc hkC hlay hi).1⟩ (by rw [q2]; exact h6) q1 q3 (by rw [hsl']; exact k2_hasslot (q4 j hk)) rfl rfl d fun H1 e1 e2 e3 => ?_
  rw [hsl'] at e1
  have hob : t_OB a (G.1 κ) q.2.2 (G.2.1 κ) H1 (sj_fv κ ρ' g) := t_OB.to ⟨_, e1, q2, q3, t_set q4 hap hk v⟩ (fun i _ => by rw [hv i]; rfl)
  exact kk hC hK hr H1 _ ls (hR.put hlo2 e2 e3 (sj_obj' hq hob)) (fun z hz => by
    rcases List.mem_append.mp hz with h | h
    · exact hlo z h
    · rw [List.mem_singleton.mp h]; exact hlo2) hL
theorem sj_putI {idx κ j n0 a : Nat} {ρ : Nat → Option Nat} {ty : FieldType} {x : Int} (f : sj_fl own idx κ j ty false) (hσ : σ.2 a = some (κ, n0, ρ)) (hj : sj_rf κ j = false) (hn : narrow ty (.int (zI x)) = .int (zI x)) (hfit : fits ty (.int (zI x)) = true) (d : decode cc pc = .ok (.putfield idx, 3)) (kk : sj_V l Γ (cc, own, nL, ret, nm, R) G post σ (sj_up I a j x) k n (pc + 3) L st) : sj_V l Γ (cc, own, nL, ret, nm, R) G post σ I k n pc L (.int (zI x) :: .ref a :: st) := by
  refine sj_putV (ρ' := ρ) (g := fun i => if i = j then x else I a i) f hσ hn hfit (fun i => ?_) d ?_
  · by_cases h : i = j
    · subst h; rw [if_pos rfl, sj_fvI hj, if_pos rfl]
    · rw [if_neg h]; simp [sj_fv, h]
  · rw [sj_us_same hσ, sj_ur_up]; exact kk
theorem sj_putR {idx κ j n0 a : Nat} {ρ : Nat → Option Nat} {ty : FieldType} {b : Nat} (f : sj_fl own idx κ j ty false) (hσ : σ.2 a = some (κ, n0, ρ)) (hj : sj_rf κ j = true) (hn : narrow ty (.ref b) = .ref b) (hfit : fits ty (.ref b) = true) (d : decode cc pc = .ok (.putfield idx, 3)) (kk : sj_V l Γ (cc, own, nL, ret, nm, R) G post (sj_us σ a (κ, n0, sj_ru ρ j (some b))) I k n (pc + 3) L st) : sj_V l Γ (cc, own, nL, ret, nm, R) G post σ I k n pc L (.ref b :: .ref a :: st) := by
  refine sj_putV (ρ' := sj_ru ρ j (some b)) (g := I a) f hσ hn hfit (fun i => ?_) d ?_
  · by_cases h : i = j
    · subst h; rw [if_pos rfl]; simp [sj_fv, sj_ru, hj, va_rf]
    · rw [if_neg h]; simp [sj_fv, sj_ru, h]
  · rw [sj_ur_same]; exact kk
theorem sj_putNull {idx κ j n0 a : Nat} {ρ : Nat → Option Nat} {ty : FieldType} (f : sj_fl own idx κ j ty false) (hσ : σ.2 a = some (κ, n0, ρ)) (hj : sj_rf κ j = true) (hn : narrow ty (.null) = .null) (hfit : fits ty (.null) = true) (d : decode cc pc = .ok (.putfield idx, 3)) (kk : sj_V l Γ (cc, own, nL, ret, nm, R) G post (sj_us σ a (κ, n0, sj_ru ρ j (none))) I k n (pc + 3) L st) : sj_V l Γ (cc, own, nL, ret, nm, R) G post σ I k n pc L (.null :: .ref a :: st) := by
  refine sj_putV (ρ' := sj_ru ρ j (none)) (g := I a) f hσ hn hfit (fun i => ?_) d ?_
  · by_cases h : i = j
    · subst h; rw [if_pos rfl]; simp [sj_fv, sj_ru, hj, va_rf]
    · rw [if_neg h]; simp [sj_fv, sj_ru, h]
  · rw [sj_ur_same]; exact kk
theorem sj_putVF {idx κ j n0 a : Nat} {ρ ρ' : Nat → Option Nat} {g : Nat → Int} {ty : FieldType} {v : Value} (f : sj_fl own idx κ j ty true) (hσ : σ.2 a = some (κ, n0, ρ)) (hn : narrow ty v = v) (hfit : fits ty v = true) (hin : nm = "<init>") (hcq : ∀ q : vw_C, vwCl[κ]? = some q → q.1 = own) (hv : ∀ i, sj_fv κ ρ' g i = if i = j then v else sj_fv κ ρ (I a) i) (d : decode cc pc = .ok (.putfield idx, 3)) (kk : sj_V l Γ (cc, own, nL, ret, nm, R) G post (sj_us σ a (κ, n0, ρ')) (sj_ur I a g) k n (pc + 3) L st) : sj_V l Γ (cc, own, nL, ret, nm, R) G post σ I k n pc L (v :: .ref a :: st) := by
  obtain ⟨p, e, s, m, args, below, meth, c, Q⟩ := Γ
  intro hC hK hr H locs ls hR hlo hL
  obtain ⟨hx, hb, hml, hown, hnm⟩ := id hC
  obtain ⟨q, hq, hk, hw, hty, hfin, hdecl⟩ := f
  have hcq := hcq q hq
  obtain ⟨hlo2, hcell⟩ := hR.2.2 a _ hσ
  obtain ⟨cell, q1, q2, q3, q4⟩ := sj_obj hq hcell
  obtain ⟨hS, hfc, kC, hkC, hkind⟩ := hK.1.1 κ _ hq
  obtain ⟨hws, tys, hty2, hnmm, -⟩ := (sj_cl κ q hq).2
  obtain ⟨cf, kf, fi, f, hi, hsl⟩ := hS j hk
  have hsl' : f.slot = G.2.1 κ j := hsl
  have hts : ∀ w ∈ u_ws q.1 q.2.1 q.2.2, w.before args s = true := fun w h => hK.word (hws w h) args
  have hlays := hts _ (u_in_lay hk)
  have hlay := u_lays hts (fun _ h => h) hk
  have hap := va_apart (own := own) (D := (G.1, G.2.1)) (ci := κ) hts (fun _ h => h) tys hty2 hnmm hK.1 hq
  have hlf : (Cond.laysFinal q.1 (q.2.1 j).1 (q.2.1 j).2.1 (q.2.1 j).2.2.1).before args s = true := by have h := hlays; unfold u_lay at h; rw [if_pos hfin] at h; exact h
  have hcf : m.cls = cf := by
    obtain ⟨_, _, c', _, _, _, -, -, hf', -, -, -, hown2, -⟩ := Cond.laysFinal_spec hlf
    have e1 : c' = cf := by have := hi.symm.trans hf'; simp at this; exact this.1.symm
    rw [hdecl, hcq] at hown2
    rw [← e1]; exact Option.some.inj (hown.symm.trans hown2)
  have h6 := u_fits hfc hkC hkind (Or.inr hlf) hi hty hn hfit
  refine W.putFinK hx hb hown (hK.word hw args) hi (u_facts hfc hkC hlay hi).1 hcf (hnm.trans hin) (by rw [q2]; exact h6) q1 q3 (by rw [hsl']; exact k2_hasslot (q4 j hk)) rfl rfl d fun H1 e1 e2 e3 => ?_
  rw [hsl'] at e1
  have hob : t_OB a (G.1 κ) q.2.2 (G.2.1 κ) H1 (sj_fv κ ρ' g) := t_OB.to ⟨_, e1, q2, q3, t_set q4 hap hk v⟩ (fun i _ => by rw [hv i]; rfl)
  exact kk hC hK hr H1 _ ls (hR.put hlo2 e2 e3 (sj_obj' hq hob)) (fun z hz => by
    rcases List.mem_append.mp hz with h | h
    · exact hlo z h
    · rw [List.mem_singleton.mp h]; exact hlo2) hL
theorem sj_putIF {idx κ j n0 a : Nat} {ρ : Nat → Option Nat} {ty : FieldType} {x : Int} (f : sj_fl own idx κ j ty true) (hσ : σ.2 a = some (κ, n0, ρ)) (hj : sj_rf κ j = false) (hn : narrow ty (.int (zI x)) = .int (zI x)) (hfit : fits ty (.int (zI x)) = true) (hin : nm = "<init>") (hcq : ∀ q : vw_C, vwCl[κ]? = some q → q.1 = own) (d : decode cc pc = .ok (.putfield idx, 3)) (kk : sj_V l Γ (cc, own, nL, ret, nm, R) G post σ (sj_up I a j x) k n (pc + 3) L st) : sj_V l Γ (cc, own, nL, ret, nm, R) G post σ I k n pc L (.int (zI x) :: .ref a :: st) := by
  refine sj_putVF (ρ' := ρ) (g := fun i => if i = j then x else I a i) f hσ hn hfit hin hcq (fun i => ?_) d ?_
  · by_cases h : i = j
    · subst h; rw [if_pos rfl, sj_fvI hj, if_pos rfl]
    · rw [if_neg h]; simp [sj_fv, h]
  · rw [sj_us_same hσ, sj_ur_up]; exact kk
theorem sj_putRF {idx κ j n0 a : Nat} {ρ : Nat → Option Nat} {ty : FieldType} {b : Nat} (f : sj_fl own idx κ j ty true) (hσ : σ.2 a = some (κ, n0, ρ)) (hj : sj_rf κ j = true) (hn : narrow ty (.ref b) = .ref b) (hfit : fits ty (.ref b) = true) (hin : nm = "<init>") (hcq : ∀ q : vw_C, vwCl[κ]? = some q → q.1 = own) (d : decode cc pc = .ok (.putfield idx, 3)) (kk : sj_V l Γ (cc, own, nL, ret, nm, R) G post (sj_us σ a (κ, n0, sj_ru ρ j (some b))) I k n (pc + 3) L st) : sj_V l Γ (cc, own, nL, ret, nm, R) G post σ I k n pc L (.ref b :: .ref a :: st) := by
  refine sj_putVF (ρ' := sj_ru ρ j (some b)) (g := I a) f hσ hn hfit hin hcq (fun i => ?_) d ?_
  · by_cases h : i = j
    · subst h; rw [if_pos rfl]; simp [sj_fv, sj_ru, hj, va_rf]
    · rw [if_neg h]; simp [sj_fv, sj_ru, h]
  · rw [sj_ur_same]; exact kk
theorem sj_putNullF {idx κ j n0 a : Nat} {ρ : Nat → Option Nat} {ty : FieldType} (f : sj_fl own idx κ j ty true) (hσ : σ.2 a = some (κ, n0, ρ)) (hj : sj_rf κ j = true) (hn : narrow ty (.null) = .null) (hfit : fits ty (.null) = true) (hin : nm = "<init>") (hcq : ∀ q : vw_C, vwCl[κ]? = some q → q.1 = own) (d : decode cc pc = .ok (.putfield idx, 3)) (kk : sj_V l Γ (cc, own, nL, ret, nm, R) G post (sj_us σ a (κ, n0, sj_ru ρ j (none))) I k n (pc + 3) L st) : sj_V l Γ (cc, own, nL, ret, nm, R) G post σ I k n pc L (.null :: .ref a :: st) := by
  refine sj_putVF (ρ' := sj_ru ρ j (none)) (g := I a) f hσ hn hfit hin hcq (fun i => ?_) d ?_
  · by_cases h : i = j
    · subst h; rw [if_pos rfl]; simp [sj_fv, sj_ru, hj, va_rf]
    · rw [if_neg h]; simp [sj_fv, sj_ru, h]
  · rw [sj_ur_same]; exact kk
theorem sj_arr {G : sjG} {H : Heap} {a κ n0 : Nat} {ρ : Nat → Option Nat} {f : Nat → Int} (h1 : κ = 10 ∨ κ = 12) (h : sj_cell G H a (κ, n0, ρ) f) : H[a]? = some (arrV (G.2.2.1 κ) n0 (fun j => .int (zI (f j)))) := by
  unfold sj_cell at h
  rw [if_neg (by show ¬ κ < 10; omega), if_neg (by show ¬ κ = 11; omega), if_pos h1] at h
  exact h
theorem sj_arr' {G : sjG} {H : Heap} {a κ n0 : Nat} {ρ : Nat → Option Nat} {f : Nat → Int} (h1 : κ = 10 ∨ κ = 12) (h : H[a]? = some (arrV (G.2.2.1 κ) n0 (fun j => .int (zI (f j))))) : sj_cell G H a (κ, n0, ρ) f := by
  unfold sj_cell
  rw [if_neg (by show ¬ κ < 10; omega), if_neg (by show ¬ κ = 11; omega), if_pos h1]
  exact h
theorem sj_arrL {G : sjG} {H : Heap} {a n0 : Nat} {ρ : Nat → Option Nat} {f : Nat → Int} : sj_cell G H a (11, n0, ρ) f ↔ H[a]? = some (arrV (G.2.2.1 11) n0 (fun j => .long (zL (f j)))) := by
  unfold sj_cell
  rw [if_neg (by show ¬ 11 < 10; omega), if_pos rfl]
theorem sj_arrQ {G : sjG} {H : Heap} {a κ n0 : Nat} {ρ : Nat → Option Nat} {f : Nat → Int} (h1 : 13 ≤ κ) : sj_cell G H a (κ, n0, ρ) f ↔ H[a]? = some (arrV (G.2.2.1 κ) n0 (fun j => va_rf (ρ j))) := by
  unfold sj_cell
  rw [if_neg (by show ¬ κ < 10; omega), if_neg (by show ¬ κ = 11; omega), if_neg (by show ¬ (κ = 10 ∨ κ = 12); omega)]
theorem sj_iald {a n0 : Nat} {ρ : Nat → Option Nat} {i : Int} (hσ : σ.2 a = some (10, n0, ρ)) (hi : 0 ≤ i ∧ i < n0) (hz : n0 ≤ 2147483647) (d : decode cc pc = .ok (.iaload, 1)) (kk : sj_V l Γ (cc, own, nL, ret, nm, R) G post σ I k n (pc + 1) L (.int (zI (I a i.toNat)) :: st)) : sj_V l Γ (cc, own, nL, ret, nm, R) G post σ I k n pc L (.int (zI i) :: .ref a :: st) := by
  obtain ⟨p, e, s, m, args, below, meth, c, Q⟩ := Γ
  intro hC hK hr H locs ls hR hlo hL
  obtain ⟨hx, hb, hml, hown, hnm⟩ := id hC
  have hc := sj_arr (by decide) (hR.2.2 a _ hσ).2
  refine W.iald hx hb hc ((hK.1.2 0 _ rfl).1 n0 _) (fun q => by cases q) (by rw [arrV_size]; exact zI_in hi hz) (v := .int (zI (I a i.toNat))) (by rw [zI_cl (by omega), arrV_read _ _ (by omega)]) rfl rfl d (kk hC hK hr H locs ls hR hlo hL)
theorem sj_zald {a n0 : Nat} {ρ : Nat → Option Nat} {i : Int} (hσ : σ.2 a = some (12, n0, ρ)) (hi : 0 ≤ i ∧ i < n0) (hz : n0 ≤ 2147483647) (d : decode cc pc = .ok (.baload, 1)) (kk : sj_V l Γ (cc, own, nL, ret, nm, R) G post σ I k n (pc + 1) L (.int (zI (I a i.toNat)) :: st)) : sj_V l Γ (cc, own, nL, ret, nm, R) G post σ I k n pc L (.int (zI i) :: .ref a :: st) := by
  obtain ⟨p, e, s, m, args, below, meth, c, Q⟩ := Γ
  intro hC hK hr H locs ls hR hlo hL
  obtain ⟨hx, hb, hml, hown, hnm⟩ := id hC
  have hc := sj_arr (by decide) (hR.2.2 a _ hσ).2
  refine W.zald hx hb hc ((hK.1.2 2 _ rfl).1 n0 _) (fun q => by cases q) (by rw [arrV_size]; exact zI_in hi hz) (v := .int (zI (I a i.toNat))) (by rw [zI_cl (by omega), arrV_read _ _ (by omega)]) rfl rfl d (kk hC hK hr H locs ls hR hlo hL)
theorem sj_iast {a n0 : Nat} {ρ : Nat → Option Nat} {i x : Int} (hσ : σ.2 a = some (10, n0, ρ)) (hi : 0 ≤ i ∧ i < n0) (hz : n0 ≤ 2147483647) (d : decode cc pc = .ok (.iastore, 1)) (kk : sj_V l Γ (cc, own, nL, ret, nm, R) G post σ (sj_up I a i.toNat x) k n (pc + 1) L st) : sj_V l Γ (cc, own, nL, ret, nm, R) G post σ I k n pc L (.int (zI x) :: .int (zI i) :: .ref a :: st) := by
  obtain ⟨p, e, s, m, args, below, meth, c, Q⟩ := Γ
  intro hC hK hr H locs ls hR hlo hL
  obtain ⟨hx, hb, hml, hown, hnm⟩ := id hC
  obtain ⟨hlo2, hcell⟩ := hR.2.2 a _ hσ
  have hc := sj_arr (by decide) hcell
  refine W.iast hx hb hc ((hK.1.2 0 _ rfl).1 n0 _) (fun q => by cases q) (by rw [arrV_size]; exact zI_in hi hz) rfl rfl d fun H1 e1 e2 e3 => ?_
  rw [zI_cl (by omega), arrV_store] at e1
  have hc2 : sj_cell G H1 a (10, n0, ρ) (fun j => if j = i.toNat then x else I a j) := by
    refine sj_arr' (by decide) (e1.trans ?_)
    congr 2
    funext j
    by_cases h : j = i.toNat
    · subst h; simp [updV]
    · simp [updV, h]
  have hR2 := hR.put hlo2 e2 e3 hc2
  rw [sj_us_same hσ, sj_ur_up] at hR2
  exact kk hC hK hr H1 _ ls hR2 (fun z hz => by
    rcases List.mem_append.mp hz with h | h
    · exact hlo z h
    · rw [List.mem_singleton.mp h]; exact hlo2) hL
theorem sj_zast {a n0 : Nat} {ρ : Nat → Option Nat} {i x : Int} (hσ : σ.2 a = some (12, n0, ρ)) (hi : 0 ≤ i ∧ i < n0) (hz : n0 ≤ 2147483647) (hn : narrow .boolean (.int (zI x)) = .int (zI x)) (d : decode cc pc = .ok (.bastore, 1)) (kk : sj_V l Γ (cc, own, nL, ret, nm, R) G post σ (sj_up I a i.toNat x) k n (pc + 1) L st) : sj_V l Γ (cc, own, nL, ret, nm, R) G post σ I k n pc L (.int (zI x) :: .int (zI i) :: .ref a :: st) := by
  obtain ⟨p, e, s, m, args, below, meth, c, Q⟩ := Γ
  intro hC hK hr H locs ls hR hlo hL
  obtain ⟨hx, hb, hml, hown, hnm⟩ := id hC
  obtain ⟨hlo2, hcell⟩ := hR.2.2 a _ hσ
  have hc := sj_arr (by decide) hcell
  refine W.zast hx hb hc ((hK.1.2 2 _ rfl).1 n0 _) (fun q => by cases q) (by rw [arrV_size]; exact zI_in hi hz) rfl rfl d fun H1 e1 e2 e3 => ?_
  rw [zI_cl (by omega), hn, arrV_store] at e1
  have hc2 : sj_cell G H1 a (12, n0, ρ) (fun j => if j = i.toNat then x else I a j) := by
    refine sj_arr' (by decide) (e1.trans ?_)
    congr 2
    funext j
    by_cases h : j = i.toNat
    · subst h; simp [updV]
    · simp [updV, h]
  have hR2 := hR.put hlo2 e2 e3 hc2
  rw [sj_us_same hσ, sj_ur_up] at hR2
  exact kk hC hK hr H1 _ ls hR2 (fun z hz => by
    rcases List.mem_append.mp hz with h | h
    · exact hlo z h
    · rw [List.mem_singleton.mp h]; exact hlo2) hL
theorem sj_lald {a n0 : Nat} {ρ : Nat → Option Nat} {i : Int} (hσ : σ.2 a = some (11, n0, ρ)) (hi : 0 ≤ i ∧ i < n0) (hz : n0 ≤ 2147483647) (d : decode cc pc = .ok (.laload, 1)) (kk : sj_V l Γ (cc, own, nL, ret, nm, R) G post σ I k n (pc + 1) L (.long (zL (I a i.toNat)) :: st)) : sj_V l Γ (cc, own, nL, ret, nm, R) G post σ I k n pc L (.int (zI i) :: .ref a :: st) := by
  obtain ⟨p, e, s, m, args, below, meth, c, Q⟩ := Γ
  intro hC hK hr H locs ls hR hlo hL
  obtain ⟨hx, hb, hml, hown, hnm⟩ := id hC
  have hc := sj_arrL.mp (hR.2.2 a _ hσ).2
  refine W.lald hx hb hc ((hK.1.2 1 _ rfl).1 n0 _) (fun q => by cases q) (by rw [arrV_size]; exact zI_in hi hz) (v := .long (zL (I a i.toNat))) (by rw [zI_cl (by omega), arrV_read _ _ (by omega)]) rfl rfl d (kk hC hK hr H locs ls hR hlo hL)
theorem sj_last {a n0 : Nat} {ρ : Nat → Option Nat} {i x : Int} (hσ : σ.2 a = some (11, n0, ρ)) (hi : 0 ≤ i ∧ i < n0) (hz : n0 ≤ 2147483647) (d : decode cc pc = .ok (.lastore, 1)) (kk : sj_V l Γ (cc, own, nL, ret, nm, R) G post σ (sj_up I a i.toNat x) k n (pc + 1) L st) : sj_V l Γ (cc, own, nL, ret, nm, R) G post σ I k n pc L (.long (zL x) :: .int (zI i) :: .ref a :: st) := by
  obtain ⟨p, e, s, m, args, below, meth, c, Q⟩ := Γ
  intro hC hK hr H locs ls hR hlo hL
  obtain ⟨hx, hb, hml, hown, hnm⟩ := id hC
  obtain ⟨hlo2, hcell⟩ := hR.2.2 a _ hσ
  have hc := sj_arrL.mp hcell
  refine W.last hx hb hc ((hK.1.2 1 _ rfl).1 n0 _) (fun q => by cases q) (by rw [arrV_size]; exact zI_in hi hz) rfl rfl d fun H1 e1 e2 e3 => ?_
  rw [zI_cl (by omega), arrV_store] at e1
  have hc2 : sj_cell G H1 a (11, n0, ρ) (fun j => if j = i.toNat then x else I a j) := by
    refine sj_arrL.mpr (e1.trans ?_)
    congr 2
    funext j
    by_cases h : j = i.toNat
    · subst h; simp [updV]
    · simp [updV, h]
  have hR2 := hR.put hlo2 e2 e3 hc2
  rw [sj_us_same hσ, sj_ur_up] at hR2
  exact kk hC hK hr H1 _ ls hR2 (fun z hz => by
    rcases List.mem_append.mp hz with h | h
    · exact hlo z h
    · rw [List.mem_singleton.mp h]; exact hlo2) hL
/-- the arrays of references: kind, class of what they hold (kind), its name -/
def sj_q : Nat → Option (Nat × String)
  | 13 => some (4, "StreamJudge$Term")
  | 14 => some (1, "StreamJudge$Equations")
  | 15 => some (6, "StreamJudge$Values")
  | _ => none
theorem sj_qK {G : sjG} {s : State} (hK : sj_K G s) {κ κ' : Nat} {C : String} (h : sj_q κ = some (κ', C)) : 13 ≤ κ ∧ (ArrOfT s (G.2.2.1 κ) (.object C) ∧ va_RA s (G.2.2.1 κ) (.object C)) ∧ ∃ q : vw_C, vwCl[κ']? = some q ∧ q.1 = C := by
  unfold sj_q at h
  split at h
  · cases h; exact ⟨by decide, hK.1.2 3 _ rfl, _, rfl, rfl⟩
  · cases h; exact ⟨by decide, hK.1.2 4 _ rfl, _, rfl, rfl⟩
  · cases h; exact ⟨by decide, hK.1.2 5 _ rfl, _, rfl, rfl⟩
  · cases h
theorem sj_aaldV {a n0 κ κ2 : Nat} {C : String} {ρ : Nat → Option Nat} {i : Int} (hq : sj_q κ = some (κ2, C)) (hσ : σ.2 a = some (κ, n0, ρ)) (hi : 0 ≤ i ∧ i < n0) (hz : n0 ≤ 2147483647) (d : decode cc pc = .ok (.aaload, 1)) (kk : sj_V l Γ (cc, own, nL, ret, nm, R) G post σ I k n (pc + 1) L (va_rf (ρ i.toNat) :: st)) : sj_V l Γ (cc, own, nL, ret, nm, R) G post σ I k n pc L (.int (zI i) :: .ref a :: st) := by
  obtain ⟨p, e, s, m, args, below, meth, c, Q⟩ := Γ
  intro hC hK hr H locs ls hR hlo hL
  obtain ⟨hx, hb, hml, hown, hnm⟩ := id hC
  obtain ⟨h13, ⟨hAr, -⟩, -⟩ := sj_qK hK hq
  have hc := (sj_arrQ h13).mp (hR.2.2 a _ hσ).2
  refine W.aald hx hb hc (hAr n0 _) rfl (fun q => by cases q) (by rw [arrV_size]; exact zI_in hi hz) (v := va_rf (ρ i.toNat)) (by rw [zI_cl (by omega), arrV_read _ _ (by omega)]) rfl rfl d (kk hC hK hr H locs ls hR hlo hL)
theorem sj_aald {a n0 κ κ2 b : Nat} {C : String} {ρ : Nat → Option Nat} {i : Int} (hq : sj_q κ = some (κ2, C)) (hσ : σ.2 a = some (κ, n0, ρ)) (hi : 0 ≤ i ∧ i < n0) (hz : n0 ≤ 2147483647) (hb : ρ i.toNat = some b) (d : decode cc pc = .ok (.aaload, 1)) (kk : sj_V l Γ (cc, own, nL, ret, nm, R) G post σ I k n (pc + 1) L (.ref b :: st)) : sj_V l Γ (cc, own, nL, ret, nm, R) G post σ I k n pc L (.int (zI i) :: .ref a :: st) := sj_aaldV hq hσ hi hz d (by rw [hb]; exact kk)
theorem sj_aaldN {a n0 κ κ2 : Nat} {C : String} {ρ : Nat → Option Nat} {i : Int} (hq : sj_q κ = some (κ2, C)) (hσ : σ.2 a = some (κ, n0, ρ)) (hi : 0 ≤ i ∧ i < n0) (hz : n0 ≤ 2147483647) (hb : ρ i.toNat = none) (d : decode cc pc = .ok (.aaload, 1)) (kk : sj_V l Γ (cc, own, nL, ret, nm, R) G post σ I k n (pc + 1) L (.null :: st)) : sj_V l Γ (cc, own, nL, ret, nm, R) G post σ I k n pc L (.int (zI i) :: .ref a :: st) := sj_aaldV hq hσ hi hz d (by rw [hb]; exact kk)
theorem sj_aast {a n0 κ κ2 b n1 : Nat} {C : String} {ρ ρ1 : Nat → Option Nat} {i : Int} (hq : sj_q κ = some (κ2, C)) (hσ : σ.2 a = some (κ, n0, ρ)) (hb2 : σ.2 b = some (κ2, n1, ρ1)) (hi : 0 ≤ i ∧ i < n0) (hz : n0 ≤ 2147483647) (d : decode cc pc = .ok (.aastore, 1)) (kk : sj_V l Γ (cc, own, nL, ret, nm, R) G post (sj_us σ a (κ, n0, sj_ru ρ i.toNat (some b))) I k n (pc + 1) L st) : sj_V l Γ (cc, own, nL, ret, nm, R) G post σ I k n pc L (.ref b :: .int (zI i) :: .ref a :: st) := by
  obtain ⟨p, e, s, m, args, below, meth, c, Q⟩ := Γ
  intro hC hK hr H locs ls hR hlo hL
  obtain ⟨hx, hb, hml, hown, hnm⟩ := id hC
  obtain ⟨h13, ⟨hAr, hRA⟩, q, hq1, hq2⟩ := sj_qK hK hq
  obtain ⟨hlo2, hcell⟩ := hR.2.2 a _ hσ
  have hc := (sj_arrQ h13).mp hcell
  obtain ⟨cellV, g1, g2, g3, -⟩ := sj_obj hq1 (hR.2.2 b _ hb2).2
  have hcls := (hK.1.1 κ2 q hq1).2
  obtain ⟨kA, comp, k1, k2, k3, -⟩ := hRA
  have hcomp : comp = G.1 κ2 := Option.some.inj (k3.symm.trans (by rw [← hq2]; exact hcls.1))
  subst hcomp
  obtain ⟨kC, hkC, hkk⟩ := hcls.2
  refine W.aast hx hb hc (fun q h => by cases h) (fun h => by cases h) k1 k2 rfl hkC ⟨by rw [zI_0, zI_lt (by omega) (by omega)]; omega, by rw [arrV_size, zI_cl (by omega)]; omega⟩ g1 (fun q h => by rw [g3] at h; cases h) (by rw [g2]; exact hkC) (by rw [g2]; exact va_assign ⟨hcls.1, kC, hkC, hkk⟩) rfl rfl d fun H1 e1 e2 e3 => ?_
  rw [zI_cl (by omega), arrV_store] at e1
  have hc2 : sj_cell G H1 a (κ, n0, sj_ru ρ i.toNat (some b)) (I a) := by
    refine (sj_arrQ h13).mpr (e1.trans ?_)
    congr 2
    funext j
    by_cases h : j = i.toNat
    · subst h; simp [updV, sj_ru, va_rf]
    · simp [updV, sj_ru, h]
  have hR2 := hR.put hlo2 e2 e3 hc2
  rw [sj_ur_same] at hR2
  exact kk hC hK hr H1 _ ls hR2 (fun z hz => by
    rcases List.mem_append.mp hz with h | h
    · exact hlo z h
    · rw [List.mem_singleton.mp h]; exact hlo2) hL
theorem sj_aastN {a n0 κ κ2 : Nat} {C : String} {ρ : Nat → Option Nat} {i : Int} (hq : sj_q κ = some (κ2, C)) (hσ : σ.2 a = some (κ, n0, ρ)) (hi : 0 ≤ i ∧ i < n0) (hz : n0 ≤ 2147483647) (d : decode cc pc = .ok (.aastore, 1)) (kk : sj_V l Γ (cc, own, nL, ret, nm, R) G post (sj_us σ a (κ, n0, sj_ru ρ i.toNat none)) I k n (pc + 1) L st) : sj_V l Γ (cc, own, nL, ret, nm, R) G post σ I k n pc L (.null :: .int (zI i) :: .ref a :: st) := by
  obtain ⟨p, e, s, m, args, below, meth, c, Q⟩ := Γ
  intro hC hK hr H locs ls hR hlo hL
  obtain ⟨hx, hb, hml, hown, hnm⟩ := id hC
  obtain ⟨h13, ⟨hAr, hRA⟩, -⟩ := sj_qK hK hq
  obtain ⟨hlo2, hcell⟩ := hR.2.2 a _ hσ
  have hc := (sj_arrQ h13).mp hcell
  refine va_WaastN hx hb hc (hAr n0 _) (fun h => by cases h) (by rw [arrV_size]; exact zI_in hi hz) rfl rfl d fun H1 e1 e2 e3 => ?_
  rw [zI_cl (by omega), arrV_store] at e1
  have hc2 : sj_cell G H1 a (κ, n0, sj_ru ρ i.toNat (none)) (I a) := by
    refine (sj_arrQ h13).mpr (e1.trans ?_)
    congr 2
    funext j
    by_cases h : j = i.toNat
    · subst h; simp [updV, sj_ru, va_rf]
    · simp [updV, sj_ru, h]
  have hR2 := hR.put hlo2 e2 e3 hc2
  rw [sj_ur_same] at hR2
  exact kk hC hK hr H1 _ ls hR2 (fun z hz => by
    rcases List.mem_append.mp hz with h | h
    · exact hlo z h
    · rw [List.mem_singleton.mp h]; exact hlo2) hL
/-- the length of an array -/
theorem sj_len {G : sjG} {s : State} (hK : sj_K G s) {H : Heap} {a κ n0 : Nat} {ρ : Nat → Option Nat} {f : Nat → Int} (h10 : 10 ≤ κ ∧ κ ≤ 15) (h : sj_cell G H a (κ, n0, ρ) f) : ∃ (cell : Cell) (ty : FieldType), H[a]? = some cell ∧ s.isArrayOf cell ty ∧ cell.slots.size = n0 := by
  rcases (show κ = 10 ∨ κ = 11 ∨ κ = 12 ∨ κ = 13 ∨ κ = 14 ∨ κ = 15 by omega) with e | e | e | e | e | e <;> subst e
  · exact ⟨_, _, sj_arr (by decide) h, (hK.1.2 0 _ rfl).1 n0 _, arrV_size _ _ _⟩
  · exact ⟨_, _, sj_arrL.mp h, (hK.1.2 1 _ rfl).1 n0 _, arrV_size _ _ _⟩
  · exact ⟨_, _, sj_arr (by decide) h, (hK.1.2 2 _ rfl).1 n0 _, arrV_size _ _ _⟩
  · exact ⟨_, _, (sj_arrQ (by decide)).mp h, (hK.1.2 3 _ rfl).1 n0 _, arrV_size _ _ _⟩
  · exact ⟨_, _, (sj_arrQ (by decide)).mp h, (hK.1.2 4 _ rfl).1 n0 _, arrV_size _ _ _⟩
  · exact ⟨_, _, (sj_arrQ (by decide)).mp h, (hK.1.2 5 _ rfl).1 n0 _, arrV_size _ _ _⟩
theorem sj_alen {a n0 κ : Nat} {ρ : Nat → Option Nat} (hσ : σ.2 a = some (κ, n0, ρ)) (h10 : 10 ≤ κ ∧ κ ≤ 15) (d : decode cc pc = .ok (.arraylength, 1)) (kk : sj_V l Γ (cc, own, nL, ret, nm, R) G post σ I k n (pc + 1) L (.int (zI (n0 : Int)) :: st)) : sj_V l Γ (cc, own, nL, ret, nm, R) G post σ I k n pc L (.ref a :: st) := by
  obtain ⟨p, e, s, m, args, below, meth, c, Q⟩ := Γ
  intro hC hK hr H locs ls hR hlo hL
  obtain ⟨hx, hb, hml, hown, hnm⟩ := id hC
  obtain ⟨cell, ty, h1, h2, h3⟩ := sj_len hK h10 (hR.2.2 a _ hσ).2
  refine W.alen hx hb h1 h2 (n := zI (n0 : Int)) (by rw [h3]; exact zI_n n0) rfl rfl d (kk hC hK hr H locs ls hR hlo hL)
theorem sj_newI {x : Int} (hw : sj_in (.arrayClass .int)) (d : decode cc pc = .ok (.newarray .int, 2)) (hx2 : 0 ≤ x ∧ x ≤ 60000000) (hk : k + 1 ≤ R.cells) (hs : n + x.toNat ≤ R.slots) (kk : sj_V l Γ (cc, own, nL, ret, nm, R) G post (sj_nw σ (10, x.toNat, fun _ => none)) (sj_ur I σ.1 (fun _ => 0)) (k + 1) (n + x.toNat) (pc + 2) L (.ref σ.1 :: st)) : sj_V l Γ (cc, own, nL, ret, nm, R) G post σ I k n pc L (.int (zI x) :: st) := by
  obtain ⟨p, e, s, m, args, below, meth, c, Q⟩ := Γ
  intro hC hK hr H locs ls hR hlo hL
  obtain ⟨hx, hb, hml, hown, hnm⟩ := id hC
  refine va_newaK (atype := .int) (N := x.toNat) hx hb (hK.word hw args) rfl d rfl (by rw [zI_0, zI_lt (by omega) (by omega)]; omega) (zI_cl (by omega)) (by show x.toNat * 4 ≤ _; omega) hk hs rfl fun H1 cA e1 e2 e3 hAr hfc => ?_
  have hcA : cA = G.2.2.1 10 := Option.some.inj (hfc.symm.trans (hK.1.2 0 _ rfl).2)
  subst hcA
  have hR2 := hR.new e2 e3 (x := (10, x.toNat, fun _ => none)) (f := fun _ => 0) (sj_arr' (by decide) e1)
  rw [← hR.1.1]
  exact kk hC hK hr H1 _ ls hR2 hlo hL
theorem sj_newJ {x : Int} (hw : sj_in (.arrayClass .long)) (d : decode cc pc = .ok (.newarray .long, 2)) (hx2 : 0 ≤ x ∧ x ≤ 60000000) (hk : k + 1 ≤ R.cells) (hs : n + x.toNat ≤ R.slots) (kk : sj_V l Γ (cc, own, nL, ret, nm, R) G post (sj_nw σ (11, x.toNat, fun _ => none)) (sj_ur I σ.1 (fun _ => 0)) (k + 1) (n + x.toNat) (pc + 2) L (.ref σ.1 :: st)) : sj_V l Γ (cc, own, nL, ret, nm, R) G post σ I k n pc L (.int (zI x) :: st) := by
  obtain ⟨p, e, s, m, args, below, meth, c, Q⟩ := Γ
  intro hC hK hr H locs ls hR hlo hL
  obtain ⟨hx, hb, hml, hown, hnm⟩ := id hC
  refine va_newaK (atype := .long) (N := x.toNat) hx hb (hK.word hw args) rfl d rfl (by rw [zI_0, zI_lt (by omega) (by omega)]; omega) (zI_cl (by omega)) (by show x.toNat * 8 ≤ _; omega) hk hs rfl fun H1 cA e1 e2 e3 hAr hfc => ?_
  have hcA : cA = G.2.2.1 11 := Option.some.inj (hfc.symm.trans (hK.1.2 1 _ rfl).2)
  subst hcA
  have hR2 := hR.new e2 e3 (x := (11, x.toNat, fun _ => none)) (f := fun _ => 0) (sj_arrL.mpr e1)
  rw [← hR.1.1]
  exact kk hC hK hr H1 _ ls hR2 hlo hL
theorem sj_newZ {x : Int} (hw : sj_in (.arrayClass .boolean)) (d : decode cc pc = .ok (.newarray .boolean, 2)) (hx2 : 0 ≤ x ∧ x ≤ 60000000) (hk : k + 1 ≤ R.cells) (hs : n + x.toNat ≤ R.slots) (kk : sj_V l Γ (cc, own, nL, ret, nm, R) G post (sj_nw σ (12, x.toNat, fun _ => none)) (sj_ur I σ.1 (fun _ => 0)) (k + 1) (n + x.toNat) (pc + 2) L (.ref σ.1 :: st)) : sj_V l Γ (cc, own, nL, ret, nm, R) G post σ I k n pc L (.int (zI x) :: st) := by
  obtain ⟨p, e, s, m, args, below, meth, c, Q⟩ := Γ
  intro hC hK hr H locs ls hR hlo hL
  obtain ⟨hx, hb, hml, hown, hnm⟩ := id hC
  refine va_newaK (atype := .boolean) (N := x.toNat) hx hb (hK.word hw args) rfl d rfl (by rw [zI_0, zI_lt (by omega) (by omega)]; omega) (zI_cl (by omega)) (by show x.toNat * 1 ≤ _; omega) hk hs rfl fun H1 cA e1 e2 e3 hAr hfc => ?_
  have hcA : cA = G.2.2.1 12 := Option.some.inj (hfc.symm.trans (hK.1.2 2 _ rfl).2)
  subst hcA
  have hR2 := hR.new e2 e3 (x := (12, x.toNat, fun _ => none)) (f := fun _ => 0) (sj_arr' (by decide) e1)
  rw [← hR.1.1]
  exact kk hC hK hr H1 _ ls hR2 hlo hL
theorem sj_newQ {idx κ κ2 : Nat} {C : String} {x : Int} (hq : sj_q κ = some (κ2, C)) (hw : sj_in (.classLink own idx C)) (hw2 : sj_in (.arrayOver (.object C))) (d : decode cc pc = .ok (.anewarray idx, 3)) (hx2 : 0 ≤ x ∧ x ≤ 60000000) (hk : k + 1 ≤ R.cells) (hs : n + x.toNat ≤ R.slots) (kk : sj_V l Γ (cc, own, nL, ret, nm, R) G post (sj_nw σ (κ, x.toNat, fun _ => none)) (sj_ur I σ.1 (fun _ => 0)) (k + 1) (n + x.toNat) (pc + 3) L (.ref σ.1 :: st)) : sj_V l Γ (cc, own, nL, ret, nm, R) G post σ I k n pc L (.int (zI x) :: st) := by
  obtain ⟨p, e, s, m, args, below, meth, c, Q⟩ := Γ
  intro hC hK hr H locs ls hR hlo hL
  obtain ⟨hx, hb, hml, hown, hnm⟩ := id hC
  obtain ⟨h13, ⟨hAr, hRA⟩, -⟩ := sj_qK hK hq
  have hcl : (zI x).toNatClampNeg = x.toNat := zI_cl (by omega)
  refine W.anew hx hb hown (hK.word hw args) (hK.word hw2 args) rfl d rfl (by rw [zI_0, zI_lt (by omega) (by omega)]; omega) (by rw [hcl]; omega) hk (by rw [hcl]; exact hs) fun cA kA comp f1 f2 f3 f4 => ?_
  have hcA : cA = G.2.2.1 κ := by
    obtain ⟨_, _, _, _, _, h4⟩ := hRA
    exact Option.some.inj (f1.symm.trans h4)
  subst hcA
  rw [hcl]
  generalize hH1 : H.push ({ cls := G.2.2.1 κ, slots := Array.replicate x.toNat .null, vm := .none } : Cell) = H1
  have e2 : H1.size = H.size + 1 := by rw [← hH1, Array.size_push]
  have e1 : H1[H.size]? = some (arrV (G.2.2.1 κ) x.toNat (fun _ => .null)) := by rw [← hH1, Array.getElem?_push_size, ← arrV_new]
  have e3 : ∀ q : Nat, q < H.size → H1[q]? = H[q]? := fun q hq => by rw [← hH1, Array.getElem?_push, if_neg (Nat.ne_of_lt hq)]
  have hR2 := hR.new e2 e3 (x := (κ, x.toNat, fun _ => none)) (f := fun _ => 0) ((sj_arrQ h13).mpr e1)
  rw [← hR.1.1]
  exact kk hC hK hr H1 _ ls hR2 hlo hL
theorem sj_new {idx κ : Nat} {q : vw_C} (hq : vwCl[κ]? = some q) (hw : sj_in (.classLink own idx q.1)) (hw2 : sj_in (.instantiable q.1 q.2.2)) (hw3 : sj_in (.initialized q.1)) (d : decode cc pc = .ok (.new idx, 3)) (hk : k + 1 ≤ R.cells) (hs : n + q.2.2 ≤ R.slots) (kk : sj_V l Γ (cc, own, nL, ret, nm, R) G post (sj_nw σ (κ, 0, fun _ => none)) (sj_ur I σ.1 (fun _ => 0)) (k + 1) (n + q.2.2) (pc + 3) L (.ref σ.1 :: st)) : sj_V l Γ (cc, own, nL, ret, nm, R) G post σ I k n pc L st := by
  obtain ⟨p, e, s, m, args, below, meth, c, Q⟩ := Γ
  intro hC hK hr H locs ls hR hlo hL
  obtain ⟨hx, hb, hml, hown, hnm⟩ := id hC
  have hKn := hK.1.1 κ _ hq
  obtain ⟨hws, tys, hty2, hnmm, hdf⟩ := (sj_cl κ q hq).2
  refine W.newcK hx hb hown (hK.word hw args) (hK.word hw2 args) (hK.word hw3 args) rfl d hk hs hKn.2.1 rfl fun H1 kC hkC e1 e2 e3 => ?_
  have hob := u_born tys (fun w h => hK.word (hws w h) args) (fun _ h => h) hKn hkC e1 hty2
  have hR2 := hR.new e2 e3 (x := (κ, 0, fun _ => none)) (f := fun _ => 0) (sj_obj' hq (hob.to hdf))
  rw [← hR.1.1]
  exact kk hC hK hr H1 _ ls hR2 hlo hL
end HEAP
end
section
/-! calls -/
/-- what a call site needs of the tables: kind 0 invokevirtual, 1 invokestatic, 2 invokespecial <init>, 3 the same of a nest mate -/
def sj_cw (kind : Nat) (own : String) (idx : Nat) (y : MethodName) (μ : sjM) (na : Nat) : Prop :=
  (if kind = 3 then ∃ host, sj_in (.methodLinkNest own idx y host) else sj_in (.methodLink own idx y)) ∧ sj_in (.initialized y.cls) ∧ sj_in (.code y μ.1 μ.2.2.1 μ.2.2.2.1) ∧ (if kind = 1 then sj_in (.static y) else sj_in (.instanceMethod y)) ∧ (kind = 0 → sj_in (.selects y.cls y y)) ∧ (2 ≤ kind → y.name = "<init>" ∧ μ.2.2.2.1 = none) ∧
  (y.cls ≠ "java/lang/invoke/MethodHandle" ∧ y.cls ≠ "java/lang/invoke/VarHandle") ∧ (parseMethodDescriptor y.desc).map (fun d => d.parameters.length) = some na
/-- room for a call -/
def sj_rm (R R' : Room) (nL' k n : Nat) : Bool := Nat.ble (R'.frames + 1) R.frames && (Nat.ble (8 + (nL' + 11) + R'.locals) R.locals && (Nat.ble (k + R'.cells) R.cells && Nat.ble (n + R'.slots) R.slots))
section CALLS
variable {l : Launch} {Γ : sjC} {cc : ByteArray} {own nm : String} {nL : Nat} {ret : Option FieldType} {R : Room} {G : sjG} {post : sjP} {σ : sjS} {I : sjI} {k n pc : Nat} {L : List (Option Value)} {st : List Value}
theorem sj_rm_ok {R R' : Room} {nL' k n : Nat} (h : sj_rm R R' nL' k n = true) : (R'.frames + 1 ≤ R.frames ∧ 8 + (nL' + 11) + R'.locals ≤ R.locals) ∧ k + R'.cells ≤ R.cells ∧ n + R'.slots ≤ R.slots := by
  unfold sj_rm at h
  simp only [Bool.and_eq_true] at h
  exact ⟨⟨Nat.le_of_ble_eq_true h.1, Nat.le_of_ble_eq_true h.2.1⟩, Nat.le_of_ble_eq_true h.2.2.1, Nat.le_of_ble_eq_true h.2.2.2⟩
theorem sj_wcode {G : sjG} {s : State} (hK : sj_K G s) {w : Cond} (hw : sj_in w) : ∀ v ∈ [w], ∀ (a' : Array Value) (U : State), s.WarmedH U.vm → v.before a' U = true := by
  intro v hv a' U hW
  rw [List.mem_singleton.mp hv]
  exact (hK.warm hW).word hw a'
theorem sj_len' {y : MethodName} {na : Nat} (h : (parseMethodDescriptor y.desc).map (fun d => d.parameters.length) = some na) : ∀ sig, parseMethodDescriptor y.desc = some sig → na = sig.parameters.length := by
  intro sig hs
  rw [hs] at h
  exact (Option.some.inj h).symm
theorem sj_go {p : Program} {e : Env} {s : State} {m : MethodId} {args : Array Value} {below : List Frame} {meth : Method} {c : Code} {Q : State → Prop} {H : Heap} {locs : List Loc} {mc ms : Nat} {ls : Array Slot} {st0 rest : List Value} {a : Array Value} {post' : sjP}
    (hr : va_Run p l e R s m args below meth c H locs k n mc ms (F0 m pc ls st0) rest (sj_Post G post' a) (fun q => G.2.2.2.size ≤ q)) (hlo : ∀ q ∈ locs, G.2.2.2.size ≤ q.base)
    (kk : ∀ (r : Option Value) (σ' : sjS) (I' : sjI) (H1 : Heap) (locs1 : List Loc), post' r σ' I' → sj_Rep G σ' I' H1 → (∀ q ∈ locs1, G.2.2.2.size ≤ q.base) → W p l e R s m args below meth c H1 locs1 (k + mc) (n + ms) Q (F0 m (pc + 3) ls (r.toList ++ rest))) : W p l e R s m args below meth c H locs k n Q (F0 m pc ls st0) := by
  intro T hT X
  obtain ⟨v, st₀, t, T', L1, h0, X', hL, e1, e2, ⟨r, σ', I', hv, hp, hk, hRep⟩, st⟩ := hr T hT X
  cases hv
  obtain ⟨t2, a1, b1⟩ := kk v σ' I' T'.heap (locs ++ L1) hp (by rw [e1]; exact hRep) (fun q hq => by
    rcases List.mem_append.mp hq with h | h
    · exact hlo q h
    · exact hL q h) T' rfl X'
  exact ⟨t2, st t2 a1, b1⟩
theorem sj_callS {idx : Nat} {y : MethodName} {μ : sjM} {As st0 rest : List Value} {post' : sjP} (hc : sj_Con l y μ G σ I As post') (hw : sj_cw 1 own idx y μ As.length) (hrm : sj_rm R μ.2.2.2.2.2 μ.2.2.1 k n = true) (hst : st0 = As.reverse ++ rest) (hcat : (rest.map fun v => v.category).sum ≤ 8) (d : decode cc pc = .ok (.invokestatic idx, 3)) (kk : ∀ (r : Option Value) (σ' : sjS) (I' : sjI), post' r σ' I' → sj_V l Γ (cc, own, nL, ret, nm, R) G post σ' I' (k + μ.2.2.2.2.2.cells) (n + μ.2.2.2.2.2.slots) (pc + 3) L (r.toList ++ rest)) : sj_V l Γ (cc, own, nL, ret, nm, R) G post σ I k n pc L st0 := by
  obtain ⟨p, e, s, m, args, below, meth, c, Q⟩ := Γ
  intro hC hK hr H locs ls hR hlo hL
  obtain ⟨hx, hb, hml, hown, hnm⟩ := id hC
  obtain ⟨w1, w2, w3, w4, -, -, w7, w8⟩ := hw
  obtain ⟨r1, r2⟩ := sj_rm_ok hrm
  rw [if_neg (by decide)] at w1
  rw [if_pos rfl] at w4
  refine sj_go (va_runS (Ts := []) (As := As) (rest := rest) ⟨hx, hb, hml, hown, fun _ h => by cases h⟩ hc ⟨⟨rfl, rfl, r1.1, r1.2, sj_wcode hK w3, List.mem_singleton.mpr rfl, hK.word w3 args, hK.word w2 args, w7, sj_len' w8, hK.word w1 args⟩, hK.word w4 args⟩ ⟨sj_Pre.blind G σ I As, fun U hU hW => ⟨rfl, hK.warm hW, by rw [hU]; exact hR⟩⟩ rfl rfl hL.1 hst (lv_room hcat) d r2) hlo (fun r σ' I' H1 locs1 hp hR1 hl1 => kk r σ' I' hp hC hK hr H1 locs1 ls hR1 hl1 hL)
theorem sj_callV {idx κ n0 : Nat} {ρ : Nat → Option Nat} {q : vw_C} {y : MethodName} {μ : sjM} {b : Nat} {As st0 rest : List Value} {post' : sjP} (hc : sj_Con l y μ G σ I (.ref b :: As) post') (hw : sj_cw 0 own idx y μ As.length) (hσ : σ.2 b = some (κ, n0, ρ)) (hq : vwCl[κ]? = some q) (hqy : q.1 = y.cls) (hrm : sj_rm R μ.2.2.2.2.2 μ.2.2.1 k n = true) (hst : st0 = As.reverse ++ .ref b :: rest) (hcat : (rest.map fun v => v.category).sum ≤ 8) (d : decode cc pc = .ok (.invokevirtual idx, 3)) (kk : ∀ (r : Option Value) (σ' : sjS) (I' : sjI), post' r σ' I' → sj_V l Γ (cc, own, nL, ret, nm, R) G post σ' I' (k + μ.2.2.2.2.2.cells) (n + μ.2.2.2.2.2.slots) (pc + 3) L (r.toList ++ rest)) : sj_V l Γ (cc, own, nL, ret, nm, R) G post σ I k n pc L st0 := by
  obtain ⟨p, e, s, m, args, below, meth, c, Q⟩ := Γ
  intro hC hK hr H locs ls hR hlo hL
  obtain ⟨hx, hb, hml, hown, hnm⟩ := id hC
  obtain ⟨w1, w2, w3, w4, w5, -, w7, w8⟩ := hw
  obtain ⟨r1, r2⟩ := sj_rm_ok hrm
  rw [if_neg (by decide)] at w1
  rw [if_neg (by decide)] at w4
  obtain ⟨cell, q1, q2, q3, q4⟩ := sj_obj hq (hR.2.2 b _ hσ).2
  refine sj_go (va_runV (Ts := []) (C := y.cls) (b := b) (As := As) (rest := rest) ⟨hx, hb, hml, hown, fun _ h => by cases h⟩ hc ⟨⟨rfl, rfl, r1.1, r1.2, sj_wcode hK w3, List.mem_singleton.mpr rfl, hK.word w3 args, hK.word w2 args, w7, sj_len' w8, hK.word w1 args⟩, hK.word w4 args, hK.word (w5 rfl) args⟩ ⟨sj_Pre.blind G σ I (.ref b :: As), ⟨cell, q1, by rw [q3]; rfl, by rw [q2, ← hqy]; exact (hK.1.1 κ q hq).2.1⟩, fun U hU hW => ⟨rfl, hK.warm hW, by rw [hU]; exact hR⟩⟩ rfl rfl hL.1 hst (lv_room hcat) d r2) hlo (fun r σ' I' H1 locs1 hp hR1 hl1 => kk r σ' I' hp hC hK hr H1 locs1 ls hR1 hl1 hL)
theorem sj_callI {idx : Nat} {y : MethodName} {cc' : ByteArray} {own' nm' : String} {nL' : Nat} {R' : Room} {b : Nat} {As st0 rest : List Value} {post' : sjP} (hc : sj_Con l y (cc', own', nL', none, nm', R') G σ I (.ref b :: As) post') (hw : sj_cw 2 own idx y (cc', own', nL', none, nm', R') As.length) (hrm : sj_rm R R' nL' k n = true) (hst : st0 = As.reverse ++ .ref b :: rest) (hcat : (rest.map fun v => v.category).sum ≤ 8) (d : decode cc pc = .ok (.invokespecial idx, 3)) (kk : ∀ (r : Option Value) (σ' : sjS) (I' : sjI), post' r σ' I' → sj_V l Γ (cc, own, nL, ret, nm, R) G post σ' I' (k + R'.cells) (n + R'.slots) (pc + 3) L (r.toList ++ rest)) : sj_V l Γ (cc, own, nL, ret, nm, R) G post σ I k n pc L st0 := by
  obtain ⟨p, e, s, m, args, below, meth, c, Q⟩ := Γ
  intro hC hK hr H locs ls hR hlo hL
  obtain ⟨hx, hb, hml, hown, hnm⟩ := id hC
  obtain ⟨w1, w2, w3, w4, -, w6, w7, w8⟩ := hw
  obtain ⟨r1, r2⟩ := sj_rm_ok hrm
  rw [if_neg (by decide)] at w1
  rw [if_neg (by decide)] at w4
  refine sj_go (va_runI (Ts := []) (b := b) (As := As) (rest := rest) ⟨hx, hb, hml, hown, fun _ h => by cases h⟩ hc ⟨⟨rfl, rfl, r1.1, r1.2, sj_wcode hK w3, List.mem_singleton.mpr rfl, hK.word w3 args, hK.word w2 args, w7, sj_len' w8, hK.word w1 args⟩, (w6 (by decide)).1, hK.word w4 args⟩ ⟨sj_Pre.blind G σ I (.ref b :: As), fun U hU hW => ⟨rfl, hK.warm hW, by rw [hU]; exact hR⟩⟩ rfl rfl hL.1 hst (lv_room hcat) d r2) hlo (fun r σ' I' H1 locs1 hp hR1 hl1 => kk r σ' I' hp hC hK hr H1 locs1 ls hR1 hl1 hL)
theorem sj_callIN {idx : Nat} {y : MethodName} {cc' : ByteArray} {own' nm' : String} {nL' : Nat} {R' : Room} {b : Nat} {As st0 rest : List Value} {post' : sjP} (hc : sj_Con l y (cc', own', nL', none, nm', R') G σ I (.ref b :: As) post') (hw : sj_cw 3 own idx y (cc', own', nL', none, nm', R') As.length) (hrm : sj_rm R R' nL' k n = true) (hst : st0 = As.reverse ++ .ref b :: rest) (hcat : (rest.map fun v => v.category).sum ≤ 8) (d : decode cc pc = .ok (.invokespecial idx, 3)) (kk : ∀ (r : Option Value) (σ' : sjS) (I' : sjI), post' r σ' I' → sj_V l Γ (cc, own, nL, ret, nm, R) G post σ' I' (k + R'.cells) (n + R'.slots) (pc + 3) L (r.toList ++ rest)) : sj_V l Γ (cc, own, nL, ret, nm, R) G post σ I k n pc L st0 := by
  obtain ⟨p, e, s, m, args, below, meth, c, Q⟩ := Γ
  intro hC hK hr H locs ls hR hlo hL
  obtain ⟨hx, hb, hml, hown, hnm⟩ := id hC
  obtain ⟨w1, w2, w3, w4, -, w6, w7, w8⟩ := hw
  obtain ⟨r1, r2⟩ := sj_rm_ok hrm
  rw [if_pos rfl] at w1
  rw [if_neg (by decide)] at w4
  obtain ⟨host, w1⟩ := w1
  refine sj_go (va_runIN (Ts := []) (host := host) (b := b) (As := As) (rest := rest) ⟨hx, hb, hml, hown, fun _ h => by cases h⟩ hc ⟨⟨⟨rfl, rfl, r1.1, r1.2, sj_wcode hK w3, List.mem_singleton.mpr rfl⟩, hK.word w3 args, hK.word w2 args, w7, sj_len' w8, hK.word w1 args⟩, (w6 (by decide)).1, hK.word w4 args⟩ ⟨sj_Pre.blind G σ I (.ref b :: As), fun U hU hW => ⟨rfl, hK.warm hW, by rw [hU]; exact hR⟩⟩ rfl rfl hL.1 hst (lv_room hcat) d r2) hlo (fun r σ' I' H1 locs1 hp hR1 hl1 => kk r σ' I' hp hC hK hr H1 locs1 ls hR1 hl1 hL)
theorem sj_oinit {idx : Nat} {b : Nat} (hw : sj_in (.methodLink own idx Lib.objectInit)) (hw2 : sj_in (.instanceMethod Lib.objectInit)) (hw3 : sj_in (.code Lib.objectInit ⟨#[0xb1]⟩ 1 none)) (hf : 1 ≤ R.frames) (hl : (st.map fun v => v.category).sum + 12 ≤ R.locals) (d : decode cc pc = .ok (.invokespecial idx, 3)) (kk : sj_V l Γ (cc, own, nL, ret, nm, R) G post σ I k n (pc + 3) L st) : sj_V l Γ (cc, own, nL, ret, nm, R) G post σ I k n pc L (.ref b :: st) := by
  obtain ⟨p, e, s, m, args, below, meth, c, Q⟩ := Γ
  intro hC hK hr H locs ls hR hlo hL
  obtain ⟨hx, hb, hml, hown, hnm⟩ := id hC
  exact W.objInit hx hb hown (hK.word hw args) (hK.word hw2 args) (hK.word hw3 args) rfl (by rw [hml]; exact hL.1) rfl d hf (by show 2 * 0 + _ + 12 ≤ _; omega) (kk hC hK hr H locs ls hR hlo hL)
theorem sj_max {idx : Nat} {a b : Int} (hw : sj_in (.methodLink own idx Lib.Math.max.name)) (hw2 : sj_in (.static Lib.Math.max.name)) (hw3 : sj_in (.initialized "java/lang/Math")) (hw4 : sj_in (.code Lib.Math.max.name Lib.Math.max.code 2 (some .int))) (hf : 1 ≤ R.frames) (hl : (st.map fun v => v.category).sum + 13 ≤ R.locals) (hk : k ≤ R.cells) (hs : n ≤ R.slots) (ha : -2147483648 ≤ a ∧ a < 2147483648) (hb2 : -2147483648 ≤ b ∧ b < 2147483648) (d : decode cc pc = .ok (.invokestatic idx, 3)) (kk : sj_V l Γ (cc, own, nL, ret, nm, R) G post σ I k n (pc + 3) L (.int (zI (max a b)) :: st)) : sj_V l Γ (cc, own, nL, ret, nm, R) G post σ I k n pc L (.int (zI b) :: .int (zI a) :: st) := by
  obtain ⟨p, e, s, m, args, below, meth, c, Q⟩ := Γ
  intro hC hK hr H locs ls hR hlo hL
  obtain ⟨hx, hb, hml, hown, hnm⟩ := id hC
  refine va_mmax hx hb (by rw [hml]; exact hL.1.symm) hown (hK.word hw args) (hK.word hw2 args) (hK.word hw3 args) (hK.word hw4 args) hf hl hk hs d ?_
  rw [show (if zI a < zI b then zI b else zI a) = zI (max a b) by
    by_cases h : a < b
    · rw [if_pos ((zI_lt ha hb2).mpr h)]; congr 1; omega
    · rw [if_neg (fun q => h ((zI_lt ha hb2).mp q))]; congr 1; omega]
  exact kk hC hK hr H locs ls hR hlo hL
theorem sj_min {idx : Nat} {a b : Int} (hw : sj_in (.methodLink own idx Lib.Math.min.name)) (hw2 : sj_in (.static Lib.Math.min.name)) (hw3 : sj_in (.initialized "java/lang/Math")) (hw4 : sj_in (.code Lib.Math.min.name Lib.Math.min.code 2 (some .int))) (hf : 1 ≤ R.frames) (hl : (st.map fun v => v.category).sum + 13 ≤ R.locals) (hk : k ≤ R.cells) (hs : n ≤ R.slots) (ha : -2147483648 ≤ a ∧ a < 2147483648) (hb2 : -2147483648 ≤ b ∧ b < 2147483648) (d : decode cc pc = .ok (.invokestatic idx, 3)) (kk : sj_V l Γ (cc, own, nL, ret, nm, R) G post σ I k n (pc + 3) L (.int (zI (min a b)) :: st)) : sj_V l Γ (cc, own, nL, ret, nm, R) G post σ I k n pc L (.int (zI b) :: .int (zI a) :: st) := by
  obtain ⟨p, e, s, m, args, below, meth, c, Q⟩ := Γ
  intro hC hK hr H locs ls hR hlo hL
  obtain ⟨hx, hb, hml, hown, hnm⟩ := id hC
  refine va_mmin hx hb (by rw [hml]; exact hL.1.symm) hown (hK.word hw args) (hK.word hw2 args) (hK.word hw3 args) (hK.word hw4 args) hf hl hk hs d ?_
  rw [show (if zI b < zI a then zI b else zI a) = zI (min a b) by
    by_cases h : b < a
    · rw [if_pos ((zI_lt hb2 ha).mpr h)]; congr 1; omega
    · rw [if_neg (fun q => h ((zI_lt hb2 ha).mp q))]; congr 1; omega]
  exact kk hC hK hr H locs ls hR hlo hL
theorem sj_nn {z : Int} (h : 0 ≤ z ∧ z < 2147483648) : ¬ zI z < 0 := by
  rw [zI_0, zI_lt (by omega) (by omega)]; omega
theorem sj_acopy {idx a0 a1 n0 n1 : Nat} {ρ0 ρ1 : Nat → Option Nat} {sp dp x : Int} (hw : sj_in (.methodLink own idx arraycopyName)) (hw2 : sj_in (.native arraycopyName)) (hw3 : sj_in (.static arraycopyName)) (hw4 : sj_in (.initialized "java/lang/System")) (h0 : σ.2 a0 = some (10, n0, ρ0)) (h1 : σ.2 a1 = some (10, n1, ρ1)) (hsp : 0 ≤ sp ∧ 0 ≤ dp ∧ 0 ≤ x) (hn0 : sp + x ≤ n0 ∧ n0 < 2147483648) (hn1 : dp + x ≤ n1 ∧ n1 < 2147483648) (hf : 1 ≤ R.frames) (hl : (st.map fun v => v.category).sum + 18 ≤ R.locals) (d : decode cc pc = .ok (.invokestatic idx, 3)) (kk : sj_V l Γ (cc, own, nL, ret, nm, R) G post σ (sj_ur I a1 (va_cpy (I a0) (I a1) sp.toNat dp.toNat x.toNat)) k n (pc + 3) L st) : sj_V l Γ (cc, own, nL, ret, nm, R) G post σ I k n pc L (.int (zI x) :: .int (zI dp) :: .ref a1 :: .int (zI sp) :: .ref a0 :: st) := by
  obtain ⟨p, e, s, m, args, below, meth, c, Q⟩ := Γ
  intro hC hK hr H locs ls hR hlo hL
  obtain ⟨hx, hb, hml, hown, hnm⟩ := id hC
  have hcs := sj_arr (by decide) (hR.2.2 a0 _ h0).2
  obtain ⟨hlo2, hcell⟩ := hR.2.2 a1 _ h1
  have hcd := sj_arr (by decide) hcell
  intro T hT X
  obtain ⟨-, k0, hk0, cm0, hkk0⟩ := (hK.1.2 0 _ rfl).1 n0 (fun j => .int (zI (I a0 j)))
  obtain ⟨-, k1, hk1, cm1, hkk1⟩ := (hK.1.2 0 _ rfl).1 n1 (fun j => .int (zI (I a1 j)))
  obtain ⟨vm', X', step⟩ := X.arraycopy hx hown (hK.word hw args) (hK.word hw2 args) (hK.word hw3 args) (hK.word hw4 args) (src := a0) (dst := a1) (cs := arrV (G.2.2.1 10) n0 (fun j => .int (zI (I a0 j)))) (cd := arrV (G.2.2.1 10) n1 (fun j => .int (zI (I a1 j)))) (srcPos := zI sp) (destPos := zI dp) (n := zI x) (by rw [hT]; exact hcs) (by rw [hT]; exact hcd)
    (fun _ h => by cases h) (fun _ h => by cases h) (fun h => by cases h) (fun h => by cases h) hk0 hk1 hkk0 hkk1 (by simp [refKind]) (sj_nn (by omega)) (sj_nn (by omega)) (sj_nn (by omega))
    (by rw [zI_toInt (by omega), zI_toInt (by omega), arrV_size]; omega)
    (by rw [zI_toInt (by omega), zI_toInt (by omega), arrV_size]; omega)
    (fun vm₁ _ i hi => by
      rw [zI_cl (by omega)] at hi
      have e : (arrV (G.2.2.1 10) n0 (fun j => Value.int (zI (I a0 j)))).slots.getD ((zI sp).toNatClampNeg + i) .null = .int (zI (I a0 (sp.toNat + i))) := by
        rw [zI_cl (by omega), Array.getD_eq_getD_getElem?, arrV_read _ _ (by omega)]
        rfl
      refine ⟨?_, ?_⟩
      · rw [e]
        rfl
      · rw [e]
        exact trivial)
    (g := F0 m pc ls (.int (zI x) :: .int (zI dp) :: .ref a1 :: .int (zI sp) :: .ref a0 :: st)) rfl (by rw [hml]; exact hL.1) (rest := st) rfl (by rw [hb]; exact d) hf (by show 2 * 0 + _ + 18 ≤ _; omega)
  have e1 : copied (arrV (G.2.2.1 10) n0 (fun j => Value.int (zI (I a0 j)))) (arrV (G.2.2.1 10) n1 (fun j => Value.int (zI (I a1 j)))) (zI sp) (zI dp) (zI x) = arrV (G.2.2.1 10) n1 (fun j => .int (zI (va_cpy (I a0) (I a1) sp.toNat dp.toNat x.toNat j))) := by
    have := va_copied (fun z => .int (zI z)) (G.2.2.1 10) (G.2.2.1 10) (n0 := n0) (n1 := n1) (sp := (zI sp).toNatClampNeg) (dp := (zI dp).toNatClampNeg) (n := (zI x).toNatClampNeg) (I a0) (I a1) (by rw [zI_cl (by omega), zI_cl (by omega)]; omega)
    rw [zI_cl (by omega), zI_cl (by omega), zI_cl (by omega)] at this
    rw [← this]
    unfold copied
    rw [zI_cl (by omega), zI_cl (by omega), zI_cl (by omega)]
  rw [e1] at X' step
  have hl : a1 < H.size := (Array.getElem?_eq_some_iff.mp hcd).1
  generalize hcc : arrV (G.2.2.1 10) n1 (fun j => Value.int (zI (va_cpy (I a0) (I a1) sp.toNat dp.toNat x.toNat j))) = cell1 at X' step
  have hheap : ((T.setVm vm').setCell a1 cell1).heap = H.setIfInBounds a1 cell1 := by rw [← hT]; rfl
  have e2 : (H.setIfInBounds a1 cell1).size = H.size := by simp
  have e3 : ∀ q : Nat, q ≠ a1 → (H.setIfInBounds a1 cell1)[q]? = H[q]? := fun q hq => by simp [Array.getElem?_setIfInBounds, Ne.symm hq]
  have e4 : (H.setIfInBounds a1 cell1)[a1]? = some cell1 := by simp [Array.getElem?_setIfInBounds, hl]
  have hR2 := hR.put hlo2 e2 e3 (x := (10, n1, ρ1)) (f := va_cpy (I a0) (I a1) sp.toNat dp.toNat x.toNat) (sj_arr' (by decide) (by rw [hcc]; exact e4))
  rw [sj_us_same h1] at hR2
  obtain ⟨t, a1', b1⟩ := kk hC hK hr _ _ ls hR2 (fun q hq => by
      rcases List.mem_append.mp hq with h | h
      · exact hlo q h
      · obtain ⟨z, -, hz⟩ := List.mem_map.mp h
        rw [← hz]
        exact hlo2) hL _ hheap X'
  exact ⟨t, step t a1' , b1⟩
theorem sj_clone {idx a0 n0 : Nat} {ρ0 : Nat → Option Nat} (hw : sj_in (.methodLink own idx ⟨"[I", "clone", "()Ljava/lang/Object;"⟩)) (hw2 : sj_in (.sameMethod "[I" "java/lang/Object" "clone" "()Ljava/lang/Object;")) (hw3 : sj_in (.native ⟨"java/lang/Object", "clone", "()Ljava/lang/Object;"⟩)) (hw4 : sj_in (.instanceMethod ⟨"java/lang/Object", "clone", "()Ljava/lang/Object;"⟩)) (hw5 : sj_in (.selects "[I" ⟨"[I", "clone", "()Ljava/lang/Object;"⟩ ⟨"java/lang/Object", "clone", "()Ljava/lang/Object;"⟩)) (hw6 : sj_in (.castable "[I" "java/lang/Cloneable")) (h0 : σ.2 a0 = some (10, n0, ρ0)) (hf : 1 ≤ R.frames) (hl : (st.map fun v => v.category).sum + 14 ≤ R.locals) (hk : k + 1 ≤ R.cells) (hs : n + n0 ≤ R.slots) (d : decode cc pc = .ok (.invokevirtual idx, 3)) (kk : sj_V l Γ (cc, own, nL, ret, nm, R) G post (sj_nw σ (10, n0, fun _ => none)) (sj_ur I σ.1 (I a0)) (k + 1) (n + n0) (pc + 3) L (.ref σ.1 :: st)) : sj_V l Γ (cc, own, nL, ret, nm, R) G post σ I k n pc L (.ref a0 :: st) := by
  obtain ⟨p, e, s, m, args, below, meth, c, Q⟩ := Γ
  intro hC hK hr H locs ls hR hlo hL
  obtain ⟨hx, hb, hml, hown, hnm⟩ := id hC
  have hcs := sj_arr (by decide) (hR.2.2 a0 _ h0).2
  generalize hcc : arrV (G.2.2.1 10) n0 (fun j => Value.int (zI (I a0 j))) = cell at hcs
  have hsz : cell.slots.size = n0 := by rw [← hcc]; exact arrV_size _ _ _
  have hvm0 : cell.vm = .none := by rw [← hcc]; rfl
  have hcl0 : cell.cls = G.2.2.1 10 := by rw [← hcc]; rfl
  have hcellE : ({ cls := cell.cls, slots := cell.slots } : Cell) = cell := by rw [← hcc]; rfl
  have hnm2 : s.vm.findClass "[I" = some (G.2.2.1 10) := (hK.1.2 0 _ rfl).2
  obtain ⟨c0, t0', f1, f2, f3⟩ := Cond.castable_spec (hK.word hw6 args)
  cases hnm2.symm.trans f1
  intro T hT X
  have hcellT : T.heap[a0]? = some cell := by rw [hT]; exact hcs
  obtain ⟨-, kA, hkA, comp, hkind⟩ := State.isArrayOf_alike X.warmed.alike ((hK.1.2 0 _ rfl).1 0 (fun _ => .null))
  obtain ⟨-, kS, hkS, compS, hkindS⟩ := (hK.1.2 0 _ rfl).1 0 (fun _ => .null)
  obtain ⟨vm', X', st2⟩ := X.cloneArray hx hown (hK.word hw args) (hK.word hw2 args) (hK.word hw3 args) (hK.word hw4 args) (hK.word hw5 args) (a := a0) (cell := cell) hcellT (fun k h => by rw [hvm0] at h; cases h) (by rw [hvm0]; exact fun h => by cases h) (by rw [hcl0]; exact hnm2) f2 (by rw [hcl0]; exact f3)
    (fun i v hv => by
      rw [hcl0]
      have hk' : T.vm.classes[G.2.2.1 10]? = some kA := hkA
      have hi : i < n0 := by have := (Array.getElem?_eq_some_iff.mp hv).1; omega
      rw [← hcc, arrV_read _ _ hi] at hv
      cases hv
      simp [State.fitsSlot, State.slotType?, hk', hkind, hvm0, fits])
    (g := F0 m pc ls (.ref a0 :: st)) rfl (by rw [hml]; exact hL.1) rfl (by rw [hb]; exact d) hf (by show 2 * 0 + _ + 14 ≤ _; omega) hk (by rw [hsz]; exact hs) (hloader := by rw [hcl0]; exact Vm.clonesLoader_of_array hkS hkindS)
  rw [hcellE, hsz] at X'
  generalize hH1 : H.push cell = H1
  have z1 : H1.size = H.size + 1 := by rw [← hH1, Array.size_push]
  have e1 : H1[H.size]? = some cell := by rw [← hH1, Array.getElem?_push_size]
  have o1 : ∀ q : Nat, q < H.size → H1[q]? = H[q]? := fun q hq => by rw [← hH1, Array.getElem?_push, if_neg (Nat.ne_of_lt hq)]
  have hR2 := hR.new z1 o1 (x := (10, n0, fun _ => none)) (f := I a0) (sj_arr' (by decide) (by rw [hcc]; exact e1))
  obtain ⟨t, b1, b2⟩ := kk hC hK hr H1 _ ls hR2 hlo hL ((T.setVm vm').pushCell cell) (by rw [← hH1, ← hT]; rfl) X'
  refine ⟨t, st2 t ?_, b2⟩
  rw [hcellE, hT, ← hR.1.1]
  exact b1
theorem sj_castI {idx a0 n0 : Nat} {ρ0 : Nat → Option Nat} (hw : sj_in (.classLink own idx "[I")) (h0 : σ.2 a0 = some (10, n0, ρ0)) (d : decode cc pc = .ok (.checkcast idx, 3)) (kk : sj_V l Γ (cc, own, nL, ret, nm, R) G post σ I k n (pc + 3) L (.ref a0 :: st)) : sj_V l Γ (cc, own, nL, ret, nm, R) G post σ I k n pc L (.ref a0 :: st) := by
  obtain ⟨p, e, s, m, args, below, meth, c, Q⟩ := Γ
  intro hC hK hr H locs ls hR hlo hL
  obtain ⟨hx, hb, hml, hown, hnm⟩ := id hC
  have hcs := sj_arr (by decide) (hR.2.2 a0 _ h0).2
  exact va_castA (D := (G.1, G.2.1)) (cl := vwCl) (ws := [(a0, .inl (G.2.2.1 10, n0, .inl (fun j => zI (I a0 j))))]) hx hb hown (hK.word hw args) (fun k q hq => by
    match k, hq with
    | 0, hq => cases hq; exact hcs
    | k + 1, hq => simp at hq) 0 rfl (hK.1.2 0 _ rfl).2 d (kk hC hK hr H locs ls hR hlo hL)
theorem sj_lookup {dflt : Int} {ps : Array (Int × Int)} {len : Nat} {x off : Int} (tgt : Nat) (d : decode cc pc = .ok (.lookupswitch dflt ps, len)) (hp : (ps.toList.zip (ps.toList.drop 1)).all (fun (a, next) => a.1 < next.1) = true) (hx2 : -2147483648 ≤ x ∧ x < 2147483648) (ho : Op.lookupswitch.offset ps.toList dflt x = off) (ht : (pc : Int) + off = (tgt : Int)) (kk : sj_V l Γ (cc, own, nL, ret, nm, R) G post σ I k n tgt L st) : sj_V l Γ (cc, own, nL, ret, nm, R) G post σ I k n pc L (.int (zI x) :: st) := by
  obtain ⟨p, e, s, m, args, below, meth, c, Q⟩ := Γ
  intro hC hK hr H locs ls hR hlo hL
  obtain ⟨hx, hb, hml, hown, hnm⟩ := id hC
  exact lv_lookup hx hb d hp (by rw [zI_toInt hx2]; exact ho) ht (kk hC hK hr H locs ls hR hlo hL)
theorem sj_tout {dflt lo hi : Int} {offs : Array Int} {len : Nat} {x : Int} (tgt : Nat) (d : decode cc pc = .ok (.tableswitch dflt lo hi offs, len)) (hx2 : -2147483648 ≤ x ∧ x < 2147483648) (h : x < lo ∨ hi < x) (ht : (pc : Int) + dflt = (tgt : Int)) (kk : sj_V l Γ (cc, own, nL, ret, nm, R) G post σ I k n tgt L st) : sj_V l Γ (cc, own, nL, ret, nm, R) G post σ I k n pc L (.int (zI x) :: st) := by
  obtain ⟨p, e, s, m, args, below, meth, c, Q⟩ := Γ
  intro hC hK hr H locs ls hR hlo hL
  obtain ⟨hx, hb, hml, hown, hnm⟩ := id hC
  exact lv_tableOut hx hb d (by rw [zI_toInt hx2]; exact h) ht (kk hC hK hr H locs ls hR hlo hL)
theorem sj_tin {dflt lo hi : Int} {offs : Array Int} {len : Nat} {x off : Int} (tgt : Nat) (d : decode cc pc = .ok (.tableswitch dflt lo hi offs, len)) (hx2 : -2147483648 ≤ x ∧ x < 2147483648) (h : lo ≤ x ∧ x ≤ hi) (ho : offs[(x - lo).toNat]? = some off) (ht : (pc : Int) + off = (tgt : Int)) (kk : sj_V l Γ (cc, own, nL, ret, nm, R) G post σ I k n tgt L st) : sj_V l Γ (cc, own, nL, ret, nm, R) G post σ I k n pc L (.int (zI x) :: st) := by
  obtain ⟨p, e, s, m, args, below, meth, c, Q⟩ := Γ
  intro hC hK hr H locs ls hR hlo hL
  obtain ⟨hx, hb, hml, hown, hnm⟩ := id hC
  exact lv_tableIn hx hb d (by rw [zI_toInt hx2]; omega) (by rw [zI_toInt hx2]; omega) (by rw [zI_toInt hx2]; exact ho) ht (kk hC hK hr H locs ls hR hlo hL)
theorem sj_ishl {a b x : Int} (d : decode cc pc = .ok (.ishl, 1)) (h : zI a <<< (zI b &&& 31) = zI x) (kk : sj_V l Γ (cc, own, nL, ret, nm, R) G post σ I k n (pc + 1) L (.int (zI x) :: st)) : sj_V l Γ (cc, own, nL, ret, nm, R) G post σ I k n pc L (.int (zI b) :: .int (zI a) :: st) := by
  obtain ⟨p, e, s, m, args, below, meth, c, Q⟩ := Γ
  intro hC hK hr H locs ls hR hlo hL
  obtain ⟨hx, hb, hml, hown, hnm⟩ := id hC
  refine lv_ishl hx hb d ?_
  rw [h]
  exact kk hC hK hr H locs ls hR hlo hL
theorem sj_ishr {a b x : Int} (d : decode cc pc = .ok (.ishr, 1)) (h : zI a >>> (zI b &&& 31) = zI x) (kk : sj_V l Γ (cc, own, nL, ret, nm, R) G post σ I k n (pc + 1) L (.int (zI x) :: st)) : sj_V l Γ (cc, own, nL, ret, nm, R) G post σ I k n pc L (.int (zI b) :: .int (zI a) :: st) := by
  obtain ⟨p, e, s, m, args, below, meth, c, Q⟩ := Γ
  intro hC hK hr H locs ls hR hlo hL
  obtain ⟨hx, hb, hml, hown, hnm⟩ := id hC
  refine lv_ishr hx hb d ?_
  rw [h]
  exact kk hC hK hr H locs ls hR hlo hL
theorem sj_iushr {a b x : Int} (d : decode cc pc = .ok (.iushr, 1)) (h : ((zI a).toUInt32 >>> ((zI b).toUInt32 &&& Int32.toUInt32 31)).toInt32 = zI x) (kk : sj_V l Γ (cc, own, nL, ret, nm, R) G post σ I k n (pc + 1) L (.int (zI x) :: st)) : sj_V l Γ (cc, own, nL, ret, nm, R) G post σ I k n pc L (.int (zI b) :: .int (zI a) :: st) := by
  obtain ⟨p, e, s, m, args, below, meth, c, Q⟩ := Γ
  intro hC hK hr H locs ls hR hlo hL
  obtain ⟨hx, hb, hml, hown, hnm⟩ := id hC
  exact lv_iushr hx hb d h (kk hC hK hr H locs ls hR hlo hL)
theorem sj_lconst {z : Fin 2} {x : Int} (d : decode cc pc = .ok (.lconst z, 1)) (h : Int64.ofNat (z : Nat) = zL x) (kk : sj_V l Γ (cc, own, nL, ret, nm, R) G post σ I k n (pc + 1) L (.long (zL x) :: st)) : sj_V l Γ (cc, own, nL, ret, nm, R) G post σ I k n pc L st := by
  obtain ⟨p, e, s, m, args, below, meth, c, Q⟩ := Γ
  intro hC hK hr H locs ls hR hlo hL
  obtain ⟨hx, hb, hml, hown, hnm⟩ := id hC
  exact lv_lconst hx hb d h (kk hC hK hr H locs ls hR hlo hL)
theorem sj_lshl {a b x : Int} (d : decode cc pc = .ok (.lshl, 1)) (h : zL a <<< ((zI b).toInt64 &&& 63) = zL x) (kk : sj_V l Γ (cc, own, nL, ret, nm, R) G post σ I k n (pc + 1) L (.long (zL x) :: st)) : sj_V l Γ (cc, own, nL, ret, nm, R) G post σ I k n pc L (.int (zI b) :: .long (zL a) :: st) := by
  obtain ⟨p, e, s, m, args, below, meth, c, Q⟩ := Γ
  intro hC hK hr H locs ls hR hlo hL
  obtain ⟨hx, hb, hml, hown, hnm⟩ := id hC
  exact lv_lshl hx hb d h (kk hC hK hr H locs ls hR hlo hL)
theorem sj_land {a b x : Int} (d : decode cc pc = .ok (.land, 1)) (h : zL a &&& zL b = zL x) (kk : sj_V l Γ (cc, own, nL, ret, nm, R) G post σ I k n (pc + 1) L (.long (zL x) :: st)) : sj_V l Γ (cc, own, nL, ret, nm, R) G post σ I k n pc L (.long (zL b) :: .long (zL a) :: st) := by
  obtain ⟨p, e, s, m, args, below, meth, c, Q⟩ := Γ
  intro hC hK hr H locs ls hR hlo hL
  obtain ⟨hx, hb, hml, hown, hnm⟩ := id hC
  refine lv_land hx hb d ?_
  rw [h]
  exact kk hC hK hr H locs ls hR hlo hL
theorem sj_lor {a b x : Int} (d : decode cc pc = .ok (.lor, 1)) (h : zL a ||| zL b = zL x) (kk : sj_V l Γ (cc, own, nL, ret, nm, R) G post σ I k n (pc + 1) L (.long (zL x) :: st)) : sj_V l Γ (cc, own, nL, ret, nm, R) G post σ I k n pc L (.long (zL b) :: .long (zL a) :: st) := by
  obtain ⟨p, e, s, m, args, below, meth, c, Q⟩ := Γ
  intro hC hK hr H locs ls hR hlo hL
  obtain ⟨hx, hb, hml, hown, hnm⟩ := id hC
  refine lv_lor hx hb d ?_
  rw [h]
  exact kk hC hK hr H locs ls hR hlo hL
theorem sj_lcmp {a b x : Int} (d : decode cc pc = .ok (.lcmp, 1)) (h : lg_cmp (zL a) (zL b) = zI x) (kk : sj_V l Γ (cc, own, nL, ret, nm, R) G post σ I k n (pc + 1) L (.int (zI x) :: st)) : sj_V l Γ (cc, own, nL, ret, nm, R) G post σ I k n pc L (.long (zL b) :: .long (zL a) :: st) := by
  obtain ⟨p, e, s, m, args, below, meth, c, Q⟩ := Γ
  intro hC hK hr H locs ls hR hlo hL
  obtain ⟨hx, hb, hml, hown, hnm⟩ := id hC
  refine W.lcmp hx hb d ?_
  rw [h]
  exact kk hC hK hr H locs ls hR hlo hL
theorem sj_dup2 {v u : Value} (d : decode cc pc = .ok (.dup2, 1)) (hv : v.category = 1) (hu : u.category = 1) (kk : sj_V l Γ (cc, own, nL, ret, nm, R) G post σ I k n (pc + 1) L (v :: u :: v :: u :: st)) : sj_V l Γ (cc, own, nL, ret, nm, R) G post σ I k n pc L (v :: u :: st) := by
  obtain ⟨p, e, s, m, args, below, meth, c, Q⟩ := Γ
  intro hC hK hr H locs ls hR hlo hL
  obtain ⟨hx, hb, hml, hown, hnm⟩ := id hC
  exact lv_dup2_11 hx hb d hv hu (kk hC hK hr H locs ls hR hlo hL)
theorem sj_lld1 {a0 : Option Value} {v : Int64} {tl : List (Option Value)} (d : decode cc pc = .ok (.lload_n 1, 1)) (kk : sj_V l Γ (cc, own, nL, ret, nm, R) G post σ I k n (pc + 1) (a0 :: some (.long v) :: tl) (.long v :: st)) : sj_V l Γ (cc, own, nL, ret, nm, R) G post σ I k n pc (a0 :: some (.long v) :: tl) st := by
  obtain ⟨p, e, s, m, args, below, meth, c, Q⟩ := Γ
  intro hC hK hr H locs ls hR hlo hL
  obtain ⟨hx, hb, hml, hown, hnm⟩ := id hC
  exact lv_lload_n hx hb d rfl (hL.2.2 1 _ rfl) (kk hC hK hr H locs ls hR hlo hL)
theorem sj_lld2 {a0 a1 : Option Value} {v : Int64} {tl : List (Option Value)} (d : decode cc pc = .ok (.lload_n 2, 1)) (kk : sj_V l Γ (cc, own, nL, ret, nm, R) G post σ I k n (pc + 1) (a0 :: a1 :: some (.long v) :: tl) (.long v :: st)) : sj_V l Γ (cc, own, nL, ret, nm, R) G post σ I k n pc (a0 :: a1 :: some (.long v) :: tl) st := by
  obtain ⟨p, e, s, m, args, below, meth, c, Q⟩ := Γ
  intro hC hK hr H locs ls hR hlo hL
  obtain ⟨hx, hb, hml, hown, hnm⟩ := id hC
  exact lv_lload_n hx hb d rfl (hL.2.2 2 _ rfl) (kk hC hK hr H locs ls hR hlo hL)
theorem sj_lst2 {a0 a1 x y : Option Value} {v : Int64} (hi : nL = 4) (hc : sj_c1 a1 = true) (d : decode cc pc = .ok (.lstore_n 2, 1)) (kk : sj_V l Γ (cc, own, nL, ret, nm, R) G post σ I k n (pc + 1) [a0, a1, some (.long v), none] st) : sj_V l Γ (cc, own, nL, ret, nm, R) G post σ I k n pc [a0, a1, x, y] (.long v :: st) := by
  obtain ⟨p, e, s, m, args, below, meth, c, Q⟩ := Γ
  intro hC hK hr H locs ls hR hlo hL
  obtain ⟨hx, hb, hml, hown, hnm⟩ := id hC
  refine lv_lstore_n hx hb d rfl hL.has (by omega) rfl (fun ls' hl' => kk hC hK hr H locs ls' hR hlo ?_)
  refine ⟨hl'.1, hl'.2.1, fun j w hj => ?_⟩
  match j, hj with
  | 0, hj =>
    refine hl'.2.2 (0, w) (List.mem_cons_of_mem _ (List.mem_filter.mpr ⟨sj_al_mem.mpr ?_, rfl⟩))
    exact hj
  | 1, hj =>
    refine hl'.2.2 (1, w) (List.mem_cons_of_mem _ (List.mem_filter.mpr ⟨sj_al_mem.mpr ?_, ?_⟩))
    · exact hj
    · have h2 := sj_c1_ok hc (Option.some.inj hj)
      simp [h2]
  | 2, hj =>
    cases hj
    exact hl'.2.2 (2, .long v) List.mem_cons_self
  | 3, hj => cases hj
  | j + 4, hj => simp at hj
end CALLS
end
