section
-- ===== PART A: goes FIRST, ahead of the names: the tables' words, and 'selects' of the private methods out of them =====
/-- a private method of a class that the tables say can be made, by its rows of tables_1 -/
def lw_okq (q : MethodName × Nat) : Prop := (q.1.cls ≠ "java/lang/invoke/MethodHandle" ∧ q.1.cls ≠ "java/lang/invoke/VarHandle") ∧ Cond.instantiable q.1.cls q.2 ∈ tables_1 ∧ Cond.privateMethod q.1 ∈ tables_1 ∧ Cond.instanceMethod q.1 ∈ tables_1
theorem lw_p0 : lw_okq (⟨"FindingAid$Sums", "weighOne", "(LFindingAid$Levels;I)V"⟩, 2) := ⟨⟨by decide +kernel, by decide +kernel⟩, List.mem_of_getElem? (i := 159) (by decide +kernel), List.mem_of_getElem? (i := 292) (by decide +kernel), List.mem_of_getElem? (i := 293) (by decide +kernel)⟩
theorem lw_p1 : lw_okq (⟨"FindingAid$Levels", "deepestWithin", "(I)I"⟩, 12) := ⟨⟨by decide +kernel, by decide +kernel⟩, List.mem_of_getElem? (i := 30) (by decide +kernel), List.mem_of_getElem? (i := 365) (by decide +kernel), List.mem_of_getElem? (i := 366) (by decide +kernel)⟩
theorem lw_p2 : lw_okq (⟨"FindingAid$Levels", "deeperUnder", "(II)I"⟩, 12) := ⟨⟨by decide +kernel, by decide +kernel⟩, List.mem_of_getElem? (i := 30) (by decide +kernel), List.mem_of_getElem? (i := 372) (by decide +kernel), List.mem_of_getElem? (i := 373) (by decide +kernel)⟩
theorem lw_p3 : lw_okq (⟨"FindingAid", "isShown", "(I)Z"⟩, 7) := ⟨⟨by decide +kernel, by decide +kernel⟩, List.mem_of_getElem? (i := 16) (by decide +kernel), List.mem_of_getElem? (i := 396) (by decide +kernel), List.mem_of_getElem? (i := 397) (by decide +kernel)⟩
theorem lw_p4 : lw_okq (⟨"FindingAid$Page", "writeLine", "(LFindingAid$Levels;I)V"⟩, 2) := ⟨⟨by decide +kernel, by decide +kernel⟩, List.mem_of_getElem? (i := 203) (by decide +kernel), List.mem_of_getElem? (i := 433) (by decide +kernel), List.mem_of_getElem? (i := 434) (by decide +kernel)⟩
theorem lw_p5 : lw_okq (⟨"FindingAid$Page", "put", "(I)V"⟩, 2) := ⟨⟨by decide +kernel, by decide +kernel⟩, List.mem_of_getElem? (i := 203) (by decide +kernel), List.mem_of_getElem? (i := 437) (by decide +kernel), List.mem_of_getElem? (i := 438) (by decide +kernel)⟩
theorem lw_p6 : lw_okq (⟨"FindingAid$Page", "putOneOf", "([CI)V"⟩, 2) := ⟨⟨by decide +kernel, by decide +kernel⟩, List.mem_of_getElem? (i := 203) (by decide +kernel), List.mem_of_getElem? (i := 443) (by decide +kernel), List.mem_of_getElem? (i := 444) (by decide +kernel)⟩
theorem lw_p7 : lw_okq (⟨"FindingAid$Page", "putNumber", "(I)V"⟩, 2) := ⟨⟨by decide +kernel, by decide +kernel⟩, List.mem_of_getElem? (i := 203) (by decide +kernel), List.mem_of_getElem? (i := 447) (by decide +kernel), List.mem_of_getElem? (i := 448) (by decide +kernel)⟩
theorem lw_p8 : lw_okq (⟨"FindingAid$Page", "writeDate", "(LFindingAid$Levels;I)V"⟩, 2) := ⟨⟨by decide +kernel, by decide +kernel⟩, List.mem_of_getElem? (i := 203) (by decide +kernel), List.mem_of_getElem? (i := 452) (by decide +kernel), List.mem_of_getElem? (i := 453) (by decide +kernel)⟩
theorem lw_p9 : lw_okq (⟨"FindingAid$Levels", "isBehind", "(II)Z"⟩, 12) := ⟨⟨by decide +kernel, by decide +kernel⟩, List.mem_of_getElem? (i := 30) (by decide +kernel), List.mem_of_getElem? (i := 462) (by decide +kernel), List.mem_of_getElem? (i := 463) (by decide +kernel)⟩
theorem lw_p10 : lw_okq (⟨"FindingAid$TextReader", "readLines", "()Z"⟩, 5) := ⟨⟨by decide +kernel, by decide +kernel⟩, List.mem_of_getElem? (i := 24) (by decide +kernel), List.mem_of_getElem? (i := 482) (by decide +kernel), List.mem_of_getElem? (i := 483) (by decide +kernel)⟩
theorem lw_p11 : lw_okq (⟨"FindingAid$TextReader", "readLine", "(I)Z"⟩, 5) := ⟨⟨by decide +kernel, by decide +kernel⟩, List.mem_of_getElem? (i := 24) (by decide +kernel), List.mem_of_getElem? (i := 486) (by decide +kernel), List.mem_of_getElem? (i := 487) (by decide +kernel)⟩
theorem lw_p12 : lw_okq (⟨"FindingAid$TextReader", "readDepth", "(I)Z"⟩, 5) := ⟨⟨by decide +kernel, by decide +kernel⟩, List.mem_of_getElem? (i := 24) (by decide +kernel), List.mem_of_getElem? (i := 490) (by decide +kernel), List.mem_of_getElem? (i := 491) (by decide +kernel)⟩
theorem lw_p13 : lw_okq (⟨"FindingAid$TextReader", "ahead", "(I)I"⟩, 5) := ⟨⟨by decide +kernel, by decide +kernel⟩, List.mem_of_getElem? (i := 24) (by decide +kernel), List.mem_of_getElem? (i := 497) (by decide +kernel), List.mem_of_getElem? (i := 498) (by decide +kernel)⟩
theorem lw_p14 : lw_okq (⟨"FindingAid$TextReader", "wrongAt", "(I)Z"⟩, 5) := ⟨⟨by decide +kernel, by decide +kernel⟩, List.mem_of_getElem? (i := 24) (by decide +kernel), List.mem_of_getElem? (i := 501) (by decide +kernel), List.mem_of_getElem? (i := 502) (by decide +kernel)⟩
theorem lw_p15 : lw_okq (⟨"FindingAid$Levels", "latestOfDepth", "(II)I"⟩, 12) := ⟨⟨by decide +kernel, by decide +kernel⟩, List.mem_of_getElem? (i := 30) (by decide +kernel), List.mem_of_getElem? (i := 509) (by decide +kernel), List.mem_of_getElem? (i := 510) (by decide +kernel)⟩
def lw_privs_1 : List (MethodName × Nat) := [(⟨"FindingAid$Sums", "weighOne", "(LFindingAid$Levels;I)V"⟩, 2), (⟨"FindingAid$Levels", "deepestWithin", "(I)I"⟩, 12), (⟨"FindingAid$Levels", "deeperUnder", "(II)I"⟩, 12), (⟨"FindingAid", "isShown", "(I)Z"⟩, 7), (⟨"FindingAid$Page", "writeLine", "(LFindingAid$Levels;I)V"⟩, 2), (⟨"FindingAid$Page", "put", "(I)V"⟩, 2), (⟨"FindingAid$Page", "putOneOf", "([CI)V"⟩, 2), (⟨"FindingAid$Page", "putNumber", "(I)V"⟩, 2), (⟨"FindingAid$Page", "writeDate", "(LFindingAid$Levels;I)V"⟩, 2), (⟨"FindingAid$Levels", "isBehind", "(II)Z"⟩, 12), (⟨"FindingAid$TextReader", "readLines", "()Z"⟩, 5), (⟨"FindingAid$TextReader", "readLine", "(I)Z"⟩, 5), (⟨"FindingAid$TextReader", "readDepth", "(I)Z"⟩, 5), (⟨"FindingAid$TextReader", "ahead", "(I)I"⟩, 5), (⟨"FindingAid$TextReader", "wrongAt", "(I)Z"⟩, 5), (⟨"FindingAid$Levels", "latestOfDepth", "(II)I"⟩, 12)]
theorem lw_r1 : ∀ q ∈ lw_privs_1, lw_okq q := List.forall_mem_cons.mpr ⟨lw_p0, List.forall_mem_cons.mpr ⟨lw_p1, List.forall_mem_cons.mpr ⟨lw_p2, List.forall_mem_cons.mpr ⟨lw_p3, List.forall_mem_cons.mpr ⟨lw_p4, List.forall_mem_cons.mpr ⟨lw_p5, List.forall_mem_cons.mpr ⟨lw_p6, List.forall_mem_cons.mpr ⟨lw_p7, List.forall_mem_cons.mpr ⟨lw_p8, List.forall_mem_cons.mpr ⟨lw_p9, List.forall_mem_cons.mpr ⟨lw_p10, List.forall_mem_cons.mpr ⟨lw_p11, List.forall_mem_cons.mpr ⟨lw_p12, List.forall_mem_cons.mpr ⟨lw_p13, List.forall_mem_cons.mpr ⟨lw_p14, List.forall_mem_cons.mpr ⟨lw_p15, fun _ h => absurd h List.not_mem_nil⟩⟩⟩⟩⟩⟩⟩⟩⟩⟩⟩⟩⟩⟩⟩⟩
theorem lw_p16 : lw_okq (⟨"FindingAid$TextReader", "readKind", "(I)Z"⟩, 5) := ⟨⟨by decide +kernel, by decide +kernel⟩, List.mem_of_getElem? (i := 24) (by decide +kernel), List.mem_of_getElem? (i := 513) (by decide +kernel), List.mem_of_getElem? (i := 514) (by decide +kernel)⟩
theorem lw_p17 : lw_okq (⟨"FindingAid$TextReader", "readNumber", "(I)Z"⟩, 5) := ⟨⟨by decide +kernel, by decide +kernel⟩, List.mem_of_getElem? (i := 24) (by decide +kernel), List.mem_of_getElem? (i := 522) (by decide +kernel), List.mem_of_getElem? (i := 523) (by decide +kernel)⟩
theorem lw_p18 : lw_okq (⟨"FindingAid$TextReader", "readDigits", "()I"⟩, 5) := ⟨⟨by decide +kernel, by decide +kernel⟩, List.mem_of_getElem? (i := 24) (by decide +kernel), List.mem_of_getElem? (i := 526) (by decide +kernel), List.mem_of_getElem? (i := 527) (by decide +kernel)⟩
theorem lw_p19 : lw_okq (⟨"FindingAid$TextReader", "readTitle", "(I)Z"⟩, 5) := ⟨⟨by decide +kernel, by decide +kernel⟩, List.mem_of_getElem? (i := 24) (by decide +kernel), List.mem_of_getElem? (i := 533) (by decide +kernel), List.mem_of_getElem? (i := 534) (by decide +kernel)⟩
theorem lw_p20 : lw_okq (⟨"FindingAid$TextReader", "expect", "(I)Z"⟩, 5) := ⟨⟨by decide +kernel, by decide +kernel⟩, List.mem_of_getElem? (i := 24) (by decide +kernel), List.mem_of_getElem? (i := 537) (by decide +kernel), List.mem_of_getElem? (i := 538) (by decide +kernel)⟩
theorem lw_p21 : lw_okq (⟨"FindingAid$TextReader", "readDate", "(I)Z"⟩, 5) := ⟨⟨by decide +kernel, by decide +kernel⟩, List.mem_of_getElem? (i := 24) (by decide +kernel), List.mem_of_getElem? (i := 545) (by decide +kernel), List.mem_of_getElem? (i := 546) (by decide +kernel)⟩
theorem lw_p22 : lw_okq (⟨"FindingAid$TextReader", "readYear", "(I)I"⟩, 5) := ⟨⟨by decide +kernel, by decide +kernel⟩, List.mem_of_getElem? (i := 24) (by decide +kernel), List.mem_of_getElem? (i := 549) (by decide +kernel), List.mem_of_getElem? (i := 550) (by decide +kernel)⟩
theorem lw_p23 : lw_okq (⟨"FindingAid$TextReader", "readExtent", "(I)Z"⟩, 5) := ⟨⟨by decide +kernel, by decide +kernel⟩, List.mem_of_getElem? (i := 24) (by decide +kernel), List.mem_of_getElem? (i := 553) (by decide +kernel), List.mem_of_getElem? (i := 554) (by decide +kernel)⟩
theorem lw_p24 : lw_okq (⟨"java/lang/Throwable", "fillInStackTrace", "(I)Ljava/lang/Throwable;"⟩, 6) := ⟨⟨by decide +kernel, by decide +kernel⟩, List.mem_of_getElem? (i := 594) (by decide +kernel), List.mem_of_getElem? (i := 592) (by decide +kernel), List.mem_of_getElem? (i := 593) (by decide +kernel)⟩
theorem lw_p25 : lw_okq (⟨"FindingAid$Levels", "hasPathOf", "(ILFindingAid$Levels;I)Z"⟩, 12) := ⟨⟨by decide +kernel, by decide +kernel⟩, List.mem_of_getElem? (i := 30) (by decide +kernel), List.mem_of_getElem? (i := 648) (by decide +kernel), List.mem_of_getElem? (i := 649) (by decide +kernel)⟩
theorem lw_p26 : lw_okq (⟨"FindingAid$Levels", "hasTitleOf", "(ILFindingAid$Levels;I)Z"⟩, 12) := ⟨⟨by decide +kernel, by decide +kernel⟩, List.mem_of_getElem? (i := 30) (by decide +kernel), List.mem_of_getElem? (i := 656) (by decide +kernel), List.mem_of_getElem? (i := 657) (by decide +kernel)⟩
theorem lw_p27 : lw_okq (⟨"FindingAid$Asks", "add", "(III)V"⟩, 6) := ⟨⟨by decide +kernel, by decide +kernel⟩, List.mem_of_getElem? (i := 172) (by decide +kernel), List.mem_of_getElem? (i := 660) (by decide +kernel), List.mem_of_getElem? (i := 661) (by decide +kernel)⟩
theorem lw_p28 : lw_okq (⟨"FindingAidModel", "reads", "()Z"⟩, 30) := ⟨⟨by decide +kernel, by decide +kernel⟩, List.mem_of_getElem? (i := 664) (by decide +kernel), List.mem_of_getElem? (i := 773) (by decide +kernel), List.mem_of_getElem? (i := 774) (by decide +kernel)⟩
theorem lw_p29 : lw_okq (⟨"FindingAidModel", "line", "(I)Z"⟩, 30) := ⟨⟨by decide +kernel, by decide +kernel⟩, List.mem_of_getElem? (i := 664) (by decide +kernel), List.mem_of_getElem? (i := 777) (by decide +kernel), List.mem_of_getElem? (i := 778) (by decide +kernel)⟩
theorem lw_p30 : lw_okq (⟨"FindingAidModel", "place", "(I)Z"⟩, 30) := ⟨⟨by decide +kernel, by decide +kernel⟩, List.mem_of_getElem? (i := 664) (by decide +kernel), List.mem_of_getElem? (i := 781) (by decide +kernel), List.mem_of_getElem? (i := 782) (by decide +kernel)⟩
theorem lw_p31 : lw_okq (⟨"FindingAidModel", "depth", "(I)I"⟩, 30) := ⟨⟨by decide +kernel, by decide +kernel⟩, List.mem_of_getElem? (i := 664) (by decide +kernel), List.mem_of_getElem? (i := 785) (by decide +kernel), List.mem_of_getElem? (i := 786) (by decide +kernel)⟩
def lw_privs_2 : List (MethodName × Nat) := [(⟨"FindingAid$TextReader", "readKind", "(I)Z"⟩, 5), (⟨"FindingAid$TextReader", "readNumber", "(I)Z"⟩, 5), (⟨"FindingAid$TextReader", "readDigits", "()I"⟩, 5), (⟨"FindingAid$TextReader", "readTitle", "(I)Z"⟩, 5), (⟨"FindingAid$TextReader", "expect", "(I)Z"⟩, 5), (⟨"FindingAid$TextReader", "readDate", "(I)Z"⟩, 5), (⟨"FindingAid$TextReader", "readYear", "(I)I"⟩, 5), (⟨"FindingAid$TextReader", "readExtent", "(I)Z"⟩, 5), (⟨"java/lang/Throwable", "fillInStackTrace", "(I)Ljava/lang/Throwable;"⟩, 6), (⟨"FindingAid$Levels", "hasPathOf", "(ILFindingAid$Levels;I)Z"⟩, 12), (⟨"FindingAid$Levels", "hasTitleOf", "(ILFindingAid$Levels;I)Z"⟩, 12), (⟨"FindingAid$Asks", "add", "(III)V"⟩, 6), (⟨"FindingAidModel", "reads", "()Z"⟩, 30), (⟨"FindingAidModel", "line", "(I)Z"⟩, 30), (⟨"FindingAidModel", "place", "(I)Z"⟩, 30), (⟨"FindingAidModel", "depth", "(I)I"⟩, 30)]
theorem lw_r2 : ∀ q ∈ lw_privs_2, lw_okq q := List.forall_mem_cons.mpr ⟨lw_p16, List.forall_mem_cons.mpr ⟨lw_p17, List.forall_mem_cons.mpr ⟨lw_p18, List.forall_mem_cons.mpr ⟨lw_p19, List.forall_mem_cons.mpr ⟨lw_p20, List.forall_mem_cons.mpr ⟨lw_p21, List.forall_mem_cons.mpr ⟨lw_p22, List.forall_mem_cons.mpr ⟨lw_p23, List.forall_mem_cons.mpr ⟨lw_p24, List.forall_mem_cons.mpr ⟨lw_p25, List.forall_mem_cons.mpr ⟨lw_p26, List.forall_mem_cons.mpr ⟨lw_p27, List.forall_mem_cons.mpr ⟨lw_p28, List.forall_mem_cons.mpr ⟨lw_p29, List.forall_mem_cons.mpr ⟨lw_p30, List.forall_mem_cons.mpr ⟨lw_p31, fun _ h => absurd h List.not_mem_nil⟩⟩⟩⟩⟩⟩⟩⟩⟩⟩⟩⟩⟩⟩⟩⟩
theorem lw_p32 : lw_okq (⟨"FindingAidModel", "look", "()I"⟩, 30) := ⟨⟨by decide +kernel, by decide +kernel⟩, List.mem_of_getElem? (i := 664) (by decide +kernel), List.mem_of_getElem? (i := 789) (by decide +kernel), List.mem_of_getElem? (i := 790) (by decide +kernel)⟩
theorem lw_p33 : lw_okq (⟨"FindingAidModel", "number", "([II)Z"⟩, 30) := ⟨⟨by decide +kernel, by decide +kernel⟩, List.mem_of_getElem? (i := 664) (by decide +kernel), List.mem_of_getElem? (i := 796) (by decide +kernel), List.mem_of_getElem? (i := 797) (by decide +kernel)⟩
theorem lw_p34 : lw_okq (⟨"FindingAidModel", "isDigit", "()Z"⟩, 30) := ⟨⟨by decide +kernel, by decide +kernel⟩, List.mem_of_getElem? (i := 664) (by decide +kernel), List.mem_of_getElem? (i := 800) (by decide +kernel), List.mem_of_getElem? (i := 801) (by decide +kernel)⟩
theorem lw_p35 : lw_okq (⟨"FindingAidModel", "eat", "(I)Z"⟩, 30) := ⟨⟨by decide +kernel, by decide +kernel⟩, List.mem_of_getElem? (i := 664) (by decide +kernel), List.mem_of_getElem? (i := 807) (by decide +kernel), List.mem_of_getElem? (i := 808) (by decide +kernel)⟩
theorem lw_p36 : lw_okq (⟨"FindingAidModel", "titled", "(I)Z"⟩, 30) := ⟨⟨by decide +kernel, by decide +kernel⟩, List.mem_of_getElem? (i := 664) (by decide +kernel), List.mem_of_getElem? (i := 811) (by decide +kernel), List.mem_of_getElem? (i := 812) (by decide +kernel)⟩
theorem lw_p37 : lw_okq (⟨"FindingAidModel", "dated", "(I)Z"⟩, 30) := ⟨⟨by decide +kernel, by decide +kernel⟩, List.mem_of_getElem? (i := 664) (by decide +kernel), List.mem_of_getElem? (i := 815) (by decide +kernel), List.mem_of_getElem? (i := 816) (by decide +kernel)⟩
theorem lw_p38 : lw_okq (⟨"FindingAidModel", "year", "([III)Z"⟩, 30) := ⟨⟨by decide +kernel, by decide +kernel⟩, List.mem_of_getElem? (i := 664) (by decide +kernel), List.mem_of_getElem? (i := 819) (by decide +kernel), List.mem_of_getElem? (i := 820) (by decide +kernel)⟩
theorem lw_p39 : lw_okq (⟨"FindingAidModel", "extended", "(I)Z"⟩, 30) := ⟨⟨by decide +kernel, by decide +kernel⟩, List.mem_of_getElem? (i := 664) (by decide +kernel), List.mem_of_getElem? (i := 823) (by decide +kernel), List.mem_of_getElem? (i := 824) (by decide +kernel)⟩
theorem lw_p40 : lw_okq (⟨"FindingAidModel", "copy", "(IIZ)V"⟩, 30) := ⟨⟨by decide +kernel, by decide +kernel⟩, List.mem_of_getElem? (i := 664) (by decide +kernel), List.mem_of_getElem? (i := 827) (by decide +kernel), List.mem_of_getElem? (i := 828) (by decide +kernel)⟩
theorem lw_p41 : lw_okq (⟨"FindingAidModel", "isLevel", "(I)Z"⟩, 30) := ⟨⟨by decide +kernel, by decide +kernel⟩, List.mem_of_getElem? (i := 664) (by decide +kernel), List.mem_of_getElem? (i := 839) (by decide +kernel), List.mem_of_getElem? (i := 840) (by decide +kernel)⟩
theorem lw_p42 : lw_okq (⟨"FindingAidModel", "sum", "(IIZ)I"⟩, 30) := ⟨⟨by decide +kernel, by decide +kernel⟩, List.mem_of_getElem? (i := 664) (by decide +kernel), List.mem_of_getElem? (i := 855) (by decide +kernel), List.mem_of_getElem? (i := 856) (by decide +kernel)⟩
theorem lw_p43 : lw_okq (⟨"FindingAidModel", "counts", "(IIIZ)Z"⟩, 30) := ⟨⟨by decide +kernel, by decide +kernel⟩, List.mem_of_getElem? (i := 664) (by decide +kernel), List.mem_of_getElem? (i := 859) (by decide +kernel), List.mem_of_getElem? (i := 860) (by decide +kernel)⟩
theorem lw_p44 : lw_okq (⟨"FindingAidModel", "hasName", "(II)Z"⟩, 30) := ⟨⟨by decide +kernel, by decide +kernel⟩, List.mem_of_getElem? (i := 664) (by decide +kernel), List.mem_of_getElem? (i := 883) (by decide +kernel), List.mem_of_getElem? (i := 884) (by decide +kernel)⟩
theorem lw_p45 : lw_okq (⟨"FindingAidModel", "lies", "(II)Z"⟩, 30) := ⟨⟨by decide +kernel, by decide +kernel⟩, List.mem_of_getElem? (i := 664) (by decide +kernel), List.mem_of_getElem? (i := 895) (by decide +kernel), List.mem_of_getElem? (i := 896) (by decide +kernel)⟩
theorem lw_p46 : lw_okq (⟨"FindingAidModel", "isShown", "(I)Z"⟩, 30) := ⟨⟨by decide +kernel, by decide +kernel⟩, List.mem_of_getElem? (i := 664) (by decide +kernel), List.mem_of_getElem? (i := 907) (by decide +kernel), List.mem_of_getElem? (i := 908) (by decide +kernel)⟩
theorem lw_p47 : lw_okq (⟨"FindingAidModel", "samePath", "(II)Z"⟩, 30) := ⟨⟨by decide +kernel, by decide +kernel⟩, List.mem_of_getElem? (i := 664) (by decide +kernel), List.mem_of_getElem? (i := 915) (by decide +kernel), List.mem_of_getElem? (i := 916) (by decide +kernel)⟩
def lw_privs_3 : List (MethodName × Nat) := [(⟨"FindingAidModel", "look", "()I"⟩, 30), (⟨"FindingAidModel", "number", "([II)Z"⟩, 30), (⟨"FindingAidModel", "isDigit", "()Z"⟩, 30), (⟨"FindingAidModel", "eat", "(I)Z"⟩, 30), (⟨"FindingAidModel", "titled", "(I)Z"⟩, 30), (⟨"FindingAidModel", "dated", "(I)Z"⟩, 30), (⟨"FindingAidModel", "year", "([III)Z"⟩, 30), (⟨"FindingAidModel", "extended", "(I)Z"⟩, 30), (⟨"FindingAidModel", "copy", "(IIZ)V"⟩, 30), (⟨"FindingAidModel", "isLevel", "(I)Z"⟩, 30), (⟨"FindingAidModel", "sum", "(IIZ)I"⟩, 30), (⟨"FindingAidModel", "counts", "(IIIZ)Z"⟩, 30), (⟨"FindingAidModel", "hasName", "(II)Z"⟩, 30), (⟨"FindingAidModel", "lies", "(II)Z"⟩, 30), (⟨"FindingAidModel", "isShown", "(I)Z"⟩, 30), (⟨"FindingAidModel", "samePath", "(II)Z"⟩, 30)]
theorem lw_r3 : ∀ q ∈ lw_privs_3, lw_okq q := List.forall_mem_cons.mpr ⟨lw_p32, List.forall_mem_cons.mpr ⟨lw_p33, List.forall_mem_cons.mpr ⟨lw_p34, List.forall_mem_cons.mpr ⟨lw_p35, List.forall_mem_cons.mpr ⟨lw_p36, List.forall_mem_cons.mpr ⟨lw_p37, List.forall_mem_cons.mpr ⟨lw_p38, List.forall_mem_cons.mpr ⟨lw_p39, List.forall_mem_cons.mpr ⟨lw_p40, List.forall_mem_cons.mpr ⟨lw_p41, List.forall_mem_cons.mpr ⟨lw_p42, List.forall_mem_cons.mpr ⟨lw_p43, List.forall_mem_cons.mpr ⟨lw_p44, List.forall_mem_cons.mpr ⟨lw_p45, List.forall_mem_cons.mpr ⟨lw_p46, List.forall_mem_cons.mpr ⟨lw_p47, fun _ h => absurd h List.not_mem_nil⟩⟩⟩⟩⟩⟩⟩⟩⟩⟩⟩⟩⟩⟩⟩⟩
theorem lw_p48 : lw_okq (⟨"FindingAidModel", "differs", "(II)I"⟩, 30) := ⟨⟨by decide +kernel, by decide +kernel⟩, List.mem_of_getElem? (i := 664) (by decide +kernel), List.mem_of_getElem? (i := 919) (by decide +kernel), List.mem_of_getElem? (i := 920) (by decide +kernel)⟩
theorem lw_p49 : lw_okq (⟨"FindingAidModel", "write", "(I)V"⟩, 30) := ⟨⟨by decide +kernel, by decide +kernel⟩, List.mem_of_getElem? (i := 664) (by decide +kernel), List.mem_of_getElem? (i := 935) (by decide +kernel), List.mem_of_getElem? (i := 936) (by decide +kernel)⟩
theorem lw_p50 : lw_okq (⟨"FindingAidModel", "put", "(I)V"⟩, 30) := ⟨⟨by decide +kernel, by decide +kernel⟩, List.mem_of_getElem? (i := 664) (by decide +kernel), List.mem_of_getElem? (i := 939) (by decide +kernel), List.mem_of_getElem? (i := 940) (by decide +kernel)⟩
theorem lw_p51 : lw_okq (⟨"FindingAidModel", "digits", "(I)V"⟩, 30) := ⟨⟨by decide +kernel, by decide +kernel⟩, List.mem_of_getElem? (i := 664) (by decide +kernel), List.mem_of_getElem? (i := 943) (by decide +kernel), List.mem_of_getElem? (i := 944) (by decide +kernel)⟩
theorem lw_p52 : lw_okq (⟨"FindingAidModel", "next", "(II)I"⟩, 30) := ⟨⟨by decide +kernel, by decide +kernel⟩, List.mem_of_getElem? (i := 664) (by decide +kernel), List.mem_of_getElem? (i := 947) (by decide +kernel), List.mem_of_getElem? (i := 948) (by decide +kernel)⟩
def lw_privs_4 : List (MethodName × Nat) := [(⟨"FindingAidModel", "differs", "(II)I"⟩, 30), (⟨"FindingAidModel", "write", "(I)V"⟩, 30), (⟨"FindingAidModel", "put", "(I)V"⟩, 30), (⟨"FindingAidModel", "digits", "(I)V"⟩, 30), (⟨"FindingAidModel", "next", "(II)I"⟩, 30)]
theorem lw_r4 : ∀ q ∈ lw_privs_4, lw_okq q := List.forall_mem_cons.mpr ⟨lw_p48, List.forall_mem_cons.mpr ⟨lw_p49, List.forall_mem_cons.mpr ⟨lw_p50, List.forall_mem_cons.mpr ⟨lw_p51, List.forall_mem_cons.mpr ⟨lw_p52, fun _ h => absurd h List.not_mem_nil⟩⟩⟩⟩⟩
def lw_privs : List (MethodName × Nat) := lw_privs_1 ++ (lw_privs_2 ++ (lw_privs_3 ++ (lw_privs_4)))
def lw_tbl : List Cond := k2_sels lw_privs ++ tables_1
theorem lw_privs_ok : ∀ q ∈ lw_privs, lw_okq q := by
  show ∀ q ∈ lw_privs_1 ++ (lw_privs_2 ++ (lw_privs_3 ++ (lw_privs_4))), lw_okq q
  exact List.forall_mem_append.mpr ⟨lw_r1, List.forall_mem_append.mpr ⟨lw_r2, List.forall_mem_append.mpr ⟨lw_r3, lw_r4⟩⟩⟩
end
section
/-! the words that stay true in every later state, as one list; classes, fields -/
def zc_T : List Cond := lw_tbl.filter goodWord
theorem zc_good : ∀ w, w ∈ zc_T → w ∈ zc_T ∧ ((w.onTables && w.keeps) = true ∨ ∃ ty, w = .arrayClass ty) := fun w h => ⟨h, good_of_word (List.mem_filter.mp h).2⟩
theorem zc_in {w : Cond} (i : Nat) (h : lw_tbl[i]? = some w) (hg : goodWord w = true) : w ∈ zc_T := List.mem_filter.mpr ⟨List.mem_of_getElem? h, hg⟩
theorem zc_sub {ws : List Cond} (ps : List Nat) (hp : ws = ps.filterMap (fun i => lw_tbl[i]?)) (h : ws.all goodWord = true) : ∀ w ∈ ws, w ∈ zc_T := by
  intro w hw
  have h1 := List.all_eq_true.mp h w hw
  rw [hp] at hw
  obtain ⟨i, -, hi⟩ := List.mem_filterMap.mp hw
  exact zc_in i hi h1
def zT_K : u_T := fun k => match k with
  | 0 => ("FindingAid$Asks", "count", "I", false)
  | 1 => ("FindingAid$Asks", "outdated", "Z", false)
  | 2 => ("FindingAid$Asks", "levelHere", "[I", true)
  | 3 => ("FindingAid$Asks", "levelThere", "[I", true)
  | 4 => ("FindingAid$Asks", "bits", "[I", true)
  | _ => ("FindingAid$Asks", "taken", "[Z", true)
def zy_K : Nat → FieldType := fun k => match k with
  | 0 => .int
  | 1 => .boolean
  | 2 => .array .int
  | 3 => .array .int
  | 4 => .array .int
  | _ => .array .boolean
theorem zn_K : ∀ a, a < 6 → ∀ b, b < 6 → a ≠ b → (zT_K a).2.1 ≠ (zT_K b).2.1 := by decide +kernel
theorem zt_K : ∀ k, k < 6 → parseFieldDescriptor (zT_K k).2.2.1 = some (zy_K k) := by decide +kernel
theorem zin_K : ∀ w ∈ u_ws "FindingAid$Asks" zT_K 6, w ∈ zc_T := zc_sub [242, 244, 246, 248, 250, 252] (by decide +kernel) (by decide +kernel)
def zT_L : u_T := fun k => match k with
  | 0 => ("FindingAid$Levels", "count", "I", false)
  | 1 => ("FindingAid$Levels", "kind", "[I", true)
  | 2 => ("FindingAid$Levels", "number", "[I", true)
  | 3 => ("FindingAid$Levels", "above", "[I", true)
  | 4 => ("FindingAid$Levels", "depth", "[I", true)
  | 5 => ("FindingAid$Levels", "firstYear", "[I", true)
  | 6 => ("FindingAid$Levels", "lastYear", "[I", true)
  | 7 => ("FindingAid$Levels", "doubt", "[I", true)
  | 8 => ("FindingAid$Levels", "amount", "[I", true)
  | 9 => ("FindingAid$Levels", "unit", "[I", true)
  | 10 => ("FindingAid$Levels", "titleLength", "[I", true)
  | _ => ("FindingAid$Levels", "titleSigns", "[I", true)
def zy_L : Nat → FieldType := fun k => match k with
  | 0 => .int
  | 1 => .array .int
  | 2 => .array .int
  | 3 => .array .int
  | 4 => .array .int
  | 5 => .array .int
  | 6 => .array .int
  | 7 => .array .int
  | 8 => .array .int
  | 9 => .array .int
  | 10 => .array .int
  | _ => .array .int
theorem zn_L : ∀ a, a < 12 → ∀ b, b < 12 → a ≠ b → (zT_L a).2.1 ≠ (zT_L b).2.1 := by decide +kernel
theorem zt_L : ∀ k, k < 12 → parseFieldDescriptor (zT_L k).2.2.1 = some (zy_L k) := by decide +kernel
theorem zin_L : ∀ w ∈ u_ws "FindingAid$Levels" zT_L 12, w ∈ zc_T := zc_sub [138, 140, 142, 144, 146, 148, 150, 152, 154, 156, 158, 160] (by decide +kernel) (by decide +kernel)
def zT_N : u_T := fun k => match k with
  | 0 => ("FindingAid$Notes", "reasons", "[I", true)
  | 1 => ("FindingAid$Notes", "headings", "[I", true)
  | 2 => ("FindingAid$Notes", "undersBefore", "[I", true)
  | 3 => ("FindingAid$Notes", "headingCount", "[I", true)
  | 4 => ("FindingAid$Notes", "moveCount", "[I", true)
  | _ => ("FindingAid$Notes", "hidden", "[Z", true)
def zy_N : Nat → FieldType := fun k => match k with
  | 0 => .array .int
  | 1 => .array .int
  | 2 => .array .int
  | 3 => .array .int
  | 4 => .array .int
  | _ => .array .boolean
theorem zn_N : ∀ a, a < 6 → ∀ b, b < 6 → a ≠ b → (zT_N a).2.1 ≠ (zT_N b).2.1 := by decide +kernel
theorem zt_N : ∀ k, k < 6 → parseFieldDescriptor (zT_N k).2.2.1 = some (zy_N k) := by decide +kernel
theorem zin_N : ∀ w ∈ u_ws "FindingAid$Notes" zT_N 6, w ∈ zc_T := zc_sub [197, 199, 201, 203, 205, 207] (by decide +kernel) (by decide +kernel)
def zT_P : u_T := fun k => match k with
  | 0 => ("FindingAid$Page", "signs", "[I", true)
  | _ => ("FindingAid$Page", "length", "I", false)
def zy_P : Nat → FieldType := fun k => match k with
  | 0 => .array .int
  | _ => .int
theorem zn_P : ∀ a, a < 2 → ∀ b, b < 2 → a ≠ b → (zT_P a).2.1 ≠ (zT_P b).2.1 := by decide +kernel
theorem zt_P : ∀ k, k < 2 → parseFieldDescriptor (zT_P k).2.2.1 = some (zy_P k) := by decide +kernel
theorem zin_P : ∀ w ∈ u_ws "FindingAid$Page" zT_P 2, w ∈ zc_T := zc_sub [265, 267] (by decide +kernel) (by decide +kernel)
def zT_S : u_T := fun k => match k with
  | 0 => ("FindingAid$Sums", "whole", "[I", true)
  | _ => ("FindingAid$Sums", "below", "[I", true)
def zy_S : Nat → FieldType := fun k => match k with
  | 0 => .array .int
  | _ => .array .int
theorem zn_S : ∀ a, a < 2 → ∀ b, b < 2 → a ≠ b → (zT_S a).2.1 ≠ (zT_S b).2.1 := by decide +kernel
theorem zt_S : ∀ k, k < 2 → parseFieldDescriptor (zT_S k).2.2.1 = some (zy_S k) := by decide +kernel
theorem zin_S : ∀ w ∈ u_ws "FindingAid$Sums" zT_S 2, w ∈ zc_T := zc_sub [219, 221] (by decide +kernel) (by decide +kernel)
def zT_T : u_T := fun k => match k with
  | 0 => ("FindingAid$TextReader", "signs", "[I", true)
  | 1 => ("FindingAid$TextReader", "length", "I", false)
  | 2 => ("FindingAid$TextReader", "next", "I", false)
  | 3 => ("FindingAid$TextReader", "wrong", "I", false)
  | _ => ("FindingAid$TextReader", "levels", "LFindingAid$Levels;", false)
def zy_T : Nat → FieldType := fun k => match k with
  | 0 => .array .int
  | 1 => .int
  | 2 => .int
  | 3 => .int
  | _ => .object "FindingAid$Levels"
theorem zn_T : ∀ a, a < 5 → ∀ b, b < 5 → a ≠ b → (zT_T a).2.1 ≠ (zT_T b).2.1 := by decide +kernel
theorem zt_T : ∀ k, k < 5 → parseFieldDescriptor (zT_T k).2.2.1 = some (zy_T k) := by decide +kernel
theorem zin_T : ∀ w ∈ u_ws "FindingAid$TextReader" zT_T 5, w ∈ zc_T := zc_sub [170, 172, 174, 176, 178] (by decide +kernel) (by decide +kernel)
def zT_F : u_T := fun k => match k with
  | 0 => ("FindingAid", "reader", "LFindingAid$TextReader;", true)
  | 1 => ("FindingAid", "notes", "LFindingAid$Notes;", true)
  | 2 => ("FindingAid", "sums", "LFindingAid$Sums;", true)
  | 3 => ("FindingAid", "asks", "LFindingAid$Asks;", true)
  | 4 => ("FindingAid", "page", "LFindingAid$Page;", true)
  | 5 => ("FindingAid", "here", "LFindingAid$Levels;", false)
  | _ => ("FindingAid", "other", "LFindingAid$Levels;", false)
def zy_F : Nat → FieldType := fun k => match k with
  | 0 => .object "FindingAid$TextReader"
  | 1 => .object "FindingAid$Notes"
  | 2 => .object "FindingAid$Sums"
  | 3 => .object "FindingAid$Asks"
  | 4 => .object "FindingAid$Page"
  | 5 => .object "FindingAid$Levels"
  | _ => .object "FindingAid$Levels"
theorem zn_F : ∀ a, a < 7 → ∀ b, b < 7 → a ≠ b → (zT_F a).2.1 ≠ (zT_F b).2.1 := by decide +kernel
theorem zt_F : ∀ k, k < 7 → parseFieldDescriptor (zT_F k).2.2.1 = some (zy_F k) := by decide +kernel
theorem zin_F : ∀ w ∈ u_ws "FindingAid" zT_F 7, w ∈ zc_T := zc_sub [279, 281, 283, 285, 287, 289, 291] (by decide +kernel) (by decide +kernel)
def zT_M : u_T := fun k => match k with
  | 0 => ("FindingAidModel", "thrown", "I", false)
  | 1 => ("FindingAidModel", "size", "I", false)
  | 2 => ("FindingAidModel", "text", "[B", true)
  | 3 => ("FindingAidModel", "wrong", "I", false)
  | 4 => ("FindingAidModel", "at", "I", false)
  | 5 => ("FindingAidModel", "levels", "I", false)
  | 6 => ("FindingAidModel", "other", "I", false)
  | 7 => ("FindingAidModel", "kind", "[I", true)
  | 8 => ("FindingAidModel", "number", "[I", true)
  | 9 => ("FindingAidModel", "under", "[I", true)
  | 10 => ("FindingAidModel", "first", "[I", true)
  | 11 => ("FindingAidModel", "last", "[I", true)
  | 12 => ("FindingAidModel", "unsure", "[I", true)
  | 13 => ("FindingAidModel", "many", "[I", true)
  | 14 => ("FindingAidModel", "unit", "[I", true)
  | 15 => ("FindingAidModel", "letters", "[I", true)
  | 16 => ("FindingAidModel", "title", "[B", true)
  | 17 => ("FindingAidModel", "reasons", "[I", true)
  | 18 => ("FindingAidModel", "names", "[I", true)
  | 19 => ("FindingAidModel", "nameCount", "[I", true)
  | 20 => ("FindingAidModel", "moved", "[I", true)
  | 21 => ("FindingAidModel", "moves", "[I", true)
  | 22 => ("FindingAidModel", "hidden", "[Z", true)
  | 23 => ("FindingAidModel", "asks", "I", false)
  | 24 => ("FindingAidModel", "askLevel", "[I", true)
  | 25 => ("FindingAidModel", "askBits", "[I", true)
  | 26 => ("FindingAidModel", "taken", "[Z", true)
  | 27 => ("FindingAidModel", "fresh", "Z", false)
  | 28 => ("FindingAidModel", "printed", "I", false)
  | _ => ("FindingAidModel", "signs", "[B", true)
def zy_M : Nat → FieldType := fun k => match k with
  | 0 => .int
  | 1 => .int
  | 2 => .array .byte
  | 3 => .int
  | 4 => .int
  | 5 => .int
  | 6 => .int
  | 7 => .array .int
  | 8 => .array .int
  | 9 => .array .int
  | 10 => .array .int
  | 11 => .array .int
  | 12 => .array .int
  | 13 => .array .int
  | 14 => .array .int
  | 15 => .array .int
  | 16 => .array .byte
  | 17 => .array .int
  | 18 => .array .int
  | 19 => .array .int
  | 20 => .array .int
  | 21 => .array .int
  | 22 => .array .boolean
  | 23 => .int
  | 24 => .array .int
  | 25 => .array .int
  | 26 => .array .boolean
  | 27 => .boolean
  | 28 => .int
  | _ => .array .byte
theorem zn_M : ∀ a, a < 30 → ∀ b, b < 30 → a ≠ b → (zT_M a).2.1 ≠ (zT_M b).2.1 := by decide +kernel
theorem zt_M : ∀ k, k < 30 → parseFieldDescriptor (zT_M k).2.2.1 = some (zy_M k) := by decide +kernel
theorem zin_M : ∀ w ∈ u_ws "FindingAidModel" zT_M 30, w ∈ zc_T := zc_sub [752, 754, 756, 758, 760, 762, 764, 766, 768, 770, 772, 774, 776, 778, 780, 782, 784, 786, 788, 790, 792, 794, 796, 798, 800, 802, 804, 806, 808, 810] (by decide +kernel) (by decide +kernel)
def zc_cl : List vw_C := [("FindingAid$Asks", zT_K, 6), ("FindingAid$Levels", zT_L, 12), ("FindingAid$Notes", zT_N, 6), ("FindingAid$Page", zT_P, 2), ("FindingAid$Sums", zT_S, 2), ("FindingAid$TextReader", zT_T, 5), ("FindingAid", zT_F, 7), ("FindingAidModel", zT_M, 30)]
def zc_k1 : Nat → Int32 := fun j => match j with | 0 => 102 | 1 => 115 | 2 => 117 | _ => 105
def zc_k2 : Nat → Int32 := fun j => match j with | 0 => 98 | 1 => 109 | _ => 112
def zc_st : List (String × String × Nat × (Nat → Int32)) := [("FindingAid", "KIND_SIGNS", 4, zc_k1), ("FindingAid", "UNIT_SIGNS", 3, zc_k2)]
def zc_NF : List (String × Nat × String × String × String × String) := [("FindingAid$Page", 53, "FindingAid", "KIND_SIGNS", "[C", "FindingAid"), ("FindingAid$Page", 88, "FindingAid", "UNIT_SIGNS", "[C", "FindingAid"), ("FindingAid$TextReader", 84, "FindingAid", "KIND_SIGNS", "[C", "FindingAid"), ("FindingAid$TextReader", 136, "FindingAid", "UNIT_SIGNS", "[C", "FindingAid")]
def zc_NM : List (String × Nat × MethodName × String) := [("FindingAid", 9, ⟨"FindingAid$TextReader", "<init>", "()V"⟩, "FindingAid"), ("FindingAid$TextReader", 27, ⟨"FindingAid$Levels", "<init>", "()V"⟩, "FindingAid"), ("FindingAid", 18, ⟨"FindingAid$Notes", "<init>", "()V"⟩, "FindingAid"), ("FindingAid", 25, ⟨"FindingAid$Sums", "<init>", "()V"⟩, "FindingAid"), ("FindingAid", 32, ⟨"FindingAid$Asks", "<init>", "()V"⟩, "FindingAid"), ("FindingAid", 39, ⟨"FindingAid$Page", "<init>", "()V"⟩, "FindingAid"), ("FindingAid", 46, ⟨"FindingAid$Levels", "<init>", "()V"⟩, "FindingAid"), ("FindingAid$Levels", 53, ⟨"FindingAid", "order", "(II)I"⟩, "FindingAid"), ("FindingAid$TextReader", 88, ⟨"FindingAid", "indexIn", "([CI)I"⟩, "FindingAid")]
abbrev cb_F_init : ByteArray := prog_1_method_1_code
abbrev cy_F_init : MethodName := ⟨"FindingAid", "<init>", "()V"⟩
abbrev cb_F_sign : ByteArray := prog_1_method_2_code
abbrev cy_F_sign : MethodName := ⟨"FindingAid", "sign", "(I)V"⟩
abbrev cb_F_read : ByteArray := prog_1_method_3_code
abbrev cy_F_read : MethodName := ⟨"FindingAid", "read", "()I"⟩
abbrev cb_F_place : ByteArray := prog_1_method_4_code
abbrev cy_F_place : MethodName := ⟨"FindingAid", "place", "()I"⟩
abbrev cb_F_level : ByteArray := prog_1_method_5_code
abbrev cy_F_level : MethodName := ⟨"FindingAid", "level", "(II)I"⟩
abbrev cb_F_letter : ByteArray := prog_1_method_6_code
abbrev cy_F_letter : MethodName := ⟨"FindingAid", "letter", "(II)I"⟩
abbrev cb_F_compare : ByteArray := prog_1_method_7_code
abbrev cy_F_compare : MethodName := ⟨"FindingAid", "compare", "(II)I"⟩
abbrev cb_F_extent : ByteArray := prog_1_method_8_code
abbrev cy_F_extent : MethodName := ⟨"FindingAid", "extent", "(II)I"⟩
abbrev cb_F_differ : ByteArray := prog_1_method_9_code
abbrev cy_F_differ : MethodName := ⟨"FindingAid", "differ", "(I)I"⟩
abbrev cb_F_twice : ByteArray := prog_1_method_10_code
abbrev cy_F_twice : MethodName := ⟨"FindingAid", "twice", "(I)I"⟩
abbrev cb_F_restrict : ByteArray := prog_1_method_11_code
abbrev cy_F_restrict : MethodName := ⟨"FindingAid", "restrict", "(III)I"⟩
abbrev cb_F_restricted : ByteArray := prog_1_method_12_code
abbrev cy_F_restricted : MethodName := ⟨"FindingAid", "restricted", "(II)I"⟩
abbrev cb_F_name : ByteArray := prog_1_method_13_code
abbrev cy_F_name : MethodName := ⟨"FindingAid", "name", "(II)I"⟩
abbrev cb_F_named : ByteArray := prog_1_method_14_code
abbrev cy_F_named : MethodName := ⟨"FindingAid", "named", "(II)I"⟩
abbrev cb_F_move : ByteArray := prog_1_method_15_code
abbrev cy_F_move : MethodName := ⟨"FindingAid", "move", "(II)I"⟩
abbrev cb_F_was : ByteArray := prog_1_method_16_code
abbrev cy_F_was : MethodName := ⟨"FindingAid", "was", "(II)I"⟩
abbrev cb_F_published : ByteArray := prog_1_method_17_code
abbrev cy_F_published : MethodName := ⟨"FindingAid", "published", "(IZ)I"⟩
abbrev cb_F_merge : ByteArray := prog_1_method_18_code
abbrev cy_F_merge : MethodName := ⟨"FindingAid", "merge", "()I"⟩
abbrev cb_F_ask : ByteArray := prog_1_method_19_code
abbrev cy_F_ask : MethodName := ⟨"FindingAid", "ask", "(II)I"⟩
abbrev cb_F_take : ByteArray := prog_1_method_20_code
abbrev cy_F_take : MethodName := ⟨"FindingAid", "take", "(I)I"⟩
abbrev cb_F_print : ByteArray := prog_1_method_21_code
abbrev cy_F_print : MethodName := ⟨"FindingAid", "print", "()I"⟩
abbrev cb_F_at : ByteArray := prog_1_method_22_code
abbrev cy_F_at : MethodName := ⟨"FindingAid", "at", "(I)I"⟩
abbrev cb_F_isShown : ByteArray := prog_1_method_23_code
abbrev cy_F_isShown : MethodName := ⟨"FindingAid", "isShown", "(I)Z"⟩
abbrev cb_F_isRestrictionKind : ByteArray := prog_1_method_24_code
abbrev cy_F_isRestrictionKind : MethodName := ⟨"FindingAid", "isRestrictionKind", "(I)Z"⟩
abbrev cb_F_order : ByteArray := prog_1_method_25_code
abbrev cy_F_order : MethodName := ⟨"FindingAid", "order", "(II)I"⟩
abbrev cb_F_indexIn : ByteArray := prog_1_method_26_code
abbrev cy_F_indexIn : MethodName := ⟨"FindingAid", "indexIn", "([CI)I"⟩
abbrev cb_M_init : ByteArray := prog_9_method_1_code
abbrev cy_M_init : MethodName := ⟨"FindingAidModel", "<init>", "()V"⟩
abbrev cb_M_thrown : ByteArray := prog_9_method_2_code
abbrev cy_M_thrown : MethodName := ⟨"FindingAidModel", "thrown", "()I"⟩
abbrev cb_M_in : ByteArray := prog_9_method_3_code
abbrev cy_M_in : MethodName := ⟨"FindingAidModel", "in", "(III)Z"⟩
abbrev cb_M_isLevel : ByteArray := prog_9_method_4_code
abbrev cy_M_isLevel : MethodName := ⟨"FindingAidModel", "isLevel", "(I)Z"⟩
abbrev cb_M_sign : ByteArray := prog_9_method_5_code
abbrev cy_M_sign : MethodName := ⟨"FindingAidModel", "sign", "(I)V"⟩
abbrev cb_M_look : ByteArray := prog_9_method_6_code
abbrev cy_M_look : MethodName := ⟨"FindingAidModel", "look", "()I"⟩
abbrev cb_M_isDigit : ByteArray := prog_9_method_7_code
abbrev cy_M_isDigit : MethodName := ⟨"FindingAidModel", "isDigit", "()Z"⟩
abbrev cb_M_eat : ByteArray := prog_9_method_8_code
abbrev cy_M_eat : MethodName := ⟨"FindingAidModel", "eat", "(I)Z"⟩
abbrev cb_M_number : ByteArray := prog_9_method_9_code
abbrev cy_M_number : MethodName := ⟨"FindingAidModel", "number", "([II)Z"⟩
abbrev cb_M_year : ByteArray := prog_9_method_10_code
abbrev cy_M_year : MethodName := ⟨"FindingAidModel", "year", "([III)Z"⟩
abbrev cb_M_depth : ByteArray := prog_9_method_11_code
abbrev cy_M_depth : MethodName := ⟨"FindingAidModel", "depth", "(I)I"⟩
abbrev cb_M_kindOf : ByteArray := prog_9_method_12_code
abbrev cy_M_kindOf : MethodName := ⟨"FindingAidModel", "kindOf", "(I)I"⟩
abbrev cb_M_place_I : ByteArray := prog_9_method_13_code
abbrev cy_M_place_I : MethodName := ⟨"FindingAidModel", "place", "(I)Z"⟩
abbrev cb_M_titled : ByteArray := prog_9_method_14_code
abbrev cy_M_titled : MethodName := ⟨"FindingAidModel", "titled", "(I)Z"⟩
abbrev cb_M_dated : ByteArray := prog_9_method_15_code
abbrev cy_M_dated : MethodName := ⟨"FindingAidModel", "dated", "(I)Z"⟩
abbrev cb_M_extended : ByteArray := prog_9_method_16_code
abbrev cy_M_extended : MethodName := ⟨"FindingAidModel", "extended", "(I)Z"⟩
abbrev cb_M_line : ByteArray := prog_9_method_17_code
abbrev cy_M_line : MethodName := ⟨"FindingAidModel", "line", "(I)Z"⟩
abbrev cb_M_reads : ByteArray := prog_9_method_18_code
abbrev cy_M_reads : MethodName := ⟨"FindingAidModel", "reads", "()Z"⟩
abbrev cb_M_copy : ByteArray := prog_9_method_19_code
abbrev cy_M_copy : MethodName := ⟨"FindingAidModel", "copy", "(IIZ)V"⟩
abbrev cb_M_read : ByteArray := prog_9_method_20_code
abbrev cy_M_read : MethodName := ⟨"FindingAidModel", "read", "()I"⟩
abbrev cb_M_place_ : ByteArray := prog_9_method_21_code
abbrev cy_M_place_ : MethodName := ⟨"FindingAidModel", "place", "()I"⟩
abbrev cb_M_level : ByteArray := prog_9_method_22_code
abbrev cy_M_level : MethodName := ⟨"FindingAidModel", "level", "(II)I"⟩
abbrev cb_M_letter : ByteArray := prog_9_method_23_code
abbrev cy_M_letter : MethodName := ⟨"FindingAidModel", "letter", "(II)I"⟩
abbrev cb_M_compare : ByteArray := prog_9_method_24_code
abbrev cy_M_compare : MethodName := ⟨"FindingAidModel", "compare", "(II)I"⟩
abbrev cb_M_lies : ByteArray := prog_9_method_25_code
abbrev cy_M_lies : MethodName := ⟨"FindingAidModel", "lies", "(II)Z"⟩
abbrev cb_M_counts : ByteArray := prog_9_method_26_code
abbrev cy_M_counts : MethodName := ⟨"FindingAidModel", "counts", "(IIIZ)Z"⟩
abbrev cb_M_sum : ByteArray := prog_9_method_27_code
abbrev cy_M_sum : MethodName := ⟨"FindingAidModel", "sum", "(IIZ)I"⟩
abbrev cb_M_extent : ByteArray := prog_9_method_28_code
abbrev cy_M_extent : MethodName := ⟨"FindingAidModel", "extent", "(II)I"⟩
abbrev cb_M_differ : ByteArray := prog_9_method_29_code
abbrev cy_M_differ : MethodName := ⟨"FindingAidModel", "differ", "(I)I"⟩
abbrev cb_M_twice : ByteArray := prog_9_method_30_code
abbrev cy_M_twice : MethodName := ⟨"FindingAidModel", "twice", "(I)I"⟩
abbrev cb_M_restrict : ByteArray := prog_9_method_31_code
abbrev cy_M_restrict : MethodName := ⟨"FindingAidModel", "restrict", "(III)I"⟩
abbrev cb_M_restricted : ByteArray := prog_9_method_32_code
abbrev cy_M_restricted : MethodName := ⟨"FindingAidModel", "restricted", "(II)I"⟩
abbrev cb_M_hasName : ByteArray := prog_9_method_33_code
abbrev cy_M_hasName : MethodName := ⟨"FindingAidModel", "hasName", "(II)Z"⟩
abbrev cb_M_name : ByteArray := prog_9_method_34_code
abbrev cy_M_name : MethodName := ⟨"FindingAidModel", "name", "(II)I"⟩
abbrev cb_M_named : ByteArray := prog_9_method_35_code
abbrev cy_M_named : MethodName := ⟨"FindingAidModel", "named", "(II)I"⟩
abbrev cb_M_move : ByteArray := prog_9_method_36_code
abbrev cy_M_move : MethodName := ⟨"FindingAidModel", "move", "(II)I"⟩
abbrev cb_M_was : ByteArray := prog_9_method_37_code
abbrev cy_M_was : MethodName := ⟨"FindingAidModel", "was", "(II)I"⟩
abbrev cb_M_isShown : ByteArray := prog_9_method_38_code
abbrev cy_M_isShown : MethodName := ⟨"FindingAidModel", "isShown", "(I)Z"⟩
abbrev cb_M_published : ByteArray := prog_9_method_39_code
abbrev cy_M_published : MethodName := ⟨"FindingAidModel", "published", "(IZ)I"⟩
abbrev cb_M_samePath : ByteArray := prog_9_method_40_code
abbrev cy_M_samePath : MethodName := ⟨"FindingAidModel", "samePath", "(II)Z"⟩
abbrev cb_M_differs : ByteArray := prog_9_method_41_code
abbrev cy_M_differs : MethodName := ⟨"FindingAidModel", "differs", "(II)I"⟩
abbrev cb_M_merge : ByteArray := prog_9_method_42_code
abbrev cy_M_merge : MethodName := ⟨"FindingAidModel", "merge", "()I"⟩
abbrev cb_M_ask : ByteArray := prog_9_method_43_code
abbrev cy_M_ask : MethodName := ⟨"FindingAidModel", "ask", "(II)I"⟩
abbrev cb_M_take : ByteArray := prog_9_method_44_code
abbrev cy_M_take : MethodName := ⟨"FindingAidModel", "take", "(I)I"⟩
abbrev cb_M_put : ByteArray := prog_9_method_45_code
abbrev cy_M_put : MethodName := ⟨"FindingAidModel", "put", "(I)V"⟩
abbrev cb_M_digits : ByteArray := prog_9_method_46_code
abbrev cy_M_digits : MethodName := ⟨"FindingAidModel", "digits", "(I)V"⟩
abbrev cb_M_write : ByteArray := prog_9_method_47_code
abbrev cy_M_write : MethodName := ⟨"FindingAidModel", "write", "(I)V"⟩
abbrev cb_M_next : ByteArray := prog_9_method_48_code
abbrev cy_M_next : MethodName := ⟨"FindingAidModel", "next", "(II)I"⟩
abbrev cb_M_print : ByteArray := prog_9_method_49_code
abbrev cy_M_print : MethodName := ⟨"FindingAidModel", "print", "()I"⟩
abbrev cb_M_at : ByteArray := prog_9_method_50_code
abbrev cy_M_at : MethodName := ⟨"FindingAidModel", "at", "(I)I"⟩
abbrev cb_K_init : ByteArray := prog_2_method_1_code
abbrev cy_K_init : MethodName := ⟨"FindingAid$Asks", "<init>", "()V"⟩
abbrev cb_K_has : ByteArray := prog_2_method_2_code
abbrev cy_K_has : MethodName := ⟨"FindingAid$Asks", "has", "(I)Z"⟩
abbrev cb_K_gather : ByteArray := prog_2_method_3_code
abbrev cy_K_gather : MethodName := ⟨"FindingAid$Asks", "gather", "(LFindingAid$Levels;LFindingAid$Levels;)V"⟩
abbrev cb_K_add : ByteArray := prog_2_method_4_code
abbrev cy_K_add : MethodName := ⟨"FindingAid$Asks", "add", "(III)V"⟩
abbrev cb_L_init : ByteArray := prog_3_method_1_code
abbrev cy_L_init : MethodName := ⟨"FindingAid$Levels", "<init>", "()V"⟩
abbrev cb_L_has : ByteArray := prog_3_method_2_code
abbrev cy_L_has : MethodName := ⟨"FindingAid$Levels", "has", "(I)Z"⟩
abbrev cb_L_titleSign : ByteArray := prog_3_method_3_code
abbrev cy_L_titleSign : MethodName := ⟨"FindingAid$Levels", "titleSign", "(II)I"⟩
abbrev cb_L_addTitleSign : ByteArray := prog_3_method_4_code
abbrev cy_L_addTitleSign : MethodName := ⟨"FindingAid$Levels", "addTitleSign", "(II)V"⟩
abbrev cb_L_addBare : ByteArray := prog_3_method_5_code
abbrev cy_L_addBare : MethodName := ⟨"FindingAid$Levels", "addBare", "(I)V"⟩
abbrev cb_L_latestOfDepth : ByteArray := prog_3_method_6_code
abbrev cy_L_latestOfDepth : MethodName := ⟨"FindingAid$Levels", "latestOfDepth", "(II)I"⟩
abbrev cb_L_orderOfDates : ByteArray := prog_3_method_7_code
abbrev cy_L_orderOfDates : MethodName := ⟨"FindingAid$Levels", "orderOfDates", "(II)I"⟩
abbrev cb_L_repeatsNumber : ByteArray := prog_3_method_8_code
abbrev cy_L_repeatsNumber : MethodName := ⟨"FindingAid$Levels", "repeatsNumber", "(I)Z"⟩
abbrev cb_L_isWithin : ByteArray := prog_3_method_9_code
abbrev cy_L_isWithin : MethodName := ⟨"FindingAid$Levels", "isWithin", "(II)Z"⟩
abbrev cb_L_mayHang : ByteArray := prog_3_method_10_code
abbrev cy_L_mayHang : MethodName := ⟨"FindingAid$Levels", "mayHang", "(II)Z"⟩
abbrev cb_L_hang : ByteArray := prog_3_method_11_code
abbrev cy_L_hang : MethodName := ⟨"FindingAid$Levels", "hang", "(II)V"⟩
abbrev cb_L_deeperUnder : ByteArray := prog_3_method_12_code
abbrev cy_L_deeperUnder : MethodName := ⟨"FindingAid$Levels", "deeperUnder", "(II)I"⟩
abbrev cb_L_deepestWithin : ByteArray := prog_3_method_13_code
abbrev cy_L_deepestWithin : MethodName := ⟨"FindingAid$Levels", "deepestWithin", "(I)I"⟩
abbrev cb_L_nextUnder : ByteArray := prog_3_method_14_code
abbrev cy_L_nextUnder : MethodName := ⟨"FindingAid$Levels", "nextUnder", "(II)I"⟩
abbrev cb_L_isBehind : ByteArray := prog_3_method_15_code
abbrev cy_L_isBehind : MethodName := ⟨"FindingAid$Levels", "isBehind", "(II)Z"⟩
abbrev cb_L_firstWithPathOf : ByteArray := prog_3_method_16_code
abbrev cy_L_firstWithPathOf : MethodName := ⟨"FindingAid$Levels", "firstWithPathOf", "(LFindingAid$Levels;I)I"⟩
abbrev cb_L_hasPathOf : ByteArray := prog_3_method_17_code
abbrev cy_L_hasPathOf : MethodName := ⟨"FindingAid$Levels", "hasPathOf", "(ILFindingAid$Levels;I)Z"⟩
abbrev cb_L_differenceBits : ByteArray := prog_3_method_18_code
abbrev cy_L_differenceBits : MethodName := ⟨"FindingAid$Levels", "differenceBits", "(ILFindingAid$Levels;I)I"⟩
abbrev cb_L_hasTitleOf : ByteArray := prog_3_method_19_code
abbrev cy_L_hasTitleOf : MethodName := ⟨"FindingAid$Levels", "hasTitleOf", "(ILFindingAid$Levels;I)Z"⟩
abbrev cb_L_copyParts : ByteArray := prog_3_method_20_code
abbrev cy_L_copyParts : MethodName := ⟨"FindingAid$Levels", "copyParts", "(ILFindingAid$Levels;I)V"⟩
abbrev cb_N_init : ByteArray := prog_4_method_1_code
abbrev cy_N_init : MethodName := ⟨"FindingAid$Notes", "<init>", "()V"⟩
abbrev cb_N_forget : ByteArray := prog_4_method_2_code
abbrev cy_N_forget : MethodName := ⟨"FindingAid$Notes", "forget", "()V"⟩
abbrev cb_N_setReason : ByteArray := prog_4_method_3_code
abbrev cy_N_setReason : MethodName := ⟨"FindingAid$Notes", "setReason", "(III)V"⟩
abbrev cb_N_reasonOf : ByteArray := prog_4_method_4_code
abbrev cy_N_reasonOf : MethodName := ⟨"FindingAid$Notes", "reasonOf", "(II)I"⟩
abbrev cb_N_hasHeading : ByteArray := prog_4_method_5_code
abbrev cy_N_hasHeading : MethodName := ⟨"FindingAid$Notes", "hasHeading", "(II)Z"⟩
abbrev cb_N_addHeading : ByteArray := prog_4_method_6_code
abbrev cy_N_addHeading : MethodName := ⟨"FindingAid$Notes", "addHeading", "(II)V"⟩
abbrev cb_N_addMove : ByteArray := prog_4_method_7_code
abbrev cy_N_addMove : MethodName := ⟨"FindingAid$Notes", "addMove", "(II)V"⟩
abbrev cb_N_underBefore : ByteArray := prog_4_method_8_code
abbrev cy_N_underBefore : MethodName := ⟨"FindingAid$Notes", "underBefore", "(II)I"⟩
abbrev cb_P_init : ByteArray := prog_5_method_1_code
abbrev cy_P_init : MethodName := ⟨"FindingAid$Page", "<init>", "()V"⟩
abbrev cb_P_write : ByteArray := prog_5_method_2_code
abbrev cy_P_write : MethodName := ⟨"FindingAid$Page", "write", "(LFindingAid$Levels;LFindingAid$Notes;)V"⟩
abbrev cb_P_writeFrom : ByteArray := prog_5_method_3_code
abbrev cy_P_writeFrom : MethodName := ⟨"FindingAid$Page", "writeFrom", "(LFindingAid$Page;LFindingAid$Levels;LFindingAid$Notes;II)V"⟩
abbrev cb_P_writeLine : ByteArray := prog_5_method_4_code
abbrev cy_P_writeLine : MethodName := ⟨"FindingAid$Page", "writeLine", "(LFindingAid$Levels;I)V"⟩
abbrev cb_P_writeDate : ByteArray := prog_5_method_5_code
abbrev cy_P_writeDate : MethodName := ⟨"FindingAid$Page", "writeDate", "(LFindingAid$Levels;I)V"⟩
abbrev cb_P_putNumber : ByteArray := prog_5_method_6_code
abbrev cy_P_putNumber : MethodName := ⟨"FindingAid$Page", "putNumber", "(I)V"⟩
abbrev cb_P_putOneOf : ByteArray := prog_5_method_7_code
abbrev cy_P_putOneOf : MethodName := ⟨"FindingAid$Page", "putOneOf", "([CI)V"⟩
abbrev cb_P_put : ByteArray := prog_5_method_8_code
abbrev cy_P_put : MethodName := ⟨"FindingAid$Page", "put", "(I)V"⟩
abbrev cb_S_init : ByteArray := prog_6_method_1_code
abbrev cy_S_init : MethodName := ⟨"FindingAid$Sums", "<init>", "()V"⟩
abbrev cb_S_weigh : ByteArray := prog_6_method_2_code
abbrev cy_S_weigh : MethodName := ⟨"FindingAid$Sums", "weigh", "(LFindingAid$Levels;)V"⟩
abbrev cb_S_weighOne : ByteArray := prog_6_method_3_code
abbrev cy_S_weighOne : MethodName := ⟨"FindingAid$Sums", "weighOne", "(LFindingAid$Levels;I)V"⟩
abbrev cb_S_wholeOf : ByteArray := prog_6_method_4_code
abbrev cy_S_wholeOf : MethodName := ⟨"FindingAid$Sums", "wholeOf", "(II)I"⟩
abbrev cb_S_contradicts : ByteArray := prog_6_method_5_code
abbrev cy_S_contradicts : MethodName := ⟨"FindingAid$Sums", "contradicts", "(LFindingAid$Levels;I)Z"⟩
abbrev cb_T_init : ByteArray := prog_7_method_1_code
abbrev cy_T_init : MethodName := ⟨"FindingAid$TextReader", "<init>", "()V"⟩
abbrev cb_T_hear : ByteArray := prog_7_method_2_code
abbrev cy_T_hear : MethodName := ⟨"FindingAid$TextReader", "hear", "(I)V"⟩
abbrev cb_T_exchange : ByteArray := prog_7_method_3_code
abbrev cy_T_exchange : MethodName := ⟨"FindingAid$TextReader", "exchange", "(LFindingAid$Levels;)LFindingAid$Levels;"⟩
abbrev cb_T_readText : ByteArray := prog_7_method_4_code
abbrev cy_T_readText : MethodName := ⟨"FindingAid$TextReader", "readText", "()Z"⟩
abbrev cb_T_readLines : ByteArray := prog_7_method_5_code
abbrev cy_T_readLines : MethodName := ⟨"FindingAid$TextReader", "readLines", "()Z"⟩
abbrev cb_T_readLine : ByteArray := prog_7_method_6_code
abbrev cy_T_readLine : MethodName := ⟨"FindingAid$TextReader", "readLine", "(I)Z"⟩
abbrev cb_T_readDepth : ByteArray := prog_7_method_7_code
abbrev cy_T_readDepth : MethodName := ⟨"FindingAid$TextReader", "readDepth", "(I)Z"⟩
abbrev cb_T_readKind : ByteArray := prog_7_method_8_code
abbrev cy_T_readKind : MethodName := ⟨"FindingAid$TextReader", "readKind", "(I)Z"⟩
abbrev cb_T_readNumber : ByteArray := prog_7_method_9_code
abbrev cy_T_readNumber : MethodName := ⟨"FindingAid$TextReader", "readNumber", "(I)Z"⟩
abbrev cb_T_readTitle : ByteArray := prog_7_method_10_code
abbrev cy_T_readTitle : MethodName := ⟨"FindingAid$TextReader", "readTitle", "(I)Z"⟩
abbrev cb_T_readDate : ByteArray := prog_7_method_11_code
abbrev cy_T_readDate : MethodName := ⟨"FindingAid$TextReader", "readDate", "(I)Z"⟩
abbrev cb_T_readExtent : ByteArray := prog_7_method_12_code
abbrev cy_T_readExtent : MethodName := ⟨"FindingAid$TextReader", "readExtent", "(I)Z"⟩
abbrev cb_T_readDigits : ByteArray := prog_7_method_13_code
abbrev cy_T_readDigits : MethodName := ⟨"FindingAid$TextReader", "readDigits", "()I"⟩
abbrev cb_T_readYear : ByteArray := prog_7_method_14_code
abbrev cy_T_readYear : MethodName := ⟨"FindingAid$TextReader", "readYear", "(I)I"⟩
abbrev cb_T_expect : ByteArray := prog_7_method_15_code
abbrev cy_T_expect : MethodName := ⟨"FindingAid$TextReader", "expect", "(I)Z"⟩
abbrev cb_T_wrongAt : ByteArray := prog_7_method_16_code
abbrev cy_T_wrongAt : MethodName := ⟨"FindingAid$TextReader", "wrongAt", "(I)Z"⟩
abbrev cb_T_ahead : ByteArray := prog_7_method_17_code
abbrev cy_T_ahead : MethodName := ⟨"FindingAid$TextReader", "ahead", "(I)I"⟩
abbrev cb_T_isDigit : ByteArray := prog_7_method_18_code
abbrev cy_T_isDigit : MethodName := ⟨"FindingAid$TextReader", "isDigit", "(I)Z"⟩
abbrev cb_T_isLetter : ByteArray := prog_7_method_19_code
abbrev cy_T_isLetter : MethodName := ⟨"FindingAid$TextReader", "isLetter", "(I)Z"⟩
abbrev cb_W_read : ByteArray := method_3_code
abbrev cy_W_read : MethodName := ⟨"FindingAidLaw", "read", "(LFindingAid;[J)I"⟩
abbrev cb_W_merge : ByteArray := method_4_code
abbrev cy_W_merge : MethodName := ⟨"FindingAidLaw", "merge", "(LFindingAid;[J)I"⟩
abbrev cb_W_law : ByteArray := code
abbrev cy_W_law : MethodName := ⟨"FindingAidLaw", "law", "([I)Z"⟩
abbrev cb_JA_fill : ByteArray := prog_16_method_103_code
abbrev cy_JA_fill : MethodName := ⟨"java/util/Arrays", "fill", "([II)V"⟩
end
section
/-! THE HEAP AS A FUNCTION. zx_M: what is known of the cells at and above a base; zE: the machine at a frame of a method, with such a heap. -/
abbrev zx_M : Type := Nat → Option va_E
/-- launch, slots of the classes, base, classes of arrays by number, addresses of static arrays by number -/
abbrev zx_G : Type := Launch × va_G × Nat × (Nat → ClassId) × (Nat → Nat)
abbrev zx_B (g : zx_G) : Nat := g.2.2.1
abbrev zx_Fr (g : zx_G) : Nat → Prop := fun q => g.2.2.1 ≤ q
def zx_tys (g : zx_G) : List (ClassId × FieldType) := [(g.2.2.2.1 0, .int), (g.2.2.2.1 1, .boolean), (g.2.2.2.1 2, .long), (g.2.2.2.1 3, .char), (g.2.2.2.1 4, .byte)]
def zx_up (σ : zx_M) (a : Nat) (e : va_E) : zx_M := fun q => if q = a then some e else σ q
theorem zx_up_self {σ : zx_M} {a : Nat} {e : va_E} : zx_up σ a e a = some e := by simp [zx_up]
theorem zx_up_ne {σ : zx_M} {a q : Nat} {e : va_E} (h : q ≠ a) : zx_up σ a e q = σ q := by simp [zx_up, h]
theorem zx_up_up {σ : zx_M} {a : Nat} {e e' : va_E} : zx_up (zx_up σ a e) a e' = zx_up σ a e' := by
  funext q; by_cases h : q = a <;> simp [zx_up, h]
theorem zx_up_id {σ : zx_M} {a : Nat} {e : va_E} (h : σ a = some e) : zx_up σ a e = σ := by
  funext q; by_cases hq : q = a
  · subst hq; simp [zx_up, h]
  · simp [zx_up, hq]
theorem zx_up_comm {σ : zx_M} {a b : Nat} {e e' : va_E} (h : a ≠ b) : zx_up (zx_up σ a e) b e' = zx_up (zx_up σ b e') a e := by
  funext q; by_cases h1 : q = a
  · subst h1; simp [zx_up, h]
  · by_cases h2 : q = b
    · subst h2; simp [zx_up, h1]
    · simp [zx_up, h1, h2]
/-- the static arrays: what they hold -/
def zx_S (g : zx_G) (s : State) (H : Heap) : Prop := ∀ (k : Nat) (q : String × String × Nat × (Nat → Int32)), zc_st[k]? = some q → va_Z q.1 q.2.1 "[C" (.ref (g.2.2.2.2 k)) (zx_Fr g) s H ∧ va_T .char (g.2.2.2.2 k) q.2.2.1 (fun j => .int (q.2.2.2 j)) (zx_Fr g) s H
theorem zx_S.moved {g : zx_G} {u U : State} {H : Heap} (hvm : u.vm.Alike U.vm) (h : zx_S g u H) : zx_S g U H := fun k q hq => ⟨(h k q hq).1.moved hvm, (h k q hq).2.moved hvm⟩
theorem zx_S.kept {g : zx_G} {U : State} {H H1 : Heap} (h : zx_S g U H) (hq : ∀ a : Nat, a < H.size → ¬ zx_Fr g a → H1[a]? = H[a]?) : zx_S g U H1 := fun k q hk => ⟨(h k q hk).1.kept hq, (h k q hk).2.kept hq⟩
def zx_W (g : zx_G) (σ : zx_M) (sz : Nat) (s : State) (H : Heap) : Prop := H.size = sz ∧ (∀ (a : Nat) (e : va_E), σ a = some e → g.2.2.1 ≤ a ∧ va_at g.2.1 zc_cl (a, e) H) ∧ va_K g.2.1 zc_cl (zx_tys g) s ∧ zx_S g s H
theorem zx_W.moved {g : zx_G} {σ : zx_M} {sz : Nat} {u U : State} {H : Heap} (hvm : u.vm.Alike U.vm) (h : zx_W g σ sz u H) : zx_W g σ sz U H := ⟨h.1, h.2.1, va_K.moved hvm h.2.2.1, h.2.2.2.moved hvm⟩
theorem zx_W.one {g : zx_G} {σ : zx_M} {sz : Nat} {s : State} {H : Heap} (h : zx_W g σ sz s H) {a : Nat} {e : va_E} (he : σ a = some e) : va_P g.2.1 zc_cl [(a, e)] H := by
  intro k q hk
  have hz : k < 1 := (List.getElem?_eq_some_iff.mp hk).1
  rw [show k = 0 by omega] at hk
  cases hk
  exact (h.2.1 a e he).2
/-- one cell written -/
theorem zx_W.put {g : zx_G} {σ : zx_M} {sz : Nat} {s : State} {H H1 : Heap} (h : zx_W g σ sz s H) {a : Nat} {e0 e : va_E} (h0 : σ a = some e0) (he : va_at g.2.1 zc_cl (a, e) H1) (z : H1.size = H.size) (oq : ∀ q : Nat, q ≠ a → H1[q]? = H[q]?) : zx_W g (zx_up σ a e) sz s H1 := by
  have hb := (h.2.1 a e0 h0).1
  refine ⟨z.trans h.1, fun b e2 hb2 => ?_, h.2.2.1, h.2.2.2.kept fun q _ hq => oq q fun hqa => hq (by subst hqa; exact hb)⟩
  by_cases hab : b = a
  · subst hab
    rw [zx_up_self] at hb2
    cases hb2
    exact ⟨hb, he⟩
  · rw [zx_up_ne hab] at hb2
    exact ⟨(h.2.1 b e2 hb2).1, (h.2.1 b e2 hb2).2.kept (oq b hab)⟩
/-- one cell made -/
theorem zx_W.push {g : zx_G} {σ : zx_M} {sz : Nat} {s : State} {H H1 : Heap} (h : zx_W g σ sz s H) (hB : g.2.2.1 ≤ sz) {e : va_E} (he : va_at g.2.1 zc_cl (sz, e) H1) (z : H1.size = sz + 1) (oq : ∀ q : Nat, q < sz → H1[q]? = H[q]?) : zx_W g (zx_up σ sz e) (sz + 1) s H1 := by
  refine ⟨z, fun b e2 hb2 => ?_, h.2.2.1, h.2.2.2.kept fun q hq _ => oq q (by rw [← h.1]; exact hq)⟩
  by_cases hab : b = sz
  · subst hab
    rw [zx_up_self] at hb2
    cases hb2
    exact ⟨hB, he⟩
  · rw [zx_up_ne hab] at hb2
    refine ⟨(h.2.1 b e2 hb2).1, (h.2.1 b e2 hb2).2.kept (oq b ?_)⟩
    have h9 := (h.2.1 b e2 hb2).2.lt
    rw [h.1] at h9
    exact h9
def zx_Q (g : zx_G) (Post : Option Value → zx_M → Nat → Prop) : Array Value → State → Outcome → State → Prop := fun _ st oc t => (∃ (r : Option Value) (σ : zx_M) (sz : Nat), oc = .returned r ∧ Post r σ sz ∧ zx_W g σ sz t t.heap) ∧ va_F (zx_Fr g) st t
/-- the links to nest mates -/
def zx_N (s : State) : Prop := (∀ q ∈ zc_NF, va_Nw (.fieldLinkNest q.1 q.2.1 q.2.2.1 q.2.2.2.1 q.2.2.2.2.1 q.2.2.2.2.2) s) ∧ ∀ q ∈ zc_NM, va_Nw (.methodLinkNest q.1 q.2.1 q.2.2.1 q.2.2.2) s
theorem zx_N.warm {s U : State} (hW : s.WarmedH U.vm) (h : zx_N s) : zx_N U := ⟨fun q hq => va_Nw.warmF hW (h.1 q hq), fun q hq => va_Nw.warmM hW (h.2 q hq)⟩
theorem zx_N.same {u U : State} (hv : u.vm = U.vm) (h : zx_N u) : zx_N U := ⟨fun q hq => va_Nw.same rfl hv (h.1 q hq), fun q hq => va_Nw.same rfl hv (h.2 q hq)⟩
def zx_Pc (g : zx_G) (av : List Value) (σ : zx_M) (sz : Nat) : Array Value → State → Prop := va_Pc av (fun U => zx_W g σ sz U U.heap ∧ g.2.2.1 ≤ sz ∧ zx_N U)
def zx_A (g : zx_G) (own : String) (cc : ByteArray) (nL : Nat) (ret : Option FieldType) (ini : Bool) (p : Program) (s : State) (m : MethodId) (args : Array Value) (meth : Method) (c : Code) : Prop :=
  p.tables.exec = Jvm.exec ∧ c.code = cc ∧ meth.sig.returnType = ret ∧ c.maxLocals = nL ∧ s.vm.findClass own = some m.cls ∧ (∀ w ∈ zc_T, w.before args s = true) ∧ meth.locks = false ∧ g.2.2.1 ≤ s.heap.size ∧ (ini = true → meth.name = "<init>") ∧ zx_S g s s.heap ∧ zx_N s
/-- the machine at pc with these locals, this stack and this heap: it ends, and Post holds of the answer and the heap -/
def zE (g : zx_G) (own : String) (cc : ByteArray) (nL : Nat) (ret : Option FieldType) (ini : Bool) (rm : Room) (mc ms : Nat) (Post : Option Value → zx_M → Nat → Prop) (pc : Nat) (lv : List (Nat × Value)) (st : List Value) (σ : zx_M) (sz kc ks : Nat) : Prop :=
  ∀ (p : Program) (e : Env) (s : State) (m : MethodId) (args : Array Value) (below : List Frame) (meth : Method) (c : Code), zx_A g own cc nL ret ini p s m args meth c → ∀ (H : Heap) (locs : List Loc) (ls : Array Slot), zx_W g σ sz s H → va_S (zx_Fr g) s.heap H locs → lv_has ls nL lv →
    W p g.1 e rm s m args below meth c H locs kc ks (MQ below (zx_Q g Post) args s mc ms (zx_Fr g)) (F0 m pc ls st)
/-- a method's contract -/
def zM (g : zx_G) (y : MethodName) (cc : ByteArray) (nL : Nat) (ret : Option FieldType) (rm : Room) (mc ms : Nat) (av : List Value) (σ : zx_M) (sz : Nat) (Post : Option Value → zx_M → Nat → Prop) : Prop :=
  Met g.1 y (.code y cc nL ret :: zc_T) rm (zx_Pc g av σ sz) (zx_Q g Post) mc ms (zx_Fr g)
theorem zx_blind {g : zx_G} {av : List Value} {σ : zx_M} {sz : Nat} : FrameBlind (zx_Pc g av σ sz) := by
  intro a U fr mk h
  obtain ⟨h1, h2, h3, h4⟩ := h
  exact ⟨h1, zx_W.moved (u := U) (U := U.calling fr mk a) (Vm.Alike.refl U.vm) h2, h3, zx_N.same (u := U) rfl h4⟩
theorem zM_of {g : zx_G} {own : String} {y : MethodName} {cc : ByteArray} {nL : Nat} {ret : Option FieldType} {ini : Bool} {rm : Room} {mc ms : Nat} {av : List Value} {σ : zx_M} {sz : Nat} {Post : Option Value → zx_M → Nat → Prop} {lv : List (Nat × Value)}
    (hy : plainName y.cls = true) (ho : y.cls = own) (hini : ini = true → y.name = "<init>") (hlen : (lg_sl av).length ≤ nL) (hlv : lv_args 0 av = lv)
    (body : zE g own cc nL ret ini rm mc ms Post 0 lv [] σ sz 0 0) : zM g y cc nL ret rm mc ms av σ sz Post := by
  refine Met.ofW (cc := cc) (maxL := nL) (ret := ret) hy rfl ?_
  intro p e s m args below meth c s₁ B hml hv
  obtain ⟨rfl, hW, hB, hN⟩ := hv
  have hts := atoms_spec (ws := .code y cc nL ret :: zc_T) B.pre
  have hown : s.vm.findClass own = some m.cls := by rw [← ho]; exact findClass_of_methodNamed B.named
  have hin : ini = true → meth.name = "<init>" := fun h => (name_of_methodNamed B.named B.method).1.trans (hini h)
  have hl := lv_entry av (n := nL) hlen
  rw [lg_entry_eq]
  generalize (lg_sl av ++ List.replicate (nL - (lg_sl av).length) Slot.unset).toArray = ls at hl ⊢
  rw [hlv] at hl
  exact body p e s m _ below meth c ⟨B.exec, B.bytes, B.returns, hml, hown, fun w h => hts w (List.mem_cons_of_mem _ h), B.notSynchronized, by rw [hW.1]; exact hB, hin, hW.2.2.2, hN⟩ s.heap [] ls hW va_S.rf hl
section ZE
variable {g : zx_G} {own : String} {cc : ByteArray} {nL : Nat} {ret : Option FieldType} {ini : Bool} {rm : Room} {mc ms : Nat} {Post : Option Value → zx_M → Nat → Prop} {pc : Nat} {lv : List (Nat × Value)} {rest : List Value} {σ : zx_M} {sz kc ks : Nat}
theorem ze_iconst {n : Int} {v : Int32} (hd : decode cc pc = .ok (.iconst n, 1)) (hv : Int32.ofInt n = v) (k : zE g own cc nL ret ini rm mc ms Post (pc + 1) lv (.int v :: rest) σ sz kc ks) : zE g own cc nL ret ini rm mc ms Post pc lv rest σ sz kc ks := by
  intro p e s m args below meth c hA H locs ls hW hS hl
  exact lv_iconst hA.1 hA.2.1 hd hv (k p e s m args below meth c hA H locs ls hW hS hl)
theorem ze_bipush {n : Int} {v : Int32} (hd : decode cc pc = .ok (.bipush n, 2)) (hv : (Int8.ofInt n).toInt32 = v) (k : zE g own cc nL ret ini rm mc ms Post (pc + 2) lv (.int v :: rest) σ sz kc ks) : zE g own cc nL ret ini rm mc ms Post pc lv rest σ sz kc ks := by
  intro p e s m args below meth c hA H locs ls hW hS hl
  exact lv_bipush hA.1 hA.2.1 hd hv (k p e s m args below meth c hA H locs ls hW hS hl)
theorem ze_sipush {n : Int} {v : Int32} (hd : decode cc pc = .ok (.sipush n, 3)) (hv : (Int16.ofInt n).toInt32 = v) (k : zE g own cc nL ret ini rm mc ms Post (pc + 3) lv (.int v :: rest) σ sz kc ks) : zE g own cc nL ret ini rm mc ms Post pc lv rest σ sz kc ks := by
  intro p e s m args below meth c hA H locs ls hW hS hl
  exact lv_sipush hA.1 hA.2.1 hd hv (k p e s m args below meth c hA H locs ls hW hS hl)
theorem ze_iload_n {n : Fin 4} {i : Nat} {x : Int32} (j : Nat) (hd : decode cc pc = .ok (.iload_n n, 1)) (hi : (n : Nat) = i) (hj : lv[j]? = some (i, .int x)) (k : zE g own cc nL ret ini rm mc ms Post (pc + 1) lv (.int x :: rest) σ sz kc ks) : zE g own cc nL ret ini rm mc ms Post pc lv rest σ sz kc ks := by
  intro p e s m args below meth c hA H locs ls hW hS hl
  exact lv_iload_n hA.1 hA.2.1 hd hi (lv_at hl j hj) (k p e s m args below meth c hA H locs ls hW hS hl)
theorem ze_iload {i : Nat} {x : Int32} (j : Nat) (hd : decode cc pc = .ok (.iload i, 2)) (hj : lv[j]? = some (i, .int x)) (k : zE g own cc nL ret ini rm mc ms Post (pc + 2) lv (.int x :: rest) σ sz kc ks) : zE g own cc nL ret ini rm mc ms Post pc lv rest σ sz kc ks := by
  intro p e s m args below meth c hA H locs ls hW hS hl
  exact lv_iload hA.1 hA.2.1 hd (lv_at hl j hj) (k p e s m args below meth c hA H locs ls hW hS hl)
theorem ze_aload_n {n : Fin 4} {i : Nat} {x : Nat} (j : Nat) (hd : decode cc pc = .ok (.aload_n n, 1)) (hi : (n : Nat) = i) (hj : lv[j]? = some (i, .ref x)) (k : zE g own cc nL ret ini rm mc ms Post (pc + 1) lv (.ref x :: rest) σ sz kc ks) : zE g own cc nL ret ini rm mc ms Post pc lv rest σ sz kc ks := by
  intro p e s m args below meth c hA H locs ls hW hS hl
  exact lv_aload_n hA.1 hA.2.1 hd hi (lv_at hl j hj) (k p e s m args below meth c hA H locs ls hW hS hl)
theorem ze_aload {i : Nat} {x : Nat} (j : Nat) (hd : decode cc pc = .ok (.aload i, 2)) (hj : lv[j]? = some (i, .ref x)) (k : zE g own cc nL ret ini rm mc ms Post (pc + 2) lv (.ref x :: rest) σ sz kc ks) : zE g own cc nL ret ini rm mc ms Post pc lv rest σ sz kc ks := by
  intro p e s m args below meth c hA H locs ls hW hS hl
  exact lv_aload hA.1 hA.2.1 hd (lv_at hl j hj) (k p e s m args below meth c hA H locs ls hW hS hl)
theorem ze_iadd {x y : Int32} (hd : decode cc pc = .ok (.iadd, 1)) (k : zE g own cc nL ret ini rm mc ms Post (pc + 1) lv (.int (x + y) :: rest) σ sz kc ks) : zE g own cc nL ret ini rm mc ms Post pc lv (.int y :: .int x :: rest) σ sz kc ks := by
  intro p e s m args below meth c hA H locs ls hW hS hl
  exact lv_iadd hA.1 hA.2.1 hd (k p e s m args below meth c hA H locs ls hW hS hl)
theorem ze_isub {x y : Int32} (hd : decode cc pc = .ok (.isub, 1)) (k : zE g own cc nL ret ini rm mc ms Post (pc + 1) lv (.int (x - y) :: rest) σ sz kc ks) : zE g own cc nL ret ini rm mc ms Post pc lv (.int y :: .int x :: rest) σ sz kc ks := by
  intro p e s m args below meth c hA H locs ls hW hS hl
  exact lv_isub hA.1 hA.2.1 hd (k p e s m args below meth c hA H locs ls hW hS hl)
theorem ze_imul {x y : Int32} (hd : decode cc pc = .ok (.imul, 1)) (k : zE g own cc nL ret ini rm mc ms Post (pc + 1) lv (.int (x * y) :: rest) σ sz kc ks) : zE g own cc nL ret ini rm mc ms Post pc lv (.int y :: .int x :: rest) σ sz kc ks := by
  intro p e s m args below meth c hA H locs ls hW hS hl
  exact lv_imul hA.1 hA.2.1 hd (k p e s m args below meth c hA H locs ls hW hS hl)
theorem ze_iand {x y : Int32} (hd : decode cc pc = .ok (.iand, 1)) (k : zE g own cc nL ret ini rm mc ms Post (pc + 1) lv (.int (x &&& y) :: rest) σ sz kc ks) : zE g own cc nL ret ini rm mc ms Post pc lv (.int y :: .int x :: rest) σ sz kc ks := by
  intro p e s m args below meth c hA H locs ls hW hS hl
  exact lv_iand hA.1 hA.2.1 hd (k p e s m args below meth c hA H locs ls hW hS hl)
theorem ze_ior {x y : Int32} (hd : decode cc pc = .ok (.ior, 1)) (k : zE g own cc nL ret ini rm mc ms Post (pc + 1) lv (.int (x ||| y) :: rest) σ sz kc ks) : zE g own cc nL ret ini rm mc ms Post pc lv (.int y :: .int x :: rest) σ sz kc ks := by
  intro p e s m args below meth c hA H locs ls hW hS hl
  exact lv_ior hA.1 hA.2.1 hd (k p e s m args below meth c hA H locs ls hW hS hl)
theorem ze_ixor {x y : Int32} (hd : decode cc pc = .ok (.ixor, 1)) (k : zE g own cc nL ret ini rm mc ms Post (pc + 1) lv (.int (x ^^^ y) :: rest) σ sz kc ks) : zE g own cc nL ret ini rm mc ms Post pc lv (.int y :: .int x :: rest) σ sz kc ks := by
  intro p e s m args below meth c hA H locs ls hW hS hl
  exact lv_ixor hA.1 hA.2.1 hd (k p e s m args below meth c hA H locs ls hW hS hl)
theorem ze_ishl {x y : Int32} (hd : decode cc pc = .ok (.ishl, 1)) (k : zE g own cc nL ret ini rm mc ms Post (pc + 1) lv (.int (x <<< (y &&& 31)) :: rest) σ sz kc ks) : zE g own cc nL ret ini rm mc ms Post pc lv (.int y :: .int x :: rest) σ sz kc ks := by
  intro p e s m args below meth c hA H locs ls hW hS hl
  exact lv_ishl hA.1 hA.2.1 hd (k p e s m args below meth c hA H locs ls hW hS hl)
theorem ze_ishr {x y : Int32} (hd : decode cc pc = .ok (.ishr, 1)) (k : zE g own cc nL ret ini rm mc ms Post (pc + 1) lv (.int (x >>> (y &&& 31)) :: rest) σ sz kc ks) : zE g own cc nL ret ini rm mc ms Post pc lv (.int y :: .int x :: rest) σ sz kc ks := by
  intro p e s m args below meth c hA H locs ls hW hS hl
  exact lv_ishr hA.1 hA.2.1 hd (k p e s m args below meth c hA H locs ls hW hS hl)
theorem ze_idiv {x y : Int32} (hd : decode cc pc = .ok (.idiv, 1)) (hne : ¬ y = 0) (k : zE g own cc nL ret ini rm mc ms Post (pc + 1) lv (.int (x / y) :: rest) σ sz kc ks) : zE g own cc nL ret ini rm mc ms Post pc lv (.int y :: .int x :: rest) σ sz kc ks := by
  intro p e s m args below meth c hA H locs ls hW hS hl
  exact lv_idiv hA.1 hA.2.1 hd hne (k p e s m args below meth c hA H locs ls hW hS hl)
theorem ze_irem {x y : Int32} (hd : decode cc pc = .ok (.irem, 1)) (hne : ¬ y = 0) (k : zE g own cc nL ret ini rm mc ms Post (pc + 1) lv (.int (x - x / y * y) :: rest) σ sz kc ks) : zE g own cc nL ret ini rm mc ms Post pc lv (.int y :: .int x :: rest) σ sz kc ks := by
  intro p e s m args below meth c hA H locs ls hW hS hl
  exact lv_irem hA.1 hA.2.1 hd hne (k p e s m args below meth c hA H locs ls hW hS hl)
theorem ze_ineg {x : Int32} (hd : decode cc pc = .ok (.ineg, 1)) (k : zE g own cc nL ret ini rm mc ms Post (pc + 1) lv (.int (-x) :: rest) σ sz kc ks) : zE g own cc nL ret ini rm mc ms Post pc lv (.int x :: rest) σ sz kc ks := by
  intro p e s m args below meth c hA H locs ls hW hS hl
  exact lv_ineg hA.1 hA.2.1 hd (k p e s m args below meth c hA H locs ls hW hS hl)
theorem ze_i2l {x : Int32} {v : Int64} (hd : decode cc pc = .ok (.i2l, 1)) (hv : x.toInt64 = v) (k : zE g own cc nL ret ini rm mc ms Post (pc + 1) lv (.long v :: rest) σ sz kc ks) : zE g own cc nL ret ini rm mc ms Post pc lv (.int x :: rest) σ sz kc ks := by
  intro p e s m args below meth c hA H locs ls hW hS hl
  exact lv_i2l hA.1 hA.2.1 hd hv (k p e s m args below meth c hA H locs ls hW hS hl)
theorem ze_l2i {x : Int64} {v : Int32} (hd : decode cc pc = .ok (.l2i, 1)) (hv : x.toInt32 = v) (k : zE g own cc nL ret ini rm mc ms Post (pc + 1) lv (.int v :: rest) σ sz kc ks) : zE g own cc nL ret ini rm mc ms Post pc lv (.long x :: rest) σ sz kc ks := by
  intro p e s m args below meth c hA H locs ls hW hS hl
  exact lv_l2i hA.1 hA.2.1 hd hv (k p e s m args below meth c hA H locs ls hW hS hl)
theorem ze_i2b {x v : Int32} (hd : decode cc pc = .ok (.i2b, 1)) (hv : x.toInt8.toInt32 = v) (k : zE g own cc nL ret ini rm mc ms Post (pc + 1) lv (.int v :: rest) σ sz kc ks) : zE g own cc nL ret ini rm mc ms Post pc lv (.int x :: rest) σ sz kc ks := by
  intro p e s m args below meth c hA H locs ls hW hS hl
  exact lv_i2b hA.1 hA.2.1 hd hv (k p e s m args below meth c hA H locs ls hW hS hl)
theorem ze_i2c {x v : Int32} (hd : decode cc pc = .ok (.i2c, 1)) (hv : (x.toUInt32 % 65536).toInt32 = v) (k : zE g own cc nL ret ini rm mc ms Post (pc + 1) lv (.int v :: rest) σ sz kc ks) : zE g own cc nL ret ini rm mc ms Post pc lv (.int x :: rest) σ sz kc ks := by
  intro p e s m args below meth c hA H locs ls hW hS hl
  exact lv_i2c hA.1 hA.2.1 hd hv (k p e s m args below meth c hA H locs ls hW hS hl)
theorem ze_lcmp {x y : Int64} (hd : decode cc pc = .ok (.lcmp, 1)) (k : zE g own cc nL ret ini rm mc ms Post (pc + 1) lv (.int (lg_cmp x y) :: rest) σ sz kc ks) : zE g own cc nL ret ini rm mc ms Post pc lv (.long y :: .long x :: rest) σ sz kc ks := by
  intro p e s m args below meth c hA H locs ls hW hS hl
  exact W.lcmp hA.1 hA.2.1 hd (k p e s m args below meth c hA H locs ls hW hS hl)
theorem ze_dup {va : Value} (hd : decode cc pc = .ok (.dup, 1)) (h1 : va.category = 1) (k : zE g own cc nL ret ini rm mc ms Post (pc + 1) lv (va :: va :: rest) σ sz kc ks) : zE g own cc nL ret ini rm mc ms Post pc lv (va :: rest) σ sz kc ks := by
  intro p e s m args below meth c hA H locs ls hW hS hl
  exact lv_dup hA.1 hA.2.1 hd h1 (k p e s m args below meth c hA H locs ls hW hS hl)
theorem ze_pop {va : Value} (hd : decode cc pc = .ok (.pop, 1)) (h1 : va.category = 1) (k : zE g own cc nL ret ini rm mc ms Post (pc + 1) lv rest σ sz kc ks) : zE g own cc nL ret ini rm mc ms Post pc lv (va :: rest) σ sz kc ks := by
  intro p e s m args below meth c hA H locs ls hW hS hl
  exact lv_pop hA.1 hA.2.1 hd h1 (k p e s m args below meth c hA H locs ls hW hS hl)
theorem ze_dup_x1 {va vb : Value} (hd : decode cc pc = .ok (.dup_x1, 1)) (h1 : va.category = 1) (h2 : vb.category = 1) (k : zE g own cc nL ret ini rm mc ms Post (pc + 1) lv (va :: vb :: va :: rest) σ sz kc ks) : zE g own cc nL ret ini rm mc ms Post pc lv (va :: vb :: rest) σ sz kc ks := by
  intro p e s m args below meth c hA H locs ls hW hS hl
  exact lv_dup_x1 hA.1 hA.2.1 hd h1 h2 (k p e s m args below meth c hA H locs ls hW hS hl)
theorem ze_dup_x2 {va vb vd : Value} (hd : decode cc pc = .ok (.dup_x2, 1)) (h1 : va.category = 1) (h2 : vb.category = 1) (h3 : vd.category = 1) (k : zE g own cc nL ret ini rm mc ms Post (pc + 1) lv (va :: vb :: vd :: va :: rest) σ sz kc ks) : zE g own cc nL ret ini rm mc ms Post pc lv (va :: vb :: vd :: rest) σ sz kc ks := by
  intro p e s m args below meth c hA H locs ls hW hS hl
  exact lv_dup_x2 hA.1 hA.2.1 hd h1 h2 h3 (k p e s m args below meth c hA H locs ls hW hS hl)
theorem ze_dup2 {va vb : Value} (hd : decode cc pc = .ok (.dup2, 1)) (h1 : va.category = 1) (h2 : vb.category = 1) (k : zE g own cc nL ret ini rm mc ms Post (pc + 1) lv (va :: vb :: va :: vb :: rest) σ sz kc ks) : zE g own cc nL ret ini rm mc ms Post pc lv (va :: vb :: rest) σ sz kc ks := by
  intro p e s m args below meth c hA H locs ls hW hS hl
  exact lv_dup2_11 hA.1 hA.2.1 hd h1 h2 (k p e s m args below meth c hA H locs ls hW hS hl)
theorem ze_istore_n {n : Fin 4} {i : Nat} {x : Int32} (hd : decode cc pc = .ok (.istore_n n, 1)) (hi : (n : Nat) = i) {lv' : List (Nat × Value)} (hn : i < nL) (hl2 : (i, Value.int x) :: lv.filter (fun q => !(q.1 == i) && !(q.1 + 1 == i && q.2.category == 2)) = lv') (k : zE g own cc nL ret ini rm mc ms Post (pc + 1) lv' rest σ sz kc ks) : zE g own cc nL ret ini rm mc ms Post pc lv (.int x :: rest) σ sz kc ks := by
  intro p e s m args below meth c hA H locs ls hW hS hl
  exact lv_istore_n hA.1 hA.2.1 hd hi hl hn hl2 (fun ls' hl' => k p e s m args below meth c hA H locs ls' hW hS hl')
theorem ze_istore {i : Nat} {x : Int32} (hd : decode cc pc = .ok (.istore i, 2)) {lv' : List (Nat × Value)} (hn : i < nL) (hl2 : (i, Value.int x) :: lv.filter (fun q => !(q.1 == i) && !(q.1 + 1 == i && q.2.category == 2)) = lv') (k : zE g own cc nL ret ini rm mc ms Post (pc + 2) lv' rest σ sz kc ks) : zE g own cc nL ret ini rm mc ms Post pc lv (.int x :: rest) σ sz kc ks := by
  intro p e s m args below meth c hA H locs ls hW hS hl
  exact lv_istore hA.1 hA.2.1 hd hl hn hl2 (fun ls' hl' => k p e s m args below meth c hA H locs ls' hW hS hl')
theorem ze_astore_n {n : Fin 4} {i : Nat} {x : Nat} (hd : decode cc pc = .ok (.astore_n n, 1)) (hi : (n : Nat) = i) {lv' : List (Nat × Value)} (hn : i < nL) (hl2 : (i, Value.ref x) :: lv.filter (fun q => !(q.1 == i) && !(q.1 + 1 == i && q.2.category == 2)) = lv') (k : zE g own cc nL ret ini rm mc ms Post (pc + 1) lv' rest σ sz kc ks) : zE g own cc nL ret ini rm mc ms Post pc lv (.ref x :: rest) σ sz kc ks := by
  intro p e s m args below meth c hA H locs ls hW hS hl
  exact lv_astore_n hA.1 hA.2.1 hd hi hl hn hl2 (fun ls' hl' => k p e s m args below meth c hA H locs ls' hW hS hl')
theorem ze_astore {i : Nat} {x : Nat} (hd : decode cc pc = .ok (.astore i, 2)) {lv' : List (Nat × Value)} (hn : i < nL) (hl2 : (i, Value.ref x) :: lv.filter (fun q => !(q.1 == i) && !(q.1 + 1 == i && q.2.category == 2)) = lv') (k : zE g own cc nL ret ini rm mc ms Post (pc + 2) lv' rest σ sz kc ks) : zE g own cc nL ret ini rm mc ms Post pc lv (.ref x :: rest) σ sz kc ks := by
  intro p e s m args below meth c hA H locs ls hW hS hl
  exact lv_astore hA.1 hA.2.1 hd hl hn hl2 (fun ls' hl' => k p e s m args below meth c hA H locs ls' hW hS hl')
theorem ze_iinc {i : Nat} {n : Int} {x v : Int32} {lv' : List (Nat × Value)} (j : Nat) (hd : decode cc pc = .ok (.iinc i n, 3)) (hj : lv[j]? = some (i, .int x)) (hv : x + Int32.ofInt n = v) (hn : i < nL) (hl2 : (i, Value.int v) :: lv.filter (fun q => !(q.1 == i) && !(q.1 + 1 == i && q.2.category == 2)) = lv') (k : zE g own cc nL ret ini rm mc ms Post (pc + 3) lv' rest σ sz kc ks) : zE g own cc nL ret ini rm mc ms Post pc lv rest σ sz kc ks := by
  intro p e s m args below meth c hA H locs ls hW hS hl
  exact lv_iinc hA.1 hA.2.1 hd hl hj hv hn hl2 (fun ls' hl' => k p e s m args below meth c hA H locs ls' hW hS hl')
theorem ze_if_eq {x : Int32} {off : Int} {tgt : Nat} (hd : decode cc pc = .ok (.ifCond .eq off, 3)) (ht : (pc : Int) + off = (tgt : Int)) (kt : x = 0 → zE g own cc nL ret ini rm mc ms Post tgt lv rest σ sz kc ks) (kf : ¬ x = 0 → zE g own cc nL ret ini rm mc ms Post (pc + 3) lv rest σ sz kc ks) : zE g own cc nL ret ini rm mc ms Post pc lv (.int x :: rest) σ sz kc ks := by
  intro p e s m args below meth c hA H locs ls hW hS hl
  exact lv_if_eq hA.1 hA.2.1 hd ht (fun h => kt h p e s m args below meth c hA H locs ls hW hS hl) (fun h => kf h p e s m args below meth c hA H locs ls hW hS hl)
theorem ze_icmp_eq {x y : Int32} {off : Int} {tgt : Nat} (hd : decode cc pc = .ok (.if_icmp .eq off, 3)) (ht : (pc : Int) + off = (tgt : Int)) (kt : x = y → zE g own cc nL ret ini rm mc ms Post tgt lv rest σ sz kc ks) (kf : ¬ x = y → zE g own cc nL ret ini rm mc ms Post (pc + 3) lv rest σ sz kc ks) : zE g own cc nL ret ini rm mc ms Post pc lv (.int y :: .int x :: rest) σ sz kc ks := by
  intro p e s m args below meth c hA H locs ls hW hS hl
  exact lv_icmp_eq hA.1 hA.2.1 hd ht (fun h => kt h p e s m args below meth c hA H locs ls hW hS hl) (fun h => kf h p e s m args below meth c hA H locs ls hW hS hl)
theorem ze_if_ne {x : Int32} {off : Int} {tgt : Nat} (hd : decode cc pc = .ok (.ifCond .ne off, 3)) (ht : (pc : Int) + off = (tgt : Int)) (kt : ¬ x = 0 → zE g own cc nL ret ini rm mc ms Post tgt lv rest σ sz kc ks) (kf : x = 0 → zE g own cc nL ret ini rm mc ms Post (pc + 3) lv rest σ sz kc ks) : zE g own cc nL ret ini rm mc ms Post pc lv (.int x :: rest) σ sz kc ks := by
  intro p e s m args below meth c hA H locs ls hW hS hl
  exact lv_if_ne hA.1 hA.2.1 hd ht (fun h => kt h p e s m args below meth c hA H locs ls hW hS hl) (fun h => kf h p e s m args below meth c hA H locs ls hW hS hl)
theorem ze_icmp_ne {x y : Int32} {off : Int} {tgt : Nat} (hd : decode cc pc = .ok (.if_icmp .ne off, 3)) (ht : (pc : Int) + off = (tgt : Int)) (kt : ¬ x = y → zE g own cc nL ret ini rm mc ms Post tgt lv rest σ sz kc ks) (kf : x = y → zE g own cc nL ret ini rm mc ms Post (pc + 3) lv rest σ sz kc ks) : zE g own cc nL ret ini rm mc ms Post pc lv (.int y :: .int x :: rest) σ sz kc ks := by
  intro p e s m args below meth c hA H locs ls hW hS hl
  exact lv_icmp_ne hA.1 hA.2.1 hd ht (fun h => kt h p e s m args below meth c hA H locs ls hW hS hl) (fun h => kf h p e s m args below meth c hA H locs ls hW hS hl)
theorem ze_if_lt {x : Int32} {off : Int} {tgt : Nat} (hd : decode cc pc = .ok (.ifCond .lt off, 3)) (ht : (pc : Int) + off = (tgt : Int)) (kt : x < 0 → zE g own cc nL ret ini rm mc ms Post tgt lv rest σ sz kc ks) (kf : ¬ x < 0 → zE g own cc nL ret ini rm mc ms Post (pc + 3) lv rest σ sz kc ks) : zE g own cc nL ret ini rm mc ms Post pc lv (.int x :: rest) σ sz kc ks := by
  intro p e s m args below meth c hA H locs ls hW hS hl
  exact lv_if_lt hA.1 hA.2.1 hd ht (fun h => kt h p e s m args below meth c hA H locs ls hW hS hl) (fun h => kf h p e s m args below meth c hA H locs ls hW hS hl)
theorem ze_icmp_lt {x y : Int32} {off : Int} {tgt : Nat} (hd : decode cc pc = .ok (.if_icmp .lt off, 3)) (ht : (pc : Int) + off = (tgt : Int)) (kt : x < y → zE g own cc nL ret ini rm mc ms Post tgt lv rest σ sz kc ks) (kf : ¬ x < y → zE g own cc nL ret ini rm mc ms Post (pc + 3) lv rest σ sz kc ks) : zE g own cc nL ret ini rm mc ms Post pc lv (.int y :: .int x :: rest) σ sz kc ks := by
  intro p e s m args below meth c hA H locs ls hW hS hl
  exact lv_icmp_lt hA.1 hA.2.1 hd ht (fun h => kt h p e s m args below meth c hA H locs ls hW hS hl) (fun h => kf h p e s m args below meth c hA H locs ls hW hS hl)
theorem ze_if_ge {x : Int32} {off : Int} {tgt : Nat} (hd : decode cc pc = .ok (.ifCond .ge off, 3)) (ht : (pc : Int) + off = (tgt : Int)) (kt : 0 ≤ x → zE g own cc nL ret ini rm mc ms Post tgt lv rest σ sz kc ks) (kf : ¬ 0 ≤ x → zE g own cc nL ret ini rm mc ms Post (pc + 3) lv rest σ sz kc ks) : zE g own cc nL ret ini rm mc ms Post pc lv (.int x :: rest) σ sz kc ks := by
  intro p e s m args below meth c hA H locs ls hW hS hl
  exact lv_if_ge hA.1 hA.2.1 hd ht (fun h => kt h p e s m args below meth c hA H locs ls hW hS hl) (fun h => kf h p e s m args below meth c hA H locs ls hW hS hl)
theorem ze_icmp_ge {x y : Int32} {off : Int} {tgt : Nat} (hd : decode cc pc = .ok (.if_icmp .ge off, 3)) (ht : (pc : Int) + off = (tgt : Int)) (kt : y ≤ x → zE g own cc nL ret ini rm mc ms Post tgt lv rest σ sz kc ks) (kf : ¬ y ≤ x → zE g own cc nL ret ini rm mc ms Post (pc + 3) lv rest σ sz kc ks) : zE g own cc nL ret ini rm mc ms Post pc lv (.int y :: .int x :: rest) σ sz kc ks := by
  intro p e s m args below meth c hA H locs ls hW hS hl
  exact lv_icmp_ge hA.1 hA.2.1 hd ht (fun h => kt h p e s m args below meth c hA H locs ls hW hS hl) (fun h => kf h p e s m args below meth c hA H locs ls hW hS hl)
theorem ze_if_gt {x : Int32} {off : Int} {tgt : Nat} (hd : decode cc pc = .ok (.ifCond .gt off, 3)) (ht : (pc : Int) + off = (tgt : Int)) (kt : 0 < x → zE g own cc nL ret ini rm mc ms Post tgt lv rest σ sz kc ks) (kf : ¬ 0 < x → zE g own cc nL ret ini rm mc ms Post (pc + 3) lv rest σ sz kc ks) : zE g own cc nL ret ini rm mc ms Post pc lv (.int x :: rest) σ sz kc ks := by
  intro p e s m args below meth c hA H locs ls hW hS hl
  exact lv_if_gt hA.1 hA.2.1 hd ht (fun h => kt h p e s m args below meth c hA H locs ls hW hS hl) (fun h => kf h p e s m args below meth c hA H locs ls hW hS hl)
theorem ze_icmp_gt {x y : Int32} {off : Int} {tgt : Nat} (hd : decode cc pc = .ok (.if_icmp .gt off, 3)) (ht : (pc : Int) + off = (tgt : Int)) (kt : y < x → zE g own cc nL ret ini rm mc ms Post tgt lv rest σ sz kc ks) (kf : ¬ y < x → zE g own cc nL ret ini rm mc ms Post (pc + 3) lv rest σ sz kc ks) : zE g own cc nL ret ini rm mc ms Post pc lv (.int y :: .int x :: rest) σ sz kc ks := by
  intro p e s m args below meth c hA H locs ls hW hS hl
  exact lv_icmp_gt hA.1 hA.2.1 hd ht (fun h => kt h p e s m args below meth c hA H locs ls hW hS hl) (fun h => kf h p e s m args below meth c hA H locs ls hW hS hl)
theorem ze_if_le {x : Int32} {off : Int} {tgt : Nat} (hd : decode cc pc = .ok (.ifCond .le off, 3)) (ht : (pc : Int) + off = (tgt : Int)) (kt : x ≤ 0 → zE g own cc nL ret ini rm mc ms Post tgt lv rest σ sz kc ks) (kf : ¬ x ≤ 0 → zE g own cc nL ret ini rm mc ms Post (pc + 3) lv rest σ sz kc ks) : zE g own cc nL ret ini rm mc ms Post pc lv (.int x :: rest) σ sz kc ks := by
  intro p e s m args below meth c hA H locs ls hW hS hl
  exact lv_if_le hA.1 hA.2.1 hd ht (fun h => kt h p e s m args below meth c hA H locs ls hW hS hl) (fun h => kf h p e s m args below meth c hA H locs ls hW hS hl)
theorem ze_icmp_le {x y : Int32} {off : Int} {tgt : Nat} (hd : decode cc pc = .ok (.if_icmp .le off, 3)) (ht : (pc : Int) + off = (tgt : Int)) (kt : x ≤ y → zE g own cc nL ret ini rm mc ms Post tgt lv rest σ sz kc ks) (kf : ¬ x ≤ y → zE g own cc nL ret ini rm mc ms Post (pc + 3) lv rest σ sz kc ks) : zE g own cc nL ret ini rm mc ms Post pc lv (.int y :: .int x :: rest) σ sz kc ks := by
  intro p e s m args below meth c hA H locs ls hW hS hl
  exact lv_icmp_le hA.1 hA.2.1 hd ht (fun h => kt h p e s m args below meth c hA H locs ls hW hS hl) (fun h => kf h p e s m args below meth c hA H locs ls hW hS hl)
theorem ze_goto {off : Int} {tgt : Nat} (hd : decode cc pc = .ok (.goto off, 3)) (ht : (pc : Int) + off = (tgt : Int)) (k : zE g own cc nL ret ini rm mc ms Post tgt lv rest σ sz kc ks) : zE g own cc nL ret ini rm mc ms Post pc lv rest σ sz kc ks := by
  intro p e s m args below meth c hA H locs ls hW hS hl
  exact lv_goto hA.1 hA.2.1 hd ht (k p e s m args below meth c hA H locs ls hW hS hl)
theorem ze_tableIn {dflt lo hi : Int} {offs : Array Int} {len : Nat} {x : Int32} {off : Int} {tgt : Nat} (hd : decode cc pc = .ok (.tableswitch dflt lo hi offs, len)) (h1 : ¬ x.toInt < lo) (h2 : ¬ hi < x.toInt) (ho : offs[(x.toInt - lo).toNat]? = some off) (ht : (pc : Int) + off = (tgt : Int)) (k : zE g own cc nL ret ini rm mc ms Post tgt lv rest σ sz kc ks) : zE g own cc nL ret ini rm mc ms Post pc lv (.int x :: rest) σ sz kc ks := by
  intro p e s m args below meth c hA H locs ls hW hS hl
  exact lv_tableIn hA.1 hA.2.1 hd h1 h2 ho ht (k p e s m args below meth c hA H locs ls hW hS hl)
theorem ze_tableOut {dflt lo hi : Int} {offs : Array Int} {len : Nat} {x : Int32} {tgt : Nat} (hd : decode cc pc = .ok (.tableswitch dflt lo hi offs, len)) (h : x.toInt < lo ∨ hi < x.toInt) (ht : (pc : Int) + dflt = (tgt : Int)) (k : zE g own cc nL ret ini rm mc ms Post tgt lv rest σ sz kc ks) : zE g own cc nL ret ini rm mc ms Post pc lv (.int x :: rest) σ sz kc ks := by
  intro p e s m args below meth c hA H locs ls hW hS hl
  exact lv_tableOut hA.1 hA.2.1 hd h ht (k p e s m args below meth c hA H locs ls hW hS hl)
theorem ze_lookup {dflt : Int} {ps : Array (Int × Int)} {len : Nat} {x : Int32} {off : Int} {tgt : Nat} (hd : decode cc pc = .ok (.lookupswitch dflt ps, len)) (hp : (ps.toList.zip (ps.toList.drop 1)).all (fun (a, next) => a.1 < next.1) = true) (ho : Op.lookupswitch.offset ps.toList dflt x.toInt = off) (ht : (pc : Int) + off = (tgt : Int)) (k : zE g own cc nL ret ini rm mc ms Post tgt lv rest σ sz kc ks) : zE g own cc nL ret ini rm mc ms Post pc lv (.int x :: rest) σ sz kc ks := by
  intro p e s m args below meth c hA H locs ls hW hS hl
  exact lv_lookup hA.1 hA.2.1 hd hp ho ht (k p e s m args below meth c hA H locs ls hW hS hl)
theorem ze_eq {pc' : Nat} {lv' : List (Nat × Value)} {st st' : List Value} {σ' : zx_M} {sz' : Nat} (h1 : pc = pc') (h2 : lv = lv') (h3 : st = st') (h4 : σ = σ') (h5 : sz = sz') (k : zE g own cc nL ret ini rm mc ms Post pc' lv' st' σ' sz' kc ks) : zE g own cc nL ret ini rm mc ms Post pc lv st σ sz kc ks := by
  subst h1; subst h2; subst h3; subst h4; subst h5; exact k
theorem ze_sub {lv' : List (Nat × Value)} {st : List Value} (ks2 : List Nat) (h2 : lv_pick lv ks2 = lv') (k : zE g own cc nL ret ini rm mc ms Post pc lv' st σ sz kc ks) : zE g own cc nL ret ini rm mc ms Post pc lv st σ sz kc ks := by
  intro p e s m args below meth c hA H locs ls hW hS hl
  exact k p e s m args below meth c hA H locs ls hW hS (lv_sub hl ks2 h2)
theorem ze_widen {st : List Value} {kc' ks' : Nat} (h1 : kc ≤ kc') (h2 : ks ≤ ks') (k : zE g own cc nL ret ini rm mc ms Post pc lv st σ sz kc' ks') : zE g own cc nL ret ini rm mc ms Post pc lv st σ sz kc ks := by
  intro p e s m args below meth c hA H locs ls hW hS hl
  exact W.widen h1 h2 (k p e s m args below meth c hA H locs ls hW hS hl)
theorem ze_top {x y : Int32} (h : x = y) (k : zE g own cc nL ret ini rm mc ms Post pc lv (.int y :: rest) σ sz kc ks) : zE g own cc nL ret ini rm mc ms Post pc lv (.int x :: rest) σ sz kc ks := by rw [h]; exact k
/-! returns -/
theorem ze_iret {v : Int32} (hd : decode cc pc = .ok (.ireturn, 1)) (hr : ret = some .int) (h1 : kc ≤ mc) (h2 : ks ≤ ms) (hp : Post (some (.int v)) σ sz) : zE g own cc nL ret ini rm mc ms Post pc lv [.int v] σ sz kc ks := by
  intro p e s m args below meth c hA H locs ls hW hS hl
  refine W.widen (k := mc) (n := ms) h1 h2 ?_
  exact W.iret (v := v) hA.1 hA.2.1 (hA.2.2.1.trans hr) (fun t ht hw => ⟨⟨_, σ, sz, rfl, hp, by rw [ht]; exact hW.moved hw.alike⟩, hS.F ht⟩) hS.2.2 hd hA.2.2.2.2.2.2.1
theorem ze_zret {v : Int32} (hd : decode cc pc = .ok (.ireturn, 1)) (hr : ret = some .boolean) (hv : v = 0 ∨ v = 1) (h1 : kc ≤ mc) (h2 : ks ≤ ms) (hp : Post (some (.int v)) σ sz) : zE g own cc nL ret ini rm mc ms Post pc lv [.int v] σ sz kc ks := by
  intro p e s m args below meth c hA H locs ls hW hS hl
  refine W.widen (k := mc) (n := ms) h1 h2 ?_
  exact W.zret (v := v) (ty := .boolean) hA.1 hA.2.1 (hA.2.2.1.trans hr) (by rcases hv with rfl | rfl <;> decide) (fun t ht hw => ⟨⟨_, σ, sz, rfl, hp, by rw [ht]; exact hW.moved hw.alike⟩, hS.F ht⟩) hS.2.2 hd hA.2.2.2.2.2.2.1
theorem ze_vret (hd : decode cc pc = .ok (.return_, 1)) (hr : ret = none) (h1 : kc ≤ mc) (h2 : ks ≤ ms) (hp : Post none σ sz) : zE g own cc nL ret ini rm mc ms Post pc lv [] σ sz kc ks := by
  intro p e s m args below meth c hA H locs ls hW hS hl
  refine W.widen (k := mc) (n := ms) h1 h2 ?_
  exact W.vret hA.1 hA.2.1 (hA.2.2.1.trans hr) (fun t ht hw => ⟨⟨_, σ, sz, rfl, hp, by rw [ht]; exact hW.moved hw.alike⟩, hS.F ht⟩) hS.2.2 hd hA.2.2.2.2.2.2.1
theorem ze_aret {v : Nat} {rt : FieldType} (hd : decode cc pc = .ok (.areturn, 1)) (hr : ret = some rt) (hrt : (∃ n, rt = .object n) ∨ ∃ t, rt = .array t) (h1 : kc ≤ mc) (h2 : ks ≤ ms) (hp : Post (some (.ref v)) σ sz) : zE g own cc nL ret ini rm mc ms Post pc lv [.ref v] σ sz kc ks := by
  intro p e s m args below meth c hA H locs ls hW hS hl
  refine W.widen (k := mc) (n := ms) h1 h2 ?_
  exact W.aret (v := .ref v) hA.1 hA.2.1 (hA.2.2.1.trans hr) hrt (Or.inr ⟨v, rfl⟩) (fun t ht hw => ⟨⟨_, σ, sz, rfl, hp, by rw [ht]; exact hW.moved hw.alike⟩, hS.F ht⟩) hS.2.2 hd hA.2.2.2.2.2.2.1
/-! fields -/
theorem ze_get {a : Nat} {ref C : String} {T : u_T} {N ci index : Nat} (hin : ∀ w ∈ u_ws C T N, w ∈ zc_T) {fs : List Value} (hc : zc_cl[ci]? = some (C, T, N)) (f : Nat) (hk : f < N) (hlink : Cond.fieldLink own index ref (T f).2.1 (T f).2.2.1 ∈ zc_T) (href : ref = (T f).1) (hd : decode cc pc = .ok (.getfield index, 3)) (he : σ a = some (.inr (ci, fs))) {v : Value} (hv : fs[f]? = some v) (k : zE g own cc nL ret ini rm mc ms Post (pc + 3) lv (v :: rest) σ sz kc ks) : zE g own cc nL ret ini rm mc ms Post pc lv (.ref a :: rest) σ sz kc ks := by
  intro p e s m args below meth c hA H locs ls hW hS hl
  exact va_get hA.1 hA.2.1 hA.2.2.2.2.2.1 hin hA.2.2.2.2.1 hW.2.2.1 (hW.one he) 0 rfl hc f hk (hA.2.2.2.2.2.1 _ hlink) (fun x hx => by rw [href]; exact hx) hv hd (k p e s m args below meth c hA H locs ls hW hS hl)
theorem ze_put {a : Nat} {ref C : String} {T : u_T} {N ci index : Nat} (hin : ∀ w ∈ u_ws C T N, w ∈ zc_T) (ty0 : Nat → FieldType) (hty : ∀ k, k < N → parseFieldDescriptor (T k).2.2.1 = some (ty0 k)) (hnm : ∀ a, a < N → ∀ b, b < N → a ≠ b → (T a).2.1 ≠ (T b).2.1) {fs : List Value} (hc : zc_cl[ci]? = some (C, T, N)) (f : Nat) (hk : f < N) (hlink : Cond.fieldLink own index ref (T f).2.1 (T f).2.2.1 ∈ zc_T) (href : ref = (T f).1) (hfin : (T f).2.2.2 = false ∨ ((T f).2.2.2 = true ∧ ini = true ∧ (T f).1 = own)) {v : Value} (hd : decode cc pc = .ok (.putfield index, 3)) (he : σ a = some (.inr (ci, fs))) (hn : narrow (ty0 f) v = v) (hfit : fits (ty0 f) v = true) (hl9 : f < fs.length) {fs' : List Value} (hfs : fs.set f v = fs') (k : zE g own cc nL ret ini rm mc ms Post (pc + 3) lv rest (zx_up σ a (.inr (ci, fs'))) sz kc ks) : zE g own cc nL ret ini rm mc ms Post pc lv (v :: .ref a :: rest) σ sz kc ks := by
  intro p e s m args below meth c hA H locs ls hW hS hl
  subst hfs
  have hexec := hA.1
  have hb := hA.2.1
  have hown := hA.2.2.2.2.1
  have hts := hA.2.2.2.2.2.1
  have hK := hW.2.2.1
  have hap := va_apart (own := own) hts hin ty0 hty hnm hK hc
  obtain ⟨hbA, r, h1, cell, q1, q2, q3, q4⟩ := hW.2.1 a _ he
  have hr : r = (C, T, N) := Option.some.inj (h1.symm.trans hc)
  subst hr
  obtain ⟨hSl, hfc, kC, hkC, hkind⟩ := hK.1 ci _ hc
  obtain ⟨cf, kf, fi, fd, hi, hsl⟩ := hSl f hk
  have hst := (u_facts hfc hkC (u_lays hts hin hk) hi).1
  have hi' : s.fieldFound? ref (T f).2.1 (T f).2.2.1 = some (cf, kf, fi, fd) := by rw [href]; exact hi
  have fin : ∀ H' : Heap, H'[a]? = some (cell.setSlot fd.slot v) → H'.size = H.size → (∀ q, q ≠ a → H'[q]? = H[q]?) → W p g.1 e rm s m args below meth c H' (locs ++ [⟨a, fd.slot⟩]) kc ks (MQ below (zx_Q g Post) args s mc ms (zx_Fr g)) (F0 m (pc + 3) ls rest) := by
    intro H' e1 e2 e3
    rw [hsl] at e1
    refine k p e s m args below meth c hA H' _ ls (hW.put he ⟨_, hc, t_OB.to (V := updV (vp_V fs) f v) ⟨_, e1, q2, q3, t_set q4 hap hk v⟩ (fun j _ => vp_updV_set hl9 v j)⟩ e2 e3) (hS.put e2 e3 hbA) hl
  have hlay := hts _ (hin _ (u_in_lay hk))
  unfold u_lay at hlay
  rcases hfin with hfin | ⟨hfin, hini, hdecl⟩
  · rw [if_neg (by rw [hfin]; decide)] at hlay
    have h6 := u_store hfc hkC hkind hlay hi (hty f hk) hn hfit
    exact W.putK hexec hb (f := fd) ⟨hown, hts _ hlink, ⟨_, _, _, hi'⟩, hst⟩ (by rw [q2]; exact h6) q1 q3 (by rw [hsl]; exact k2_hasslot (q4 f hk)) rfl rfl hd fin
  · rw [if_pos hfin] at hlay
    have hcf : m.cls = cf := by
      obtain ⟨_, _, c', _, _, _, -, -, hf', -, -, -, hown2, -⟩ := Cond.laysFinal_spec hlay
      have e1 : c' = cf := by have := hi.symm.trans hf'; simp at this; exact this.1.symm
      rw [hdecl] at hown2
      rw [← e1]; exact Option.some.inj (hown.symm.trans hown2)
    have h6 := u_fits hfc hkC hkind (Or.inr hlay) hi (hty f hk) hn hfit
    exact W.putFinK hexec hb hown (hts _ hlink) hi' hst hcf (hA.2.2.2.2.2.2.2.2.1 hini) (by rw [q2]; exact h6) q1 q3 (by rw [hsl]; exact k2_hasslot (q4 f hk)) rfl rfl hd fin
/-! arrays of ints (0), booleans (1), longs (2) -/
theorem ze_iald {a n j : Nat} {f : Nat → Int32} {i : Int32} (hd : decode cc pc = .ok (.iaload, 1)) (he : σ a = some (.inl (g.2.2.2.1 0, n, .inl f))) (hi : i = nI j) (hj : j < n) (hn : n < 2 ^ 31) (k : zE g own cc nL ret ini rm mc ms Post (pc + 1) lv (.int (f j) :: rest) σ sz kc ks) : zE g own cc nL ret ini rm mc ms Post pc lv (.int i :: .ref a :: rest) σ sz kc ks := by
  intro p e s m args below meth c hA H locs ls hW hS hl
  refine va_iald hA.1 hA.2.1 hW.2.2.1 (hW.one he) 0 0 rfl rfl (i := i) (by rw [hi]; exact vp_in_nI hj hn) hd ?_
  rw [hi, nI_clamp (Nat.lt_trans hj hn)]
  exact k p e s m args below meth c hA H locs ls hW hS hl
theorem ze_zald {a n j : Nat} {f : Nat → Int32} {i : Int32} (hd : decode cc pc = .ok (.baload, 1)) (he : σ a = some (.inl (g.2.2.2.1 1, n, .inl f))) (hi : i = nI j) (hj : j < n) (hn : n < 2 ^ 31) (k : zE g own cc nL ret ini rm mc ms Post (pc + 1) lv (.int (f j) :: rest) σ sz kc ks) : zE g own cc nL ret ini rm mc ms Post pc lv (.int i :: .ref a :: rest) σ sz kc ks := by
  intro p e s m args below meth c hA H locs ls hW hS hl
  refine va_zald hA.1 hA.2.1 hW.2.2.1 (hW.one he) 0 1 rfl rfl (i := i) (by rw [hi]; exact vp_in_nI hj hn) hd ?_
  rw [hi, nI_clamp (Nat.lt_trans hj hn)]
  exact k p e s m args below meth c hA H locs ls hW hS hl
theorem ze_bald {a n j : Nat} {f : Nat → Int32} {i : Int32} (hd : decode cc pc = .ok (.baload, 1)) (he : σ a = some (.inl (g.2.2.2.1 4, n, .inl f))) (hi : i = nI j) (hj : j < n) (hn : n < 2 ^ 31) (k : zE g own cc nL ret ini rm mc ms Post (pc + 1) lv (.int (f j) :: rest) σ sz kc ks) : zE g own cc nL ret ini rm mc ms Post pc lv (.int i :: .ref a :: rest) σ sz kc ks := by
  intro p e s m args below meth c hA H locs ls hW hS hl
  refine va_bald hA.1 hA.2.1 hW.2.2.1 (hW.one he) 0 4 rfl rfl (i := i) (by rw [hi]; exact vp_in_nI hj hn) hd ?_
  rw [hi, nI_clamp (Nat.lt_trans hj hn)]
  exact k p e s m args below meth c hA H locs ls hW hS hl
theorem ze_iast {a n j : Nat} {f : Nat → Int32} {i x : Int32} (hd : decode cc pc = .ok (.iastore, 1)) (he : σ a = some (.inl (g.2.2.2.1 0, n, .inl f))) (hi : i = nI j) (hj : j < n) (hn : n < 2 ^ 31) (k : zE g own cc nL ret ini rm mc ms Post (pc + 1) lv rest (zx_up σ a (.inl (g.2.2.2.1 0, n, .inl (upd f j x)))) sz kc ks) : zE g own cc nL ret ini rm mc ms Post pc lv (.int x :: .int i :: .ref a :: rest) σ sz kc ks := by
  intro p e s m args below meth c hA H locs ls hW hS hl
  have hin : vp_in i n := by rw [hi]; exact vp_in_nI hj hn
  have hc : i.toNatClampNeg = j := by rw [hi]; exact nI_clamp (Nat.lt_trans hj hn)
  refine W.iast hA.1 hA.2.1 (hW.2.1 a _ he).2 ((hW.2.2.1.2 0 _ rfl).1 n (fun j => .int (f j))) (fun q => by cases q) (by show ¬ (i < 0 ∨ (arrV _ _ _).slots.size ≤ _); rw [arrV_size]; exact hin) rfl rfl hd fun H1 e1 z oq => ?_
  refine k p e s m args below meth c hA H1 _ ls (hW.put he ?_ z oq) (hS.put z oq (hW.2.1 a _ he).1) hl
  show H1[a]? = some (vp_cell _ _)
  rw [e1, vp_cell_i, vp_cell_i, arrV_store, hc]
  congr 2
  funext q
  by_cases hq : q = j
  · subst hq
    simp [updV, upd]
  · simp [updV, upd, hq]
theorem ze_zast {a n j : Nat} {f : Nat → Int32} {i x : Int32} (hd : decode cc pc = .ok (.bastore, 1)) (he : σ a = some (.inl (g.2.2.2.1 1, n, .inl f))) (hi : i = nI j) (hj : j < n) (hn : n < 2 ^ 31) (hx : vp_nar .boolean x = x) (k : zE g own cc nL ret ini rm mc ms Post (pc + 1) lv rest (zx_up σ a (.inl (g.2.2.2.1 1, n, .inl (upd f j x)))) sz kc ks) : zE g own cc nL ret ini rm mc ms Post pc lv (.int x :: .int i :: .ref a :: rest) σ sz kc ks := by
  intro p e s m args below meth c hA H locs ls hW hS hl
  have hin : vp_in i n := by rw [hi]; exact vp_in_nI hj hn
  have hc : i.toNatClampNeg = j := by rw [hi]; exact nI_clamp (Nat.lt_trans hj hn)
  refine W.zast hA.1 hA.2.1 (hW.2.1 a _ he).2 ((hW.2.2.1.2 1 _ rfl).1 n (fun j => .int (f j))) (fun q => by cases q) (by show ¬ (i < 0 ∨ (arrV _ _ _).slots.size ≤ _); rw [arrV_size]; exact hin) rfl rfl hd fun H1 e1 z oq => ?_
  refine k p e s m args below meth c hA H1 _ ls (hW.put he ?_ z oq) (hS.put z oq (hW.2.1 a _ he).1) hl
  show H1[a]? = some (vp_cell _ _)
  rw [e1, vp_cell_i, vp_cell_i, arrV_store, hc]
  congr 2
  funext q
  by_cases hq : q = j
  · subst hq
    have h9 : narrow .boolean (.int x) = .int (vp_nar .boolean x) := rfl
    simp [updV, upd, h9, hx]
  · simp [updV, upd, hq]
theorem ze_bast {a n j : Nat} {f : Nat → Int32} {i x : Int32} (hd : decode cc pc = .ok (.bastore, 1)) (he : σ a = some (.inl (g.2.2.2.1 4, n, .inl f))) (hi : i = nI j) (hj : j < n) (hn : n < 2 ^ 31) (k : zE g own cc nL ret ini rm mc ms Post (pc + 1) lv rest (zx_up σ a (.inl (g.2.2.2.1 4, n, .inl (upd f j (vp_nar .byte x))))) sz kc ks) : zE g own cc nL ret ini rm mc ms Post pc lv (.int x :: .int i :: .ref a :: rest) σ sz kc ks := by
  intro p e s m args below meth c hA H locs ls hW hS hl
  have hin : vp_in i n := by rw [hi]; exact vp_in_nI hj hn
  have hc : i.toNatClampNeg = j := by rw [hi]; exact nI_clamp (Nat.lt_trans hj hn)
  refine W.bast hA.1 hA.2.1 (hW.2.1 a _ he).2 ((hW.2.2.1.2 4 _ rfl).1 n (fun j => .int (f j))) (fun q => by cases q) (by show ¬ (i < 0 ∨ (arrV _ _ _).slots.size ≤ _); rw [arrV_size]; exact hin) rfl rfl hd fun H1 e1 z oq => ?_
  refine k p e s m args below meth c hA H1 _ ls (hW.put he ?_ z oq) (hS.put z oq (hW.2.1 a _ he).1) hl
  show H1[a]? = some (vp_cell _ _)
  rw [e1, vp_cell_i, vp_cell_i, arrV_store, hc]
  congr 2
  funext q
  by_cases hq : q = j
  · subst hq
    have h9 : narrow .byte (.int x) = .int (vp_nar .byte x) := rfl
    simp [updV, upd, h9]
  · simp [updV, upd, hq]
theorem ze_last {a n j : Nat} {f : Nat → Int64} {i : Int32} {x : Int64} (hd : decode cc pc = .ok (.lastore, 1)) (he : σ a = some (.inl (g.2.2.2.1 2, n, .inr (.inl f)))) (hi : i = nI j) (hj : j < n) (hn : n < 2 ^ 31) (k : zE g own cc nL ret ini rm mc ms Post (pc + 1) lv rest (zx_up σ a (.inl (g.2.2.2.1 2, n, .inr (.inl (vp_updL f j x))))) sz kc ks) : zE g own cc nL ret ini rm mc ms Post pc lv (.long x :: .int i :: .ref a :: rest) σ sz kc ks := by
  intro p e s m args below meth c hA H locs ls hW hS hl
  have hin : vp_in i n := by rw [hi]; exact vp_in_nI hj hn
  have hc : i.toNatClampNeg = j := by rw [hi]; exact nI_clamp (Nat.lt_trans hj hn)
  refine W.last hA.1 hA.2.1 (hW.2.1 a _ he).2 ((hW.2.2.1.2 2 _ rfl).1 n (fun j => .long (f j))) (fun q => by cases q) (by show ¬ (i < 0 ∨ (arrV _ _ _).slots.size ≤ _); rw [arrV_size]; exact hin) rfl rfl hd fun H1 e1 z oq => ?_
  refine k p e s m args below meth c hA H1 _ ls (hW.put he ?_ z oq) (hS.put z oq (hW.2.1 a _ he).1) hl
  show H1[a]? = some (vp_cell _ _)
  rw [e1, vp_cell_l, vp_cell_l, arrV_store, hc]
  congr 2
  funext q
  by_cases hq : q = j
  · subst hq
    simp [updV, vp_updL]
  · simp [updV, vp_updL, hq]
theorem ze_lald {a n j : Nat} {f : Nat → Int64} {i : Int32} (hd : decode cc pc = .ok (.laload, 1)) (he : σ a = some (.inl (g.2.2.2.1 2, n, .inr (.inl f)))) (hi : i = nI j) (hj : j < n) (hn : n < 2 ^ 31) (k : zE g own cc nL ret ini rm mc ms Post (pc + 1) lv (.long (f j) :: rest) σ sz kc ks) : zE g own cc nL ret ini rm mc ms Post pc lv (.int i :: .ref a :: rest) σ sz kc ks := by
  intro p e s m args below meth c hA H locs ls hW hS hl
  refine va_lald hA.1 hA.2.1 hW.2.2.1 (hW.one he) 0 2 rfl rfl (i := i) (by rw [hi]; exact vp_in_nI hj hn) hd ?_
  rw [hi, nI_clamp (Nat.lt_trans hj hn)]
  exact k p e s m args below meth c hA H locs ls hW hS hl
/-- the length of an array of ints -/
theorem ze_alen {a n : Nat} {x : (Nat → Int32) ⊕ (Nat → Int64) ⊕ (Nat → UInt32) ⊕ (Nat → UInt64) ⊕ (Nat → Option Nat)} (t0 : Nat) {cA : ClassId} {ty : FieldType} (ht : (zx_tys g)[t0]? = some (cA, ty)) (hd : decode cc pc = .ok (.arraylength, 1)) (he : σ a = some (.inl (cA, n, x))) (k : zE g own cc nL ret ini rm mc ms Post (pc + 1) lv (.int (nI n) :: rest) σ sz kc ks) : zE g own cc nL ret ini rm mc ms Post pc lv (.ref a :: rest) σ sz kc ks := by
  intro p e s m args below meth c hA H locs ls hW hS hl
  exact va_alen hA.1 hA.2.1 hW.2.2.1 (hW.one he) 0 t0 rfl ht (v := nI n) rfl hd (k p e s m args below meth c hA H locs ls hW hS hl)
/-! static arrays of chars -/
theorem ze_gets {C n ref host : String} {N index : Nat} {f : Nat → Int32} (q : Nat) (hq : zc_st[q]? = some (C, n, N, f)) (hlink : (own, index, ref, n, "[C", host) ∈ zc_NF) (href : ref = C) (hd : decode cc pc = .ok (.getstatic index, 3)) (k : zE g own cc nL ret ini rm mc ms Post (pc + 3) lv (.ref (g.2.2.2.2 q) :: rest) σ sz kc ks) : zE g own cc nL ret ini rm mc ms Post pc lv rest σ sz kc ks := by
  intro p e s m args below meth c hA H locs ls hW hS hl
  exact va_getsN hA.1 hA.2.1 (hA.2.2.2.2.2.2.2.2.2.1 q _ hq).1 hS hA.2.2.2.2.1 (va_Nw.use rfl (hA.2.2.2.2.2.2.2.2.2.2.1 _ hlink)) (fun x hx => by rw [href]; exact hx) hd (k p e s m args below meth c hA H locs ls hW hS hl)
theorem ze_tc {C n : String} {N j : Nat} {f : Nat → Int32} {i : Int32} (q : Nat) (hq : zc_st[q]? = some (C, n, N, f)) (hd : decode cc pc = .ok (.caload, 1)) (hi : i = nI j) (hj : j < N) (hn : N < 2 ^ 31) (k : zE g own cc nL ret ini rm mc ms Post (pc + 1) lv (.int (f j) :: rest) σ sz kc ks) : zE g own cc nL ret ini rm mc ms Post pc lv (.int i :: .ref (g.2.2.2.2 q) :: rest) σ sz kc ks := by
  intro p e s m args below meth c hA H locs ls hW hS hl
  exact va_tc hA.1 hA.2.1 (hA.2.2.2.2.2.2.2.2.2.1 q _ hq).2 hS (i := i) (by rw [hi]; exact vp_in_nI hj hn) (v := .int (f j)) (by rw [hi, nI_clamp (Nat.lt_trans hj hn)]) hd (k p e s m args below meth c hA H locs ls hW hS hl)
theorem ze_tlen {C n : String} {N : Nat} {f : Nat → Int32} (q : Nat) (hq : zc_st[q]? = some (C, n, N, f)) (hd : decode cc pc = .ok (.arraylength, 1)) (k : zE g own cc nL ret ini rm mc ms Post (pc + 1) lv (.int (nI N) :: rest) σ sz kc ks) : zE g own cc nL ret ini rm mc ms Post pc lv (.ref (g.2.2.2.2 q) :: rest) σ sz kc ks := by
  intro p e s m args below meth c hA H locs ls hW hS hl
  exact va_tlen hA.1 hA.2.1 (hA.2.2.2.2.2.2.2.2.2.1 q _ hq).2 hS (v := nI N) rfl hd (k p e s m args below meth c hA H locs ls hW hS hl)
/-! making -/
theorem ze_new {C : String} {T : u_T} {N ci index : Nat} (hin : ∀ w ∈ u_ws C T N, w ∈ zc_T) (ty0 : Nat → FieldType) (hty : ∀ k, k < N → parseFieldDescriptor (T k).2.2.1 = some (ty0 k)) (hc : zc_cl[ci]? = some (C, T, N)) {fs : List Value} (hfs : ∀ j, j < N → defaultValue (ty0 j) = vp_V fs j) (hcl : Cond.classLink own index C ∈ zc_T) (hinst : Cond.instantiable C N ∈ zc_T) (hini : Cond.initialized C ∈ zc_T) (h1 : kc + 1 ≤ rm.cells) (h2 : ks + N ≤ rm.slots) (hd : decode cc pc = .ok (.new index, 3)) (k : g.2.2.1 ≤ sz → zE g own cc nL ret ini rm mc ms Post (pc + 3) lv (.ref sz :: rest) (zx_up σ sz (.inr (ci, fs))) (sz + 1) (kc + 1) (ks + N)) : zE g own cc nL ret ini rm mc ms Post pc lv rest σ sz kc ks := by
  intro p e s m args below meth c hA H locs ls hW hS hl
  have hts := hA.2.2.2.2.2.1
  have hKn := hW.2.2.1.1 ci _ hc
  have hB : g.2.2.1 ≤ sz := by rw [← hW.1]; exact Nat.le_trans hA.2.2.2.2.2.2.2.1 hS.1
  refine W.newcK hA.1 hA.2.1 hA.2.2.2.2.1 (hts _ hcl) (hts _ hinst) (hts _ hini) rfl hd h1 h2 hKn.2.1 hW.1 fun H1 kC hkC e1 z1 o1 => ?_
  refine k hB p e s m args below meth c hA H1 locs ls (hW.push hB ⟨_, hc, (u_born ty0 hts hin hKn hkC e1 hty).to hfs⟩ z1 o1) ⟨by rw [z1]; exact Nat.le_succ_of_le (by rw [← hW.1]; exact hS.1), fun q h3 h4 => ?_, hS.2.2⟩ hl
  rw [o1 q (by rw [← hW.1]; exact Nat.lt_of_lt_of_le h3 hS.1)]
  exact hS.2.1 q h3 h4
theorem ze_newa {atype : ArrayType} {ty : FieldType} {n : Int32} {N : Nat} (t0 : Nat) {cA : ClassId} {x : (Nat → Int32) ⊕ (Nat → Int64) ⊕ (Nat → UInt32) ⊕ (Nat → UInt64) ⊕ (Nat → Option Nat)} (ht : (zx_tys g)[t0]? = some (cA, ty)) (hty : newarray.typeOf atype = ty) (hra : ∀ U : State, va_RA U cA ty → U.vm.findClass ("[" ++ ty.toString) = some cA) (harr : Cond.arrayClass ty ∈ zc_T) (ha : ∀ cB : ClassId, vp_cell cB (N, x) = arrV cB N (fun _ => defaultValue ty)) (hn : n = nI N) (hN : N < 2 ^ 31) (hbytes : N * componentBytes ty ≤ 536870912) (h1 : kc + 1 ≤ rm.cells) (h2 : ks + N ≤ rm.slots) (hd : decode cc pc = .ok (.newarray atype, 2)) (k : g.2.2.1 ≤ sz → zE g own cc nL ret ini rm mc ms Post (pc + 2) lv (.ref sz :: rest) (zx_up σ sz (.inl (cA, N, x))) (sz + 1) (kc + 1) (ks + N)) : zE g own cc nL ret ini rm mc ms Post pc lv (.int n :: rest) σ sz kc ks := by
  intro p e s m args below meth c hA H locs ls hW hS hl
  subst hty
  have hts := hA.2.2.2.2.2.1
  have hB : g.2.2.1 ≤ sz := by rw [← hW.1]; exact Nat.le_trans hA.2.2.2.2.2.2.2.1 hS.1
  refine va_newaK hA.1 hA.2.1 (hts _ harr) rfl hd rfl (by rw [hn]; exact nI_pos hN) (by rw [hn]; exact nI_clamp hN) hbytes h1 h2 hW.1 fun H1 cB e1 z1 o1 hAr hNm => ?_
  have hcc : cB = cA := Option.some.inj (hNm.symm.trans (hra s (hW.2.2.1.2 t0 _ ht).2))
  subst hcc
  refine k hB p e s m args below meth c hA H1 locs ls (hW.push hB ?_ z1 o1) ⟨by rw [z1]; exact Nat.le_succ_of_le (by rw [← hW.1]; exact hS.1), fun q h3 h4 => ?_, hS.2.2⟩ hl
  · show H1[sz]? = some (vp_cell _ _)
    rw [ha]
    exact e1
  · rw [o1 q (by rw [← hW.1]; exact Nat.lt_of_lt_of_le h3 hS.1)]
    exact hS.2.1 q h3 h4
theorem ze_objInit {a idx : Nat} (hlink : Cond.methodLink own idx Lib.objectInit ∈ zc_T) (hinst : Cond.instanceMethod Lib.objectInit ∈ zc_T) (hcode : Cond.code Lib.objectInit ⟨#[0xb1]⟩ 1 none ∈ zc_T) (hd : decode cc pc = .ok (.invokespecial idx, 3)) (h1 : 1 ≤ rm.frames) (h2 : (rest.map fun v => v.category).sum + 12 ≤ rm.locals) (k : zE g own cc nL ret ini rm mc ms Post (pc + 3) lv rest σ sz kc ks) : zE g own cc nL ret ini rm mc ms Post pc lv (.ref a :: rest) σ sz kc ks := by
  intro p e s m args below meth c hA H locs ls hW hS hl
  have hts := hA.2.2.2.2.2.1
  refine W.objInit hA.1 hA.2.1 hA.2.2.2.2.1 (hts _ hlink) (hts _ hinst) (hts _ hcode) rfl (by rw [hA.2.2.2.1]; exact hl.1) rfl hd h1 ?_ ?_
  · show 2 * 0 + _ + 12 ≤ _
    rw [Nat.mul_zero, Nat.zero_add]
    exact h2
  · exact W.eq (g2 := F0 m (pc + 3) ls rest) rfl (k p e s m args below meth c hA H locs ls hW hS hl)
/-! calls -/
def zPi (P : Int32 → zx_M → Nat → Prop) : Option Value → zx_M → Nat → Prop := fun r σ sz => ∃ v : Int32, r = some (.int v) ∧ P v σ sz
def zPv (P : zx_M → Nat → Prop) : Option Value → zx_M → Nat → Prop := fun r σ sz => r = none ∧ P σ sz
def zPr (P : Nat → zx_M → Nat → Prop) : Option Value → zx_M → Nat → Prop := fun r σ sz => ∃ v : Nat, r = some (.ref v) ∧ P v σ sz
theorem ze_run {st0 : List Value} {mc' ms' : Nat} {Post' : Option Value → zx_M → Nat → Prop} {av : Array Value}
    (hr : ∀ (p : Program) (e : Env) (s : State) (m : MethodId) (args : Array Value) (below : List Frame) (meth : Method) (c : Code), zx_A g own cc nL ret ini p s m args meth c → ∀ (H : Heap) (locs : List Loc) (ls : Array Slot), zx_W g σ sz s H → va_S (zx_Fr g) s.heap H locs → lv_has ls nL lv → va_Run p g.1 e rm s m args below meth c H locs kc ks mc' ms' (F0 m pc ls st0) rest (zx_Q g Post' av) (zx_Fr g))
    (k : ∀ r σ' sz', Post' r σ' sz' → zE g own cc nL ret ini rm mc ms Post (pc + 3) lv (r.toList ++ rest) σ' sz' (kc + mc') (ks + ms')) : zE g own cc nL ret ini rm mc ms Post pc lv st0 σ sz kc ks := by
  intro p e s m args below meth c hA H locs ls hW hS hl
  intro T hT X
  obtain ⟨v, st₀, t, T', L, h0, X', hL, e1, e2, ⟨⟨r, σ', sz', hv, hp, hw⟩, hz, hk⟩, st⟩ := hr p e s m args below meth c hA H locs ls hW hS hl T hT X
  cases hv
  rw [h0] at hz hk
  have hal : s.vm.Alike t.vm := by rw [← e2]; exact X'.warmed.alike
  have hw' : zx_W g σ' sz' s T'.heap := by rw [e1]; exact hw.moved hal.symm
  obtain ⟨t2, a1, b1⟩ := k v σ' sz' hp p e s m args below meth c hA T'.heap (locs ++ L) ls hw'
    ⟨Nat.le_trans hS.1 (by rw [e1]; exact hz), fun q h1 h2 => by rw [e1, hk q (Nat.lt_of_lt_of_le h1 hS.1) h2]; exact hS.2.1 q h1 h2, fun q hq => by
      rcases List.mem_append.mp hq with h | h
      · exact hS.2.2 q h
      · exact hL q h⟩ hl T' rfl X'
  exact ⟨t2, st t2 a1, b1⟩
/-- what a call needs of the tables: the callee's name, its code's bytes, and how many arguments -/
def zx_y (y : MethodName) (bytes : ByteArray) (maxL : Nat) (r : Option FieldType) (n : Nat) : Prop := Cond.code y bytes maxL r ∈ zc_T ∧ Cond.initialized y.cls ∈ zc_T ∧ (y.cls ≠ "java/lang/invoke/MethodHandle" ∧ y.cls ≠ "java/lang/invoke/VarHandle" ∧ (parseMethodDescriptor y.desc).map (fun d => d.parameters.length) = some n)
theorem zx_good {y : MethodName} {bytes : ByteArray} {maxL : Nat} {r : Option FieldType} (h : Cond.code y bytes maxL r ∈ zc_T) : GoodIn zc_T (.code y bytes maxL r :: zc_T) := by
  intro w hw
  rcases List.mem_cons.mp hw with rfl | hw
  · exact zc_good _ h
  · exact zc_good _ hw
theorem ze_callV {y : MethodName} {bytes : ByteArray} {maxL index n : Nat} {r : Option FieldType} {rm' : Room} {b : Nat} {As : List Value} {ci : Nat} {q : vw_C} {fs : List Value} {Post' : Option Value → zx_M → Nat → Prop} {st0 : List Value}
    (hM : zM g y bytes maxL r rm' rm'.cells rm'.slots (.ref b :: As) σ sz Post') (hy : zx_y y bytes maxL r n) (hlink : Cond.methodLink own index y ∈ zc_T) (hinst : Cond.instanceMethod y ∈ zc_T) (hsel : Cond.selects y.cls y y ∈ zc_T) (hcl : zc_cl[ci]? = some q) (hq : q.1 = y.cls)
    (hR : rm'.frames + 1 ≤ rm.frames ∧ 8 + (maxL + 11) + rm'.locals ≤ rm.locals) (hf : kc + rm'.cells ≤ rm.cells ∧ ks + rm'.slots ≤ rm.slots) (hd : decode cc pc = .ok (.invokevirtual index, 3)) (he : σ b = some (.inr (ci, fs))) (hst : st0 = As.reverse ++ .ref b :: rest) (hn : As.length = n) (hrest : (rest.map fun v => v.category).sum ≤ 8)
    (k : ∀ r σ' sz', Post' r σ' sz' → zE g own cc nL ret ini rm mc ms Post (pc + 3) lv (r.toList ++ rest) σ' sz' (kc + rm'.cells) (ks + rm'.slots)) : zE g own cc nL ret ini rm mc ms Post pc lv st0 σ sz kc ks := by
  refine ze_run (av := (Value.ref b :: As).toArray) (mc' := rm'.cells) (ms' := rm'.slots) ?_ k
  intro p e s m args below meth c hA H locs ls hW hS hl
  have hts := hA.2.2.2.2.2.1
  have hcw : CallW rm s args own y.cls index y bytes maxL r (.code y bytes maxL r :: zc_T) rm' rm'.cells rm'.slots n := ⟨callB_of n hts (zx_good hy.1) rfl rfl rfl (hts _ hy.2.1) (hts _ hlink) hy.2.2 hR, hts _ hinst, hts _ hsel⟩
  subst hst
  exact va_runV (g := F0 m pc ls _) ⟨hA.1, hA.2.1, hA.2.2.2.1, hA.2.2.2.2.1, hts⟩ hM hcw ⟨zx_blind, by rw [← hq]; exact va_recv hW.2.2.1 (hW.one he) hcl (q0 := 0) rfl, fun U hU hw => ⟨rfl, by rw [hU]; exact hW.moved hw.alike, by rw [← hW.1]; exact Nat.le_trans hA.2.2.2.2.2.2.2.1 hS.1, hA.2.2.2.2.2.2.2.2.2.2.warm hw⟩⟩ rfl hn hl.1 rfl (lv_room hrest) hd hf
theorem ze_callS {y : MethodName} {bytes : ByteArray} {maxL index n : Nat} {r : Option FieldType} {rm' : Room} {As : List Value} {Post' : Option Value → zx_M → Nat → Prop} {st0 : List Value}
    (hM : zM g y bytes maxL r rm' rm'.cells rm'.slots As σ sz Post') (hy : zx_y y bytes maxL r n) (hlink : Cond.methodLink own index y ∈ zc_T) (hstat : Cond.static y ∈ zc_T)
    (hR : rm'.frames + 1 ≤ rm.frames ∧ 8 + (maxL + 11) + rm'.locals ≤ rm.locals) (hf : kc + rm'.cells ≤ rm.cells ∧ ks + rm'.slots ≤ rm.slots) (hd : decode cc pc = .ok (.invokestatic index, 3)) (hst : st0 = As.reverse ++ rest) (hn : As.length = n) (hrest : (rest.map fun v => v.category).sum ≤ 8)
    (k : ∀ r σ' sz', Post' r σ' sz' → zE g own cc nL ret ini rm mc ms Post (pc + 3) lv (r.toList ++ rest) σ' sz' (kc + rm'.cells) (ks + rm'.slots)) : zE g own cc nL ret ini rm mc ms Post pc lv st0 σ sz kc ks := by
  refine ze_run (av := As.toArray) (mc' := rm'.cells) (ms' := rm'.slots) ?_ k
  intro p e s m args below meth c hA H locs ls hW hS hl
  have hts := hA.2.2.2.2.2.1
  have hcw : CallB rm s args own index y bytes maxL r (.code y bytes maxL r :: zc_T) rm' rm'.cells rm'.slots n ∧ (Cond.static y).before args s = true := ⟨callB_of n hts (zx_good hy.1) rfl rfl rfl (hts _ hy.2.1) (hts _ hlink) hy.2.2 hR, hts _ hstat⟩
  subst hst
  exact va_runS (g := F0 m pc ls _) ⟨hA.1, hA.2.1, hA.2.2.2.1, hA.2.2.2.2.1, hts⟩ hM hcw ⟨zx_blind, fun U hU hw => ⟨rfl, by rw [hU]; exact hW.moved hw.alike, by rw [← hW.1]; exact Nat.le_trans hA.2.2.2.2.2.2.2.1 hS.1, hA.2.2.2.2.2.2.2.2.2.2.warm hw⟩⟩ rfl hn hl.1 rfl (lv_room hrest) hd hf
theorem ze_callSN {y : MethodName} {bytes : ByteArray} {maxL index n : Nat} {r : Option FieldType} {rm' : Room} {host : String} {As : List Value} {Post' : Option Value → zx_M → Nat → Prop} {st0 : List Value}
    (hM : zM g y bytes maxL r rm' rm'.cells rm'.slots As σ sz Post') (hy : zx_y y bytes maxL r n) (hlink : (own, index, y, host) ∈ zc_NM) (hstat : Cond.static y ∈ zc_T)
    (hR : rm'.frames + 1 ≤ rm.frames ∧ 8 + (maxL + 11) + rm'.locals ≤ rm.locals) (hf : kc + rm'.cells ≤ rm.cells ∧ ks + rm'.slots ≤ rm.slots) (hd : decode cc pc = .ok (.invokestatic index, 3)) (hst : st0 = As.reverse ++ rest) (hn : As.length = n) (hrest : (rest.map fun v => v.category).sum ≤ 8)
    (k : ∀ r σ' sz', Post' r σ' sz' → zE g own cc nL ret ini rm mc ms Post (pc + 3) lv (r.toList ++ rest) σ' sz' (kc + rm'.cells) (ks + rm'.slots)) : zE g own cc nL ret ini rm mc ms Post pc lv st0 σ sz kc ks := by
  refine ze_run (av := As.toArray) (mc' := rm'.cells) (ms' := rm'.slots) ?_ k
  intro p e s m args below meth c hA H locs ls hW hS hl
  have hts := hA.2.2.2.2.2.1
  have hN := hA.2.2.2.2.2.2.2.2.2.2
  have hcw : va_CN rm s args own index y host bytes maxL r (.code y bytes maxL r :: zc_T) rm' rm'.cells rm'.slots n ∧ (Cond.static y).before args s = true ∧ True := ⟨va_cnB n hts (zx_good hy.1) rfl rfl rfl (hN.2 _ hlink) (hts _ hy.2.1) hy.2.2 hR, hts _ hstat, trivial⟩
  subst hst
  exact va_runSN (g := F0 m pc ls _) ⟨hA.1, hA.2.1, hA.2.2.2.1, hA.2.2.2.2.1, hts⟩ hM hcw ⟨zx_blind, fun U hU hw => ⟨rfl, by rw [hU]; exact hW.moved hw.alike, by rw [← hW.1]; exact Nat.le_trans hA.2.2.2.2.2.2.2.1 hS.1, hN.warm hw⟩⟩ rfl hn hl.1 rfl (lv_room hrest) hd hf
theorem ze_callIN {y : MethodName} {bytes : ByteArray} {maxL index n : Nat} {rm' : Room} {host : String} {b : Nat} {As : List Value} {Post' : Option Value → zx_M → Nat → Prop} {st0 : List Value}
    (hM : zM g y bytes maxL none rm' rm'.cells rm'.slots (.ref b :: As) σ sz Post') (hy : zx_y y bytes maxL none n) (hname : y.name = "<init>") (hlink : (own, index, y, host) ∈ zc_NM) (hinst : Cond.instanceMethod y ∈ zc_T)
    (hR : rm'.frames + 1 ≤ rm.frames ∧ 8 + (maxL + 11) + rm'.locals ≤ rm.locals) (hf : kc + rm'.cells ≤ rm.cells ∧ ks + rm'.slots ≤ rm.slots) (hd : decode cc pc = .ok (.invokespecial index, 3)) (hst : st0 = As.reverse ++ .ref b :: rest) (hn : As.length = n) (hrest : (rest.map fun v => v.category).sum ≤ 8)
    (k : ∀ r σ' sz', Post' r σ' sz' → zE g own cc nL ret ini rm mc ms Post (pc + 3) lv (r.toList ++ rest) σ' sz' (kc + rm'.cells) (ks + rm'.slots)) : zE g own cc nL ret ini rm mc ms Post pc lv st0 σ sz kc ks := by
  refine ze_run (av := (Value.ref b :: As).toArray) (mc' := rm'.cells) (ms' := rm'.slots) ?_ k
  intro p e s m args below meth c hA H locs ls hW hS hl
  have hts := hA.2.2.2.2.2.1
  have hN := hA.2.2.2.2.2.2.2.2.2.2
  have hcw : va_CN rm s args own index y host bytes maxL none (.code y bytes maxL none :: zc_T) rm' rm'.cells rm'.slots n ∧ y.name = "<init>" ∧ (Cond.instanceMethod y).before args s = true := ⟨va_cnB n hts (zx_good hy.1) rfl rfl rfl (hN.2 _ hlink) (hts _ hy.2.1) hy.2.2 hR, hname, hts _ hinst⟩
  subst hst
  exact va_runIN (g := F0 m pc ls _) ⟨hA.1, hA.2.1, hA.2.2.2.1, hA.2.2.2.2.1, hts⟩ hM hcw ⟨zx_blind, fun U hU hw => ⟨rfl, by rw [hU]; exact hW.moved hw.alike, by rw [← hW.1]; exact Nat.le_trans hA.2.2.2.2.2.2.2.1 hS.1, hN.warm hw⟩⟩ rfl hn hl.1 rfl (lv_room hrest) hd hf
theorem ze_callI {y : MethodName} {bytes : ByteArray} {maxL index n : Nat} {rm' : Room} {b : Nat} {As : List Value} {Post' : Option Value → zx_M → Nat → Prop} {st0 : List Value}
    (hM : zM g y bytes maxL none rm' rm'.cells rm'.slots (.ref b :: As) σ sz Post') (hy : zx_y y bytes maxL none n) (hname : y.name = "<init>") (hlink : Cond.methodLink own index y ∈ zc_T) (hinst : Cond.instanceMethod y ∈ zc_T)
    (hR : rm'.frames + 1 ≤ rm.frames ∧ 8 + (maxL + 11) + rm'.locals ≤ rm.locals) (hf : kc + rm'.cells ≤ rm.cells ∧ ks + rm'.slots ≤ rm.slots) (hd : decode cc pc = .ok (.invokespecial index, 3)) (hst : st0 = As.reverse ++ .ref b :: rest) (hn : As.length = n) (hrest : (rest.map fun v => v.category).sum ≤ 8)
    (k : ∀ r σ' sz', Post' r σ' sz' → zE g own cc nL ret ini rm mc ms Post (pc + 3) lv (r.toList ++ rest) σ' sz' (kc + rm'.cells) (ks + rm'.slots)) : zE g own cc nL ret ini rm mc ms Post pc lv st0 σ sz kc ks := by
  refine ze_run (av := (Value.ref b :: As).toArray) (mc' := rm'.cells) (ms' := rm'.slots) ?_ k
  intro p e s m args below meth c hA H locs ls hW hS hl
  have hts := hA.2.2.2.2.2.1
  have hcw : CallB rm s args own index y bytes maxL none (.code y bytes maxL none :: zc_T) rm' rm'.cells rm'.slots n ∧ y.name = "<init>" ∧ (Cond.instanceMethod y).before args s = true := ⟨callB_of n hts (zx_good hy.1) rfl rfl rfl (hts _ hy.2.1) (hts _ hlink) hy.2.2 hR, hname, hts _ hinst⟩
  subst hst
  exact va_runI (g := F0 m pc ls _) ⟨hA.1, hA.2.1, hA.2.2.2.1, hA.2.2.2.2.1, hts⟩ hM hcw ⟨zx_blind, fun U hU hw => ⟨rfl, by rw [hU]; exact hW.moved hw.alike, by rw [← hW.1]; exact Nat.le_trans hA.2.2.2.2.2.2.2.1 hS.1, hA.2.2.2.2.2.2.2.2.2.2.warm hw⟩⟩ rfl hn hl.1 rfl (lv_room hrest) hd hf
end ZE
end
section
/-! OBJECTS: one with its fields at a, its arrays of ints or booleans at a+1, a+2, .. -/
def zob (g : zx_G) (σ : zx_M) (a ci : Nat) (fs : List Value) (ks : List (Nat × Nat)) (R : Nat → Nat → Int32) : Prop :=
  σ a = some (.inr (ci, fs)) ∧ ∀ (k : Nat) (q : Nat × Nat), ks[k]? = some q → σ (a + 1 + k) = some (.inl (g.2.2.2.1 q.1, q.2, .inl (R k)))
theorem zob.put {g : zx_G} {σ : zx_M} {a ci : Nat} {fs fs' : List Value} {ks : List (Nat × Nat)} {R : Nat → Nat → Int32} (h : zob g σ a ci fs ks R) : zob g (zx_up σ a (.inr (ci, fs'))) a ci fs' ks R :=
  ⟨zx_up_self, fun k q hk => by rw [zx_up_ne (by omega)]; exact h.2 k q hk⟩
theorem zob.arr {g : zx_G} {σ : zx_M} {a ci : Nat} {fs : List Value} {ks : List (Nat × Nat)} {R : Nat → Nat → Int32} (h : zob g σ a ci fs ks R) (k : Nat) {q : Nat × Nat} (hk : ks[k]? = some q) {f : Nat → Int32} {b : Nat} (hb : b = a + 1 + k) : zob g (zx_up σ b (.inl (g.2.2.2.1 q.1, q.2, .inl f))) a ci fs ks (va_up R k f) := by
  subst hb
  refine ⟨by rw [zx_up_ne (by omega)]; exact h.1, fun j r hj => ?_⟩
  by_cases hjk : j = k
  · subst hjk
    cases hk.symm.trans hj
    rw [zx_up_self, va_up_self]
  · rw [zx_up_ne (by omega), va_up_ne _ _ hjk]
    exact h.2 j r hj
/-- nothing changed outside a stretch -/
def zfr (σ σ' : zx_M) (lo len : Nat) : Prop := ∀ q, (q < lo ∨ lo + len ≤ q) → σ' q = σ q
theorem zfr.rf {σ : zx_M} {lo len : Nat} : zfr σ σ lo len := fun _ _ => rfl
theorem zfr.trans {σ σ' σ'' : zx_M} {lo len : Nat} (h : zfr σ σ' lo len) (h2 : zfr σ' σ'' lo len) : zfr σ σ'' lo len := fun q hq => (h2 q hq).trans (h q hq)
theorem zfr.up {σ σ' : zx_M} {lo len a : Nat} {e : va_E} (h : zfr σ σ' lo len) (h1 : lo ≤ a) (h2 : a < lo + len) : zfr σ (zx_up σ' a e) lo len := fun q hq => by rw [zx_up_ne (by omega)]; exact h q hq
theorem zfr.wide {σ σ' : zx_M} {lo len lo' len' : Nat} (h : zfr σ σ' lo len) (h1 : lo' ≤ lo) (h2 : lo + len ≤ lo' + len') : zfr σ σ' lo' len' := fun q hq => h q (by omega)
theorem zob.fr {g : zx_G} {σ σ' : zx_M} {a ci : Nat} {fs : List Value} {ks : List (Nat × Nat)} {R : Nat → Nat → Int32} (h : zob g σ a ci fs ks R) {lo len : Nat} (hf : zfr σ σ' lo len) (hd : a + ks.length < lo ∨ lo + len ≤ a) : zob g σ' a ci fs ks R := by
  refine ⟨(hf a (by omega)).trans h.1, fun k q hk => ?_⟩
  have hl : k < ks.length := (List.getElem?_eq_some_iff.mp hk).1
  exact (hf _ (by omega)).trans (h.2 k q hk)
theorem zob.up {g : zx_G} {σ : zx_M} {a ci b : Nat} {e : va_E} {fs : List Value} {ks : List (Nat × Nat)} {R : Nat → Nat → Int32} (h : zob g σ a ci fs ks R) (hd : b < a ∨ a + ks.length < b) : zob g (zx_up σ b e) a ci fs ks R :=
  h.fr (lo := b) (len := 1) (zfr.up zfr.rf (Nat.le_refl _) (Nat.lt_succ_self _)) (by omega)
theorem zob.rows {g : zx_G} {σ : zx_M} {a ci : Nat} {fs : List Value} {ks : List (Nat × Nat)} {R R' : Nat → Nat → Int32} (h : zob g σ a ci fs ks R) (hR : ∀ k, k < ks.length → R k = R' k) : zob g σ a ci fs ks R' := ⟨h.1, fun k q hk => by rw [← hR k (List.getElem?_eq_some_iff.mp hk).1]; exact h.2 k q hk⟩
/-- an index that is looked at before it is used -/
def zi (n : Nat) (x : Int32) : Option Nat := if 0 ≤ x ∧ x < nI n then some x.toNatClampNeg else none
theorem zi_some {n j : Nat} {x : Int32} (hn : n < 2 ^ 31) (h : zi n x = some j) : j < n ∧ x = nI j := by
  unfold zi at h
  split at h
  · rename_i hx
    have h0 : ¬ x < 0 := by
      rw [Int32.lt_iff_toInt_lt, Int32.toInt_zero]
      have := hx.1
      rw [Int32.le_iff_toInt_le, Int32.toInt_zero] at this
      omega
    obtain ⟨k, hk, rfl⟩ := nI_of h0
    rw [nI_clamp hk] at h
    cases h
    exact ⟨(nI_ltI hk hn).mp hx.2, rfl⟩
  · cases h
theorem zi_nI {n j : Nat} (hj : j < n) (hn : n < 2 ^ 31) : zi n (nI j) = some j := by
  unfold zi
  rw [if_pos ⟨nI_pos' (by omega), nI_lt hj hn⟩, nI_clamp (by omega)]
theorem zi_neg {n : Nat} : zi n (-1) = none := by
  unfold zi
  rw [if_neg (fun h => absurd h.1 (by decide))]
theorem zi_of {n : Nat} {x : Int32} (h0 : 0 ≤ x) (h1 : x < nI n) : zi n x = some x.toNatClampNeg := by unfold zi; rw [if_pos ⟨h0, h1⟩]
theorem zi_lo {n : Nat} {x : Int32} (h0 : ¬ 0 ≤ x) : zi n x = none := by unfold zi; rw [if_neg (fun h => h0 h.1)]
theorem zi_hi {n : Nat} {x : Int32} (h1 : ¬ x < nI n) : zi n x = none := by unfold zi; rw [if_neg (fun h => h1 h.2)]
/-- a truth as an int -/
def zb (b : Bool) : Int32 := if b then 1 else 0
theorem zb_or (b : Bool) : zb b = 0 ∨ zb b = 1 := by cases b <;> simp [zb]
end
section
theorem cd_L_init_0 : decode cb_L_init 0 = .ok (.aload_n 0, 1) := by decide +kernel
theorem cd_L_init_1 : decode cb_L_init 1 = .ok (.invokespecial 3, 3) := by decide +kernel
theorem cd_L_init_4 : decode cb_L_init 4 = .ok (.aload_n 0, 1) := by decide +kernel
theorem cd_L_init_5 : decode cb_L_init 5 = .ok (.iconst 0, 1) := by decide +kernel
theorem cd_L_init_6 : decode cb_L_init 6 = .ok (.putfield 9, 3) := by decide +kernel
theorem cd_L_init_9 : decode cb_L_init 9 = .ok (.aload_n 0, 1) := by decide +kernel
theorem cd_L_init_10 : decode cb_L_init 10 = .ok (.bipush 100, 2) := by decide +kernel
theorem cd_L_init_12 : decode cb_L_init 12 = .ok (.newarray .int, 2) := by decide +kernel
theorem cd_L_init_14 : decode cb_L_init 14 = .ok (.putfield 15, 3) := by decide +kernel
theorem cd_L_init_17 : decode cb_L_init 17 = .ok (.aload_n 0, 1) := by decide +kernel
theorem cd_L_init_18 : decode cb_L_init 18 = .ok (.bipush 100, 2) := by decide +kernel
theorem cd_L_init_20 : decode cb_L_init 20 = .ok (.newarray .int, 2) := by decide +kernel
theorem cd_L_init_22 : decode cb_L_init 22 = .ok (.putfield 19, 3) := by decide +kernel
theorem cd_L_init_25 : decode cb_L_init 25 = .ok (.aload_n 0, 1) := by decide +kernel
theorem cd_L_init_26 : decode cb_L_init 26 = .ok (.bipush 100, 2) := by decide +kernel
theorem cd_L_init_28 : decode cb_L_init 28 = .ok (.newarray .int, 2) := by decide +kernel
theorem cd_L_init_30 : decode cb_L_init 30 = .ok (.putfield 22, 3) := by decide +kernel
theorem cd_L_init_33 : decode cb_L_init 33 = .ok (.aload_n 0, 1) := by decide +kernel
theorem cd_L_init_34 : decode cb_L_init 34 = .ok (.bipush 100, 2) := by decide +kernel
theorem cd_L_init_36 : decode cb_L_init 36 = .ok (.newarray .int, 2) := by decide +kernel
theorem cd_L_init_38 : decode cb_L_init 38 = .ok (.putfield 25, 3) := by decide +kernel
theorem cd_L_init_41 : decode cb_L_init 41 = .ok (.aload_n 0, 1) := by decide +kernel
theorem cd_L_init_42 : decode cb_L_init 42 = .ok (.bipush 100, 2) := by decide +kernel
theorem cd_L_init_44 : decode cb_L_init 44 = .ok (.newarray .int, 2) := by decide +kernel
theorem cd_L_init_46 : decode cb_L_init 46 = .ok (.putfield 28, 3) := by decide +kernel
theorem cd_L_init_49 : decode cb_L_init 49 = .ok (.aload_n 0, 1) := by decide +kernel
theorem cd_L_init_50 : decode cb_L_init 50 = .ok (.bipush 100, 2) := by decide +kernel
theorem cd_L_init_52 : decode cb_L_init 52 = .ok (.newarray .int, 2) := by decide +kernel
theorem cd_L_init_54 : decode cb_L_init 54 = .ok (.putfield 31, 3) := by decide +kernel
theorem cd_L_init_57 : decode cb_L_init 57 = .ok (.aload_n 0, 1) := by decide +kernel
theorem cd_L_init_58 : decode cb_L_init 58 = .ok (.bipush 100, 2) := by decide +kernel
theorem cd_L_init_60 : decode cb_L_init 60 = .ok (.newarray .int, 2) := by decide +kernel
theorem cd_L_init_62 : decode cb_L_init 62 = .ok (.putfield 34, 3) := by decide +kernel
theorem cd_L_init_65 : decode cb_L_init 65 = .ok (.aload_n 0, 1) := by decide +kernel
theorem cd_L_init_66 : decode cb_L_init 66 = .ok (.bipush 100, 2) := by decide +kernel
theorem cd_L_init_68 : decode cb_L_init 68 = .ok (.newarray .int, 2) := by decide +kernel
theorem cd_L_init_70 : decode cb_L_init 70 = .ok (.putfield 37, 3) := by decide +kernel
theorem cd_L_init_73 : decode cb_L_init 73 = .ok (.aload_n 0, 1) := by decide +kernel
theorem cd_L_init_74 : decode cb_L_init 74 = .ok (.bipush 100, 2) := by decide +kernel
theorem cd_L_init_76 : decode cb_L_init 76 = .ok (.newarray .int, 2) := by decide +kernel
theorem cd_L_init_78 : decode cb_L_init 78 = .ok (.putfield 40, 3) := by decide +kernel
theorem cd_L_init_81 : decode cb_L_init 81 = .ok (.aload_n 0, 1) := by decide +kernel
theorem cd_L_init_82 : decode cb_L_init 82 = .ok (.bipush 100, 2) := by decide +kernel
theorem cd_L_init_84 : decode cb_L_init 84 = .ok (.newarray .int, 2) := by decide +kernel
theorem cd_L_init_86 : decode cb_L_init 86 = .ok (.putfield 43, 3) := by decide +kernel
theorem cd_L_init_89 : decode cb_L_init 89 = .ok (.aload_n 0, 1) := by decide +kernel
theorem cd_L_init_90 : decode cb_L_init 90 = .ok (.sipush 1600, 3) := by decide +kernel
theorem cd_L_init_93 : decode cb_L_init 93 = .ok (.newarray .int, 2) := by decide +kernel
theorem cd_L_init_95 : decode cb_L_init 95 = .ok (.putfield 46, 3) := by decide +kernel
theorem cd_L_init_98 : decode cb_L_init 98 = .ok (.return_, 1) := by decide +kernel
theorem cd_L_has_0 : decode cb_L_has 0 = .ok (.iload_n 1, 1) := by decide +kernel
theorem cd_L_has_1 : decode cb_L_has 1 = .ok (.ifCond .lt 15, 3) := by decide +kernel
theorem cd_L_has_4 : decode cb_L_has 4 = .ok (.iload_n 1, 1) := by decide +kernel
theorem cd_L_has_5 : decode cb_L_has 5 = .ok (.aload_n 0, 1) := by decide +kernel
theorem cd_L_has_6 : decode cb_L_has 6 = .ok (.getfield 9, 3) := by decide +kernel
theorem cd_L_has_9 : decode cb_L_has 9 = .ok (.if_icmp .ge 7, 3) := by decide +kernel
theorem cd_L_has_12 : decode cb_L_has 12 = .ok (.iconst 1, 1) := by decide +kernel
theorem cd_L_has_13 : decode cb_L_has 13 = .ok (.goto 4, 3) := by decide +kernel
theorem cd_L_has_16 : decode cb_L_has 16 = .ok (.iconst 0, 1) := by decide +kernel
theorem cd_L_has_17 : decode cb_L_has 17 = .ok (.ireturn, 1) := by decide +kernel
theorem cd_L_titleSign_0 : decode cb_L_titleSign 0 = .ok (.aload_n 0, 1) := by decide +kernel
theorem cd_L_titleSign_1 : decode cb_L_titleSign 1 = .ok (.getfield 46, 3) := by decide +kernel
theorem cd_L_titleSign_4 : decode cb_L_titleSign 4 = .ok (.iload_n 1, 1) := by decide +kernel
theorem cd_L_titleSign_5 : decode cb_L_titleSign 5 = .ok (.bipush 16, 2) := by decide +kernel
theorem cd_L_titleSign_7 : decode cb_L_titleSign 7 = .ok (.imul, 1) := by decide +kernel
theorem cd_L_titleSign_8 : decode cb_L_titleSign 8 = .ok (.iload_n 2, 1) := by decide +kernel
theorem cd_L_titleSign_9 : decode cb_L_titleSign 9 = .ok (.iadd, 1) := by decide +kernel
theorem cd_L_titleSign_10 : decode cb_L_titleSign 10 = .ok (.iaload, 1) := by decide +kernel
theorem cd_L_titleSign_11 : decode cb_L_titleSign 11 = .ok (.ireturn, 1) := by decide +kernel
theorem cd_L_addTitleSign_0 : decode cb_L_addTitleSign 0 = .ok (.aload_n 0, 1) := by decide +kernel
theorem cd_L_addTitleSign_1 : decode cb_L_addTitleSign 1 = .ok (.getfield 43, 3) := by decide +kernel
theorem cd_L_addTitleSign_4 : decode cb_L_addTitleSign 4 = .ok (.iload_n 1, 1) := by decide +kernel
theorem cd_L_addTitleSign_5 : decode cb_L_addTitleSign 5 = .ok (.iaload, 1) := by decide +kernel
theorem cd_L_addTitleSign_6 : decode cb_L_addTitleSign 6 = .ok (.bipush 16, 2) := by decide +kernel
theorem cd_L_addTitleSign_8 : decode cb_L_addTitleSign 8 = .ok (.if_icmp .ge 30, 3) := by decide +kernel
theorem cd_L_addTitleSign_11 : decode cb_L_addTitleSign 11 = .ok (.aload_n 0, 1) := by decide +kernel
theorem cd_L_addTitleSign_12 : decode cb_L_addTitleSign 12 = .ok (.getfield 46, 3) := by decide +kernel
theorem cd_L_addTitleSign_15 : decode cb_L_addTitleSign 15 = .ok (.iload_n 1, 1) := by decide +kernel
theorem cd_L_addTitleSign_16 : decode cb_L_addTitleSign 16 = .ok (.bipush 16, 2) := by decide +kernel
theorem cd_L_addTitleSign_18 : decode cb_L_addTitleSign 18 = .ok (.imul, 1) := by decide +kernel
theorem cd_L_addTitleSign_19 : decode cb_L_addTitleSign 19 = .ok (.aload_n 0, 1) := by decide +kernel
theorem cd_L_addTitleSign_20 : decode cb_L_addTitleSign 20 = .ok (.getfield 43, 3) := by decide +kernel
theorem cd_L_addTitleSign_23 : decode cb_L_addTitleSign 23 = .ok (.iload_n 1, 1) := by decide +kernel
theorem cd_L_addTitleSign_24 : decode cb_L_addTitleSign 24 = .ok (.iaload, 1) := by decide +kernel
theorem cd_L_addTitleSign_25 : decode cb_L_addTitleSign 25 = .ok (.iadd, 1) := by decide +kernel
theorem cd_L_addTitleSign_26 : decode cb_L_addTitleSign 26 = .ok (.iload_n 2, 1) := by decide +kernel
theorem cd_L_addTitleSign_27 : decode cb_L_addTitleSign 27 = .ok (.iastore, 1) := by decide +kernel
theorem cd_L_addTitleSign_28 : decode cb_L_addTitleSign 28 = .ok (.aload_n 0, 1) := by decide +kernel
theorem cd_L_addTitleSign_29 : decode cb_L_addTitleSign 29 = .ok (.getfield 43, 3) := by decide +kernel
theorem cd_L_addTitleSign_32 : decode cb_L_addTitleSign 32 = .ok (.iload_n 1, 1) := by decide +kernel
theorem cd_L_addTitleSign_33 : decode cb_L_addTitleSign 33 = .ok (.dup2, 1) := by decide +kernel
theorem cd_L_addTitleSign_34 : decode cb_L_addTitleSign 34 = .ok (.iaload, 1) := by decide +kernel
theorem cd_L_addTitleSign_35 : decode cb_L_addTitleSign 35 = .ok (.iconst 1, 1) := by decide +kernel
theorem cd_L_addTitleSign_36 : decode cb_L_addTitleSign 36 = .ok (.iadd, 1) := by decide +kernel
theorem cd_L_addTitleSign_37 : decode cb_L_addTitleSign 37 = .ok (.iastore, 1) := by decide +kernel
theorem cd_L_addTitleSign_38 : decode cb_L_addTitleSign 38 = .ok (.return_, 1) := by decide +kernel
theorem cd_L_addBare_0 : decode cb_L_addBare 0 = .ok (.aload_n 0, 1) := by decide +kernel
theorem cd_L_addBare_1 : decode cb_L_addBare 1 = .ok (.getfield 9, 3) := by decide +kernel
theorem cd_L_addBare_4 : decode cb_L_addBare 4 = .ok (.bipush 100, 2) := by decide +kernel
theorem cd_L_addBare_6 : decode cb_L_addBare 6 = .ok (.if_icmp .lt 4, 3) := by decide +kernel
theorem cd_L_addBare_9 : decode cb_L_addBare 9 = .ok (.return_, 1) := by decide +kernel
theorem cd_L_addBare_10 : decode cb_L_addBare 10 = .ok (.aload_n 0, 1) := by decide +kernel
theorem cd_L_addBare_11 : decode cb_L_addBare 11 = .ok (.getfield 9, 3) := by decide +kernel
theorem cd_L_addBare_14 : decode cb_L_addBare 14 = .ok (.istore_n 2, 1) := by decide +kernel
theorem cd_L_addBare_15 : decode cb_L_addBare 15 = .ok (.aload_n 0, 1) := by decide +kernel
theorem cd_L_addBare_16 : decode cb_L_addBare 16 = .ok (.dup, 1) := by decide +kernel
theorem cd_L_addBare_17 : decode cb_L_addBare 17 = .ok (.getfield 9, 3) := by decide +kernel
theorem cd_L_addBare_20 : decode cb_L_addBare 20 = .ok (.iconst 1, 1) := by decide +kernel
theorem cd_L_addBare_21 : decode cb_L_addBare 21 = .ok (.iadd, 1) := by decide +kernel
theorem cd_L_addBare_22 : decode cb_L_addBare 22 = .ok (.putfield 9, 3) := by decide +kernel
theorem cd_L_addBare_25 : decode cb_L_addBare 25 = .ok (.aload_n 0, 1) := by decide +kernel
theorem cd_L_addBare_26 : decode cb_L_addBare 26 = .ok (.getfield 25, 3) := by decide +kernel
theorem cd_L_addBare_29 : decode cb_L_addBare 29 = .ok (.iload_n 2, 1) := by decide +kernel
theorem cd_L_addBare_30 : decode cb_L_addBare 30 = .ok (.iload_n 1, 1) := by decide +kernel
theorem cd_L_addBare_31 : decode cb_L_addBare 31 = .ok (.iastore, 1) := by decide +kernel
theorem cd_L_addBare_32 : decode cb_L_addBare 32 = .ok (.aload_n 0, 1) := by decide +kernel
theorem cd_L_addBare_33 : decode cb_L_addBare 33 = .ok (.getfield 22, 3) := by decide +kernel
theorem cd_L_addBare_36 : decode cb_L_addBare 36 = .ok (.iload_n 2, 1) := by decide +kernel
theorem cd_L_addBare_37 : decode cb_L_addBare 37 = .ok (.aload_n 0, 1) := by decide +kernel
theorem cd_L_addBare_38 : decode cb_L_addBare 38 = .ok (.iload_n 2, 1) := by decide +kernel
theorem cd_L_addBare_39 : decode cb_L_addBare 39 = .ok (.iconst 1, 1) := by decide +kernel
theorem cd_L_addBare_40 : decode cb_L_addBare 40 = .ok (.isub, 1) := by decide +kernel
theorem cd_L_addBare_41 : decode cb_L_addBare 41 = .ok (.iload_n 1, 1) := by decide +kernel
theorem cd_L_addBare_42 : decode cb_L_addBare 42 = .ok (.iconst 1, 1) := by decide +kernel
theorem cd_L_addBare_43 : decode cb_L_addBare 43 = .ok (.isub, 1) := by decide +kernel
theorem cd_L_addBare_44 : decode cb_L_addBare 44 = .ok (.invokevirtual 49, 3) := by decide +kernel
theorem cd_L_addBare_47 : decode cb_L_addBare 47 = .ok (.iastore, 1) := by decide +kernel
theorem cd_L_addBare_48 : decode cb_L_addBare 48 = .ok (.aload_n 0, 1) := by decide +kernel
theorem cd_L_addBare_49 : decode cb_L_addBare 49 = .ok (.getfield 43, 3) := by decide +kernel
theorem cd_L_addBare_52 : decode cb_L_addBare 52 = .ok (.iload_n 2, 1) := by decide +kernel
theorem cd_L_addBare_53 : decode cb_L_addBare 53 = .ok (.iconst 0, 1) := by decide +kernel
theorem cd_L_addBare_54 : decode cb_L_addBare 54 = .ok (.iastore, 1) := by decide +kernel
theorem cd_L_addBare_55 : decode cb_L_addBare 55 = .ok (.aload_n 0, 1) := by decide +kernel
theorem cd_L_addBare_56 : decode cb_L_addBare 56 = .ok (.getfield 28, 3) := by decide +kernel
theorem cd_L_addBare_59 : decode cb_L_addBare 59 = .ok (.iload_n 2, 1) := by decide +kernel
theorem cd_L_addBare_60 : decode cb_L_addBare 60 = .ok (.iconst (-1), 1) := by decide +kernel
theorem cd_L_addBare_61 : decode cb_L_addBare 61 = .ok (.iastore, 1) := by decide +kernel
theorem cd_L_addBare_62 : decode cb_L_addBare 62 = .ok (.aload_n 0, 1) := by decide +kernel
theorem cd_L_addBare_63 : decode cb_L_addBare 63 = .ok (.getfield 31, 3) := by decide +kernel
theorem cd_L_addBare_66 : decode cb_L_addBare 66 = .ok (.iload_n 2, 1) := by decide +kernel
theorem cd_L_addBare_67 : decode cb_L_addBare 67 = .ok (.iconst (-1), 1) := by decide +kernel
theorem cd_L_addBare_68 : decode cb_L_addBare 68 = .ok (.iastore, 1) := by decide +kernel
theorem cd_L_addBare_69 : decode cb_L_addBare 69 = .ok (.aload_n 0, 1) := by decide +kernel
theorem cd_L_addBare_70 : decode cb_L_addBare 70 = .ok (.getfield 34, 3) := by decide +kernel
theorem cd_L_addBare_73 : decode cb_L_addBare 73 = .ok (.iload_n 2, 1) := by decide +kernel
theorem cd_L_addBare_74 : decode cb_L_addBare 74 = .ok (.iconst 0, 1) := by decide +kernel
theorem cd_L_addBare_75 : decode cb_L_addBare 75 = .ok (.iastore, 1) := by decide +kernel
theorem cd_L_addBare_76 : decode cb_L_addBare 76 = .ok (.aload_n 0, 1) := by decide +kernel
theorem cd_L_addBare_77 : decode cb_L_addBare 77 = .ok (.getfield 37, 3) := by decide +kernel
theorem cd_L_addBare_80 : decode cb_L_addBare 80 = .ok (.iload_n 2, 1) := by decide +kernel
theorem cd_L_addBare_81 : decode cb_L_addBare 81 = .ok (.iconst (-1), 1) := by decide +kernel
theorem cd_L_addBare_82 : decode cb_L_addBare 82 = .ok (.iastore, 1) := by decide +kernel
theorem cd_L_addBare_83 : decode cb_L_addBare 83 = .ok (.aload_n 0, 1) := by decide +kernel
theorem cd_L_addBare_84 : decode cb_L_addBare 84 = .ok (.getfield 40, 3) := by decide +kernel
theorem cd_L_addBare_87 : decode cb_L_addBare 87 = .ok (.iload_n 2, 1) := by decide +kernel
theorem cd_L_addBare_88 : decode cb_L_addBare 88 = .ok (.iconst (-1), 1) := by decide +kernel
theorem cd_L_addBare_89 : decode cb_L_addBare 89 = .ok (.iastore, 1) := by decide +kernel
theorem cd_L_addBare_90 : decode cb_L_addBare 90 = .ok (.return_, 1) := by decide +kernel
theorem cd_L_latestOfDepth_0 : decode cb_L_latestOfDepth 0 = .ok (.iload_n 1, 1) := by decide +kernel
theorem cd_L_latestOfDepth_1 : decode cb_L_latestOfDepth 1 = .ok (.istore_n 3, 1) := by decide +kernel
theorem cd_L_latestOfDepth_2 : decode cb_L_latestOfDepth 2 = .ok (.iload_n 3, 1) := by decide +kernel
theorem cd_L_latestOfDepth_3 : decode cb_L_latestOfDepth 3 = .ok (.ifCond .lt 21, 3) := by decide +kernel
theorem cd_L_latestOfDepth_6 : decode cb_L_latestOfDepth 6 = .ok (.aload_n 0, 1) := by decide +kernel
theorem cd_L_latestOfDepth_7 : decode cb_L_latestOfDepth 7 = .ok (.getfield 25, 3) := by decide +kernel
theorem cd_L_latestOfDepth_10 : decode cb_L_latestOfDepth 10 = .ok (.iload_n 3, 1) := by decide +kernel
theorem cd_L_latestOfDepth_11 : decode cb_L_latestOfDepth 11 = .ok (.iaload, 1) := by decide +kernel
theorem cd_L_latestOfDepth_12 : decode cb_L_latestOfDepth 12 = .ok (.iload_n 2, 1) := by decide +kernel
theorem cd_L_latestOfDepth_13 : decode cb_L_latestOfDepth 13 = .ok (.if_icmp .ne 5, 3) := by decide +kernel
theorem cd_L_latestOfDepth_16 : decode cb_L_latestOfDepth 16 = .ok (.iload_n 3, 1) := by decide +kernel
theorem cd_L_latestOfDepth_17 : decode cb_L_latestOfDepth 17 = .ok (.ireturn, 1) := by decide +kernel
theorem cd_L_latestOfDepth_18 : decode cb_L_latestOfDepth 18 = .ok (.iinc 3 (-1), 3) := by decide +kernel
theorem cd_L_latestOfDepth_21 : decode cb_L_latestOfDepth 21 = .ok (.goto (-19), 3) := by decide +kernel
theorem cd_L_latestOfDepth_24 : decode cb_L_latestOfDepth 24 = .ok (.iconst (-1), 1) := by decide +kernel
theorem cd_L_latestOfDepth_25 : decode cb_L_latestOfDepth 25 = .ok (.ireturn, 1) := by decide +kernel
theorem cd_L_orderOfDates_0 : decode cb_L_orderOfDates 0 = .ok (.aload_n 0, 1) := by decide +kernel
theorem cd_L_orderOfDates_1 : decode cb_L_orderOfDates 1 = .ok (.getfield 28, 3) := by decide +kernel
theorem cd_L_orderOfDates_4 : decode cb_L_orderOfDates 4 = .ok (.iload_n 1, 1) := by decide +kernel
theorem cd_L_orderOfDates_5 : decode cb_L_orderOfDates 5 = .ok (.iaload, 1) := by decide +kernel
theorem cd_L_orderOfDates_6 : decode cb_L_orderOfDates 6 = .ok (.iconst (-1), 1) := by decide +kernel
theorem cd_L_orderOfDates_7 : decode cb_L_orderOfDates 7 = .ok (.if_icmp .ne 7, 3) := by decide +kernel
theorem cd_L_orderOfDates_10 : decode cb_L_orderOfDates 10 = .ok (.iconst 1, 1) := by decide +kernel
theorem cd_L_orderOfDates_11 : decode cb_L_orderOfDates 11 = .ok (.goto 4, 3) := by decide +kernel
theorem cd_L_orderOfDates_14 : decode cb_L_orderOfDates 14 = .ok (.iconst 0, 1) := by decide +kernel
theorem cd_L_orderOfDates_15 : decode cb_L_orderOfDates 15 = .ok (.istore_n 3, 1) := by decide +kernel
theorem cd_L_orderOfDates_16 : decode cb_L_orderOfDates 16 = .ok (.aload_n 0, 1) := by decide +kernel
theorem cd_L_orderOfDates_17 : decode cb_L_orderOfDates 17 = .ok (.getfield 28, 3) := by decide +kernel
theorem cd_L_orderOfDates_20 : decode cb_L_orderOfDates 20 = .ok (.iload_n 2, 1) := by decide +kernel
theorem cd_L_orderOfDates_21 : decode cb_L_orderOfDates 21 = .ok (.iaload, 1) := by decide +kernel
theorem cd_L_orderOfDates_22 : decode cb_L_orderOfDates 22 = .ok (.iconst (-1), 1) := by decide +kernel
theorem cd_L_orderOfDates_23 : decode cb_L_orderOfDates 23 = .ok (.if_icmp .ne 7, 3) := by decide +kernel
theorem cd_L_orderOfDates_26 : decode cb_L_orderOfDates 26 = .ok (.iconst 1, 1) := by decide +kernel
theorem cd_L_orderOfDates_27 : decode cb_L_orderOfDates 27 = .ok (.goto 4, 3) := by decide +kernel
theorem cd_L_orderOfDates_30 : decode cb_L_orderOfDates 30 = .ok (.iconst 0, 1) := by decide +kernel
theorem cd_L_orderOfDates_31 : decode cb_L_orderOfDates 31 = .ok (.istore 4, 2) := by decide +kernel
theorem cd_L_orderOfDates_33 : decode cb_L_orderOfDates 33 = .ok (.iload_n 3, 1) := by decide +kernel
theorem cd_L_orderOfDates_34 : decode cb_L_orderOfDates 34 = .ok (.ifCond .ne 8, 3) := by decide +kernel
theorem cd_L_orderOfDates_37 : decode cb_L_orderOfDates 37 = .ok (.iload 4, 2) := by decide +kernel
theorem cd_L_orderOfDates_39 : decode cb_L_orderOfDates 39 = .ok (.ifCond .eq 26, 3) := by decide +kernel
theorem cd_L_orderOfDates_42 : decode cb_L_orderOfDates 42 = .ok (.iload_n 3, 1) := by decide +kernel
theorem cd_L_orderOfDates_43 : decode cb_L_orderOfDates 43 = .ok (.ifCond .eq 7, 3) := by decide +kernel
theorem cd_L_orderOfDates_46 : decode cb_L_orderOfDates 46 = .ok (.iconst 1, 1) := by decide +kernel
theorem cd_L_orderOfDates_47 : decode cb_L_orderOfDates 47 = .ok (.goto 4, 3) := by decide +kernel
theorem cd_L_orderOfDates_50 : decode cb_L_orderOfDates 50 = .ok (.iconst 0, 1) := by decide +kernel
theorem cd_L_orderOfDates_51 : decode cb_L_orderOfDates 51 = .ok (.iload 4, 2) := by decide +kernel
theorem cd_L_orderOfDates_53 : decode cb_L_orderOfDates 53 = .ok (.ifCond .eq 7, 3) := by decide +kernel
theorem cd_L_orderOfDates_56 : decode cb_L_orderOfDates 56 = .ok (.iconst 1, 1) := by decide +kernel
theorem cd_L_orderOfDates_57 : decode cb_L_orderOfDates 57 = .ok (.goto 4, 3) := by decide +kernel
theorem cd_L_orderOfDates_60 : decode cb_L_orderOfDates 60 = .ok (.iconst 0, 1) := by decide +kernel
theorem cd_L_orderOfDates_61 : decode cb_L_orderOfDates 61 = .ok (.invokestatic 53, 3) := by decide +kernel
theorem cd_L_orderOfDates_64 : decode cb_L_orderOfDates 64 = .ok (.ireturn, 1) := by decide +kernel
theorem cd_L_orderOfDates_65 : decode cb_L_orderOfDates 65 = .ok (.aload_n 0, 1) := by decide +kernel
theorem cd_L_orderOfDates_66 : decode cb_L_orderOfDates 66 = .ok (.getfield 28, 3) := by decide +kernel
theorem cd_L_orderOfDates_69 : decode cb_L_orderOfDates 69 = .ok (.iload_n 1, 1) := by decide +kernel
theorem cd_L_orderOfDates_70 : decode cb_L_orderOfDates 70 = .ok (.iaload, 1) := by decide +kernel
theorem cd_L_orderOfDates_71 : decode cb_L_orderOfDates 71 = .ok (.aload_n 0, 1) := by decide +kernel
theorem cd_L_orderOfDates_72 : decode cb_L_orderOfDates 72 = .ok (.getfield 28, 3) := by decide +kernel
theorem cd_L_orderOfDates_75 : decode cb_L_orderOfDates 75 = .ok (.iload_n 2, 1) := by decide +kernel
theorem cd_L_orderOfDates_76 : decode cb_L_orderOfDates 76 = .ok (.iaload, 1) := by decide +kernel
theorem cd_L_orderOfDates_77 : decode cb_L_orderOfDates 77 = .ok (.if_icmp .eq 19, 3) := by decide +kernel
theorem cd_L_orderOfDates_80 : decode cb_L_orderOfDates 80 = .ok (.aload_n 0, 1) := by decide +kernel
theorem cd_L_orderOfDates_81 : decode cb_L_orderOfDates 81 = .ok (.getfield 28, 3) := by decide +kernel
theorem cd_L_orderOfDates_84 : decode cb_L_orderOfDates 84 = .ok (.iload_n 1, 1) := by decide +kernel
theorem cd_L_orderOfDates_85 : decode cb_L_orderOfDates 85 = .ok (.iaload, 1) := by decide +kernel
theorem cd_L_orderOfDates_86 : decode cb_L_orderOfDates 86 = .ok (.aload_n 0, 1) := by decide +kernel
theorem cd_L_orderOfDates_87 : decode cb_L_orderOfDates 87 = .ok (.getfield 28, 3) := by decide +kernel
theorem cd_L_orderOfDates_90 : decode cb_L_orderOfDates 90 = .ok (.iload_n 2, 1) := by decide +kernel
theorem cd_L_orderOfDates_91 : decode cb_L_orderOfDates 91 = .ok (.iaload, 1) := by decide +kernel
theorem cd_L_orderOfDates_92 : decode cb_L_orderOfDates 92 = .ok (.invokestatic 53, 3) := by decide +kernel
theorem cd_L_orderOfDates_95 : decode cb_L_orderOfDates 95 = .ok (.ireturn, 1) := by decide +kernel
theorem cd_L_orderOfDates_96 : decode cb_L_orderOfDates 96 = .ok (.aload_n 0, 1) := by decide +kernel
theorem cd_L_orderOfDates_97 : decode cb_L_orderOfDates 97 = .ok (.getfield 31, 3) := by decide +kernel
theorem cd_L_orderOfDates_100 : decode cb_L_orderOfDates 100 = .ok (.iload_n 1, 1) := by decide +kernel
theorem cd_L_orderOfDates_101 : decode cb_L_orderOfDates 101 = .ok (.iaload, 1) := by decide +kernel
theorem cd_L_orderOfDates_102 : decode cb_L_orderOfDates 102 = .ok (.aload_n 0, 1) := by decide +kernel
theorem cd_L_orderOfDates_103 : decode cb_L_orderOfDates 103 = .ok (.getfield 31, 3) := by decide +kernel
theorem cd_L_orderOfDates_106 : decode cb_L_orderOfDates 106 = .ok (.iload_n 2, 1) := by decide +kernel
theorem cd_L_orderOfDates_107 : decode cb_L_orderOfDates 107 = .ok (.iaload, 1) := by decide +kernel
theorem cd_L_orderOfDates_108 : decode cb_L_orderOfDates 108 = .ok (.if_icmp .eq 19, 3) := by decide +kernel
theorem cd_L_orderOfDates_111 : decode cb_L_orderOfDates 111 = .ok (.aload_n 0, 1) := by decide +kernel
theorem cd_L_orderOfDates_112 : decode cb_L_orderOfDates 112 = .ok (.getfield 31, 3) := by decide +kernel
theorem cd_L_orderOfDates_115 : decode cb_L_orderOfDates 115 = .ok (.iload_n 1, 1) := by decide +kernel
theorem cd_L_orderOfDates_116 : decode cb_L_orderOfDates 116 = .ok (.iaload, 1) := by decide +kernel
theorem cd_L_orderOfDates_117 : decode cb_L_orderOfDates 117 = .ok (.aload_n 0, 1) := by decide +kernel
theorem cd_L_orderOfDates_118 : decode cb_L_orderOfDates 118 = .ok (.getfield 31, 3) := by decide +kernel
theorem cd_L_orderOfDates_121 : decode cb_L_orderOfDates 121 = .ok (.iload_n 2, 1) := by decide +kernel
theorem cd_L_orderOfDates_122 : decode cb_L_orderOfDates 122 = .ok (.iaload, 1) := by decide +kernel
theorem cd_L_orderOfDates_123 : decode cb_L_orderOfDates 123 = .ok (.invokestatic 53, 3) := by decide +kernel
theorem cd_L_orderOfDates_126 : decode cb_L_orderOfDates 126 = .ok (.ireturn, 1) := by decide +kernel
theorem cd_L_orderOfDates_127 : decode cb_L_orderOfDates 127 = .ok (.aload_n 0, 1) := by decide +kernel
theorem cd_L_orderOfDates_128 : decode cb_L_orderOfDates 128 = .ok (.getfield 34, 3) := by decide +kernel
theorem cd_L_orderOfDates_131 : decode cb_L_orderOfDates 131 = .ok (.iload_n 1, 1) := by decide +kernel
theorem cd_L_orderOfDates_132 : decode cb_L_orderOfDates 132 = .ok (.iaload, 1) := by decide +kernel
theorem cd_L_orderOfDates_133 : decode cb_L_orderOfDates 133 = .ok (.aload_n 0, 1) := by decide +kernel
theorem cd_L_orderOfDates_134 : decode cb_L_orderOfDates 134 = .ok (.getfield 34, 3) := by decide +kernel
theorem cd_L_orderOfDates_137 : decode cb_L_orderOfDates 137 = .ok (.iload_n 2, 1) := by decide +kernel
theorem cd_L_orderOfDates_138 : decode cb_L_orderOfDates 138 = .ok (.iaload, 1) := by decide +kernel
theorem cd_L_orderOfDates_139 : decode cb_L_orderOfDates 139 = .ok (.invokestatic 53, 3) := by decide +kernel
theorem cd_L_orderOfDates_142 : decode cb_L_orderOfDates 142 = .ok (.ireturn, 1) := by decide +kernel
theorem cd_L_repeatsNumber_0 : decode cb_L_repeatsNumber 0 = .ok (.iconst 0, 1) := by decide +kernel
theorem cd_L_repeatsNumber_1 : decode cb_L_repeatsNumber 1 = .ok (.istore_n 2, 1) := by decide +kernel
theorem cd_L_repeatsNumber_2 : decode cb_L_repeatsNumber 2 = .ok (.iload_n 2, 1) := by decide +kernel
theorem cd_L_repeatsNumber_3 : decode cb_L_repeatsNumber 3 = .ok (.iload_n 1, 1) := by decide +kernel
theorem cd_L_repeatsNumber_4 : decode cb_L_repeatsNumber 4 = .ok (.if_icmp .ge 41, 3) := by decide +kernel
theorem cd_L_repeatsNumber_7 : decode cb_L_repeatsNumber 7 = .ok (.aload_n 0, 1) := by decide +kernel
theorem cd_L_repeatsNumber_8 : decode cb_L_repeatsNumber 8 = .ok (.getfield 22, 3) := by decide +kernel
theorem cd_L_repeatsNumber_11 : decode cb_L_repeatsNumber 11 = .ok (.iload_n 2, 1) := by decide +kernel
theorem cd_L_repeatsNumber_12 : decode cb_L_repeatsNumber 12 = .ok (.iaload, 1) := by decide +kernel
theorem cd_L_repeatsNumber_13 : decode cb_L_repeatsNumber 13 = .ok (.aload_n 0, 1) := by decide +kernel
theorem cd_L_repeatsNumber_14 : decode cb_L_repeatsNumber 14 = .ok (.getfield 22, 3) := by decide +kernel
theorem cd_L_repeatsNumber_17 : decode cb_L_repeatsNumber 17 = .ok (.iload_n 1, 1) := by decide +kernel
theorem cd_L_repeatsNumber_18 : decode cb_L_repeatsNumber 18 = .ok (.iaload, 1) := by decide +kernel
theorem cd_L_repeatsNumber_19 : decode cb_L_repeatsNumber 19 = .ok (.if_icmp .ne 20, 3) := by decide +kernel
theorem cd_L_repeatsNumber_22 : decode cb_L_repeatsNumber 22 = .ok (.aload_n 0, 1) := by decide +kernel
theorem cd_L_repeatsNumber_23 : decode cb_L_repeatsNumber 23 = .ok (.getfield 19, 3) := by decide +kernel
theorem cd_L_repeatsNumber_26 : decode cb_L_repeatsNumber 26 = .ok (.iload_n 2, 1) := by decide +kernel
theorem cd_L_repeatsNumber_27 : decode cb_L_repeatsNumber 27 = .ok (.iaload, 1) := by decide +kernel
theorem cd_L_repeatsNumber_28 : decode cb_L_repeatsNumber 28 = .ok (.aload_n 0, 1) := by decide +kernel
theorem cd_L_repeatsNumber_29 : decode cb_L_repeatsNumber 29 = .ok (.getfield 19, 3) := by decide +kernel
theorem cd_L_repeatsNumber_32 : decode cb_L_repeatsNumber 32 = .ok (.iload_n 1, 1) := by decide +kernel
theorem cd_L_repeatsNumber_33 : decode cb_L_repeatsNumber 33 = .ok (.iaload, 1) := by decide +kernel
theorem cd_L_repeatsNumber_34 : decode cb_L_repeatsNumber 34 = .ok (.if_icmp .ne 5, 3) := by decide +kernel
theorem cd_L_repeatsNumber_37 : decode cb_L_repeatsNumber 37 = .ok (.iconst 1, 1) := by decide +kernel
theorem cd_L_repeatsNumber_38 : decode cb_L_repeatsNumber 38 = .ok (.ireturn, 1) := by decide +kernel
theorem cd_L_repeatsNumber_39 : decode cb_L_repeatsNumber 39 = .ok (.iinc 2 1, 3) := by decide +kernel
theorem cd_L_repeatsNumber_42 : decode cb_L_repeatsNumber 42 = .ok (.goto (-40), 3) := by decide +kernel
theorem cd_L_repeatsNumber_45 : decode cb_L_repeatsNumber 45 = .ok (.iconst 0, 1) := by decide +kernel
theorem cd_L_repeatsNumber_46 : decode cb_L_repeatsNumber 46 = .ok (.ireturn, 1) := by decide +kernel
theorem cd_L_isWithin_0 : decode cb_L_isWithin 0 = .ok (.iload_n 1, 1) := by decide +kernel
theorem cd_L_isWithin_1 : decode cb_L_isWithin 1 = .ok (.istore_n 3, 1) := by decide +kernel
theorem cd_L_isWithin_2 : decode cb_L_isWithin 2 = .ok (.iconst 0, 1) := by decide +kernel
theorem cd_L_isWithin_3 : decode cb_L_isWithin 3 = .ok (.istore 4, 2) := by decide +kernel
theorem cd_L_isWithin_5 : decode cb_L_isWithin 5 = .ok (.iload 4, 2) := by decide +kernel
theorem cd_L_isWithin_7 : decode cb_L_isWithin 7 = .ok (.bipush 8, 2) := by decide +kernel
theorem cd_L_isWithin_9 : decode cb_L_isWithin 9 = .ok (.if_icmp .gt 31, 3) := by decide +kernel
theorem cd_L_isWithin_12 : decode cb_L_isWithin 12 = .ok (.aload_n 0, 1) := by decide +kernel
theorem cd_L_isWithin_13 : decode cb_L_isWithin 13 = .ok (.iload_n 3, 1) := by decide +kernel
theorem cd_L_isWithin_14 : decode cb_L_isWithin 14 = .ok (.invokevirtual 56, 3) := by decide +kernel
theorem cd_L_isWithin_17 : decode cb_L_isWithin 17 = .ok (.ifCond .eq 23, 3) := by decide +kernel
theorem cd_L_isWithin_20 : decode cb_L_isWithin 20 = .ok (.iload_n 3, 1) := by decide +kernel
theorem cd_L_isWithin_21 : decode cb_L_isWithin 21 = .ok (.iload_n 2, 1) := by decide +kernel
theorem cd_L_isWithin_22 : decode cb_L_isWithin 22 = .ok (.if_icmp .ne 5, 3) := by decide +kernel
theorem cd_L_isWithin_25 : decode cb_L_isWithin 25 = .ok (.iconst 1, 1) := by decide +kernel
theorem cd_L_isWithin_26 : decode cb_L_isWithin 26 = .ok (.ireturn, 1) := by decide +kernel
theorem cd_L_isWithin_27 : decode cb_L_isWithin 27 = .ok (.aload_n 0, 1) := by decide +kernel
theorem cd_L_isWithin_28 : decode cb_L_isWithin 28 = .ok (.getfield 22, 3) := by decide +kernel
theorem cd_L_isWithin_31 : decode cb_L_isWithin 31 = .ok (.iload_n 3, 1) := by decide +kernel
theorem cd_L_isWithin_32 : decode cb_L_isWithin 32 = .ok (.iaload, 1) := by decide +kernel
theorem cd_L_isWithin_33 : decode cb_L_isWithin 33 = .ok (.istore_n 3, 1) := by decide +kernel
theorem cd_L_isWithin_34 : decode cb_L_isWithin 34 = .ok (.iinc 4 1, 3) := by decide +kernel
theorem cd_L_isWithin_37 : decode cb_L_isWithin 37 = .ok (.goto (-32), 3) := by decide +kernel
theorem cd_L_isWithin_40 : decode cb_L_isWithin 40 = .ok (.iconst 0, 1) := by decide +kernel
theorem cd_L_isWithin_41 : decode cb_L_isWithin 41 = .ok (.ireturn, 1) := by decide +kernel
theorem cd_L_mayHang_0 : decode cb_L_mayHang 0 = .ok (.aload_n 0, 1) := by decide +kernel
theorem cd_L_mayHang_1 : decode cb_L_mayHang 1 = .ok (.iload_n 2, 1) := by decide +kernel
theorem cd_L_mayHang_2 : decode cb_L_mayHang 2 = .ok (.iload_n 1, 1) := by decide +kernel
theorem cd_L_mayHang_3 : decode cb_L_mayHang 3 = .ok (.invokevirtual 60, 3) := by decide +kernel
theorem cd_L_mayHang_6 : decode cb_L_mayHang 6 = .ok (.ifCond .ne 28, 3) := by decide +kernel
theorem cd_L_mayHang_9 : decode cb_L_mayHang 9 = .ok (.aload_n 0, 1) := by decide +kernel
theorem cd_L_mayHang_10 : decode cb_L_mayHang 10 = .ok (.getfield 15, 3) := by decide +kernel
theorem cd_L_mayHang_13 : decode cb_L_mayHang 13 = .ok (.iload_n 2, 1) := by decide +kernel
theorem cd_L_mayHang_14 : decode cb_L_mayHang 14 = .ok (.iaload, 1) := by decide +kernel
theorem cd_L_mayHang_15 : decode cb_L_mayHang 15 = .ok (.aload_n 0, 1) := by decide +kernel
theorem cd_L_mayHang_16 : decode cb_L_mayHang 16 = .ok (.getfield 15, 3) := by decide +kernel
theorem cd_L_mayHang_19 : decode cb_L_mayHang 19 = .ok (.iload_n 1, 1) := by decide +kernel
theorem cd_L_mayHang_20 : decode cb_L_mayHang 20 = .ok (.iaload, 1) := by decide +kernel
theorem cd_L_mayHang_21 : decode cb_L_mayHang 21 = .ok (.if_icmp .gt 13, 3) := by decide +kernel
theorem cd_L_mayHang_24 : decode cb_L_mayHang 24 = .ok (.aload_n 0, 1) := by decide +kernel
theorem cd_L_mayHang_25 : decode cb_L_mayHang 25 = .ok (.getfield 15, 3) := by decide +kernel
theorem cd_L_mayHang_28 : decode cb_L_mayHang 28 = .ok (.iload_n 2, 1) := by decide +kernel
theorem cd_L_mayHang_29 : decode cb_L_mayHang 29 = .ok (.iaload, 1) := by decide +kernel
theorem cd_L_mayHang_30 : decode cb_L_mayHang 30 = .ok (.iconst 3, 1) := by decide +kernel
theorem cd_L_mayHang_31 : decode cb_L_mayHang 31 = .ok (.if_icmp .ne 5, 3) := by decide +kernel
theorem cd_L_mayHang_34 : decode cb_L_mayHang 34 = .ok (.iconst 0, 1) := by decide +kernel
theorem cd_L_mayHang_35 : decode cb_L_mayHang 35 = .ok (.ireturn, 1) := by decide +kernel
theorem cd_L_mayHang_36 : decode cb_L_mayHang 36 = .ok (.aload_n 0, 1) := by decide +kernel
theorem cd_L_mayHang_37 : decode cb_L_mayHang 37 = .ok (.iload_n 1, 1) := by decide +kernel
theorem cd_L_mayHang_38 : decode cb_L_mayHang 38 = .ok (.invokevirtual 64, 3) := by decide +kernel
theorem cd_L_mayHang_41 : decode cb_L_mayHang 41 = .ok (.aload_n 0, 1) := by decide +kernel
theorem cd_L_mayHang_42 : decode cb_L_mayHang 42 = .ok (.iload_n 1, 1) := by decide +kernel
theorem cd_L_mayHang_43 : decode cb_L_mayHang 43 = .ok (.iload_n 2, 1) := by decide +kernel
theorem cd_L_mayHang_44 : decode cb_L_mayHang 44 = .ok (.invokevirtual 68, 3) := by decide +kernel
theorem cd_L_mayHang_47 : decode cb_L_mayHang 47 = .ok (.iadd, 1) := by decide +kernel
theorem cd_L_mayHang_48 : decode cb_L_mayHang 48 = .ok (.bipush 8, 2) := by decide +kernel
theorem cd_L_mayHang_50 : decode cb_L_mayHang 50 = .ok (.if_icmp .gt 7, 3) := by decide +kernel
theorem cd_L_mayHang_53 : decode cb_L_mayHang 53 = .ok (.iconst 1, 1) := by decide +kernel
theorem cd_L_mayHang_54 : decode cb_L_mayHang 54 = .ok (.goto 4, 3) := by decide +kernel
theorem cd_L_mayHang_57 : decode cb_L_mayHang 57 = .ok (.iconst 0, 1) := by decide +kernel
theorem cd_L_mayHang_58 : decode cb_L_mayHang 58 = .ok (.ireturn, 1) := by decide +kernel
theorem cd_L_hang_0 : decode cb_L_hang 0 = .ok (.aload_n 0, 1) := by decide +kernel
theorem cd_L_hang_1 : decode cb_L_hang 1 = .ok (.iload_n 1, 1) := by decide +kernel
theorem cd_L_hang_2 : decode cb_L_hang 2 = .ok (.iload_n 2, 1) := by decide +kernel
theorem cd_L_hang_3 : decode cb_L_hang 3 = .ok (.invokevirtual 68, 3) := by decide +kernel
theorem cd_L_hang_6 : decode cb_L_hang 6 = .ok (.istore_n 3, 1) := by decide +kernel
theorem cd_L_hang_7 : decode cb_L_hang 7 = .ok (.iconst 0, 1) := by decide +kernel
theorem cd_L_hang_8 : decode cb_L_hang 8 = .ok (.istore 4, 2) := by decide +kernel
theorem cd_L_hang_10 : decode cb_L_hang 10 = .ok (.iload 4, 2) := by decide +kernel
theorem cd_L_hang_12 : decode cb_L_hang 12 = .ok (.aload_n 0, 1) := by decide +kernel
theorem cd_L_hang_13 : decode cb_L_hang 13 = .ok (.getfield 9, 3) := by decide +kernel
theorem cd_L_hang_16 : decode cb_L_hang 16 = .ok (.if_icmp .ge 30, 3) := by decide +kernel
theorem cd_L_hang_19 : decode cb_L_hang 19 = .ok (.aload_n 0, 1) := by decide +kernel
theorem cd_L_hang_20 : decode cb_L_hang 20 = .ok (.iload 4, 2) := by decide +kernel
theorem cd_L_hang_22 : decode cb_L_hang 22 = .ok (.iload_n 1, 1) := by decide +kernel
theorem cd_L_hang_23 : decode cb_L_hang 23 = .ok (.invokevirtual 60, 3) := by decide +kernel
theorem cd_L_hang_26 : decode cb_L_hang 26 = .ok (.ifCond .eq 14, 3) := by decide +kernel
theorem cd_L_hang_29 : decode cb_L_hang 29 = .ok (.aload_n 0, 1) := by decide +kernel
theorem cd_L_hang_30 : decode cb_L_hang 30 = .ok (.getfield 25, 3) := by decide +kernel
theorem cd_L_hang_33 : decode cb_L_hang 33 = .ok (.iload 4, 2) := by decide +kernel
theorem cd_L_hang_35 : decode cb_L_hang 35 = .ok (.dup2, 1) := by decide +kernel
theorem cd_L_hang_36 : decode cb_L_hang 36 = .ok (.iaload, 1) := by decide +kernel
theorem cd_L_hang_37 : decode cb_L_hang 37 = .ok (.iload_n 3, 1) := by decide +kernel
theorem cd_L_hang_38 : decode cb_L_hang 38 = .ok (.iadd, 1) := by decide +kernel
theorem cd_L_hang_39 : decode cb_L_hang 39 = .ok (.iastore, 1) := by decide +kernel
theorem cd_L_hang_40 : decode cb_L_hang 40 = .ok (.iinc 4 1, 3) := by decide +kernel
theorem cd_L_hang_43 : decode cb_L_hang 43 = .ok (.goto (-33), 3) := by decide +kernel
theorem cd_L_hang_46 : decode cb_L_hang 46 = .ok (.aload_n 0, 1) := by decide +kernel
theorem cd_L_hang_47 : decode cb_L_hang 47 = .ok (.getfield 22, 3) := by decide +kernel
theorem cd_L_hang_50 : decode cb_L_hang 50 = .ok (.iload_n 1, 1) := by decide +kernel
theorem cd_L_hang_51 : decode cb_L_hang 51 = .ok (.iload_n 2, 1) := by decide +kernel
theorem cd_L_hang_52 : decode cb_L_hang 52 = .ok (.iastore, 1) := by decide +kernel
theorem cd_L_hang_53 : decode cb_L_hang 53 = .ok (.return_, 1) := by decide +kernel
theorem cd_L_deeperUnder_0 : decode cb_L_deeperUnder 0 = .ok (.aload_n 0, 1) := by decide +kernel
theorem cd_L_deeperUnder_1 : decode cb_L_deeperUnder 1 = .ok (.getfield 25, 3) := by decide +kernel
theorem cd_L_deeperUnder_4 : decode cb_L_deeperUnder 4 = .ok (.iload_n 2, 1) := by decide +kernel
theorem cd_L_deeperUnder_5 : decode cb_L_deeperUnder 5 = .ok (.iaload, 1) := by decide +kernel
theorem cd_L_deeperUnder_6 : decode cb_L_deeperUnder 6 = .ok (.iconst 1, 1) := by decide +kernel
theorem cd_L_deeperUnder_7 : decode cb_L_deeperUnder 7 = .ok (.iadd, 1) := by decide +kernel
theorem cd_L_deeperUnder_8 : decode cb_L_deeperUnder 8 = .ok (.aload_n 0, 1) := by decide +kernel
theorem cd_L_deeperUnder_9 : decode cb_L_deeperUnder 9 = .ok (.getfield 25, 3) := by decide +kernel
theorem cd_L_deeperUnder_12 : decode cb_L_deeperUnder 12 = .ok (.iload_n 1, 1) := by decide +kernel
theorem cd_L_deeperUnder_13 : decode cb_L_deeperUnder 13 = .ok (.iaload, 1) := by decide +kernel
theorem cd_L_deeperUnder_14 : decode cb_L_deeperUnder 14 = .ok (.isub, 1) := by decide +kernel
theorem cd_L_deeperUnder_15 : decode cb_L_deeperUnder 15 = .ok (.ireturn, 1) := by decide +kernel
theorem cd_L_deepestWithin_0 : decode cb_L_deepestWithin 0 = .ok (.iconst 0, 1) := by decide +kernel
theorem cd_L_deepestWithin_1 : decode cb_L_deepestWithin 1 = .ok (.istore_n 2, 1) := by decide +kernel
theorem cd_L_deepestWithin_2 : decode cb_L_deepestWithin 2 = .ok (.iconst 0, 1) := by decide +kernel
theorem cd_L_deepestWithin_3 : decode cb_L_deepestWithin 3 = .ok (.istore_n 3, 1) := by decide +kernel
theorem cd_L_deepestWithin_4 : decode cb_L_deepestWithin 4 = .ok (.iload_n 3, 1) := by decide +kernel
theorem cd_L_deepestWithin_5 : decode cb_L_deepestWithin 5 = .ok (.aload_n 0, 1) := by decide +kernel
theorem cd_L_deepestWithin_6 : decode cb_L_deepestWithin 6 = .ok (.getfield 9, 3) := by decide +kernel
theorem cd_L_deepestWithin_9 : decode cb_L_deepestWithin 9 = .ok (.if_icmp .ge 29, 3) := by decide +kernel
theorem cd_L_deepestWithin_12 : decode cb_L_deepestWithin 12 = .ok (.aload_n 0, 1) := by decide +kernel
theorem cd_L_deepestWithin_13 : decode cb_L_deepestWithin 13 = .ok (.iload_n 3, 1) := by decide +kernel
theorem cd_L_deepestWithin_14 : decode cb_L_deepestWithin 14 = .ok (.iload_n 1, 1) := by decide +kernel
theorem cd_L_deepestWithin_15 : decode cb_L_deepestWithin 15 = .ok (.invokevirtual 60, 3) := by decide +kernel
theorem cd_L_deepestWithin_18 : decode cb_L_deepestWithin 18 = .ok (.ifCond .eq 14, 3) := by decide +kernel
theorem cd_L_deepestWithin_21 : decode cb_L_deepestWithin 21 = .ok (.iload_n 2, 1) := by decide +kernel
theorem cd_L_deepestWithin_22 : decode cb_L_deepestWithin 22 = .ok (.aload_n 0, 1) := by decide +kernel
theorem cd_L_deepestWithin_23 : decode cb_L_deepestWithin 23 = .ok (.getfield 25, 3) := by decide +kernel
theorem cd_L_deepestWithin_26 : decode cb_L_deepestWithin 26 = .ok (.iload_n 3, 1) := by decide +kernel
theorem cd_L_deepestWithin_27 : decode cb_L_deepestWithin 27 = .ok (.iaload, 1) := by decide +kernel
theorem cd_L_deepestWithin_28 : decode cb_L_deepestWithin 28 = .ok (.invokestatic 71, 3) := by decide +kernel
theorem cd_L_deepestWithin_31 : decode cb_L_deepestWithin 31 = .ok (.istore_n 2, 1) := by decide +kernel
theorem cd_L_deepestWithin_32 : decode cb_L_deepestWithin 32 = .ok (.iinc 3 1, 3) := by decide +kernel
theorem cd_L_deepestWithin_35 : decode cb_L_deepestWithin 35 = .ok (.goto (-31), 3) := by decide +kernel
theorem cd_L_deepestWithin_38 : decode cb_L_deepestWithin 38 = .ok (.iload_n 2, 1) := by decide +kernel
theorem cd_L_deepestWithin_39 : decode cb_L_deepestWithin 39 = .ok (.ireturn, 1) := by decide +kernel
theorem cd_L_nextUnder_0 : decode cb_L_nextUnder 0 = .ok (.iconst (-1), 1) := by decide +kernel
theorem cd_L_nextUnder_1 : decode cb_L_nextUnder 1 = .ok (.istore_n 3, 1) := by decide +kernel
theorem cd_L_nextUnder_2 : decode cb_L_nextUnder 2 = .ok (.iconst 0, 1) := by decide +kernel
theorem cd_L_nextUnder_3 : decode cb_L_nextUnder 3 = .ok (.istore 4, 2) := by decide +kernel
theorem cd_L_nextUnder_5 : decode cb_L_nextUnder 5 = .ok (.iload 4, 2) := by decide +kernel
theorem cd_L_nextUnder_7 : decode cb_L_nextUnder 7 = .ok (.aload_n 0, 1) := by decide +kernel
theorem cd_L_nextUnder_8 : decode cb_L_nextUnder 8 = .ok (.getfield 9, 3) := by decide +kernel
theorem cd_L_nextUnder_11 : decode cb_L_nextUnder 11 = .ok (.if_icmp .ge 53, 3) := by decide +kernel
theorem cd_L_nextUnder_14 : decode cb_L_nextUnder 14 = .ok (.aload_n 0, 1) := by decide +kernel
theorem cd_L_nextUnder_15 : decode cb_L_nextUnder 15 = .ok (.getfield 22, 3) := by decide +kernel
theorem cd_L_nextUnder_18 : decode cb_L_nextUnder 18 = .ok (.iload 4, 2) := by decide +kernel
theorem cd_L_nextUnder_20 : decode cb_L_nextUnder 20 = .ok (.iaload, 1) := by decide +kernel
theorem cd_L_nextUnder_21 : decode cb_L_nextUnder 21 = .ok (.iload_n 1, 1) := by decide +kernel
theorem cd_L_nextUnder_22 : decode cb_L_nextUnder 22 = .ok (.if_icmp .ne 36, 3) := by decide +kernel
theorem cd_L_nextUnder_25 : decode cb_L_nextUnder 25 = .ok (.iload_n 2, 1) := by decide +kernel
theorem cd_L_nextUnder_26 : decode cb_L_nextUnder 26 = .ok (.iconst (-1), 1) := by decide +kernel
theorem cd_L_nextUnder_27 : decode cb_L_nextUnder 27 = .ok (.if_icmp .eq 13, 3) := by decide +kernel
theorem cd_L_nextUnder_30 : decode cb_L_nextUnder 30 = .ok (.aload_n 0, 1) := by decide +kernel
theorem cd_L_nextUnder_31 : decode cb_L_nextUnder 31 = .ok (.iload 4, 2) := by decide +kernel
theorem cd_L_nextUnder_33 : decode cb_L_nextUnder 33 = .ok (.iload_n 2, 1) := by decide +kernel
theorem cd_L_nextUnder_34 : decode cb_L_nextUnder 34 = .ok (.invokevirtual 76, 3) := by decide +kernel
theorem cd_L_nextUnder_37 : decode cb_L_nextUnder 37 = .ok (.ifCond .eq 21, 3) := by decide +kernel
theorem cd_L_nextUnder_40 : decode cb_L_nextUnder 40 = .ok (.iload_n 3, 1) := by decide +kernel
theorem cd_L_nextUnder_41 : decode cb_L_nextUnder 41 = .ok (.iconst (-1), 1) := by decide +kernel
theorem cd_L_nextUnder_42 : decode cb_L_nextUnder 42 = .ok (.if_icmp .eq 13, 3) := by decide +kernel
theorem cd_L_nextUnder_45 : decode cb_L_nextUnder 45 = .ok (.aload_n 0, 1) := by decide +kernel
theorem cd_L_nextUnder_46 : decode cb_L_nextUnder 46 = .ok (.iload_n 3, 1) := by decide +kernel
theorem cd_L_nextUnder_47 : decode cb_L_nextUnder 47 = .ok (.iload 4, 2) := by decide +kernel
theorem cd_L_nextUnder_49 : decode cb_L_nextUnder 49 = .ok (.invokevirtual 76, 3) := by decide +kernel
theorem cd_L_nextUnder_52 : decode cb_L_nextUnder 52 = .ok (.ifCond .eq 6, 3) := by decide +kernel
theorem cd_L_nextUnder_55 : decode cb_L_nextUnder 55 = .ok (.iload 4, 2) := by decide +kernel
theorem cd_L_nextUnder_57 : decode cb_L_nextUnder 57 = .ok (.istore_n 3, 1) := by decide +kernel
theorem cd_L_nextUnder_58 : decode cb_L_nextUnder 58 = .ok (.iinc 4 1, 3) := by decide +kernel
theorem cd_L_nextUnder_61 : decode cb_L_nextUnder 61 = .ok (.goto (-56), 3) := by decide +kernel
theorem cd_L_nextUnder_64 : decode cb_L_nextUnder 64 = .ok (.iload_n 3, 1) := by decide +kernel
theorem cd_L_nextUnder_65 : decode cb_L_nextUnder 65 = .ok (.ireturn, 1) := by decide +kernel
theorem cd_L_isBehind_0 : decode cb_L_isBehind 0 = .ok (.aload_n 0, 1) := by decide +kernel
theorem cd_L_isBehind_1 : decode cb_L_isBehind 1 = .ok (.getfield 19, 3) := by decide +kernel
theorem cd_L_isBehind_4 : decode cb_L_isBehind 4 = .ok (.iload_n 1, 1) := by decide +kernel
theorem cd_L_isBehind_5 : decode cb_L_isBehind 5 = .ok (.iaload, 1) := by decide +kernel
theorem cd_L_isBehind_6 : decode cb_L_isBehind 6 = .ok (.aload_n 0, 1) := by decide +kernel
theorem cd_L_isBehind_7 : decode cb_L_isBehind 7 = .ok (.getfield 19, 3) := by decide +kernel
theorem cd_L_isBehind_10 : decode cb_L_isBehind 10 = .ok (.iload_n 2, 1) := by decide +kernel
theorem cd_L_isBehind_11 : decode cb_L_isBehind 11 = .ok (.iaload, 1) := by decide +kernel
theorem cd_L_isBehind_12 : decode cb_L_isBehind 12 = .ok (.if_icmp .eq 24, 3) := by decide +kernel
theorem cd_L_isBehind_15 : decode cb_L_isBehind 15 = .ok (.aload_n 0, 1) := by decide +kernel
theorem cd_L_isBehind_16 : decode cb_L_isBehind 16 = .ok (.getfield 19, 3) := by decide +kernel
theorem cd_L_isBehind_19 : decode cb_L_isBehind 19 = .ok (.iload_n 1, 1) := by decide +kernel
theorem cd_L_isBehind_20 : decode cb_L_isBehind 20 = .ok (.iaload, 1) := by decide +kernel
theorem cd_L_isBehind_21 : decode cb_L_isBehind 21 = .ok (.aload_n 0, 1) := by decide +kernel
theorem cd_L_isBehind_22 : decode cb_L_isBehind 22 = .ok (.getfield 19, 3) := by decide +kernel
theorem cd_L_isBehind_25 : decode cb_L_isBehind 25 = .ok (.iload_n 2, 1) := by decide +kernel
theorem cd_L_isBehind_26 : decode cb_L_isBehind 26 = .ok (.iaload, 1) := by decide +kernel
theorem cd_L_isBehind_27 : decode cb_L_isBehind 27 = .ok (.if_icmp .le 7, 3) := by decide +kernel
theorem cd_L_isBehind_30 : decode cb_L_isBehind 30 = .ok (.iconst 1, 1) := by decide +kernel
theorem cd_L_isBehind_31 : decode cb_L_isBehind 31 = .ok (.goto 4, 3) := by decide +kernel
theorem cd_L_isBehind_34 : decode cb_L_isBehind 34 = .ok (.iconst 0, 1) := by decide +kernel
theorem cd_L_isBehind_35 : decode cb_L_isBehind 35 = .ok (.ireturn, 1) := by decide +kernel
theorem cd_L_isBehind_36 : decode cb_L_isBehind 36 = .ok (.iload_n 1, 1) := by decide +kernel
theorem cd_L_isBehind_37 : decode cb_L_isBehind 37 = .ok (.iload_n 2, 1) := by decide +kernel
theorem cd_L_isBehind_38 : decode cb_L_isBehind 38 = .ok (.if_icmp .le 7, 3) := by decide +kernel
theorem cd_L_isBehind_41 : decode cb_L_isBehind 41 = .ok (.iconst 1, 1) := by decide +kernel
theorem cd_L_isBehind_42 : decode cb_L_isBehind 42 = .ok (.goto 4, 3) := by decide +kernel
theorem cd_L_isBehind_45 : decode cb_L_isBehind 45 = .ok (.iconst 0, 1) := by decide +kernel
theorem cd_L_isBehind_46 : decode cb_L_isBehind 46 = .ok (.ireturn, 1) := by decide +kernel
theorem cd_L_firstWithPathOf_0 : decode cb_L_firstWithPathOf 0 = .ok (.iconst 0, 1) := by decide +kernel
theorem cd_L_firstWithPathOf_1 : decode cb_L_firstWithPathOf 1 = .ok (.istore_n 3, 1) := by decide +kernel
theorem cd_L_firstWithPathOf_2 : decode cb_L_firstWithPathOf 2 = .ok (.iload_n 3, 1) := by decide +kernel
theorem cd_L_firstWithPathOf_3 : decode cb_L_firstWithPathOf 3 = .ok (.aload_n 0, 1) := by decide +kernel
theorem cd_L_firstWithPathOf_4 : decode cb_L_firstWithPathOf 4 = .ok (.getfield 9, 3) := by decide +kernel
theorem cd_L_firstWithPathOf_7 : decode cb_L_firstWithPathOf 7 = .ok (.if_icmp .ge 21, 3) := by decide +kernel
theorem cd_L_firstWithPathOf_10 : decode cb_L_firstWithPathOf 10 = .ok (.aload_n 0, 1) := by decide +kernel
theorem cd_L_firstWithPathOf_11 : decode cb_L_firstWithPathOf 11 = .ok (.iload_n 3, 1) := by decide +kernel
theorem cd_L_firstWithPathOf_12 : decode cb_L_firstWithPathOf 12 = .ok (.aload_n 1, 1) := by decide +kernel
theorem cd_L_firstWithPathOf_13 : decode cb_L_firstWithPathOf 13 = .ok (.iload_n 2, 1) := by decide +kernel
theorem cd_L_firstWithPathOf_14 : decode cb_L_firstWithPathOf 14 = .ok (.invokevirtual 79, 3) := by decide +kernel
theorem cd_L_firstWithPathOf_17 : decode cb_L_firstWithPathOf 17 = .ok (.ifCond .eq 5, 3) := by decide +kernel
theorem cd_L_firstWithPathOf_20 : decode cb_L_firstWithPathOf 20 = .ok (.iload_n 3, 1) := by decide +kernel
theorem cd_L_firstWithPathOf_21 : decode cb_L_firstWithPathOf 21 = .ok (.ireturn, 1) := by decide +kernel
theorem cd_L_firstWithPathOf_22 : decode cb_L_firstWithPathOf 22 = .ok (.iinc 3 1, 3) := by decide +kernel
theorem cd_L_firstWithPathOf_25 : decode cb_L_firstWithPathOf 25 = .ok (.goto (-23), 3) := by decide +kernel
theorem cd_L_firstWithPathOf_28 : decode cb_L_firstWithPathOf 28 = .ok (.iconst (-1), 1) := by decide +kernel
theorem cd_L_firstWithPathOf_29 : decode cb_L_firstWithPathOf 29 = .ok (.ireturn, 1) := by decide +kernel
theorem cd_L_hasPathOf_0 : decode cb_L_hasPathOf 0 = .ok (.iload_n 1, 1) := by decide +kernel
theorem cd_L_hasPathOf_1 : decode cb_L_hasPathOf 1 = .ok (.istore 4, 2) := by decide +kernel
theorem cd_L_hasPathOf_3 : decode cb_L_hasPathOf 3 = .ok (.iload_n 3, 1) := by decide +kernel
theorem cd_L_hasPathOf_4 : decode cb_L_hasPathOf 4 = .ok (.istore 5, 2) := by decide +kernel
theorem cd_L_hasPathOf_6 : decode cb_L_hasPathOf 6 = .ok (.iconst 0, 1) := by decide +kernel
theorem cd_L_hasPathOf_7 : decode cb_L_hasPathOf 7 = .ok (.istore 6, 2) := by decide +kernel
theorem cd_L_hasPathOf_9 : decode cb_L_hasPathOf 9 = .ok (.iload 6, 2) := by decide +kernel
theorem cd_L_hasPathOf_11 : decode cb_L_hasPathOf 11 = .ok (.bipush 8, 2) := by decide +kernel
theorem cd_L_hasPathOf_13 : decode cb_L_hasPathOf 13 = .ok (.if_icmp .gt 64, 3) := by decide +kernel
theorem cd_L_hasPathOf_16 : decode cb_L_hasPathOf 16 = .ok (.aload_n 0, 1) := by decide +kernel
theorem cd_L_hasPathOf_17 : decode cb_L_hasPathOf 17 = .ok (.iload 4, 2) := by decide +kernel
theorem cd_L_hasPathOf_19 : decode cb_L_hasPathOf 19 = .ok (.invokevirtual 56, 3) := by decide +kernel
theorem cd_L_hasPathOf_22 : decode cb_L_hasPathOf 22 = .ok (.ifCond .eq 55, 3) := by decide +kernel
theorem cd_L_hasPathOf_25 : decode cb_L_hasPathOf 25 = .ok (.aload_n 2, 1) := by decide +kernel
theorem cd_L_hasPathOf_26 : decode cb_L_hasPathOf 26 = .ok (.iload 5, 2) := by decide +kernel
theorem cd_L_hasPathOf_28 : decode cb_L_hasPathOf 28 = .ok (.invokevirtual 56, 3) := by decide +kernel
theorem cd_L_hasPathOf_31 : decode cb_L_hasPathOf 31 = .ok (.ifCond .eq 46, 3) := by decide +kernel
theorem cd_L_hasPathOf_34 : decode cb_L_hasPathOf 34 = .ok (.aload_n 0, 1) := by decide +kernel
theorem cd_L_hasPathOf_35 : decode cb_L_hasPathOf 35 = .ok (.getfield 19, 3) := by decide +kernel
theorem cd_L_hasPathOf_38 : decode cb_L_hasPathOf 38 = .ok (.iload 4, 2) := by decide +kernel
theorem cd_L_hasPathOf_40 : decode cb_L_hasPathOf 40 = .ok (.iaload, 1) := by decide +kernel
theorem cd_L_hasPathOf_41 : decode cb_L_hasPathOf 41 = .ok (.aload_n 2, 1) := by decide +kernel
theorem cd_L_hasPathOf_42 : decode cb_L_hasPathOf 42 = .ok (.getfield 19, 3) := by decide +kernel
theorem cd_L_hasPathOf_45 : decode cb_L_hasPathOf 45 = .ok (.iload 5, 2) := by decide +kernel
theorem cd_L_hasPathOf_47 : decode cb_L_hasPathOf 47 = .ok (.iaload, 1) := by decide +kernel
theorem cd_L_hasPathOf_48 : decode cb_L_hasPathOf 48 = .ok (.if_icmp .eq 5, 3) := by decide +kernel
theorem cd_L_hasPathOf_51 : decode cb_L_hasPathOf 51 = .ok (.iconst 0, 1) := by decide +kernel
theorem cd_L_hasPathOf_52 : decode cb_L_hasPathOf 52 = .ok (.ireturn, 1) := by decide +kernel
theorem cd_L_hasPathOf_53 : decode cb_L_hasPathOf 53 = .ok (.aload_n 0, 1) := by decide +kernel
theorem cd_L_hasPathOf_54 : decode cb_L_hasPathOf 54 = .ok (.getfield 22, 3) := by decide +kernel
theorem cd_L_hasPathOf_57 : decode cb_L_hasPathOf 57 = .ok (.iload 4, 2) := by decide +kernel
theorem cd_L_hasPathOf_59 : decode cb_L_hasPathOf 59 = .ok (.iaload, 1) := by decide +kernel
theorem cd_L_hasPathOf_60 : decode cb_L_hasPathOf 60 = .ok (.istore 4, 2) := by decide +kernel
theorem cd_L_hasPathOf_62 : decode cb_L_hasPathOf 62 = .ok (.aload_n 2, 1) := by decide +kernel
theorem cd_L_hasPathOf_63 : decode cb_L_hasPathOf 63 = .ok (.getfield 22, 3) := by decide +kernel
theorem cd_L_hasPathOf_66 : decode cb_L_hasPathOf 66 = .ok (.iload 5, 2) := by decide +kernel
theorem cd_L_hasPathOf_68 : decode cb_L_hasPathOf 68 = .ok (.iaload, 1) := by decide +kernel
theorem cd_L_hasPathOf_69 : decode cb_L_hasPathOf 69 = .ok (.istore 5, 2) := by decide +kernel
theorem cd_L_hasPathOf_71 : decode cb_L_hasPathOf 71 = .ok (.iinc 6 1, 3) := by decide +kernel
theorem cd_L_hasPathOf_74 : decode cb_L_hasPathOf 74 = .ok (.goto (-65), 3) := by decide +kernel
theorem cd_L_hasPathOf_77 : decode cb_L_hasPathOf 77 = .ok (.aload_n 0, 1) := by decide +kernel
theorem cd_L_hasPathOf_78 : decode cb_L_hasPathOf 78 = .ok (.iload 4, 2) := by decide +kernel
theorem cd_L_hasPathOf_80 : decode cb_L_hasPathOf 80 = .ok (.invokevirtual 56, 3) := by decide +kernel
theorem cd_L_hasPathOf_83 : decode cb_L_hasPathOf 83 = .ok (.ifCond .ne 16, 3) := by decide +kernel
theorem cd_L_hasPathOf_86 : decode cb_L_hasPathOf 86 = .ok (.aload_n 2, 1) := by decide +kernel
theorem cd_L_hasPathOf_87 : decode cb_L_hasPathOf 87 = .ok (.iload 5, 2) := by decide +kernel
theorem cd_L_hasPathOf_89 : decode cb_L_hasPathOf 89 = .ok (.invokevirtual 56, 3) := by decide +kernel
theorem cd_L_hasPathOf_92 : decode cb_L_hasPathOf 92 = .ok (.ifCond .ne 7, 3) := by decide +kernel
theorem cd_L_hasPathOf_95 : decode cb_L_hasPathOf 95 = .ok (.iconst 1, 1) := by decide +kernel
theorem cd_L_hasPathOf_96 : decode cb_L_hasPathOf 96 = .ok (.goto 4, 3) := by decide +kernel
theorem cd_L_hasPathOf_99 : decode cb_L_hasPathOf 99 = .ok (.iconst 0, 1) := by decide +kernel
theorem cd_L_hasPathOf_100 : decode cb_L_hasPathOf 100 = .ok (.ireturn, 1) := by decide +kernel
theorem cd_L_differenceBits_0 : decode cb_L_differenceBits 0 = .ok (.iconst 0, 1) := by decide +kernel
theorem cd_L_differenceBits_1 : decode cb_L_differenceBits 1 = .ok (.istore 4, 2) := by decide +kernel
theorem cd_L_differenceBits_3 : decode cb_L_differenceBits 3 = .ok (.aload_n 0, 1) := by decide +kernel
theorem cd_L_differenceBits_4 : decode cb_L_differenceBits 4 = .ok (.iload_n 1, 1) := by decide +kernel
theorem cd_L_differenceBits_5 : decode cb_L_differenceBits 5 = .ok (.aload_n 2, 1) := by decide +kernel
theorem cd_L_differenceBits_6 : decode cb_L_differenceBits 6 = .ok (.iload_n 3, 1) := by decide +kernel
theorem cd_L_differenceBits_7 : decode cb_L_differenceBits 7 = .ok (.invokevirtual 83, 3) := by decide +kernel
theorem cd_L_differenceBits_10 : decode cb_L_differenceBits 10 = .ok (.ifCond .ne 9, 3) := by decide +kernel
theorem cd_L_differenceBits_13 : decode cb_L_differenceBits 13 = .ok (.iload 4, 2) := by decide +kernel
theorem cd_L_differenceBits_15 : decode cb_L_differenceBits 15 = .ok (.iconst 1, 1) := by decide +kernel
theorem cd_L_differenceBits_16 : decode cb_L_differenceBits 16 = .ok (.ior, 1) := by decide +kernel
theorem cd_L_differenceBits_17 : decode cb_L_differenceBits 17 = .ok (.istore 4, 2) := by decide +kernel
theorem cd_L_differenceBits_19 : decode cb_L_differenceBits 19 = .ok (.aload_n 0, 1) := by decide +kernel
theorem cd_L_differenceBits_20 : decode cb_L_differenceBits 20 = .ok (.getfield 28, 3) := by decide +kernel
theorem cd_L_differenceBits_23 : decode cb_L_differenceBits 23 = .ok (.iload_n 1, 1) := by decide +kernel
theorem cd_L_differenceBits_24 : decode cb_L_differenceBits 24 = .ok (.iaload, 1) := by decide +kernel
theorem cd_L_differenceBits_25 : decode cb_L_differenceBits 25 = .ok (.aload_n 2, 1) := by decide +kernel
theorem cd_L_differenceBits_26 : decode cb_L_differenceBits 26 = .ok (.getfield 28, 3) := by decide +kernel
theorem cd_L_differenceBits_29 : decode cb_L_differenceBits 29 = .ok (.iload_n 3, 1) := by decide +kernel
theorem cd_L_differenceBits_30 : decode cb_L_differenceBits 30 = .ok (.iaload, 1) := by decide +kernel
theorem cd_L_differenceBits_31 : decode cb_L_differenceBits 31 = .ok (.if_icmp .ne 33, 3) := by decide +kernel
theorem cd_L_differenceBits_34 : decode cb_L_differenceBits 34 = .ok (.aload_n 0, 1) := by decide +kernel
theorem cd_L_differenceBits_35 : decode cb_L_differenceBits 35 = .ok (.getfield 31, 3) := by decide +kernel
theorem cd_L_differenceBits_38 : decode cb_L_differenceBits 38 = .ok (.iload_n 1, 1) := by decide +kernel
theorem cd_L_differenceBits_39 : decode cb_L_differenceBits 39 = .ok (.iaload, 1) := by decide +kernel
theorem cd_L_differenceBits_40 : decode cb_L_differenceBits 40 = .ok (.aload_n 2, 1) := by decide +kernel
theorem cd_L_differenceBits_41 : decode cb_L_differenceBits 41 = .ok (.getfield 31, 3) := by decide +kernel
theorem cd_L_differenceBits_44 : decode cb_L_differenceBits 44 = .ok (.iload_n 3, 1) := by decide +kernel
theorem cd_L_differenceBits_45 : decode cb_L_differenceBits 45 = .ok (.iaload, 1) := by decide +kernel
theorem cd_L_differenceBits_46 : decode cb_L_differenceBits 46 = .ok (.if_icmp .ne 18, 3) := by decide +kernel
theorem cd_L_differenceBits_49 : decode cb_L_differenceBits 49 = .ok (.aload_n 0, 1) := by decide +kernel
theorem cd_L_differenceBits_50 : decode cb_L_differenceBits 50 = .ok (.getfield 34, 3) := by decide +kernel
theorem cd_L_differenceBits_53 : decode cb_L_differenceBits 53 = .ok (.iload_n 1, 1) := by decide +kernel
theorem cd_L_differenceBits_54 : decode cb_L_differenceBits 54 = .ok (.iaload, 1) := by decide +kernel
theorem cd_L_differenceBits_55 : decode cb_L_differenceBits 55 = .ok (.aload_n 2, 1) := by decide +kernel
theorem cd_L_differenceBits_56 : decode cb_L_differenceBits 56 = .ok (.getfield 34, 3) := by decide +kernel
theorem cd_L_differenceBits_59 : decode cb_L_differenceBits 59 = .ok (.iload_n 3, 1) := by decide +kernel
theorem cd_L_differenceBits_60 : decode cb_L_differenceBits 60 = .ok (.iaload, 1) := by decide +kernel
theorem cd_L_differenceBits_61 : decode cb_L_differenceBits 61 = .ok (.if_icmp .eq 9, 3) := by decide +kernel
theorem cd_L_differenceBits_64 : decode cb_L_differenceBits 64 = .ok (.iload 4, 2) := by decide +kernel
theorem cd_L_differenceBits_66 : decode cb_L_differenceBits 66 = .ok (.iconst 2, 1) := by decide +kernel
theorem cd_L_differenceBits_67 : decode cb_L_differenceBits 67 = .ok (.ior, 1) := by decide +kernel
theorem cd_L_differenceBits_68 : decode cb_L_differenceBits 68 = .ok (.istore 4, 2) := by decide +kernel
theorem cd_L_differenceBits_70 : decode cb_L_differenceBits 70 = .ok (.aload_n 0, 1) := by decide +kernel
theorem cd_L_differenceBits_71 : decode cb_L_differenceBits 71 = .ok (.getfield 37, 3) := by decide +kernel
theorem cd_L_differenceBits_74 : decode cb_L_differenceBits 74 = .ok (.iload_n 1, 1) := by decide +kernel
theorem cd_L_differenceBits_75 : decode cb_L_differenceBits 75 = .ok (.iaload, 1) := by decide +kernel
theorem cd_L_differenceBits_76 : decode cb_L_differenceBits 76 = .ok (.aload_n 2, 1) := by decide +kernel
theorem cd_L_differenceBits_77 : decode cb_L_differenceBits 77 = .ok (.getfield 37, 3) := by decide +kernel
theorem cd_L_differenceBits_80 : decode cb_L_differenceBits 80 = .ok (.iload_n 3, 1) := by decide +kernel
theorem cd_L_differenceBits_81 : decode cb_L_differenceBits 81 = .ok (.iaload, 1) := by decide +kernel
theorem cd_L_differenceBits_82 : decode cb_L_differenceBits 82 = .ok (.if_icmp .ne 18, 3) := by decide +kernel
theorem cd_L_differenceBits_85 : decode cb_L_differenceBits 85 = .ok (.aload_n 0, 1) := by decide +kernel
theorem cd_L_differenceBits_86 : decode cb_L_differenceBits 86 = .ok (.getfield 40, 3) := by decide +kernel
theorem cd_L_differenceBits_89 : decode cb_L_differenceBits 89 = .ok (.iload_n 1, 1) := by decide +kernel
theorem cd_L_differenceBits_90 : decode cb_L_differenceBits 90 = .ok (.iaload, 1) := by decide +kernel
theorem cd_L_differenceBits_91 : decode cb_L_differenceBits 91 = .ok (.aload_n 2, 1) := by decide +kernel
theorem cd_L_differenceBits_92 : decode cb_L_differenceBits 92 = .ok (.getfield 40, 3) := by decide +kernel
theorem cd_L_differenceBits_95 : decode cb_L_differenceBits 95 = .ok (.iload_n 3, 1) := by decide +kernel
theorem cd_L_differenceBits_96 : decode cb_L_differenceBits 96 = .ok (.iaload, 1) := by decide +kernel
theorem cd_L_differenceBits_97 : decode cb_L_differenceBits 97 = .ok (.if_icmp .eq 9, 3) := by decide +kernel
theorem cd_L_differenceBits_100 : decode cb_L_differenceBits 100 = .ok (.iload 4, 2) := by decide +kernel
theorem cd_L_differenceBits_102 : decode cb_L_differenceBits 102 = .ok (.iconst 4, 1) := by decide +kernel
theorem cd_L_differenceBits_103 : decode cb_L_differenceBits 103 = .ok (.ior, 1) := by decide +kernel
theorem cd_L_differenceBits_104 : decode cb_L_differenceBits 104 = .ok (.istore 4, 2) := by decide +kernel
theorem cd_L_differenceBits_106 : decode cb_L_differenceBits 106 = .ok (.iload 4, 2) := by decide +kernel
theorem cd_L_differenceBits_108 : decode cb_L_differenceBits 108 = .ok (.ireturn, 1) := by decide +kernel
theorem cd_L_hasTitleOf_0 : decode cb_L_hasTitleOf 0 = .ok (.aload_n 0, 1) := by decide +kernel
theorem cd_L_hasTitleOf_1 : decode cb_L_hasTitleOf 1 = .ok (.getfield 43, 3) := by decide +kernel
theorem cd_L_hasTitleOf_4 : decode cb_L_hasTitleOf 4 = .ok (.iload_n 1, 1) := by decide +kernel
theorem cd_L_hasTitleOf_5 : decode cb_L_hasTitleOf 5 = .ok (.iaload, 1) := by decide +kernel
theorem cd_L_hasTitleOf_6 : decode cb_L_hasTitleOf 6 = .ok (.aload_n 2, 1) := by decide +kernel
theorem cd_L_hasTitleOf_7 : decode cb_L_hasTitleOf 7 = .ok (.getfield 43, 3) := by decide +kernel
theorem cd_L_hasTitleOf_10 : decode cb_L_hasTitleOf 10 = .ok (.iload_n 3, 1) := by decide +kernel
theorem cd_L_hasTitleOf_11 : decode cb_L_hasTitleOf 11 = .ok (.iaload, 1) := by decide +kernel
theorem cd_L_hasTitleOf_12 : decode cb_L_hasTitleOf 12 = .ok (.if_icmp .eq 5, 3) := by decide +kernel
theorem cd_L_hasTitleOf_15 : decode cb_L_hasTitleOf 15 = .ok (.iconst 0, 1) := by decide +kernel
theorem cd_L_hasTitleOf_16 : decode cb_L_hasTitleOf 16 = .ok (.ireturn, 1) := by decide +kernel
theorem cd_L_hasTitleOf_17 : decode cb_L_hasTitleOf 17 = .ok (.iconst 0, 1) := by decide +kernel
theorem cd_L_hasTitleOf_18 : decode cb_L_hasTitleOf 18 = .ok (.istore 4, 2) := by decide +kernel
theorem cd_L_hasTitleOf_20 : decode cb_L_hasTitleOf 20 = .ok (.iload 4, 2) := by decide +kernel
theorem cd_L_hasTitleOf_22 : decode cb_L_hasTitleOf 22 = .ok (.aload_n 0, 1) := by decide +kernel
theorem cd_L_hasTitleOf_23 : decode cb_L_hasTitleOf 23 = .ok (.getfield 43, 3) := by decide +kernel
theorem cd_L_hasTitleOf_26 : decode cb_L_hasTitleOf 26 = .ok (.iload_n 1, 1) := by decide +kernel
theorem cd_L_hasTitleOf_27 : decode cb_L_hasTitleOf 27 = .ok (.iaload, 1) := by decide +kernel
theorem cd_L_hasTitleOf_28 : decode cb_L_hasTitleOf 28 = .ok (.if_icmp .ge 28, 3) := by decide +kernel
theorem cd_L_hasTitleOf_31 : decode cb_L_hasTitleOf 31 = .ok (.aload_n 0, 1) := by decide +kernel
theorem cd_L_hasTitleOf_32 : decode cb_L_hasTitleOf 32 = .ok (.iload_n 1, 1) := by decide +kernel
theorem cd_L_hasTitleOf_33 : decode cb_L_hasTitleOf 33 = .ok (.iload 4, 2) := by decide +kernel
theorem cd_L_hasTitleOf_35 : decode cb_L_hasTitleOf 35 = .ok (.invokevirtual 86, 3) := by decide +kernel
theorem cd_L_hasTitleOf_38 : decode cb_L_hasTitleOf 38 = .ok (.aload_n 2, 1) := by decide +kernel
theorem cd_L_hasTitleOf_39 : decode cb_L_hasTitleOf 39 = .ok (.iload_n 3, 1) := by decide +kernel
theorem cd_L_hasTitleOf_40 : decode cb_L_hasTitleOf 40 = .ok (.iload 4, 2) := by decide +kernel
theorem cd_L_hasTitleOf_42 : decode cb_L_hasTitleOf 42 = .ok (.invokevirtual 86, 3) := by decide +kernel
theorem cd_L_hasTitleOf_45 : decode cb_L_hasTitleOf 45 = .ok (.if_icmp .eq 5, 3) := by decide +kernel
theorem cd_L_hasTitleOf_48 : decode cb_L_hasTitleOf 48 = .ok (.iconst 0, 1) := by decide +kernel
theorem cd_L_hasTitleOf_49 : decode cb_L_hasTitleOf 49 = .ok (.ireturn, 1) := by decide +kernel
theorem cd_L_hasTitleOf_50 : decode cb_L_hasTitleOf 50 = .ok (.iinc 4 1, 3) := by decide +kernel
theorem cd_L_hasTitleOf_53 : decode cb_L_hasTitleOf 53 = .ok (.goto (-33), 3) := by decide +kernel
theorem cd_L_hasTitleOf_56 : decode cb_L_hasTitleOf 56 = .ok (.iconst 1, 1) := by decide +kernel
theorem cd_L_hasTitleOf_57 : decode cb_L_hasTitleOf 57 = .ok (.ireturn, 1) := by decide +kernel
theorem cd_L_copyParts_0 : decode cb_L_copyParts 0 = .ok (.aload_n 0, 1) := by decide +kernel
theorem cd_L_copyParts_1 : decode cb_L_copyParts 1 = .ok (.getfield 43, 3) := by decide +kernel
theorem cd_L_copyParts_4 : decode cb_L_copyParts 4 = .ok (.iload_n 1, 1) := by decide +kernel
theorem cd_L_copyParts_5 : decode cb_L_copyParts 5 = .ok (.iconst 0, 1) := by decide +kernel
theorem cd_L_copyParts_6 : decode cb_L_copyParts 6 = .ok (.iastore, 1) := by decide +kernel
theorem cd_L_copyParts_7 : decode cb_L_copyParts 7 = .ok (.iconst 0, 1) := by decide +kernel
theorem cd_L_copyParts_8 : decode cb_L_copyParts 8 = .ok (.istore 4, 2) := by decide +kernel
theorem cd_L_copyParts_10 : decode cb_L_copyParts 10 = .ok (.iload 4, 2) := by decide +kernel
theorem cd_L_copyParts_12 : decode cb_L_copyParts 12 = .ok (.aload_n 2, 1) := by decide +kernel
theorem cd_L_copyParts_13 : decode cb_L_copyParts 13 = .ok (.getfield 43, 3) := by decide +kernel
theorem cd_L_copyParts_16 : decode cb_L_copyParts 16 = .ok (.iload_n 3, 1) := by decide +kernel
theorem cd_L_copyParts_17 : decode cb_L_copyParts 17 = .ok (.iaload, 1) := by decide +kernel
theorem cd_L_copyParts_18 : decode cb_L_copyParts 18 = .ok (.if_icmp .ge 21, 3) := by decide +kernel
theorem cd_L_copyParts_21 : decode cb_L_copyParts 21 = .ok (.aload_n 0, 1) := by decide +kernel
theorem cd_L_copyParts_22 : decode cb_L_copyParts 22 = .ok (.iload_n 1, 1) := by decide +kernel
theorem cd_L_copyParts_23 : decode cb_L_copyParts 23 = .ok (.aload_n 2, 1) := by decide +kernel
theorem cd_L_copyParts_24 : decode cb_L_copyParts 24 = .ok (.iload_n 3, 1) := by decide +kernel
theorem cd_L_copyParts_25 : decode cb_L_copyParts 25 = .ok (.iload 4, 2) := by decide +kernel
theorem cd_L_copyParts_27 : decode cb_L_copyParts 27 = .ok (.invokevirtual 86, 3) := by decide +kernel
theorem cd_L_copyParts_30 : decode cb_L_copyParts 30 = .ok (.invokevirtual 89, 3) := by decide +kernel
theorem cd_L_copyParts_33 : decode cb_L_copyParts 33 = .ok (.iinc 4 1, 3) := by decide +kernel
theorem cd_L_copyParts_36 : decode cb_L_copyParts 36 = .ok (.goto (-26), 3) := by decide +kernel
theorem cd_L_copyParts_39 : decode cb_L_copyParts 39 = .ok (.aload_n 0, 1) := by decide +kernel
theorem cd_L_copyParts_40 : decode cb_L_copyParts 40 = .ok (.getfield 28, 3) := by decide +kernel
theorem cd_L_copyParts_43 : decode cb_L_copyParts 43 = .ok (.iload_n 1, 1) := by decide +kernel
theorem cd_L_copyParts_44 : decode cb_L_copyParts 44 = .ok (.aload_n 2, 1) := by decide +kernel
theorem cd_L_copyParts_45 : decode cb_L_copyParts 45 = .ok (.getfield 28, 3) := by decide +kernel
theorem cd_L_copyParts_48 : decode cb_L_copyParts 48 = .ok (.iload_n 3, 1) := by decide +kernel
theorem cd_L_copyParts_49 : decode cb_L_copyParts 49 = .ok (.iaload, 1) := by decide +kernel
theorem cd_L_copyParts_50 : decode cb_L_copyParts 50 = .ok (.iastore, 1) := by decide +kernel
theorem cd_L_copyParts_51 : decode cb_L_copyParts 51 = .ok (.aload_n 0, 1) := by decide +kernel
theorem cd_L_copyParts_52 : decode cb_L_copyParts 52 = .ok (.getfield 31, 3) := by decide +kernel
theorem cd_L_copyParts_55 : decode cb_L_copyParts 55 = .ok (.iload_n 1, 1) := by decide +kernel
theorem cd_L_copyParts_56 : decode cb_L_copyParts 56 = .ok (.aload_n 2, 1) := by decide +kernel
theorem cd_L_copyParts_57 : decode cb_L_copyParts 57 = .ok (.getfield 31, 3) := by decide +kernel
theorem cd_L_copyParts_60 : decode cb_L_copyParts 60 = .ok (.iload_n 3, 1) := by decide +kernel
theorem cd_L_copyParts_61 : decode cb_L_copyParts 61 = .ok (.iaload, 1) := by decide +kernel
theorem cd_L_copyParts_62 : decode cb_L_copyParts 62 = .ok (.iastore, 1) := by decide +kernel
theorem cd_L_copyParts_63 : decode cb_L_copyParts 63 = .ok (.aload_n 0, 1) := by decide +kernel
theorem cd_L_copyParts_64 : decode cb_L_copyParts 64 = .ok (.getfield 34, 3) := by decide +kernel
theorem cd_L_copyParts_67 : decode cb_L_copyParts 67 = .ok (.iload_n 1, 1) := by decide +kernel
theorem cd_L_copyParts_68 : decode cb_L_copyParts 68 = .ok (.aload_n 2, 1) := by decide +kernel
theorem cd_L_copyParts_69 : decode cb_L_copyParts 69 = .ok (.getfield 34, 3) := by decide +kernel
theorem cd_L_copyParts_72 : decode cb_L_copyParts 72 = .ok (.iload_n 3, 1) := by decide +kernel
theorem cd_L_copyParts_73 : decode cb_L_copyParts 73 = .ok (.iaload, 1) := by decide +kernel
theorem cd_L_copyParts_74 : decode cb_L_copyParts 74 = .ok (.iastore, 1) := by decide +kernel
theorem cd_L_copyParts_75 : decode cb_L_copyParts 75 = .ok (.aload_n 0, 1) := by decide +kernel
theorem cd_L_copyParts_76 : decode cb_L_copyParts 76 = .ok (.getfield 37, 3) := by decide +kernel
theorem cd_L_copyParts_79 : decode cb_L_copyParts 79 = .ok (.iload_n 1, 1) := by decide +kernel
theorem cd_L_copyParts_80 : decode cb_L_copyParts 80 = .ok (.aload_n 2, 1) := by decide +kernel
theorem cd_L_copyParts_81 : decode cb_L_copyParts 81 = .ok (.getfield 37, 3) := by decide +kernel
theorem cd_L_copyParts_84 : decode cb_L_copyParts 84 = .ok (.iload_n 3, 1) := by decide +kernel
theorem cd_L_copyParts_85 : decode cb_L_copyParts 85 = .ok (.iaload, 1) := by decide +kernel
theorem cd_L_copyParts_86 : decode cb_L_copyParts 86 = .ok (.iastore, 1) := by decide +kernel
theorem cd_L_copyParts_87 : decode cb_L_copyParts 87 = .ok (.aload_n 0, 1) := by decide +kernel
theorem cd_L_copyParts_88 : decode cb_L_copyParts 88 = .ok (.getfield 40, 3) := by decide +kernel
theorem cd_L_copyParts_91 : decode cb_L_copyParts 91 = .ok (.iload_n 1, 1) := by decide +kernel
theorem cd_L_copyParts_92 : decode cb_L_copyParts 92 = .ok (.aload_n 2, 1) := by decide +kernel
theorem cd_L_copyParts_93 : decode cb_L_copyParts 93 = .ok (.getfield 40, 3) := by decide +kernel
theorem cd_L_copyParts_96 : decode cb_L_copyParts 96 = .ok (.iload_n 3, 1) := by decide +kernel
theorem cd_L_copyParts_97 : decode cb_L_copyParts 97 = .ok (.iaload, 1) := by decide +kernel
theorem cd_L_copyParts_98 : decode cb_L_copyParts 98 = .ok (.iastore, 1) := by decide +kernel
theorem cd_L_copyParts_99 : decode cb_L_copyParts 99 = .ok (.return_, 1) := by decide +kernel
end
section
theorem cd_K_init_0 : decode cb_K_init 0 = .ok (.aload_n 0, 1) := by decide +kernel
theorem cd_K_init_1 : decode cb_K_init 1 = .ok (.invokespecial 3, 3) := by decide +kernel
theorem cd_K_init_4 : decode cb_K_init 4 = .ok (.aload_n 0, 1) := by decide +kernel
theorem cd_K_init_5 : decode cb_K_init 5 = .ok (.iconst 0, 1) := by decide +kernel
theorem cd_K_init_6 : decode cb_K_init 6 = .ok (.putfield 9, 3) := by decide +kernel
theorem cd_K_init_9 : decode cb_K_init 9 = .ok (.aload_n 0, 1) := by decide +kernel
theorem cd_K_init_10 : decode cb_K_init 10 = .ok (.iconst 0, 1) := by decide +kernel
theorem cd_K_init_11 : decode cb_K_init 11 = .ok (.putfield 15, 3) := by decide +kernel
theorem cd_K_init_14 : decode cb_K_init 14 = .ok (.aload_n 0, 1) := by decide +kernel
theorem cd_K_init_15 : decode cb_K_init 15 = .ok (.bipush 100, 2) := by decide +kernel
theorem cd_K_init_17 : decode cb_K_init 17 = .ok (.newarray .int, 2) := by decide +kernel
theorem cd_K_init_19 : decode cb_K_init 19 = .ok (.putfield 19, 3) := by decide +kernel
theorem cd_K_init_22 : decode cb_K_init 22 = .ok (.aload_n 0, 1) := by decide +kernel
theorem cd_K_init_23 : decode cb_K_init 23 = .ok (.bipush 100, 2) := by decide +kernel
theorem cd_K_init_25 : decode cb_K_init 25 = .ok (.newarray .int, 2) := by decide +kernel
theorem cd_K_init_27 : decode cb_K_init 27 = .ok (.putfield 23, 3) := by decide +kernel
theorem cd_K_init_30 : decode cb_K_init 30 = .ok (.aload_n 0, 1) := by decide +kernel
theorem cd_K_init_31 : decode cb_K_init 31 = .ok (.bipush 100, 2) := by decide +kernel
theorem cd_K_init_33 : decode cb_K_init 33 = .ok (.newarray .int, 2) := by decide +kernel
theorem cd_K_init_35 : decode cb_K_init 35 = .ok (.putfield 26, 3) := by decide +kernel
theorem cd_K_init_38 : decode cb_K_init 38 = .ok (.aload_n 0, 1) := by decide +kernel
theorem cd_K_init_39 : decode cb_K_init 39 = .ok (.bipush 100, 2) := by decide +kernel
theorem cd_K_init_41 : decode cb_K_init 41 = .ok (.newarray .boolean, 2) := by decide +kernel
theorem cd_K_init_43 : decode cb_K_init 43 = .ok (.putfield 29, 3) := by decide +kernel
theorem cd_K_init_46 : decode cb_K_init 46 = .ok (.return_, 1) := by decide +kernel
theorem cd_K_has_0 : decode cb_K_has 0 = .ok (.iload_n 1, 1) := by decide +kernel
theorem cd_K_has_1 : decode cb_K_has 1 = .ok (.ifCond .lt 15, 3) := by decide +kernel
theorem cd_K_has_4 : decode cb_K_has 4 = .ok (.iload_n 1, 1) := by decide +kernel
theorem cd_K_has_5 : decode cb_K_has 5 = .ok (.aload_n 0, 1) := by decide +kernel
theorem cd_K_has_6 : decode cb_K_has 6 = .ok (.getfield 9, 3) := by decide +kernel
theorem cd_K_has_9 : decode cb_K_has 9 = .ok (.if_icmp .ge 7, 3) := by decide +kernel
theorem cd_K_has_12 : decode cb_K_has 12 = .ok (.iconst 1, 1) := by decide +kernel
theorem cd_K_has_13 : decode cb_K_has 13 = .ok (.goto 4, 3) := by decide +kernel
theorem cd_K_has_16 : decode cb_K_has 16 = .ok (.iconst 0, 1) := by decide +kernel
theorem cd_K_has_17 : decode cb_K_has 17 = .ok (.ireturn, 1) := by decide +kernel
theorem cd_K_gather_0 : decode cb_K_gather 0 = .ok (.aload_n 0, 1) := by decide +kernel
theorem cd_K_gather_1 : decode cb_K_gather 1 = .ok (.iconst 0, 1) := by decide +kernel
theorem cd_K_gather_2 : decode cb_K_gather 2 = .ok (.putfield 9, 3) := by decide +kernel
theorem cd_K_gather_5 : decode cb_K_gather 5 = .ok (.aload_n 0, 1) := by decide +kernel
theorem cd_K_gather_6 : decode cb_K_gather 6 = .ok (.iconst 0, 1) := by decide +kernel
theorem cd_K_gather_7 : decode cb_K_gather 7 = .ok (.putfield 15, 3) := by decide +kernel
theorem cd_K_gather_10 : decode cb_K_gather 10 = .ok (.iconst 0, 1) := by decide +kernel
theorem cd_K_gather_11 : decode cb_K_gather 11 = .ok (.istore_n 3, 1) := by decide +kernel
theorem cd_K_gather_12 : decode cb_K_gather 12 = .ok (.iload_n 3, 1) := by decide +kernel
theorem cd_K_gather_13 : decode cb_K_gather 13 = .ok (.aload_n 2, 1) := by decide +kernel
theorem cd_K_gather_14 : decode cb_K_gather 14 = .ok (.getfield 33, 3) := by decide +kernel
theorem cd_K_gather_17 : decode cb_K_gather 17 = .ok (.if_icmp .ge 51, 3) := by decide +kernel
theorem cd_K_gather_20 : decode cb_K_gather 20 = .ok (.aload_n 1, 1) := by decide +kernel
theorem cd_K_gather_21 : decode cb_K_gather 21 = .ok (.aload_n 2, 1) := by decide +kernel
theorem cd_K_gather_22 : decode cb_K_gather 22 = .ok (.iload_n 3, 1) := by decide +kernel
theorem cd_K_gather_23 : decode cb_K_gather 23 = .ok (.invokevirtual 36, 3) := by decide +kernel
theorem cd_K_gather_26 : decode cb_K_gather 26 = .ok (.istore 4, 2) := by decide +kernel
theorem cd_K_gather_28 : decode cb_K_gather 28 = .ok (.iload 4, 2) := by decide +kernel
theorem cd_K_gather_30 : decode cb_K_gather 30 = .ok (.iconst (-1), 1) := by decide +kernel
theorem cd_K_gather_31 : decode cb_K_gather 31 = .ok (.if_icmp .ne 7, 3) := by decide +kernel
theorem cd_K_gather_34 : decode cb_K_gather 34 = .ok (.iconst 0, 1) := by decide +kernel
theorem cd_K_gather_35 : decode cb_K_gather 35 = .ok (.goto 11, 3) := by decide +kernel
theorem cd_K_gather_38 : decode cb_K_gather 38 = .ok (.aload_n 1, 1) := by decide +kernel
theorem cd_K_gather_39 : decode cb_K_gather 39 = .ok (.iload 4, 2) := by decide +kernel
theorem cd_K_gather_41 : decode cb_K_gather 41 = .ok (.aload_n 2, 1) := by decide +kernel
theorem cd_K_gather_42 : decode cb_K_gather 42 = .ok (.iload_n 3, 1) := by decide +kernel
theorem cd_K_gather_43 : decode cb_K_gather 43 = .ok (.invokevirtual 40, 3) := by decide +kernel
theorem cd_K_gather_46 : decode cb_K_gather 46 = .ok (.istore 5, 2) := by decide +kernel
theorem cd_K_gather_48 : decode cb_K_gather 48 = .ok (.iload 5, 2) := by decide +kernel
theorem cd_K_gather_50 : decode cb_K_gather 50 = .ok (.ifCond .eq 12, 3) := by decide +kernel
theorem cd_K_gather_53 : decode cb_K_gather 53 = .ok (.aload_n 0, 1) := by decide +kernel
theorem cd_K_gather_54 : decode cb_K_gather 54 = .ok (.iload 4, 2) := by decide +kernel
theorem cd_K_gather_56 : decode cb_K_gather 56 = .ok (.iload_n 3, 1) := by decide +kernel
theorem cd_K_gather_57 : decode cb_K_gather 57 = .ok (.iload 5, 2) := by decide +kernel
theorem cd_K_gather_59 : decode cb_K_gather 59 = .ok (.invokevirtual 44, 3) := by decide +kernel
theorem cd_K_gather_62 : decode cb_K_gather 62 = .ok (.iinc 3 1, 3) := by decide +kernel
theorem cd_K_gather_65 : decode cb_K_gather 65 = .ok (.goto (-53), 3) := by decide +kernel
theorem cd_K_gather_68 : decode cb_K_gather 68 = .ok (.return_, 1) := by decide +kernel
theorem cd_K_add_0 : decode cb_K_add 0 = .ok (.aload_n 0, 1) := by decide +kernel
theorem cd_K_add_1 : decode cb_K_add 1 = .ok (.getfield 9, 3) := by decide +kernel
theorem cd_K_add_4 : decode cb_K_add 4 = .ok (.bipush 100, 2) := by decide +kernel
theorem cd_K_add_6 : decode cb_K_add 6 = .ok (.if_icmp .lt 4, 3) := by decide +kernel
theorem cd_K_add_9 : decode cb_K_add 9 = .ok (.return_, 1) := by decide +kernel
theorem cd_K_add_10 : decode cb_K_add 10 = .ok (.aload_n 0, 1) := by decide +kernel
theorem cd_K_add_11 : decode cb_K_add 11 = .ok (.getfield 19, 3) := by decide +kernel
theorem cd_K_add_14 : decode cb_K_add 14 = .ok (.aload_n 0, 1) := by decide +kernel
theorem cd_K_add_15 : decode cb_K_add 15 = .ok (.getfield 9, 3) := by decide +kernel
theorem cd_K_add_18 : decode cb_K_add 18 = .ok (.iload_n 1, 1) := by decide +kernel
theorem cd_K_add_19 : decode cb_K_add 19 = .ok (.iastore, 1) := by decide +kernel
theorem cd_K_add_20 : decode cb_K_add 20 = .ok (.aload_n 0, 1) := by decide +kernel
theorem cd_K_add_21 : decode cb_K_add 21 = .ok (.getfield 23, 3) := by decide +kernel
theorem cd_K_add_24 : decode cb_K_add 24 = .ok (.aload_n 0, 1) := by decide +kernel
theorem cd_K_add_25 : decode cb_K_add 25 = .ok (.getfield 9, 3) := by decide +kernel
theorem cd_K_add_28 : decode cb_K_add 28 = .ok (.iload_n 2, 1) := by decide +kernel
theorem cd_K_add_29 : decode cb_K_add 29 = .ok (.iastore, 1) := by decide +kernel
theorem cd_K_add_30 : decode cb_K_add 30 = .ok (.aload_n 0, 1) := by decide +kernel
theorem cd_K_add_31 : decode cb_K_add 31 = .ok (.getfield 26, 3) := by decide +kernel
theorem cd_K_add_34 : decode cb_K_add 34 = .ok (.aload_n 0, 1) := by decide +kernel
theorem cd_K_add_35 : decode cb_K_add 35 = .ok (.getfield 9, 3) := by decide +kernel
theorem cd_K_add_38 : decode cb_K_add 38 = .ok (.iload_n 3, 1) := by decide +kernel
theorem cd_K_add_39 : decode cb_K_add 39 = .ok (.iastore, 1) := by decide +kernel
theorem cd_K_add_40 : decode cb_K_add 40 = .ok (.aload_n 0, 1) := by decide +kernel
theorem cd_K_add_41 : decode cb_K_add 41 = .ok (.getfield 29, 3) := by decide +kernel
theorem cd_K_add_44 : decode cb_K_add 44 = .ok (.aload_n 0, 1) := by decide +kernel
theorem cd_K_add_45 : decode cb_K_add 45 = .ok (.getfield 9, 3) := by decide +kernel
theorem cd_K_add_48 : decode cb_K_add 48 = .ok (.iconst 0, 1) := by decide +kernel
theorem cd_K_add_49 : decode cb_K_add 49 = .ok (.bastore, 1) := by decide +kernel
theorem cd_K_add_50 : decode cb_K_add 50 = .ok (.aload_n 0, 1) := by decide +kernel
theorem cd_K_add_51 : decode cb_K_add 51 = .ok (.dup, 1) := by decide +kernel
theorem cd_K_add_52 : decode cb_K_add 52 = .ok (.getfield 9, 3) := by decide +kernel
theorem cd_K_add_55 : decode cb_K_add 55 = .ok (.iconst 1, 1) := by decide +kernel
theorem cd_K_add_56 : decode cb_K_add 56 = .ok (.iadd, 1) := by decide +kernel
theorem cd_K_add_57 : decode cb_K_add 57 = .ok (.putfield 9, 3) := by decide +kernel
theorem cd_K_add_60 : decode cb_K_add 60 = .ok (.return_, 1) := by decide +kernel
theorem cd_N_init_0 : decode cb_N_init 0 = .ok (.aload_n 0, 1) := by decide +kernel
theorem cd_N_init_1 : decode cb_N_init 1 = .ok (.invokespecial 3, 3) := by decide +kernel
theorem cd_N_init_4 : decode cb_N_init 4 = .ok (.aload_n 0, 1) := by decide +kernel
theorem cd_N_init_5 : decode cb_N_init 5 = .ok (.sipush 400, 3) := by decide +kernel
theorem cd_N_init_8 : decode cb_N_init 8 = .ok (.newarray .int, 2) := by decide +kernel
theorem cd_N_init_10 : decode cb_N_init 10 = .ok (.putfield 9, 3) := by decide +kernel
theorem cd_N_init_13 : decode cb_N_init 13 = .ok (.aload_n 0, 1) := by decide +kernel
theorem cd_N_init_14 : decode cb_N_init 14 = .ok (.sipush 400, 3) := by decide +kernel
theorem cd_N_init_17 : decode cb_N_init 17 = .ok (.newarray .int, 2) := by decide +kernel
theorem cd_N_init_19 : decode cb_N_init 19 = .ok (.putfield 15, 3) := by decide +kernel
theorem cd_N_init_22 : decode cb_N_init 22 = .ok (.aload_n 0, 1) := by decide +kernel
theorem cd_N_init_23 : decode cb_N_init 23 = .ok (.sipush 500, 3) := by decide +kernel
theorem cd_N_init_26 : decode cb_N_init 26 = .ok (.newarray .int, 2) := by decide +kernel
theorem cd_N_init_28 : decode cb_N_init 28 = .ok (.putfield 18, 3) := by decide +kernel
theorem cd_N_init_31 : decode cb_N_init 31 = .ok (.aload_n 0, 1) := by decide +kernel
theorem cd_N_init_32 : decode cb_N_init 32 = .ok (.bipush 100, 2) := by decide +kernel
theorem cd_N_init_34 : decode cb_N_init 34 = .ok (.newarray .int, 2) := by decide +kernel
theorem cd_N_init_36 : decode cb_N_init 36 = .ok (.putfield 21, 3) := by decide +kernel
theorem cd_N_init_39 : decode cb_N_init 39 = .ok (.aload_n 0, 1) := by decide +kernel
theorem cd_N_init_40 : decode cb_N_init 40 = .ok (.bipush 100, 2) := by decide +kernel
theorem cd_N_init_42 : decode cb_N_init 42 = .ok (.newarray .int, 2) := by decide +kernel
theorem cd_N_init_44 : decode cb_N_init 44 = .ok (.putfield 24, 3) := by decide +kernel
theorem cd_N_init_47 : decode cb_N_init 47 = .ok (.aload_n 0, 1) := by decide +kernel
theorem cd_N_init_48 : decode cb_N_init 48 = .ok (.bipush 100, 2) := by decide +kernel
theorem cd_N_init_50 : decode cb_N_init 50 = .ok (.newarray .boolean, 2) := by decide +kernel
theorem cd_N_init_52 : decode cb_N_init 52 = .ok (.putfield 27, 3) := by decide +kernel
theorem cd_N_init_55 : decode cb_N_init 55 = .ok (.return_, 1) := by decide +kernel
theorem cd_N_forget_0 : decode cb_N_forget 0 = .ok (.aload_n 0, 1) := by decide +kernel
theorem cd_N_forget_1 : decode cb_N_forget 1 = .ok (.getfield 9, 3) := by decide +kernel
theorem cd_N_forget_4 : decode cb_N_forget 4 = .ok (.iconst 0, 1) := by decide +kernel
theorem cd_N_forget_5 : decode cb_N_forget 5 = .ok (.invokestatic 31, 3) := by decide +kernel
theorem cd_N_forget_8 : decode cb_N_forget 8 = .ok (.aload_n 0, 1) := by decide +kernel
theorem cd_N_forget_9 : decode cb_N_forget 9 = .ok (.getfield 21, 3) := by decide +kernel
theorem cd_N_forget_12 : decode cb_N_forget 12 = .ok (.iconst 0, 1) := by decide +kernel
theorem cd_N_forget_13 : decode cb_N_forget 13 = .ok (.invokestatic 31, 3) := by decide +kernel
theorem cd_N_forget_16 : decode cb_N_forget 16 = .ok (.aload_n 0, 1) := by decide +kernel
theorem cd_N_forget_17 : decode cb_N_forget 17 = .ok (.getfield 24, 3) := by decide +kernel
theorem cd_N_forget_20 : decode cb_N_forget 20 = .ok (.iconst 0, 1) := by decide +kernel
theorem cd_N_forget_21 : decode cb_N_forget 21 = .ok (.invokestatic 31, 3) := by decide +kernel
theorem cd_N_forget_24 : decode cb_N_forget 24 = .ok (.iconst 0, 1) := by decide +kernel
theorem cd_N_forget_25 : decode cb_N_forget 25 = .ok (.istore_n 1, 1) := by decide +kernel
theorem cd_N_forget_26 : decode cb_N_forget 26 = .ok (.iload_n 1, 1) := by decide +kernel
theorem cd_N_forget_27 : decode cb_N_forget 27 = .ok (.bipush 100, 2) := by decide +kernel
theorem cd_N_forget_29 : decode cb_N_forget 29 = .ok (.if_icmp .ge 16, 3) := by decide +kernel
theorem cd_N_forget_32 : decode cb_N_forget 32 = .ok (.aload_n 0, 1) := by decide +kernel
theorem cd_N_forget_33 : decode cb_N_forget 33 = .ok (.getfield 27, 3) := by decide +kernel
theorem cd_N_forget_36 : decode cb_N_forget 36 = .ok (.iload_n 1, 1) := by decide +kernel
theorem cd_N_forget_37 : decode cb_N_forget 37 = .ok (.iconst 0, 1) := by decide +kernel
theorem cd_N_forget_38 : decode cb_N_forget 38 = .ok (.bastore, 1) := by decide +kernel
theorem cd_N_forget_39 : decode cb_N_forget 39 = .ok (.iinc 1 1, 3) := by decide +kernel
theorem cd_N_forget_42 : decode cb_N_forget 42 = .ok (.goto (-16), 3) := by decide +kernel
theorem cd_N_forget_45 : decode cb_N_forget 45 = .ok (.return_, 1) := by decide +kernel
theorem cd_N_setReason_0 : decode cb_N_setReason 0 = .ok (.aload_n 0, 1) := by decide +kernel
theorem cd_N_setReason_1 : decode cb_N_setReason 1 = .ok (.getfield 9, 3) := by decide +kernel
theorem cd_N_setReason_4 : decode cb_N_setReason 4 = .ok (.iload_n 1, 1) := by decide +kernel
theorem cd_N_setReason_5 : decode cb_N_setReason 5 = .ok (.iconst 4, 1) := by decide +kernel
theorem cd_N_setReason_6 : decode cb_N_setReason 6 = .ok (.imul, 1) := by decide +kernel
theorem cd_N_setReason_7 : decode cb_N_setReason 7 = .ok (.iload_n 2, 1) := by decide +kernel
theorem cd_N_setReason_8 : decode cb_N_setReason 8 = .ok (.iadd, 1) := by decide +kernel
theorem cd_N_setReason_9 : decode cb_N_setReason 9 = .ok (.iload_n 3, 1) := by decide +kernel
theorem cd_N_setReason_10 : decode cb_N_setReason 10 = .ok (.iastore, 1) := by decide +kernel
theorem cd_N_setReason_11 : decode cb_N_setReason 11 = .ok (.return_, 1) := by decide +kernel
theorem cd_N_reasonOf_0 : decode cb_N_reasonOf 0 = .ok (.aload_n 0, 1) := by decide +kernel
theorem cd_N_reasonOf_1 : decode cb_N_reasonOf 1 = .ok (.getfield 9, 3) := by decide +kernel
theorem cd_N_reasonOf_4 : decode cb_N_reasonOf 4 = .ok (.iload_n 1, 1) := by decide +kernel
theorem cd_N_reasonOf_5 : decode cb_N_reasonOf 5 = .ok (.iconst 4, 1) := by decide +kernel
theorem cd_N_reasonOf_6 : decode cb_N_reasonOf 6 = .ok (.imul, 1) := by decide +kernel
theorem cd_N_reasonOf_7 : decode cb_N_reasonOf 7 = .ok (.iload_n 2, 1) := by decide +kernel
theorem cd_N_reasonOf_8 : decode cb_N_reasonOf 8 = .ok (.iadd, 1) := by decide +kernel
theorem cd_N_reasonOf_9 : decode cb_N_reasonOf 9 = .ok (.iaload, 1) := by decide +kernel
theorem cd_N_reasonOf_10 : decode cb_N_reasonOf 10 = .ok (.ireturn, 1) := by decide +kernel
theorem cd_N_hasHeading_0 : decode cb_N_hasHeading 0 = .ok (.iconst 0, 1) := by decide +kernel
theorem cd_N_hasHeading_1 : decode cb_N_hasHeading 1 = .ok (.istore_n 3, 1) := by decide +kernel
theorem cd_N_hasHeading_2 : decode cb_N_hasHeading 2 = .ok (.iload_n 3, 1) := by decide +kernel
theorem cd_N_hasHeading_3 : decode cb_N_hasHeading 3 = .ok (.aload_n 0, 1) := by decide +kernel
theorem cd_N_hasHeading_4 : decode cb_N_hasHeading 4 = .ok (.getfield 21, 3) := by decide +kernel
theorem cd_N_hasHeading_7 : decode cb_N_hasHeading 7 = .ok (.iload_n 1, 1) := by decide +kernel
theorem cd_N_hasHeading_8 : decode cb_N_hasHeading 8 = .ok (.iaload, 1) := by decide +kernel
theorem cd_N_hasHeading_9 : decode cb_N_hasHeading 9 = .ok (.if_icmp .ge 25, 3) := by decide +kernel
theorem cd_N_hasHeading_12 : decode cb_N_hasHeading 12 = .ok (.aload_n 0, 1) := by decide +kernel
theorem cd_N_hasHeading_13 : decode cb_N_hasHeading 13 = .ok (.getfield 15, 3) := by decide +kernel
theorem cd_N_hasHeading_16 : decode cb_N_hasHeading 16 = .ok (.iload_n 1, 1) := by decide +kernel
theorem cd_N_hasHeading_17 : decode cb_N_hasHeading 17 = .ok (.iconst 4, 1) := by decide +kernel
theorem cd_N_hasHeading_18 : decode cb_N_hasHeading 18 = .ok (.imul, 1) := by decide +kernel
theorem cd_N_hasHeading_19 : decode cb_N_hasHeading 19 = .ok (.iload_n 3, 1) := by decide +kernel
theorem cd_N_hasHeading_20 : decode cb_N_hasHeading 20 = .ok (.iadd, 1) := by decide +kernel
theorem cd_N_hasHeading_21 : decode cb_N_hasHeading 21 = .ok (.iaload, 1) := by decide +kernel
theorem cd_N_hasHeading_22 : decode cb_N_hasHeading 22 = .ok (.iload_n 2, 1) := by decide +kernel
theorem cd_N_hasHeading_23 : decode cb_N_hasHeading 23 = .ok (.if_icmp .ne 5, 3) := by decide +kernel
theorem cd_N_hasHeading_26 : decode cb_N_hasHeading 26 = .ok (.iconst 1, 1) := by decide +kernel
theorem cd_N_hasHeading_27 : decode cb_N_hasHeading 27 = .ok (.ireturn, 1) := by decide +kernel
theorem cd_N_hasHeading_28 : decode cb_N_hasHeading 28 = .ok (.iinc 3 1, 3) := by decide +kernel
theorem cd_N_hasHeading_31 : decode cb_N_hasHeading 31 = .ok (.goto (-29), 3) := by decide +kernel
theorem cd_N_hasHeading_34 : decode cb_N_hasHeading 34 = .ok (.iconst 0, 1) := by decide +kernel
theorem cd_N_hasHeading_35 : decode cb_N_hasHeading 35 = .ok (.ireturn, 1) := by decide +kernel
theorem cd_N_addHeading_0 : decode cb_N_addHeading 0 = .ok (.aload_n 0, 1) := by decide +kernel
theorem cd_N_addHeading_1 : decode cb_N_addHeading 1 = .ok (.getfield 21, 3) := by decide +kernel
theorem cd_N_addHeading_4 : decode cb_N_addHeading 4 = .ok (.iload_n 1, 1) := by decide +kernel
theorem cd_N_addHeading_5 : decode cb_N_addHeading 5 = .ok (.iaload, 1) := by decide +kernel
theorem cd_N_addHeading_6 : decode cb_N_addHeading 6 = .ok (.iconst 4, 1) := by decide +kernel
theorem cd_N_addHeading_7 : decode cb_N_addHeading 7 = .ok (.if_icmp .ge 29, 3) := by decide +kernel
theorem cd_N_addHeading_10 : decode cb_N_addHeading 10 = .ok (.aload_n 0, 1) := by decide +kernel
theorem cd_N_addHeading_11 : decode cb_N_addHeading 11 = .ok (.getfield 15, 3) := by decide +kernel
theorem cd_N_addHeading_14 : decode cb_N_addHeading 14 = .ok (.iload_n 1, 1) := by decide +kernel
theorem cd_N_addHeading_15 : decode cb_N_addHeading 15 = .ok (.iconst 4, 1) := by decide +kernel
theorem cd_N_addHeading_16 : decode cb_N_addHeading 16 = .ok (.imul, 1) := by decide +kernel
theorem cd_N_addHeading_17 : decode cb_N_addHeading 17 = .ok (.aload_n 0, 1) := by decide +kernel
theorem cd_N_addHeading_18 : decode cb_N_addHeading 18 = .ok (.getfield 21, 3) := by decide +kernel
theorem cd_N_addHeading_21 : decode cb_N_addHeading 21 = .ok (.iload_n 1, 1) := by decide +kernel
theorem cd_N_addHeading_22 : decode cb_N_addHeading 22 = .ok (.iaload, 1) := by decide +kernel
theorem cd_N_addHeading_23 : decode cb_N_addHeading 23 = .ok (.iadd, 1) := by decide +kernel
theorem cd_N_addHeading_24 : decode cb_N_addHeading 24 = .ok (.iload_n 2, 1) := by decide +kernel
theorem cd_N_addHeading_25 : decode cb_N_addHeading 25 = .ok (.iastore, 1) := by decide +kernel
theorem cd_N_addHeading_26 : decode cb_N_addHeading 26 = .ok (.aload_n 0, 1) := by decide +kernel
theorem cd_N_addHeading_27 : decode cb_N_addHeading 27 = .ok (.getfield 21, 3) := by decide +kernel
theorem cd_N_addHeading_30 : decode cb_N_addHeading 30 = .ok (.iload_n 1, 1) := by decide +kernel
theorem cd_N_addHeading_31 : decode cb_N_addHeading 31 = .ok (.dup2, 1) := by decide +kernel
theorem cd_N_addHeading_32 : decode cb_N_addHeading 32 = .ok (.iaload, 1) := by decide +kernel
theorem cd_N_addHeading_33 : decode cb_N_addHeading 33 = .ok (.iconst 1, 1) := by decide +kernel
theorem cd_N_addHeading_34 : decode cb_N_addHeading 34 = .ok (.iadd, 1) := by decide +kernel
theorem cd_N_addHeading_35 : decode cb_N_addHeading 35 = .ok (.iastore, 1) := by decide +kernel
theorem cd_N_addHeading_36 : decode cb_N_addHeading 36 = .ok (.return_, 1) := by decide +kernel
theorem cd_N_addMove_0 : decode cb_N_addMove 0 = .ok (.aload_n 0, 1) := by decide +kernel
theorem cd_N_addMove_1 : decode cb_N_addMove 1 = .ok (.getfield 24, 3) := by decide +kernel
theorem cd_N_addMove_4 : decode cb_N_addMove 4 = .ok (.iload_n 1, 1) := by decide +kernel
theorem cd_N_addMove_5 : decode cb_N_addMove 5 = .ok (.iaload, 1) := by decide +kernel
theorem cd_N_addMove_6 : decode cb_N_addMove 6 = .ok (.iconst 5, 1) := by decide +kernel
theorem cd_N_addMove_7 : decode cb_N_addMove 7 = .ok (.if_icmp .ge 29, 3) := by decide +kernel
theorem cd_N_addMove_10 : decode cb_N_addMove 10 = .ok (.aload_n 0, 1) := by decide +kernel
theorem cd_N_addMove_11 : decode cb_N_addMove 11 = .ok (.getfield 18, 3) := by decide +kernel
theorem cd_N_addMove_14 : decode cb_N_addMove 14 = .ok (.iload_n 1, 1) := by decide +kernel
theorem cd_N_addMove_15 : decode cb_N_addMove 15 = .ok (.iconst 5, 1) := by decide +kernel
theorem cd_N_addMove_16 : decode cb_N_addMove 16 = .ok (.imul, 1) := by decide +kernel
theorem cd_N_addMove_17 : decode cb_N_addMove 17 = .ok (.aload_n 0, 1) := by decide +kernel
theorem cd_N_addMove_18 : decode cb_N_addMove 18 = .ok (.getfield 24, 3) := by decide +kernel
theorem cd_N_addMove_21 : decode cb_N_addMove 21 = .ok (.iload_n 1, 1) := by decide +kernel
theorem cd_N_addMove_22 : decode cb_N_addMove 22 = .ok (.iaload, 1) := by decide +kernel
theorem cd_N_addMove_23 : decode cb_N_addMove 23 = .ok (.iadd, 1) := by decide +kernel
theorem cd_N_addMove_24 : decode cb_N_addMove 24 = .ok (.iload_n 2, 1) := by decide +kernel
theorem cd_N_addMove_25 : decode cb_N_addMove 25 = .ok (.iastore, 1) := by decide +kernel
theorem cd_N_addMove_26 : decode cb_N_addMove 26 = .ok (.aload_n 0, 1) := by decide +kernel
theorem cd_N_addMove_27 : decode cb_N_addMove 27 = .ok (.getfield 24, 3) := by decide +kernel
theorem cd_N_addMove_30 : decode cb_N_addMove 30 = .ok (.iload_n 1, 1) := by decide +kernel
theorem cd_N_addMove_31 : decode cb_N_addMove 31 = .ok (.dup2, 1) := by decide +kernel
theorem cd_N_addMove_32 : decode cb_N_addMove 32 = .ok (.iaload, 1) := by decide +kernel
theorem cd_N_addMove_33 : decode cb_N_addMove 33 = .ok (.iconst 1, 1) := by decide +kernel
theorem cd_N_addMove_34 : decode cb_N_addMove 34 = .ok (.iadd, 1) := by decide +kernel
theorem cd_N_addMove_35 : decode cb_N_addMove 35 = .ok (.iastore, 1) := by decide +kernel
theorem cd_N_addMove_36 : decode cb_N_addMove 36 = .ok (.return_, 1) := by decide +kernel
theorem cd_N_underBefore_0 : decode cb_N_underBefore 0 = .ok (.aload_n 0, 1) := by decide +kernel
theorem cd_N_underBefore_1 : decode cb_N_underBefore 1 = .ok (.getfield 18, 3) := by decide +kernel
theorem cd_N_underBefore_4 : decode cb_N_underBefore 4 = .ok (.iload_n 1, 1) := by decide +kernel
theorem cd_N_underBefore_5 : decode cb_N_underBefore 5 = .ok (.iconst 5, 1) := by decide +kernel
theorem cd_N_underBefore_6 : decode cb_N_underBefore 6 = .ok (.imul, 1) := by decide +kernel
theorem cd_N_underBefore_7 : decode cb_N_underBefore 7 = .ok (.iload_n 2, 1) := by decide +kernel
theorem cd_N_underBefore_8 : decode cb_N_underBefore 8 = .ok (.iadd, 1) := by decide +kernel
theorem cd_N_underBefore_9 : decode cb_N_underBefore 9 = .ok (.iaload, 1) := by decide +kernel
theorem cd_N_underBefore_10 : decode cb_N_underBefore 10 = .ok (.ireturn, 1) := by decide +kernel
theorem cd_P_init_0 : decode cb_P_init 0 = .ok (.aload_n 0, 1) := by decide +kernel
theorem cd_P_init_1 : decode cb_P_init 1 = .ok (.invokespecial 3, 3) := by decide +kernel
theorem cd_P_init_4 : decode cb_P_init 4 = .ok (.aload_n 0, 1) := by decide +kernel
theorem cd_P_init_5 : decode cb_P_init 5 = .ok (.sipush 5000, 3) := by decide +kernel
theorem cd_P_init_8 : decode cb_P_init 8 = .ok (.newarray .int, 2) := by decide +kernel
theorem cd_P_init_10 : decode cb_P_init 10 = .ok (.putfield 9, 3) := by decide +kernel
theorem cd_P_init_13 : decode cb_P_init 13 = .ok (.aload_n 0, 1) := by decide +kernel
theorem cd_P_init_14 : decode cb_P_init 14 = .ok (.iconst 0, 1) := by decide +kernel
theorem cd_P_init_15 : decode cb_P_init 15 = .ok (.putfield 15, 3) := by decide +kernel
theorem cd_P_init_18 : decode cb_P_init 18 = .ok (.return_, 1) := by decide +kernel
theorem cd_P_write_0 : decode cb_P_write 0 = .ok (.aload_n 0, 1) := by decide +kernel
theorem cd_P_write_1 : decode cb_P_write 1 = .ok (.iconst 0, 1) := by decide +kernel
theorem cd_P_write_2 : decode cb_P_write 2 = .ok (.putfield 15, 3) := by decide +kernel
theorem cd_P_write_5 : decode cb_P_write 5 = .ok (.aload_n 0, 1) := by decide +kernel
theorem cd_P_write_6 : decode cb_P_write 6 = .ok (.aload_n 1, 1) := by decide +kernel
theorem cd_P_write_7 : decode cb_P_write 7 = .ok (.aload_n 2, 1) := by decide +kernel
theorem cd_P_write_8 : decode cb_P_write 8 = .ok (.iconst 0, 1) := by decide +kernel
theorem cd_P_write_9 : decode cb_P_write 9 = .ok (.iconst 0, 1) := by decide +kernel
theorem cd_P_write_10 : decode cb_P_write 10 = .ok (.invokestatic 19, 3) := by decide +kernel
theorem cd_P_write_13 : decode cb_P_write 13 = .ok (.return_, 1) := by decide +kernel
theorem cd_P_writeFrom_0 : decode cb_P_writeFrom 0 = .ok (.iload 4, 2) := by decide +kernel
theorem cd_P_writeFrom_2 : decode cb_P_writeFrom 2 = .ok (.bipush 8, 2) := by decide +kernel
theorem cd_P_writeFrom_4 : decode cb_P_writeFrom 4 = .ok (.if_icmp .gt 20, 3) := by decide +kernel
theorem cd_P_writeFrom_7 : decode cb_P_writeFrom 7 = .ok (.aload_n 1, 1) := by decide +kernel
theorem cd_P_writeFrom_8 : decode cb_P_writeFrom 8 = .ok (.iload_n 3, 1) := by decide +kernel
theorem cd_P_writeFrom_9 : decode cb_P_writeFrom 9 = .ok (.invokevirtual 23, 3) := by decide +kernel
theorem cd_P_writeFrom_12 : decode cb_P_writeFrom 12 = .ok (.ifCond .eq 12, 3) := by decide +kernel
theorem cd_P_writeFrom_15 : decode cb_P_writeFrom 15 = .ok (.aload_n 2, 1) := by decide +kernel
theorem cd_P_writeFrom_16 : decode cb_P_writeFrom 16 = .ok (.getfield 29, 3) := by decide +kernel
theorem cd_P_writeFrom_19 : decode cb_P_writeFrom 19 = .ok (.iload_n 3, 1) := by decide +kernel
theorem cd_P_writeFrom_20 : decode cb_P_writeFrom 20 = .ok (.baload, 1) := by decide +kernel
theorem cd_P_writeFrom_21 : decode cb_P_writeFrom 21 = .ok (.ifCond .eq 4, 3) := by decide +kernel
theorem cd_P_writeFrom_24 : decode cb_P_writeFrom 24 = .ok (.return_, 1) := by decide +kernel
theorem cd_P_writeFrom_25 : decode cb_P_writeFrom 25 = .ok (.aload_n 0, 1) := by decide +kernel
theorem cd_P_writeFrom_26 : decode cb_P_writeFrom 26 = .ok (.aload_n 1, 1) := by decide +kernel
theorem cd_P_writeFrom_27 : decode cb_P_writeFrom 27 = .ok (.iload_n 3, 1) := by decide +kernel
theorem cd_P_writeFrom_28 : decode cb_P_writeFrom 28 = .ok (.invokevirtual 35, 3) := by decide +kernel
theorem cd_P_writeFrom_31 : decode cb_P_writeFrom 31 = .ok (.aload_n 1, 1) := by decide +kernel
theorem cd_P_writeFrom_32 : decode cb_P_writeFrom 32 = .ok (.iload_n 3, 1) := by decide +kernel
theorem cd_P_writeFrom_33 : decode cb_P_writeFrom 33 = .ok (.iconst (-1), 1) := by decide +kernel
theorem cd_P_writeFrom_34 : decode cb_P_writeFrom 34 = .ok (.invokevirtual 39, 3) := by decide +kernel
theorem cd_P_writeFrom_37 : decode cb_P_writeFrom 37 = .ok (.istore 5, 2) := by decide +kernel
theorem cd_P_writeFrom_39 : decode cb_P_writeFrom 39 = .ok (.iconst 0, 1) := by decide +kernel
theorem cd_P_writeFrom_40 : decode cb_P_writeFrom 40 = .ok (.istore 6, 2) := by decide +kernel
theorem cd_P_writeFrom_42 : decode cb_P_writeFrom 42 = .ok (.iload 6, 2) := by decide +kernel
theorem cd_P_writeFrom_44 : decode cb_P_writeFrom 44 = .ok (.aload_n 1, 1) := by decide +kernel
theorem cd_P_writeFrom_45 : decode cb_P_writeFrom 45 = .ok (.getfield 43, 3) := by decide +kernel
theorem cd_P_writeFrom_48 : decode cb_P_writeFrom 48 = .ok (.if_icmp .ge 36, 3) := by decide +kernel
theorem cd_P_writeFrom_51 : decode cb_P_writeFrom 51 = .ok (.iload 5, 2) := by decide +kernel
theorem cd_P_writeFrom_53 : decode cb_P_writeFrom 53 = .ok (.iconst (-1), 1) := by decide +kernel
theorem cd_P_writeFrom_54 : decode cb_P_writeFrom 54 = .ok (.if_icmp .eq 30, 3) := by decide +kernel
theorem cd_P_writeFrom_57 : decode cb_P_writeFrom 57 = .ok (.aload_n 0, 1) := by decide +kernel
theorem cd_P_writeFrom_58 : decode cb_P_writeFrom 58 = .ok (.aload_n 1, 1) := by decide +kernel
theorem cd_P_writeFrom_59 : decode cb_P_writeFrom 59 = .ok (.aload_n 2, 1) := by decide +kernel
theorem cd_P_writeFrom_60 : decode cb_P_writeFrom 60 = .ok (.iload 5, 2) := by decide +kernel
theorem cd_P_writeFrom_62 : decode cb_P_writeFrom 62 = .ok (.iload 4, 2) := by decide +kernel
theorem cd_P_writeFrom_64 : decode cb_P_writeFrom 64 = .ok (.iconst 1, 1) := by decide +kernel
theorem cd_P_writeFrom_65 : decode cb_P_writeFrom 65 = .ok (.iadd, 1) := by decide +kernel
theorem cd_P_writeFrom_66 : decode cb_P_writeFrom 66 = .ok (.invokestatic 19, 3) := by decide +kernel
theorem cd_P_writeFrom_69 : decode cb_P_writeFrom 69 = .ok (.aload_n 1, 1) := by decide +kernel
theorem cd_P_writeFrom_70 : decode cb_P_writeFrom 70 = .ok (.iload_n 3, 1) := by decide +kernel
theorem cd_P_writeFrom_71 : decode cb_P_writeFrom 71 = .ok (.iload 5, 2) := by decide +kernel
theorem cd_P_writeFrom_73 : decode cb_P_writeFrom 73 = .ok (.invokevirtual 39, 3) := by decide +kernel
theorem cd_P_writeFrom_76 : decode cb_P_writeFrom 76 = .ok (.istore 5, 2) := by decide +kernel
theorem cd_P_writeFrom_78 : decode cb_P_writeFrom 78 = .ok (.iinc 6 1, 3) := by decide +kernel
theorem cd_P_writeFrom_81 : decode cb_P_writeFrom 81 = .ok (.goto (-39), 3) := by decide +kernel
theorem cd_P_writeFrom_84 : decode cb_P_writeFrom 84 = .ok (.return_, 1) := by decide +kernel
theorem cd_P_writeLine_0 : decode cb_P_writeLine 0 = .ok (.iconst 0, 1) := by decide +kernel
theorem cd_P_writeLine_1 : decode cb_P_writeLine 1 = .ok (.istore_n 3, 1) := by decide +kernel
theorem cd_P_writeLine_2 : decode cb_P_writeLine 2 = .ok (.iload_n 3, 1) := by decide +kernel
theorem cd_P_writeLine_3 : decode cb_P_writeLine 3 = .ok (.aload_n 1, 1) := by decide +kernel
theorem cd_P_writeLine_4 : decode cb_P_writeLine 4 = .ok (.getfield 46, 3) := by decide +kernel
theorem cd_P_writeLine_7 : decode cb_P_writeLine 7 = .ok (.iload_n 2, 1) := by decide +kernel
theorem cd_P_writeLine_8 : decode cb_P_writeLine 8 = .ok (.iaload, 1) := by decide +kernel
theorem cd_P_writeLine_9 : decode cb_P_writeLine 9 = .ok (.if_icmp .ge 15, 3) := by decide +kernel
theorem cd_P_writeLine_12 : decode cb_P_writeLine 12 = .ok (.aload_n 0, 1) := by decide +kernel
theorem cd_P_writeLine_13 : decode cb_P_writeLine 13 = .ok (.bipush 43, 2) := by decide +kernel
theorem cd_P_writeLine_15 : decode cb_P_writeLine 15 = .ok (.invokevirtual 49, 3) := by decide +kernel
theorem cd_P_writeLine_18 : decode cb_P_writeLine 18 = .ok (.iinc 3 1, 3) := by decide +kernel
theorem cd_P_writeLine_21 : decode cb_P_writeLine 21 = .ok (.goto (-19), 3) := by decide +kernel
theorem cd_P_writeLine_24 : decode cb_P_writeLine 24 = .ok (.aload_n 0, 1) := by decide +kernel
theorem cd_P_writeLine_25 : decode cb_P_writeLine 25 = .ok (.getstatic 53, 3) := by decide +kernel
theorem cd_P_writeLine_28 : decode cb_P_writeLine 28 = .ok (.aload_n 1, 1) := by decide +kernel
theorem cd_P_writeLine_29 : decode cb_P_writeLine 29 = .ok (.getfield 57, 3) := by decide +kernel
theorem cd_P_writeLine_32 : decode cb_P_writeLine 32 = .ok (.iload_n 2, 1) := by decide +kernel
theorem cd_P_writeLine_33 : decode cb_P_writeLine 33 = .ok (.iaload, 1) := by decide +kernel
theorem cd_P_writeLine_34 : decode cb_P_writeLine 34 = .ok (.invokevirtual 60, 3) := by decide +kernel
theorem cd_P_writeLine_37 : decode cb_P_writeLine 37 = .ok (.aload_n 0, 1) := by decide +kernel
theorem cd_P_writeLine_38 : decode cb_P_writeLine 38 = .ok (.aload_n 1, 1) := by decide +kernel
theorem cd_P_writeLine_39 : decode cb_P_writeLine 39 = .ok (.getfield 64, 3) := by decide +kernel
theorem cd_P_writeLine_42 : decode cb_P_writeLine 42 = .ok (.iload_n 2, 1) := by decide +kernel
theorem cd_P_writeLine_43 : decode cb_P_writeLine 43 = .ok (.iaload, 1) := by decide +kernel
theorem cd_P_writeLine_44 : decode cb_P_writeLine 44 = .ok (.invokevirtual 67, 3) := by decide +kernel
theorem cd_P_writeLine_47 : decode cb_P_writeLine 47 = .ok (.aload_n 0, 1) := by decide +kernel
theorem cd_P_writeLine_48 : decode cb_P_writeLine 48 = .ok (.bipush 32, 2) := by decide +kernel
theorem cd_P_writeLine_50 : decode cb_P_writeLine 50 = .ok (.invokevirtual 49, 3) := by decide +kernel
theorem cd_P_writeLine_53 : decode cb_P_writeLine 53 = .ok (.iconst 0, 1) := by decide +kernel
theorem cd_P_writeLine_54 : decode cb_P_writeLine 54 = .ok (.istore_n 3, 1) := by decide +kernel
theorem cd_P_writeLine_55 : decode cb_P_writeLine 55 = .ok (.iload_n 3, 1) := by decide +kernel
theorem cd_P_writeLine_56 : decode cb_P_writeLine 56 = .ok (.aload_n 1, 1) := by decide +kernel
theorem cd_P_writeLine_57 : decode cb_P_writeLine 57 = .ok (.getfield 70, 3) := by decide +kernel
theorem cd_P_writeLine_60 : decode cb_P_writeLine 60 = .ok (.iload_n 2, 1) := by decide +kernel
theorem cd_P_writeLine_61 : decode cb_P_writeLine 61 = .ok (.iaload, 1) := by decide +kernel
theorem cd_P_writeLine_62 : decode cb_P_writeLine 62 = .ok (.if_icmp .ge 19, 3) := by decide +kernel
theorem cd_P_writeLine_65 : decode cb_P_writeLine 65 = .ok (.aload_n 0, 1) := by decide +kernel
theorem cd_P_writeLine_66 : decode cb_P_writeLine 66 = .ok (.aload_n 1, 1) := by decide +kernel
theorem cd_P_writeLine_67 : decode cb_P_writeLine 67 = .ok (.iload_n 2, 1) := by decide +kernel
theorem cd_P_writeLine_68 : decode cb_P_writeLine 68 = .ok (.iload_n 3, 1) := by decide +kernel
theorem cd_P_writeLine_69 : decode cb_P_writeLine 69 = .ok (.invokevirtual 73, 3) := by decide +kernel
theorem cd_P_writeLine_72 : decode cb_P_writeLine 72 = .ok (.invokevirtual 49, 3) := by decide +kernel
theorem cd_P_writeLine_75 : decode cb_P_writeLine 75 = .ok (.iinc 3 1, 3) := by decide +kernel
theorem cd_P_writeLine_78 : decode cb_P_writeLine 78 = .ok (.goto (-23), 3) := by decide +kernel
theorem cd_P_writeLine_81 : decode cb_P_writeLine 81 = .ok (.aload_n 1, 1) := by decide +kernel
theorem cd_P_writeLine_82 : decode cb_P_writeLine 82 = .ok (.getfield 76, 3) := by decide +kernel
theorem cd_P_writeLine_85 : decode cb_P_writeLine 85 = .ok (.iload_n 2, 1) := by decide +kernel
theorem cd_P_writeLine_86 : decode cb_P_writeLine 86 = .ok (.iaload, 1) := by decide +kernel
theorem cd_P_writeLine_87 : decode cb_P_writeLine 87 = .ok (.iconst (-1), 1) := by decide +kernel
theorem cd_P_writeLine_88 : decode cb_P_writeLine 88 = .ok (.if_icmp .eq 9, 3) := by decide +kernel
theorem cd_P_writeLine_91 : decode cb_P_writeLine 91 = .ok (.aload_n 0, 1) := by decide +kernel
theorem cd_P_writeLine_92 : decode cb_P_writeLine 92 = .ok (.aload_n 1, 1) := by decide +kernel
theorem cd_P_writeLine_93 : decode cb_P_writeLine 93 = .ok (.iload_n 2, 1) := by decide +kernel
theorem cd_P_writeLine_94 : decode cb_P_writeLine 94 = .ok (.invokevirtual 79, 3) := by decide +kernel
theorem cd_P_writeLine_97 : decode cb_P_writeLine 97 = .ok (.aload_n 1, 1) := by decide +kernel
theorem cd_P_writeLine_98 : decode cb_P_writeLine 98 = .ok (.getfield 82, 3) := by decide +kernel
theorem cd_P_writeLine_101 : decode cb_P_writeLine 101 = .ok (.iload_n 2, 1) := by decide +kernel
theorem cd_P_writeLine_102 : decode cb_P_writeLine 102 = .ok (.iaload, 1) := by decide +kernel
theorem cd_P_writeLine_103 : decode cb_P_writeLine 103 = .ok (.iconst (-1), 1) := by decide +kernel
theorem cd_P_writeLine_104 : decode cb_P_writeLine 104 = .ok (.if_icmp .eq 38, 3) := by decide +kernel
theorem cd_P_writeLine_107 : decode cb_P_writeLine 107 = .ok (.aload_n 0, 1) := by decide +kernel
theorem cd_P_writeLine_108 : decode cb_P_writeLine 108 = .ok (.bipush 32, 2) := by decide +kernel
theorem cd_P_writeLine_110 : decode cb_P_writeLine 110 = .ok (.invokevirtual 49, 3) := by decide +kernel
theorem cd_P_writeLine_113 : decode cb_P_writeLine 113 = .ok (.aload_n 0, 1) := by decide +kernel
theorem cd_P_writeLine_114 : decode cb_P_writeLine 114 = .ok (.bipush 101, 2) := by decide +kernel
theorem cd_P_writeLine_116 : decode cb_P_writeLine 116 = .ok (.invokevirtual 49, 3) := by decide +kernel
theorem cd_P_writeLine_119 : decode cb_P_writeLine 119 = .ok (.aload_n 0, 1) := by decide +kernel
theorem cd_P_writeLine_120 : decode cb_P_writeLine 120 = .ok (.aload_n 1, 1) := by decide +kernel
theorem cd_P_writeLine_121 : decode cb_P_writeLine 121 = .ok (.getfield 85, 3) := by decide +kernel
theorem cd_P_writeLine_124 : decode cb_P_writeLine 124 = .ok (.iload_n 2, 1) := by decide +kernel
theorem cd_P_writeLine_125 : decode cb_P_writeLine 125 = .ok (.iaload, 1) := by decide +kernel
theorem cd_P_writeLine_126 : decode cb_P_writeLine 126 = .ok (.invokevirtual 67, 3) := by decide +kernel
theorem cd_P_writeLine_129 : decode cb_P_writeLine 129 = .ok (.aload_n 0, 1) := by decide +kernel
theorem cd_P_writeLine_130 : decode cb_P_writeLine 130 = .ok (.getstatic 88, 3) := by decide +kernel
theorem cd_P_writeLine_133 : decode cb_P_writeLine 133 = .ok (.aload_n 1, 1) := by decide +kernel
theorem cd_P_writeLine_134 : decode cb_P_writeLine 134 = .ok (.getfield 82, 3) := by decide +kernel
theorem cd_P_writeLine_137 : decode cb_P_writeLine 137 = .ok (.iload_n 2, 1) := by decide +kernel
theorem cd_P_writeLine_138 : decode cb_P_writeLine 138 = .ok (.iaload, 1) := by decide +kernel
theorem cd_P_writeLine_139 : decode cb_P_writeLine 139 = .ok (.invokevirtual 60, 3) := by decide +kernel
theorem cd_P_writeLine_142 : decode cb_P_writeLine 142 = .ok (.aload_n 0, 1) := by decide +kernel
theorem cd_P_writeLine_143 : decode cb_P_writeLine 143 = .ok (.bipush 10, 2) := by decide +kernel
theorem cd_P_writeLine_145 : decode cb_P_writeLine 145 = .ok (.invokevirtual 49, 3) := by decide +kernel
theorem cd_P_writeLine_148 : decode cb_P_writeLine 148 = .ok (.return_, 1) := by decide +kernel
theorem cd_P_writeDate_0 : decode cb_P_writeDate 0 = .ok (.aload_n 0, 1) := by decide +kernel
theorem cd_P_writeDate_1 : decode cb_P_writeDate 1 = .ok (.bipush 32, 2) := by decide +kernel
theorem cd_P_writeDate_3 : decode cb_P_writeDate 3 = .ok (.invokevirtual 49, 3) := by decide +kernel
theorem cd_P_writeDate_6 : decode cb_P_writeDate 6 = .ok (.aload_n 0, 1) := by decide +kernel
theorem cd_P_writeDate_7 : decode cb_P_writeDate 7 = .ok (.bipush 100, 2) := by decide +kernel
theorem cd_P_writeDate_9 : decode cb_P_writeDate 9 = .ok (.invokevirtual 49, 3) := by decide +kernel
theorem cd_P_writeDate_12 : decode cb_P_writeDate 12 = .ok (.aload_n 0, 1) := by decide +kernel
theorem cd_P_writeDate_13 : decode cb_P_writeDate 13 = .ok (.aload_n 1, 1) := by decide +kernel
theorem cd_P_writeDate_14 : decode cb_P_writeDate 14 = .ok (.getfield 76, 3) := by decide +kernel
theorem cd_P_writeDate_17 : decode cb_P_writeDate 17 = .ok (.iload_n 2, 1) := by decide +kernel
theorem cd_P_writeDate_18 : decode cb_P_writeDate 18 = .ok (.iaload, 1) := by decide +kernel
theorem cd_P_writeDate_19 : decode cb_P_writeDate 19 = .ok (.invokevirtual 67, 3) := by decide +kernel
theorem cd_P_writeDate_22 : decode cb_P_writeDate 22 = .ok (.aload_n 1, 1) := by decide +kernel
theorem cd_P_writeDate_23 : decode cb_P_writeDate 23 = .ok (.getfield 91, 3) := by decide +kernel
theorem cd_P_writeDate_26 : decode cb_P_writeDate 26 = .ok (.iload_n 2, 1) := by decide +kernel
theorem cd_P_writeDate_27 : decode cb_P_writeDate 27 = .ok (.iaload, 1) := by decide +kernel
theorem cd_P_writeDate_28 : decode cb_P_writeDate 28 = .ok (.aload_n 1, 1) := by decide +kernel
theorem cd_P_writeDate_29 : decode cb_P_writeDate 29 = .ok (.getfield 76, 3) := by decide +kernel
theorem cd_P_writeDate_32 : decode cb_P_writeDate 32 = .ok (.iload_n 2, 1) := by decide +kernel
theorem cd_P_writeDate_33 : decode cb_P_writeDate 33 = .ok (.iaload, 1) := by decide +kernel
theorem cd_P_writeDate_34 : decode cb_P_writeDate 34 = .ok (.if_icmp .eq 19, 3) := by decide +kernel
theorem cd_P_writeDate_37 : decode cb_P_writeDate 37 = .ok (.aload_n 0, 1) := by decide +kernel
theorem cd_P_writeDate_38 : decode cb_P_writeDate 38 = .ok (.bipush 45, 2) := by decide +kernel
theorem cd_P_writeDate_40 : decode cb_P_writeDate 40 = .ok (.invokevirtual 49, 3) := by decide +kernel
theorem cd_P_writeDate_43 : decode cb_P_writeDate 43 = .ok (.aload_n 0, 1) := by decide +kernel
theorem cd_P_writeDate_44 : decode cb_P_writeDate 44 = .ok (.aload_n 1, 1) := by decide +kernel
theorem cd_P_writeDate_45 : decode cb_P_writeDate 45 = .ok (.getfield 91, 3) := by decide +kernel
theorem cd_P_writeDate_48 : decode cb_P_writeDate 48 = .ok (.iload_n 2, 1) := by decide +kernel
theorem cd_P_writeDate_49 : decode cb_P_writeDate 49 = .ok (.iaload, 1) := by decide +kernel
theorem cd_P_writeDate_50 : decode cb_P_writeDate 50 = .ok (.invokevirtual 67, 3) := by decide +kernel
theorem cd_P_writeDate_53 : decode cb_P_writeDate 53 = .ok (.aload_n 1, 1) := by decide +kernel
theorem cd_P_writeDate_54 : decode cb_P_writeDate 54 = .ok (.getfield 94, 3) := by decide +kernel
theorem cd_P_writeDate_57 : decode cb_P_writeDate 57 = .ok (.iload_n 2, 1) := by decide +kernel
theorem cd_P_writeDate_58 : decode cb_P_writeDate 58 = .ok (.iaload, 1) := by decide +kernel
theorem cd_P_writeDate_59 : decode cb_P_writeDate 59 = .ok (.iconst 1, 1) := by decide +kernel
theorem cd_P_writeDate_60 : decode cb_P_writeDate 60 = .ok (.if_icmp .ne 9, 3) := by decide +kernel
theorem cd_P_writeDate_63 : decode cb_P_writeDate 63 = .ok (.aload_n 0, 1) := by decide +kernel
theorem cd_P_writeDate_64 : decode cb_P_writeDate 64 = .ok (.bipush 63, 2) := by decide +kernel
theorem cd_P_writeDate_66 : decode cb_P_writeDate 66 = .ok (.invokevirtual 49, 3) := by decide +kernel
theorem cd_P_writeDate_69 : decode cb_P_writeDate 69 = .ok (.return_, 1) := by decide +kernel
theorem cd_P_putNumber_0 : decode cb_P_putNumber 0 = .ok (.sipush 1000, 3) := by decide +kernel
theorem cd_P_putNumber_3 : decode cb_P_putNumber 3 = .ok (.istore_n 2, 1) := by decide +kernel
theorem cd_P_putNumber_4 : decode cb_P_putNumber 4 = .ok (.iload_n 2, 1) := by decide +kernel
theorem cd_P_putNumber_5 : decode cb_P_putNumber 5 = .ok (.iconst 1, 1) := by decide +kernel
theorem cd_P_putNumber_6 : decode cb_P_putNumber 6 = .ok (.if_icmp .lt 29, 3) := by decide +kernel
theorem cd_P_putNumber_9 : decode cb_P_putNumber 9 = .ok (.iload_n 1, 1) := by decide +kernel
theorem cd_P_putNumber_10 : decode cb_P_putNumber 10 = .ok (.iload_n 2, 1) := by decide +kernel
theorem cd_P_putNumber_11 : decode cb_P_putNumber 11 = .ok (.if_icmp .lt 16, 3) := by decide +kernel
theorem cd_P_putNumber_14 : decode cb_P_putNumber 14 = .ok (.aload_n 0, 1) := by decide +kernel
theorem cd_P_putNumber_15 : decode cb_P_putNumber 15 = .ok (.bipush 48, 2) := by decide +kernel
theorem cd_P_putNumber_17 : decode cb_P_putNumber 17 = .ok (.iload_n 1, 1) := by decide +kernel
theorem cd_P_putNumber_18 : decode cb_P_putNumber 18 = .ok (.iload_n 2, 1) := by decide +kernel
theorem cd_P_putNumber_19 : decode cb_P_putNumber 19 = .ok (.idiv, 1) := by decide +kernel
theorem cd_P_putNumber_20 : decode cb_P_putNumber 20 = .ok (.bipush 10, 2) := by decide +kernel
theorem cd_P_putNumber_22 : decode cb_P_putNumber 22 = .ok (.irem, 1) := by decide +kernel
theorem cd_P_putNumber_23 : decode cb_P_putNumber 23 = .ok (.iadd, 1) := by decide +kernel
theorem cd_P_putNumber_24 : decode cb_P_putNumber 24 = .ok (.invokevirtual 49, 3) := by decide +kernel
theorem cd_P_putNumber_27 : decode cb_P_putNumber 27 = .ok (.iload_n 2, 1) := by decide +kernel
theorem cd_P_putNumber_28 : decode cb_P_putNumber 28 = .ok (.bipush 10, 2) := by decide +kernel
theorem cd_P_putNumber_30 : decode cb_P_putNumber 30 = .ok (.idiv, 1) := by decide +kernel
theorem cd_P_putNumber_31 : decode cb_P_putNumber 31 = .ok (.istore_n 2, 1) := by decide +kernel
theorem cd_P_putNumber_32 : decode cb_P_putNumber 32 = .ok (.goto (-28), 3) := by decide +kernel
theorem cd_P_putNumber_35 : decode cb_P_putNumber 35 = .ok (.return_, 1) := by decide +kernel
theorem cd_P_putOneOf_0 : decode cb_P_putOneOf 0 = .ok (.iload_n 2, 1) := by decide +kernel
theorem cd_P_putOneOf_1 : decode cb_P_putOneOf 1 = .ok (.ifCond .lt 16, 3) := by decide +kernel
theorem cd_P_putOneOf_4 : decode cb_P_putOneOf 4 = .ok (.iload_n 2, 1) := by decide +kernel
theorem cd_P_putOneOf_5 : decode cb_P_putOneOf 5 = .ok (.aload_n 1, 1) := by decide +kernel
theorem cd_P_putOneOf_6 : decode cb_P_putOneOf 6 = .ok (.arraylength, 1) := by decide +kernel
theorem cd_P_putOneOf_7 : decode cb_P_putOneOf 7 = .ok (.if_icmp .ge 10, 3) := by decide +kernel
theorem cd_P_putOneOf_10 : decode cb_P_putOneOf 10 = .ok (.aload_n 0, 1) := by decide +kernel
theorem cd_P_putOneOf_11 : decode cb_P_putOneOf 11 = .ok (.aload_n 1, 1) := by decide +kernel
theorem cd_P_putOneOf_12 : decode cb_P_putOneOf 12 = .ok (.iload_n 2, 1) := by decide +kernel
theorem cd_P_putOneOf_13 : decode cb_P_putOneOf 13 = .ok (.caload, 1) := by decide +kernel
theorem cd_P_putOneOf_14 : decode cb_P_putOneOf 14 = .ok (.invokevirtual 49, 3) := by decide +kernel
theorem cd_P_putOneOf_17 : decode cb_P_putOneOf 17 = .ok (.return_, 1) := by decide +kernel
theorem cd_P_put_0 : decode cb_P_put 0 = .ok (.aload_n 0, 1) := by decide +kernel
theorem cd_P_put_1 : decode cb_P_put 1 = .ok (.getfield 15, 3) := by decide +kernel
theorem cd_P_put_4 : decode cb_P_put 4 = .ok (.aload_n 0, 1) := by decide +kernel
theorem cd_P_put_5 : decode cb_P_put 5 = .ok (.getfield 9, 3) := by decide +kernel
theorem cd_P_put_8 : decode cb_P_put 8 = .ok (.arraylength, 1) := by decide +kernel
theorem cd_P_put_9 : decode cb_P_put 9 = .ok (.if_icmp .ge 23, 3) := by decide +kernel
theorem cd_P_put_12 : decode cb_P_put 12 = .ok (.aload_n 0, 1) := by decide +kernel
theorem cd_P_put_13 : decode cb_P_put 13 = .ok (.getfield 9, 3) := by decide +kernel
theorem cd_P_put_16 : decode cb_P_put 16 = .ok (.aload_n 0, 1) := by decide +kernel
theorem cd_P_put_17 : decode cb_P_put 17 = .ok (.getfield 15, 3) := by decide +kernel
theorem cd_P_put_20 : decode cb_P_put 20 = .ok (.iload_n 1, 1) := by decide +kernel
theorem cd_P_put_21 : decode cb_P_put 21 = .ok (.iastore, 1) := by decide +kernel
theorem cd_P_put_22 : decode cb_P_put 22 = .ok (.aload_n 0, 1) := by decide +kernel
theorem cd_P_put_23 : decode cb_P_put 23 = .ok (.dup, 1) := by decide +kernel
theorem cd_P_put_24 : decode cb_P_put 24 = .ok (.getfield 15, 3) := by decide +kernel
theorem cd_P_put_27 : decode cb_P_put 27 = .ok (.iconst 1, 1) := by decide +kernel
theorem cd_P_put_28 : decode cb_P_put 28 = .ok (.iadd, 1) := by decide +kernel
theorem cd_P_put_29 : decode cb_P_put 29 = .ok (.putfield 15, 3) := by decide +kernel
theorem cd_P_put_32 : decode cb_P_put 32 = .ok (.return_, 1) := by decide +kernel
theorem cd_S_init_0 : decode cb_S_init 0 = .ok (.aload_n 0, 1) := by decide +kernel
theorem cd_S_init_1 : decode cb_S_init 1 = .ok (.invokespecial 3, 3) := by decide +kernel
theorem cd_S_init_4 : decode cb_S_init 4 = .ok (.aload_n 0, 1) := by decide +kernel
theorem cd_S_init_5 : decode cb_S_init 5 = .ok (.sipush 300, 3) := by decide +kernel
theorem cd_S_init_8 : decode cb_S_init 8 = .ok (.newarray .int, 2) := by decide +kernel
theorem cd_S_init_10 : decode cb_S_init 10 = .ok (.putfield 9, 3) := by decide +kernel
theorem cd_S_init_13 : decode cb_S_init 13 = .ok (.aload_n 0, 1) := by decide +kernel
theorem cd_S_init_14 : decode cb_S_init 14 = .ok (.sipush 300, 3) := by decide +kernel
theorem cd_S_init_17 : decode cb_S_init 17 = .ok (.newarray .int, 2) := by decide +kernel
theorem cd_S_init_19 : decode cb_S_init 19 = .ok (.putfield 15, 3) := by decide +kernel
theorem cd_S_init_22 : decode cb_S_init 22 = .ok (.return_, 1) := by decide +kernel
theorem cd_S_weigh_0 : decode cb_S_weigh 0 = .ok (.aload_n 0, 1) := by decide +kernel
theorem cd_S_weigh_1 : decode cb_S_weigh 1 = .ok (.getfield 15, 3) := by decide +kernel
theorem cd_S_weigh_4 : decode cb_S_weigh 4 = .ok (.iconst 0, 1) := by decide +kernel
theorem cd_S_weigh_5 : decode cb_S_weigh 5 = .ok (.invokestatic 18, 3) := by decide +kernel
theorem cd_S_weigh_8 : decode cb_S_weigh 8 = .ok (.bipush 8, 2) := by decide +kernel
theorem cd_S_weigh_10 : decode cb_S_weigh 10 = .ok (.istore_n 2, 1) := by decide +kernel
theorem cd_S_weigh_11 : decode cb_S_weigh 11 = .ok (.iload_n 2, 1) := by decide +kernel
theorem cd_S_weigh_12 : decode cb_S_weigh 12 = .ok (.ifCond .lt 41, 3) := by decide +kernel
theorem cd_S_weigh_15 : decode cb_S_weigh 15 = .ok (.iconst 0, 1) := by decide +kernel
theorem cd_S_weigh_16 : decode cb_S_weigh 16 = .ok (.istore_n 3, 1) := by decide +kernel
theorem cd_S_weigh_17 : decode cb_S_weigh 17 = .ok (.iload_n 3, 1) := by decide +kernel
theorem cd_S_weigh_18 : decode cb_S_weigh 18 = .ok (.aload_n 1, 1) := by decide +kernel
theorem cd_S_weigh_19 : decode cb_S_weigh 19 = .ok (.getfield 24, 3) := by decide +kernel
theorem cd_S_weigh_22 : decode cb_S_weigh 22 = .ok (.if_icmp .ge 25, 3) := by decide +kernel
theorem cd_S_weigh_25 : decode cb_S_weigh 25 = .ok (.aload_n 1, 1) := by decide +kernel
theorem cd_S_weigh_26 : decode cb_S_weigh 26 = .ok (.getfield 30, 3) := by decide +kernel
theorem cd_S_weigh_29 : decode cb_S_weigh 29 = .ok (.iload_n 3, 1) := by decide +kernel
theorem cd_S_weigh_30 : decode cb_S_weigh 30 = .ok (.iaload, 1) := by decide +kernel
theorem cd_S_weigh_31 : decode cb_S_weigh 31 = .ok (.iload_n 2, 1) := by decide +kernel
theorem cd_S_weigh_32 : decode cb_S_weigh 32 = .ok (.if_icmp .ne 9, 3) := by decide +kernel
theorem cd_S_weigh_35 : decode cb_S_weigh 35 = .ok (.aload_n 0, 1) := by decide +kernel
theorem cd_S_weigh_36 : decode cb_S_weigh 36 = .ok (.aload_n 1, 1) := by decide +kernel
theorem cd_S_weigh_37 : decode cb_S_weigh 37 = .ok (.iload_n 3, 1) := by decide +kernel
theorem cd_S_weigh_38 : decode cb_S_weigh 38 = .ok (.invokevirtual 33, 3) := by decide +kernel
theorem cd_S_weigh_41 : decode cb_S_weigh 41 = .ok (.iinc 3 1, 3) := by decide +kernel
theorem cd_S_weigh_44 : decode cb_S_weigh 44 = .ok (.goto (-27), 3) := by decide +kernel
theorem cd_S_weigh_47 : decode cb_S_weigh 47 = .ok (.iinc 2 (-1), 3) := by decide +kernel
theorem cd_S_weigh_50 : decode cb_S_weigh 50 = .ok (.goto (-39), 3) := by decide +kernel
theorem cd_S_weigh_53 : decode cb_S_weigh 53 = .ok (.return_, 1) := by decide +kernel
theorem cd_S_weighOne_0 : decode cb_S_weighOne 0 = .ok (.aload_n 1, 1) := by decide +kernel
theorem cd_S_weighOne_1 : decode cb_S_weighOne 1 = .ok (.getfield 37, 3) := by decide +kernel
theorem cd_S_weighOne_4 : decode cb_S_weighOne 4 = .ok (.iload_n 2, 1) := by decide +kernel
theorem cd_S_weighOne_5 : decode cb_S_weighOne 5 = .ok (.iaload, 1) := by decide +kernel
theorem cd_S_weighOne_6 : decode cb_S_weighOne 6 = .ok (.istore_n 3, 1) := by decide +kernel
theorem cd_S_weighOne_7 : decode cb_S_weighOne 7 = .ok (.iconst 0, 1) := by decide +kernel
theorem cd_S_weighOne_8 : decode cb_S_weighOne 8 = .ok (.istore 4, 2) := by decide +kernel
theorem cd_S_weighOne_10 : decode cb_S_weighOne 10 = .ok (.iload 4, 2) := by decide +kernel
theorem cd_S_weighOne_12 : decode cb_S_weighOne 12 = .ok (.iconst 3, 1) := by decide +kernel
theorem cd_S_weighOne_13 : decode cb_S_weighOne 13 = .ok (.if_icmp .ge 83, 3) := by decide +kernel
theorem cd_S_weighOne_16 : decode cb_S_weighOne 16 = .ok (.iload 4, 2) := by decide +kernel
theorem cd_S_weighOne_18 : decode cb_S_weighOne 18 = .ok (.bipush 100, 2) := by decide +kernel
theorem cd_S_weighOne_20 : decode cb_S_weighOne 20 = .ok (.imul, 1) := by decide +kernel
theorem cd_S_weighOne_21 : decode cb_S_weighOne 21 = .ok (.istore 5, 2) := by decide +kernel
theorem cd_S_weighOne_23 : decode cb_S_weighOne 23 = .ok (.aload_n 0, 1) := by decide +kernel
theorem cd_S_weighOne_24 : decode cb_S_weighOne 24 = .ok (.getfield 9, 3) := by decide +kernel
theorem cd_S_weighOne_27 : decode cb_S_weighOne 27 = .ok (.iload 5, 2) := by decide +kernel
theorem cd_S_weighOne_29 : decode cb_S_weighOne 29 = .ok (.iload_n 2, 1) := by decide +kernel
theorem cd_S_weighOne_30 : decode cb_S_weighOne 30 = .ok (.iadd, 1) := by decide +kernel
theorem cd_S_weighOne_31 : decode cb_S_weighOne 31 = .ok (.aload_n 1, 1) := by decide +kernel
theorem cd_S_weighOne_32 : decode cb_S_weighOne 32 = .ok (.getfield 40, 3) := by decide +kernel
theorem cd_S_weighOne_35 : decode cb_S_weighOne 35 = .ok (.iload_n 2, 1) := by decide +kernel
theorem cd_S_weighOne_36 : decode cb_S_weighOne 36 = .ok (.iaload, 1) := by decide +kernel
theorem cd_S_weighOne_37 : decode cb_S_weighOne 37 = .ok (.iload 4, 2) := by decide +kernel
theorem cd_S_weighOne_39 : decode cb_S_weighOne 39 = .ok (.if_icmp .ne 12, 3) := by decide +kernel
theorem cd_S_weighOne_42 : decode cb_S_weighOne 42 = .ok (.aload_n 1, 1) := by decide +kernel
theorem cd_S_weighOne_43 : decode cb_S_weighOne 43 = .ok (.getfield 43, 3) := by decide +kernel
theorem cd_S_weighOne_46 : decode cb_S_weighOne 46 = .ok (.iload_n 2, 1) := by decide +kernel
theorem cd_S_weighOne_47 : decode cb_S_weighOne 47 = .ok (.iaload, 1) := by decide +kernel
theorem cd_S_weighOne_48 : decode cb_S_weighOne 48 = .ok (.goto 12, 3) := by decide +kernel
theorem cd_S_weighOne_51 : decode cb_S_weighOne 51 = .ok (.aload_n 0, 1) := by decide +kernel
theorem cd_S_weighOne_52 : decode cb_S_weighOne 52 = .ok (.getfield 15, 3) := by decide +kernel
theorem cd_S_weighOne_55 : decode cb_S_weighOne 55 = .ok (.iload 5, 2) := by decide +kernel
theorem cd_S_weighOne_57 : decode cb_S_weighOne 57 = .ok (.iload_n 2, 1) := by decide +kernel
theorem cd_S_weighOne_58 : decode cb_S_weighOne 58 = .ok (.iadd, 1) := by decide +kernel
theorem cd_S_weighOne_59 : decode cb_S_weighOne 59 = .ok (.iaload, 1) := by decide +kernel
theorem cd_S_weighOne_60 : decode cb_S_weighOne 60 = .ok (.iastore, 1) := by decide +kernel
theorem cd_S_weighOne_61 : decode cb_S_weighOne 61 = .ok (.aload_n 1, 1) := by decide +kernel
theorem cd_S_weighOne_62 : decode cb_S_weighOne 62 = .ok (.iload_n 3, 1) := by decide +kernel
theorem cd_S_weighOne_63 : decode cb_S_weighOne 63 = .ok (.invokevirtual 46, 3) := by decide +kernel
theorem cd_S_weighOne_66 : decode cb_S_weighOne 66 = .ok (.ifCond .eq 24, 3) := by decide +kernel
theorem cd_S_weighOne_69 : decode cb_S_weighOne 69 = .ok (.aload_n 0, 1) := by decide +kernel
theorem cd_S_weighOne_70 : decode cb_S_weighOne 70 = .ok (.getfield 15, 3) := by decide +kernel
theorem cd_S_weighOne_73 : decode cb_S_weighOne 73 = .ok (.iload 5, 2) := by decide +kernel
theorem cd_S_weighOne_75 : decode cb_S_weighOne 75 = .ok (.iload_n 3, 1) := by decide +kernel
theorem cd_S_weighOne_76 : decode cb_S_weighOne 76 = .ok (.iadd, 1) := by decide +kernel
theorem cd_S_weighOne_77 : decode cb_S_weighOne 77 = .ok (.dup2, 1) := by decide +kernel
theorem cd_S_weighOne_78 : decode cb_S_weighOne 78 = .ok (.iaload, 1) := by decide +kernel
theorem cd_S_weighOne_79 : decode cb_S_weighOne 79 = .ok (.aload_n 0, 1) := by decide +kernel
theorem cd_S_weighOne_80 : decode cb_S_weighOne 80 = .ok (.getfield 9, 3) := by decide +kernel
theorem cd_S_weighOne_83 : decode cb_S_weighOne 83 = .ok (.iload 5, 2) := by decide +kernel
theorem cd_S_weighOne_85 : decode cb_S_weighOne 85 = .ok (.iload_n 2, 1) := by decide +kernel
theorem cd_S_weighOne_86 : decode cb_S_weighOne 86 = .ok (.iadd, 1) := by decide +kernel
theorem cd_S_weighOne_87 : decode cb_S_weighOne 87 = .ok (.iaload, 1) := by decide +kernel
theorem cd_S_weighOne_88 : decode cb_S_weighOne 88 = .ok (.iadd, 1) := by decide +kernel
theorem cd_S_weighOne_89 : decode cb_S_weighOne 89 = .ok (.iastore, 1) := by decide +kernel
theorem cd_S_weighOne_90 : decode cb_S_weighOne 90 = .ok (.iinc 4 1, 3) := by decide +kernel
theorem cd_S_weighOne_93 : decode cb_S_weighOne 93 = .ok (.goto (-83), 3) := by decide +kernel
theorem cd_S_weighOne_96 : decode cb_S_weighOne 96 = .ok (.return_, 1) := by decide +kernel
theorem cd_S_wholeOf_0 : decode cb_S_wholeOf 0 = .ok (.aload_n 0, 1) := by decide +kernel
theorem cd_S_wholeOf_1 : decode cb_S_wholeOf 1 = .ok (.getfield 9, 3) := by decide +kernel
theorem cd_S_wholeOf_4 : decode cb_S_wholeOf 4 = .ok (.iload_n 2, 1) := by decide +kernel
theorem cd_S_wholeOf_5 : decode cb_S_wholeOf 5 = .ok (.bipush 100, 2) := by decide +kernel
theorem cd_S_wholeOf_7 : decode cb_S_wholeOf 7 = .ok (.imul, 1) := by decide +kernel
theorem cd_S_wholeOf_8 : decode cb_S_wholeOf 8 = .ok (.iload_n 1, 1) := by decide +kernel
theorem cd_S_wholeOf_9 : decode cb_S_wholeOf 9 = .ok (.iadd, 1) := by decide +kernel
theorem cd_S_wholeOf_10 : decode cb_S_wholeOf 10 = .ok (.iaload, 1) := by decide +kernel
theorem cd_S_wholeOf_11 : decode cb_S_wholeOf 11 = .ok (.ireturn, 1) := by decide +kernel
theorem cd_S_contradicts_0 : decode cb_S_contradicts 0 = .ok (.aload_n 1, 1) := by decide +kernel
theorem cd_S_contradicts_1 : decode cb_S_contradicts 1 = .ok (.getfield 40, 3) := by decide +kernel
theorem cd_S_contradicts_4 : decode cb_S_contradicts 4 = .ok (.iload_n 2, 1) := by decide +kernel
theorem cd_S_contradicts_5 : decode cb_S_contradicts 5 = .ok (.iaload, 1) := by decide +kernel
theorem cd_S_contradicts_6 : decode cb_S_contradicts 6 = .ok (.istore_n 3, 1) := by decide +kernel
theorem cd_S_contradicts_7 : decode cb_S_contradicts 7 = .ok (.iload_n 3, 1) := by decide +kernel
theorem cd_S_contradicts_8 : decode cb_S_contradicts 8 = .ok (.iconst (-1), 1) := by decide +kernel
theorem cd_S_contradicts_9 : decode cb_S_contradicts 9 = .ok (.if_icmp .ne 5, 3) := by decide +kernel
theorem cd_S_contradicts_12 : decode cb_S_contradicts 12 = .ok (.iconst 0, 1) := by decide +kernel
theorem cd_S_contradicts_13 : decode cb_S_contradicts 13 = .ok (.ireturn, 1) := by decide +kernel
theorem cd_S_contradicts_14 : decode cb_S_contradicts 14 = .ok (.aload_n 0, 1) := by decide +kernel
theorem cd_S_contradicts_15 : decode cb_S_contradicts 15 = .ok (.getfield 15, 3) := by decide +kernel
theorem cd_S_contradicts_18 : decode cb_S_contradicts 18 = .ok (.iload_n 3, 1) := by decide +kernel
theorem cd_S_contradicts_19 : decode cb_S_contradicts 19 = .ok (.bipush 100, 2) := by decide +kernel
theorem cd_S_contradicts_21 : decode cb_S_contradicts 21 = .ok (.imul, 1) := by decide +kernel
theorem cd_S_contradicts_22 : decode cb_S_contradicts 22 = .ok (.iload_n 2, 1) := by decide +kernel
theorem cd_S_contradicts_23 : decode cb_S_contradicts 23 = .ok (.iadd, 1) := by decide +kernel
theorem cd_S_contradicts_24 : decode cb_S_contradicts 24 = .ok (.iaload, 1) := by decide +kernel
theorem cd_S_contradicts_25 : decode cb_S_contradicts 25 = .ok (.istore 4, 2) := by decide +kernel
theorem cd_S_contradicts_27 : decode cb_S_contradicts 27 = .ok (.iload 4, 2) := by decide +kernel
theorem cd_S_contradicts_29 : decode cb_S_contradicts 29 = .ok (.ifCond .eq 18, 3) := by decide +kernel
theorem cd_S_contradicts_32 : decode cb_S_contradicts 32 = .ok (.iload 4, 2) := by decide +kernel
theorem cd_S_contradicts_34 : decode cb_S_contradicts 34 = .ok (.aload_n 1, 1) := by decide +kernel
theorem cd_S_contradicts_35 : decode cb_S_contradicts 35 = .ok (.getfield 43, 3) := by decide +kernel
theorem cd_S_contradicts_38 : decode cb_S_contradicts 38 = .ok (.iload_n 2, 1) := by decide +kernel
theorem cd_S_contradicts_39 : decode cb_S_contradicts 39 = .ok (.iaload, 1) := by decide +kernel
theorem cd_S_contradicts_40 : decode cb_S_contradicts 40 = .ok (.if_icmp .eq 7, 3) := by decide +kernel
theorem cd_S_contradicts_43 : decode cb_S_contradicts 43 = .ok (.iconst 1, 1) := by decide +kernel
theorem cd_S_contradicts_44 : decode cb_S_contradicts 44 = .ok (.goto 4, 3) := by decide +kernel
theorem cd_S_contradicts_47 : decode cb_S_contradicts 47 = .ok (.iconst 0, 1) := by decide +kernel
theorem cd_S_contradicts_48 : decode cb_S_contradicts 48 = .ok (.ireturn, 1) := by decide +kernel
theorem cd_JA_fill_0 : decode cb_JA_fill 0 = .ok (.iconst 0, 1) := by decide +kernel
theorem cd_JA_fill_1 : decode cb_JA_fill 1 = .ok (.istore_n 2, 1) := by decide +kernel
theorem cd_JA_fill_2 : decode cb_JA_fill 2 = .ok (.aload_n 0, 1) := by decide +kernel
theorem cd_JA_fill_3 : decode cb_JA_fill 3 = .ok (.arraylength, 1) := by decide +kernel
theorem cd_JA_fill_4 : decode cb_JA_fill 4 = .ok (.istore_n 3, 1) := by decide +kernel
theorem cd_JA_fill_5 : decode cb_JA_fill 5 = .ok (.iload_n 2, 1) := by decide +kernel
theorem cd_JA_fill_6 : decode cb_JA_fill 6 = .ok (.iload_n 3, 1) := by decide +kernel
theorem cd_JA_fill_7 : decode cb_JA_fill 7 = .ok (.if_icmp .ge 13, 3) := by decide +kernel
theorem cd_JA_fill_10 : decode cb_JA_fill 10 = .ok (.aload_n 0, 1) := by decide +kernel
theorem cd_JA_fill_11 : decode cb_JA_fill 11 = .ok (.iload_n 2, 1) := by decide +kernel
theorem cd_JA_fill_12 : decode cb_JA_fill 12 = .ok (.iload_n 1, 1) := by decide +kernel
theorem cd_JA_fill_13 : decode cb_JA_fill 13 = .ok (.iastore, 1) := by decide +kernel
theorem cd_JA_fill_14 : decode cb_JA_fill 14 = .ok (.iinc 2 1, 3) := by decide +kernel
theorem cd_JA_fill_17 : decode cb_JA_fill 17 = .ok (.goto (-12), 3) := by decide +kernel
theorem cd_JA_fill_20 : decode cb_JA_fill 20 = .ok (.return_, 1) := by decide +kernel
end
section
theorem cd_F_init_0 : decode cb_F_init 0 = .ok (.aload_n 0, 1) := by decide +kernel
theorem cd_F_init_1 : decode cb_F_init 1 = .ok (.invokespecial 1, 3) := by decide +kernel
theorem cd_F_init_4 : decode cb_F_init 4 = .ok (.aload_n 0, 1) := by decide +kernel
theorem cd_F_init_5 : decode cb_F_init 5 = .ok (.new 7, 3) := by decide +kernel
theorem cd_F_init_8 : decode cb_F_init 8 = .ok (.dup, 1) := by decide +kernel
theorem cd_F_init_9 : decode cb_F_init 9 = .ok (.invokespecial 9, 3) := by decide +kernel
theorem cd_F_init_12 : decode cb_F_init 12 = .ok (.putfield 10, 3) := by decide +kernel
theorem cd_F_init_15 : decode cb_F_init 15 = .ok (.aload_n 0, 1) := by decide +kernel
theorem cd_F_init_16 : decode cb_F_init 16 = .ok (.new 16, 3) := by decide +kernel
theorem cd_F_init_19 : decode cb_F_init 19 = .ok (.dup, 1) := by decide +kernel
theorem cd_F_init_20 : decode cb_F_init 20 = .ok (.invokespecial 18, 3) := by decide +kernel
theorem cd_F_init_23 : decode cb_F_init 23 = .ok (.putfield 19, 3) := by decide +kernel
theorem cd_F_init_26 : decode cb_F_init 26 = .ok (.aload_n 0, 1) := by decide +kernel
theorem cd_F_init_27 : decode cb_F_init 27 = .ok (.new 23, 3) := by decide +kernel
theorem cd_F_init_30 : decode cb_F_init 30 = .ok (.dup, 1) := by decide +kernel
theorem cd_F_init_31 : decode cb_F_init 31 = .ok (.invokespecial 25, 3) := by decide +kernel
theorem cd_F_init_34 : decode cb_F_init 34 = .ok (.putfield 26, 3) := by decide +kernel
theorem cd_F_init_37 : decode cb_F_init 37 = .ok (.aload_n 0, 1) := by decide +kernel
theorem cd_F_init_38 : decode cb_F_init 38 = .ok (.new 30, 3) := by decide +kernel
theorem cd_F_init_41 : decode cb_F_init 41 = .ok (.dup, 1) := by decide +kernel
theorem cd_F_init_42 : decode cb_F_init 42 = .ok (.invokespecial 32, 3) := by decide +kernel
theorem cd_F_init_45 : decode cb_F_init 45 = .ok (.putfield 33, 3) := by decide +kernel
theorem cd_F_init_48 : decode cb_F_init 48 = .ok (.aload_n 0, 1) := by decide +kernel
theorem cd_F_init_49 : decode cb_F_init 49 = .ok (.new 37, 3) := by decide +kernel
theorem cd_F_init_52 : decode cb_F_init 52 = .ok (.dup, 1) := by decide +kernel
theorem cd_F_init_53 : decode cb_F_init 53 = .ok (.invokespecial 39, 3) := by decide +kernel
theorem cd_F_init_56 : decode cb_F_init 56 = .ok (.putfield 40, 3) := by decide +kernel
theorem cd_F_init_59 : decode cb_F_init 59 = .ok (.aload_n 0, 1) := by decide +kernel
theorem cd_F_init_60 : decode cb_F_init 60 = .ok (.new 44, 3) := by decide +kernel
theorem cd_F_init_63 : decode cb_F_init 63 = .ok (.dup, 1) := by decide +kernel
theorem cd_F_init_64 : decode cb_F_init 64 = .ok (.invokespecial 46, 3) := by decide +kernel
theorem cd_F_init_67 : decode cb_F_init 67 = .ok (.putfield 47, 3) := by decide +kernel
theorem cd_F_init_70 : decode cb_F_init 70 = .ok (.aload_n 0, 1) := by decide +kernel
theorem cd_F_init_71 : decode cb_F_init 71 = .ok (.new 44, 3) := by decide +kernel
theorem cd_F_init_74 : decode cb_F_init 74 = .ok (.dup, 1) := by decide +kernel
theorem cd_F_init_75 : decode cb_F_init 75 = .ok (.invokespecial 46, 3) := by decide +kernel
theorem cd_F_init_78 : decode cb_F_init 78 = .ok (.putfield 51, 3) := by decide +kernel
theorem cd_F_init_81 : decode cb_F_init 81 = .ok (.return_, 1) := by decide +kernel
theorem cd_F_sign_0 : decode cb_F_sign 0 = .ok (.aload_n 0, 1) := by decide +kernel
theorem cd_F_sign_1 : decode cb_F_sign 1 = .ok (.getfield 10, 3) := by decide +kernel
theorem cd_F_sign_4 : decode cb_F_sign 4 = .ok (.iload_n 1, 1) := by decide +kernel
theorem cd_F_sign_5 : decode cb_F_sign 5 = .ok (.sipush 255, 3) := by decide +kernel
theorem cd_F_sign_8 : decode cb_F_sign 8 = .ok (.iand, 1) := by decide +kernel
theorem cd_F_sign_9 : decode cb_F_sign 9 = .ok (.invokevirtual 54, 3) := by decide +kernel
theorem cd_F_sign_12 : decode cb_F_sign 12 = .ok (.return_, 1) := by decide +kernel
theorem cd_F_read_0 : decode cb_F_read 0 = .ok (.aload_n 0, 1) := by decide +kernel
theorem cd_F_read_1 : decode cb_F_read 1 = .ok (.getfield 10, 3) := by decide +kernel
theorem cd_F_read_4 : decode cb_F_read 4 = .ok (.invokevirtual 58, 3) := by decide +kernel
theorem cd_F_read_7 : decode cb_F_read 7 = .ok (.ifCond .ne 13, 3) := by decide +kernel
theorem cd_F_read_10 : decode cb_F_read 10 = .ok (.new 62, 3) := by decide +kernel
theorem cd_F_read_13 : decode cb_F_read 13 = .ok (.dup, 1) := by decide +kernel
theorem cd_F_read_14 : decode cb_F_read 14 = .ok (.ldc 64, 2) := by decide +kernel
theorem cd_F_read_16 : decode cb_F_read 16 = .ok (.invokespecial 66, 3) := by decide +kernel
theorem cd_F_read_19 : decode cb_F_read 19 = .ok (.athrow, 1) := by decide +kernel
theorem cd_F_read_20 : decode cb_F_read 20 = .ok (.aload_n 0, 1) := by decide +kernel
theorem cd_F_read_21 : decode cb_F_read 21 = .ok (.aload_n 0, 1) := by decide +kernel
theorem cd_F_read_22 : decode cb_F_read 22 = .ok (.getfield 10, 3) := by decide +kernel
theorem cd_F_read_25 : decode cb_F_read 25 = .ok (.aload_n 0, 1) := by decide +kernel
theorem cd_F_read_26 : decode cb_F_read 26 = .ok (.getfield 47, 3) := by decide +kernel
theorem cd_F_read_29 : decode cb_F_read 29 = .ok (.invokevirtual 69, 3) := by decide +kernel
theorem cd_F_read_32 : decode cb_F_read 32 = .ok (.putfield 47, 3) := by decide +kernel
theorem cd_F_read_35 : decode cb_F_read 35 = .ok (.aload_n 0, 1) := by decide +kernel
theorem cd_F_read_36 : decode cb_F_read 36 = .ok (.getfield 19, 3) := by decide +kernel
theorem cd_F_read_39 : decode cb_F_read 39 = .ok (.invokevirtual 73, 3) := by decide +kernel
theorem cd_F_read_42 : decode cb_F_read 42 = .ok (.aload_n 0, 1) := by decide +kernel
theorem cd_F_read_43 : decode cb_F_read 43 = .ok (.getfield 33, 3) := by decide +kernel
theorem cd_F_read_46 : decode cb_F_read 46 = .ok (.iconst 1, 1) := by decide +kernel
theorem cd_F_read_47 : decode cb_F_read 47 = .ok (.putfield 76, 3) := by decide +kernel
theorem cd_F_read_50 : decode cb_F_read 50 = .ok (.aload_n 0, 1) := by decide +kernel
theorem cd_F_read_51 : decode cb_F_read 51 = .ok (.getfield 47, 3) := by decide +kernel
theorem cd_F_read_54 : decode cb_F_read 54 = .ok (.getfield 80, 3) := by decide +kernel
theorem cd_F_read_57 : decode cb_F_read 57 = .ok (.ireturn, 1) := by decide +kernel
theorem cd_F_place_0 : decode cb_F_place 0 = .ok (.aload_n 0, 1) := by decide +kernel
theorem cd_F_place_1 : decode cb_F_place 1 = .ok (.getfield 10, 3) := by decide +kernel
theorem cd_F_place_4 : decode cb_F_place 4 = .ok (.getfield 84, 3) := by decide +kernel
theorem cd_F_place_7 : decode cb_F_place 7 = .ok (.ireturn, 1) := by decide +kernel
theorem cd_F_level_0 : decode cb_F_level 0 = .ok (.aload_n 0, 1) := by decide +kernel
theorem cd_F_level_1 : decode cb_F_level 1 = .ok (.getfield 47, 3) := by decide +kernel
theorem cd_F_level_4 : decode cb_F_level 4 = .ok (.iload_n 1, 1) := by decide +kernel
theorem cd_F_level_5 : decode cb_F_level 5 = .ok (.invokevirtual 87, 3) := by decide +kernel
theorem cd_F_level_8 : decode cb_F_level 8 = .ok (.ifCond .ne 5, 3) := by decide +kernel
theorem cd_F_level_11 : decode cb_F_level 11 = .ok (.iconst (-1), 1) := by decide +kernel
theorem cd_F_level_12 : decode cb_F_level 12 = .ok (.ireturn, 1) := by decide +kernel
theorem cd_F_level_13 : decode cb_F_level 13 = .ok (.iload_n 2, 1) := by decide +kernel
theorem cd_F_level_14 : decode cb_F_level 14 = .ok (.tableswitch 154 0 9 #[54, 64, 74, 84, 94, 104, 114, 124, 134, 144], 54) := by decide +kernel
theorem cd_F_level_68 : decode cb_F_level 68 = .ok (.aload_n 0, 1) := by decide +kernel
theorem cd_F_level_69 : decode cb_F_level 69 = .ok (.getfield 47, 3) := by decide +kernel
theorem cd_F_level_72 : decode cb_F_level 72 = .ok (.getfield 91, 3) := by decide +kernel
theorem cd_F_level_75 : decode cb_F_level 75 = .ok (.iload_n 1, 1) := by decide +kernel
theorem cd_F_level_76 : decode cb_F_level 76 = .ok (.iaload, 1) := by decide +kernel
theorem cd_F_level_77 : decode cb_F_level 77 = .ok (.ireturn, 1) := by decide +kernel
theorem cd_F_level_78 : decode cb_F_level 78 = .ok (.aload_n 0, 1) := by decide +kernel
theorem cd_F_level_79 : decode cb_F_level 79 = .ok (.getfield 47, 3) := by decide +kernel
theorem cd_F_level_82 : decode cb_F_level 82 = .ok (.getfield 95, 3) := by decide +kernel
theorem cd_F_level_85 : decode cb_F_level 85 = .ok (.iload_n 1, 1) := by decide +kernel
theorem cd_F_level_86 : decode cb_F_level 86 = .ok (.iaload, 1) := by decide +kernel
theorem cd_F_level_87 : decode cb_F_level 87 = .ok (.ireturn, 1) := by decide +kernel
theorem cd_F_level_88 : decode cb_F_level 88 = .ok (.aload_n 0, 1) := by decide +kernel
theorem cd_F_level_89 : decode cb_F_level 89 = .ok (.getfield 47, 3) := by decide +kernel
theorem cd_F_level_92 : decode cb_F_level 92 = .ok (.getfield 98, 3) := by decide +kernel
theorem cd_F_level_95 : decode cb_F_level 95 = .ok (.iload_n 1, 1) := by decide +kernel
theorem cd_F_level_96 : decode cb_F_level 96 = .ok (.iaload, 1) := by decide +kernel
theorem cd_F_level_97 : decode cb_F_level 97 = .ok (.ireturn, 1) := by decide +kernel
theorem cd_F_level_98 : decode cb_F_level 98 = .ok (.aload_n 0, 1) := by decide +kernel
theorem cd_F_level_99 : decode cb_F_level 99 = .ok (.getfield 47, 3) := by decide +kernel
theorem cd_F_level_102 : decode cb_F_level 102 = .ok (.getfield 101, 3) := by decide +kernel
theorem cd_F_level_105 : decode cb_F_level 105 = .ok (.iload_n 1, 1) := by decide +kernel
theorem cd_F_level_106 : decode cb_F_level 106 = .ok (.iaload, 1) := by decide +kernel
theorem cd_F_level_107 : decode cb_F_level 107 = .ok (.ireturn, 1) := by decide +kernel
theorem cd_F_level_108 : decode cb_F_level 108 = .ok (.aload_n 0, 1) := by decide +kernel
theorem cd_F_level_109 : decode cb_F_level 109 = .ok (.getfield 47, 3) := by decide +kernel
theorem cd_F_level_112 : decode cb_F_level 112 = .ok (.getfield 104, 3) := by decide +kernel
theorem cd_F_level_115 : decode cb_F_level 115 = .ok (.iload_n 1, 1) := by decide +kernel
theorem cd_F_level_116 : decode cb_F_level 116 = .ok (.iaload, 1) := by decide +kernel
theorem cd_F_level_117 : decode cb_F_level 117 = .ok (.ireturn, 1) := by decide +kernel
theorem cd_F_level_118 : decode cb_F_level 118 = .ok (.aload_n 0, 1) := by decide +kernel
theorem cd_F_level_119 : decode cb_F_level 119 = .ok (.getfield 47, 3) := by decide +kernel
theorem cd_F_level_122 : decode cb_F_level 122 = .ok (.getfield 107, 3) := by decide +kernel
theorem cd_F_level_125 : decode cb_F_level 125 = .ok (.iload_n 1, 1) := by decide +kernel
theorem cd_F_level_126 : decode cb_F_level 126 = .ok (.iaload, 1) := by decide +kernel
theorem cd_F_level_127 : decode cb_F_level 127 = .ok (.ireturn, 1) := by decide +kernel
theorem cd_F_level_128 : decode cb_F_level 128 = .ok (.aload_n 0, 1) := by decide +kernel
theorem cd_F_level_129 : decode cb_F_level 129 = .ok (.getfield 47, 3) := by decide +kernel
theorem cd_F_level_132 : decode cb_F_level 132 = .ok (.getfield 110, 3) := by decide +kernel
theorem cd_F_level_135 : decode cb_F_level 135 = .ok (.iload_n 1, 1) := by decide +kernel
theorem cd_F_level_136 : decode cb_F_level 136 = .ok (.iaload, 1) := by decide +kernel
theorem cd_F_level_137 : decode cb_F_level 137 = .ok (.ireturn, 1) := by decide +kernel
theorem cd_F_level_138 : decode cb_F_level 138 = .ok (.aload_n 0, 1) := by decide +kernel
theorem cd_F_level_139 : decode cb_F_level 139 = .ok (.getfield 47, 3) := by decide +kernel
theorem cd_F_level_142 : decode cb_F_level 142 = .ok (.getfield 113, 3) := by decide +kernel
theorem cd_F_level_145 : decode cb_F_level 145 = .ok (.iload_n 1, 1) := by decide +kernel
theorem cd_F_level_146 : decode cb_F_level 146 = .ok (.iaload, 1) := by decide +kernel
theorem cd_F_level_147 : decode cb_F_level 147 = .ok (.ireturn, 1) := by decide +kernel
theorem cd_F_level_148 : decode cb_F_level 148 = .ok (.aload_n 0, 1) := by decide +kernel
theorem cd_F_level_149 : decode cb_F_level 149 = .ok (.getfield 47, 3) := by decide +kernel
theorem cd_F_level_152 : decode cb_F_level 152 = .ok (.getfield 116, 3) := by decide +kernel
theorem cd_F_level_155 : decode cb_F_level 155 = .ok (.iload_n 1, 1) := by decide +kernel
theorem cd_F_level_156 : decode cb_F_level 156 = .ok (.iaload, 1) := by decide +kernel
theorem cd_F_level_157 : decode cb_F_level 157 = .ok (.ireturn, 1) := by decide +kernel
theorem cd_F_level_158 : decode cb_F_level 158 = .ok (.aload_n 0, 1) := by decide +kernel
theorem cd_F_level_159 : decode cb_F_level 159 = .ok (.getfield 47, 3) := by decide +kernel
theorem cd_F_level_162 : decode cb_F_level 162 = .ok (.getfield 119, 3) := by decide +kernel
theorem cd_F_level_165 : decode cb_F_level 165 = .ok (.iload_n 1, 1) := by decide +kernel
theorem cd_F_level_166 : decode cb_F_level 166 = .ok (.iaload, 1) := by decide +kernel
theorem cd_F_level_167 : decode cb_F_level 167 = .ok (.ireturn, 1) := by decide +kernel
theorem cd_F_level_168 : decode cb_F_level 168 = .ok (.iconst (-1), 1) := by decide +kernel
theorem cd_F_level_169 : decode cb_F_level 169 = .ok (.ireturn, 1) := by decide +kernel
theorem cd_F_letter_0 : decode cb_F_letter 0 = .ok (.aload_n 0, 1) := by decide +kernel
theorem cd_F_letter_1 : decode cb_F_letter 1 = .ok (.getfield 47, 3) := by decide +kernel
theorem cd_F_letter_4 : decode cb_F_letter 4 = .ok (.iload_n 1, 1) := by decide +kernel
theorem cd_F_letter_5 : decode cb_F_letter 5 = .ok (.invokevirtual 87, 3) := by decide +kernel
theorem cd_F_letter_8 : decode cb_F_letter 8 = .ok (.ifCond .eq 20, 3) := by decide +kernel
theorem cd_F_letter_11 : decode cb_F_letter 11 = .ok (.iload_n 2, 1) := by decide +kernel
theorem cd_F_letter_12 : decode cb_F_letter 12 = .ok (.ifCond .lt 16, 3) := by decide +kernel
theorem cd_F_letter_15 : decode cb_F_letter 15 = .ok (.iload_n 2, 1) := by decide +kernel
theorem cd_F_letter_16 : decode cb_F_letter 16 = .ok (.aload_n 0, 1) := by decide +kernel
theorem cd_F_letter_17 : decode cb_F_letter 17 = .ok (.getfield 47, 3) := by decide +kernel
theorem cd_F_letter_20 : decode cb_F_letter 20 = .ok (.getfield 119, 3) := by decide +kernel
theorem cd_F_letter_23 : decode cb_F_letter 23 = .ok (.iload_n 1, 1) := by decide +kernel
theorem cd_F_letter_24 : decode cb_F_letter 24 = .ok (.iaload, 1) := by decide +kernel
theorem cd_F_letter_25 : decode cb_F_letter 25 = .ok (.if_icmp .lt 5, 3) := by decide +kernel
theorem cd_F_letter_28 : decode cb_F_letter 28 = .ok (.iconst (-1), 1) := by decide +kernel
theorem cd_F_letter_29 : decode cb_F_letter 29 = .ok (.ireturn, 1) := by decide +kernel
theorem cd_F_letter_30 : decode cb_F_letter 30 = .ok (.aload_n 0, 1) := by decide +kernel
theorem cd_F_letter_31 : decode cb_F_letter 31 = .ok (.getfield 47, 3) := by decide +kernel
theorem cd_F_letter_34 : decode cb_F_letter 34 = .ok (.iload_n 1, 1) := by decide +kernel
theorem cd_F_letter_35 : decode cb_F_letter 35 = .ok (.iload_n 2, 1) := by decide +kernel
theorem cd_F_letter_36 : decode cb_F_letter 36 = .ok (.invokevirtual 122, 3) := by decide +kernel
theorem cd_F_letter_39 : decode cb_F_letter 39 = .ok (.ireturn, 1) := by decide +kernel
theorem cd_F_compare_0 : decode cb_F_compare 0 = .ok (.aload_n 0, 1) := by decide +kernel
theorem cd_F_compare_1 : decode cb_F_compare 1 = .ok (.getfield 47, 3) := by decide +kernel
theorem cd_F_compare_4 : decode cb_F_compare 4 = .ok (.iload_n 1, 1) := by decide +kernel
theorem cd_F_compare_5 : decode cb_F_compare 5 = .ok (.invokevirtual 87, 3) := by decide +kernel
theorem cd_F_compare_8 : decode cb_F_compare 8 = .ok (.ifCond .eq 14, 3) := by decide +kernel
theorem cd_F_compare_11 : decode cb_F_compare 11 = .ok (.aload_n 0, 1) := by decide +kernel
theorem cd_F_compare_12 : decode cb_F_compare 12 = .ok (.getfield 47, 3) := by decide +kernel
theorem cd_F_compare_15 : decode cb_F_compare 15 = .ok (.iload_n 2, 1) := by decide +kernel
theorem cd_F_compare_16 : decode cb_F_compare 16 = .ok (.invokevirtual 87, 3) := by decide +kernel
theorem cd_F_compare_19 : decode cb_F_compare 19 = .ok (.ifCond .ne 6, 3) := by decide +kernel
theorem cd_F_compare_22 : decode cb_F_compare 22 = .ok (.bipush (-2), 2) := by decide +kernel
theorem cd_F_compare_24 : decode cb_F_compare 24 = .ok (.ireturn, 1) := by decide +kernel
theorem cd_F_compare_25 : decode cb_F_compare 25 = .ok (.aload_n 0, 1) := by decide +kernel
theorem cd_F_compare_26 : decode cb_F_compare 26 = .ok (.getfield 47, 3) := by decide +kernel
theorem cd_F_compare_29 : decode cb_F_compare 29 = .ok (.iload_n 1, 1) := by decide +kernel
theorem cd_F_compare_30 : decode cb_F_compare 30 = .ok (.iload_n 2, 1) := by decide +kernel
theorem cd_F_compare_31 : decode cb_F_compare 31 = .ok (.invokevirtual 126, 3) := by decide +kernel
theorem cd_F_compare_34 : decode cb_F_compare 34 = .ok (.ireturn, 1) := by decide +kernel
theorem cd_F_extent_0 : decode cb_F_extent 0 = .ok (.aload_n 0, 1) := by decide +kernel
theorem cd_F_extent_1 : decode cb_F_extent 1 = .ok (.getfield 47, 3) := by decide +kernel
theorem cd_F_extent_4 : decode cb_F_extent 4 = .ok (.iload_n 1, 1) := by decide +kernel
theorem cd_F_extent_5 : decode cb_F_extent 5 = .ok (.invokevirtual 87, 3) := by decide +kernel
theorem cd_F_extent_8 : decode cb_F_extent 8 = .ok (.ifCond .ne 5, 3) := by decide +kernel
theorem cd_F_extent_11 : decode cb_F_extent 11 = .ok (.iconst (-1), 1) := by decide +kernel
theorem cd_F_extent_12 : decode cb_F_extent 12 = .ok (.ireturn, 1) := by decide +kernel
theorem cd_F_extent_13 : decode cb_F_extent 13 = .ok (.iload_n 2, 1) := by decide +kernel
theorem cd_F_extent_14 : decode cb_F_extent 14 = .ok (.ifCond .lt 8, 3) := by decide +kernel
theorem cd_F_extent_17 : decode cb_F_extent 17 = .ok (.iload_n 2, 1) := by decide +kernel
theorem cd_F_extent_18 : decode cb_F_extent 18 = .ok (.iconst 3, 1) := by decide +kernel
theorem cd_F_extent_19 : decode cb_F_extent 19 = .ok (.if_icmp .lt 6, 3) := by decide +kernel
theorem cd_F_extent_22 : decode cb_F_extent 22 = .ok (.bipush (-2), 2) := by decide +kernel
theorem cd_F_extent_24 : decode cb_F_extent 24 = .ok (.ireturn, 1) := by decide +kernel
theorem cd_F_extent_25 : decode cb_F_extent 25 = .ok (.aload_n 0, 1) := by decide +kernel
theorem cd_F_extent_26 : decode cb_F_extent 26 = .ok (.getfield 26, 3) := by decide +kernel
theorem cd_F_extent_29 : decode cb_F_extent 29 = .ok (.aload_n 0, 1) := by decide +kernel
theorem cd_F_extent_30 : decode cb_F_extent 30 = .ok (.getfield 47, 3) := by decide +kernel
theorem cd_F_extent_33 : decode cb_F_extent 33 = .ok (.invokevirtual 129, 3) := by decide +kernel
theorem cd_F_extent_36 : decode cb_F_extent 36 = .ok (.aload_n 0, 1) := by decide +kernel
theorem cd_F_extent_37 : decode cb_F_extent 37 = .ok (.getfield 26, 3) := by decide +kernel
theorem cd_F_extent_40 : decode cb_F_extent 40 = .ok (.iload_n 1, 1) := by decide +kernel
theorem cd_F_extent_41 : decode cb_F_extent 41 = .ok (.iload_n 2, 1) := by decide +kernel
theorem cd_F_extent_42 : decode cb_F_extent 42 = .ok (.invokevirtual 133, 3) := by decide +kernel
theorem cd_F_extent_45 : decode cb_F_extent 45 = .ok (.ireturn, 1) := by decide +kernel
theorem cd_F_differ_0 : decode cb_F_differ 0 = .ok (.aload_n 0, 1) := by decide +kernel
theorem cd_F_differ_1 : decode cb_F_differ 1 = .ok (.getfield 26, 3) := by decide +kernel
theorem cd_F_differ_4 : decode cb_F_differ 4 = .ok (.aload_n 0, 1) := by decide +kernel
theorem cd_F_differ_5 : decode cb_F_differ 5 = .ok (.getfield 47, 3) := by decide +kernel
theorem cd_F_differ_8 : decode cb_F_differ 8 = .ok (.invokevirtual 129, 3) := by decide +kernel
theorem cd_F_differ_11 : decode cb_F_differ 11 = .ok (.iconst 0, 1) := by decide +kernel
theorem cd_F_differ_12 : decode cb_F_differ 12 = .ok (.istore_n 2, 1) := by decide +kernel
theorem cd_F_differ_13 : decode cb_F_differ 13 = .ok (.iconst 0, 1) := by decide +kernel
theorem cd_F_differ_14 : decode cb_F_differ 14 = .ok (.istore_n 3, 1) := by decide +kernel
theorem cd_F_differ_15 : decode cb_F_differ 15 = .ok (.iload_n 3, 1) := by decide +kernel
theorem cd_F_differ_16 : decode cb_F_differ 16 = .ok (.aload_n 0, 1) := by decide +kernel
theorem cd_F_differ_17 : decode cb_F_differ 17 = .ok (.getfield 47, 3) := by decide +kernel
theorem cd_F_differ_20 : decode cb_F_differ 20 = .ok (.getfield 80, 3) := by decide +kernel
theorem cd_F_differ_23 : decode cb_F_differ 23 = .ok (.if_icmp .ge 34, 3) := by decide +kernel
theorem cd_F_differ_26 : decode cb_F_differ 26 = .ok (.aload_n 0, 1) := by decide +kernel
theorem cd_F_differ_27 : decode cb_F_differ 27 = .ok (.getfield 26, 3) := by decide +kernel
theorem cd_F_differ_30 : decode cb_F_differ 30 = .ok (.aload_n 0, 1) := by decide +kernel
theorem cd_F_differ_31 : decode cb_F_differ 31 = .ok (.getfield 47, 3) := by decide +kernel
theorem cd_F_differ_34 : decode cb_F_differ 34 = .ok (.iload_n 3, 1) := by decide +kernel
theorem cd_F_differ_35 : decode cb_F_differ 35 = .ok (.invokevirtual 136, 3) := by decide +kernel
theorem cd_F_differ_38 : decode cb_F_differ 38 = .ok (.ifCond .eq 13, 3) := by decide +kernel
theorem cd_F_differ_41 : decode cb_F_differ 41 = .ok (.iload_n 2, 1) := by decide +kernel
theorem cd_F_differ_42 : decode cb_F_differ 42 = .ok (.iload_n 1, 1) := by decide +kernel
theorem cd_F_differ_43 : decode cb_F_differ 43 = .ok (.if_icmp .ne 5, 3) := by decide +kernel
theorem cd_F_differ_46 : decode cb_F_differ 46 = .ok (.iload_n 3, 1) := by decide +kernel
theorem cd_F_differ_47 : decode cb_F_differ 47 = .ok (.ireturn, 1) := by decide +kernel
theorem cd_F_differ_48 : decode cb_F_differ 48 = .ok (.iinc 2 1, 3) := by decide +kernel
theorem cd_F_differ_51 : decode cb_F_differ 51 = .ok (.iinc 3 1, 3) := by decide +kernel
theorem cd_F_differ_54 : decode cb_F_differ 54 = .ok (.goto (-39), 3) := by decide +kernel
theorem cd_F_differ_57 : decode cb_F_differ 57 = .ok (.iconst (-1), 1) := by decide +kernel
theorem cd_F_differ_58 : decode cb_F_differ 58 = .ok (.ireturn, 1) := by decide +kernel
theorem cd_F_twice_0 : decode cb_F_twice 0 = .ok (.iconst 0, 1) := by decide +kernel
theorem cd_F_twice_1 : decode cb_F_twice 1 = .ok (.istore_n 2, 1) := by decide +kernel
theorem cd_F_twice_2 : decode cb_F_twice 2 = .ok (.iconst 0, 1) := by decide +kernel
theorem cd_F_twice_3 : decode cb_F_twice 3 = .ok (.istore_n 3, 1) := by decide +kernel
theorem cd_F_twice_4 : decode cb_F_twice 4 = .ok (.iload_n 3, 1) := by decide +kernel
theorem cd_F_twice_5 : decode cb_F_twice 5 = .ok (.aload_n 0, 1) := by decide +kernel
theorem cd_F_twice_6 : decode cb_F_twice 6 = .ok (.getfield 47, 3) := by decide +kernel
theorem cd_F_twice_9 : decode cb_F_twice 9 = .ok (.getfield 80, 3) := by decide +kernel
theorem cd_F_twice_12 : decode cb_F_twice 12 = .ok (.if_icmp .ge 30, 3) := by decide +kernel
theorem cd_F_twice_15 : decode cb_F_twice 15 = .ok (.aload_n 0, 1) := by decide +kernel
theorem cd_F_twice_16 : decode cb_F_twice 16 = .ok (.getfield 47, 3) := by decide +kernel
theorem cd_F_twice_19 : decode cb_F_twice 19 = .ok (.iload_n 3, 1) := by decide +kernel
theorem cd_F_twice_20 : decode cb_F_twice 20 = .ok (.invokevirtual 140, 3) := by decide +kernel
theorem cd_F_twice_23 : decode cb_F_twice 23 = .ok (.ifCond .eq 13, 3) := by decide +kernel
theorem cd_F_twice_26 : decode cb_F_twice 26 = .ok (.iload_n 2, 1) := by decide +kernel
theorem cd_F_twice_27 : decode cb_F_twice 27 = .ok (.iload_n 1, 1) := by decide +kernel
theorem cd_F_twice_28 : decode cb_F_twice 28 = .ok (.if_icmp .ne 5, 3) := by decide +kernel
theorem cd_F_twice_31 : decode cb_F_twice 31 = .ok (.iload_n 3, 1) := by decide +kernel
theorem cd_F_twice_32 : decode cb_F_twice 32 = .ok (.ireturn, 1) := by decide +kernel
theorem cd_F_twice_33 : decode cb_F_twice 33 = .ok (.iinc 2 1, 3) := by decide +kernel
theorem cd_F_twice_36 : decode cb_F_twice 36 = .ok (.iinc 3 1, 3) := by decide +kernel
theorem cd_F_twice_39 : decode cb_F_twice 39 = .ok (.goto (-35), 3) := by decide +kernel
theorem cd_F_twice_42 : decode cb_F_twice 42 = .ok (.iconst (-1), 1) := by decide +kernel
theorem cd_F_twice_43 : decode cb_F_twice 43 = .ok (.ireturn, 1) := by decide +kernel
theorem cd_F_restrict_0 : decode cb_F_restrict 0 = .ok (.aload_n 0, 1) := by decide +kernel
theorem cd_F_restrict_1 : decode cb_F_restrict 1 = .ok (.getfield 47, 3) := by decide +kernel
theorem cd_F_restrict_4 : decode cb_F_restrict 4 = .ok (.iload_n 1, 1) := by decide +kernel
theorem cd_F_restrict_5 : decode cb_F_restrict 5 = .ok (.invokevirtual 87, 3) := by decide +kernel
theorem cd_F_restrict_8 : decode cb_F_restrict 8 = .ok (.ifCond .ne 5, 3) := by decide +kernel
theorem cd_F_restrict_11 : decode cb_F_restrict 11 = .ok (.iconst (-1), 1) := by decide +kernel
theorem cd_F_restrict_12 : decode cb_F_restrict 12 = .ok (.ireturn, 1) := by decide +kernel
theorem cd_F_restrict_13 : decode cb_F_restrict 13 = .ok (.iload_n 2, 1) := by decide +kernel
theorem cd_F_restrict_14 : decode cb_F_restrict 14 = .ok (.invokestatic 143, 3) := by decide +kernel
theorem cd_F_restrict_17 : decode cb_F_restrict 17 = .ok (.ifCond .eq 13, 3) := by decide +kernel
theorem cd_F_restrict_20 : decode cb_F_restrict 20 = .ok (.iload_n 3, 1) := by decide +kernel
theorem cd_F_restrict_21 : decode cb_F_restrict 21 = .ok (.ifCond .lt 9, 3) := by decide +kernel
theorem cd_F_restrict_24 : decode cb_F_restrict 24 = .ok (.iload_n 3, 1) := by decide +kernel
theorem cd_F_restrict_25 : decode cb_F_restrict 25 = .ok (.bipush 99, 2) := by decide +kernel
theorem cd_F_restrict_27 : decode cb_F_restrict 27 = .ok (.if_icmp .le 6, 3) := by decide +kernel
theorem cd_F_restrict_30 : decode cb_F_restrict 30 = .ok (.bipush (-2), 2) := by decide +kernel
theorem cd_F_restrict_32 : decode cb_F_restrict 32 = .ok (.ireturn, 1) := by decide +kernel
theorem cd_F_restrict_33 : decode cb_F_restrict 33 = .ok (.aload_n 0, 1) := by decide +kernel
theorem cd_F_restrict_34 : decode cb_F_restrict 34 = .ok (.getfield 19, 3) := by decide +kernel
theorem cd_F_restrict_37 : decode cb_F_restrict 37 = .ok (.iload_n 1, 1) := by decide +kernel
theorem cd_F_restrict_38 : decode cb_F_restrict 38 = .ok (.iload_n 2, 1) := by decide +kernel
theorem cd_F_restrict_39 : decode cb_F_restrict 39 = .ok (.iload_n 3, 1) := by decide +kernel
theorem cd_F_restrict_40 : decode cb_F_restrict 40 = .ok (.invokevirtual 146, 3) := by decide +kernel
theorem cd_F_restrict_43 : decode cb_F_restrict 43 = .ok (.iconst 1, 1) := by decide +kernel
theorem cd_F_restrict_44 : decode cb_F_restrict 44 = .ok (.ireturn, 1) := by decide +kernel
theorem cd_F_restricted_0 : decode cb_F_restricted 0 = .ok (.aload_n 0, 1) := by decide +kernel
theorem cd_F_restricted_1 : decode cb_F_restricted 1 = .ok (.getfield 47, 3) := by decide +kernel
theorem cd_F_restricted_4 : decode cb_F_restricted 4 = .ok (.iload_n 1, 1) := by decide +kernel
theorem cd_F_restricted_5 : decode cb_F_restricted 5 = .ok (.invokevirtual 87, 3) := by decide +kernel
theorem cd_F_restricted_8 : decode cb_F_restricted 8 = .ok (.ifCond .ne 5, 3) := by decide +kernel
theorem cd_F_restricted_11 : decode cb_F_restricted 11 = .ok (.iconst (-1), 1) := by decide +kernel
theorem cd_F_restricted_12 : decode cb_F_restricted 12 = .ok (.ireturn, 1) := by decide +kernel
theorem cd_F_restricted_13 : decode cb_F_restricted 13 = .ok (.iload_n 2, 1) := by decide +kernel
theorem cd_F_restricted_14 : decode cb_F_restricted 14 = .ok (.invokestatic 143, 3) := by decide +kernel
theorem cd_F_restricted_17 : decode cb_F_restricted 17 = .ok (.ifCond .ne 6, 3) := by decide +kernel
theorem cd_F_restricted_20 : decode cb_F_restricted 20 = .ok (.bipush (-2), 2) := by decide +kernel
theorem cd_F_restricted_22 : decode cb_F_restricted 22 = .ok (.ireturn, 1) := by decide +kernel
theorem cd_F_restricted_23 : decode cb_F_restricted 23 = .ok (.iload_n 1, 1) := by decide +kernel
theorem cd_F_restricted_24 : decode cb_F_restricted 24 = .ok (.istore_n 3, 1) := by decide +kernel
theorem cd_F_restricted_25 : decode cb_F_restricted 25 = .ok (.iconst 0, 1) := by decide +kernel
theorem cd_F_restricted_26 : decode cb_F_restricted 26 = .ok (.istore 4, 2) := by decide +kernel
theorem cd_F_restricted_28 : decode cb_F_restricted 28 = .ok (.iload 4, 2) := by decide +kernel
theorem cd_F_restricted_30 : decode cb_F_restricted 30 = .ok (.bipush 8, 2) := by decide +kernel
theorem cd_F_restricted_32 : decode cb_F_restricted 32 = .ok (.if_icmp .gt 49, 3) := by decide +kernel
theorem cd_F_restricted_35 : decode cb_F_restricted 35 = .ok (.aload_n 0, 1) := by decide +kernel
theorem cd_F_restricted_36 : decode cb_F_restricted 36 = .ok (.getfield 47, 3) := by decide +kernel
theorem cd_F_restricted_39 : decode cb_F_restricted 39 = .ok (.iload_n 3, 1) := by decide +kernel
theorem cd_F_restricted_40 : decode cb_F_restricted 40 = .ok (.invokevirtual 87, 3) := by decide +kernel
theorem cd_F_restricted_43 : decode cb_F_restricted 43 = .ok (.ifCond .eq 38, 3) := by decide +kernel
theorem cd_F_restricted_46 : decode cb_F_restricted 46 = .ok (.aload_n 0, 1) := by decide +kernel
theorem cd_F_restricted_47 : decode cb_F_restricted 47 = .ok (.getfield 19, 3) := by decide +kernel
theorem cd_F_restricted_50 : decode cb_F_restricted 50 = .ok (.iload_n 3, 1) := by decide +kernel
theorem cd_F_restricted_51 : decode cb_F_restricted 51 = .ok (.iload_n 2, 1) := by decide +kernel
theorem cd_F_restricted_52 : decode cb_F_restricted 52 = .ok (.invokevirtual 150, 3) := by decide +kernel
theorem cd_F_restricted_55 : decode cb_F_restricted 55 = .ok (.istore 5, 2) := by decide +kernel
theorem cd_F_restricted_57 : decode cb_F_restricted 57 = .ok (.iload 5, 2) := by decide +kernel
theorem cd_F_restricted_59 : decode cb_F_restricted 59 = .ok (.ifCond .eq 6, 3) := by decide +kernel
theorem cd_F_restricted_62 : decode cb_F_restricted 62 = .ok (.iload 5, 2) := by decide +kernel
theorem cd_F_restricted_64 : decode cb_F_restricted 64 = .ok (.ireturn, 1) := by decide +kernel
theorem cd_F_restricted_65 : decode cb_F_restricted 65 = .ok (.aload_n 0, 1) := by decide +kernel
theorem cd_F_restricted_66 : decode cb_F_restricted 66 = .ok (.getfield 47, 3) := by decide +kernel
theorem cd_F_restricted_69 : decode cb_F_restricted 69 = .ok (.getfield 98, 3) := by decide +kernel
theorem cd_F_restricted_72 : decode cb_F_restricted 72 = .ok (.iload_n 3, 1) := by decide +kernel
theorem cd_F_restricted_73 : decode cb_F_restricted 73 = .ok (.iaload, 1) := by decide +kernel
theorem cd_F_restricted_74 : decode cb_F_restricted 74 = .ok (.istore_n 3, 1) := by decide +kernel
theorem cd_F_restricted_75 : decode cb_F_restricted 75 = .ok (.iinc 4 1, 3) := by decide +kernel
theorem cd_F_restricted_78 : decode cb_F_restricted 78 = .ok (.goto (-50), 3) := by decide +kernel
theorem cd_F_restricted_81 : decode cb_F_restricted 81 = .ok (.iconst 0, 1) := by decide +kernel
theorem cd_F_restricted_82 : decode cb_F_restricted 82 = .ok (.ireturn, 1) := by decide +kernel
theorem cd_F_name_0 : decode cb_F_name 0 = .ok (.aload_n 0, 1) := by decide +kernel
theorem cd_F_name_1 : decode cb_F_name 1 = .ok (.getfield 47, 3) := by decide +kernel
theorem cd_F_name_4 : decode cb_F_name 4 = .ok (.iload_n 1, 1) := by decide +kernel
theorem cd_F_name_5 : decode cb_F_name 5 = .ok (.invokevirtual 87, 3) := by decide +kernel
theorem cd_F_name_8 : decode cb_F_name 8 = .ok (.ifCond .ne 5, 3) := by decide +kernel
theorem cd_F_name_11 : decode cb_F_name 11 = .ok (.iconst (-1), 1) := by decide +kernel
theorem cd_F_name_12 : decode cb_F_name 12 = .ok (.ireturn, 1) := by decide +kernel
theorem cd_F_name_13 : decode cb_F_name 13 = .ok (.iload_n 2, 1) := by decide +kernel
theorem cd_F_name_14 : decode cb_F_name 14 = .ok (.iconst 1, 1) := by decide +kernel
theorem cd_F_name_15 : decode cb_F_name 15 = .ok (.if_icmp .lt 10, 3) := by decide +kernel
theorem cd_F_name_18 : decode cb_F_name 18 = .ok (.iload_n 2, 1) := by decide +kernel
theorem cd_F_name_19 : decode cb_F_name 19 = .ok (.sipush 999, 3) := by decide +kernel
theorem cd_F_name_22 : decode cb_F_name 22 = .ok (.if_icmp .le 6, 3) := by decide +kernel
theorem cd_F_name_25 : decode cb_F_name 25 = .ok (.bipush (-2), 2) := by decide +kernel
theorem cd_F_name_27 : decode cb_F_name 27 = .ok (.ireturn, 1) := by decide +kernel
theorem cd_F_name_28 : decode cb_F_name 28 = .ok (.aload_n 0, 1) := by decide +kernel
theorem cd_F_name_29 : decode cb_F_name 29 = .ok (.getfield 19, 3) := by decide +kernel
theorem cd_F_name_32 : decode cb_F_name 32 = .ok (.iload_n 1, 1) := by decide +kernel
theorem cd_F_name_33 : decode cb_F_name 33 = .ok (.iload_n 2, 1) := by decide +kernel
theorem cd_F_name_34 : decode cb_F_name 34 = .ok (.invokevirtual 153, 3) := by decide +kernel
theorem cd_F_name_37 : decode cb_F_name 37 = .ok (.ifCond .eq 6, 3) := by decide +kernel
theorem cd_F_name_40 : decode cb_F_name 40 = .ok (.bipush (-3), 2) := by decide +kernel
theorem cd_F_name_42 : decode cb_F_name 42 = .ok (.ireturn, 1) := by decide +kernel
theorem cd_F_name_43 : decode cb_F_name 43 = .ok (.aload_n 0, 1) := by decide +kernel
theorem cd_F_name_44 : decode cb_F_name 44 = .ok (.getfield 19, 3) := by decide +kernel
theorem cd_F_name_47 : decode cb_F_name 47 = .ok (.getfield 157, 3) := by decide +kernel
theorem cd_F_name_50 : decode cb_F_name 50 = .ok (.iload_n 1, 1) := by decide +kernel
theorem cd_F_name_51 : decode cb_F_name 51 = .ok (.iaload, 1) := by decide +kernel
theorem cd_F_name_52 : decode cb_F_name 52 = .ok (.iconst 4, 1) := by decide +kernel
theorem cd_F_name_53 : decode cb_F_name 53 = .ok (.if_icmp .lt 6, 3) := by decide +kernel
theorem cd_F_name_56 : decode cb_F_name 56 = .ok (.bipush (-4), 2) := by decide +kernel
theorem cd_F_name_58 : decode cb_F_name 58 = .ok (.ireturn, 1) := by decide +kernel
theorem cd_F_name_59 : decode cb_F_name 59 = .ok (.aload_n 0, 1) := by decide +kernel
theorem cd_F_name_60 : decode cb_F_name 60 = .ok (.getfield 19, 3) := by decide +kernel
theorem cd_F_name_63 : decode cb_F_name 63 = .ok (.iload_n 1, 1) := by decide +kernel
theorem cd_F_name_64 : decode cb_F_name 64 = .ok (.iload_n 2, 1) := by decide +kernel
theorem cd_F_name_65 : decode cb_F_name 65 = .ok (.invokevirtual 160, 3) := by decide +kernel
theorem cd_F_name_68 : decode cb_F_name 68 = .ok (.aload_n 0, 1) := by decide +kernel
theorem cd_F_name_69 : decode cb_F_name 69 = .ok (.getfield 19, 3) := by decide +kernel
theorem cd_F_name_72 : decode cb_F_name 72 = .ok (.getfield 157, 3) := by decide +kernel
theorem cd_F_name_75 : decode cb_F_name 75 = .ok (.iload_n 1, 1) := by decide +kernel
theorem cd_F_name_76 : decode cb_F_name 76 = .ok (.iaload, 1) := by decide +kernel
theorem cd_F_name_77 : decode cb_F_name 77 = .ok (.ireturn, 1) := by decide +kernel
theorem cd_F_named_0 : decode cb_F_named 0 = .ok (.iconst 0, 1) := by decide +kernel
theorem cd_F_named_1 : decode cb_F_named 1 = .ok (.istore_n 3, 1) := by decide +kernel
theorem cd_F_named_2 : decode cb_F_named 2 = .ok (.iconst 0, 1) := by decide +kernel
theorem cd_F_named_3 : decode cb_F_named 3 = .ok (.istore 4, 2) := by decide +kernel
theorem cd_F_named_5 : decode cb_F_named 5 = .ok (.iload 4, 2) := by decide +kernel
theorem cd_F_named_7 : decode cb_F_named 7 = .ok (.aload_n 0, 1) := by decide +kernel
theorem cd_F_named_8 : decode cb_F_named 8 = .ok (.getfield 47, 3) := by decide +kernel
theorem cd_F_named_11 : decode cb_F_named 11 = .ok (.getfield 80, 3) := by decide +kernel
theorem cd_F_named_14 : decode cb_F_named 14 = .ok (.if_icmp .ge 33, 3) := by decide +kernel
theorem cd_F_named_17 : decode cb_F_named 17 = .ok (.aload_n 0, 1) := by decide +kernel
theorem cd_F_named_18 : decode cb_F_named 18 = .ok (.getfield 19, 3) := by decide +kernel
theorem cd_F_named_21 : decode cb_F_named 21 = .ok (.iload 4, 2) := by decide +kernel
theorem cd_F_named_23 : decode cb_F_named 23 = .ok (.iload_n 1, 1) := by decide +kernel
theorem cd_F_named_24 : decode cb_F_named 24 = .ok (.invokevirtual 153, 3) := by decide +kernel
theorem cd_F_named_27 : decode cb_F_named 27 = .ok (.ifCond .eq 14, 3) := by decide +kernel
theorem cd_F_named_30 : decode cb_F_named 30 = .ok (.iload_n 3, 1) := by decide +kernel
theorem cd_F_named_31 : decode cb_F_named 31 = .ok (.iload_n 2, 1) := by decide +kernel
theorem cd_F_named_32 : decode cb_F_named 32 = .ok (.if_icmp .ne 6, 3) := by decide +kernel
theorem cd_F_named_35 : decode cb_F_named 35 = .ok (.iload 4, 2) := by decide +kernel
theorem cd_F_named_37 : decode cb_F_named 37 = .ok (.ireturn, 1) := by decide +kernel
theorem cd_F_named_38 : decode cb_F_named 38 = .ok (.iinc 3 1, 3) := by decide +kernel
theorem cd_F_named_41 : decode cb_F_named 41 = .ok (.iinc 4 1, 3) := by decide +kernel
theorem cd_F_named_44 : decode cb_F_named 44 = .ok (.goto (-39), 3) := by decide +kernel
theorem cd_F_named_47 : decode cb_F_named 47 = .ok (.iconst (-1), 1) := by decide +kernel
theorem cd_F_named_48 : decode cb_F_named 48 = .ok (.ireturn, 1) := by decide +kernel
theorem cd_F_move_0 : decode cb_F_move 0 = .ok (.aload_n 0, 1) := by decide +kernel
theorem cd_F_move_1 : decode cb_F_move 1 = .ok (.getfield 47, 3) := by decide +kernel
theorem cd_F_move_4 : decode cb_F_move 4 = .ok (.iload_n 1, 1) := by decide +kernel
theorem cd_F_move_5 : decode cb_F_move 5 = .ok (.invokevirtual 87, 3) := by decide +kernel
theorem cd_F_move_8 : decode cb_F_move 8 = .ok (.ifCond .eq 14, 3) := by decide +kernel
theorem cd_F_move_11 : decode cb_F_move 11 = .ok (.aload_n 0, 1) := by decide +kernel
theorem cd_F_move_12 : decode cb_F_move 12 = .ok (.getfield 47, 3) := by decide +kernel
theorem cd_F_move_15 : decode cb_F_move 15 = .ok (.iload_n 2, 1) := by decide +kernel
theorem cd_F_move_16 : decode cb_F_move 16 = .ok (.invokevirtual 87, 3) := by decide +kernel
theorem cd_F_move_19 : decode cb_F_move 19 = .ok (.ifCond .ne 5, 3) := by decide +kernel
theorem cd_F_move_22 : decode cb_F_move 22 = .ok (.iconst (-1), 1) := by decide +kernel
theorem cd_F_move_23 : decode cb_F_move 23 = .ok (.ireturn, 1) := by decide +kernel
theorem cd_F_move_24 : decode cb_F_move 24 = .ok (.iload_n 1, 1) := by decide +kernel
theorem cd_F_move_25 : decode cb_F_move 25 = .ok (.ifCond .eq 15, 3) := by decide +kernel
theorem cd_F_move_28 : decode cb_F_move 28 = .ok (.aload_n 0, 1) := by decide +kernel
theorem cd_F_move_29 : decode cb_F_move 29 = .ok (.getfield 47, 3) := by decide +kernel
theorem cd_F_move_32 : decode cb_F_move 32 = .ok (.iload_n 1, 1) := by decide +kernel
theorem cd_F_move_33 : decode cb_F_move 33 = .ok (.iload_n 2, 1) := by decide +kernel
theorem cd_F_move_34 : decode cb_F_move 34 = .ok (.invokevirtual 164, 3) := by decide +kernel
theorem cd_F_move_37 : decode cb_F_move 37 = .ok (.ifCond .ne 6, 3) := by decide +kernel
theorem cd_F_move_40 : decode cb_F_move 40 = .ok (.bipush (-3), 2) := by decide +kernel
theorem cd_F_move_42 : decode cb_F_move 42 = .ok (.ireturn, 1) := by decide +kernel
theorem cd_F_move_43 : decode cb_F_move 43 = .ok (.aload_n 0, 1) := by decide +kernel
theorem cd_F_move_44 : decode cb_F_move 44 = .ok (.getfield 19, 3) := by decide +kernel
theorem cd_F_move_47 : decode cb_F_move 47 = .ok (.iload_n 1, 1) := by decide +kernel
theorem cd_F_move_48 : decode cb_F_move 48 = .ok (.aload_n 0, 1) := by decide +kernel
theorem cd_F_move_49 : decode cb_F_move 49 = .ok (.getfield 47, 3) := by decide +kernel
theorem cd_F_move_52 : decode cb_F_move 52 = .ok (.getfield 98, 3) := by decide +kernel
theorem cd_F_move_55 : decode cb_F_move 55 = .ok (.iload_n 1, 1) := by decide +kernel
theorem cd_F_move_56 : decode cb_F_move 56 = .ok (.iaload, 1) := by decide +kernel
theorem cd_F_move_57 : decode cb_F_move 57 = .ok (.invokevirtual 167, 3) := by decide +kernel
theorem cd_F_move_60 : decode cb_F_move 60 = .ok (.aload_n 0, 1) := by decide +kernel
theorem cd_F_move_61 : decode cb_F_move 61 = .ok (.getfield 47, 3) := by decide +kernel
theorem cd_F_move_64 : decode cb_F_move 64 = .ok (.iload_n 1, 1) := by decide +kernel
theorem cd_F_move_65 : decode cb_F_move 65 = .ok (.iload_n 2, 1) := by decide +kernel
theorem cd_F_move_66 : decode cb_F_move 66 = .ok (.invokevirtual 170, 3) := by decide +kernel
theorem cd_F_move_69 : decode cb_F_move 69 = .ok (.iconst 1, 1) := by decide +kernel
theorem cd_F_move_70 : decode cb_F_move 70 = .ok (.ireturn, 1) := by decide +kernel
theorem cd_F_was_0 : decode cb_F_was 0 = .ok (.aload_n 0, 1) := by decide +kernel
theorem cd_F_was_1 : decode cb_F_was 1 = .ok (.getfield 47, 3) := by decide +kernel
theorem cd_F_was_4 : decode cb_F_was 4 = .ok (.iload_n 1, 1) := by decide +kernel
theorem cd_F_was_5 : decode cb_F_was 5 = .ok (.invokevirtual 87, 3) := by decide +kernel
theorem cd_F_was_8 : decode cb_F_was 8 = .ok (.ifCond .eq 20, 3) := by decide +kernel
theorem cd_F_was_11 : decode cb_F_was 11 = .ok (.iload_n 2, 1) := by decide +kernel
theorem cd_F_was_12 : decode cb_F_was 12 = .ok (.ifCond .lt 16, 3) := by decide +kernel
theorem cd_F_was_15 : decode cb_F_was 15 = .ok (.iload_n 2, 1) := by decide +kernel
theorem cd_F_was_16 : decode cb_F_was 16 = .ok (.aload_n 0, 1) := by decide +kernel
theorem cd_F_was_17 : decode cb_F_was 17 = .ok (.getfield 19, 3) := by decide +kernel
theorem cd_F_was_20 : decode cb_F_was 20 = .ok (.getfield 173, 3) := by decide +kernel
theorem cd_F_was_23 : decode cb_F_was 23 = .ok (.iload_n 1, 1) := by decide +kernel
theorem cd_F_was_24 : decode cb_F_was 24 = .ok (.iaload, 1) := by decide +kernel
theorem cd_F_was_25 : decode cb_F_was 25 = .ok (.if_icmp .lt 5, 3) := by decide +kernel
theorem cd_F_was_28 : decode cb_F_was 28 = .ok (.iconst (-1), 1) := by decide +kernel
theorem cd_F_was_29 : decode cb_F_was 29 = .ok (.ireturn, 1) := by decide +kernel
theorem cd_F_was_30 : decode cb_F_was 30 = .ok (.aload_n 0, 1) := by decide +kernel
theorem cd_F_was_31 : decode cb_F_was 31 = .ok (.getfield 19, 3) := by decide +kernel
theorem cd_F_was_34 : decode cb_F_was 34 = .ok (.iload_n 1, 1) := by decide +kernel
theorem cd_F_was_35 : decode cb_F_was 35 = .ok (.iload_n 2, 1) := by decide +kernel
theorem cd_F_was_36 : decode cb_F_was 36 = .ok (.invokevirtual 176, 3) := by decide +kernel
theorem cd_F_was_39 : decode cb_F_was 39 = .ok (.ireturn, 1) := by decide +kernel
theorem cd_F_published_0 : decode cb_F_published 0 = .ok (.aload_n 0, 1) := by decide +kernel
theorem cd_F_published_1 : decode cb_F_published 1 = .ok (.getfield 47, 3) := by decide +kernel
theorem cd_F_published_4 : decode cb_F_published 4 = .ok (.iload_n 1, 1) := by decide +kernel
theorem cd_F_published_5 : decode cb_F_published 5 = .ok (.invokevirtual 87, 3) := by decide +kernel
theorem cd_F_published_8 : decode cb_F_published 8 = .ok (.ifCond .ne 5, 3) := by decide +kernel
theorem cd_F_published_11 : decode cb_F_published 11 = .ok (.iconst (-1), 1) := by decide +kernel
theorem cd_F_published_12 : decode cb_F_published 12 = .ok (.ireturn, 1) := by decide +kernel
theorem cd_F_published_13 : decode cb_F_published 13 = .ok (.aload_n 0, 1) := by decide +kernel
theorem cd_F_published_14 : decode cb_F_published 14 = .ok (.getfield 19, 3) := by decide +kernel
theorem cd_F_published_17 : decode cb_F_published 17 = .ok (.getfield 179, 3) := by decide +kernel
theorem cd_F_published_20 : decode cb_F_published 20 = .ok (.iload_n 1, 1) := by decide +kernel
theorem cd_F_published_21 : decode cb_F_published 21 = .ok (.iload_n 2, 1) := by decide +kernel
theorem cd_F_published_22 : decode cb_F_published 22 = .ok (.ifCond .ne 7, 3) := by decide +kernel
theorem cd_F_published_25 : decode cb_F_published 25 = .ok (.iconst 1, 1) := by decide +kernel
theorem cd_F_published_26 : decode cb_F_published 26 = .ok (.goto 4, 3) := by decide +kernel
theorem cd_F_published_29 : decode cb_F_published 29 = .ok (.iconst 0, 1) := by decide +kernel
theorem cd_F_published_30 : decode cb_F_published 30 = .ok (.bastore, 1) := by decide +kernel
theorem cd_F_published_31 : decode cb_F_published 31 = .ok (.aload_n 0, 1) := by decide +kernel
theorem cd_F_published_32 : decode cb_F_published 32 = .ok (.iload_n 1, 1) := by decide +kernel
theorem cd_F_published_33 : decode cb_F_published 33 = .ok (.invokevirtual 183, 3) := by decide +kernel
theorem cd_F_published_36 : decode cb_F_published 36 = .ok (.ifCond .eq 7, 3) := by decide +kernel
theorem cd_F_published_39 : decode cb_F_published 39 = .ok (.iconst 1, 1) := by decide +kernel
theorem cd_F_published_40 : decode cb_F_published 40 = .ok (.goto 4, 3) := by decide +kernel
theorem cd_F_published_43 : decode cb_F_published 43 = .ok (.iconst 0, 1) := by decide +kernel
theorem cd_F_published_44 : decode cb_F_published 44 = .ok (.ireturn, 1) := by decide +kernel
theorem cd_F_merge_0 : decode cb_F_merge 0 = .ok (.aload_n 0, 1) := by decide +kernel
theorem cd_F_merge_1 : decode cb_F_merge 1 = .ok (.getfield 10, 3) := by decide +kernel
theorem cd_F_merge_4 : decode cb_F_merge 4 = .ok (.invokevirtual 58, 3) := by decide +kernel
theorem cd_F_merge_7 : decode cb_F_merge 7 = .ok (.ifCond .ne 13, 3) := by decide +kernel
theorem cd_F_merge_10 : decode cb_F_merge 10 = .ok (.new 62, 3) := by decide +kernel
theorem cd_F_merge_13 : decode cb_F_merge 13 = .ok (.dup, 1) := by decide +kernel
theorem cd_F_merge_14 : decode cb_F_merge 14 = .ok (.ldc 64, 2) := by decide +kernel
theorem cd_F_merge_16 : decode cb_F_merge 16 = .ok (.invokespecial 66, 3) := by decide +kernel
theorem cd_F_merge_19 : decode cb_F_merge 19 = .ok (.athrow, 1) := by decide +kernel
theorem cd_F_merge_20 : decode cb_F_merge 20 = .ok (.aload_n 0, 1) := by decide +kernel
theorem cd_F_merge_21 : decode cb_F_merge 21 = .ok (.aload_n 0, 1) := by decide +kernel
theorem cd_F_merge_22 : decode cb_F_merge 22 = .ok (.getfield 10, 3) := by decide +kernel
theorem cd_F_merge_25 : decode cb_F_merge 25 = .ok (.aload_n 0, 1) := by decide +kernel
theorem cd_F_merge_26 : decode cb_F_merge 26 = .ok (.getfield 51, 3) := by decide +kernel
theorem cd_F_merge_29 : decode cb_F_merge 29 = .ok (.invokevirtual 69, 3) := by decide +kernel
theorem cd_F_merge_32 : decode cb_F_merge 32 = .ok (.putfield 51, 3) := by decide +kernel
theorem cd_F_merge_35 : decode cb_F_merge 35 = .ok (.aload_n 0, 1) := by decide +kernel
theorem cd_F_merge_36 : decode cb_F_merge 36 = .ok (.getfield 33, 3) := by decide +kernel
theorem cd_F_merge_39 : decode cb_F_merge 39 = .ok (.aload_n 0, 1) := by decide +kernel
theorem cd_F_merge_40 : decode cb_F_merge 40 = .ok (.getfield 47, 3) := by decide +kernel
theorem cd_F_merge_43 : decode cb_F_merge 43 = .ok (.aload_n 0, 1) := by decide +kernel
theorem cd_F_merge_44 : decode cb_F_merge 44 = .ok (.getfield 51, 3) := by decide +kernel
theorem cd_F_merge_47 : decode cb_F_merge 47 = .ok (.invokevirtual 186, 3) := by decide +kernel
theorem cd_F_merge_50 : decode cb_F_merge 50 = .ok (.aload_n 0, 1) := by decide +kernel
theorem cd_F_merge_51 : decode cb_F_merge 51 = .ok (.getfield 33, 3) := by decide +kernel
theorem cd_F_merge_54 : decode cb_F_merge 54 = .ok (.getfield 190, 3) := by decide +kernel
theorem cd_F_merge_57 : decode cb_F_merge 57 = .ok (.ireturn, 1) := by decide +kernel
theorem cd_F_ask_0 : decode cb_F_ask 0 = .ok (.aload_n 0, 1) := by decide +kernel
theorem cd_F_ask_1 : decode cb_F_ask 1 = .ok (.getfield 33, 3) := by decide +kernel
theorem cd_F_ask_4 : decode cb_F_ask 4 = .ok (.iload_n 1, 1) := by decide +kernel
theorem cd_F_ask_5 : decode cb_F_ask 5 = .ok (.invokevirtual 191, 3) := by decide +kernel
theorem cd_F_ask_8 : decode cb_F_ask 8 = .ok (.ifCond .ne 5, 3) := by decide +kernel
theorem cd_F_ask_11 : decode cb_F_ask 11 = .ok (.iconst (-1), 1) := by decide +kernel
theorem cd_F_ask_12 : decode cb_F_ask 12 = .ok (.ireturn, 1) := by decide +kernel
theorem cd_F_ask_13 : decode cb_F_ask 13 = .ok (.iload_n 2, 1) := by decide +kernel
theorem cd_F_ask_14 : decode cb_F_ask 14 = .ok (.lookupswitch 46 #[(0, 26), (1, 36)], 26) := by decide +kernel
theorem cd_F_ask_40 : decode cb_F_ask 40 = .ok (.aload_n 0, 1) := by decide +kernel
theorem cd_F_ask_41 : decode cb_F_ask 41 = .ok (.getfield 33, 3) := by decide +kernel
theorem cd_F_ask_44 : decode cb_F_ask 44 = .ok (.getfield 192, 3) := by decide +kernel
theorem cd_F_ask_47 : decode cb_F_ask 47 = .ok (.iload_n 1, 1) := by decide +kernel
theorem cd_F_ask_48 : decode cb_F_ask 48 = .ok (.iaload, 1) := by decide +kernel
theorem cd_F_ask_49 : decode cb_F_ask 49 = .ok (.ireturn, 1) := by decide +kernel
theorem cd_F_ask_50 : decode cb_F_ask 50 = .ok (.aload_n 0, 1) := by decide +kernel
theorem cd_F_ask_51 : decode cb_F_ask 51 = .ok (.getfield 33, 3) := by decide +kernel
theorem cd_F_ask_54 : decode cb_F_ask 54 = .ok (.getfield 195, 3) := by decide +kernel
theorem cd_F_ask_57 : decode cb_F_ask 57 = .ok (.iload_n 1, 1) := by decide +kernel
theorem cd_F_ask_58 : decode cb_F_ask 58 = .ok (.iaload, 1) := by decide +kernel
theorem cd_F_ask_59 : decode cb_F_ask 59 = .ok (.ireturn, 1) := by decide +kernel
theorem cd_F_ask_60 : decode cb_F_ask 60 = .ok (.iconst (-1), 1) := by decide +kernel
theorem cd_F_ask_61 : decode cb_F_ask 61 = .ok (.ireturn, 1) := by decide +kernel
theorem cd_F_take_0 : decode cb_F_take 0 = .ok (.aload_n 0, 1) := by decide +kernel
theorem cd_F_take_1 : decode cb_F_take 1 = .ok (.getfield 33, 3) := by decide +kernel
theorem cd_F_take_4 : decode cb_F_take 4 = .ok (.iload_n 1, 1) := by decide +kernel
theorem cd_F_take_5 : decode cb_F_take 5 = .ok (.invokevirtual 191, 3) := by decide +kernel
theorem cd_F_take_8 : decode cb_F_take 8 = .ok (.ifCond .ne 5, 3) := by decide +kernel
theorem cd_F_take_11 : decode cb_F_take 11 = .ok (.iconst (-1), 1) := by decide +kernel
theorem cd_F_take_12 : decode cb_F_take 12 = .ok (.ireturn, 1) := by decide +kernel
theorem cd_F_take_13 : decode cb_F_take 13 = .ok (.aload_n 0, 1) := by decide +kernel
theorem cd_F_take_14 : decode cb_F_take 14 = .ok (.getfield 33, 3) := by decide +kernel
theorem cd_F_take_17 : decode cb_F_take 17 = .ok (.getfield 76, 3) := by decide +kernel
theorem cd_F_take_20 : decode cb_F_take 20 = .ok (.ifCond .ne 15, 3) := by decide +kernel
theorem cd_F_take_23 : decode cb_F_take 23 = .ok (.aload_n 0, 1) := by decide +kernel
theorem cd_F_take_24 : decode cb_F_take 24 = .ok (.getfield 33, 3) := by decide +kernel
theorem cd_F_take_27 : decode cb_F_take 27 = .ok (.getfield 198, 3) := by decide +kernel
theorem cd_F_take_30 : decode cb_F_take 30 = .ok (.iload_n 1, 1) := by decide +kernel
theorem cd_F_take_31 : decode cb_F_take 31 = .ok (.baload, 1) := by decide +kernel
theorem cd_F_take_32 : decode cb_F_take 32 = .ok (.ifCond .eq 5, 3) := by decide +kernel
theorem cd_F_take_35 : decode cb_F_take 35 = .ok (.iconst 0, 1) := by decide +kernel
theorem cd_F_take_36 : decode cb_F_take 36 = .ok (.ireturn, 1) := by decide +kernel
theorem cd_F_take_37 : decode cb_F_take 37 = .ok (.aload_n 0, 1) := by decide +kernel
theorem cd_F_take_38 : decode cb_F_take 38 = .ok (.getfield 47, 3) := by decide +kernel
theorem cd_F_take_41 : decode cb_F_take 41 = .ok (.aload_n 0, 1) := by decide +kernel
theorem cd_F_take_42 : decode cb_F_take 42 = .ok (.getfield 33, 3) := by decide +kernel
theorem cd_F_take_45 : decode cb_F_take 45 = .ok (.getfield 192, 3) := by decide +kernel
theorem cd_F_take_48 : decode cb_F_take 48 = .ok (.iload_n 1, 1) := by decide +kernel
theorem cd_F_take_49 : decode cb_F_take 49 = .ok (.iaload, 1) := by decide +kernel
theorem cd_F_take_50 : decode cb_F_take 50 = .ok (.aload_n 0, 1) := by decide +kernel
theorem cd_F_take_51 : decode cb_F_take 51 = .ok (.getfield 51, 3) := by decide +kernel
theorem cd_F_take_54 : decode cb_F_take 54 = .ok (.aload_n 0, 1) := by decide +kernel
theorem cd_F_take_55 : decode cb_F_take 55 = .ok (.getfield 33, 3) := by decide +kernel
theorem cd_F_take_58 : decode cb_F_take 58 = .ok (.getfield 201, 3) := by decide +kernel
theorem cd_F_take_61 : decode cb_F_take 61 = .ok (.iload_n 1, 1) := by decide +kernel
theorem cd_F_take_62 : decode cb_F_take 62 = .ok (.iaload, 1) := by decide +kernel
theorem cd_F_take_63 : decode cb_F_take 63 = .ok (.invokevirtual 204, 3) := by decide +kernel
theorem cd_F_take_66 : decode cb_F_take 66 = .ok (.aload_n 0, 1) := by decide +kernel
theorem cd_F_take_67 : decode cb_F_take 67 = .ok (.getfield 33, 3) := by decide +kernel
theorem cd_F_take_70 : decode cb_F_take 70 = .ok (.getfield 198, 3) := by decide +kernel
theorem cd_F_take_73 : decode cb_F_take 73 = .ok (.iload_n 1, 1) := by decide +kernel
theorem cd_F_take_74 : decode cb_F_take 74 = .ok (.iconst 1, 1) := by decide +kernel
theorem cd_F_take_75 : decode cb_F_take 75 = .ok (.bastore, 1) := by decide +kernel
theorem cd_F_take_76 : decode cb_F_take 76 = .ok (.iconst 1, 1) := by decide +kernel
theorem cd_F_take_77 : decode cb_F_take 77 = .ok (.ireturn, 1) := by decide +kernel
theorem cd_F_print_0 : decode cb_F_print 0 = .ok (.aload_n 0, 1) := by decide +kernel
theorem cd_F_print_1 : decode cb_F_print 1 = .ok (.getfield 40, 3) := by decide +kernel
theorem cd_F_print_4 : decode cb_F_print 4 = .ok (.aload_n 0, 1) := by decide +kernel
theorem cd_F_print_5 : decode cb_F_print 5 = .ok (.getfield 47, 3) := by decide +kernel
theorem cd_F_print_8 : decode cb_F_print 8 = .ok (.aload_n 0, 1) := by decide +kernel
theorem cd_F_print_9 : decode cb_F_print 9 = .ok (.getfield 19, 3) := by decide +kernel
theorem cd_F_print_12 : decode cb_F_print 12 = .ok (.invokevirtual 208, 3) := by decide +kernel
theorem cd_F_print_15 : decode cb_F_print 15 = .ok (.aload_n 0, 1) := by decide +kernel
theorem cd_F_print_16 : decode cb_F_print 16 = .ok (.getfield 40, 3) := by decide +kernel
theorem cd_F_print_19 : decode cb_F_print 19 = .ok (.getfield 212, 3) := by decide +kernel
theorem cd_F_print_22 : decode cb_F_print 22 = .ok (.ireturn, 1) := by decide +kernel
theorem cd_F_at_0 : decode cb_F_at 0 = .ok (.iload_n 1, 1) := by decide +kernel
theorem cd_F_at_1 : decode cb_F_at 1 = .ok (.ifCond .lt 14, 3) := by decide +kernel
theorem cd_F_at_4 : decode cb_F_at 4 = .ok (.iload_n 1, 1) := by decide +kernel
theorem cd_F_at_5 : decode cb_F_at 5 = .ok (.aload_n 0, 1) := by decide +kernel
theorem cd_F_at_6 : decode cb_F_at 6 = .ok (.getfield 40, 3) := by decide +kernel
theorem cd_F_at_9 : decode cb_F_at 9 = .ok (.getfield 212, 3) := by decide +kernel
theorem cd_F_at_12 : decode cb_F_at 12 = .ok (.if_icmp .lt 5, 3) := by decide +kernel
theorem cd_F_at_15 : decode cb_F_at 15 = .ok (.iconst (-1), 1) := by decide +kernel
theorem cd_F_at_16 : decode cb_F_at 16 = .ok (.ireturn, 1) := by decide +kernel
theorem cd_F_at_17 : decode cb_F_at 17 = .ok (.aload_n 0, 1) := by decide +kernel
theorem cd_F_at_18 : decode cb_F_at 18 = .ok (.getfield 40, 3) := by decide +kernel
theorem cd_F_at_21 : decode cb_F_at 21 = .ok (.getfield 215, 3) := by decide +kernel
theorem cd_F_at_24 : decode cb_F_at 24 = .ok (.iload_n 1, 1) := by decide +kernel
theorem cd_F_at_25 : decode cb_F_at 25 = .ok (.iaload, 1) := by decide +kernel
theorem cd_F_at_26 : decode cb_F_at 26 = .ok (.ireturn, 1) := by decide +kernel
theorem cd_F_isShown_0 : decode cb_F_isShown 0 = .ok (.iload_n 1, 1) := by decide +kernel
theorem cd_F_isShown_1 : decode cb_F_isShown 1 = .ok (.istore_n 2, 1) := by decide +kernel
theorem cd_F_isShown_2 : decode cb_F_isShown 2 = .ok (.iconst 0, 1) := by decide +kernel
theorem cd_F_isShown_3 : decode cb_F_isShown 3 = .ok (.istore_n 3, 1) := by decide +kernel
theorem cd_F_isShown_4 : decode cb_F_isShown 4 = .ok (.iload_n 3, 1) := by decide +kernel
theorem cd_F_isShown_5 : decode cb_F_isShown 5 = .ok (.bipush 8, 2) := by decide +kernel
theorem cd_F_isShown_7 : decode cb_F_isShown 7 = .ok (.if_icmp .gt 44, 3) := by decide +kernel
theorem cd_F_isShown_10 : decode cb_F_isShown 10 = .ok (.aload_n 0, 1) := by decide +kernel
theorem cd_F_isShown_11 : decode cb_F_isShown 11 = .ok (.getfield 47, 3) := by decide +kernel
theorem cd_F_isShown_14 : decode cb_F_isShown 14 = .ok (.iload_n 2, 1) := by decide +kernel
theorem cd_F_isShown_15 : decode cb_F_isShown 15 = .ok (.invokevirtual 87, 3) := by decide +kernel
theorem cd_F_isShown_18 : decode cb_F_isShown 18 = .ok (.ifCond .eq 33, 3) := by decide +kernel
theorem cd_F_isShown_21 : decode cb_F_isShown 21 = .ok (.aload_n 0, 1) := by decide +kernel
theorem cd_F_isShown_22 : decode cb_F_isShown 22 = .ok (.getfield 19, 3) := by decide +kernel
theorem cd_F_isShown_25 : decode cb_F_isShown 25 = .ok (.getfield 179, 3) := by decide +kernel
theorem cd_F_isShown_28 : decode cb_F_isShown 28 = .ok (.iload_n 2, 1) := by decide +kernel
theorem cd_F_isShown_29 : decode cb_F_isShown 29 = .ok (.baload, 1) := by decide +kernel
theorem cd_F_isShown_30 : decode cb_F_isShown 30 = .ok (.ifCond .eq 5, 3) := by decide +kernel
theorem cd_F_isShown_33 : decode cb_F_isShown 33 = .ok (.iconst 0, 1) := by decide +kernel
theorem cd_F_isShown_34 : decode cb_F_isShown 34 = .ok (.ireturn, 1) := by decide +kernel
theorem cd_F_isShown_35 : decode cb_F_isShown 35 = .ok (.aload_n 0, 1) := by decide +kernel
theorem cd_F_isShown_36 : decode cb_F_isShown 36 = .ok (.getfield 47, 3) := by decide +kernel
theorem cd_F_isShown_39 : decode cb_F_isShown 39 = .ok (.getfield 98, 3) := by decide +kernel
theorem cd_F_isShown_42 : decode cb_F_isShown 42 = .ok (.iload_n 2, 1) := by decide +kernel
theorem cd_F_isShown_43 : decode cb_F_isShown 43 = .ok (.iaload, 1) := by decide +kernel
theorem cd_F_isShown_44 : decode cb_F_isShown 44 = .ok (.istore_n 2, 1) := by decide +kernel
theorem cd_F_isShown_45 : decode cb_F_isShown 45 = .ok (.iinc 3 1, 3) := by decide +kernel
theorem cd_F_isShown_48 : decode cb_F_isShown 48 = .ok (.goto (-44), 3) := by decide +kernel
theorem cd_F_isShown_51 : decode cb_F_isShown 51 = .ok (.iconst 1, 1) := by decide +kernel
theorem cd_F_isShown_52 : decode cb_F_isShown 52 = .ok (.ireturn, 1) := by decide +kernel
theorem cd_F_isRestrictionKind_0 : decode cb_F_isRestrictionKind 0 = .ok (.iload_n 0, 1) := by decide +kernel
theorem cd_F_isRestrictionKind_1 : decode cb_F_isRestrictionKind 1 = .ok (.ifCond .lt 12, 3) := by decide +kernel
theorem cd_F_isRestrictionKind_4 : decode cb_F_isRestrictionKind 4 = .ok (.iload_n 0, 1) := by decide +kernel
theorem cd_F_isRestrictionKind_5 : decode cb_F_isRestrictionKind 5 = .ok (.iconst 4, 1) := by decide +kernel
theorem cd_F_isRestrictionKind_6 : decode cb_F_isRestrictionKind 6 = .ok (.if_icmp .ge 7, 3) := by decide +kernel
theorem cd_F_isRestrictionKind_9 : decode cb_F_isRestrictionKind 9 = .ok (.iconst 1, 1) := by decide +kernel
theorem cd_F_isRestrictionKind_10 : decode cb_F_isRestrictionKind 10 = .ok (.goto 4, 3) := by decide +kernel
theorem cd_F_isRestrictionKind_13 : decode cb_F_isRestrictionKind 13 = .ok (.iconst 0, 1) := by decide +kernel
theorem cd_F_isRestrictionKind_14 : decode cb_F_isRestrictionKind 14 = .ok (.ireturn, 1) := by decide +kernel
theorem cd_F_order_0 : decode cb_F_order 0 = .ok (.iload_n 0, 1) := by decide +kernel
theorem cd_F_order_1 : decode cb_F_order 1 = .ok (.iload_n 1, 1) := by decide +kernel
theorem cd_F_order_2 : decode cb_F_order 2 = .ok (.if_icmp .ne 5, 3) := by decide +kernel
theorem cd_F_order_5 : decode cb_F_order 5 = .ok (.iconst 0, 1) := by decide +kernel
theorem cd_F_order_6 : decode cb_F_order 6 = .ok (.ireturn, 1) := by decide +kernel
theorem cd_F_order_7 : decode cb_F_order 7 = .ok (.iload_n 0, 1) := by decide +kernel
theorem cd_F_order_8 : decode cb_F_order 8 = .ok (.iload_n 1, 1) := by decide +kernel
theorem cd_F_order_9 : decode cb_F_order 9 = .ok (.if_icmp .ge 7, 3) := by decide +kernel
theorem cd_F_order_12 : decode cb_F_order 12 = .ok (.iconst (-1), 1) := by decide +kernel
theorem cd_F_order_13 : decode cb_F_order 13 = .ok (.goto 4, 3) := by decide +kernel
theorem cd_F_order_16 : decode cb_F_order 16 = .ok (.iconst 1, 1) := by decide +kernel
theorem cd_F_order_17 : decode cb_F_order 17 = .ok (.ireturn, 1) := by decide +kernel
theorem cd_F_indexIn_0 : decode cb_F_indexIn 0 = .ok (.iconst 0, 1) := by decide +kernel
theorem cd_F_indexIn_1 : decode cb_F_indexIn 1 = .ok (.istore_n 2, 1) := by decide +kernel
theorem cd_F_indexIn_2 : decode cb_F_indexIn 2 = .ok (.iload_n 2, 1) := by decide +kernel
theorem cd_F_indexIn_3 : decode cb_F_indexIn 3 = .ok (.aload_n 0, 1) := by decide +kernel
theorem cd_F_indexIn_4 : decode cb_F_indexIn 4 = .ok (.arraylength, 1) := by decide +kernel
theorem cd_F_indexIn_5 : decode cb_F_indexIn 5 = .ok (.if_icmp .ge 18, 3) := by decide +kernel
theorem cd_F_indexIn_8 : decode cb_F_indexIn 8 = .ok (.aload_n 0, 1) := by decide +kernel
theorem cd_F_indexIn_9 : decode cb_F_indexIn 9 = .ok (.iload_n 2, 1) := by decide +kernel
theorem cd_F_indexIn_10 : decode cb_F_indexIn 10 = .ok (.caload, 1) := by decide +kernel
theorem cd_F_indexIn_11 : decode cb_F_indexIn 11 = .ok (.iload_n 1, 1) := by decide +kernel
theorem cd_F_indexIn_12 : decode cb_F_indexIn 12 = .ok (.if_icmp .ne 5, 3) := by decide +kernel
theorem cd_F_indexIn_15 : decode cb_F_indexIn 15 = .ok (.iload_n 2, 1) := by decide +kernel
theorem cd_F_indexIn_16 : decode cb_F_indexIn 16 = .ok (.ireturn, 1) := by decide +kernel
theorem cd_F_indexIn_17 : decode cb_F_indexIn 17 = .ok (.iinc 2 1, 3) := by decide +kernel
theorem cd_F_indexIn_20 : decode cb_F_indexIn 20 = .ok (.goto (-18), 3) := by decide +kernel
theorem cd_F_indexIn_23 : decode cb_F_indexIn 23 = .ok (.iconst (-1), 1) := by decide +kernel
theorem cd_F_indexIn_24 : decode cb_F_indexIn 24 = .ok (.ireturn, 1) := by decide +kernel
theorem cd_T_init_0 : decode cb_T_init 0 = .ok (.aload_n 0, 1) := by decide +kernel
theorem cd_T_init_1 : decode cb_T_init 1 = .ok (.invokespecial 3, 3) := by decide +kernel
theorem cd_T_init_4 : decode cb_T_init 4 = .ok (.aload_n 0, 1) := by decide +kernel
theorem cd_T_init_5 : decode cb_T_init 5 = .ok (.sipush 3000, 3) := by decide +kernel
theorem cd_T_init_8 : decode cb_T_init 8 = .ok (.newarray .int, 2) := by decide +kernel
theorem cd_T_init_10 : decode cb_T_init 10 = .ok (.putfield 9, 3) := by decide +kernel
theorem cd_T_init_13 : decode cb_T_init 13 = .ok (.aload_n 0, 1) := by decide +kernel
theorem cd_T_init_14 : decode cb_T_init 14 = .ok (.iconst 0, 1) := by decide +kernel
theorem cd_T_init_15 : decode cb_T_init 15 = .ok (.putfield 15, 3) := by decide +kernel
theorem cd_T_init_18 : decode cb_T_init 18 = .ok (.aload_n 0, 1) := by decide +kernel
theorem cd_T_init_19 : decode cb_T_init 19 = .ok (.iconst 0, 1) := by decide +kernel
theorem cd_T_init_20 : decode cb_T_init 20 = .ok (.putfield 19, 3) := by decide +kernel
theorem cd_T_init_23 : decode cb_T_init 23 = .ok (.aload_n 0, 1) := by decide +kernel
theorem cd_T_init_24 : decode cb_T_init 24 = .ok (.iconst (-1), 1) := by decide +kernel
theorem cd_T_init_25 : decode cb_T_init 25 = .ok (.putfield 22, 3) := by decide +kernel
theorem cd_T_init_28 : decode cb_T_init 28 = .ok (.aload_n 0, 1) := by decide +kernel
theorem cd_T_init_29 : decode cb_T_init 29 = .ok (.new 25, 3) := by decide +kernel
theorem cd_T_init_32 : decode cb_T_init 32 = .ok (.dup, 1) := by decide +kernel
theorem cd_T_init_33 : decode cb_T_init 33 = .ok (.invokespecial 27, 3) := by decide +kernel
theorem cd_T_init_36 : decode cb_T_init 36 = .ok (.putfield 28, 3) := by decide +kernel
theorem cd_T_init_39 : decode cb_T_init 39 = .ok (.return_, 1) := by decide +kernel
theorem cd_T_hear_0 : decode cb_T_hear 0 = .ok (.aload_n 0, 1) := by decide +kernel
theorem cd_T_hear_1 : decode cb_T_hear 1 = .ok (.getfield 15, 3) := by decide +kernel
theorem cd_T_hear_4 : decode cb_T_hear 4 = .ok (.sipush 3000, 3) := by decide +kernel
theorem cd_T_hear_7 : decode cb_T_hear 7 = .ok (.if_icmp .ge 23, 3) := by decide +kernel
theorem cd_T_hear_10 : decode cb_T_hear 10 = .ok (.aload_n 0, 1) := by decide +kernel
theorem cd_T_hear_11 : decode cb_T_hear 11 = .ok (.getfield 9, 3) := by decide +kernel
theorem cd_T_hear_14 : decode cb_T_hear 14 = .ok (.aload_n 0, 1) := by decide +kernel
theorem cd_T_hear_15 : decode cb_T_hear 15 = .ok (.getfield 15, 3) := by decide +kernel
theorem cd_T_hear_18 : decode cb_T_hear 18 = .ok (.iload_n 1, 1) := by decide +kernel
theorem cd_T_hear_19 : decode cb_T_hear 19 = .ok (.iastore, 1) := by decide +kernel
theorem cd_T_hear_20 : decode cb_T_hear 20 = .ok (.aload_n 0, 1) := by decide +kernel
theorem cd_T_hear_21 : decode cb_T_hear 21 = .ok (.dup, 1) := by decide +kernel
theorem cd_T_hear_22 : decode cb_T_hear 22 = .ok (.getfield 15, 3) := by decide +kernel
theorem cd_T_hear_25 : decode cb_T_hear 25 = .ok (.iconst 1, 1) := by decide +kernel
theorem cd_T_hear_26 : decode cb_T_hear 26 = .ok (.iadd, 1) := by decide +kernel
theorem cd_T_hear_27 : decode cb_T_hear 27 = .ok (.putfield 15, 3) := by decide +kernel
theorem cd_T_hear_30 : decode cb_T_hear 30 = .ok (.return_, 1) := by decide +kernel
theorem cd_T_exchange_0 : decode cb_T_exchange 0 = .ok (.aload_n 0, 1) := by decide +kernel
theorem cd_T_exchange_1 : decode cb_T_exchange 1 = .ok (.getfield 28, 3) := by decide +kernel
theorem cd_T_exchange_4 : decode cb_T_exchange 4 = .ok (.astore_n 2, 1) := by decide +kernel
theorem cd_T_exchange_5 : decode cb_T_exchange 5 = .ok (.aload_n 0, 1) := by decide +kernel
theorem cd_T_exchange_6 : decode cb_T_exchange 6 = .ok (.aload_n 1, 1) := by decide +kernel
theorem cd_T_exchange_7 : decode cb_T_exchange 7 = .ok (.putfield 28, 3) := by decide +kernel
theorem cd_T_exchange_10 : decode cb_T_exchange 10 = .ok (.aload_n 2, 1) := by decide +kernel
theorem cd_T_exchange_11 : decode cb_T_exchange 11 = .ok (.areturn, 1) := by decide +kernel
theorem cd_T_readText_0 : decode cb_T_readText 0 = .ok (.aload_n 0, 1) := by decide +kernel
theorem cd_T_readText_1 : decode cb_T_readText 1 = .ok (.iconst 0, 1) := by decide +kernel
theorem cd_T_readText_2 : decode cb_T_readText 2 = .ok (.putfield 19, 3) := by decide +kernel
theorem cd_T_readText_5 : decode cb_T_readText 5 = .ok (.aload_n 0, 1) := by decide +kernel
theorem cd_T_readText_6 : decode cb_T_readText 6 = .ok (.iconst (-1), 1) := by decide +kernel
theorem cd_T_readText_7 : decode cb_T_readText 7 = .ok (.putfield 22, 3) := by decide +kernel
theorem cd_T_readText_10 : decode cb_T_readText 10 = .ok (.aload_n 0, 1) := by decide +kernel
theorem cd_T_readText_11 : decode cb_T_readText 11 = .ok (.getfield 28, 3) := by decide +kernel
theorem cd_T_readText_14 : decode cb_T_readText 14 = .ok (.iconst 0, 1) := by decide +kernel
theorem cd_T_readText_15 : decode cb_T_readText 15 = .ok (.putfield 32, 3) := by decide +kernel
theorem cd_T_readText_18 : decode cb_T_readText 18 = .ok (.aload_n 0, 1) := by decide +kernel
theorem cd_T_readText_19 : decode cb_T_readText 19 = .ok (.invokevirtual 35, 3) := by decide +kernel
theorem cd_T_readText_22 : decode cb_T_readText 22 = .ok (.istore_n 1, 1) := by decide +kernel
theorem cd_T_readText_23 : decode cb_T_readText 23 = .ok (.aload_n 0, 1) := by decide +kernel
theorem cd_T_readText_24 : decode cb_T_readText 24 = .ok (.iconst 0, 1) := by decide +kernel
theorem cd_T_readText_25 : decode cb_T_readText 25 = .ok (.putfield 15, 3) := by decide +kernel
theorem cd_T_readText_28 : decode cb_T_readText 28 = .ok (.iload_n 1, 1) := by decide +kernel
theorem cd_T_readText_29 : decode cb_T_readText 29 = .ok (.ireturn, 1) := by decide +kernel
theorem cd_T_readLines_0 : decode cb_T_readLines 0 = .ok (.iconst 0, 1) := by decide +kernel
theorem cd_T_readLines_1 : decode cb_T_readLines 1 = .ok (.istore_n 1, 1) := by decide +kernel
theorem cd_T_readLines_2 : decode cb_T_readLines 2 = .ok (.iload_n 1, 1) := by decide +kernel
theorem cd_T_readLines_3 : decode cb_T_readLines 3 = .ok (.bipush 100, 2) := by decide +kernel
theorem cd_T_readLines_5 : decode cb_T_readLines 5 = .ok (.if_icmp .ge 32, 3) := by decide +kernel
theorem cd_T_readLines_8 : decode cb_T_readLines 8 = .ok (.aload_n 0, 1) := by decide +kernel
theorem cd_T_readLines_9 : decode cb_T_readLines 9 = .ok (.iload_n 1, 1) := by decide +kernel
theorem cd_T_readLines_10 : decode cb_T_readLines 10 = .ok (.invokevirtual 39, 3) := by decide +kernel
theorem cd_T_readLines_13 : decode cb_T_readLines 13 = .ok (.ifCond .ne 5, 3) := by decide +kernel
theorem cd_T_readLines_16 : decode cb_T_readLines 16 = .ok (.iconst 0, 1) := by decide +kernel
theorem cd_T_readLines_17 : decode cb_T_readLines 17 = .ok (.ireturn, 1) := by decide +kernel
theorem cd_T_readLines_18 : decode cb_T_readLines 18 = .ok (.aload_n 0, 1) := by decide +kernel
theorem cd_T_readLines_19 : decode cb_T_readLines 19 = .ok (.getfield 19, 3) := by decide +kernel
theorem cd_T_readLines_22 : decode cb_T_readLines 22 = .ok (.aload_n 0, 1) := by decide +kernel
theorem cd_T_readLines_23 : decode cb_T_readLines 23 = .ok (.getfield 15, 3) := by decide +kernel
theorem cd_T_readLines_26 : decode cb_T_readLines 26 = .ok (.if_icmp .lt 5, 3) := by decide +kernel
theorem cd_T_readLines_29 : decode cb_T_readLines 29 = .ok (.iconst 1, 1) := by decide +kernel
theorem cd_T_readLines_30 : decode cb_T_readLines 30 = .ok (.ireturn, 1) := by decide +kernel
theorem cd_T_readLines_31 : decode cb_T_readLines 31 = .ok (.iinc 1 1, 3) := by decide +kernel
theorem cd_T_readLines_34 : decode cb_T_readLines 34 = .ok (.goto (-32), 3) := by decide +kernel
theorem cd_T_readLines_37 : decode cb_T_readLines 37 = .ok (.aload_n 0, 1) := by decide +kernel
theorem cd_T_readLines_38 : decode cb_T_readLines 38 = .ok (.aload_n 0, 1) := by decide +kernel
theorem cd_T_readLines_39 : decode cb_T_readLines 39 = .ok (.getfield 19, 3) := by decide +kernel
theorem cd_T_readLines_42 : decode cb_T_readLines 42 = .ok (.invokevirtual 43, 3) := by decide +kernel
theorem cd_T_readLines_45 : decode cb_T_readLines 45 = .ok (.ireturn, 1) := by decide +kernel
theorem cd_T_readLine_0 : decode cb_T_readLine 0 = .ok (.aload_n 0, 1) := by decide +kernel
theorem cd_T_readLine_1 : decode cb_T_readLine 1 = .ok (.iload_n 1, 1) := by decide +kernel
theorem cd_T_readLine_2 : decode cb_T_readLine 2 = .ok (.invokevirtual 46, 3) := by decide +kernel
theorem cd_T_readLine_5 : decode cb_T_readLine 5 = .ok (.ifCond .eq 56, 3) := by decide +kernel
theorem cd_T_readLine_8 : decode cb_T_readLine 8 = .ok (.aload_n 0, 1) := by decide +kernel
theorem cd_T_readLine_9 : decode cb_T_readLine 9 = .ok (.iload_n 1, 1) := by decide +kernel
theorem cd_T_readLine_10 : decode cb_T_readLine 10 = .ok (.invokevirtual 49, 3) := by decide +kernel
theorem cd_T_readLine_13 : decode cb_T_readLine 13 = .ok (.ifCond .eq 48, 3) := by decide +kernel
theorem cd_T_readLine_16 : decode cb_T_readLine 16 = .ok (.aload_n 0, 1) := by decide +kernel
theorem cd_T_readLine_17 : decode cb_T_readLine 17 = .ok (.iload_n 1, 1) := by decide +kernel
theorem cd_T_readLine_18 : decode cb_T_readLine 18 = .ok (.invokevirtual 52, 3) := by decide +kernel
theorem cd_T_readLine_21 : decode cb_T_readLine 21 = .ok (.ifCond .eq 40, 3) := by decide +kernel
theorem cd_T_readLine_24 : decode cb_T_readLine 24 = .ok (.aload_n 0, 1) := by decide +kernel
theorem cd_T_readLine_25 : decode cb_T_readLine 25 = .ok (.iload_n 1, 1) := by decide +kernel
theorem cd_T_readLine_26 : decode cb_T_readLine 26 = .ok (.invokevirtual 55, 3) := by decide +kernel
theorem cd_T_readLine_29 : decode cb_T_readLine 29 = .ok (.ifCond .eq 32, 3) := by decide +kernel
theorem cd_T_readLine_32 : decode cb_T_readLine 32 = .ok (.aload_n 0, 1) := by decide +kernel
theorem cd_T_readLine_33 : decode cb_T_readLine 33 = .ok (.iload_n 1, 1) := by decide +kernel
theorem cd_T_readLine_34 : decode cb_T_readLine 34 = .ok (.invokevirtual 58, 3) := by decide +kernel
theorem cd_T_readLine_37 : decode cb_T_readLine 37 = .ok (.ifCond .eq 24, 3) := by decide +kernel
theorem cd_T_readLine_40 : decode cb_T_readLine 40 = .ok (.aload_n 0, 1) := by decide +kernel
theorem cd_T_readLine_41 : decode cb_T_readLine 41 = .ok (.iload_n 1, 1) := by decide +kernel
theorem cd_T_readLine_42 : decode cb_T_readLine 42 = .ok (.invokevirtual 61, 3) := by decide +kernel
theorem cd_T_readLine_45 : decode cb_T_readLine 45 = .ok (.ifCond .eq 16, 3) := by decide +kernel
theorem cd_T_readLine_48 : decode cb_T_readLine 48 = .ok (.aload_n 0, 1) := by decide +kernel
theorem cd_T_readLine_49 : decode cb_T_readLine 49 = .ok (.bipush 10, 2) := by decide +kernel
theorem cd_T_readLine_51 : decode cb_T_readLine 51 = .ok (.invokevirtual 64, 3) := by decide +kernel
theorem cd_T_readLine_54 : decode cb_T_readLine 54 = .ok (.ifCond .eq 7, 3) := by decide +kernel
theorem cd_T_readLine_57 : decode cb_T_readLine 57 = .ok (.iconst 1, 1) := by decide +kernel
theorem cd_T_readLine_58 : decode cb_T_readLine 58 = .ok (.goto 4, 3) := by decide +kernel
theorem cd_T_readLine_61 : decode cb_T_readLine 61 = .ok (.iconst 0, 1) := by decide +kernel
theorem cd_T_readLine_62 : decode cb_T_readLine 62 = .ok (.ireturn, 1) := by decide +kernel
theorem cd_T_readDepth_0 : decode cb_T_readDepth 0 = .ok (.iload_n 1, 1) := by decide +kernel
theorem cd_T_readDepth_1 : decode cb_T_readDepth 1 = .ok (.ifCond .ne 7, 3) := by decide +kernel
theorem cd_T_readDepth_4 : decode cb_T_readDepth 4 = .ok (.iconst 0, 1) := by decide +kernel
theorem cd_T_readDepth_5 : decode cb_T_readDepth 5 = .ok (.goto 21, 3) := by decide +kernel
theorem cd_T_readDepth_8 : decode cb_T_readDepth 8 = .ok (.bipush 8, 2) := by decide +kernel
theorem cd_T_readDepth_10 : decode cb_T_readDepth 10 = .ok (.aload_n 0, 1) := by decide +kernel
theorem cd_T_readDepth_11 : decode cb_T_readDepth 11 = .ok (.getfield 28, 3) := by decide +kernel
theorem cd_T_readDepth_14 : decode cb_T_readDepth 14 = .ok (.getfield 67, 3) := by decide +kernel
theorem cd_T_readDepth_17 : decode cb_T_readDepth 17 = .ok (.iload_n 1, 1) := by decide +kernel
theorem cd_T_readDepth_18 : decode cb_T_readDepth 18 = .ok (.iconst 1, 1) := by decide +kernel
theorem cd_T_readDepth_19 : decode cb_T_readDepth 19 = .ok (.isub, 1) := by decide +kernel
theorem cd_T_readDepth_20 : decode cb_T_readDepth 20 = .ok (.iaload, 1) := by decide +kernel
theorem cd_T_readDepth_21 : decode cb_T_readDepth 21 = .ok (.iconst 1, 1) := by decide +kernel
theorem cd_T_readDepth_22 : decode cb_T_readDepth 22 = .ok (.iadd, 1) := by decide +kernel
theorem cd_T_readDepth_23 : decode cb_T_readDepth 23 = .ok (.invokestatic 70, 3) := by decide +kernel
theorem cd_T_readDepth_26 : decode cb_T_readDepth 26 = .ok (.istore_n 2, 1) := by decide +kernel
theorem cd_T_readDepth_27 : decode cb_T_readDepth 27 = .ok (.iconst 0, 1) := by decide +kernel
theorem cd_T_readDepth_28 : decode cb_T_readDepth 28 = .ok (.istore_n 3, 1) := by decide +kernel
theorem cd_T_readDepth_29 : decode cb_T_readDepth 29 = .ok (.iload_n 3, 1) := by decide +kernel
theorem cd_T_readDepth_30 : decode cb_T_readDepth 30 = .ok (.iload_n 2, 1) := by decide +kernel
theorem cd_T_readDepth_31 : decode cb_T_readDepth 31 = .ok (.if_icmp .ge 29, 3) := by decide +kernel
theorem cd_T_readDepth_34 : decode cb_T_readDepth 34 = .ok (.aload_n 0, 1) := by decide +kernel
theorem cd_T_readDepth_35 : decode cb_T_readDepth 35 = .ok (.iconst 0, 1) := by decide +kernel
theorem cd_T_readDepth_36 : decode cb_T_readDepth 36 = .ok (.invokevirtual 76, 3) := by decide +kernel
theorem cd_T_readDepth_39 : decode cb_T_readDepth 39 = .ok (.bipush 43, 2) := by decide +kernel
theorem cd_T_readDepth_41 : decode cb_T_readDepth 41 = .ok (.if_icmp .ne 19, 3) := by decide +kernel
theorem cd_T_readDepth_44 : decode cb_T_readDepth 44 = .ok (.iinc 3 1, 3) := by decide +kernel
theorem cd_T_readDepth_47 : decode cb_T_readDepth 47 = .ok (.aload_n 0, 1) := by decide +kernel
theorem cd_T_readDepth_48 : decode cb_T_readDepth 48 = .ok (.dup, 1) := by decide +kernel
theorem cd_T_readDepth_49 : decode cb_T_readDepth 49 = .ok (.getfield 19, 3) := by decide +kernel
theorem cd_T_readDepth_52 : decode cb_T_readDepth 52 = .ok (.iconst 1, 1) := by decide +kernel
theorem cd_T_readDepth_53 : decode cb_T_readDepth 53 = .ok (.iadd, 1) := by decide +kernel
theorem cd_T_readDepth_54 : decode cb_T_readDepth 54 = .ok (.putfield 19, 3) := by decide +kernel
theorem cd_T_readDepth_57 : decode cb_T_readDepth 57 = .ok (.goto (-28), 3) := by decide +kernel
theorem cd_T_readDepth_60 : decode cb_T_readDepth 60 = .ok (.iload_n 1, 1) := by decide +kernel
theorem cd_T_readDepth_61 : decode cb_T_readDepth 61 = .ok (.ifCond .le 16, 3) := by decide +kernel
theorem cd_T_readDepth_64 : decode cb_T_readDepth 64 = .ok (.iload_n 3, 1) := by decide +kernel
theorem cd_T_readDepth_65 : decode cb_T_readDepth 65 = .ok (.ifCond .ne 12, 3) := by decide +kernel
theorem cd_T_readDepth_68 : decode cb_T_readDepth 68 = .ok (.aload_n 0, 1) := by decide +kernel
theorem cd_T_readDepth_69 : decode cb_T_readDepth 69 = .ok (.aload_n 0, 1) := by decide +kernel
theorem cd_T_readDepth_70 : decode cb_T_readDepth 70 = .ok (.getfield 19, 3) := by decide +kernel
theorem cd_T_readDepth_73 : decode cb_T_readDepth 73 = .ok (.invokevirtual 43, 3) := by decide +kernel
theorem cd_T_readDepth_76 : decode cb_T_readDepth 76 = .ok (.ireturn, 1) := by decide +kernel
theorem cd_T_readDepth_77 : decode cb_T_readDepth 77 = .ok (.aload_n 0, 1) := by decide +kernel
theorem cd_T_readDepth_78 : decode cb_T_readDepth 78 = .ok (.getfield 28, 3) := by decide +kernel
theorem cd_T_readDepth_81 : decode cb_T_readDepth 81 = .ok (.iload_n 3, 1) := by decide +kernel
theorem cd_T_readDepth_82 : decode cb_T_readDepth 82 = .ok (.invokevirtual 80, 3) := by decide +kernel
theorem cd_T_readDepth_85 : decode cb_T_readDepth 85 = .ok (.iconst 1, 1) := by decide +kernel
theorem cd_T_readDepth_86 : decode cb_T_readDepth 86 = .ok (.ireturn, 1) := by decide +kernel
theorem cd_T_readKind_0 : decode cb_T_readKind 0 = .ok (.getstatic 84, 3) := by decide +kernel
theorem cd_T_readKind_3 : decode cb_T_readKind 3 = .ok (.aload_n 0, 1) := by decide +kernel
theorem cd_T_readKind_4 : decode cb_T_readKind 4 = .ok (.iconst 0, 1) := by decide +kernel
theorem cd_T_readKind_5 : decode cb_T_readKind 5 = .ok (.invokevirtual 76, 3) := by decide +kernel
theorem cd_T_readKind_8 : decode cb_T_readKind 8 = .ok (.invokestatic 88, 3) := by decide +kernel
theorem cd_T_readKind_11 : decode cb_T_readKind 11 = .ok (.istore_n 2, 1) := by decide +kernel
theorem cd_T_readKind_12 : decode cb_T_readKind 12 = .ok (.aload_n 0, 1) := by decide +kernel
theorem cd_T_readKind_13 : decode cb_T_readKind 13 = .ok (.getfield 28, 3) := by decide +kernel
theorem cd_T_readKind_16 : decode cb_T_readKind 16 = .ok (.getfield 92, 3) := by decide +kernel
theorem cd_T_readKind_19 : decode cb_T_readKind 19 = .ok (.iload_n 1, 1) := by decide +kernel
theorem cd_T_readKind_20 : decode cb_T_readKind 20 = .ok (.iaload, 1) := by decide +kernel
theorem cd_T_readKind_21 : decode cb_T_readKind 21 = .ok (.istore_n 3, 1) := by decide +kernel
theorem cd_T_readKind_22 : decode cb_T_readKind 22 = .ok (.iload_n 2, 1) := by decide +kernel
theorem cd_T_readKind_23 : decode cb_T_readKind 23 = .ok (.iconst (-1), 1) := by decide +kernel
theorem cd_T_readKind_24 : decode cb_T_readKind 24 = .ok (.if_icmp .ne 12, 3) := by decide +kernel
theorem cd_T_readKind_27 : decode cb_T_readKind 27 = .ok (.aload_n 0, 1) := by decide +kernel
theorem cd_T_readKind_28 : decode cb_T_readKind 28 = .ok (.aload_n 0, 1) := by decide +kernel
theorem cd_T_readKind_29 : decode cb_T_readKind 29 = .ok (.getfield 19, 3) := by decide +kernel
theorem cd_T_readKind_32 : decode cb_T_readKind 32 = .ok (.invokevirtual 43, 3) := by decide +kernel
theorem cd_T_readKind_35 : decode cb_T_readKind 35 = .ok (.ireturn, 1) := by decide +kernel
theorem cd_T_readKind_36 : decode cb_T_readKind 36 = .ok (.aload_n 0, 1) := by decide +kernel
theorem cd_T_readKind_37 : decode cb_T_readKind 37 = .ok (.getfield 28, 3) := by decide +kernel
theorem cd_T_readKind_40 : decode cb_T_readKind 40 = .ok (.iload_n 3, 1) := by decide +kernel
theorem cd_T_readKind_41 : decode cb_T_readKind 41 = .ok (.invokevirtual 95, 3) := by decide +kernel
theorem cd_T_readKind_44 : decode cb_T_readKind 44 = .ok (.ifCond .eq 38, 3) := by decide +kernel
theorem cd_T_readKind_47 : decode cb_T_readKind 47 = .ok (.aload_n 0, 1) := by decide +kernel
theorem cd_T_readKind_48 : decode cb_T_readKind 48 = .ok (.getfield 28, 3) := by decide +kernel
theorem cd_T_readKind_51 : decode cb_T_readKind 51 = .ok (.getfield 98, 3) := by decide +kernel
theorem cd_T_readKind_54 : decode cb_T_readKind 54 = .ok (.iload_n 3, 1) := by decide +kernel
theorem cd_T_readKind_55 : decode cb_T_readKind 55 = .ok (.iaload, 1) := by decide +kernel
theorem cd_T_readKind_56 : decode cb_T_readKind 56 = .ok (.iconst 3, 1) := by decide +kernel
theorem cd_T_readKind_57 : decode cb_T_readKind 57 = .ok (.if_icmp .eq 16, 3) := by decide +kernel
theorem cd_T_readKind_60 : decode cb_T_readKind 60 = .ok (.iload_n 2, 1) := by decide +kernel
theorem cd_T_readKind_61 : decode cb_T_readKind 61 = .ok (.aload_n 0, 1) := by decide +kernel
theorem cd_T_readKind_62 : decode cb_T_readKind 62 = .ok (.getfield 28, 3) := by decide +kernel
theorem cd_T_readKind_65 : decode cb_T_readKind 65 = .ok (.getfield 98, 3) := by decide +kernel
theorem cd_T_readKind_68 : decode cb_T_readKind 68 = .ok (.iload_n 3, 1) := by decide +kernel
theorem cd_T_readKind_69 : decode cb_T_readKind 69 = .ok (.iaload, 1) := by decide +kernel
theorem cd_T_readKind_70 : decode cb_T_readKind 70 = .ok (.if_icmp .ge 12, 3) := by decide +kernel
theorem cd_T_readKind_73 : decode cb_T_readKind 73 = .ok (.aload_n 0, 1) := by decide +kernel
theorem cd_T_readKind_74 : decode cb_T_readKind 74 = .ok (.aload_n 0, 1) := by decide +kernel
theorem cd_T_readKind_75 : decode cb_T_readKind 75 = .ok (.getfield 19, 3) := by decide +kernel
theorem cd_T_readKind_78 : decode cb_T_readKind 78 = .ok (.invokevirtual 43, 3) := by decide +kernel
theorem cd_T_readKind_81 : decode cb_T_readKind 81 = .ok (.ireturn, 1) := by decide +kernel
theorem cd_T_readKind_82 : decode cb_T_readKind 82 = .ok (.aload_n 0, 1) := by decide +kernel
theorem cd_T_readKind_83 : decode cb_T_readKind 83 = .ok (.getfield 28, 3) := by decide +kernel
theorem cd_T_readKind_86 : decode cb_T_readKind 86 = .ok (.getfield 98, 3) := by decide +kernel
theorem cd_T_readKind_89 : decode cb_T_readKind 89 = .ok (.iload_n 1, 1) := by decide +kernel
theorem cd_T_readKind_90 : decode cb_T_readKind 90 = .ok (.iload_n 2, 1) := by decide +kernel
theorem cd_T_readKind_91 : decode cb_T_readKind 91 = .ok (.iastore, 1) := by decide +kernel
theorem cd_T_readKind_92 : decode cb_T_readKind 92 = .ok (.aload_n 0, 1) := by decide +kernel
theorem cd_T_readKind_93 : decode cb_T_readKind 93 = .ok (.dup, 1) := by decide +kernel
theorem cd_T_readKind_94 : decode cb_T_readKind 94 = .ok (.getfield 19, 3) := by decide +kernel
theorem cd_T_readKind_97 : decode cb_T_readKind 97 = .ok (.iconst 1, 1) := by decide +kernel
theorem cd_T_readKind_98 : decode cb_T_readKind 98 = .ok (.iadd, 1) := by decide +kernel
theorem cd_T_readKind_99 : decode cb_T_readKind 99 = .ok (.putfield 19, 3) := by decide +kernel
theorem cd_T_readKind_102 : decode cb_T_readKind 102 = .ok (.iconst 1, 1) := by decide +kernel
theorem cd_T_readKind_103 : decode cb_T_readKind 103 = .ok (.ireturn, 1) := by decide +kernel
theorem cd_T_readNumber_0 : decode cb_T_readNumber 0 = .ok (.aload_n 0, 1) := by decide +kernel
theorem cd_T_readNumber_1 : decode cb_T_readNumber 1 = .ok (.getfield 28, 3) := by decide +kernel
theorem cd_T_readNumber_4 : decode cb_T_readNumber 4 = .ok (.getfield 101, 3) := by decide +kernel
theorem cd_T_readNumber_7 : decode cb_T_readNumber 7 = .ok (.iload_n 1, 1) := by decide +kernel
theorem cd_T_readNumber_8 : decode cb_T_readNumber 8 = .ok (.aload_n 0, 1) := by decide +kernel
theorem cd_T_readNumber_9 : decode cb_T_readNumber 9 = .ok (.invokevirtual 104, 3) := by decide +kernel
theorem cd_T_readNumber_12 : decode cb_T_readNumber 12 = .ok (.iastore, 1) := by decide +kernel
theorem cd_T_readNumber_13 : decode cb_T_readNumber 13 = .ok (.aload_n 0, 1) := by decide +kernel
theorem cd_T_readNumber_14 : decode cb_T_readNumber 14 = .ok (.getfield 28, 3) := by decide +kernel
theorem cd_T_readNumber_17 : decode cb_T_readNumber 17 = .ok (.getfield 101, 3) := by decide +kernel
theorem cd_T_readNumber_20 : decode cb_T_readNumber 20 = .ok (.iload_n 1, 1) := by decide +kernel
theorem cd_T_readNumber_21 : decode cb_T_readNumber 21 = .ok (.iaload, 1) := by decide +kernel
theorem cd_T_readNumber_22 : decode cb_T_readNumber 22 = .ok (.iconst (-1), 1) := by decide +kernel
theorem cd_T_readNumber_23 : decode cb_T_readNumber 23 = .ok (.if_icmp .eq 7, 3) := by decide +kernel
theorem cd_T_readNumber_26 : decode cb_T_readNumber 26 = .ok (.iconst 1, 1) := by decide +kernel
theorem cd_T_readNumber_27 : decode cb_T_readNumber 27 = .ok (.goto 4, 3) := by decide +kernel
theorem cd_T_readNumber_30 : decode cb_T_readNumber 30 = .ok (.iconst 0, 1) := by decide +kernel
theorem cd_T_readNumber_31 : decode cb_T_readNumber 31 = .ok (.ireturn, 1) := by decide +kernel
theorem cd_T_readTitle_0 : decode cb_T_readTitle 0 = .ok (.aload_n 0, 1) := by decide +kernel
theorem cd_T_readTitle_1 : decode cb_T_readTitle 1 = .ok (.bipush 32, 2) := by decide +kernel
theorem cd_T_readTitle_3 : decode cb_T_readTitle 3 = .ok (.invokevirtual 64, 3) := by decide +kernel
theorem cd_T_readTitle_6 : decode cb_T_readTitle 6 = .ok (.ifCond .ne 5, 3) := by decide +kernel
theorem cd_T_readTitle_9 : decode cb_T_readTitle 9 = .ok (.iconst 0, 1) := by decide +kernel
theorem cd_T_readTitle_10 : decode cb_T_readTitle 10 = .ok (.ireturn, 1) := by decide +kernel
theorem cd_T_readTitle_11 : decode cb_T_readTitle 11 = .ok (.iconst 0, 1) := by decide +kernel
theorem cd_T_readTitle_12 : decode cb_T_readTitle 12 = .ok (.istore_n 2, 1) := by decide +kernel
theorem cd_T_readTitle_13 : decode cb_T_readTitle 13 = .ok (.iload_n 2, 1) := by decide +kernel
theorem cd_T_readTitle_14 : decode cb_T_readTitle 14 = .ok (.bipush 16, 2) := by decide +kernel
theorem cd_T_readTitle_16 : decode cb_T_readTitle 16 = .ok (.if_icmp .ge 43, 3) := by decide +kernel
theorem cd_T_readTitle_19 : decode cb_T_readTitle 19 = .ok (.aload_n 0, 1) := by decide +kernel
theorem cd_T_readTitle_20 : decode cb_T_readTitle 20 = .ok (.iconst 0, 1) := by decide +kernel
theorem cd_T_readTitle_21 : decode cb_T_readTitle 21 = .ok (.invokevirtual 76, 3) := by decide +kernel
theorem cd_T_readTitle_24 : decode cb_T_readTitle 24 = .ok (.invokestatic 108, 3) := by decide +kernel
theorem cd_T_readTitle_27 : decode cb_T_readTitle 27 = .ok (.ifCond .eq 32, 3) := by decide +kernel
theorem cd_T_readTitle_30 : decode cb_T_readTitle 30 = .ok (.aload_n 0, 1) := by decide +kernel
theorem cd_T_readTitle_31 : decode cb_T_readTitle 31 = .ok (.getfield 28, 3) := by decide +kernel
theorem cd_T_readTitle_34 : decode cb_T_readTitle 34 = .ok (.iload_n 1, 1) := by decide +kernel
theorem cd_T_readTitle_35 : decode cb_T_readTitle 35 = .ok (.aload_n 0, 1) := by decide +kernel
theorem cd_T_readTitle_36 : decode cb_T_readTitle 36 = .ok (.iconst 0, 1) := by decide +kernel
theorem cd_T_readTitle_37 : decode cb_T_readTitle 37 = .ok (.invokevirtual 76, 3) := by decide +kernel
theorem cd_T_readTitle_40 : decode cb_T_readTitle 40 = .ok (.invokevirtual 111, 3) := by decide +kernel
theorem cd_T_readTitle_43 : decode cb_T_readTitle 43 = .ok (.aload_n 0, 1) := by decide +kernel
theorem cd_T_readTitle_44 : decode cb_T_readTitle 44 = .ok (.dup, 1) := by decide +kernel
theorem cd_T_readTitle_45 : decode cb_T_readTitle 45 = .ok (.getfield 19, 3) := by decide +kernel
theorem cd_T_readTitle_48 : decode cb_T_readTitle 48 = .ok (.iconst 1, 1) := by decide +kernel
theorem cd_T_readTitle_49 : decode cb_T_readTitle 49 = .ok (.iadd, 1) := by decide +kernel
theorem cd_T_readTitle_50 : decode cb_T_readTitle 50 = .ok (.putfield 19, 3) := by decide +kernel
theorem cd_T_readTitle_53 : decode cb_T_readTitle 53 = .ok (.iinc 2 1, 3) := by decide +kernel
theorem cd_T_readTitle_56 : decode cb_T_readTitle 56 = .ok (.goto (-43), 3) := by decide +kernel
theorem cd_T_readTitle_59 : decode cb_T_readTitle 59 = .ok (.aload_n 0, 1) := by decide +kernel
theorem cd_T_readTitle_60 : decode cb_T_readTitle 60 = .ok (.getfield 28, 3) := by decide +kernel
theorem cd_T_readTitle_63 : decode cb_T_readTitle 63 = .ok (.getfield 115, 3) := by decide +kernel
theorem cd_T_readTitle_66 : decode cb_T_readTitle 66 = .ok (.iload_n 1, 1) := by decide +kernel
theorem cd_T_readTitle_67 : decode cb_T_readTitle 67 = .ok (.iaload, 1) := by decide +kernel
theorem cd_T_readTitle_68 : decode cb_T_readTitle 68 = .ok (.ifCond .gt 14, 3) := by decide +kernel
theorem cd_T_readTitle_71 : decode cb_T_readTitle 71 = .ok (.aload_n 0, 1) := by decide +kernel
theorem cd_T_readTitle_72 : decode cb_T_readTitle 72 = .ok (.aload_n 0, 1) := by decide +kernel
theorem cd_T_readTitle_73 : decode cb_T_readTitle 73 = .ok (.getfield 19, 3) := by decide +kernel
theorem cd_T_readTitle_76 : decode cb_T_readTitle 76 = .ok (.invokevirtual 43, 3) := by decide +kernel
theorem cd_T_readTitle_79 : decode cb_T_readTitle 79 = .ok (.ifCond .eq 7, 3) := by decide +kernel
theorem cd_T_readTitle_82 : decode cb_T_readTitle 82 = .ok (.iconst 1, 1) := by decide +kernel
theorem cd_T_readTitle_83 : decode cb_T_readTitle 83 = .ok (.goto 4, 3) := by decide +kernel
theorem cd_T_readTitle_86 : decode cb_T_readTitle 86 = .ok (.iconst 0, 1) := by decide +kernel
theorem cd_T_readTitle_87 : decode cb_T_readTitle 87 = .ok (.ireturn, 1) := by decide +kernel
theorem cd_T_readDate_0 : decode cb_T_readDate 0 = .ok (.aload_n 0, 1) := by decide +kernel
theorem cd_T_readDate_1 : decode cb_T_readDate 1 = .ok (.iconst 0, 1) := by decide +kernel
theorem cd_T_readDate_2 : decode cb_T_readDate 2 = .ok (.invokevirtual 76, 3) := by decide +kernel
theorem cd_T_readDate_5 : decode cb_T_readDate 5 = .ok (.bipush 32, 2) := by decide +kernel
theorem cd_T_readDate_7 : decode cb_T_readDate 7 = .ok (.if_icmp .ne 13, 3) := by decide +kernel
theorem cd_T_readDate_10 : decode cb_T_readDate 10 = .ok (.aload_n 0, 1) := by decide +kernel
theorem cd_T_readDate_11 : decode cb_T_readDate 11 = .ok (.iconst 1, 1) := by decide +kernel
theorem cd_T_readDate_12 : decode cb_T_readDate 12 = .ok (.invokevirtual 76, 3) := by decide +kernel
theorem cd_T_readDate_15 : decode cb_T_readDate 15 = .ok (.bipush 100, 2) := by decide +kernel
theorem cd_T_readDate_17 : decode cb_T_readDate 17 = .ok (.if_icmp .eq 5, 3) := by decide +kernel
theorem cd_T_readDate_20 : decode cb_T_readDate 20 = .ok (.iconst 1, 1) := by decide +kernel
theorem cd_T_readDate_21 : decode cb_T_readDate 21 = .ok (.ireturn, 1) := by decide +kernel
theorem cd_T_readDate_22 : decode cb_T_readDate 22 = .ok (.aload_n 0, 1) := by decide +kernel
theorem cd_T_readDate_23 : decode cb_T_readDate 23 = .ok (.dup, 1) := by decide +kernel
theorem cd_T_readDate_24 : decode cb_T_readDate 24 = .ok (.getfield 19, 3) := by decide +kernel
theorem cd_T_readDate_27 : decode cb_T_readDate 27 = .ok (.iconst 2, 1) := by decide +kernel
theorem cd_T_readDate_28 : decode cb_T_readDate 28 = .ok (.iadd, 1) := by decide +kernel
theorem cd_T_readDate_29 : decode cb_T_readDate 29 = .ok (.putfield 19, 3) := by decide +kernel
theorem cd_T_readDate_32 : decode cb_T_readDate 32 = .ok (.aload_n 0, 1) := by decide +kernel
theorem cd_T_readDate_33 : decode cb_T_readDate 33 = .ok (.sipush 1000, 3) := by decide +kernel
theorem cd_T_readDate_36 : decode cb_T_readDate 36 = .ok (.invokevirtual 118, 3) := by decide +kernel
theorem cd_T_readDate_39 : decode cb_T_readDate 39 = .ok (.istore_n 2, 1) := by decide +kernel
theorem cd_T_readDate_40 : decode cb_T_readDate 40 = .ok (.iload_n 2, 1) := by decide +kernel
theorem cd_T_readDate_41 : decode cb_T_readDate 41 = .ok (.istore_n 3, 1) := by decide +kernel
theorem cd_T_readDate_42 : decode cb_T_readDate 42 = .ok (.iload_n 2, 1) := by decide +kernel
theorem cd_T_readDate_43 : decode cb_T_readDate 43 = .ok (.iconst (-1), 1) := by decide +kernel
theorem cd_T_readDate_44 : decode cb_T_readDate 44 = .ok (.if_icmp .eq 29, 3) := by decide +kernel
theorem cd_T_readDate_47 : decode cb_T_readDate 47 = .ok (.aload_n 0, 1) := by decide +kernel
theorem cd_T_readDate_48 : decode cb_T_readDate 48 = .ok (.iconst 0, 1) := by decide +kernel
theorem cd_T_readDate_49 : decode cb_T_readDate 49 = .ok (.invokevirtual 76, 3) := by decide +kernel
theorem cd_T_readDate_52 : decode cb_T_readDate 52 = .ok (.bipush 45, 2) := by decide +kernel
theorem cd_T_readDate_54 : decode cb_T_readDate 54 = .ok (.if_icmp .ne 19, 3) := by decide +kernel
theorem cd_T_readDate_57 : decode cb_T_readDate 57 = .ok (.aload_n 0, 1) := by decide +kernel
theorem cd_T_readDate_58 : decode cb_T_readDate 58 = .ok (.dup, 1) := by decide +kernel
theorem cd_T_readDate_59 : decode cb_T_readDate 59 = .ok (.getfield 19, 3) := by decide +kernel
theorem cd_T_readDate_62 : decode cb_T_readDate 62 = .ok (.iconst 1, 1) := by decide +kernel
theorem cd_T_readDate_63 : decode cb_T_readDate 63 = .ok (.iadd, 1) := by decide +kernel
theorem cd_T_readDate_64 : decode cb_T_readDate 64 = .ok (.putfield 19, 3) := by decide +kernel
theorem cd_T_readDate_67 : decode cb_T_readDate 67 = .ok (.aload_n 0, 1) := by decide +kernel
theorem cd_T_readDate_68 : decode cb_T_readDate 68 = .ok (.iload_n 2, 1) := by decide +kernel
theorem cd_T_readDate_69 : decode cb_T_readDate 69 = .ok (.invokevirtual 118, 3) := by decide +kernel
theorem cd_T_readDate_72 : decode cb_T_readDate 72 = .ok (.istore_n 3, 1) := by decide +kernel
theorem cd_T_readDate_73 : decode cb_T_readDate 73 = .ok (.iload_n 3, 1) := by decide +kernel
theorem cd_T_readDate_74 : decode cb_T_readDate 74 = .ok (.iconst (-1), 1) := by decide +kernel
theorem cd_T_readDate_75 : decode cb_T_readDate 75 = .ok (.if_icmp .ne 5, 3) := by decide +kernel
theorem cd_T_readDate_78 : decode cb_T_readDate 78 = .ok (.iconst 0, 1) := by decide +kernel
theorem cd_T_readDate_79 : decode cb_T_readDate 79 = .ok (.ireturn, 1) := by decide +kernel
theorem cd_T_readDate_80 : decode cb_T_readDate 80 = .ok (.aload_n 0, 1) := by decide +kernel
theorem cd_T_readDate_81 : decode cb_T_readDate 81 = .ok (.getfield 28, 3) := by decide +kernel
theorem cd_T_readDate_84 : decode cb_T_readDate 84 = .ok (.getfield 121, 3) := by decide +kernel
theorem cd_T_readDate_87 : decode cb_T_readDate 87 = .ok (.iload_n 1, 1) := by decide +kernel
theorem cd_T_readDate_88 : decode cb_T_readDate 88 = .ok (.iload_n 2, 1) := by decide +kernel
theorem cd_T_readDate_89 : decode cb_T_readDate 89 = .ok (.iastore, 1) := by decide +kernel
theorem cd_T_readDate_90 : decode cb_T_readDate 90 = .ok (.aload_n 0, 1) := by decide +kernel
theorem cd_T_readDate_91 : decode cb_T_readDate 91 = .ok (.getfield 28, 3) := by decide +kernel
theorem cd_T_readDate_94 : decode cb_T_readDate 94 = .ok (.getfield 124, 3) := by decide +kernel
theorem cd_T_readDate_97 : decode cb_T_readDate 97 = .ok (.iload_n 1, 1) := by decide +kernel
theorem cd_T_readDate_98 : decode cb_T_readDate 98 = .ok (.iload_n 3, 1) := by decide +kernel
theorem cd_T_readDate_99 : decode cb_T_readDate 99 = .ok (.iastore, 1) := by decide +kernel
theorem cd_T_readDate_100 : decode cb_T_readDate 100 = .ok (.aload_n 0, 1) := by decide +kernel
theorem cd_T_readDate_101 : decode cb_T_readDate 101 = .ok (.iconst 0, 1) := by decide +kernel
theorem cd_T_readDate_102 : decode cb_T_readDate 102 = .ok (.invokevirtual 76, 3) := by decide +kernel
theorem cd_T_readDate_105 : decode cb_T_readDate 105 = .ok (.bipush 63, 2) := by decide +kernel
theorem cd_T_readDate_107 : decode cb_T_readDate 107 = .ok (.if_icmp .ne 23, 3) := by decide +kernel
theorem cd_T_readDate_110 : decode cb_T_readDate 110 = .ok (.aload_n 0, 1) := by decide +kernel
theorem cd_T_readDate_111 : decode cb_T_readDate 111 = .ok (.getfield 28, 3) := by decide +kernel
theorem cd_T_readDate_114 : decode cb_T_readDate 114 = .ok (.getfield 127, 3) := by decide +kernel
theorem cd_T_readDate_117 : decode cb_T_readDate 117 = .ok (.iload_n 1, 1) := by decide +kernel
theorem cd_T_readDate_118 : decode cb_T_readDate 118 = .ok (.iconst 1, 1) := by decide +kernel
theorem cd_T_readDate_119 : decode cb_T_readDate 119 = .ok (.iastore, 1) := by decide +kernel
theorem cd_T_readDate_120 : decode cb_T_readDate 120 = .ok (.aload_n 0, 1) := by decide +kernel
theorem cd_T_readDate_121 : decode cb_T_readDate 121 = .ok (.dup, 1) := by decide +kernel
theorem cd_T_readDate_122 : decode cb_T_readDate 122 = .ok (.getfield 19, 3) := by decide +kernel
theorem cd_T_readDate_125 : decode cb_T_readDate 125 = .ok (.iconst 1, 1) := by decide +kernel
theorem cd_T_readDate_126 : decode cb_T_readDate 126 = .ok (.iadd, 1) := by decide +kernel
theorem cd_T_readDate_127 : decode cb_T_readDate 127 = .ok (.putfield 19, 3) := by decide +kernel
theorem cd_T_readDate_130 : decode cb_T_readDate 130 = .ok (.iconst 1, 1) := by decide +kernel
theorem cd_T_readDate_131 : decode cb_T_readDate 131 = .ok (.ireturn, 1) := by decide +kernel
theorem cd_T_readExtent_0 : decode cb_T_readExtent 0 = .ok (.aload_n 0, 1) := by decide +kernel
theorem cd_T_readExtent_1 : decode cb_T_readExtent 1 = .ok (.iconst 0, 1) := by decide +kernel
theorem cd_T_readExtent_2 : decode cb_T_readExtent 2 = .ok (.invokevirtual 76, 3) := by decide +kernel
theorem cd_T_readExtent_5 : decode cb_T_readExtent 5 = .ok (.bipush 32, 2) := by decide +kernel
theorem cd_T_readExtent_7 : decode cb_T_readExtent 7 = .ok (.if_icmp .eq 5, 3) := by decide +kernel
theorem cd_T_readExtent_10 : decode cb_T_readExtent 10 = .ok (.iconst 1, 1) := by decide +kernel
theorem cd_T_readExtent_11 : decode cb_T_readExtent 11 = .ok (.ireturn, 1) := by decide +kernel
theorem cd_T_readExtent_12 : decode cb_T_readExtent 12 = .ok (.aload_n 0, 1) := by decide +kernel
theorem cd_T_readExtent_13 : decode cb_T_readExtent 13 = .ok (.dup, 1) := by decide +kernel
theorem cd_T_readExtent_14 : decode cb_T_readExtent 14 = .ok (.getfield 19, 3) := by decide +kernel
theorem cd_T_readExtent_17 : decode cb_T_readExtent 17 = .ok (.iconst 1, 1) := by decide +kernel
theorem cd_T_readExtent_18 : decode cb_T_readExtent 18 = .ok (.iadd, 1) := by decide +kernel
theorem cd_T_readExtent_19 : decode cb_T_readExtent 19 = .ok (.putfield 19, 3) := by decide +kernel
theorem cd_T_readExtent_22 : decode cb_T_readExtent 22 = .ok (.aload_n 0, 1) := by decide +kernel
theorem cd_T_readExtent_23 : decode cb_T_readExtent 23 = .ok (.bipush 101, 2) := by decide +kernel
theorem cd_T_readExtent_25 : decode cb_T_readExtent 25 = .ok (.invokevirtual 64, 3) := by decide +kernel
theorem cd_T_readExtent_28 : decode cb_T_readExtent 28 = .ok (.ifCond .ne 5, 3) := by decide +kernel
theorem cd_T_readExtent_31 : decode cb_T_readExtent 31 = .ok (.iconst 0, 1) := by decide +kernel
theorem cd_T_readExtent_32 : decode cb_T_readExtent 32 = .ok (.ireturn, 1) := by decide +kernel
theorem cd_T_readExtent_33 : decode cb_T_readExtent 33 = .ok (.aload_n 0, 1) := by decide +kernel
theorem cd_T_readExtent_34 : decode cb_T_readExtent 34 = .ok (.getfield 28, 3) := by decide +kernel
theorem cd_T_readExtent_37 : decode cb_T_readExtent 37 = .ok (.getfield 130, 3) := by decide +kernel
theorem cd_T_readExtent_40 : decode cb_T_readExtent 40 = .ok (.iload_n 1, 1) := by decide +kernel
theorem cd_T_readExtent_41 : decode cb_T_readExtent 41 = .ok (.aload_n 0, 1) := by decide +kernel
theorem cd_T_readExtent_42 : decode cb_T_readExtent 42 = .ok (.invokevirtual 104, 3) := by decide +kernel
theorem cd_T_readExtent_45 : decode cb_T_readExtent 45 = .ok (.iastore, 1) := by decide +kernel
theorem cd_T_readExtent_46 : decode cb_T_readExtent 46 = .ok (.aload_n 0, 1) := by decide +kernel
theorem cd_T_readExtent_47 : decode cb_T_readExtent 47 = .ok (.getfield 28, 3) := by decide +kernel
theorem cd_T_readExtent_50 : decode cb_T_readExtent 50 = .ok (.getfield 130, 3) := by decide +kernel
theorem cd_T_readExtent_53 : decode cb_T_readExtent 53 = .ok (.iload_n 1, 1) := by decide +kernel
theorem cd_T_readExtent_54 : decode cb_T_readExtent 54 = .ok (.iaload, 1) := by decide +kernel
theorem cd_T_readExtent_55 : decode cb_T_readExtent 55 = .ok (.iconst (-1), 1) := by decide +kernel
theorem cd_T_readExtent_56 : decode cb_T_readExtent 56 = .ok (.if_icmp .ne 5, 3) := by decide +kernel
theorem cd_T_readExtent_59 : decode cb_T_readExtent 59 = .ok (.iconst 0, 1) := by decide +kernel
theorem cd_T_readExtent_60 : decode cb_T_readExtent 60 = .ok (.ireturn, 1) := by decide +kernel
theorem cd_T_readExtent_61 : decode cb_T_readExtent 61 = .ok (.aload_n 0, 1) := by decide +kernel
theorem cd_T_readExtent_62 : decode cb_T_readExtent 62 = .ok (.getfield 28, 3) := by decide +kernel
theorem cd_T_readExtent_65 : decode cb_T_readExtent 65 = .ok (.getfield 133, 3) := by decide +kernel
theorem cd_T_readExtent_68 : decode cb_T_readExtent 68 = .ok (.iload_n 1, 1) := by decide +kernel
theorem cd_T_readExtent_69 : decode cb_T_readExtent 69 = .ok (.getstatic 136, 3) := by decide +kernel
theorem cd_T_readExtent_72 : decode cb_T_readExtent 72 = .ok (.aload_n 0, 1) := by decide +kernel
theorem cd_T_readExtent_73 : decode cb_T_readExtent 73 = .ok (.iconst 0, 1) := by decide +kernel
theorem cd_T_readExtent_74 : decode cb_T_readExtent 74 = .ok (.invokevirtual 76, 3) := by decide +kernel
theorem cd_T_readExtent_77 : decode cb_T_readExtent 77 = .ok (.invokestatic 88, 3) := by decide +kernel
theorem cd_T_readExtent_80 : decode cb_T_readExtent 80 = .ok (.iastore, 1) := by decide +kernel
theorem cd_T_readExtent_81 : decode cb_T_readExtent 81 = .ok (.aload_n 0, 1) := by decide +kernel
theorem cd_T_readExtent_82 : decode cb_T_readExtent 82 = .ok (.getfield 28, 3) := by decide +kernel
theorem cd_T_readExtent_85 : decode cb_T_readExtent 85 = .ok (.getfield 133, 3) := by decide +kernel
theorem cd_T_readExtent_88 : decode cb_T_readExtent 88 = .ok (.iload_n 1, 1) := by decide +kernel
theorem cd_T_readExtent_89 : decode cb_T_readExtent 89 = .ok (.iaload, 1) := by decide +kernel
theorem cd_T_readExtent_90 : decode cb_T_readExtent 90 = .ok (.iconst (-1), 1) := by decide +kernel
theorem cd_T_readExtent_91 : decode cb_T_readExtent 91 = .ok (.if_icmp .ne 12, 3) := by decide +kernel
theorem cd_T_readExtent_94 : decode cb_T_readExtent 94 = .ok (.aload_n 0, 1) := by decide +kernel
theorem cd_T_readExtent_95 : decode cb_T_readExtent 95 = .ok (.aload_n 0, 1) := by decide +kernel
theorem cd_T_readExtent_96 : decode cb_T_readExtent 96 = .ok (.getfield 19, 3) := by decide +kernel
theorem cd_T_readExtent_99 : decode cb_T_readExtent 99 = .ok (.invokevirtual 43, 3) := by decide +kernel
theorem cd_T_readExtent_102 : decode cb_T_readExtent 102 = .ok (.ireturn, 1) := by decide +kernel
theorem cd_T_readExtent_103 : decode cb_T_readExtent 103 = .ok (.aload_n 0, 1) := by decide +kernel
theorem cd_T_readExtent_104 : decode cb_T_readExtent 104 = .ok (.dup, 1) := by decide +kernel
theorem cd_T_readExtent_105 : decode cb_T_readExtent 105 = .ok (.getfield 19, 3) := by decide +kernel
theorem cd_T_readExtent_108 : decode cb_T_readExtent 108 = .ok (.iconst 1, 1) := by decide +kernel
theorem cd_T_readExtent_109 : decode cb_T_readExtent 109 = .ok (.iadd, 1) := by decide +kernel
theorem cd_T_readExtent_110 : decode cb_T_readExtent 110 = .ok (.putfield 19, 3) := by decide +kernel
theorem cd_T_readExtent_113 : decode cb_T_readExtent 113 = .ok (.iconst 1, 1) := by decide +kernel
theorem cd_T_readExtent_114 : decode cb_T_readExtent 114 = .ok (.ireturn, 1) := by decide +kernel
theorem cd_T_readDigits_0 : decode cb_T_readDigits 0 = .ok (.iconst 0, 1) := by decide +kernel
theorem cd_T_readDigits_1 : decode cb_T_readDigits 1 = .ok (.istore_n 1, 1) := by decide +kernel
theorem cd_T_readDigits_2 : decode cb_T_readDigits 2 = .ok (.iconst 0, 1) := by decide +kernel
theorem cd_T_readDigits_3 : decode cb_T_readDigits 3 = .ok (.istore_n 2, 1) := by decide +kernel
theorem cd_T_readDigits_4 : decode cb_T_readDigits 4 = .ok (.iload_n 2, 1) := by decide +kernel
theorem cd_T_readDigits_5 : decode cb_T_readDigits 5 = .ok (.iconst 4, 1) := by decide +kernel
theorem cd_T_readDigits_6 : decode cb_T_readDigits 6 = .ok (.if_icmp .ge 57, 3) := by decide +kernel
theorem cd_T_readDigits_9 : decode cb_T_readDigits 9 = .ok (.aload_n 0, 1) := by decide +kernel
theorem cd_T_readDigits_10 : decode cb_T_readDigits 10 = .ok (.iconst 0, 1) := by decide +kernel
theorem cd_T_readDigits_11 : decode cb_T_readDigits 11 = .ok (.invokevirtual 76, 3) := by decide +kernel
theorem cd_T_readDigits_14 : decode cb_T_readDigits 14 = .ok (.invokestatic 139, 3) := by decide +kernel
theorem cd_T_readDigits_17 : decode cb_T_readDigits 17 = .ok (.ifCond .eq 46, 3) := by decide +kernel
theorem cd_T_readDigits_20 : decode cb_T_readDigits 20 = .ok (.aload_n 0, 1) := by decide +kernel
theorem cd_T_readDigits_21 : decode cb_T_readDigits 21 = .ok (.iconst 0, 1) := by decide +kernel
theorem cd_T_readDigits_22 : decode cb_T_readDigits 22 = .ok (.invokevirtual 76, 3) := by decide +kernel
theorem cd_T_readDigits_25 : decode cb_T_readDigits 25 = .ok (.bipush 48, 2) := by decide +kernel
theorem cd_T_readDigits_27 : decode cb_T_readDigits 27 = .ok (.isub, 1) := by decide +kernel
theorem cd_T_readDigits_28 : decode cb_T_readDigits 28 = .ok (.istore_n 3, 1) := by decide +kernel
theorem cd_T_readDigits_29 : decode cb_T_readDigits 29 = .ok (.iload_n 2, 1) := by decide +kernel
theorem cd_T_readDigits_30 : decode cb_T_readDigits 30 = .ok (.ifCond .ne 10, 3) := by decide +kernel
theorem cd_T_readDigits_33 : decode cb_T_readDigits 33 = .ok (.iload_n 3, 1) := by decide +kernel
theorem cd_T_readDigits_34 : decode cb_T_readDigits 34 = .ok (.ifCond .ne 6, 3) := by decide +kernel
theorem cd_T_readDigits_37 : decode cb_T_readDigits 37 = .ok (.goto 26, 3) := by decide +kernel
theorem cd_T_readDigits_40 : decode cb_T_readDigits 40 = .ok (.iload_n 1, 1) := by decide +kernel
theorem cd_T_readDigits_41 : decode cb_T_readDigits 41 = .ok (.bipush 10, 2) := by decide +kernel
theorem cd_T_readDigits_43 : decode cb_T_readDigits 43 = .ok (.imul, 1) := by decide +kernel
theorem cd_T_readDigits_44 : decode cb_T_readDigits 44 = .ok (.iload_n 3, 1) := by decide +kernel
theorem cd_T_readDigits_45 : decode cb_T_readDigits 45 = .ok (.iadd, 1) := by decide +kernel
theorem cd_T_readDigits_46 : decode cb_T_readDigits 46 = .ok (.istore_n 1, 1) := by decide +kernel
theorem cd_T_readDigits_47 : decode cb_T_readDigits 47 = .ok (.aload_n 0, 1) := by decide +kernel
theorem cd_T_readDigits_48 : decode cb_T_readDigits 48 = .ok (.dup, 1) := by decide +kernel
theorem cd_T_readDigits_49 : decode cb_T_readDigits 49 = .ok (.getfield 19, 3) := by decide +kernel
theorem cd_T_readDigits_52 : decode cb_T_readDigits 52 = .ok (.iconst 1, 1) := by decide +kernel
theorem cd_T_readDigits_53 : decode cb_T_readDigits 53 = .ok (.iadd, 1) := by decide +kernel
theorem cd_T_readDigits_54 : decode cb_T_readDigits 54 = .ok (.putfield 19, 3) := by decide +kernel
theorem cd_T_readDigits_57 : decode cb_T_readDigits 57 = .ok (.iinc 2 1, 3) := by decide +kernel
theorem cd_T_readDigits_60 : decode cb_T_readDigits 60 = .ok (.goto (-56), 3) := by decide +kernel
theorem cd_T_readDigits_63 : decode cb_T_readDigits 63 = .ok (.iload_n 1, 1) := by decide +kernel
theorem cd_T_readDigits_64 : decode cb_T_readDigits 64 = .ok (.ifCond .ne 13, 3) := by decide +kernel
theorem cd_T_readDigits_67 : decode cb_T_readDigits 67 = .ok (.aload_n 0, 1) := by decide +kernel
theorem cd_T_readDigits_68 : decode cb_T_readDigits 68 = .ok (.aload_n 0, 1) := by decide +kernel
theorem cd_T_readDigits_69 : decode cb_T_readDigits 69 = .ok (.getfield 19, 3) := by decide +kernel
theorem cd_T_readDigits_72 : decode cb_T_readDigits 72 = .ok (.putfield 22, 3) := by decide +kernel
theorem cd_T_readDigits_75 : decode cb_T_readDigits 75 = .ok (.iconst (-1), 1) := by decide +kernel
theorem cd_T_readDigits_76 : decode cb_T_readDigits 76 = .ok (.ireturn, 1) := by decide +kernel
theorem cd_T_readDigits_77 : decode cb_T_readDigits 77 = .ok (.iload_n 1, 1) := by decide +kernel
theorem cd_T_readDigits_78 : decode cb_T_readDigits 78 = .ok (.ireturn, 1) := by decide +kernel
theorem cd_T_readYear_0 : decode cb_T_readYear 0 = .ok (.iconst 0, 1) := by decide +kernel
theorem cd_T_readYear_1 : decode cb_T_readYear 1 = .ok (.istore_n 2, 1) := by decide +kernel
theorem cd_T_readYear_2 : decode cb_T_readYear 2 = .ok (.iconst 0, 1) := by decide +kernel
theorem cd_T_readYear_3 : decode cb_T_readYear 3 = .ok (.istore_n 3, 1) := by decide +kernel
theorem cd_T_readYear_4 : decode cb_T_readYear 4 = .ok (.iload_n 3, 1) := by decide +kernel
theorem cd_T_readYear_5 : decode cb_T_readYear 5 = .ok (.iconst 4, 1) := by decide +kernel
theorem cd_T_readYear_6 : decode cb_T_readYear 6 = .ok (.if_icmp .ge 47, 3) := by decide +kernel
theorem cd_T_readYear_9 : decode cb_T_readYear 9 = .ok (.aload_n 0, 1) := by decide +kernel
theorem cd_T_readYear_10 : decode cb_T_readYear 10 = .ok (.iload_n 3, 1) := by decide +kernel
theorem cd_T_readYear_11 : decode cb_T_readYear 11 = .ok (.invokevirtual 76, 3) := by decide +kernel
theorem cd_T_readYear_14 : decode cb_T_readYear 14 = .ok (.istore 4, 2) := by decide +kernel
theorem cd_T_readYear_16 : decode cb_T_readYear 16 = .ok (.iload 4, 2) := by decide +kernel
theorem cd_T_readYear_18 : decode cb_T_readYear 18 = .ok (.invokestatic 139, 3) := by decide +kernel
theorem cd_T_readYear_21 : decode cb_T_readYear 21 = .ok (.ifCond .ne 15, 3) := by decide +kernel
theorem cd_T_readYear_24 : decode cb_T_readYear 24 = .ok (.aload_n 0, 1) := by decide +kernel
theorem cd_T_readYear_25 : decode cb_T_readYear 25 = .ok (.aload_n 0, 1) := by decide +kernel
theorem cd_T_readYear_26 : decode cb_T_readYear 26 = .ok (.getfield 19, 3) := by decide +kernel
theorem cd_T_readYear_29 : decode cb_T_readYear 29 = .ok (.iload_n 3, 1) := by decide +kernel
theorem cd_T_readYear_30 : decode cb_T_readYear 30 = .ok (.iadd, 1) := by decide +kernel
theorem cd_T_readYear_31 : decode cb_T_readYear 31 = .ok (.putfield 22, 3) := by decide +kernel
theorem cd_T_readYear_34 : decode cb_T_readYear 34 = .ok (.iconst (-1), 1) := by decide +kernel
theorem cd_T_readYear_35 : decode cb_T_readYear 35 = .ok (.ireturn, 1) := by decide +kernel
theorem cd_T_readYear_36 : decode cb_T_readYear 36 = .ok (.iload_n 2, 1) := by decide +kernel
theorem cd_T_readYear_37 : decode cb_T_readYear 37 = .ok (.bipush 10, 2) := by decide +kernel
theorem cd_T_readYear_39 : decode cb_T_readYear 39 = .ok (.imul, 1) := by decide +kernel
theorem cd_T_readYear_40 : decode cb_T_readYear 40 = .ok (.iload 4, 2) := by decide +kernel
theorem cd_T_readYear_42 : decode cb_T_readYear 42 = .ok (.bipush 48, 2) := by decide +kernel
theorem cd_T_readYear_44 : decode cb_T_readYear 44 = .ok (.isub, 1) := by decide +kernel
theorem cd_T_readYear_45 : decode cb_T_readYear 45 = .ok (.iadd, 1) := by decide +kernel
theorem cd_T_readYear_46 : decode cb_T_readYear 46 = .ok (.istore_n 2, 1) := by decide +kernel
theorem cd_T_readYear_47 : decode cb_T_readYear 47 = .ok (.iinc 3 1, 3) := by decide +kernel
theorem cd_T_readYear_50 : decode cb_T_readYear 50 = .ok (.goto (-46), 3) := by decide +kernel
theorem cd_T_readYear_53 : decode cb_T_readYear 53 = .ok (.iload_n 2, 1) := by decide +kernel
theorem cd_T_readYear_54 : decode cb_T_readYear 54 = .ok (.iload_n 1, 1) := by decide +kernel
theorem cd_T_readYear_55 : decode cb_T_readYear 55 = .ok (.if_icmp .lt 10, 3) := by decide +kernel
theorem cd_T_readYear_58 : decode cb_T_readYear 58 = .ok (.iload_n 2, 1) := by decide +kernel
theorem cd_T_readYear_59 : decode cb_T_readYear 59 = .ok (.sipush 2999, 3) := by decide +kernel
theorem cd_T_readYear_62 : decode cb_T_readYear 62 = .ok (.if_icmp .le 13, 3) := by decide +kernel
theorem cd_T_readYear_65 : decode cb_T_readYear 65 = .ok (.aload_n 0, 1) := by decide +kernel
theorem cd_T_readYear_66 : decode cb_T_readYear 66 = .ok (.aload_n 0, 1) := by decide +kernel
theorem cd_T_readYear_67 : decode cb_T_readYear 67 = .ok (.getfield 19, 3) := by decide +kernel
theorem cd_T_readYear_70 : decode cb_T_readYear 70 = .ok (.putfield 22, 3) := by decide +kernel
theorem cd_T_readYear_73 : decode cb_T_readYear 73 = .ok (.iconst (-1), 1) := by decide +kernel
theorem cd_T_readYear_74 : decode cb_T_readYear 74 = .ok (.ireturn, 1) := by decide +kernel
theorem cd_T_readYear_75 : decode cb_T_readYear 75 = .ok (.aload_n 0, 1) := by decide +kernel
theorem cd_T_readYear_76 : decode cb_T_readYear 76 = .ok (.dup, 1) := by decide +kernel
theorem cd_T_readYear_77 : decode cb_T_readYear 77 = .ok (.getfield 19, 3) := by decide +kernel
theorem cd_T_readYear_80 : decode cb_T_readYear 80 = .ok (.iconst 4, 1) := by decide +kernel
theorem cd_T_readYear_81 : decode cb_T_readYear 81 = .ok (.iadd, 1) := by decide +kernel
theorem cd_T_readYear_82 : decode cb_T_readYear 82 = .ok (.putfield 19, 3) := by decide +kernel
theorem cd_T_readYear_85 : decode cb_T_readYear 85 = .ok (.iload_n 2, 1) := by decide +kernel
theorem cd_T_readYear_86 : decode cb_T_readYear 86 = .ok (.ireturn, 1) := by decide +kernel
theorem cd_T_expect_0 : decode cb_T_expect 0 = .ok (.aload_n 0, 1) := by decide +kernel
theorem cd_T_expect_1 : decode cb_T_expect 1 = .ok (.iconst 0, 1) := by decide +kernel
theorem cd_T_expect_2 : decode cb_T_expect 2 = .ok (.invokevirtual 76, 3) := by decide +kernel
theorem cd_T_expect_5 : decode cb_T_expect 5 = .ok (.iload_n 1, 1) := by decide +kernel
theorem cd_T_expect_6 : decode cb_T_expect 6 = .ok (.if_icmp .eq 12, 3) := by decide +kernel
theorem cd_T_expect_9 : decode cb_T_expect 9 = .ok (.aload_n 0, 1) := by decide +kernel
theorem cd_T_expect_10 : decode cb_T_expect 10 = .ok (.aload_n 0, 1) := by decide +kernel
theorem cd_T_expect_11 : decode cb_T_expect 11 = .ok (.getfield 19, 3) := by decide +kernel
theorem cd_T_expect_14 : decode cb_T_expect 14 = .ok (.invokevirtual 43, 3) := by decide +kernel
theorem cd_T_expect_17 : decode cb_T_expect 17 = .ok (.ireturn, 1) := by decide +kernel
theorem cd_T_expect_18 : decode cb_T_expect 18 = .ok (.aload_n 0, 1) := by decide +kernel
theorem cd_T_expect_19 : decode cb_T_expect 19 = .ok (.dup, 1) := by decide +kernel
theorem cd_T_expect_20 : decode cb_T_expect 20 = .ok (.getfield 19, 3) := by decide +kernel
theorem cd_T_expect_23 : decode cb_T_expect 23 = .ok (.iconst 1, 1) := by decide +kernel
theorem cd_T_expect_24 : decode cb_T_expect 24 = .ok (.iadd, 1) := by decide +kernel
theorem cd_T_expect_25 : decode cb_T_expect 25 = .ok (.putfield 19, 3) := by decide +kernel
theorem cd_T_expect_28 : decode cb_T_expect 28 = .ok (.iconst 1, 1) := by decide +kernel
theorem cd_T_expect_29 : decode cb_T_expect 29 = .ok (.ireturn, 1) := by decide +kernel
theorem cd_T_wrongAt_0 : decode cb_T_wrongAt 0 = .ok (.aload_n 0, 1) := by decide +kernel
theorem cd_T_wrongAt_1 : decode cb_T_wrongAt 1 = .ok (.iload_n 1, 1) := by decide +kernel
theorem cd_T_wrongAt_2 : decode cb_T_wrongAt 2 = .ok (.putfield 22, 3) := by decide +kernel
theorem cd_T_wrongAt_5 : decode cb_T_wrongAt 5 = .ok (.iconst 0, 1) := by decide +kernel
theorem cd_T_wrongAt_6 : decode cb_T_wrongAt 6 = .ok (.ireturn, 1) := by decide +kernel
theorem cd_T_ahead_0 : decode cb_T_ahead 0 = .ok (.aload_n 0, 1) := by decide +kernel
theorem cd_T_ahead_1 : decode cb_T_ahead 1 = .ok (.getfield 19, 3) := by decide +kernel
theorem cd_T_ahead_4 : decode cb_T_ahead 4 = .ok (.iload_n 1, 1) := by decide +kernel
theorem cd_T_ahead_5 : decode cb_T_ahead 5 = .ok (.iadd, 1) := by decide +kernel
theorem cd_T_ahead_6 : decode cb_T_ahead 6 = .ok (.istore_n 2, 1) := by decide +kernel
theorem cd_T_ahead_7 : decode cb_T_ahead 7 = .ok (.iload_n 2, 1) := by decide +kernel
theorem cd_T_ahead_8 : decode cb_T_ahead 8 = .ok (.ifCond .lt 11, 3) := by decide +kernel
theorem cd_T_ahead_11 : decode cb_T_ahead 11 = .ok (.iload_n 2, 1) := by decide +kernel
theorem cd_T_ahead_12 : decode cb_T_ahead 12 = .ok (.aload_n 0, 1) := by decide +kernel
theorem cd_T_ahead_13 : decode cb_T_ahead 13 = .ok (.getfield 15, 3) := by decide +kernel
theorem cd_T_ahead_16 : decode cb_T_ahead 16 = .ok (.if_icmp .lt 5, 3) := by decide +kernel
theorem cd_T_ahead_19 : decode cb_T_ahead 19 = .ok (.iconst (-1), 1) := by decide +kernel
theorem cd_T_ahead_20 : decode cb_T_ahead 20 = .ok (.ireturn, 1) := by decide +kernel
theorem cd_T_ahead_21 : decode cb_T_ahead 21 = .ok (.aload_n 0, 1) := by decide +kernel
theorem cd_T_ahead_22 : decode cb_T_ahead 22 = .ok (.getfield 9, 3) := by decide +kernel
theorem cd_T_ahead_25 : decode cb_T_ahead 25 = .ok (.iload_n 2, 1) := by decide +kernel
theorem cd_T_ahead_26 : decode cb_T_ahead 26 = .ok (.iaload, 1) := by decide +kernel
theorem cd_T_ahead_27 : decode cb_T_ahead 27 = .ok (.ireturn, 1) := by decide +kernel
theorem cd_T_isDigit_0 : decode cb_T_isDigit 0 = .ok (.iload_n 0, 1) := by decide +kernel
theorem cd_T_isDigit_1 : decode cb_T_isDigit 1 = .ok (.bipush 48, 2) := by decide +kernel
theorem cd_T_isDigit_3 : decode cb_T_isDigit 3 = .ok (.if_icmp .lt 13, 3) := by decide +kernel
theorem cd_T_isDigit_6 : decode cb_T_isDigit 6 = .ok (.iload_n 0, 1) := by decide +kernel
theorem cd_T_isDigit_7 : decode cb_T_isDigit 7 = .ok (.bipush 57, 2) := by decide +kernel
theorem cd_T_isDigit_9 : decode cb_T_isDigit 9 = .ok (.if_icmp .gt 7, 3) := by decide +kernel
theorem cd_T_isDigit_12 : decode cb_T_isDigit 12 = .ok (.iconst 1, 1) := by decide +kernel
theorem cd_T_isDigit_13 : decode cb_T_isDigit 13 = .ok (.goto 4, 3) := by decide +kernel
theorem cd_T_isDigit_16 : decode cb_T_isDigit 16 = .ok (.iconst 0, 1) := by decide +kernel
theorem cd_T_isDigit_17 : decode cb_T_isDigit 17 = .ok (.ireturn, 1) := by decide +kernel
theorem cd_T_isLetter_0 : decode cb_T_isLetter 0 = .ok (.iload_n 0, 1) := by decide +kernel
theorem cd_T_isLetter_1 : decode cb_T_isLetter 1 = .ok (.bipush 97, 2) := by decide +kernel
theorem cd_T_isLetter_3 : decode cb_T_isLetter 3 = .ok (.if_icmp .lt 13, 3) := by decide +kernel
theorem cd_T_isLetter_6 : decode cb_T_isLetter 6 = .ok (.iload_n 0, 1) := by decide +kernel
theorem cd_T_isLetter_7 : decode cb_T_isLetter 7 = .ok (.bipush 122, 2) := by decide +kernel
theorem cd_T_isLetter_9 : decode cb_T_isLetter 9 = .ok (.if_icmp .gt 7, 3) := by decide +kernel
theorem cd_T_isLetter_12 : decode cb_T_isLetter 12 = .ok (.iconst 1, 1) := by decide +kernel
theorem cd_T_isLetter_13 : decode cb_T_isLetter 13 = .ok (.goto 4, 3) := by decide +kernel
theorem cd_T_isLetter_16 : decode cb_T_isLetter 16 = .ok (.iconst 0, 1) := by decide +kernel
theorem cd_T_isLetter_17 : decode cb_T_isLetter 17 = .ok (.ireturn, 1) := by decide +kernel
end
section
theorem cd_M_init_0 : decode cb_M_init 0 = .ok (.aload_n 0, 1) := by decide +kernel
theorem cd_M_init_1 : decode cb_M_init 1 = .ok (.invokespecial 1, 3) := by decide +kernel
theorem cd_M_init_4 : decode cb_M_init 4 = .ok (.aload_n 0, 1) := by decide +kernel
theorem cd_M_init_5 : decode cb_M_init 5 = .ok (.sipush 3000, 3) := by decide +kernel
theorem cd_M_init_8 : decode cb_M_init 8 = .ok (.newarray .byte, 2) := by decide +kernel
theorem cd_M_init_10 : decode cb_M_init 10 = .ok (.putfield 7, 3) := by decide +kernel
theorem cd_M_init_13 : decode cb_M_init 13 = .ok (.aload_n 0, 1) := by decide +kernel
theorem cd_M_init_14 : decode cb_M_init 14 = .ok (.iconst (-1), 1) := by decide +kernel
theorem cd_M_init_15 : decode cb_M_init 15 = .ok (.putfield 13, 3) := by decide +kernel
theorem cd_M_init_18 : decode cb_M_init 18 = .ok (.aload_n 0, 1) := by decide +kernel
theorem cd_M_init_19 : decode cb_M_init 19 = .ok (.sipush 300, 3) := by decide +kernel
theorem cd_M_init_22 : decode cb_M_init 22 = .ok (.newarray .int, 2) := by decide +kernel
theorem cd_M_init_24 : decode cb_M_init 24 = .ok (.putfield 17, 3) := by decide +kernel
theorem cd_M_init_27 : decode cb_M_init 27 = .ok (.aload_n 0, 1) := by decide +kernel
theorem cd_M_init_28 : decode cb_M_init 28 = .ok (.sipush 300, 3) := by decide +kernel
theorem cd_M_init_31 : decode cb_M_init 31 = .ok (.newarray .int, 2) := by decide +kernel
theorem cd_M_init_33 : decode cb_M_init 33 = .ok (.putfield 21, 3) := by decide +kernel
theorem cd_M_init_36 : decode cb_M_init 36 = .ok (.aload_n 0, 1) := by decide +kernel
theorem cd_M_init_37 : decode cb_M_init 37 = .ok (.sipush 300, 3) := by decide +kernel
theorem cd_M_init_40 : decode cb_M_init 40 = .ok (.newarray .int, 2) := by decide +kernel
theorem cd_M_init_42 : decode cb_M_init 42 = .ok (.putfield 24, 3) := by decide +kernel
theorem cd_M_init_45 : decode cb_M_init 45 = .ok (.aload_n 0, 1) := by decide +kernel
theorem cd_M_init_46 : decode cb_M_init 46 = .ok (.sipush 300, 3) := by decide +kernel
theorem cd_M_init_49 : decode cb_M_init 49 = .ok (.newarray .int, 2) := by decide +kernel
theorem cd_M_init_51 : decode cb_M_init 51 = .ok (.putfield 27, 3) := by decide +kernel
theorem cd_M_init_54 : decode cb_M_init 54 = .ok (.aload_n 0, 1) := by decide +kernel
theorem cd_M_init_55 : decode cb_M_init 55 = .ok (.sipush 300, 3) := by decide +kernel
theorem cd_M_init_58 : decode cb_M_init 58 = .ok (.newarray .int, 2) := by decide +kernel
theorem cd_M_init_60 : decode cb_M_init 60 = .ok (.putfield 30, 3) := by decide +kernel
theorem cd_M_init_63 : decode cb_M_init 63 = .ok (.aload_n 0, 1) := by decide +kernel
theorem cd_M_init_64 : decode cb_M_init 64 = .ok (.sipush 300, 3) := by decide +kernel
theorem cd_M_init_67 : decode cb_M_init 67 = .ok (.newarray .int, 2) := by decide +kernel
theorem cd_M_init_69 : decode cb_M_init 69 = .ok (.putfield 33, 3) := by decide +kernel
theorem cd_M_init_72 : decode cb_M_init 72 = .ok (.aload_n 0, 1) := by decide +kernel
theorem cd_M_init_73 : decode cb_M_init 73 = .ok (.sipush 300, 3) := by decide +kernel
theorem cd_M_init_76 : decode cb_M_init 76 = .ok (.newarray .int, 2) := by decide +kernel
theorem cd_M_init_78 : decode cb_M_init 78 = .ok (.putfield 36, 3) := by decide +kernel
theorem cd_M_init_81 : decode cb_M_init 81 = .ok (.aload_n 0, 1) := by decide +kernel
theorem cd_M_init_82 : decode cb_M_init 82 = .ok (.sipush 300, 3) := by decide +kernel
theorem cd_M_init_85 : decode cb_M_init 85 = .ok (.newarray .int, 2) := by decide +kernel
theorem cd_M_init_87 : decode cb_M_init 87 = .ok (.putfield 39, 3) := by decide +kernel
theorem cd_M_init_90 : decode cb_M_init 90 = .ok (.aload_n 0, 1) := by decide +kernel
theorem cd_M_init_91 : decode cb_M_init 91 = .ok (.sipush 300, 3) := by decide +kernel
theorem cd_M_init_94 : decode cb_M_init 94 = .ok (.newarray .int, 2) := by decide +kernel
theorem cd_M_init_96 : decode cb_M_init 96 = .ok (.putfield 42, 3) := by decide +kernel
theorem cd_M_init_99 : decode cb_M_init 99 = .ok (.aload_n 0, 1) := by decide +kernel
theorem cd_M_init_100 : decode cb_M_init 100 = .ok (.sipush 4800, 3) := by decide +kernel
theorem cd_M_init_103 : decode cb_M_init 103 = .ok (.newarray .byte, 2) := by decide +kernel
theorem cd_M_init_105 : decode cb_M_init 105 = .ok (.putfield 45, 3) := by decide +kernel
theorem cd_M_init_108 : decode cb_M_init 108 = .ok (.aload_n 0, 1) := by decide +kernel
theorem cd_M_init_109 : decode cb_M_init 109 = .ok (.sipush 400, 3) := by decide +kernel
theorem cd_M_init_112 : decode cb_M_init 112 = .ok (.newarray .int, 2) := by decide +kernel
theorem cd_M_init_114 : decode cb_M_init 114 = .ok (.putfield 48, 3) := by decide +kernel
theorem cd_M_init_117 : decode cb_M_init 117 = .ok (.aload_n 0, 1) := by decide +kernel
theorem cd_M_init_118 : decode cb_M_init 118 = .ok (.sipush 400, 3) := by decide +kernel
theorem cd_M_init_121 : decode cb_M_init 121 = .ok (.newarray .int, 2) := by decide +kernel
theorem cd_M_init_123 : decode cb_M_init 123 = .ok (.putfield 51, 3) := by decide +kernel
theorem cd_M_init_126 : decode cb_M_init 126 = .ok (.aload_n 0, 1) := by decide +kernel
theorem cd_M_init_127 : decode cb_M_init 127 = .ok (.bipush 100, 2) := by decide +kernel
theorem cd_M_init_129 : decode cb_M_init 129 = .ok (.newarray .int, 2) := by decide +kernel
theorem cd_M_init_131 : decode cb_M_init 131 = .ok (.putfield 54, 3) := by decide +kernel
theorem cd_M_init_134 : decode cb_M_init 134 = .ok (.aload_n 0, 1) := by decide +kernel
theorem cd_M_init_135 : decode cb_M_init 135 = .ok (.sipush 500, 3) := by decide +kernel
theorem cd_M_init_138 : decode cb_M_init 138 = .ok (.newarray .int, 2) := by decide +kernel
theorem cd_M_init_140 : decode cb_M_init 140 = .ok (.putfield 57, 3) := by decide +kernel
theorem cd_M_init_143 : decode cb_M_init 143 = .ok (.aload_n 0, 1) := by decide +kernel
theorem cd_M_init_144 : decode cb_M_init 144 = .ok (.bipush 100, 2) := by decide +kernel
theorem cd_M_init_146 : decode cb_M_init 146 = .ok (.newarray .int, 2) := by decide +kernel
theorem cd_M_init_148 : decode cb_M_init 148 = .ok (.putfield 60, 3) := by decide +kernel
theorem cd_M_init_151 : decode cb_M_init 151 = .ok (.aload_n 0, 1) := by decide +kernel
theorem cd_M_init_152 : decode cb_M_init 152 = .ok (.bipush 100, 2) := by decide +kernel
theorem cd_M_init_154 : decode cb_M_init 154 = .ok (.newarray .boolean, 2) := by decide +kernel
theorem cd_M_init_156 : decode cb_M_init 156 = .ok (.putfield 63, 3) := by decide +kernel
theorem cd_M_init_159 : decode cb_M_init 159 = .ok (.aload_n 0, 1) := by decide +kernel
theorem cd_M_init_160 : decode cb_M_init 160 = .ok (.bipush 100, 2) := by decide +kernel
theorem cd_M_init_162 : decode cb_M_init 162 = .ok (.newarray .int, 2) := by decide +kernel
theorem cd_M_init_164 : decode cb_M_init 164 = .ok (.putfield 67, 3) := by decide +kernel
theorem cd_M_init_167 : decode cb_M_init 167 = .ok (.aload_n 0, 1) := by decide +kernel
theorem cd_M_init_168 : decode cb_M_init 168 = .ok (.bipush 100, 2) := by decide +kernel
theorem cd_M_init_170 : decode cb_M_init 170 = .ok (.newarray .int, 2) := by decide +kernel
theorem cd_M_init_172 : decode cb_M_init 172 = .ok (.putfield 70, 3) := by decide +kernel
theorem cd_M_init_175 : decode cb_M_init 175 = .ok (.aload_n 0, 1) := by decide +kernel
theorem cd_M_init_176 : decode cb_M_init 176 = .ok (.bipush 100, 2) := by decide +kernel
theorem cd_M_init_178 : decode cb_M_init 178 = .ok (.newarray .boolean, 2) := by decide +kernel
theorem cd_M_init_180 : decode cb_M_init 180 = .ok (.putfield 73, 3) := by decide +kernel
theorem cd_M_init_183 : decode cb_M_init 183 = .ok (.aload_n 0, 1) := by decide +kernel
theorem cd_M_init_184 : decode cb_M_init 184 = .ok (.sipush 6000, 3) := by decide +kernel
theorem cd_M_init_187 : decode cb_M_init 187 = .ok (.newarray .byte, 2) := by decide +kernel
theorem cd_M_init_189 : decode cb_M_init 189 = .ok (.putfield 76, 3) := by decide +kernel
theorem cd_M_init_192 : decode cb_M_init 192 = .ok (.return_, 1) := by decide +kernel
theorem cd_M_thrown_0 : decode cb_M_thrown 0 = .ok (.aload_n 0, 1) := by decide +kernel
theorem cd_M_thrown_1 : decode cb_M_thrown 1 = .ok (.getfield 79, 3) := by decide +kernel
theorem cd_M_thrown_4 : decode cb_M_thrown 4 = .ok (.ireturn, 1) := by decide +kernel
theorem cd_M_in_0 : decode cb_M_in 0 = .ok (.iload_n 0, 1) := by decide +kernel
theorem cd_M_in_1 : decode cb_M_in 1 = .ok (.iload_n 1, 1) := by decide +kernel
theorem cd_M_in_2 : decode cb_M_in 2 = .ok (.if_icmp .lt 12, 3) := by decide +kernel
theorem cd_M_in_5 : decode cb_M_in 5 = .ok (.iload_n 0, 1) := by decide +kernel
theorem cd_M_in_6 : decode cb_M_in 6 = .ok (.iload_n 2, 1) := by decide +kernel
theorem cd_M_in_7 : decode cb_M_in 7 = .ok (.if_icmp .gt 7, 3) := by decide +kernel
theorem cd_M_in_10 : decode cb_M_in 10 = .ok (.iconst 1, 1) := by decide +kernel
theorem cd_M_in_11 : decode cb_M_in 11 = .ok (.goto 4, 3) := by decide +kernel
theorem cd_M_in_14 : decode cb_M_in 14 = .ok (.iconst 0, 1) := by decide +kernel
theorem cd_M_in_15 : decode cb_M_in 15 = .ok (.ireturn, 1) := by decide +kernel
theorem cd_M_isLevel_0 : decode cb_M_isLevel 0 = .ok (.iload_n 1, 1) := by decide +kernel
theorem cd_M_isLevel_1 : decode cb_M_isLevel 1 = .ok (.iconst 0, 1) := by decide +kernel
theorem cd_M_isLevel_2 : decode cb_M_isLevel 2 = .ok (.aload_n 0, 1) := by decide +kernel
theorem cd_M_isLevel_3 : decode cb_M_isLevel 3 = .ok (.getfield 82, 3) := by decide +kernel
theorem cd_M_isLevel_6 : decode cb_M_isLevel 6 = .ok (.iconst 1, 1) := by decide +kernel
theorem cd_M_isLevel_7 : decode cb_M_isLevel 7 = .ok (.isub, 1) := by decide +kernel
theorem cd_M_isLevel_8 : decode cb_M_isLevel 8 = .ok (.invokestatic 85, 3) := by decide +kernel
theorem cd_M_isLevel_11 : decode cb_M_isLevel 11 = .ok (.ireturn, 1) := by decide +kernel
theorem cd_M_sign_0 : decode cb_M_sign 0 = .ok (.aload_n 0, 1) := by decide +kernel
theorem cd_M_sign_1 : decode cb_M_sign 1 = .ok (.iconst 0, 1) := by decide +kernel
theorem cd_M_sign_2 : decode cb_M_sign 2 = .ok (.putfield 79, 3) := by decide +kernel
theorem cd_M_sign_5 : decode cb_M_sign 5 = .ok (.aload_n 0, 1) := by decide +kernel
theorem cd_M_sign_6 : decode cb_M_sign 6 = .ok (.getfield 89, 3) := by decide +kernel
theorem cd_M_sign_9 : decode cb_M_sign 9 = .ok (.sipush 3000, 3) := by decide +kernel
theorem cd_M_sign_12 : decode cb_M_sign 12 = .ok (.if_icmp .ne 4, 3) := by decide +kernel
theorem cd_M_sign_15 : decode cb_M_sign 15 = .ok (.return_, 1) := by decide +kernel
theorem cd_M_sign_16 : decode cb_M_sign 16 = .ok (.aload_n 0, 1) := by decide +kernel
theorem cd_M_sign_17 : decode cb_M_sign 17 = .ok (.getfield 7, 3) := by decide +kernel
theorem cd_M_sign_20 : decode cb_M_sign 20 = .ok (.aload_n 0, 1) := by decide +kernel
theorem cd_M_sign_21 : decode cb_M_sign 21 = .ok (.getfield 89, 3) := by decide +kernel
theorem cd_M_sign_24 : decode cb_M_sign 24 = .ok (.iload_n 1, 1) := by decide +kernel
theorem cd_M_sign_25 : decode cb_M_sign 25 = .ok (.i2b, 1) := by decide +kernel
theorem cd_M_sign_26 : decode cb_M_sign 26 = .ok (.bastore, 1) := by decide +kernel
theorem cd_M_sign_27 : decode cb_M_sign 27 = .ok (.aload_n 0, 1) := by decide +kernel
theorem cd_M_sign_28 : decode cb_M_sign 28 = .ok (.dup, 1) := by decide +kernel
theorem cd_M_sign_29 : decode cb_M_sign 29 = .ok (.getfield 89, 3) := by decide +kernel
theorem cd_M_sign_32 : decode cb_M_sign 32 = .ok (.iconst 1, 1) := by decide +kernel
theorem cd_M_sign_33 : decode cb_M_sign 33 = .ok (.iadd, 1) := by decide +kernel
theorem cd_M_sign_34 : decode cb_M_sign 34 = .ok (.putfield 89, 3) := by decide +kernel
theorem cd_M_sign_37 : decode cb_M_sign 37 = .ok (.return_, 1) := by decide +kernel
theorem cd_M_look_0 : decode cb_M_look 0 = .ok (.aload_n 0, 1) := by decide +kernel
theorem cd_M_look_1 : decode cb_M_look 1 = .ok (.getfield 92, 3) := by decide +kernel
theorem cd_M_look_4 : decode cb_M_look 4 = .ok (.aload_n 0, 1) := by decide +kernel
theorem cd_M_look_5 : decode cb_M_look 5 = .ok (.getfield 89, 3) := by decide +kernel
theorem cd_M_look_8 : decode cb_M_look 8 = .ok (.if_icmp .ge 19, 3) := by decide +kernel
theorem cd_M_look_11 : decode cb_M_look 11 = .ok (.aload_n 0, 1) := by decide +kernel
theorem cd_M_look_12 : decode cb_M_look 12 = .ok (.getfield 7, 3) := by decide +kernel
theorem cd_M_look_15 : decode cb_M_look 15 = .ok (.aload_n 0, 1) := by decide +kernel
theorem cd_M_look_16 : decode cb_M_look 16 = .ok (.getfield 92, 3) := by decide +kernel
theorem cd_M_look_19 : decode cb_M_look 19 = .ok (.baload, 1) := by decide +kernel
theorem cd_M_look_20 : decode cb_M_look 20 = .ok (.sipush 255, 3) := by decide +kernel
theorem cd_M_look_23 : decode cb_M_look 23 = .ok (.iand, 1) := by decide +kernel
theorem cd_M_look_24 : decode cb_M_look 24 = .ok (.goto 4, 3) := by decide +kernel
theorem cd_M_look_27 : decode cb_M_look 27 = .ok (.iconst (-1), 1) := by decide +kernel
theorem cd_M_look_28 : decode cb_M_look 28 = .ok (.ireturn, 1) := by decide +kernel
theorem cd_M_isDigit_0 : decode cb_M_isDigit 0 = .ok (.aload_n 0, 1) := by decide +kernel
theorem cd_M_isDigit_1 : decode cb_M_isDigit 1 = .ok (.invokevirtual 95, 3) := by decide +kernel
theorem cd_M_isDigit_4 : decode cb_M_isDigit 4 = .ok (.bipush 48, 2) := by decide +kernel
theorem cd_M_isDigit_6 : decode cb_M_isDigit 6 = .ok (.bipush 57, 2) := by decide +kernel
theorem cd_M_isDigit_8 : decode cb_M_isDigit 8 = .ok (.invokestatic 85, 3) := by decide +kernel
theorem cd_M_isDigit_11 : decode cb_M_isDigit 11 = .ok (.ireturn, 1) := by decide +kernel
theorem cd_M_eat_0 : decode cb_M_eat 0 = .ok (.aload_n 0, 1) := by decide +kernel
theorem cd_M_eat_1 : decode cb_M_eat 1 = .ok (.invokevirtual 95, 3) := by decide +kernel
theorem cd_M_eat_4 : decode cb_M_eat 4 = .ok (.iload_n 1, 1) := by decide +kernel
theorem cd_M_eat_5 : decode cb_M_eat 5 = .ok (.if_icmp .eq 5, 3) := by decide +kernel
theorem cd_M_eat_8 : decode cb_M_eat 8 = .ok (.iconst 0, 1) := by decide +kernel
theorem cd_M_eat_9 : decode cb_M_eat 9 = .ok (.ireturn, 1) := by decide +kernel
theorem cd_M_eat_10 : decode cb_M_eat 10 = .ok (.aload_n 0, 1) := by decide +kernel
theorem cd_M_eat_11 : decode cb_M_eat 11 = .ok (.dup, 1) := by decide +kernel
theorem cd_M_eat_12 : decode cb_M_eat 12 = .ok (.getfield 92, 3) := by decide +kernel
theorem cd_M_eat_15 : decode cb_M_eat 15 = .ok (.iconst 1, 1) := by decide +kernel
theorem cd_M_eat_16 : decode cb_M_eat 16 = .ok (.iadd, 1) := by decide +kernel
theorem cd_M_eat_17 : decode cb_M_eat 17 = .ok (.putfield 92, 3) := by decide +kernel
theorem cd_M_eat_20 : decode cb_M_eat 20 = .ok (.iconst 1, 1) := by decide +kernel
theorem cd_M_eat_21 : decode cb_M_eat 21 = .ok (.ireturn, 1) := by decide +kernel
theorem cd_M_number_0 : decode cb_M_number 0 = .ok (.aload_n 0, 1) := by decide +kernel
theorem cd_M_number_1 : decode cb_M_number 1 = .ok (.invokevirtual 99, 3) := by decide +kernel
theorem cd_M_number_4 : decode cb_M_number 4 = .ok (.ifCond .eq 12, 3) := by decide +kernel
theorem cd_M_number_7 : decode cb_M_number 7 = .ok (.aload_n 0, 1) := by decide +kernel
theorem cd_M_number_8 : decode cb_M_number 8 = .ok (.invokevirtual 95, 3) := by decide +kernel
theorem cd_M_number_11 : decode cb_M_number 11 = .ok (.bipush 48, 2) := by decide +kernel
theorem cd_M_number_13 : decode cb_M_number 13 = .ok (.if_icmp .ne 5, 3) := by decide +kernel
theorem cd_M_number_16 : decode cb_M_number 16 = .ok (.iconst 0, 1) := by decide +kernel
theorem cd_M_number_17 : decode cb_M_number 17 = .ok (.ireturn, 1) := by decide +kernel
theorem cd_M_number_18 : decode cb_M_number 18 = .ok (.iconst 0, 1) := by decide +kernel
theorem cd_M_number_19 : decode cb_M_number 19 = .ok (.istore_n 3, 1) := by decide +kernel
theorem cd_M_number_20 : decode cb_M_number 20 = .ok (.iconst 0, 1) := by decide +kernel
theorem cd_M_number_21 : decode cb_M_number 21 = .ok (.istore 4, 2) := by decide +kernel
theorem cd_M_number_23 : decode cb_M_number 23 = .ok (.aload_n 0, 1) := by decide +kernel
theorem cd_M_number_24 : decode cb_M_number 24 = .ok (.invokevirtual 99, 3) := by decide +kernel
theorem cd_M_number_27 : decode cb_M_number 27 = .ok (.ifCond .eq 40, 3) := by decide +kernel
theorem cd_M_number_30 : decode cb_M_number 30 = .ok (.iload 4, 2) := by decide +kernel
theorem cd_M_number_32 : decode cb_M_number 32 = .ok (.iconst 4, 1) := by decide +kernel
theorem cd_M_number_33 : decode cb_M_number 33 = .ok (.if_icmp .ne 5, 3) := by decide +kernel
theorem cd_M_number_36 : decode cb_M_number 36 = .ok (.iconst 0, 1) := by decide +kernel
theorem cd_M_number_37 : decode cb_M_number 37 = .ok (.ireturn, 1) := by decide +kernel
theorem cd_M_number_38 : decode cb_M_number 38 = .ok (.bipush 10, 2) := by decide +kernel
theorem cd_M_number_40 : decode cb_M_number 40 = .ok (.iload_n 3, 1) := by decide +kernel
theorem cd_M_number_41 : decode cb_M_number 41 = .ok (.imul, 1) := by decide +kernel
theorem cd_M_number_42 : decode cb_M_number 42 = .ok (.aload_n 0, 1) := by decide +kernel
theorem cd_M_number_43 : decode cb_M_number 43 = .ok (.invokevirtual 95, 3) := by decide +kernel
theorem cd_M_number_46 : decode cb_M_number 46 = .ok (.iadd, 1) := by decide +kernel
theorem cd_M_number_47 : decode cb_M_number 47 = .ok (.bipush 48, 2) := by decide +kernel
theorem cd_M_number_49 : decode cb_M_number 49 = .ok (.isub, 1) := by decide +kernel
theorem cd_M_number_50 : decode cb_M_number 50 = .ok (.istore_n 3, 1) := by decide +kernel
theorem cd_M_number_51 : decode cb_M_number 51 = .ok (.iinc 4 1, 3) := by decide +kernel
theorem cd_M_number_54 : decode cb_M_number 54 = .ok (.aload_n 0, 1) := by decide +kernel
theorem cd_M_number_55 : decode cb_M_number 55 = .ok (.dup, 1) := by decide +kernel
theorem cd_M_number_56 : decode cb_M_number 56 = .ok (.getfield 92, 3) := by decide +kernel
theorem cd_M_number_59 : decode cb_M_number 59 = .ok (.iconst 1, 1) := by decide +kernel
theorem cd_M_number_60 : decode cb_M_number 60 = .ok (.iadd, 1) := by decide +kernel
theorem cd_M_number_61 : decode cb_M_number 61 = .ok (.putfield 92, 3) := by decide +kernel
theorem cd_M_number_64 : decode cb_M_number 64 = .ok (.goto (-41), 3) := by decide +kernel
theorem cd_M_number_67 : decode cb_M_number 67 = .ok (.aload_n 1, 1) := by decide +kernel
theorem cd_M_number_68 : decode cb_M_number 68 = .ok (.iload_n 2, 1) := by decide +kernel
theorem cd_M_number_69 : decode cb_M_number 69 = .ok (.iload_n 3, 1) := by decide +kernel
theorem cd_M_number_70 : decode cb_M_number 70 = .ok (.iastore, 1) := by decide +kernel
theorem cd_M_number_71 : decode cb_M_number 71 = .ok (.iconst 1, 1) := by decide +kernel
theorem cd_M_number_72 : decode cb_M_number 72 = .ok (.ireturn, 1) := by decide +kernel
theorem cd_M_year_0 : decode cb_M_year 0 = .ok (.aload_n 0, 1) := by decide +kernel
theorem cd_M_year_1 : decode cb_M_year 1 = .ok (.getfield 92, 3) := by decide +kernel
theorem cd_M_year_4 : decode cb_M_year 4 = .ok (.istore 4, 2) := by decide +kernel
theorem cd_M_year_6 : decode cb_M_year 6 = .ok (.iconst 0, 1) := by decide +kernel
theorem cd_M_year_7 : decode cb_M_year 7 = .ok (.istore 5, 2) := by decide +kernel
theorem cd_M_year_9 : decode cb_M_year 9 = .ok (.iconst 0, 1) := by decide +kernel
theorem cd_M_year_10 : decode cb_M_year 10 = .ok (.istore 6, 2) := by decide +kernel
theorem cd_M_year_12 : decode cb_M_year 12 = .ok (.iload 6, 2) := by decide +kernel
theorem cd_M_year_14 : decode cb_M_year 14 = .ok (.iconst 4, 1) := by decide +kernel
theorem cd_M_year_15 : decode cb_M_year 15 = .ok (.if_icmp .ge 43, 3) := by decide +kernel
theorem cd_M_year_18 : decode cb_M_year 18 = .ok (.aload_n 0, 1) := by decide +kernel
theorem cd_M_year_19 : decode cb_M_year 19 = .ok (.invokevirtual 99, 3) := by decide +kernel
theorem cd_M_year_22 : decode cb_M_year 22 = .ok (.ifCond .ne 5, 3) := by decide +kernel
theorem cd_M_year_25 : decode cb_M_year 25 = .ok (.iconst 0, 1) := by decide +kernel
theorem cd_M_year_26 : decode cb_M_year 26 = .ok (.ireturn, 1) := by decide +kernel
theorem cd_M_year_27 : decode cb_M_year 27 = .ok (.bipush 10, 2) := by decide +kernel
theorem cd_M_year_29 : decode cb_M_year 29 = .ok (.iload 5, 2) := by decide +kernel
theorem cd_M_year_31 : decode cb_M_year 31 = .ok (.imul, 1) := by decide +kernel
theorem cd_M_year_32 : decode cb_M_year 32 = .ok (.aload_n 0, 1) := by decide +kernel
theorem cd_M_year_33 : decode cb_M_year 33 = .ok (.invokevirtual 95, 3) := by decide +kernel
theorem cd_M_year_36 : decode cb_M_year 36 = .ok (.iadd, 1) := by decide +kernel
theorem cd_M_year_37 : decode cb_M_year 37 = .ok (.bipush 48, 2) := by decide +kernel
theorem cd_M_year_39 : decode cb_M_year 39 = .ok (.isub, 1) := by decide +kernel
theorem cd_M_year_40 : decode cb_M_year 40 = .ok (.istore 5, 2) := by decide +kernel
theorem cd_M_year_42 : decode cb_M_year 42 = .ok (.aload_n 0, 1) := by decide +kernel
theorem cd_M_year_43 : decode cb_M_year 43 = .ok (.dup, 1) := by decide +kernel
theorem cd_M_year_44 : decode cb_M_year 44 = .ok (.getfield 92, 3) := by decide +kernel
theorem cd_M_year_47 : decode cb_M_year 47 = .ok (.iconst 1, 1) := by decide +kernel
theorem cd_M_year_48 : decode cb_M_year 48 = .ok (.iadd, 1) := by decide +kernel
theorem cd_M_year_49 : decode cb_M_year 49 = .ok (.putfield 92, 3) := by decide +kernel
theorem cd_M_year_52 : decode cb_M_year 52 = .ok (.iinc 6 1, 3) := by decide +kernel
theorem cd_M_year_55 : decode cb_M_year 55 = .ok (.goto (-43), 3) := by decide +kernel
theorem cd_M_year_58 : decode cb_M_year 58 = .ok (.aload_n 1, 1) := by decide +kernel
theorem cd_M_year_59 : decode cb_M_year 59 = .ok (.iload_n 2, 1) := by decide +kernel
theorem cd_M_year_60 : decode cb_M_year 60 = .ok (.iload 5, 2) := by decide +kernel
theorem cd_M_year_62 : decode cb_M_year 62 = .ok (.iastore, 1) := by decide +kernel
theorem cd_M_year_63 : decode cb_M_year 63 = .ok (.iload 5, 2) := by decide +kernel
theorem cd_M_year_65 : decode cb_M_year 65 = .ok (.iload_n 3, 1) := by decide +kernel
theorem cd_M_year_66 : decode cb_M_year 66 = .ok (.sipush 2999, 3) := by decide +kernel
theorem cd_M_year_69 : decode cb_M_year 69 = .ok (.invokestatic 85, 3) := by decide +kernel
theorem cd_M_year_72 : decode cb_M_year 72 = .ok (.ifCond .eq 5, 3) := by decide +kernel
theorem cd_M_year_75 : decode cb_M_year 75 = .ok (.iconst 1, 1) := by decide +kernel
theorem cd_M_year_76 : decode cb_M_year 76 = .ok (.ireturn, 1) := by decide +kernel
theorem cd_M_year_77 : decode cb_M_year 77 = .ok (.aload_n 0, 1) := by decide +kernel
theorem cd_M_year_78 : decode cb_M_year 78 = .ok (.iload 4, 2) := by decide +kernel
theorem cd_M_year_80 : decode cb_M_year 80 = .ok (.putfield 92, 3) := by decide +kernel
theorem cd_M_year_83 : decode cb_M_year 83 = .ok (.iconst 0, 1) := by decide +kernel
theorem cd_M_year_84 : decode cb_M_year 84 = .ok (.ireturn, 1) := by decide +kernel
theorem cd_M_depth_0 : decode cb_M_depth 0 = .ok (.iconst 0, 1) := by decide +kernel
theorem cd_M_depth_1 : decode cb_M_depth 1 = .ok (.istore_n 2, 1) := by decide +kernel
theorem cd_M_depth_2 : decode cb_M_depth 2 = .ok (.aload_n 0, 1) := by decide +kernel
theorem cd_M_depth_3 : decode cb_M_depth 3 = .ok (.getfield 24, 3) := by decide +kernel
theorem cd_M_depth_6 : decode cb_M_depth 6 = .ok (.iload_n 1, 1) := by decide +kernel
theorem cd_M_depth_7 : decode cb_M_depth 7 = .ok (.iaload, 1) := by decide +kernel
theorem cd_M_depth_8 : decode cb_M_depth 8 = .ok (.istore_n 3, 1) := by decide +kernel
theorem cd_M_depth_9 : decode cb_M_depth 9 = .ok (.iload_n 3, 1) := by decide +kernel
theorem cd_M_depth_10 : decode cb_M_depth 10 = .ok (.ifCond .lt 16, 3) := by decide +kernel
theorem cd_M_depth_13 : decode cb_M_depth 13 = .ok (.iinc 2 1, 3) := by decide +kernel
theorem cd_M_depth_16 : decode cb_M_depth 16 = .ok (.aload_n 0, 1) := by decide +kernel
theorem cd_M_depth_17 : decode cb_M_depth 17 = .ok (.getfield 24, 3) := by decide +kernel
theorem cd_M_depth_20 : decode cb_M_depth 20 = .ok (.iload_n 3, 1) := by decide +kernel
theorem cd_M_depth_21 : decode cb_M_depth 21 = .ok (.iaload, 1) := by decide +kernel
theorem cd_M_depth_22 : decode cb_M_depth 22 = .ok (.istore_n 3, 1) := by decide +kernel
theorem cd_M_depth_23 : decode cb_M_depth 23 = .ok (.goto (-14), 3) := by decide +kernel
theorem cd_M_depth_26 : decode cb_M_depth 26 = .ok (.iload_n 2, 1) := by decide +kernel
theorem cd_M_depth_27 : decode cb_M_depth 27 = .ok (.ireturn, 1) := by decide +kernel
theorem cd_M_kindOf_0 : decode cb_M_kindOf 0 = .ok (.iload_n 0, 1) := by decide +kernel
theorem cd_M_kindOf_1 : decode cb_M_kindOf 1 = .ok (.bipush 102, 2) := by decide +kernel
theorem cd_M_kindOf_3 : decode cb_M_kindOf 3 = .ok (.if_icmp .ne 7, 3) := by decide +kernel
theorem cd_M_kindOf_6 : decode cb_M_kindOf 6 = .ok (.iconst 0, 1) := by decide +kernel
theorem cd_M_kindOf_7 : decode cb_M_kindOf 7 = .ok (.goto 34, 3) := by decide +kernel
theorem cd_M_kindOf_10 : decode cb_M_kindOf 10 = .ok (.iload_n 0, 1) := by decide +kernel
theorem cd_M_kindOf_11 : decode cb_M_kindOf 11 = .ok (.bipush 115, 2) := by decide +kernel
theorem cd_M_kindOf_13 : decode cb_M_kindOf 13 = .ok (.if_icmp .ne 7, 3) := by decide +kernel
theorem cd_M_kindOf_16 : decode cb_M_kindOf 16 = .ok (.iconst 1, 1) := by decide +kernel
theorem cd_M_kindOf_17 : decode cb_M_kindOf 17 = .ok (.goto 24, 3) := by decide +kernel
theorem cd_M_kindOf_20 : decode cb_M_kindOf 20 = .ok (.iload_n 0, 1) := by decide +kernel
theorem cd_M_kindOf_21 : decode cb_M_kindOf 21 = .ok (.bipush 117, 2) := by decide +kernel
theorem cd_M_kindOf_23 : decode cb_M_kindOf 23 = .ok (.if_icmp .ne 7, 3) := by decide +kernel
theorem cd_M_kindOf_26 : decode cb_M_kindOf 26 = .ok (.iconst 2, 1) := by decide +kernel
theorem cd_M_kindOf_27 : decode cb_M_kindOf 27 = .ok (.goto 14, 3) := by decide +kernel
theorem cd_M_kindOf_30 : decode cb_M_kindOf 30 = .ok (.iload_n 0, 1) := by decide +kernel
theorem cd_M_kindOf_31 : decode cb_M_kindOf 31 = .ok (.bipush 105, 2) := by decide +kernel
theorem cd_M_kindOf_33 : decode cb_M_kindOf 33 = .ok (.if_icmp .ne 7, 3) := by decide +kernel
theorem cd_M_kindOf_36 : decode cb_M_kindOf 36 = .ok (.iconst 3, 1) := by decide +kernel
theorem cd_M_kindOf_37 : decode cb_M_kindOf 37 = .ok (.goto 4, 3) := by decide +kernel
theorem cd_M_kindOf_40 : decode cb_M_kindOf 40 = .ok (.iconst (-1), 1) := by decide +kernel
theorem cd_M_kindOf_41 : decode cb_M_kindOf 41 = .ok (.ireturn, 1) := by decide +kernel
theorem cd_M_place_I_0 : decode cb_M_place_I 0 = .ok (.iload_n 1, 1) := by decide +kernel
theorem cd_M_place_I_1 : decode cb_M_place_I 1 = .ok (.iconst 1, 1) := by decide +kernel
theorem cd_M_place_I_2 : decode cb_M_place_I 2 = .ok (.isub, 1) := by decide +kernel
theorem cd_M_place_I_3 : decode cb_M_place_I 3 = .ok (.istore_n 2, 1) := by decide +kernel
theorem cd_M_place_I_4 : decode cb_M_place_I 4 = .ok (.iload_n 1, 1) := by decide +kernel
theorem cd_M_place_I_5 : decode cb_M_place_I 5 = .ok (.bipush 100, 2) := by decide +kernel
theorem cd_M_place_I_7 : decode cb_M_place_I 7 = .ok (.if_icmp .ne 7, 3) := by decide +kernel
theorem cd_M_place_I_10 : decode cb_M_place_I 10 = .ok (.iconst 0, 1) := by decide +kernel
theorem cd_M_place_I_11 : decode cb_M_place_I 11 = .ok (.goto 10, 3) := by decide +kernel
theorem cd_M_place_I_14 : decode cb_M_place_I 14 = .ok (.aload_n 0, 1) := by decide +kernel
theorem cd_M_place_I_15 : decode cb_M_place_I 15 = .ok (.iload_n 2, 1) := by decide +kernel
theorem cd_M_place_I_16 : decode cb_M_place_I 16 = .ok (.invokevirtual 103, 3) := by decide +kernel
theorem cd_M_place_I_19 : decode cb_M_place_I 19 = .ok (.iconst 1, 1) := by decide +kernel
theorem cd_M_place_I_20 : decode cb_M_place_I 20 = .ok (.iadd, 1) := by decide +kernel
theorem cd_M_place_I_21 : decode cb_M_place_I 21 = .ok (.istore_n 3, 1) := by decide +kernel
theorem cd_M_place_I_22 : decode cb_M_place_I 22 = .ok (.iload_n 3, 1) := by decide +kernel
theorem cd_M_place_I_23 : decode cb_M_place_I 23 = .ok (.bipush 8, 2) := by decide +kernel
theorem cd_M_place_I_25 : decode cb_M_place_I 25 = .ok (.if_icmp .le 8, 3) := by decide +kernel
theorem cd_M_place_I_28 : decode cb_M_place_I 28 = .ok (.bipush 8, 2) := by decide +kernel
theorem cd_M_place_I_30 : decode cb_M_place_I 30 = .ok (.goto 4, 3) := by decide +kernel
theorem cd_M_place_I_33 : decode cb_M_place_I 33 = .ok (.iload_n 3, 1) := by decide +kernel
theorem cd_M_place_I_34 : decode cb_M_place_I 34 = .ok (.istore_n 3, 1) := by decide +kernel
theorem cd_M_place_I_35 : decode cb_M_place_I 35 = .ok (.iconst 0, 1) := by decide +kernel
theorem cd_M_place_I_36 : decode cb_M_place_I 36 = .ok (.istore 4, 2) := by decide +kernel
theorem cd_M_place_I_38 : decode cb_M_place_I 38 = .ok (.aload_n 0, 1) := by decide +kernel
theorem cd_M_place_I_39 : decode cb_M_place_I 39 = .ok (.invokevirtual 95, 3) := by decide +kernel
theorem cd_M_place_I_42 : decode cb_M_place_I 42 = .ok (.bipush 43, 2) := by decide +kernel
theorem cd_M_place_I_44 : decode cb_M_place_I 44 = .ok (.if_icmp .ne 27, 3) := by decide +kernel
theorem cd_M_place_I_47 : decode cb_M_place_I 47 = .ok (.iload 4, 2) := by decide +kernel
theorem cd_M_place_I_49 : decode cb_M_place_I 49 = .ok (.iload_n 3, 1) := by decide +kernel
theorem cd_M_place_I_50 : decode cb_M_place_I 50 = .ok (.if_icmp .ne 5, 3) := by decide +kernel
theorem cd_M_place_I_53 : decode cb_M_place_I 53 = .ok (.iconst 0, 1) := by decide +kernel
theorem cd_M_place_I_54 : decode cb_M_place_I 54 = .ok (.ireturn, 1) := by decide +kernel
theorem cd_M_place_I_55 : decode cb_M_place_I 55 = .ok (.iinc 4 1, 3) := by decide +kernel
theorem cd_M_place_I_58 : decode cb_M_place_I 58 = .ok (.aload_n 0, 1) := by decide +kernel
theorem cd_M_place_I_59 : decode cb_M_place_I 59 = .ok (.dup, 1) := by decide +kernel
theorem cd_M_place_I_60 : decode cb_M_place_I 60 = .ok (.getfield 92, 3) := by decide +kernel
theorem cd_M_place_I_63 : decode cb_M_place_I 63 = .ok (.iconst 1, 1) := by decide +kernel
theorem cd_M_place_I_64 : decode cb_M_place_I 64 = .ok (.iadd, 1) := by decide +kernel
theorem cd_M_place_I_65 : decode cb_M_place_I 65 = .ok (.putfield 92, 3) := by decide +kernel
theorem cd_M_place_I_68 : decode cb_M_place_I 68 = .ok (.goto (-30), 3) := by decide +kernel
theorem cd_M_place_I_71 : decode cb_M_place_I 71 = .ok (.iload_n 1, 1) := by decide +kernel
theorem cd_M_place_I_72 : decode cb_M_place_I 72 = .ok (.bipush 100, 2) := by decide +kernel
theorem cd_M_place_I_74 : decode cb_M_place_I 74 = .ok (.if_icmp .le 10, 3) := by decide +kernel
theorem cd_M_place_I_77 : decode cb_M_place_I 77 = .ok (.iload 4, 2) := by decide +kernel
theorem cd_M_place_I_79 : decode cb_M_place_I 79 = .ok (.ifCond .ne 5, 3) := by decide +kernel
theorem cd_M_place_I_82 : decode cb_M_place_I 82 = .ok (.iconst 0, 1) := by decide +kernel
theorem cd_M_place_I_83 : decode cb_M_place_I 83 = .ok (.ireturn, 1) := by decide +kernel
theorem cd_M_place_I_84 : decode cb_M_place_I 84 = .ok (.iconst (-1), 1) := by decide +kernel
theorem cd_M_place_I_85 : decode cb_M_place_I 85 = .ok (.istore 5, 2) := by decide +kernel
theorem cd_M_place_I_87 : decode cb_M_place_I 87 = .ok (.iload_n 1, 1) := by decide +kernel
theorem cd_M_place_I_88 : decode cb_M_place_I 88 = .ok (.bipush 100, 2) := by decide +kernel
theorem cd_M_place_I_90 : decode cb_M_place_I 90 = .ok (.if_icmp .le 29, 3) := by decide +kernel
theorem cd_M_place_I_93 : decode cb_M_place_I 93 = .ok (.iload_n 2, 1) := by decide +kernel
theorem cd_M_place_I_94 : decode cb_M_place_I 94 = .ok (.istore 5, 2) := by decide +kernel
theorem cd_M_place_I_96 : decode cb_M_place_I 96 = .ok (.aload_n 0, 1) := by decide +kernel
theorem cd_M_place_I_97 : decode cb_M_place_I 97 = .ok (.iload 5, 2) := by decide +kernel
theorem cd_M_place_I_99 : decode cb_M_place_I 99 = .ok (.invokevirtual 103, 3) := by decide +kernel
theorem cd_M_place_I_102 : decode cb_M_place_I 102 = .ok (.iload 4, 2) := by decide +kernel
theorem cd_M_place_I_104 : decode cb_M_place_I 104 = .ok (.if_icmp .lt 15, 3) := by decide +kernel
theorem cd_M_place_I_107 : decode cb_M_place_I 107 = .ok (.aload_n 0, 1) := by decide +kernel
theorem cd_M_place_I_108 : decode cb_M_place_I 108 = .ok (.getfield 24, 3) := by decide +kernel
theorem cd_M_place_I_111 : decode cb_M_place_I 111 = .ok (.iload 5, 2) := by decide +kernel
theorem cd_M_place_I_113 : decode cb_M_place_I 113 = .ok (.iaload, 1) := by decide +kernel
theorem cd_M_place_I_114 : decode cb_M_place_I 114 = .ok (.istore 5, 2) := by decide +kernel
theorem cd_M_place_I_116 : decode cb_M_place_I 116 = .ok (.goto (-20), 3) := by decide +kernel
theorem cd_M_place_I_119 : decode cb_M_place_I 119 = .ok (.aload_n 0, 1) := by decide +kernel
theorem cd_M_place_I_120 : decode cb_M_place_I 120 = .ok (.invokevirtual 95, 3) := by decide +kernel
theorem cd_M_place_I_123 : decode cb_M_place_I 123 = .ok (.invokestatic 107, 3) := by decide +kernel
theorem cd_M_place_I_126 : decode cb_M_place_I 126 = .ok (.istore 6, 2) := by decide +kernel
theorem cd_M_place_I_128 : decode cb_M_place_I 128 = .ok (.iload 6, 2) := by decide +kernel
theorem cd_M_place_I_130 : decode cb_M_place_I 130 = .ok (.ifCond .lt 31, 3) := by decide +kernel
theorem cd_M_place_I_133 : decode cb_M_place_I 133 = .ok (.iload 5, 2) := by decide +kernel
theorem cd_M_place_I_135 : decode cb_M_place_I 135 = .ok (.ifCond .lt 28, 3) := by decide +kernel
theorem cd_M_place_I_138 : decode cb_M_place_I 138 = .ok (.aload_n 0, 1) := by decide +kernel
theorem cd_M_place_I_139 : decode cb_M_place_I 139 = .ok (.getfield 17, 3) := by decide +kernel
theorem cd_M_place_I_142 : decode cb_M_place_I 142 = .ok (.iload 5, 2) := by decide +kernel
theorem cd_M_place_I_144 : decode cb_M_place_I 144 = .ok (.iaload, 1) := by decide +kernel
theorem cd_M_place_I_145 : decode cb_M_place_I 145 = .ok (.iconst 3, 1) := by decide +kernel
theorem cd_M_place_I_146 : decode cb_M_place_I 146 = .ok (.if_icmp .eq 15, 3) := by decide +kernel
theorem cd_M_place_I_149 : decode cb_M_place_I 149 = .ok (.iload 6, 2) := by decide +kernel
theorem cd_M_place_I_151 : decode cb_M_place_I 151 = .ok (.aload_n 0, 1) := by decide +kernel
theorem cd_M_place_I_152 : decode cb_M_place_I 152 = .ok (.getfield 17, 3) := by decide +kernel
theorem cd_M_place_I_155 : decode cb_M_place_I 155 = .ok (.iload 5, 2) := by decide +kernel
theorem cd_M_place_I_157 : decode cb_M_place_I 157 = .ok (.iaload, 1) := by decide +kernel
theorem cd_M_place_I_158 : decode cb_M_place_I 158 = .ok (.if_icmp .ge 5, 3) := by decide +kernel
theorem cd_M_place_I_161 : decode cb_M_place_I 161 = .ok (.iconst 0, 1) := by decide +kernel
theorem cd_M_place_I_162 : decode cb_M_place_I 162 = .ok (.ireturn, 1) := by decide +kernel
theorem cd_M_place_I_163 : decode cb_M_place_I 163 = .ok (.aload_n 0, 1) := by decide +kernel
theorem cd_M_place_I_164 : decode cb_M_place_I 164 = .ok (.dup, 1) := by decide +kernel
theorem cd_M_place_I_165 : decode cb_M_place_I 165 = .ok (.getfield 92, 3) := by decide +kernel
theorem cd_M_place_I_168 : decode cb_M_place_I 168 = .ok (.iconst 1, 1) := by decide +kernel
theorem cd_M_place_I_169 : decode cb_M_place_I 169 = .ok (.iadd, 1) := by decide +kernel
theorem cd_M_place_I_170 : decode cb_M_place_I 170 = .ok (.putfield 92, 3) := by decide +kernel
theorem cd_M_place_I_173 : decode cb_M_place_I 173 = .ok (.aload_n 0, 1) := by decide +kernel
theorem cd_M_place_I_174 : decode cb_M_place_I 174 = .ok (.getfield 17, 3) := by decide +kernel
theorem cd_M_place_I_177 : decode cb_M_place_I 177 = .ok (.iload_n 1, 1) := by decide +kernel
theorem cd_M_place_I_178 : decode cb_M_place_I 178 = .ok (.iload 6, 2) := by decide +kernel
theorem cd_M_place_I_180 : decode cb_M_place_I 180 = .ok (.iastore, 1) := by decide +kernel
theorem cd_M_place_I_181 : decode cb_M_place_I 181 = .ok (.aload_n 0, 1) := by decide +kernel
theorem cd_M_place_I_182 : decode cb_M_place_I 182 = .ok (.getfield 24, 3) := by decide +kernel
theorem cd_M_place_I_185 : decode cb_M_place_I 185 = .ok (.iload_n 1, 1) := by decide +kernel
theorem cd_M_place_I_186 : decode cb_M_place_I 186 = .ok (.iload 5, 2) := by decide +kernel
theorem cd_M_place_I_188 : decode cb_M_place_I 188 = .ok (.iastore, 1) := by decide +kernel
theorem cd_M_place_I_189 : decode cb_M_place_I 189 = .ok (.iconst 1, 1) := by decide +kernel
theorem cd_M_place_I_190 : decode cb_M_place_I 190 = .ok (.ireturn, 1) := by decide +kernel
theorem cd_M_titled_0 : decode cb_M_titled 0 = .ok (.iconst 0, 1) := by decide +kernel
theorem cd_M_titled_1 : decode cb_M_titled 1 = .ok (.istore_n 2, 1) := by decide +kernel
theorem cd_M_titled_2 : decode cb_M_titled 2 = .ok (.aload_n 0, 1) := by decide +kernel
theorem cd_M_titled_3 : decode cb_M_titled 3 = .ok (.invokevirtual 95, 3) := by decide +kernel
theorem cd_M_titled_6 : decode cb_M_titled 6 = .ok (.bipush 97, 2) := by decide +kernel
theorem cd_M_titled_8 : decode cb_M_titled 8 = .ok (.bipush 122, 2) := by decide +kernel
theorem cd_M_titled_10 : decode cb_M_titled 10 = .ok (.invokestatic 85, 3) := by decide +kernel
theorem cd_M_titled_13 : decode cb_M_titled 13 = .ok (.ifCond .eq 43, 3) := by decide +kernel
theorem cd_M_titled_16 : decode cb_M_titled 16 = .ok (.iload_n 2, 1) := by decide +kernel
theorem cd_M_titled_17 : decode cb_M_titled 17 = .ok (.bipush 16, 2) := by decide +kernel
theorem cd_M_titled_19 : decode cb_M_titled 19 = .ok (.if_icmp .ne 5, 3) := by decide +kernel
theorem cd_M_titled_22 : decode cb_M_titled 22 = .ok (.iconst 0, 1) := by decide +kernel
theorem cd_M_titled_23 : decode cb_M_titled 23 = .ok (.ireturn, 1) := by decide +kernel
theorem cd_M_titled_24 : decode cb_M_titled 24 = .ok (.aload_n 0, 1) := by decide +kernel
theorem cd_M_titled_25 : decode cb_M_titled 25 = .ok (.getfield 45, 3) := by decide +kernel
theorem cd_M_titled_28 : decode cb_M_titled 28 = .ok (.bipush 16, 2) := by decide +kernel
theorem cd_M_titled_30 : decode cb_M_titled 30 = .ok (.iload_n 1, 1) := by decide +kernel
theorem cd_M_titled_31 : decode cb_M_titled 31 = .ok (.imul, 1) := by decide +kernel
theorem cd_M_titled_32 : decode cb_M_titled 32 = .ok (.iload_n 2, 1) := by decide +kernel
theorem cd_M_titled_33 : decode cb_M_titled 33 = .ok (.iadd, 1) := by decide +kernel
theorem cd_M_titled_34 : decode cb_M_titled 34 = .ok (.aload_n 0, 1) := by decide +kernel
theorem cd_M_titled_35 : decode cb_M_titled 35 = .ok (.invokevirtual 95, 3) := by decide +kernel
theorem cd_M_titled_38 : decode cb_M_titled 38 = .ok (.i2b, 1) := by decide +kernel
theorem cd_M_titled_39 : decode cb_M_titled 39 = .ok (.bastore, 1) := by decide +kernel
theorem cd_M_titled_40 : decode cb_M_titled 40 = .ok (.iinc 2 1, 3) := by decide +kernel
theorem cd_M_titled_43 : decode cb_M_titled 43 = .ok (.aload_n 0, 1) := by decide +kernel
theorem cd_M_titled_44 : decode cb_M_titled 44 = .ok (.dup, 1) := by decide +kernel
theorem cd_M_titled_45 : decode cb_M_titled 45 = .ok (.getfield 92, 3) := by decide +kernel
theorem cd_M_titled_48 : decode cb_M_titled 48 = .ok (.iconst 1, 1) := by decide +kernel
theorem cd_M_titled_49 : decode cb_M_titled 49 = .ok (.iadd, 1) := by decide +kernel
theorem cd_M_titled_50 : decode cb_M_titled 50 = .ok (.putfield 92, 3) := by decide +kernel
theorem cd_M_titled_53 : decode cb_M_titled 53 = .ok (.goto (-51), 3) := by decide +kernel
theorem cd_M_titled_56 : decode cb_M_titled 56 = .ok (.aload_n 0, 1) := by decide +kernel
theorem cd_M_titled_57 : decode cb_M_titled 57 = .ok (.getfield 42, 3) := by decide +kernel
theorem cd_M_titled_60 : decode cb_M_titled 60 = .ok (.iload_n 1, 1) := by decide +kernel
theorem cd_M_titled_61 : decode cb_M_titled 61 = .ok (.iload_n 2, 1) := by decide +kernel
theorem cd_M_titled_62 : decode cb_M_titled 62 = .ok (.iastore, 1) := by decide +kernel
theorem cd_M_titled_63 : decode cb_M_titled 63 = .ok (.iload_n 2, 1) := by decide +kernel
theorem cd_M_titled_64 : decode cb_M_titled 64 = .ok (.ifCond .le 7, 3) := by decide +kernel
theorem cd_M_titled_67 : decode cb_M_titled 67 = .ok (.iconst 1, 1) := by decide +kernel
theorem cd_M_titled_68 : decode cb_M_titled 68 = .ok (.goto 4, 3) := by decide +kernel
theorem cd_M_titled_71 : decode cb_M_titled 71 = .ok (.iconst 0, 1) := by decide +kernel
theorem cd_M_titled_72 : decode cb_M_titled 72 = .ok (.ireturn, 1) := by decide +kernel
theorem cd_M_dated_0 : decode cb_M_dated 0 = .ok (.aload_n 0, 1) := by decide +kernel
theorem cd_M_dated_1 : decode cb_M_dated 1 = .ok (.aload_n 0, 1) := by decide +kernel
theorem cd_M_dated_2 : decode cb_M_dated 2 = .ok (.getfield 27, 3) := by decide +kernel
theorem cd_M_dated_5 : decode cb_M_dated 5 = .ok (.iload_n 1, 1) := by decide +kernel
theorem cd_M_dated_6 : decode cb_M_dated 6 = .ok (.sipush 1000, 3) := by decide +kernel
theorem cd_M_dated_9 : decode cb_M_dated 9 = .ok (.invokevirtual 110, 3) := by decide +kernel
theorem cd_M_dated_12 : decode cb_M_dated 12 = .ok (.ifCond .ne 5, 3) := by decide +kernel
theorem cd_M_dated_15 : decode cb_M_dated 15 = .ok (.iconst 0, 1) := by decide +kernel
theorem cd_M_dated_16 : decode cb_M_dated 16 = .ok (.ireturn, 1) := by decide +kernel
theorem cd_M_dated_17 : decode cb_M_dated 17 = .ok (.aload_n 0, 1) := by decide +kernel
theorem cd_M_dated_18 : decode cb_M_dated 18 = .ok (.getfield 30, 3) := by decide +kernel
theorem cd_M_dated_21 : decode cb_M_dated 21 = .ok (.iload_n 1, 1) := by decide +kernel
theorem cd_M_dated_22 : decode cb_M_dated 22 = .ok (.aload_n 0, 1) := by decide +kernel
theorem cd_M_dated_23 : decode cb_M_dated 23 = .ok (.getfield 27, 3) := by decide +kernel
theorem cd_M_dated_26 : decode cb_M_dated 26 = .ok (.iload_n 1, 1) := by decide +kernel
theorem cd_M_dated_27 : decode cb_M_dated 27 = .ok (.iaload, 1) := by decide +kernel
theorem cd_M_dated_28 : decode cb_M_dated 28 = .ok (.iastore, 1) := by decide +kernel
theorem cd_M_dated_29 : decode cb_M_dated 29 = .ok (.aload_n 0, 1) := by decide +kernel
theorem cd_M_dated_30 : decode cb_M_dated 30 = .ok (.bipush 45, 2) := by decide +kernel
theorem cd_M_dated_32 : decode cb_M_dated 32 = .ok (.invokevirtual 114, 3) := by decide +kernel
theorem cd_M_dated_35 : decode cb_M_dated 35 = .ok (.ifCond .eq 23, 3) := by decide +kernel
theorem cd_M_dated_38 : decode cb_M_dated 38 = .ok (.aload_n 0, 1) := by decide +kernel
theorem cd_M_dated_39 : decode cb_M_dated 39 = .ok (.aload_n 0, 1) := by decide +kernel
theorem cd_M_dated_40 : decode cb_M_dated 40 = .ok (.getfield 30, 3) := by decide +kernel
theorem cd_M_dated_43 : decode cb_M_dated 43 = .ok (.iload_n 1, 1) := by decide +kernel
theorem cd_M_dated_44 : decode cb_M_dated 44 = .ok (.aload_n 0, 1) := by decide +kernel
theorem cd_M_dated_45 : decode cb_M_dated 45 = .ok (.getfield 27, 3) := by decide +kernel
theorem cd_M_dated_48 : decode cb_M_dated 48 = .ok (.iload_n 1, 1) := by decide +kernel
theorem cd_M_dated_49 : decode cb_M_dated 49 = .ok (.iaload, 1) := by decide +kernel
theorem cd_M_dated_50 : decode cb_M_dated 50 = .ok (.invokevirtual 110, 3) := by decide +kernel
theorem cd_M_dated_53 : decode cb_M_dated 53 = .ok (.ifCond .ne 5, 3) := by decide +kernel
theorem cd_M_dated_56 : decode cb_M_dated 56 = .ok (.iconst 0, 1) := by decide +kernel
theorem cd_M_dated_57 : decode cb_M_dated 57 = .ok (.ireturn, 1) := by decide +kernel
theorem cd_M_dated_58 : decode cb_M_dated 58 = .ok (.aload_n 0, 1) := by decide +kernel
theorem cd_M_dated_59 : decode cb_M_dated 59 = .ok (.getfield 33, 3) := by decide +kernel
theorem cd_M_dated_62 : decode cb_M_dated 62 = .ok (.iload_n 1, 1) := by decide +kernel
theorem cd_M_dated_63 : decode cb_M_dated 63 = .ok (.aload_n 0, 1) := by decide +kernel
theorem cd_M_dated_64 : decode cb_M_dated 64 = .ok (.bipush 63, 2) := by decide +kernel
theorem cd_M_dated_66 : decode cb_M_dated 66 = .ok (.invokevirtual 114, 3) := by decide +kernel
theorem cd_M_dated_69 : decode cb_M_dated 69 = .ok (.ifCond .eq 7, 3) := by decide +kernel
theorem cd_M_dated_72 : decode cb_M_dated 72 = .ok (.iconst 1, 1) := by decide +kernel
theorem cd_M_dated_73 : decode cb_M_dated 73 = .ok (.goto 4, 3) := by decide +kernel
theorem cd_M_dated_76 : decode cb_M_dated 76 = .ok (.iconst 0, 1) := by decide +kernel
theorem cd_M_dated_77 : decode cb_M_dated 77 = .ok (.iastore, 1) := by decide +kernel
theorem cd_M_dated_78 : decode cb_M_dated 78 = .ok (.iconst 1, 1) := by decide +kernel
theorem cd_M_dated_79 : decode cb_M_dated 79 = .ok (.ireturn, 1) := by decide +kernel
theorem cd_M_extended_0 : decode cb_M_extended 0 = .ok (.aload_n 0, 1) := by decide +kernel
theorem cd_M_extended_1 : decode cb_M_extended 1 = .ok (.aload_n 0, 1) := by decide +kernel
theorem cd_M_extended_2 : decode cb_M_extended 2 = .ok (.getfield 36, 3) := by decide +kernel
theorem cd_M_extended_5 : decode cb_M_extended 5 = .ok (.iload_n 1, 1) := by decide +kernel
theorem cd_M_extended_6 : decode cb_M_extended 6 = .ok (.invokevirtual 118, 3) := by decide +kernel
theorem cd_M_extended_9 : decode cb_M_extended 9 = .ok (.ifCond .ne 5, 3) := by decide +kernel
theorem cd_M_extended_12 : decode cb_M_extended 12 = .ok (.iconst 0, 1) := by decide +kernel
theorem cd_M_extended_13 : decode cb_M_extended 13 = .ok (.ireturn, 1) := by decide +kernel
theorem cd_M_extended_14 : decode cb_M_extended 14 = .ok (.aload_n 0, 1) := by decide +kernel
theorem cd_M_extended_15 : decode cb_M_extended 15 = .ok (.getfield 39, 3) := by decide +kernel
theorem cd_M_extended_18 : decode cb_M_extended 18 = .ok (.iload_n 1, 1) := by decide +kernel
theorem cd_M_extended_19 : decode cb_M_extended 19 = .ok (.aload_n 0, 1) := by decide +kernel
theorem cd_M_extended_20 : decode cb_M_extended 20 = .ok (.invokevirtual 95, 3) := by decide +kernel
theorem cd_M_extended_23 : decode cb_M_extended 23 = .ok (.bipush 98, 2) := by decide +kernel
theorem cd_M_extended_25 : decode cb_M_extended 25 = .ok (.if_icmp .ne 7, 3) := by decide +kernel
theorem cd_M_extended_28 : decode cb_M_extended 28 = .ok (.iconst 0, 1) := by decide +kernel
theorem cd_M_extended_29 : decode cb_M_extended 29 = .ok (.goto 30, 3) := by decide +kernel
theorem cd_M_extended_32 : decode cb_M_extended 32 = .ok (.aload_n 0, 1) := by decide +kernel
theorem cd_M_extended_33 : decode cb_M_extended 33 = .ok (.invokevirtual 95, 3) := by decide +kernel
theorem cd_M_extended_36 : decode cb_M_extended 36 = .ok (.bipush 109, 2) := by decide +kernel
theorem cd_M_extended_38 : decode cb_M_extended 38 = .ok (.if_icmp .ne 7, 3) := by decide +kernel
theorem cd_M_extended_41 : decode cb_M_extended 41 = .ok (.iconst 1, 1) := by decide +kernel
theorem cd_M_extended_42 : decode cb_M_extended 42 = .ok (.goto 17, 3) := by decide +kernel
theorem cd_M_extended_45 : decode cb_M_extended 45 = .ok (.aload_n 0, 1) := by decide +kernel
theorem cd_M_extended_46 : decode cb_M_extended 46 = .ok (.invokevirtual 95, 3) := by decide +kernel
theorem cd_M_extended_49 : decode cb_M_extended 49 = .ok (.bipush 112, 2) := by decide +kernel
theorem cd_M_extended_51 : decode cb_M_extended 51 = .ok (.if_icmp .ne 7, 3) := by decide +kernel
theorem cd_M_extended_54 : decode cb_M_extended 54 = .ok (.iconst 2, 1) := by decide +kernel
theorem cd_M_extended_55 : decode cb_M_extended 55 = .ok (.goto 4, 3) := by decide +kernel
theorem cd_M_extended_58 : decode cb_M_extended 58 = .ok (.iconst (-1), 1) := by decide +kernel
theorem cd_M_extended_59 : decode cb_M_extended 59 = .ok (.iastore, 1) := by decide +kernel
theorem cd_M_extended_60 : decode cb_M_extended 60 = .ok (.aload_n 0, 1) := by decide +kernel
theorem cd_M_extended_61 : decode cb_M_extended 61 = .ok (.getfield 39, 3) := by decide +kernel
theorem cd_M_extended_64 : decode cb_M_extended 64 = .ok (.iload_n 1, 1) := by decide +kernel
theorem cd_M_extended_65 : decode cb_M_extended 65 = .ok (.iaload, 1) := by decide +kernel
theorem cd_M_extended_66 : decode cb_M_extended 66 = .ok (.ifCond .ge 5, 3) := by decide +kernel
theorem cd_M_extended_69 : decode cb_M_extended 69 = .ok (.iconst 0, 1) := by decide +kernel
theorem cd_M_extended_70 : decode cb_M_extended 70 = .ok (.ireturn, 1) := by decide +kernel
theorem cd_M_extended_71 : decode cb_M_extended 71 = .ok (.aload_n 0, 1) := by decide +kernel
theorem cd_M_extended_72 : decode cb_M_extended 72 = .ok (.dup, 1) := by decide +kernel
theorem cd_M_extended_73 : decode cb_M_extended 73 = .ok (.getfield 92, 3) := by decide +kernel
theorem cd_M_extended_76 : decode cb_M_extended 76 = .ok (.iconst 1, 1) := by decide +kernel
theorem cd_M_extended_77 : decode cb_M_extended 77 = .ok (.iadd, 1) := by decide +kernel
theorem cd_M_extended_78 : decode cb_M_extended 78 = .ok (.putfield 92, 3) := by decide +kernel
theorem cd_M_extended_81 : decode cb_M_extended 81 = .ok (.iconst 1, 1) := by decide +kernel
theorem cd_M_extended_82 : decode cb_M_extended 82 = .ok (.ireturn, 1) := by decide +kernel
theorem cd_M_line_0 : decode cb_M_line 0 = .ok (.iload_n 1, 1) := by decide +kernel
theorem cd_M_line_1 : decode cb_M_line 1 = .ok (.sipush 200, 3) := by decide +kernel
theorem cd_M_line_4 : decode cb_M_line 4 = .ok (.if_icmp .ne 5, 3) := by decide +kernel
theorem cd_M_line_7 : decode cb_M_line 7 = .ok (.iconst 0, 1) := by decide +kernel
theorem cd_M_line_8 : decode cb_M_line 8 = .ok (.ireturn, 1) := by decide +kernel
theorem cd_M_line_9 : decode cb_M_line 9 = .ok (.aload_n 0, 1) := by decide +kernel
theorem cd_M_line_10 : decode cb_M_line 10 = .ok (.getfield 27, 3) := by decide +kernel
theorem cd_M_line_13 : decode cb_M_line 13 = .ok (.iload_n 1, 1) := by decide +kernel
theorem cd_M_line_14 : decode cb_M_line 14 = .ok (.iconst (-1), 1) := by decide +kernel
theorem cd_M_line_15 : decode cb_M_line 15 = .ok (.iastore, 1) := by decide +kernel
theorem cd_M_line_16 : decode cb_M_line 16 = .ok (.aload_n 0, 1) := by decide +kernel
theorem cd_M_line_17 : decode cb_M_line 17 = .ok (.getfield 30, 3) := by decide +kernel
theorem cd_M_line_20 : decode cb_M_line 20 = .ok (.iload_n 1, 1) := by decide +kernel
theorem cd_M_line_21 : decode cb_M_line 21 = .ok (.iconst (-1), 1) := by decide +kernel
theorem cd_M_line_22 : decode cb_M_line 22 = .ok (.iastore, 1) := by decide +kernel
theorem cd_M_line_23 : decode cb_M_line 23 = .ok (.aload_n 0, 1) := by decide +kernel
theorem cd_M_line_24 : decode cb_M_line 24 = .ok (.getfield 33, 3) := by decide +kernel
theorem cd_M_line_27 : decode cb_M_line 27 = .ok (.iload_n 1, 1) := by decide +kernel
theorem cd_M_line_28 : decode cb_M_line 28 = .ok (.iconst 0, 1) := by decide +kernel
theorem cd_M_line_29 : decode cb_M_line 29 = .ok (.iastore, 1) := by decide +kernel
theorem cd_M_line_30 : decode cb_M_line 30 = .ok (.aload_n 0, 1) := by decide +kernel
theorem cd_M_line_31 : decode cb_M_line 31 = .ok (.getfield 36, 3) := by decide +kernel
theorem cd_M_line_34 : decode cb_M_line 34 = .ok (.iload_n 1, 1) := by decide +kernel
theorem cd_M_line_35 : decode cb_M_line 35 = .ok (.iconst (-1), 1) := by decide +kernel
theorem cd_M_line_36 : decode cb_M_line 36 = .ok (.iastore, 1) := by decide +kernel
theorem cd_M_line_37 : decode cb_M_line 37 = .ok (.aload_n 0, 1) := by decide +kernel
theorem cd_M_line_38 : decode cb_M_line 38 = .ok (.getfield 39, 3) := by decide +kernel
theorem cd_M_line_41 : decode cb_M_line 41 = .ok (.iload_n 1, 1) := by decide +kernel
theorem cd_M_line_42 : decode cb_M_line 42 = .ok (.iconst (-1), 1) := by decide +kernel
theorem cd_M_line_43 : decode cb_M_line 43 = .ok (.iastore, 1) := by decide +kernel
theorem cd_M_line_44 : decode cb_M_line 44 = .ok (.aload_n 0, 1) := by decide +kernel
theorem cd_M_line_45 : decode cb_M_line 45 = .ok (.iload_n 1, 1) := by decide +kernel
theorem cd_M_line_46 : decode cb_M_line 46 = .ok (.invokevirtual 121, 3) := by decide +kernel
theorem cd_M_line_49 : decode cb_M_line 49 = .ok (.ifCond .eq 32, 3) := by decide +kernel
theorem cd_M_line_52 : decode cb_M_line 52 = .ok (.aload_n 0, 1) := by decide +kernel
theorem cd_M_line_53 : decode cb_M_line 53 = .ok (.aload_n 0, 1) := by decide +kernel
theorem cd_M_line_54 : decode cb_M_line 54 = .ok (.getfield 21, 3) := by decide +kernel
theorem cd_M_line_57 : decode cb_M_line 57 = .ok (.iload_n 1, 1) := by decide +kernel
theorem cd_M_line_58 : decode cb_M_line 58 = .ok (.invokevirtual 118, 3) := by decide +kernel
theorem cd_M_line_61 : decode cb_M_line 61 = .ok (.ifCond .eq 20, 3) := by decide +kernel
theorem cd_M_line_64 : decode cb_M_line 64 = .ok (.aload_n 0, 1) := by decide +kernel
theorem cd_M_line_65 : decode cb_M_line 65 = .ok (.bipush 32, 2) := by decide +kernel
theorem cd_M_line_67 : decode cb_M_line 67 = .ok (.invokevirtual 114, 3) := by decide +kernel
theorem cd_M_line_70 : decode cb_M_line 70 = .ok (.ifCond .eq 11, 3) := by decide +kernel
theorem cd_M_line_73 : decode cb_M_line 73 = .ok (.aload_n 0, 1) := by decide +kernel
theorem cd_M_line_74 : decode cb_M_line 74 = .ok (.iload_n 1, 1) := by decide +kernel
theorem cd_M_line_75 : decode cb_M_line 75 = .ok (.invokevirtual 124, 3) := by decide +kernel
theorem cd_M_line_78 : decode cb_M_line 78 = .ok (.ifCond .ne 5, 3) := by decide +kernel
theorem cd_M_line_81 : decode cb_M_line 81 = .ok (.iconst 0, 1) := by decide +kernel
theorem cd_M_line_82 : decode cb_M_line 82 = .ok (.ireturn, 1) := by decide +kernel
theorem cd_M_line_83 : decode cb_M_line 83 = .ok (.aload_n 0, 1) := by decide +kernel
theorem cd_M_line_84 : decode cb_M_line 84 = .ok (.bipush 32, 2) := by decide +kernel
theorem cd_M_line_86 : decode cb_M_line 86 = .ok (.invokevirtual 114, 3) := by decide +kernel
theorem cd_M_line_89 : decode cb_M_line 89 = .ok (.istore_n 2, 1) := by decide +kernel
theorem cd_M_line_90 : decode cb_M_line 90 = .ok (.iload_n 2, 1) := by decide +kernel
theorem cd_M_line_91 : decode cb_M_line 91 = .ok (.ifCond .eq 39, 3) := by decide +kernel
theorem cd_M_line_94 : decode cb_M_line 94 = .ok (.aload_n 0, 1) := by decide +kernel
theorem cd_M_line_95 : decode cb_M_line 95 = .ok (.invokevirtual 95, 3) := by decide +kernel
theorem cd_M_line_98 : decode cb_M_line 98 = .ok (.bipush 100, 2) := by decide +kernel
theorem cd_M_line_100 : decode cb_M_line 100 = .ok (.if_icmp .ne 30, 3) := by decide +kernel
theorem cd_M_line_103 : decode cb_M_line 103 = .ok (.aload_n 0, 1) := by decide +kernel
theorem cd_M_line_104 : decode cb_M_line 104 = .ok (.dup, 1) := by decide +kernel
theorem cd_M_line_105 : decode cb_M_line 105 = .ok (.getfield 92, 3) := by decide +kernel
theorem cd_M_line_108 : decode cb_M_line 108 = .ok (.iconst 1, 1) := by decide +kernel
theorem cd_M_line_109 : decode cb_M_line 109 = .ok (.iadd, 1) := by decide +kernel
theorem cd_M_line_110 : decode cb_M_line 110 = .ok (.putfield 92, 3) := by decide +kernel
theorem cd_M_line_113 : decode cb_M_line 113 = .ok (.aload_n 0, 1) := by decide +kernel
theorem cd_M_line_114 : decode cb_M_line 114 = .ok (.iload_n 1, 1) := by decide +kernel
theorem cd_M_line_115 : decode cb_M_line 115 = .ok (.invokevirtual 127, 3) := by decide +kernel
theorem cd_M_line_118 : decode cb_M_line 118 = .ok (.ifCond .ne 5, 3) := by decide +kernel
theorem cd_M_line_121 : decode cb_M_line 121 = .ok (.iconst 0, 1) := by decide +kernel
theorem cd_M_line_122 : decode cb_M_line 122 = .ok (.ireturn, 1) := by decide +kernel
theorem cd_M_line_123 : decode cb_M_line 123 = .ok (.aload_n 0, 1) := by decide +kernel
theorem cd_M_line_124 : decode cb_M_line 124 = .ok (.bipush 32, 2) := by decide +kernel
theorem cd_M_line_126 : decode cb_M_line 126 = .ok (.invokevirtual 114, 3) := by decide +kernel
theorem cd_M_line_129 : decode cb_M_line 129 = .ok (.istore_n 2, 1) := by decide +kernel
theorem cd_M_line_130 : decode cb_M_line 130 = .ok (.iload_n 2, 1) := by decide +kernel
theorem cd_M_line_131 : decode cb_M_line 131 = .ok (.ifCond .eq 22, 3) := by decide +kernel
theorem cd_M_line_134 : decode cb_M_line 134 = .ok (.aload_n 0, 1) := by decide +kernel
theorem cd_M_line_135 : decode cb_M_line 135 = .ok (.bipush 101, 2) := by decide +kernel
theorem cd_M_line_137 : decode cb_M_line 137 = .ok (.invokevirtual 114, 3) := by decide +kernel
theorem cd_M_line_140 : decode cb_M_line 140 = .ok (.ifCond .eq 11, 3) := by decide +kernel
theorem cd_M_line_143 : decode cb_M_line 143 = .ok (.aload_n 0, 1) := by decide +kernel
theorem cd_M_line_144 : decode cb_M_line 144 = .ok (.iload_n 1, 1) := by decide +kernel
theorem cd_M_line_145 : decode cb_M_line 145 = .ok (.invokevirtual 130, 3) := by decide +kernel
theorem cd_M_line_148 : decode cb_M_line 148 = .ok (.ifCond .ne 5, 3) := by decide +kernel
theorem cd_M_line_151 : decode cb_M_line 151 = .ok (.iconst 0, 1) := by decide +kernel
theorem cd_M_line_152 : decode cb_M_line 152 = .ok (.ireturn, 1) := by decide +kernel
theorem cd_M_line_153 : decode cb_M_line 153 = .ok (.aload_n 0, 1) := by decide +kernel
theorem cd_M_line_154 : decode cb_M_line 154 = .ok (.bipush 10, 2) := by decide +kernel
theorem cd_M_line_156 : decode cb_M_line 156 = .ok (.invokevirtual 114, 3) := by decide +kernel
theorem cd_M_line_159 : decode cb_M_line 159 = .ok (.ireturn, 1) := by decide +kernel
theorem cd_M_reads_0 : decode cb_M_reads 0 = .ok (.aload_n 0, 1) := by decide +kernel
theorem cd_M_reads_1 : decode cb_M_reads 1 = .ok (.iconst 0, 1) := by decide +kernel
theorem cd_M_reads_2 : decode cb_M_reads 2 = .ok (.putfield 133, 3) := by decide +kernel
theorem cd_M_reads_5 : decode cb_M_reads 5 = .ok (.aload_n 0, 1) := by decide +kernel
theorem cd_M_reads_6 : decode cb_M_reads 6 = .ok (.iconst 0, 1) := by decide +kernel
theorem cd_M_reads_7 : decode cb_M_reads 7 = .ok (.putfield 92, 3) := by decide +kernel
theorem cd_M_reads_10 : decode cb_M_reads 10 = .ok (.iconst 1, 1) := by decide +kernel
theorem cd_M_reads_11 : decode cb_M_reads 11 = .ok (.istore_n 1, 1) := by decide +kernel
theorem cd_M_reads_12 : decode cb_M_reads 12 = .ok (.iload_n 1, 1) := by decide +kernel
theorem cd_M_reads_13 : decode cb_M_reads 13 = .ok (.ifCond .eq 54, 3) := by decide +kernel
theorem cd_M_reads_16 : decode cb_M_reads 16 = .ok (.aload_n 0, 1) := by decide +kernel
theorem cd_M_reads_17 : decode cb_M_reads 17 = .ok (.getfield 92, 3) := by decide +kernel
theorem cd_M_reads_20 : decode cb_M_reads 20 = .ok (.aload_n 0, 1) := by decide +kernel
theorem cd_M_reads_21 : decode cb_M_reads 21 = .ok (.getfield 89, 3) := by decide +kernel
theorem cd_M_reads_24 : decode cb_M_reads 24 = .ok (.if_icmp .lt 10, 3) := by decide +kernel
theorem cd_M_reads_27 : decode cb_M_reads 27 = .ok (.aload_n 0, 1) := by decide +kernel
theorem cd_M_reads_28 : decode cb_M_reads 28 = .ok (.getfield 133, 3) := by decide +kernel
theorem cd_M_reads_31 : decode cb_M_reads 31 = .ok (.ifCond .ne 36, 3) := by decide +kernel
theorem cd_M_reads_34 : decode cb_M_reads 34 = .ok (.aload_n 0, 1) := by decide +kernel
theorem cd_M_reads_35 : decode cb_M_reads 35 = .ok (.bipush 100, 2) := by decide +kernel
theorem cd_M_reads_37 : decode cb_M_reads 37 = .ok (.aload_n 0, 1) := by decide +kernel
theorem cd_M_reads_38 : decode cb_M_reads 38 = .ok (.getfield 133, 3) := by decide +kernel
theorem cd_M_reads_41 : decode cb_M_reads 41 = .ok (.iadd, 1) := by decide +kernel
theorem cd_M_reads_42 : decode cb_M_reads 42 = .ok (.invokevirtual 136, 3) := by decide +kernel
theorem cd_M_reads_45 : decode cb_M_reads 45 = .ok (.istore_n 1, 1) := by decide +kernel
theorem cd_M_reads_46 : decode cb_M_reads 46 = .ok (.aload_n 0, 1) := by decide +kernel
theorem cd_M_reads_47 : decode cb_M_reads 47 = .ok (.dup, 1) := by decide +kernel
theorem cd_M_reads_48 : decode cb_M_reads 48 = .ok (.getfield 133, 3) := by decide +kernel
theorem cd_M_reads_51 : decode cb_M_reads 51 = .ok (.iload_n 1, 1) := by decide +kernel
theorem cd_M_reads_52 : decode cb_M_reads 52 = .ok (.ifCond .eq 7, 3) := by decide +kernel
theorem cd_M_reads_55 : decode cb_M_reads 55 = .ok (.iconst 1, 1) := by decide +kernel
theorem cd_M_reads_56 : decode cb_M_reads 56 = .ok (.goto 4, 3) := by decide +kernel
theorem cd_M_reads_59 : decode cb_M_reads 59 = .ok (.iconst 0, 1) := by decide +kernel
theorem cd_M_reads_60 : decode cb_M_reads 60 = .ok (.iadd, 1) := by decide +kernel
theorem cd_M_reads_61 : decode cb_M_reads 61 = .ok (.putfield 133, 3) := by decide +kernel
theorem cd_M_reads_64 : decode cb_M_reads 64 = .ok (.goto (-52), 3) := by decide +kernel
theorem cd_M_reads_67 : decode cb_M_reads 67 = .ok (.aload_n 0, 1) := by decide +kernel
theorem cd_M_reads_68 : decode cb_M_reads 68 = .ok (.iload_n 1, 1) := by decide +kernel
theorem cd_M_reads_69 : decode cb_M_reads 69 = .ok (.ifCond .eq 7, 3) := by decide +kernel
theorem cd_M_reads_72 : decode cb_M_reads 72 = .ok (.iconst (-1), 1) := by decide +kernel
theorem cd_M_reads_73 : decode cb_M_reads 73 = .ok (.goto 7, 3) := by decide +kernel
theorem cd_M_reads_76 : decode cb_M_reads 76 = .ok (.aload_n 0, 1) := by decide +kernel
theorem cd_M_reads_77 : decode cb_M_reads 77 = .ok (.getfield 92, 3) := by decide +kernel
theorem cd_M_reads_80 : decode cb_M_reads 80 = .ok (.putfield 13, 3) := by decide +kernel
theorem cd_M_reads_83 : decode cb_M_reads 83 = .ok (.aload_n 0, 1) := by decide +kernel
theorem cd_M_reads_84 : decode cb_M_reads 84 = .ok (.iconst 0, 1) := by decide +kernel
theorem cd_M_reads_85 : decode cb_M_reads 85 = .ok (.putfield 89, 3) := by decide +kernel
theorem cd_M_reads_88 : decode cb_M_reads 88 = .ok (.iload_n 1, 1) := by decide +kernel
theorem cd_M_reads_89 : decode cb_M_reads 89 = .ok (.ireturn, 1) := by decide +kernel
theorem cd_M_copy_0 : decode cb_M_copy 0 = .ok (.aload_n 0, 1) := by decide +kernel
theorem cd_M_copy_1 : decode cb_M_copy 1 = .ok (.getfield 27, 3) := by decide +kernel
theorem cd_M_copy_4 : decode cb_M_copy 4 = .ok (.iload_n 1, 1) := by decide +kernel
theorem cd_M_copy_5 : decode cb_M_copy 5 = .ok (.aload_n 0, 1) := by decide +kernel
theorem cd_M_copy_6 : decode cb_M_copy 6 = .ok (.getfield 27, 3) := by decide +kernel
theorem cd_M_copy_9 : decode cb_M_copy 9 = .ok (.iload_n 2, 1) := by decide +kernel
theorem cd_M_copy_10 : decode cb_M_copy 10 = .ok (.iaload, 1) := by decide +kernel
theorem cd_M_copy_11 : decode cb_M_copy 11 = .ok (.iastore, 1) := by decide +kernel
theorem cd_M_copy_12 : decode cb_M_copy 12 = .ok (.aload_n 0, 1) := by decide +kernel
theorem cd_M_copy_13 : decode cb_M_copy 13 = .ok (.getfield 30, 3) := by decide +kernel
theorem cd_M_copy_16 : decode cb_M_copy 16 = .ok (.iload_n 1, 1) := by decide +kernel
theorem cd_M_copy_17 : decode cb_M_copy 17 = .ok (.aload_n 0, 1) := by decide +kernel
theorem cd_M_copy_18 : decode cb_M_copy 18 = .ok (.getfield 30, 3) := by decide +kernel
theorem cd_M_copy_21 : decode cb_M_copy 21 = .ok (.iload_n 2, 1) := by decide +kernel
theorem cd_M_copy_22 : decode cb_M_copy 22 = .ok (.iaload, 1) := by decide +kernel
theorem cd_M_copy_23 : decode cb_M_copy 23 = .ok (.iastore, 1) := by decide +kernel
theorem cd_M_copy_24 : decode cb_M_copy 24 = .ok (.aload_n 0, 1) := by decide +kernel
theorem cd_M_copy_25 : decode cb_M_copy 25 = .ok (.getfield 33, 3) := by decide +kernel
theorem cd_M_copy_28 : decode cb_M_copy 28 = .ok (.iload_n 1, 1) := by decide +kernel
theorem cd_M_copy_29 : decode cb_M_copy 29 = .ok (.aload_n 0, 1) := by decide +kernel
theorem cd_M_copy_30 : decode cb_M_copy 30 = .ok (.getfield 33, 3) := by decide +kernel
theorem cd_M_copy_33 : decode cb_M_copy 33 = .ok (.iload_n 2, 1) := by decide +kernel
theorem cd_M_copy_34 : decode cb_M_copy 34 = .ok (.iaload, 1) := by decide +kernel
theorem cd_M_copy_35 : decode cb_M_copy 35 = .ok (.iastore, 1) := by decide +kernel
theorem cd_M_copy_36 : decode cb_M_copy 36 = .ok (.aload_n 0, 1) := by decide +kernel
theorem cd_M_copy_37 : decode cb_M_copy 37 = .ok (.getfield 36, 3) := by decide +kernel
theorem cd_M_copy_40 : decode cb_M_copy 40 = .ok (.iload_n 1, 1) := by decide +kernel
theorem cd_M_copy_41 : decode cb_M_copy 41 = .ok (.aload_n 0, 1) := by decide +kernel
theorem cd_M_copy_42 : decode cb_M_copy 42 = .ok (.getfield 36, 3) := by decide +kernel
theorem cd_M_copy_45 : decode cb_M_copy 45 = .ok (.iload_n 2, 1) := by decide +kernel
theorem cd_M_copy_46 : decode cb_M_copy 46 = .ok (.iaload, 1) := by decide +kernel
theorem cd_M_copy_47 : decode cb_M_copy 47 = .ok (.iastore, 1) := by decide +kernel
theorem cd_M_copy_48 : decode cb_M_copy 48 = .ok (.aload_n 0, 1) := by decide +kernel
theorem cd_M_copy_49 : decode cb_M_copy 49 = .ok (.getfield 39, 3) := by decide +kernel
theorem cd_M_copy_52 : decode cb_M_copy 52 = .ok (.iload_n 1, 1) := by decide +kernel
theorem cd_M_copy_53 : decode cb_M_copy 53 = .ok (.aload_n 0, 1) := by decide +kernel
theorem cd_M_copy_54 : decode cb_M_copy 54 = .ok (.getfield 39, 3) := by decide +kernel
theorem cd_M_copy_57 : decode cb_M_copy 57 = .ok (.iload_n 2, 1) := by decide +kernel
theorem cd_M_copy_58 : decode cb_M_copy 58 = .ok (.iaload, 1) := by decide +kernel
theorem cd_M_copy_59 : decode cb_M_copy 59 = .ok (.iastore, 1) := by decide +kernel
theorem cd_M_copy_60 : decode cb_M_copy 60 = .ok (.aload_n 0, 1) := by decide +kernel
theorem cd_M_copy_61 : decode cb_M_copy 61 = .ok (.getfield 42, 3) := by decide +kernel
theorem cd_M_copy_64 : decode cb_M_copy 64 = .ok (.iload_n 1, 1) := by decide +kernel
theorem cd_M_copy_65 : decode cb_M_copy 65 = .ok (.aload_n 0, 1) := by decide +kernel
theorem cd_M_copy_66 : decode cb_M_copy 66 = .ok (.getfield 42, 3) := by decide +kernel
theorem cd_M_copy_69 : decode cb_M_copy 69 = .ok (.iload_n 2, 1) := by decide +kernel
theorem cd_M_copy_70 : decode cb_M_copy 70 = .ok (.iaload, 1) := by decide +kernel
theorem cd_M_copy_71 : decode cb_M_copy 71 = .ok (.iastore, 1) := by decide +kernel
theorem cd_M_copy_72 : decode cb_M_copy 72 = .ok (.iconst 0, 1) := by decide +kernel
theorem cd_M_copy_73 : decode cb_M_copy 73 = .ok (.istore 4, 2) := by decide +kernel
theorem cd_M_copy_75 : decode cb_M_copy 75 = .ok (.iload 4, 2) := by decide +kernel
theorem cd_M_copy_77 : decode cb_M_copy 77 = .ok (.bipush 16, 2) := by decide +kernel
theorem cd_M_copy_79 : decode cb_M_copy 79 = .ok (.if_icmp .ge 33, 3) := by decide +kernel
theorem cd_M_copy_82 : decode cb_M_copy 82 = .ok (.aload_n 0, 1) := by decide +kernel
theorem cd_M_copy_83 : decode cb_M_copy 83 = .ok (.getfield 45, 3) := by decide +kernel
theorem cd_M_copy_86 : decode cb_M_copy 86 = .ok (.bipush 16, 2) := by decide +kernel
theorem cd_M_copy_88 : decode cb_M_copy 88 = .ok (.iload_n 1, 1) := by decide +kernel
theorem cd_M_copy_89 : decode cb_M_copy 89 = .ok (.imul, 1) := by decide +kernel
theorem cd_M_copy_90 : decode cb_M_copy 90 = .ok (.iload 4, 2) := by decide +kernel
theorem cd_M_copy_92 : decode cb_M_copy 92 = .ok (.iadd, 1) := by decide +kernel
theorem cd_M_copy_93 : decode cb_M_copy 93 = .ok (.aload_n 0, 1) := by decide +kernel
theorem cd_M_copy_94 : decode cb_M_copy 94 = .ok (.getfield 45, 3) := by decide +kernel
theorem cd_M_copy_97 : decode cb_M_copy 97 = .ok (.bipush 16, 2) := by decide +kernel
theorem cd_M_copy_99 : decode cb_M_copy 99 = .ok (.iload_n 2, 1) := by decide +kernel
theorem cd_M_copy_100 : decode cb_M_copy 100 = .ok (.imul, 1) := by decide +kernel
theorem cd_M_copy_101 : decode cb_M_copy 101 = .ok (.iload 4, 2) := by decide +kernel
theorem cd_M_copy_103 : decode cb_M_copy 103 = .ok (.iadd, 1) := by decide +kernel
theorem cd_M_copy_104 : decode cb_M_copy 104 = .ok (.baload, 1) := by decide +kernel
theorem cd_M_copy_105 : decode cb_M_copy 105 = .ok (.bastore, 1) := by decide +kernel
theorem cd_M_copy_106 : decode cb_M_copy 106 = .ok (.iinc 4 1, 3) := by decide +kernel
theorem cd_M_copy_109 : decode cb_M_copy 109 = .ok (.goto (-34), 3) := by decide +kernel
theorem cd_M_copy_112 : decode cb_M_copy 112 = .ok (.iload_n 3, 1) := by decide +kernel
theorem cd_M_copy_113 : decode cb_M_copy 113 = .ok (.ifCond .ne 4, 3) := by decide +kernel
theorem cd_M_copy_116 : decode cb_M_copy 116 = .ok (.return_, 1) := by decide +kernel
theorem cd_M_copy_117 : decode cb_M_copy 117 = .ok (.aload_n 0, 1) := by decide +kernel
theorem cd_M_copy_118 : decode cb_M_copy 118 = .ok (.getfield 17, 3) := by decide +kernel
theorem cd_M_copy_121 : decode cb_M_copy 121 = .ok (.iload_n 1, 1) := by decide +kernel
theorem cd_M_copy_122 : decode cb_M_copy 122 = .ok (.aload_n 0, 1) := by decide +kernel
theorem cd_M_copy_123 : decode cb_M_copy 123 = .ok (.getfield 17, 3) := by decide +kernel
theorem cd_M_copy_126 : decode cb_M_copy 126 = .ok (.iload_n 2, 1) := by decide +kernel
theorem cd_M_copy_127 : decode cb_M_copy 127 = .ok (.iaload, 1) := by decide +kernel
theorem cd_M_copy_128 : decode cb_M_copy 128 = .ok (.iastore, 1) := by decide +kernel
theorem cd_M_copy_129 : decode cb_M_copy 129 = .ok (.aload_n 0, 1) := by decide +kernel
theorem cd_M_copy_130 : decode cb_M_copy 130 = .ok (.getfield 21, 3) := by decide +kernel
theorem cd_M_copy_133 : decode cb_M_copy 133 = .ok (.iload_n 1, 1) := by decide +kernel
theorem cd_M_copy_134 : decode cb_M_copy 134 = .ok (.aload_n 0, 1) := by decide +kernel
theorem cd_M_copy_135 : decode cb_M_copy 135 = .ok (.getfield 21, 3) := by decide +kernel
theorem cd_M_copy_138 : decode cb_M_copy 138 = .ok (.iload_n 2, 1) := by decide +kernel
theorem cd_M_copy_139 : decode cb_M_copy 139 = .ok (.iaload, 1) := by decide +kernel
theorem cd_M_copy_140 : decode cb_M_copy 140 = .ok (.iastore, 1) := by decide +kernel
theorem cd_M_copy_141 : decode cb_M_copy 141 = .ok (.aload_n 0, 1) := by decide +kernel
theorem cd_M_copy_142 : decode cb_M_copy 142 = .ok (.getfield 24, 3) := by decide +kernel
theorem cd_M_copy_145 : decode cb_M_copy 145 = .ok (.iload_n 1, 1) := by decide +kernel
theorem cd_M_copy_146 : decode cb_M_copy 146 = .ok (.aload_n 0, 1) := by decide +kernel
theorem cd_M_copy_147 : decode cb_M_copy 147 = .ok (.getfield 24, 3) := by decide +kernel
theorem cd_M_copy_150 : decode cb_M_copy 150 = .ok (.iload_n 2, 1) := by decide +kernel
theorem cd_M_copy_151 : decode cb_M_copy 151 = .ok (.iaload, 1) := by decide +kernel
theorem cd_M_copy_152 : decode cb_M_copy 152 = .ok (.ifCond .ge 7, 3) := by decide +kernel
theorem cd_M_copy_155 : decode cb_M_copy 155 = .ok (.iconst (-1), 1) := by decide +kernel
theorem cd_M_copy_156 : decode cb_M_copy 156 = .ok (.goto 12, 3) := by decide +kernel
theorem cd_M_copy_159 : decode cb_M_copy 159 = .ok (.aload_n 0, 1) := by decide +kernel
theorem cd_M_copy_160 : decode cb_M_copy 160 = .ok (.getfield 24, 3) := by decide +kernel
theorem cd_M_copy_163 : decode cb_M_copy 163 = .ok (.iload_n 2, 1) := by decide +kernel
theorem cd_M_copy_164 : decode cb_M_copy 164 = .ok (.iaload, 1) := by decide +kernel
theorem cd_M_copy_165 : decode cb_M_copy 165 = .ok (.bipush 100, 2) := by decide +kernel
theorem cd_M_copy_167 : decode cb_M_copy 167 = .ok (.isub, 1) := by decide +kernel
theorem cd_M_copy_168 : decode cb_M_copy 168 = .ok (.iastore, 1) := by decide +kernel
theorem cd_M_copy_169 : decode cb_M_copy 169 = .ok (.return_, 1) := by decide +kernel
theorem cd_M_read_0 : decode cb_M_read 0 = .ok (.aload_n 0, 1) := by decide +kernel
theorem cd_M_read_1 : decode cb_M_read 1 = .ok (.aload_n 0, 1) := by decide +kernel
theorem cd_M_read_2 : decode cb_M_read 2 = .ok (.invokevirtual 139, 3) := by decide +kernel
theorem cd_M_read_5 : decode cb_M_read 5 = .ok (.ifCond .eq 7, 3) := by decide +kernel
theorem cd_M_read_8 : decode cb_M_read 8 = .ok (.iconst 0, 1) := by decide +kernel
theorem cd_M_read_9 : decode cb_M_read 9 = .ok (.goto 4, 3) := by decide +kernel
theorem cd_M_read_12 : decode cb_M_read 12 = .ok (.iconst 1, 1) := by decide +kernel
theorem cd_M_read_13 : decode cb_M_read 13 = .ok (.putfield 79, 3) := by decide +kernel
theorem cd_M_read_16 : decode cb_M_read 16 = .ok (.aload_n 0, 1) := by decide +kernel
theorem cd_M_read_17 : decode cb_M_read 17 = .ok (.getfield 79, 3) := by decide +kernel
theorem cd_M_read_20 : decode cb_M_read 20 = .ok (.ifCond .le 5, 3) := by decide +kernel
theorem cd_M_read_23 : decode cb_M_read 23 = .ok (.iconst 0, 1) := by decide +kernel
theorem cd_M_read_24 : decode cb_M_read 24 = .ok (.ireturn, 1) := by decide +kernel
theorem cd_M_read_25 : decode cb_M_read 25 = .ok (.aload_n 0, 1) := by decide +kernel
theorem cd_M_read_26 : decode cb_M_read 26 = .ok (.aload_n 0, 1) := by decide +kernel
theorem cd_M_read_27 : decode cb_M_read 27 = .ok (.getfield 133, 3) := by decide +kernel
theorem cd_M_read_30 : decode cb_M_read 30 = .ok (.putfield 82, 3) := by decide +kernel
theorem cd_M_read_33 : decode cb_M_read 33 = .ok (.aload_n 0, 1) := by decide +kernel
theorem cd_M_read_34 : decode cb_M_read 34 = .ok (.iconst 0, 1) := by decide +kernel
theorem cd_M_read_35 : decode cb_M_read 35 = .ok (.putfield 142, 3) := by decide +kernel
theorem cd_M_read_38 : decode cb_M_read 38 = .ok (.iconst 0, 1) := by decide +kernel
theorem cd_M_read_39 : decode cb_M_read 39 = .ok (.istore_n 1, 1) := by decide +kernel
theorem cd_M_read_40 : decode cb_M_read 40 = .ok (.iload_n 1, 1) := by decide +kernel
theorem cd_M_read_41 : decode cb_M_read 41 = .ok (.bipush 100, 2) := by decide +kernel
theorem cd_M_read_43 : decode cb_M_read 43 = .ok (.if_icmp .ge 64, 3) := by decide +kernel
theorem cd_M_read_46 : decode cb_M_read 46 = .ok (.aload_n 0, 1) := by decide +kernel
theorem cd_M_read_47 : decode cb_M_read 47 = .ok (.iload_n 1, 1) := by decide +kernel
theorem cd_M_read_48 : decode cb_M_read 48 = .ok (.bipush 100, 2) := by decide +kernel
theorem cd_M_read_50 : decode cb_M_read 50 = .ok (.iload_n 1, 1) := by decide +kernel
theorem cd_M_read_51 : decode cb_M_read 51 = .ok (.iadd, 1) := by decide +kernel
theorem cd_M_read_52 : decode cb_M_read 52 = .ok (.iconst 1, 1) := by decide +kernel
theorem cd_M_read_53 : decode cb_M_read 53 = .ok (.invokevirtual 146, 3) := by decide +kernel
theorem cd_M_read_56 : decode cb_M_read 56 = .ok (.iconst 0, 1) := by decide +kernel
theorem cd_M_read_57 : decode cb_M_read 57 = .ok (.istore_n 2, 1) := by decide +kernel
theorem cd_M_read_58 : decode cb_M_read 58 = .ok (.iload_n 2, 1) := by decide +kernel
theorem cd_M_read_59 : decode cb_M_read 59 = .ok (.iconst 4, 1) := by decide +kernel
theorem cd_M_read_60 : decode cb_M_read 60 = .ok (.if_icmp .ge 20, 3) := by decide +kernel
theorem cd_M_read_63 : decode cb_M_read 63 = .ok (.aload_n 0, 1) := by decide +kernel
theorem cd_M_read_64 : decode cb_M_read 64 = .ok (.getfield 48, 3) := by decide +kernel
theorem cd_M_read_67 : decode cb_M_read 67 = .ok (.iconst 4, 1) := by decide +kernel
theorem cd_M_read_68 : decode cb_M_read 68 = .ok (.iload_n 1, 1) := by decide +kernel
theorem cd_M_read_69 : decode cb_M_read 69 = .ok (.imul, 1) := by decide +kernel
theorem cd_M_read_70 : decode cb_M_read 70 = .ok (.iload_n 2, 1) := by decide +kernel
theorem cd_M_read_71 : decode cb_M_read 71 = .ok (.iadd, 1) := by decide +kernel
theorem cd_M_read_72 : decode cb_M_read 72 = .ok (.iconst 0, 1) := by decide +kernel
theorem cd_M_read_73 : decode cb_M_read 73 = .ok (.iastore, 1) := by decide +kernel
theorem cd_M_read_74 : decode cb_M_read 74 = .ok (.iinc 2 1, 3) := by decide +kernel
theorem cd_M_read_77 : decode cb_M_read 77 = .ok (.goto (-19), 3) := by decide +kernel
theorem cd_M_read_80 : decode cb_M_read 80 = .ok (.aload_n 0, 1) := by decide +kernel
theorem cd_M_read_81 : decode cb_M_read 81 = .ok (.getfield 54, 3) := by decide +kernel
theorem cd_M_read_84 : decode cb_M_read 84 = .ok (.iload_n 1, 1) := by decide +kernel
theorem cd_M_read_85 : decode cb_M_read 85 = .ok (.iconst 0, 1) := by decide +kernel
theorem cd_M_read_86 : decode cb_M_read 86 = .ok (.iastore, 1) := by decide +kernel
theorem cd_M_read_87 : decode cb_M_read 87 = .ok (.aload_n 0, 1) := by decide +kernel
theorem cd_M_read_88 : decode cb_M_read 88 = .ok (.getfield 60, 3) := by decide +kernel
theorem cd_M_read_91 : decode cb_M_read 91 = .ok (.iload_n 1, 1) := by decide +kernel
theorem cd_M_read_92 : decode cb_M_read 92 = .ok (.iconst 0, 1) := by decide +kernel
theorem cd_M_read_93 : decode cb_M_read 93 = .ok (.iastore, 1) := by decide +kernel
theorem cd_M_read_94 : decode cb_M_read 94 = .ok (.aload_n 0, 1) := by decide +kernel
theorem cd_M_read_95 : decode cb_M_read 95 = .ok (.getfield 63, 3) := by decide +kernel
theorem cd_M_read_98 : decode cb_M_read 98 = .ok (.iload_n 1, 1) := by decide +kernel
theorem cd_M_read_99 : decode cb_M_read 99 = .ok (.iconst 0, 1) := by decide +kernel
theorem cd_M_read_100 : decode cb_M_read 100 = .ok (.bastore, 1) := by decide +kernel
theorem cd_M_read_101 : decode cb_M_read 101 = .ok (.iinc 1 1, 3) := by decide +kernel
theorem cd_M_read_104 : decode cb_M_read 104 = .ok (.goto (-64), 3) := by decide +kernel
theorem cd_M_read_107 : decode cb_M_read 107 = .ok (.aload_n 0, 1) := by decide +kernel
theorem cd_M_read_108 : decode cb_M_read 108 = .ok (.getfield 82, 3) := by decide +kernel
theorem cd_M_read_111 : decode cb_M_read 111 = .ok (.ireturn, 1) := by decide +kernel
theorem cd_M_place__0 : decode cb_M_place_ 0 = .ok (.aload_n 0, 1) := by decide +kernel
theorem cd_M_place__1 : decode cb_M_place_ 1 = .ok (.iconst 0, 1) := by decide +kernel
theorem cd_M_place__2 : decode cb_M_place_ 2 = .ok (.putfield 79, 3) := by decide +kernel
theorem cd_M_place__5 : decode cb_M_place_ 5 = .ok (.aload_n 0, 1) := by decide +kernel
theorem cd_M_place__6 : decode cb_M_place_ 6 = .ok (.getfield 13, 3) := by decide +kernel
theorem cd_M_place__9 : decode cb_M_place_ 9 = .ok (.ireturn, 1) := by decide +kernel
theorem cd_M_level_0 : decode cb_M_level 0 = .ok (.aload_n 0, 1) := by decide +kernel
theorem cd_M_level_1 : decode cb_M_level 1 = .ok (.iconst 0, 1) := by decide +kernel
theorem cd_M_level_2 : decode cb_M_level 2 = .ok (.putfield 79, 3) := by decide +kernel
theorem cd_M_level_5 : decode cb_M_level 5 = .ok (.aload_n 0, 1) := by decide +kernel
theorem cd_M_level_6 : decode cb_M_level 6 = .ok (.iload_n 1, 1) := by decide +kernel
theorem cd_M_level_7 : decode cb_M_level 7 = .ok (.invokevirtual 150, 3) := by decide +kernel
theorem cd_M_level_10 : decode cb_M_level 10 = .ok (.ifCond .ne 5, 3) := by decide +kernel
theorem cd_M_level_13 : decode cb_M_level 13 = .ok (.iconst (-1), 1) := by decide +kernel
theorem cd_M_level_14 : decode cb_M_level 14 = .ok (.ireturn, 1) := by decide +kernel
theorem cd_M_level_15 : decode cb_M_level 15 = .ok (.iload_n 2, 1) := by decide +kernel
theorem cd_M_level_16 : decode cb_M_level 16 = .ok (.tableswitch 125 0 9 #[56, 63, 70, 77, 83, 90, 97, 104, 111, 118], 56) := by decide +kernel
theorem cd_M_level_72 : decode cb_M_level 72 = .ok (.aload_n 0, 1) := by decide +kernel
theorem cd_M_level_73 : decode cb_M_level 73 = .ok (.getfield 17, 3) := by decide +kernel
theorem cd_M_level_76 : decode cb_M_level 76 = .ok (.iload_n 1, 1) := by decide +kernel
theorem cd_M_level_77 : decode cb_M_level 77 = .ok (.iaload, 1) := by decide +kernel
theorem cd_M_level_78 : decode cb_M_level 78 = .ok (.ireturn, 1) := by decide +kernel
theorem cd_M_level_79 : decode cb_M_level 79 = .ok (.aload_n 0, 1) := by decide +kernel
theorem cd_M_level_80 : decode cb_M_level 80 = .ok (.getfield 21, 3) := by decide +kernel
theorem cd_M_level_83 : decode cb_M_level 83 = .ok (.iload_n 1, 1) := by decide +kernel
theorem cd_M_level_84 : decode cb_M_level 84 = .ok (.iaload, 1) := by decide +kernel
theorem cd_M_level_85 : decode cb_M_level 85 = .ok (.ireturn, 1) := by decide +kernel
theorem cd_M_level_86 : decode cb_M_level 86 = .ok (.aload_n 0, 1) := by decide +kernel
theorem cd_M_level_87 : decode cb_M_level 87 = .ok (.getfield 24, 3) := by decide +kernel
theorem cd_M_level_90 : decode cb_M_level 90 = .ok (.iload_n 1, 1) := by decide +kernel
theorem cd_M_level_91 : decode cb_M_level 91 = .ok (.iaload, 1) := by decide +kernel
theorem cd_M_level_92 : decode cb_M_level 92 = .ok (.ireturn, 1) := by decide +kernel
theorem cd_M_level_93 : decode cb_M_level 93 = .ok (.aload_n 0, 1) := by decide +kernel
theorem cd_M_level_94 : decode cb_M_level 94 = .ok (.iload_n 1, 1) := by decide +kernel
theorem cd_M_level_95 : decode cb_M_level 95 = .ok (.invokevirtual 103, 3) := by decide +kernel
theorem cd_M_level_98 : decode cb_M_level 98 = .ok (.ireturn, 1) := by decide +kernel
theorem cd_M_level_99 : decode cb_M_level 99 = .ok (.aload_n 0, 1) := by decide +kernel
theorem cd_M_level_100 : decode cb_M_level 100 = .ok (.getfield 27, 3) := by decide +kernel
theorem cd_M_level_103 : decode cb_M_level 103 = .ok (.iload_n 1, 1) := by decide +kernel
theorem cd_M_level_104 : decode cb_M_level 104 = .ok (.iaload, 1) := by decide +kernel
theorem cd_M_level_105 : decode cb_M_level 105 = .ok (.ireturn, 1) := by decide +kernel
theorem cd_M_level_106 : decode cb_M_level 106 = .ok (.aload_n 0, 1) := by decide +kernel
theorem cd_M_level_107 : decode cb_M_level 107 = .ok (.getfield 30, 3) := by decide +kernel
theorem cd_M_level_110 : decode cb_M_level 110 = .ok (.iload_n 1, 1) := by decide +kernel
theorem cd_M_level_111 : decode cb_M_level 111 = .ok (.iaload, 1) := by decide +kernel
theorem cd_M_level_112 : decode cb_M_level 112 = .ok (.ireturn, 1) := by decide +kernel
theorem cd_M_level_113 : decode cb_M_level 113 = .ok (.aload_n 0, 1) := by decide +kernel
theorem cd_M_level_114 : decode cb_M_level 114 = .ok (.getfield 33, 3) := by decide +kernel
theorem cd_M_level_117 : decode cb_M_level 117 = .ok (.iload_n 1, 1) := by decide +kernel
theorem cd_M_level_118 : decode cb_M_level 118 = .ok (.iaload, 1) := by decide +kernel
theorem cd_M_level_119 : decode cb_M_level 119 = .ok (.ireturn, 1) := by decide +kernel
theorem cd_M_level_120 : decode cb_M_level 120 = .ok (.aload_n 0, 1) := by decide +kernel
theorem cd_M_level_121 : decode cb_M_level 121 = .ok (.getfield 36, 3) := by decide +kernel
theorem cd_M_level_124 : decode cb_M_level 124 = .ok (.iload_n 1, 1) := by decide +kernel
theorem cd_M_level_125 : decode cb_M_level 125 = .ok (.iaload, 1) := by decide +kernel
theorem cd_M_level_126 : decode cb_M_level 126 = .ok (.ireturn, 1) := by decide +kernel
theorem cd_M_level_127 : decode cb_M_level 127 = .ok (.aload_n 0, 1) := by decide +kernel
theorem cd_M_level_128 : decode cb_M_level 128 = .ok (.getfield 39, 3) := by decide +kernel
theorem cd_M_level_131 : decode cb_M_level 131 = .ok (.iload_n 1, 1) := by decide +kernel
theorem cd_M_level_132 : decode cb_M_level 132 = .ok (.iaload, 1) := by decide +kernel
theorem cd_M_level_133 : decode cb_M_level 133 = .ok (.ireturn, 1) := by decide +kernel
theorem cd_M_level_134 : decode cb_M_level 134 = .ok (.aload_n 0, 1) := by decide +kernel
theorem cd_M_level_135 : decode cb_M_level 135 = .ok (.getfield 42, 3) := by decide +kernel
theorem cd_M_level_138 : decode cb_M_level 138 = .ok (.iload_n 1, 1) := by decide +kernel
theorem cd_M_level_139 : decode cb_M_level 139 = .ok (.iaload, 1) := by decide +kernel
theorem cd_M_level_140 : decode cb_M_level 140 = .ok (.ireturn, 1) := by decide +kernel
theorem cd_M_level_141 : decode cb_M_level 141 = .ok (.iconst (-1), 1) := by decide +kernel
theorem cd_M_level_142 : decode cb_M_level 142 = .ok (.ireturn, 1) := by decide +kernel
theorem cd_M_letter_0 : decode cb_M_letter 0 = .ok (.aload_n 0, 1) := by decide +kernel
theorem cd_M_letter_1 : decode cb_M_letter 1 = .ok (.iconst 0, 1) := by decide +kernel
theorem cd_M_letter_2 : decode cb_M_letter 2 = .ok (.putfield 79, 3) := by decide +kernel
theorem cd_M_letter_5 : decode cb_M_letter 5 = .ok (.aload_n 0, 1) := by decide +kernel
theorem cd_M_letter_6 : decode cb_M_letter 6 = .ok (.iload_n 1, 1) := by decide +kernel
theorem cd_M_letter_7 : decode cb_M_letter 7 = .ok (.invokevirtual 150, 3) := by decide +kernel
theorem cd_M_letter_10 : decode cb_M_letter 10 = .ok (.ifCond .eq 33, 3) := by decide +kernel
theorem cd_M_letter_13 : decode cb_M_letter 13 = .ok (.iload_n 2, 1) := by decide +kernel
theorem cd_M_letter_14 : decode cb_M_letter 14 = .ok (.iconst 0, 1) := by decide +kernel
theorem cd_M_letter_15 : decode cb_M_letter 15 = .ok (.aload_n 0, 1) := by decide +kernel
theorem cd_M_letter_16 : decode cb_M_letter 16 = .ok (.getfield 42, 3) := by decide +kernel
theorem cd_M_letter_19 : decode cb_M_letter 19 = .ok (.iload_n 1, 1) := by decide +kernel
theorem cd_M_letter_20 : decode cb_M_letter 20 = .ok (.iaload, 1) := by decide +kernel
theorem cd_M_letter_21 : decode cb_M_letter 21 = .ok (.iconst 1, 1) := by decide +kernel
theorem cd_M_letter_22 : decode cb_M_letter 22 = .ok (.isub, 1) := by decide +kernel
theorem cd_M_letter_23 : decode cb_M_letter 23 = .ok (.invokestatic 85, 3) := by decide +kernel
theorem cd_M_letter_26 : decode cb_M_letter 26 = .ok (.ifCond .eq 17, 3) := by decide +kernel
theorem cd_M_letter_29 : decode cb_M_letter 29 = .ok (.aload_n 0, 1) := by decide +kernel
theorem cd_M_letter_30 : decode cb_M_letter 30 = .ok (.getfield 45, 3) := by decide +kernel
theorem cd_M_letter_33 : decode cb_M_letter 33 = .ok (.bipush 16, 2) := by decide +kernel
theorem cd_M_letter_35 : decode cb_M_letter 35 = .ok (.iload_n 1, 1) := by decide +kernel
theorem cd_M_letter_36 : decode cb_M_letter 36 = .ok (.imul, 1) := by decide +kernel
theorem cd_M_letter_37 : decode cb_M_letter 37 = .ok (.iload_n 2, 1) := by decide +kernel
theorem cd_M_letter_38 : decode cb_M_letter 38 = .ok (.iadd, 1) := by decide +kernel
theorem cd_M_letter_39 : decode cb_M_letter 39 = .ok (.baload, 1) := by decide +kernel
theorem cd_M_letter_40 : decode cb_M_letter 40 = .ok (.goto 4, 3) := by decide +kernel
theorem cd_M_letter_43 : decode cb_M_letter 43 = .ok (.iconst (-1), 1) := by decide +kernel
theorem cd_M_letter_44 : decode cb_M_letter 44 = .ok (.ireturn, 1) := by decide +kernel
theorem cd_M_compare_0 : decode cb_M_compare 0 = .ok (.aload_n 0, 1) := by decide +kernel
theorem cd_M_compare_1 : decode cb_M_compare 1 = .ok (.iconst 0, 1) := by decide +kernel
theorem cd_M_compare_2 : decode cb_M_compare 2 = .ok (.putfield 79, 3) := by decide +kernel
theorem cd_M_compare_5 : decode cb_M_compare 5 = .ok (.aload_n 0, 1) := by decide +kernel
theorem cd_M_compare_6 : decode cb_M_compare 6 = .ok (.iload_n 1, 1) := by decide +kernel
theorem cd_M_compare_7 : decode cb_M_compare 7 = .ok (.invokevirtual 150, 3) := by decide +kernel
theorem cd_M_compare_10 : decode cb_M_compare 10 = .ok (.ifCond .eq 11, 3) := by decide +kernel
theorem cd_M_compare_13 : decode cb_M_compare 13 = .ok (.aload_n 0, 1) := by decide +kernel
theorem cd_M_compare_14 : decode cb_M_compare 14 = .ok (.iload_n 2, 1) := by decide +kernel
theorem cd_M_compare_15 : decode cb_M_compare 15 = .ok (.invokevirtual 150, 3) := by decide +kernel
theorem cd_M_compare_18 : decode cb_M_compare 18 = .ok (.ifCond .ne 6, 3) := by decide +kernel
theorem cd_M_compare_21 : decode cb_M_compare 21 = .ok (.bipush (-2), 2) := by decide +kernel
theorem cd_M_compare_23 : decode cb_M_compare 23 = .ok (.ireturn, 1) := by decide +kernel
theorem cd_M_compare_24 : decode cb_M_compare 24 = .ok (.aload_n 0, 1) := by decide +kernel
theorem cd_M_compare_25 : decode cb_M_compare 25 = .ok (.getfield 27, 3) := by decide +kernel
theorem cd_M_compare_28 : decode cb_M_compare 28 = .ok (.iload_n 1, 1) := by decide +kernel
theorem cd_M_compare_29 : decode cb_M_compare 29 = .ok (.iaload, 1) := by decide +kernel
theorem cd_M_compare_30 : decode cb_M_compare 30 = .ok (.ifCond .lt 12, 3) := by decide +kernel
theorem cd_M_compare_33 : decode cb_M_compare 33 = .ok (.aload_n 0, 1) := by decide +kernel
theorem cd_M_compare_34 : decode cb_M_compare 34 = .ok (.getfield 27, 3) := by decide +kernel
theorem cd_M_compare_37 : decode cb_M_compare 37 = .ok (.iload_n 2, 1) := by decide +kernel
theorem cd_M_compare_38 : decode cb_M_compare 38 = .ok (.iaload, 1) := by decide +kernel
theorem cd_M_compare_39 : decode cb_M_compare 39 = .ok (.ifCond .ge 31, 3) := by decide +kernel
theorem cd_M_compare_42 : decode cb_M_compare 42 = .ok (.aload_n 0, 1) := by decide +kernel
theorem cd_M_compare_43 : decode cb_M_compare 43 = .ok (.getfield 27, 3) := by decide +kernel
theorem cd_M_compare_46 : decode cb_M_compare 46 = .ok (.iload_n 1, 1) := by decide +kernel
theorem cd_M_compare_47 : decode cb_M_compare 47 = .ok (.iaload, 1) := by decide +kernel
theorem cd_M_compare_48 : decode cb_M_compare 48 = .ok (.ifCond .lt 7, 3) := by decide +kernel
theorem cd_M_compare_51 : decode cb_M_compare 51 = .ok (.iconst (-1), 1) := by decide +kernel
theorem cd_M_compare_52 : decode cb_M_compare 52 = .ok (.goto 17, 3) := by decide +kernel
theorem cd_M_compare_55 : decode cb_M_compare 55 = .ok (.aload_n 0, 1) := by decide +kernel
theorem cd_M_compare_56 : decode cb_M_compare 56 = .ok (.getfield 27, 3) := by decide +kernel
theorem cd_M_compare_59 : decode cb_M_compare 59 = .ok (.iload_n 2, 1) := by decide +kernel
theorem cd_M_compare_60 : decode cb_M_compare 60 = .ok (.iaload, 1) := by decide +kernel
theorem cd_M_compare_61 : decode cb_M_compare 61 = .ok (.ifCond .lt 7, 3) := by decide +kernel
theorem cd_M_compare_64 : decode cb_M_compare 64 = .ok (.iconst 1, 1) := by decide +kernel
theorem cd_M_compare_65 : decode cb_M_compare 65 = .ok (.goto 4, 3) := by decide +kernel
theorem cd_M_compare_68 : decode cb_M_compare 68 = .ok (.iconst 0, 1) := by decide +kernel
theorem cd_M_compare_69 : decode cb_M_compare 69 = .ok (.ireturn, 1) := by decide +kernel
theorem cd_M_compare_70 : decode cb_M_compare 70 = .ok (.aload_n 0, 1) := by decide +kernel
theorem cd_M_compare_71 : decode cb_M_compare 71 = .ok (.getfield 27, 3) := by decide +kernel
theorem cd_M_compare_74 : decode cb_M_compare 74 = .ok (.iload_n 1, 1) := by decide +kernel
theorem cd_M_compare_75 : decode cb_M_compare 75 = .ok (.iaload, 1) := by decide +kernel
theorem cd_M_compare_76 : decode cb_M_compare 76 = .ok (.aload_n 0, 1) := by decide +kernel
theorem cd_M_compare_77 : decode cb_M_compare 77 = .ok (.getfield 27, 3) := by decide +kernel
theorem cd_M_compare_80 : decode cb_M_compare 80 = .ok (.iload_n 2, 1) := by decide +kernel
theorem cd_M_compare_81 : decode cb_M_compare 81 = .ok (.iaload, 1) := by decide +kernel
theorem cd_M_compare_82 : decode cb_M_compare 82 = .ok (.if_icmp .eq 19, 3) := by decide +kernel
theorem cd_M_compare_85 : decode cb_M_compare 85 = .ok (.aload_n 0, 1) := by decide +kernel
theorem cd_M_compare_86 : decode cb_M_compare 86 = .ok (.getfield 27, 3) := by decide +kernel
theorem cd_M_compare_89 : decode cb_M_compare 89 = .ok (.iload_n 1, 1) := by decide +kernel
theorem cd_M_compare_90 : decode cb_M_compare 90 = .ok (.iaload, 1) := by decide +kernel
theorem cd_M_compare_91 : decode cb_M_compare 91 = .ok (.aload_n 0, 1) := by decide +kernel
theorem cd_M_compare_92 : decode cb_M_compare 92 = .ok (.getfield 27, 3) := by decide +kernel
theorem cd_M_compare_95 : decode cb_M_compare 95 = .ok (.iload_n 2, 1) := by decide +kernel
theorem cd_M_compare_96 : decode cb_M_compare 96 = .ok (.iaload, 1) := by decide +kernel
theorem cd_M_compare_97 : decode cb_M_compare 97 = .ok (.isub, 1) := by decide +kernel
theorem cd_M_compare_98 : decode cb_M_compare 98 = .ok (.goto 47, 3) := by decide +kernel
theorem cd_M_compare_101 : decode cb_M_compare 101 = .ok (.aload_n 0, 1) := by decide +kernel
theorem cd_M_compare_102 : decode cb_M_compare 102 = .ok (.getfield 30, 3) := by decide +kernel
theorem cd_M_compare_105 : decode cb_M_compare 105 = .ok (.iload_n 1, 1) := by decide +kernel
theorem cd_M_compare_106 : decode cb_M_compare 106 = .ok (.iaload, 1) := by decide +kernel
theorem cd_M_compare_107 : decode cb_M_compare 107 = .ok (.aload_n 0, 1) := by decide +kernel
theorem cd_M_compare_108 : decode cb_M_compare 108 = .ok (.getfield 30, 3) := by decide +kernel
theorem cd_M_compare_111 : decode cb_M_compare 111 = .ok (.iload_n 2, 1) := by decide +kernel
theorem cd_M_compare_112 : decode cb_M_compare 112 = .ok (.iaload, 1) := by decide +kernel
theorem cd_M_compare_113 : decode cb_M_compare 113 = .ok (.if_icmp .eq 19, 3) := by decide +kernel
theorem cd_M_compare_116 : decode cb_M_compare 116 = .ok (.aload_n 0, 1) := by decide +kernel
theorem cd_M_compare_117 : decode cb_M_compare 117 = .ok (.getfield 30, 3) := by decide +kernel
theorem cd_M_compare_120 : decode cb_M_compare 120 = .ok (.iload_n 1, 1) := by decide +kernel
theorem cd_M_compare_121 : decode cb_M_compare 121 = .ok (.iaload, 1) := by decide +kernel
theorem cd_M_compare_122 : decode cb_M_compare 122 = .ok (.aload_n 0, 1) := by decide +kernel
theorem cd_M_compare_123 : decode cb_M_compare 123 = .ok (.getfield 30, 3) := by decide +kernel
theorem cd_M_compare_126 : decode cb_M_compare 126 = .ok (.iload_n 2, 1) := by decide +kernel
theorem cd_M_compare_127 : decode cb_M_compare 127 = .ok (.iaload, 1) := by decide +kernel
theorem cd_M_compare_128 : decode cb_M_compare 128 = .ok (.isub, 1) := by decide +kernel
theorem cd_M_compare_129 : decode cb_M_compare 129 = .ok (.goto 16, 3) := by decide +kernel
theorem cd_M_compare_132 : decode cb_M_compare 132 = .ok (.aload_n 0, 1) := by decide +kernel
theorem cd_M_compare_133 : decode cb_M_compare 133 = .ok (.getfield 33, 3) := by decide +kernel
theorem cd_M_compare_136 : decode cb_M_compare 136 = .ok (.iload_n 1, 1) := by decide +kernel
theorem cd_M_compare_137 : decode cb_M_compare 137 = .ok (.iaload, 1) := by decide +kernel
theorem cd_M_compare_138 : decode cb_M_compare 138 = .ok (.aload_n 0, 1) := by decide +kernel
theorem cd_M_compare_139 : decode cb_M_compare 139 = .ok (.getfield 33, 3) := by decide +kernel
theorem cd_M_compare_142 : decode cb_M_compare 142 = .ok (.iload_n 2, 1) := by decide +kernel
theorem cd_M_compare_143 : decode cb_M_compare 143 = .ok (.iaload, 1) := by decide +kernel
theorem cd_M_compare_144 : decode cb_M_compare 144 = .ok (.isub, 1) := by decide +kernel
theorem cd_M_compare_145 : decode cb_M_compare 145 = .ok (.istore_n 3, 1) := by decide +kernel
theorem cd_M_compare_146 : decode cb_M_compare 146 = .ok (.iload_n 3, 1) := by decide +kernel
theorem cd_M_compare_147 : decode cb_M_compare 147 = .ok (.ifCond .ge 7, 3) := by decide +kernel
theorem cd_M_compare_150 : decode cb_M_compare 150 = .ok (.iconst (-1), 1) := by decide +kernel
theorem cd_M_compare_151 : decode cb_M_compare 151 = .ok (.goto 12, 3) := by decide +kernel
theorem cd_M_compare_154 : decode cb_M_compare 154 = .ok (.iload_n 3, 1) := by decide +kernel
theorem cd_M_compare_155 : decode cb_M_compare 155 = .ok (.ifCond .le 7, 3) := by decide +kernel
theorem cd_M_compare_158 : decode cb_M_compare 158 = .ok (.iconst 1, 1) := by decide +kernel
theorem cd_M_compare_159 : decode cb_M_compare 159 = .ok (.goto 4, 3) := by decide +kernel
theorem cd_M_compare_162 : decode cb_M_compare 162 = .ok (.iconst 0, 1) := by decide +kernel
theorem cd_M_compare_163 : decode cb_M_compare 163 = .ok (.ireturn, 1) := by decide +kernel
theorem cd_M_lies_0 : decode cb_M_lies 0 = .ok (.iload_n 1, 1) := by decide +kernel
theorem cd_M_lies_1 : decode cb_M_lies 1 = .ok (.istore_n 3, 1) := by decide +kernel
theorem cd_M_lies_2 : decode cb_M_lies 2 = .ok (.iload_n 3, 1) := by decide +kernel
theorem cd_M_lies_3 : decode cb_M_lies 3 = .ok (.ifCond .lt 18, 3) := by decide +kernel
theorem cd_M_lies_6 : decode cb_M_lies 6 = .ok (.iload_n 3, 1) := by decide +kernel
theorem cd_M_lies_7 : decode cb_M_lies 7 = .ok (.iload_n 2, 1) := by decide +kernel
theorem cd_M_lies_8 : decode cb_M_lies 8 = .ok (.if_icmp .eq 13, 3) := by decide +kernel
theorem cd_M_lies_11 : decode cb_M_lies 11 = .ok (.aload_n 0, 1) := by decide +kernel
theorem cd_M_lies_12 : decode cb_M_lies 12 = .ok (.getfield 24, 3) := by decide +kernel
theorem cd_M_lies_15 : decode cb_M_lies 15 = .ok (.iload_n 3, 1) := by decide +kernel
theorem cd_M_lies_16 : decode cb_M_lies 16 = .ok (.iaload, 1) := by decide +kernel
theorem cd_M_lies_17 : decode cb_M_lies 17 = .ok (.istore_n 3, 1) := by decide +kernel
theorem cd_M_lies_18 : decode cb_M_lies 18 = .ok (.goto (-16), 3) := by decide +kernel
theorem cd_M_lies_21 : decode cb_M_lies 21 = .ok (.iload_n 3, 1) := by decide +kernel
theorem cd_M_lies_22 : decode cb_M_lies 22 = .ok (.iload_n 2, 1) := by decide +kernel
theorem cd_M_lies_23 : decode cb_M_lies 23 = .ok (.if_icmp .ne 7, 3) := by decide +kernel
theorem cd_M_lies_26 : decode cb_M_lies 26 = .ok (.iconst 1, 1) := by decide +kernel
theorem cd_M_lies_27 : decode cb_M_lies 27 = .ok (.goto 4, 3) := by decide +kernel
theorem cd_M_lies_30 : decode cb_M_lies 30 = .ok (.iconst 0, 1) := by decide +kernel
theorem cd_M_lies_31 : decode cb_M_lies 31 = .ok (.ireturn, 1) := by decide +kernel
theorem cd_M_counts_0 : decode cb_M_counts 0 = .ok (.aload_n 0, 1) := by decide +kernel
theorem cd_M_counts_1 : decode cb_M_counts 1 = .ok (.getfield 39, 3) := by decide +kernel
theorem cd_M_counts_4 : decode cb_M_counts 4 = .ok (.iload_n 1, 1) := by decide +kernel
theorem cd_M_counts_5 : decode cb_M_counts 5 = .ok (.iaload, 1) := by decide +kernel
theorem cd_M_counts_6 : decode cb_M_counts 6 = .ok (.iload_n 3, 1) := by decide +kernel
theorem cd_M_counts_7 : decode cb_M_counts 7 = .ok (.if_icmp .eq 5, 3) := by decide +kernel
theorem cd_M_counts_10 : decode cb_M_counts 10 = .ok (.iconst 0, 1) := by decide +kernel
theorem cd_M_counts_11 : decode cb_M_counts 11 = .ok (.ireturn, 1) := by decide +kernel
theorem cd_M_counts_12 : decode cb_M_counts 12 = .ok (.iload_n 1, 1) := by decide +kernel
theorem cd_M_counts_13 : decode cb_M_counts 13 = .ok (.iload_n 2, 1) := by decide +kernel
theorem cd_M_counts_14 : decode cb_M_counts 14 = .ok (.if_icmp .ne 6, 3) := by decide +kernel
theorem cd_M_counts_17 : decode cb_M_counts 17 = .ok (.iload 4, 2) := by decide +kernel
theorem cd_M_counts_19 : decode cb_M_counts 19 = .ok (.ireturn, 1) := by decide +kernel
theorem cd_M_counts_20 : decode cb_M_counts 20 = .ok (.aload_n 0, 1) := by decide +kernel
theorem cd_M_counts_21 : decode cb_M_counts 21 = .ok (.getfield 24, 3) := by decide +kernel
theorem cd_M_counts_24 : decode cb_M_counts 24 = .ok (.iload_n 1, 1) := by decide +kernel
theorem cd_M_counts_25 : decode cb_M_counts 25 = .ok (.iaload, 1) := by decide +kernel
theorem cd_M_counts_26 : decode cb_M_counts 26 = .ok (.istore 5, 2) := by decide +kernel
theorem cd_M_counts_28 : decode cb_M_counts 28 = .ok (.iconst 1, 1) := by decide +kernel
theorem cd_M_counts_29 : decode cb_M_counts 29 = .ok (.istore 6, 2) := by decide +kernel
theorem cd_M_counts_31 : decode cb_M_counts 31 = .ok (.iload 5, 2) := by decide +kernel
theorem cd_M_counts_33 : decode cb_M_counts 33 = .ok (.ifCond .lt 44, 3) := by decide +kernel
theorem cd_M_counts_36 : decode cb_M_counts 36 = .ok (.iload 5, 2) := by decide +kernel
theorem cd_M_counts_38 : decode cb_M_counts 38 = .ok (.iload_n 2, 1) := by decide +kernel
theorem cd_M_counts_39 : decode cb_M_counts 39 = .ok (.if_icmp .eq 38, 3) := by decide +kernel
theorem cd_M_counts_42 : decode cb_M_counts 42 = .ok (.iload 6, 2) := by decide +kernel
theorem cd_M_counts_44 : decode cb_M_counts 44 = .ok (.ifCond .eq 18, 3) := by decide +kernel
theorem cd_M_counts_47 : decode cb_M_counts 47 = .ok (.aload_n 0, 1) := by decide +kernel
theorem cd_M_counts_48 : decode cb_M_counts 48 = .ok (.getfield 39, 3) := by decide +kernel
theorem cd_M_counts_51 : decode cb_M_counts 51 = .ok (.iload 5, 2) := by decide +kernel
theorem cd_M_counts_53 : decode cb_M_counts 53 = .ok (.iaload, 1) := by decide +kernel
theorem cd_M_counts_54 : decode cb_M_counts 54 = .ok (.iload_n 3, 1) := by decide +kernel
theorem cd_M_counts_55 : decode cb_M_counts 55 = .ok (.if_icmp .eq 7, 3) := by decide +kernel
theorem cd_M_counts_58 : decode cb_M_counts 58 = .ok (.iconst 1, 1) := by decide +kernel
theorem cd_M_counts_59 : decode cb_M_counts 59 = .ok (.goto 4, 3) := by decide +kernel
theorem cd_M_counts_62 : decode cb_M_counts 62 = .ok (.iconst 0, 1) := by decide +kernel
theorem cd_M_counts_63 : decode cb_M_counts 63 = .ok (.istore 6, 2) := by decide +kernel
theorem cd_M_counts_65 : decode cb_M_counts 65 = .ok (.aload_n 0, 1) := by decide +kernel
theorem cd_M_counts_66 : decode cb_M_counts 66 = .ok (.getfield 24, 3) := by decide +kernel
theorem cd_M_counts_69 : decode cb_M_counts 69 = .ok (.iload 5, 2) := by decide +kernel
theorem cd_M_counts_71 : decode cb_M_counts 71 = .ok (.iaload, 1) := by decide +kernel
theorem cd_M_counts_72 : decode cb_M_counts 72 = .ok (.istore 5, 2) := by decide +kernel
theorem cd_M_counts_74 : decode cb_M_counts 74 = .ok (.goto (-43), 3) := by decide +kernel
theorem cd_M_counts_77 : decode cb_M_counts 77 = .ok (.iload 6, 2) := by decide +kernel
theorem cd_M_counts_79 : decode cb_M_counts 79 = .ok (.ifCond .eq 28, 3) := by decide +kernel
theorem cd_M_counts_82 : decode cb_M_counts 82 = .ok (.iload 5, 2) := by decide +kernel
theorem cd_M_counts_84 : decode cb_M_counts 84 = .ok (.iload_n 2, 1) := by decide +kernel
theorem cd_M_counts_85 : decode cb_M_counts 85 = .ok (.if_icmp .ne 22, 3) := by decide +kernel
theorem cd_M_counts_88 : decode cb_M_counts 88 = .ok (.iload 4, 2) := by decide +kernel
theorem cd_M_counts_90 : decode cb_M_counts 90 = .ok (.ifCond .eq 13, 3) := by decide +kernel
theorem cd_M_counts_93 : decode cb_M_counts 93 = .ok (.aload_n 0, 1) := by decide +kernel
theorem cd_M_counts_94 : decode cb_M_counts 94 = .ok (.getfield 39, 3) := by decide +kernel
theorem cd_M_counts_97 : decode cb_M_counts 97 = .ok (.iload_n 2, 1) := by decide +kernel
theorem cd_M_counts_98 : decode cb_M_counts 98 = .ok (.iaload, 1) := by decide +kernel
theorem cd_M_counts_99 : decode cb_M_counts 99 = .ok (.iload_n 3, 1) := by decide +kernel
theorem cd_M_counts_100 : decode cb_M_counts 100 = .ok (.if_icmp .eq 7, 3) := by decide +kernel
theorem cd_M_counts_103 : decode cb_M_counts 103 = .ok (.iconst 1, 1) := by decide +kernel
theorem cd_M_counts_104 : decode cb_M_counts 104 = .ok (.goto 4, 3) := by decide +kernel
theorem cd_M_counts_107 : decode cb_M_counts 107 = .ok (.iconst 0, 1) := by decide +kernel
theorem cd_M_counts_108 : decode cb_M_counts 108 = .ok (.ireturn, 1) := by decide +kernel
theorem cd_M_sum_0 : decode cb_M_sum 0 = .ok (.iconst 0, 1) := by decide +kernel
theorem cd_M_sum_1 : decode cb_M_sum 1 = .ok (.istore 4, 2) := by decide +kernel
theorem cd_M_sum_3 : decode cb_M_sum 3 = .ok (.iconst 0, 1) := by decide +kernel
theorem cd_M_sum_4 : decode cb_M_sum 4 = .ok (.istore 5, 2) := by decide +kernel
theorem cd_M_sum_6 : decode cb_M_sum 6 = .ok (.iload 5, 2) := by decide +kernel
theorem cd_M_sum_8 : decode cb_M_sum 8 = .ok (.aload_n 0, 1) := by decide +kernel
theorem cd_M_sum_9 : decode cb_M_sum 9 = .ok (.getfield 82, 3) := by decide +kernel
theorem cd_M_sum_12 : decode cb_M_sum 12 = .ok (.if_icmp .ge 37, 3) := by decide +kernel
theorem cd_M_sum_15 : decode cb_M_sum 15 = .ok (.iload 4, 2) := by decide +kernel
theorem cd_M_sum_17 : decode cb_M_sum 17 = .ok (.aload_n 0, 1) := by decide +kernel
theorem cd_M_sum_18 : decode cb_M_sum 18 = .ok (.iload 5, 2) := by decide +kernel
theorem cd_M_sum_20 : decode cb_M_sum 20 = .ok (.iload_n 1, 1) := by decide +kernel
theorem cd_M_sum_21 : decode cb_M_sum 21 = .ok (.iload_n 2, 1) := by decide +kernel
theorem cd_M_sum_22 : decode cb_M_sum 22 = .ok (.iload_n 3, 1) := by decide +kernel
theorem cd_M_sum_23 : decode cb_M_sum 23 = .ok (.invokevirtual 153, 3) := by decide +kernel
theorem cd_M_sum_26 : decode cb_M_sum 26 = .ok (.ifCond .eq 13, 3) := by decide +kernel
theorem cd_M_sum_29 : decode cb_M_sum 29 = .ok (.aload_n 0, 1) := by decide +kernel
theorem cd_M_sum_30 : decode cb_M_sum 30 = .ok (.getfield 36, 3) := by decide +kernel
theorem cd_M_sum_33 : decode cb_M_sum 33 = .ok (.iload 5, 2) := by decide +kernel
theorem cd_M_sum_35 : decode cb_M_sum 35 = .ok (.iaload, 1) := by decide +kernel
theorem cd_M_sum_36 : decode cb_M_sum 36 = .ok (.goto 4, 3) := by decide +kernel
theorem cd_M_sum_39 : decode cb_M_sum 39 = .ok (.iconst 0, 1) := by decide +kernel
theorem cd_M_sum_40 : decode cb_M_sum 40 = .ok (.iadd, 1) := by decide +kernel
theorem cd_M_sum_41 : decode cb_M_sum 41 = .ok (.istore 4, 2) := by decide +kernel
theorem cd_M_sum_43 : decode cb_M_sum 43 = .ok (.iinc 5 1, 3) := by decide +kernel
theorem cd_M_sum_46 : decode cb_M_sum 46 = .ok (.goto (-40), 3) := by decide +kernel
theorem cd_M_sum_49 : decode cb_M_sum 49 = .ok (.iload 4, 2) := by decide +kernel
theorem cd_M_sum_51 : decode cb_M_sum 51 = .ok (.ireturn, 1) := by decide +kernel
theorem cd_M_extent_0 : decode cb_M_extent 0 = .ok (.aload_n 0, 1) := by decide +kernel
theorem cd_M_extent_1 : decode cb_M_extent 1 = .ok (.iconst 0, 1) := by decide +kernel
theorem cd_M_extent_2 : decode cb_M_extent 2 = .ok (.putfield 79, 3) := by decide +kernel
theorem cd_M_extent_5 : decode cb_M_extent 5 = .ok (.aload_n 0, 1) := by decide +kernel
theorem cd_M_extent_6 : decode cb_M_extent 6 = .ok (.iload_n 1, 1) := by decide +kernel
theorem cd_M_extent_7 : decode cb_M_extent 7 = .ok (.invokevirtual 150, 3) := by decide +kernel
theorem cd_M_extent_10 : decode cb_M_extent 10 = .ok (.ifCond .ne 5, 3) := by decide +kernel
theorem cd_M_extent_13 : decode cb_M_extent 13 = .ok (.iconst (-1), 1) := by decide +kernel
theorem cd_M_extent_14 : decode cb_M_extent 14 = .ok (.ireturn, 1) := by decide +kernel
theorem cd_M_extent_15 : decode cb_M_extent 15 = .ok (.iload_n 2, 1) := by decide +kernel
theorem cd_M_extent_16 : decode cb_M_extent 16 = .ok (.iconst 0, 1) := by decide +kernel
theorem cd_M_extent_17 : decode cb_M_extent 17 = .ok (.iconst 2, 1) := by decide +kernel
theorem cd_M_extent_18 : decode cb_M_extent 18 = .ok (.invokestatic 85, 3) := by decide +kernel
theorem cd_M_extent_21 : decode cb_M_extent 21 = .ok (.ifCond .eq 13, 3) := by decide +kernel
theorem cd_M_extent_24 : decode cb_M_extent 24 = .ok (.aload_n 0, 1) := by decide +kernel
theorem cd_M_extent_25 : decode cb_M_extent 25 = .ok (.iload_n 1, 1) := by decide +kernel
theorem cd_M_extent_26 : decode cb_M_extent 26 = .ok (.iload_n 2, 1) := by decide +kernel
theorem cd_M_extent_27 : decode cb_M_extent 27 = .ok (.iconst 1, 1) := by decide +kernel
theorem cd_M_extent_28 : decode cb_M_extent 28 = .ok (.invokevirtual 157, 3) := by decide +kernel
theorem cd_M_extent_31 : decode cb_M_extent 31 = .ok (.goto 5, 3) := by decide +kernel
theorem cd_M_extent_34 : decode cb_M_extent 34 = .ok (.bipush (-2), 2) := by decide +kernel
theorem cd_M_extent_36 : decode cb_M_extent 36 = .ok (.ireturn, 1) := by decide +kernel
theorem cd_M_differ_0 : decode cb_M_differ 0 = .ok (.aload_n 0, 1) := by decide +kernel
theorem cd_M_differ_1 : decode cb_M_differ 1 = .ok (.iconst 0, 1) := by decide +kernel
theorem cd_M_differ_2 : decode cb_M_differ 2 = .ok (.putfield 79, 3) := by decide +kernel
theorem cd_M_differ_5 : decode cb_M_differ 5 = .ok (.iconst 0, 1) := by decide +kernel
theorem cd_M_differ_6 : decode cb_M_differ 6 = .ok (.istore_n 2, 1) := by decide +kernel
theorem cd_M_differ_7 : decode cb_M_differ 7 = .ok (.iconst 0, 1) := by decide +kernel
theorem cd_M_differ_8 : decode cb_M_differ 8 = .ok (.istore_n 3, 1) := by decide +kernel
theorem cd_M_differ_9 : decode cb_M_differ 9 = .ok (.iload_n 3, 1) := by decide +kernel
theorem cd_M_differ_10 : decode cb_M_differ 10 = .ok (.aload_n 0, 1) := by decide +kernel
theorem cd_M_differ_11 : decode cb_M_differ 11 = .ok (.getfield 82, 3) := by decide +kernel
theorem cd_M_differ_14 : decode cb_M_differ 14 = .ok (.if_icmp .ge 65, 3) := by decide +kernel
theorem cd_M_differ_17 : decode cb_M_differ 17 = .ok (.aload_n 0, 1) := by decide +kernel
theorem cd_M_differ_18 : decode cb_M_differ 18 = .ok (.getfield 39, 3) := by decide +kernel
theorem cd_M_differ_21 : decode cb_M_differ 21 = .ok (.iload_n 3, 1) := by decide +kernel
theorem cd_M_differ_22 : decode cb_M_differ 22 = .ok (.iaload, 1) := by decide +kernel
theorem cd_M_differ_23 : decode cb_M_differ 23 = .ok (.ifCond .ge 7, 3) := by decide +kernel
theorem cd_M_differ_26 : decode cb_M_differ 26 = .ok (.iconst 0, 1) := by decide +kernel
theorem cd_M_differ_27 : decode cb_M_differ 27 = .ok (.goto 15, 3) := by decide +kernel
theorem cd_M_differ_30 : decode cb_M_differ 30 = .ok (.aload_n 0, 1) := by decide +kernel
theorem cd_M_differ_31 : decode cb_M_differ 31 = .ok (.iload_n 3, 1) := by decide +kernel
theorem cd_M_differ_32 : decode cb_M_differ 32 = .ok (.aload_n 0, 1) := by decide +kernel
theorem cd_M_differ_33 : decode cb_M_differ 33 = .ok (.getfield 39, 3) := by decide +kernel
theorem cd_M_differ_36 : decode cb_M_differ 36 = .ok (.iload_n 3, 1) := by decide +kernel
theorem cd_M_differ_37 : decode cb_M_differ 37 = .ok (.iaload, 1) := by decide +kernel
theorem cd_M_differ_38 : decode cb_M_differ 38 = .ok (.iconst 0, 1) := by decide +kernel
theorem cd_M_differ_39 : decode cb_M_differ 39 = .ok (.invokevirtual 157, 3) := by decide +kernel
theorem cd_M_differ_42 : decode cb_M_differ 42 = .ok (.istore 4, 2) := by decide +kernel
theorem cd_M_differ_44 : decode cb_M_differ 44 = .ok (.iload 4, 2) := by decide +kernel
theorem cd_M_differ_46 : decode cb_M_differ 46 = .ok (.ifCond .eq 27, 3) := by decide +kernel
theorem cd_M_differ_49 : decode cb_M_differ 49 = .ok (.iload 4, 2) := by decide +kernel
theorem cd_M_differ_51 : decode cb_M_differ 51 = .ok (.aload_n 0, 1) := by decide +kernel
theorem cd_M_differ_52 : decode cb_M_differ 52 = .ok (.getfield 36, 3) := by decide +kernel
theorem cd_M_differ_55 : decode cb_M_differ 55 = .ok (.iload_n 3, 1) := by decide +kernel
theorem cd_M_differ_56 : decode cb_M_differ 56 = .ok (.iaload, 1) := by decide +kernel
theorem cd_M_differ_57 : decode cb_M_differ 57 = .ok (.if_icmp .ne 6, 3) := by decide +kernel
theorem cd_M_differ_60 : decode cb_M_differ 60 = .ok (.goto 13, 3) := by decide +kernel
theorem cd_M_differ_63 : decode cb_M_differ 63 = .ok (.iload_n 2, 1) := by decide +kernel
theorem cd_M_differ_64 : decode cb_M_differ 64 = .ok (.iload_n 1, 1) := by decide +kernel
theorem cd_M_differ_65 : decode cb_M_differ 65 = .ok (.if_icmp .ne 5, 3) := by decide +kernel
theorem cd_M_differ_68 : decode cb_M_differ 68 = .ok (.iload_n 3, 1) := by decide +kernel
theorem cd_M_differ_69 : decode cb_M_differ 69 = .ok (.ireturn, 1) := by decide +kernel
theorem cd_M_differ_70 : decode cb_M_differ 70 = .ok (.iinc 2 1, 3) := by decide +kernel
theorem cd_M_differ_73 : decode cb_M_differ 73 = .ok (.iinc 3 1, 3) := by decide +kernel
theorem cd_M_differ_76 : decode cb_M_differ 76 = .ok (.goto (-67), 3) := by decide +kernel
theorem cd_M_differ_79 : decode cb_M_differ 79 = .ok (.iconst (-1), 1) := by decide +kernel
theorem cd_M_differ_80 : decode cb_M_differ 80 = .ok (.ireturn, 1) := by decide +kernel
theorem cd_M_twice_0 : decode cb_M_twice 0 = .ok (.aload_n 0, 1) := by decide +kernel
theorem cd_M_twice_1 : decode cb_M_twice 1 = .ok (.iconst 0, 1) := by decide +kernel
theorem cd_M_twice_2 : decode cb_M_twice 2 = .ok (.putfield 79, 3) := by decide +kernel
theorem cd_M_twice_5 : decode cb_M_twice 5 = .ok (.iconst 0, 1) := by decide +kernel
theorem cd_M_twice_6 : decode cb_M_twice 6 = .ok (.istore_n 2, 1) := by decide +kernel
theorem cd_M_twice_7 : decode cb_M_twice 7 = .ok (.iconst 0, 1) := by decide +kernel
theorem cd_M_twice_8 : decode cb_M_twice 8 = .ok (.istore_n 3, 1) := by decide +kernel
theorem cd_M_twice_9 : decode cb_M_twice 9 = .ok (.iload_n 3, 1) := by decide +kernel
theorem cd_M_twice_10 : decode cb_M_twice 10 = .ok (.aload_n 0, 1) := by decide +kernel
theorem cd_M_twice_11 : decode cb_M_twice 11 = .ok (.getfield 82, 3) := by decide +kernel
theorem cd_M_twice_14 : decode cb_M_twice 14 = .ok (.if_icmp .ge 89, 3) := by decide +kernel
theorem cd_M_twice_17 : decode cb_M_twice 17 = .ok (.iconst 0, 1) := by decide +kernel
theorem cd_M_twice_18 : decode cb_M_twice 18 = .ok (.istore 4, 2) := by decide +kernel
theorem cd_M_twice_20 : decode cb_M_twice 20 = .ok (.iconst 0, 1) := by decide +kernel
theorem cd_M_twice_21 : decode cb_M_twice 21 = .ok (.istore 5, 2) := by decide +kernel
theorem cd_M_twice_23 : decode cb_M_twice 23 = .ok (.iload 5, 2) := by decide +kernel
theorem cd_M_twice_25 : decode cb_M_twice 25 = .ok (.iload_n 3, 1) := by decide +kernel
theorem cd_M_twice_26 : decode cb_M_twice 26 = .ok (.if_icmp .ge 53, 3) := by decide +kernel
theorem cd_M_twice_29 : decode cb_M_twice 29 = .ok (.iload 4, 2) := by decide +kernel
theorem cd_M_twice_31 : decode cb_M_twice 31 = .ok (.ifCond .ne 35, 3) := by decide +kernel
theorem cd_M_twice_34 : decode cb_M_twice 34 = .ok (.aload_n 0, 1) := by decide +kernel
theorem cd_M_twice_35 : decode cb_M_twice 35 = .ok (.getfield 24, 3) := by decide +kernel
theorem cd_M_twice_38 : decode cb_M_twice 38 = .ok (.iload 5, 2) := by decide +kernel
theorem cd_M_twice_40 : decode cb_M_twice 40 = .ok (.iaload, 1) := by decide +kernel
theorem cd_M_twice_41 : decode cb_M_twice 41 = .ok (.aload_n 0, 1) := by decide +kernel
theorem cd_M_twice_42 : decode cb_M_twice 42 = .ok (.getfield 24, 3) := by decide +kernel
theorem cd_M_twice_45 : decode cb_M_twice 45 = .ok (.iload_n 3, 1) := by decide +kernel
theorem cd_M_twice_46 : decode cb_M_twice 46 = .ok (.iaload, 1) := by decide +kernel
theorem cd_M_twice_47 : decode cb_M_twice 47 = .ok (.if_icmp .ne 23, 3) := by decide +kernel
theorem cd_M_twice_50 : decode cb_M_twice 50 = .ok (.aload_n 0, 1) := by decide +kernel
theorem cd_M_twice_51 : decode cb_M_twice 51 = .ok (.getfield 21, 3) := by decide +kernel
theorem cd_M_twice_54 : decode cb_M_twice 54 = .ok (.iload 5, 2) := by decide +kernel
theorem cd_M_twice_56 : decode cb_M_twice 56 = .ok (.iaload, 1) := by decide +kernel
theorem cd_M_twice_57 : decode cb_M_twice 57 = .ok (.aload_n 0, 1) := by decide +kernel
theorem cd_M_twice_58 : decode cb_M_twice 58 = .ok (.getfield 21, 3) := by decide +kernel
theorem cd_M_twice_61 : decode cb_M_twice 61 = .ok (.iload_n 3, 1) := by decide +kernel
theorem cd_M_twice_62 : decode cb_M_twice 62 = .ok (.iaload, 1) := by decide +kernel
theorem cd_M_twice_63 : decode cb_M_twice 63 = .ok (.if_icmp .ne 7, 3) := by decide +kernel
theorem cd_M_twice_66 : decode cb_M_twice 66 = .ok (.iconst 1, 1) := by decide +kernel
theorem cd_M_twice_67 : decode cb_M_twice 67 = .ok (.goto 4, 3) := by decide +kernel
theorem cd_M_twice_70 : decode cb_M_twice 70 = .ok (.iconst 0, 1) := by decide +kernel
theorem cd_M_twice_71 : decode cb_M_twice 71 = .ok (.istore 4, 2) := by decide +kernel
theorem cd_M_twice_73 : decode cb_M_twice 73 = .ok (.iinc 5 1, 3) := by decide +kernel
theorem cd_M_twice_76 : decode cb_M_twice 76 = .ok (.goto (-53), 3) := by decide +kernel
theorem cd_M_twice_79 : decode cb_M_twice 79 = .ok (.iload 4, 2) := by decide +kernel
theorem cd_M_twice_81 : decode cb_M_twice 81 = .ok (.ifCond .ne 6, 3) := by decide +kernel
theorem cd_M_twice_84 : decode cb_M_twice 84 = .ok (.goto 13, 3) := by decide +kernel
theorem cd_M_twice_87 : decode cb_M_twice 87 = .ok (.iload_n 2, 1) := by decide +kernel
theorem cd_M_twice_88 : decode cb_M_twice 88 = .ok (.iload_n 1, 1) := by decide +kernel
theorem cd_M_twice_89 : decode cb_M_twice 89 = .ok (.if_icmp .ne 5, 3) := by decide +kernel
theorem cd_M_twice_92 : decode cb_M_twice 92 = .ok (.iload_n 3, 1) := by decide +kernel
theorem cd_M_twice_93 : decode cb_M_twice 93 = .ok (.ireturn, 1) := by decide +kernel
theorem cd_M_twice_94 : decode cb_M_twice 94 = .ok (.iinc 2 1, 3) := by decide +kernel
theorem cd_M_twice_97 : decode cb_M_twice 97 = .ok (.iinc 3 1, 3) := by decide +kernel
theorem cd_M_twice_100 : decode cb_M_twice 100 = .ok (.goto (-91), 3) := by decide +kernel
theorem cd_M_twice_103 : decode cb_M_twice 103 = .ok (.iconst (-1), 1) := by decide +kernel
theorem cd_M_twice_104 : decode cb_M_twice 104 = .ok (.ireturn, 1) := by decide +kernel
theorem cd_M_restrict_0 : decode cb_M_restrict 0 = .ok (.aload_n 0, 1) := by decide +kernel
theorem cd_M_restrict_1 : decode cb_M_restrict 1 = .ok (.iconst 0, 1) := by decide +kernel
theorem cd_M_restrict_2 : decode cb_M_restrict 2 = .ok (.putfield 79, 3) := by decide +kernel
theorem cd_M_restrict_5 : decode cb_M_restrict 5 = .ok (.aload_n 0, 1) := by decide +kernel
theorem cd_M_restrict_6 : decode cb_M_restrict 6 = .ok (.iload_n 1, 1) := by decide +kernel
theorem cd_M_restrict_7 : decode cb_M_restrict 7 = .ok (.invokevirtual 150, 3) := by decide +kernel
theorem cd_M_restrict_10 : decode cb_M_restrict 10 = .ok (.ifCond .ne 5, 3) := by decide +kernel
theorem cd_M_restrict_13 : decode cb_M_restrict 13 = .ok (.iconst (-1), 1) := by decide +kernel
theorem cd_M_restrict_14 : decode cb_M_restrict 14 = .ok (.ireturn, 1) := by decide +kernel
theorem cd_M_restrict_15 : decode cb_M_restrict 15 = .ok (.iload_n 2, 1) := by decide +kernel
theorem cd_M_restrict_16 : decode cb_M_restrict 16 = .ok (.iconst 0, 1) := by decide +kernel
theorem cd_M_restrict_17 : decode cb_M_restrict 17 = .ok (.iconst 3, 1) := by decide +kernel
theorem cd_M_restrict_18 : decode cb_M_restrict 18 = .ok (.invokestatic 85, 3) := by decide +kernel
theorem cd_M_restrict_21 : decode cb_M_restrict 21 = .ok (.ifCond .eq 13, 3) := by decide +kernel
theorem cd_M_restrict_24 : decode cb_M_restrict 24 = .ok (.iload_n 3, 1) := by decide +kernel
theorem cd_M_restrict_25 : decode cb_M_restrict 25 = .ok (.iconst 0, 1) := by decide +kernel
theorem cd_M_restrict_26 : decode cb_M_restrict 26 = .ok (.bipush 99, 2) := by decide +kernel
theorem cd_M_restrict_28 : decode cb_M_restrict 28 = .ok (.invokestatic 85, 3) := by decide +kernel
theorem cd_M_restrict_31 : decode cb_M_restrict 31 = .ok (.ifCond .ne 6, 3) := by decide +kernel
theorem cd_M_restrict_34 : decode cb_M_restrict 34 = .ok (.bipush (-2), 2) := by decide +kernel
theorem cd_M_restrict_36 : decode cb_M_restrict 36 = .ok (.ireturn, 1) := by decide +kernel
theorem cd_M_restrict_37 : decode cb_M_restrict 37 = .ok (.aload_n 0, 1) := by decide +kernel
theorem cd_M_restrict_38 : decode cb_M_restrict 38 = .ok (.getfield 48, 3) := by decide +kernel
theorem cd_M_restrict_41 : decode cb_M_restrict 41 = .ok (.iconst 4, 1) := by decide +kernel
theorem cd_M_restrict_42 : decode cb_M_restrict 42 = .ok (.iload_n 1, 1) := by decide +kernel
theorem cd_M_restrict_43 : decode cb_M_restrict 43 = .ok (.imul, 1) := by decide +kernel
theorem cd_M_restrict_44 : decode cb_M_restrict 44 = .ok (.iload_n 2, 1) := by decide +kernel
theorem cd_M_restrict_45 : decode cb_M_restrict 45 = .ok (.iadd, 1) := by decide +kernel
theorem cd_M_restrict_46 : decode cb_M_restrict 46 = .ok (.iload_n 3, 1) := by decide +kernel
theorem cd_M_restrict_47 : decode cb_M_restrict 47 = .ok (.iastore, 1) := by decide +kernel
theorem cd_M_restrict_48 : decode cb_M_restrict 48 = .ok (.iconst 1, 1) := by decide +kernel
theorem cd_M_restrict_49 : decode cb_M_restrict 49 = .ok (.ireturn, 1) := by decide +kernel
theorem cd_M_restricted_0 : decode cb_M_restricted 0 = .ok (.aload_n 0, 1) := by decide +kernel
theorem cd_M_restricted_1 : decode cb_M_restricted 1 = .ok (.iconst 0, 1) := by decide +kernel
theorem cd_M_restricted_2 : decode cb_M_restricted 2 = .ok (.putfield 79, 3) := by decide +kernel
theorem cd_M_restricted_5 : decode cb_M_restricted 5 = .ok (.aload_n 0, 1) := by decide +kernel
theorem cd_M_restricted_6 : decode cb_M_restricted 6 = .ok (.iload_n 1, 1) := by decide +kernel
theorem cd_M_restricted_7 : decode cb_M_restricted 7 = .ok (.invokevirtual 150, 3) := by decide +kernel
theorem cd_M_restricted_10 : decode cb_M_restricted 10 = .ok (.ifCond .ne 5, 3) := by decide +kernel
theorem cd_M_restricted_13 : decode cb_M_restricted 13 = .ok (.iconst (-1), 1) := by decide +kernel
theorem cd_M_restricted_14 : decode cb_M_restricted 14 = .ok (.ireturn, 1) := by decide +kernel
theorem cd_M_restricted_15 : decode cb_M_restricted 15 = .ok (.iload_n 2, 1) := by decide +kernel
theorem cd_M_restricted_16 : decode cb_M_restricted 16 = .ok (.iconst 0, 1) := by decide +kernel
theorem cd_M_restricted_17 : decode cb_M_restricted 17 = .ok (.iconst 3, 1) := by decide +kernel
theorem cd_M_restricted_18 : decode cb_M_restricted 18 = .ok (.invokestatic 85, 3) := by decide +kernel
theorem cd_M_restricted_21 : decode cb_M_restricted 21 = .ok (.ifCond .ne 6, 3) := by decide +kernel
theorem cd_M_restricted_24 : decode cb_M_restricted 24 = .ok (.bipush (-2), 2) := by decide +kernel
theorem cd_M_restricted_26 : decode cb_M_restricted 26 = .ok (.ireturn, 1) := by decide +kernel
theorem cd_M_restricted_27 : decode cb_M_restricted 27 = .ok (.iload_n 1, 1) := by decide +kernel
theorem cd_M_restricted_28 : decode cb_M_restricted 28 = .ok (.istore_n 3, 1) := by decide +kernel
theorem cd_M_restricted_29 : decode cb_M_restricted 29 = .ok (.iload_n 3, 1) := by decide +kernel
theorem cd_M_restricted_30 : decode cb_M_restricted 30 = .ok (.ifCond .lt 26, 3) := by decide +kernel
theorem cd_M_restricted_33 : decode cb_M_restricted 33 = .ok (.aload_n 0, 1) := by decide +kernel
theorem cd_M_restricted_34 : decode cb_M_restricted 34 = .ok (.getfield 48, 3) := by decide +kernel
theorem cd_M_restricted_37 : decode cb_M_restricted 37 = .ok (.iconst 4, 1) := by decide +kernel
theorem cd_M_restricted_38 : decode cb_M_restricted 38 = .ok (.iload_n 3, 1) := by decide +kernel
theorem cd_M_restricted_39 : decode cb_M_restricted 39 = .ok (.imul, 1) := by decide +kernel
theorem cd_M_restricted_40 : decode cb_M_restricted 40 = .ok (.iload_n 2, 1) := by decide +kernel
theorem cd_M_restricted_41 : decode cb_M_restricted 41 = .ok (.iadd, 1) := by decide +kernel
theorem cd_M_restricted_42 : decode cb_M_restricted 42 = .ok (.iaload, 1) := by decide +kernel
theorem cd_M_restricted_43 : decode cb_M_restricted 43 = .ok (.ifCond .ne 13, 3) := by decide +kernel
theorem cd_M_restricted_46 : decode cb_M_restricted 46 = .ok (.aload_n 0, 1) := by decide +kernel
theorem cd_M_restricted_47 : decode cb_M_restricted 47 = .ok (.getfield 24, 3) := by decide +kernel
theorem cd_M_restricted_50 : decode cb_M_restricted 50 = .ok (.iload_n 3, 1) := by decide +kernel
theorem cd_M_restricted_51 : decode cb_M_restricted 51 = .ok (.iaload, 1) := by decide +kernel
theorem cd_M_restricted_52 : decode cb_M_restricted 52 = .ok (.istore_n 3, 1) := by decide +kernel
theorem cd_M_restricted_53 : decode cb_M_restricted 53 = .ok (.goto (-24), 3) := by decide +kernel
theorem cd_M_restricted_56 : decode cb_M_restricted 56 = .ok (.iload_n 3, 1) := by decide +kernel
theorem cd_M_restricted_57 : decode cb_M_restricted 57 = .ok (.ifCond .ge 7, 3) := by decide +kernel
theorem cd_M_restricted_60 : decode cb_M_restricted 60 = .ok (.iconst 0, 1) := by decide +kernel
theorem cd_M_restricted_61 : decode cb_M_restricted 61 = .ok (.goto 13, 3) := by decide +kernel
theorem cd_M_restricted_64 : decode cb_M_restricted 64 = .ok (.aload_n 0, 1) := by decide +kernel
theorem cd_M_restricted_65 : decode cb_M_restricted 65 = .ok (.getfield 48, 3) := by decide +kernel
theorem cd_M_restricted_68 : decode cb_M_restricted 68 = .ok (.iconst 4, 1) := by decide +kernel
theorem cd_M_restricted_69 : decode cb_M_restricted 69 = .ok (.iload_n 3, 1) := by decide +kernel
theorem cd_M_restricted_70 : decode cb_M_restricted 70 = .ok (.imul, 1) := by decide +kernel
theorem cd_M_restricted_71 : decode cb_M_restricted 71 = .ok (.iload_n 2, 1) := by decide +kernel
theorem cd_M_restricted_72 : decode cb_M_restricted 72 = .ok (.iadd, 1) := by decide +kernel
theorem cd_M_restricted_73 : decode cb_M_restricted 73 = .ok (.iaload, 1) := by decide +kernel
theorem cd_M_restricted_74 : decode cb_M_restricted 74 = .ok (.ireturn, 1) := by decide +kernel
theorem cd_M_hasName_0 : decode cb_M_hasName 0 = .ok (.iconst 0, 1) := by decide +kernel
theorem cd_M_hasName_1 : decode cb_M_hasName 1 = .ok (.istore_n 3, 1) := by decide +kernel
theorem cd_M_hasName_2 : decode cb_M_hasName 2 = .ok (.iconst 0, 1) := by decide +kernel
theorem cd_M_hasName_3 : decode cb_M_hasName 3 = .ok (.istore 4, 2) := by decide +kernel
theorem cd_M_hasName_5 : decode cb_M_hasName 5 = .ok (.iload 4, 2) := by decide +kernel
theorem cd_M_hasName_7 : decode cb_M_hasName 7 = .ok (.aload_n 0, 1) := by decide +kernel
theorem cd_M_hasName_8 : decode cb_M_hasName 8 = .ok (.getfield 54, 3) := by decide +kernel
theorem cd_M_hasName_11 : decode cb_M_hasName 11 = .ok (.iload_n 1, 1) := by decide +kernel
theorem cd_M_hasName_12 : decode cb_M_hasName 12 = .ok (.iaload, 1) := by decide +kernel
theorem cd_M_hasName_13 : decode cb_M_hasName 13 = .ok (.if_icmp .ge 34, 3) := by decide +kernel
theorem cd_M_hasName_16 : decode cb_M_hasName 16 = .ok (.iload_n 3, 1) := by decide +kernel
theorem cd_M_hasName_17 : decode cb_M_hasName 17 = .ok (.ifCond .ne 18, 3) := by decide +kernel
theorem cd_M_hasName_20 : decode cb_M_hasName 20 = .ok (.aload_n 0, 1) := by decide +kernel
theorem cd_M_hasName_21 : decode cb_M_hasName 21 = .ok (.getfield 51, 3) := by decide +kernel
theorem cd_M_hasName_24 : decode cb_M_hasName 24 = .ok (.iconst 4, 1) := by decide +kernel
theorem cd_M_hasName_25 : decode cb_M_hasName 25 = .ok (.iload_n 1, 1) := by decide +kernel
theorem cd_M_hasName_26 : decode cb_M_hasName 26 = .ok (.imul, 1) := by decide +kernel
theorem cd_M_hasName_27 : decode cb_M_hasName 27 = .ok (.iload 4, 2) := by decide +kernel
theorem cd_M_hasName_29 : decode cb_M_hasName 29 = .ok (.iadd, 1) := by decide +kernel
theorem cd_M_hasName_30 : decode cb_M_hasName 30 = .ok (.iaload, 1) := by decide +kernel
theorem cd_M_hasName_31 : decode cb_M_hasName 31 = .ok (.iload_n 2, 1) := by decide +kernel
theorem cd_M_hasName_32 : decode cb_M_hasName 32 = .ok (.if_icmp .ne 7, 3) := by decide +kernel
theorem cd_M_hasName_35 : decode cb_M_hasName 35 = .ok (.iconst 1, 1) := by decide +kernel
theorem cd_M_hasName_36 : decode cb_M_hasName 36 = .ok (.goto 4, 3) := by decide +kernel
theorem cd_M_hasName_39 : decode cb_M_hasName 39 = .ok (.iconst 0, 1) := by decide +kernel
theorem cd_M_hasName_40 : decode cb_M_hasName 40 = .ok (.istore_n 3, 1) := by decide +kernel
theorem cd_M_hasName_41 : decode cb_M_hasName 41 = .ok (.iinc 4 1, 3) := by decide +kernel
theorem cd_M_hasName_44 : decode cb_M_hasName 44 = .ok (.goto (-39), 3) := by decide +kernel
theorem cd_M_hasName_47 : decode cb_M_hasName 47 = .ok (.iload_n 3, 1) := by decide +kernel
theorem cd_M_hasName_48 : decode cb_M_hasName 48 = .ok (.ireturn, 1) := by decide +kernel
theorem cd_M_name_0 : decode cb_M_name 0 = .ok (.aload_n 0, 1) := by decide +kernel
theorem cd_M_name_1 : decode cb_M_name 1 = .ok (.iconst 0, 1) := by decide +kernel
theorem cd_M_name_2 : decode cb_M_name 2 = .ok (.putfield 79, 3) := by decide +kernel
theorem cd_M_name_5 : decode cb_M_name 5 = .ok (.aload_n 0, 1) := by decide +kernel
theorem cd_M_name_6 : decode cb_M_name 6 = .ok (.iload_n 1, 1) := by decide +kernel
theorem cd_M_name_7 : decode cb_M_name 7 = .ok (.invokevirtual 150, 3) := by decide +kernel
theorem cd_M_name_10 : decode cb_M_name 10 = .ok (.ifCond .ne 5, 3) := by decide +kernel
theorem cd_M_name_13 : decode cb_M_name 13 = .ok (.iconst (-1), 1) := by decide +kernel
theorem cd_M_name_14 : decode cb_M_name 14 = .ok (.ireturn, 1) := by decide +kernel
theorem cd_M_name_15 : decode cb_M_name 15 = .ok (.iload_n 2, 1) := by decide +kernel
theorem cd_M_name_16 : decode cb_M_name 16 = .ok (.iconst 1, 1) := by decide +kernel
theorem cd_M_name_17 : decode cb_M_name 17 = .ok (.sipush 999, 3) := by decide +kernel
theorem cd_M_name_20 : decode cb_M_name 20 = .ok (.invokestatic 85, 3) := by decide +kernel
theorem cd_M_name_23 : decode cb_M_name 23 = .ok (.ifCond .ne 6, 3) := by decide +kernel
theorem cd_M_name_26 : decode cb_M_name 26 = .ok (.bipush (-2), 2) := by decide +kernel
theorem cd_M_name_28 : decode cb_M_name 28 = .ok (.ireturn, 1) := by decide +kernel
theorem cd_M_name_29 : decode cb_M_name 29 = .ok (.aload_n 0, 1) := by decide +kernel
theorem cd_M_name_30 : decode cb_M_name 30 = .ok (.iload_n 1, 1) := by decide +kernel
theorem cd_M_name_31 : decode cb_M_name 31 = .ok (.iload_n 2, 1) := by decide +kernel
theorem cd_M_name_32 : decode cb_M_name 32 = .ok (.invokevirtual 161, 3) := by decide +kernel
theorem cd_M_name_35 : decode cb_M_name 35 = .ok (.ifCond .eq 6, 3) := by decide +kernel
theorem cd_M_name_38 : decode cb_M_name 38 = .ok (.bipush (-3), 2) := by decide +kernel
theorem cd_M_name_40 : decode cb_M_name 40 = .ok (.ireturn, 1) := by decide +kernel
theorem cd_M_name_41 : decode cb_M_name 41 = .ok (.aload_n 0, 1) := by decide +kernel
theorem cd_M_name_42 : decode cb_M_name 42 = .ok (.getfield 54, 3) := by decide +kernel
theorem cd_M_name_45 : decode cb_M_name 45 = .ok (.iload_n 1, 1) := by decide +kernel
theorem cd_M_name_46 : decode cb_M_name 46 = .ok (.iaload, 1) := by decide +kernel
theorem cd_M_name_47 : decode cb_M_name 47 = .ok (.iconst 4, 1) := by decide +kernel
theorem cd_M_name_48 : decode cb_M_name 48 = .ok (.if_icmp .ne 6, 3) := by decide +kernel
theorem cd_M_name_51 : decode cb_M_name 51 = .ok (.bipush (-4), 2) := by decide +kernel
theorem cd_M_name_53 : decode cb_M_name 53 = .ok (.ireturn, 1) := by decide +kernel
theorem cd_M_name_54 : decode cb_M_name 54 = .ok (.aload_n 0, 1) := by decide +kernel
theorem cd_M_name_55 : decode cb_M_name 55 = .ok (.getfield 51, 3) := by decide +kernel
theorem cd_M_name_58 : decode cb_M_name 58 = .ok (.iconst 4, 1) := by decide +kernel
theorem cd_M_name_59 : decode cb_M_name 59 = .ok (.iload_n 1, 1) := by decide +kernel
theorem cd_M_name_60 : decode cb_M_name 60 = .ok (.imul, 1) := by decide +kernel
theorem cd_M_name_61 : decode cb_M_name 61 = .ok (.aload_n 0, 1) := by decide +kernel
theorem cd_M_name_62 : decode cb_M_name 62 = .ok (.getfield 54, 3) := by decide +kernel
theorem cd_M_name_65 : decode cb_M_name 65 = .ok (.iload_n 1, 1) := by decide +kernel
theorem cd_M_name_66 : decode cb_M_name 66 = .ok (.iaload, 1) := by decide +kernel
theorem cd_M_name_67 : decode cb_M_name 67 = .ok (.iadd, 1) := by decide +kernel
theorem cd_M_name_68 : decode cb_M_name 68 = .ok (.iload_n 2, 1) := by decide +kernel
theorem cd_M_name_69 : decode cb_M_name 69 = .ok (.iastore, 1) := by decide +kernel
theorem cd_M_name_70 : decode cb_M_name 70 = .ok (.aload_n 0, 1) := by decide +kernel
theorem cd_M_name_71 : decode cb_M_name 71 = .ok (.getfield 54, 3) := by decide +kernel
theorem cd_M_name_74 : decode cb_M_name 74 = .ok (.iload_n 1, 1) := by decide +kernel
theorem cd_M_name_75 : decode cb_M_name 75 = .ok (.dup2, 1) := by decide +kernel
theorem cd_M_name_76 : decode cb_M_name 76 = .ok (.iaload, 1) := by decide +kernel
theorem cd_M_name_77 : decode cb_M_name 77 = .ok (.iconst 1, 1) := by decide +kernel
theorem cd_M_name_78 : decode cb_M_name 78 = .ok (.iadd, 1) := by decide +kernel
theorem cd_M_name_79 : decode cb_M_name 79 = .ok (.iastore, 1) := by decide +kernel
theorem cd_M_name_80 : decode cb_M_name 80 = .ok (.aload_n 0, 1) := by decide +kernel
theorem cd_M_name_81 : decode cb_M_name 81 = .ok (.getfield 54, 3) := by decide +kernel
theorem cd_M_name_84 : decode cb_M_name 84 = .ok (.iload_n 1, 1) := by decide +kernel
theorem cd_M_name_85 : decode cb_M_name 85 = .ok (.iaload, 1) := by decide +kernel
theorem cd_M_name_86 : decode cb_M_name 86 = .ok (.ireturn, 1) := by decide +kernel
theorem cd_M_named_0 : decode cb_M_named 0 = .ok (.aload_n 0, 1) := by decide +kernel
theorem cd_M_named_1 : decode cb_M_named 1 = .ok (.iconst 0, 1) := by decide +kernel
theorem cd_M_named_2 : decode cb_M_named 2 = .ok (.putfield 79, 3) := by decide +kernel
theorem cd_M_named_5 : decode cb_M_named 5 = .ok (.iconst 0, 1) := by decide +kernel
theorem cd_M_named_6 : decode cb_M_named 6 = .ok (.istore_n 3, 1) := by decide +kernel
theorem cd_M_named_7 : decode cb_M_named 7 = .ok (.iconst 0, 1) := by decide +kernel
theorem cd_M_named_8 : decode cb_M_named 8 = .ok (.istore 4, 2) := by decide +kernel
theorem cd_M_named_10 : decode cb_M_named 10 = .ok (.iload 4, 2) := by decide +kernel
theorem cd_M_named_12 : decode cb_M_named 12 = .ok (.aload_n 0, 1) := by decide +kernel
theorem cd_M_named_13 : decode cb_M_named 13 = .ok (.getfield 82, 3) := by decide +kernel
theorem cd_M_named_16 : decode cb_M_named 16 = .ok (.if_icmp .ge 33, 3) := by decide +kernel
theorem cd_M_named_19 : decode cb_M_named 19 = .ok (.aload_n 0, 1) := by decide +kernel
theorem cd_M_named_20 : decode cb_M_named 20 = .ok (.iload 4, 2) := by decide +kernel
theorem cd_M_named_22 : decode cb_M_named 22 = .ok (.iload_n 1, 1) := by decide +kernel
theorem cd_M_named_23 : decode cb_M_named 23 = .ok (.invokevirtual 161, 3) := by decide +kernel
theorem cd_M_named_26 : decode cb_M_named 26 = .ok (.ifCond .ne 6, 3) := by decide +kernel
theorem cd_M_named_29 : decode cb_M_named 29 = .ok (.goto 14, 3) := by decide +kernel
theorem cd_M_named_32 : decode cb_M_named 32 = .ok (.iload_n 3, 1) := by decide +kernel
theorem cd_M_named_33 : decode cb_M_named 33 = .ok (.iload_n 2, 1) := by decide +kernel
theorem cd_M_named_34 : decode cb_M_named 34 = .ok (.if_icmp .ne 6, 3) := by decide +kernel
theorem cd_M_named_37 : decode cb_M_named 37 = .ok (.iload 4, 2) := by decide +kernel
theorem cd_M_named_39 : decode cb_M_named 39 = .ok (.ireturn, 1) := by decide +kernel
theorem cd_M_named_40 : decode cb_M_named 40 = .ok (.iinc 3 1, 3) := by decide +kernel
theorem cd_M_named_43 : decode cb_M_named 43 = .ok (.iinc 4 1, 3) := by decide +kernel
theorem cd_M_named_46 : decode cb_M_named 46 = .ok (.goto (-36), 3) := by decide +kernel
theorem cd_M_named_49 : decode cb_M_named 49 = .ok (.iconst (-1), 1) := by decide +kernel
theorem cd_M_named_50 : decode cb_M_named 50 = .ok (.ireturn, 1) := by decide +kernel
theorem cd_M_move_0 : decode cb_M_move 0 = .ok (.aload_n 0, 1) := by decide +kernel
theorem cd_M_move_1 : decode cb_M_move 1 = .ok (.iconst 0, 1) := by decide +kernel
theorem cd_M_move_2 : decode cb_M_move 2 = .ok (.putfield 79, 3) := by decide +kernel
theorem cd_M_move_5 : decode cb_M_move 5 = .ok (.aload_n 0, 1) := by decide +kernel
theorem cd_M_move_6 : decode cb_M_move 6 = .ok (.iload_n 1, 1) := by decide +kernel
theorem cd_M_move_7 : decode cb_M_move 7 = .ok (.invokevirtual 150, 3) := by decide +kernel
theorem cd_M_move_10 : decode cb_M_move 10 = .ok (.ifCond .eq 11, 3) := by decide +kernel
theorem cd_M_move_13 : decode cb_M_move 13 = .ok (.aload_n 0, 1) := by decide +kernel
theorem cd_M_move_14 : decode cb_M_move 14 = .ok (.iload_n 2, 1) := by decide +kernel
theorem cd_M_move_15 : decode cb_M_move 15 = .ok (.invokevirtual 150, 3) := by decide +kernel
theorem cd_M_move_18 : decode cb_M_move 18 = .ok (.ifCond .ne 5, 3) := by decide +kernel
theorem cd_M_move_21 : decode cb_M_move 21 = .ok (.iconst (-1), 1) := by decide +kernel
theorem cd_M_move_22 : decode cb_M_move 22 = .ok (.ireturn, 1) := by decide +kernel
theorem cd_M_move_23 : decode cb_M_move 23 = .ok (.iload_n 1, 1) := by decide +kernel
theorem cd_M_move_24 : decode cb_M_move 24 = .ok (.ifCond .eq 37, 3) := by decide +kernel
theorem cd_M_move_27 : decode cb_M_move 27 = .ok (.aload_n 0, 1) := by decide +kernel
theorem cd_M_move_28 : decode cb_M_move 28 = .ok (.iload_n 2, 1) := by decide +kernel
theorem cd_M_move_29 : decode cb_M_move 29 = .ok (.iload_n 1, 1) := by decide +kernel
theorem cd_M_move_30 : decode cb_M_move 30 = .ok (.invokevirtual 165, 3) := by decide +kernel
theorem cd_M_move_33 : decode cb_M_move 33 = .ok (.ifCond .ne 28, 3) := by decide +kernel
theorem cd_M_move_36 : decode cb_M_move 36 = .ok (.aload_n 0, 1) := by decide +kernel
theorem cd_M_move_37 : decode cb_M_move 37 = .ok (.getfield 17, 3) := by decide +kernel
theorem cd_M_move_40 : decode cb_M_move 40 = .ok (.iload_n 2, 1) := by decide +kernel
theorem cd_M_move_41 : decode cb_M_move 41 = .ok (.iaload, 1) := by decide +kernel
theorem cd_M_move_42 : decode cb_M_move 42 = .ok (.aload_n 0, 1) := by decide +kernel
theorem cd_M_move_43 : decode cb_M_move 43 = .ok (.getfield 17, 3) := by decide +kernel
theorem cd_M_move_46 : decode cb_M_move 46 = .ok (.iload_n 1, 1) := by decide +kernel
theorem cd_M_move_47 : decode cb_M_move 47 = .ok (.iaload, 1) := by decide +kernel
theorem cd_M_move_48 : decode cb_M_move 48 = .ok (.if_icmp .gt 13, 3) := by decide +kernel
theorem cd_M_move_51 : decode cb_M_move 51 = .ok (.aload_n 0, 1) := by decide +kernel
theorem cd_M_move_52 : decode cb_M_move 52 = .ok (.getfield 17, 3) := by decide +kernel
theorem cd_M_move_55 : decode cb_M_move 55 = .ok (.iload_n 2, 1) := by decide +kernel
theorem cd_M_move_56 : decode cb_M_move 56 = .ok (.iaload, 1) := by decide +kernel
theorem cd_M_move_57 : decode cb_M_move 57 = .ok (.iconst 3, 1) := by decide +kernel
theorem cd_M_move_58 : decode cb_M_move 58 = .ok (.if_icmp .ne 6, 3) := by decide +kernel
theorem cd_M_move_61 : decode cb_M_move 61 = .ok (.bipush (-3), 2) := by decide +kernel
theorem cd_M_move_63 : decode cb_M_move 63 = .ok (.ireturn, 1) := by decide +kernel
theorem cd_M_move_64 : decode cb_M_move 64 = .ok (.aload_n 0, 1) := by decide +kernel
theorem cd_M_move_65 : decode cb_M_move 65 = .ok (.iload_n 2, 1) := by decide +kernel
theorem cd_M_move_66 : decode cb_M_move 66 = .ok (.invokevirtual 103, 3) := by decide +kernel
theorem cd_M_move_69 : decode cb_M_move 69 = .ok (.iconst 1, 1) := by decide +kernel
theorem cd_M_move_70 : decode cb_M_move 70 = .ok (.iadd, 1) := by decide +kernel
theorem cd_M_move_71 : decode cb_M_move 71 = .ok (.aload_n 0, 1) := by decide +kernel
theorem cd_M_move_72 : decode cb_M_move 72 = .ok (.iload_n 1, 1) := by decide +kernel
theorem cd_M_move_73 : decode cb_M_move 73 = .ok (.invokevirtual 103, 3) := by decide +kernel
theorem cd_M_move_76 : decode cb_M_move 76 = .ok (.isub, 1) := by decide +kernel
theorem cd_M_move_77 : decode cb_M_move 77 = .ok (.istore_n 3, 1) := by decide +kernel
theorem cd_M_move_78 : decode cb_M_move 78 = .ok (.iconst 0, 1) := by decide +kernel
theorem cd_M_move_79 : decode cb_M_move 79 = .ok (.istore 4, 2) := by decide +kernel
theorem cd_M_move_81 : decode cb_M_move 81 = .ok (.iconst 0, 1) := by decide +kernel
theorem cd_M_move_82 : decode cb_M_move 82 = .ok (.istore 5, 2) := by decide +kernel
theorem cd_M_move_84 : decode cb_M_move 84 = .ok (.iload 5, 2) := by decide +kernel
theorem cd_M_move_86 : decode cb_M_move 86 = .ok (.aload_n 0, 1) := by decide +kernel
theorem cd_M_move_87 : decode cb_M_move 87 = .ok (.getfield 82, 3) := by decide +kernel
theorem cd_M_move_90 : decode cb_M_move 90 = .ok (.if_icmp .ge 44, 3) := by decide +kernel
theorem cd_M_move_93 : decode cb_M_move 93 = .ok (.iload 4, 2) := by decide +kernel
theorem cd_M_move_95 : decode cb_M_move 95 = .ok (.ifCond .ne 26, 3) := by decide +kernel
theorem cd_M_move_98 : decode cb_M_move 98 = .ok (.aload_n 0, 1) := by decide +kernel
theorem cd_M_move_99 : decode cb_M_move 99 = .ok (.iload 5, 2) := by decide +kernel
theorem cd_M_move_101 : decode cb_M_move 101 = .ok (.iload_n 1, 1) := by decide +kernel
theorem cd_M_move_102 : decode cb_M_move 102 = .ok (.invokevirtual 165, 3) := by decide +kernel
theorem cd_M_move_105 : decode cb_M_move 105 = .ok (.ifCond .eq 20, 3) := by decide +kernel
theorem cd_M_move_108 : decode cb_M_move 108 = .ok (.aload_n 0, 1) := by decide +kernel
theorem cd_M_move_109 : decode cb_M_move 109 = .ok (.iload 5, 2) := by decide +kernel
theorem cd_M_move_111 : decode cb_M_move 111 = .ok (.invokevirtual 103, 3) := by decide +kernel
theorem cd_M_move_114 : decode cb_M_move 114 = .ok (.iload_n 3, 1) := by decide +kernel
theorem cd_M_move_115 : decode cb_M_move 115 = .ok (.iadd, 1) := by decide +kernel
theorem cd_M_move_116 : decode cb_M_move 116 = .ok (.bipush 8, 2) := by decide +kernel
theorem cd_M_move_118 : decode cb_M_move 118 = .ok (.if_icmp .le 7, 3) := by decide +kernel
theorem cd_M_move_121 : decode cb_M_move 121 = .ok (.iconst 1, 1) := by decide +kernel
theorem cd_M_move_122 : decode cb_M_move 122 = .ok (.goto 4, 3) := by decide +kernel
theorem cd_M_move_125 : decode cb_M_move 125 = .ok (.iconst 0, 1) := by decide +kernel
theorem cd_M_move_126 : decode cb_M_move 126 = .ok (.istore 4, 2) := by decide +kernel
theorem cd_M_move_128 : decode cb_M_move 128 = .ok (.iinc 5 1, 3) := by decide +kernel
theorem cd_M_move_131 : decode cb_M_move 131 = .ok (.goto (-47), 3) := by decide +kernel
theorem cd_M_move_134 : decode cb_M_move 134 = .ok (.iload 4, 2) := by decide +kernel
theorem cd_M_move_136 : decode cb_M_move 136 = .ok (.ifCond .eq 6, 3) := by decide +kernel
theorem cd_M_move_139 : decode cb_M_move 139 = .ok (.bipush (-3), 2) := by decide +kernel
theorem cd_M_move_141 : decode cb_M_move 141 = .ok (.ireturn, 1) := by decide +kernel
theorem cd_M_move_142 : decode cb_M_move 142 = .ok (.aload_n 0, 1) := by decide +kernel
theorem cd_M_move_143 : decode cb_M_move 143 = .ok (.getfield 60, 3) := by decide +kernel
theorem cd_M_move_146 : decode cb_M_move 146 = .ok (.iload_n 1, 1) := by decide +kernel
theorem cd_M_move_147 : decode cb_M_move 147 = .ok (.iaload, 1) := by decide +kernel
theorem cd_M_move_148 : decode cb_M_move 148 = .ok (.iconst 5, 1) := by decide +kernel
theorem cd_M_move_149 : decode cb_M_move 149 = .ok (.if_icmp .ge 24, 3) := by decide +kernel
theorem cd_M_move_152 : decode cb_M_move 152 = .ok (.aload_n 0, 1) := by decide +kernel
theorem cd_M_move_153 : decode cb_M_move 153 = .ok (.getfield 57, 3) := by decide +kernel
theorem cd_M_move_156 : decode cb_M_move 156 = .ok (.iconst 5, 1) := by decide +kernel
theorem cd_M_move_157 : decode cb_M_move 157 = .ok (.iload_n 1, 1) := by decide +kernel
theorem cd_M_move_158 : decode cb_M_move 158 = .ok (.imul, 1) := by decide +kernel
theorem cd_M_move_159 : decode cb_M_move 159 = .ok (.aload_n 0, 1) := by decide +kernel
theorem cd_M_move_160 : decode cb_M_move 160 = .ok (.getfield 60, 3) := by decide +kernel
theorem cd_M_move_163 : decode cb_M_move 163 = .ok (.iload_n 1, 1) := by decide +kernel
theorem cd_M_move_164 : decode cb_M_move 164 = .ok (.iaload, 1) := by decide +kernel
theorem cd_M_move_165 : decode cb_M_move 165 = .ok (.iadd, 1) := by decide +kernel
theorem cd_M_move_166 : decode cb_M_move 166 = .ok (.aload_n 0, 1) := by decide +kernel
theorem cd_M_move_167 : decode cb_M_move 167 = .ok (.getfield 24, 3) := by decide +kernel
theorem cd_M_move_170 : decode cb_M_move 170 = .ok (.iload_n 1, 1) := by decide +kernel
theorem cd_M_move_171 : decode cb_M_move 171 = .ok (.iaload, 1) := by decide +kernel
theorem cd_M_move_172 : decode cb_M_move 172 = .ok (.iastore, 1) := by decide +kernel
theorem cd_M_move_173 : decode cb_M_move 173 = .ok (.aload_n 0, 1) := by decide +kernel
theorem cd_M_move_174 : decode cb_M_move 174 = .ok (.getfield 60, 3) := by decide +kernel
theorem cd_M_move_177 : decode cb_M_move 177 = .ok (.iload_n 1, 1) := by decide +kernel
theorem cd_M_move_178 : decode cb_M_move 178 = .ok (.dup2, 1) := by decide +kernel
theorem cd_M_move_179 : decode cb_M_move 179 = .ok (.iaload, 1) := by decide +kernel
theorem cd_M_move_180 : decode cb_M_move 180 = .ok (.aload_n 0, 1) := by decide +kernel
theorem cd_M_move_181 : decode cb_M_move 181 = .ok (.getfield 60, 3) := by decide +kernel
theorem cd_M_move_184 : decode cb_M_move 184 = .ok (.iload_n 1, 1) := by decide +kernel
theorem cd_M_move_185 : decode cb_M_move 185 = .ok (.iaload, 1) := by decide +kernel
theorem cd_M_move_186 : decode cb_M_move 186 = .ok (.iconst 5, 1) := by decide +kernel
theorem cd_M_move_187 : decode cb_M_move 187 = .ok (.if_icmp .ge 7, 3) := by decide +kernel
theorem cd_M_move_190 : decode cb_M_move 190 = .ok (.iconst 1, 1) := by decide +kernel
theorem cd_M_move_191 : decode cb_M_move 191 = .ok (.goto 4, 3) := by decide +kernel
theorem cd_M_move_194 : decode cb_M_move 194 = .ok (.iconst 0, 1) := by decide +kernel
theorem cd_M_move_195 : decode cb_M_move 195 = .ok (.iadd, 1) := by decide +kernel
theorem cd_M_move_196 : decode cb_M_move 196 = .ok (.iastore, 1) := by decide +kernel
theorem cd_M_move_197 : decode cb_M_move 197 = .ok (.aload_n 0, 1) := by decide +kernel
theorem cd_M_move_198 : decode cb_M_move 198 = .ok (.getfield 24, 3) := by decide +kernel
theorem cd_M_move_201 : decode cb_M_move 201 = .ok (.iload_n 1, 1) := by decide +kernel
theorem cd_M_move_202 : decode cb_M_move 202 = .ok (.iload_n 2, 1) := by decide +kernel
theorem cd_M_move_203 : decode cb_M_move 203 = .ok (.iastore, 1) := by decide +kernel
theorem cd_M_move_204 : decode cb_M_move 204 = .ok (.iconst 1, 1) := by decide +kernel
theorem cd_M_move_205 : decode cb_M_move 205 = .ok (.ireturn, 1) := by decide +kernel
theorem cd_M_was_0 : decode cb_M_was 0 = .ok (.aload_n 0, 1) := by decide +kernel
theorem cd_M_was_1 : decode cb_M_was 1 = .ok (.iconst 0, 1) := by decide +kernel
theorem cd_M_was_2 : decode cb_M_was 2 = .ok (.putfield 79, 3) := by decide +kernel
theorem cd_M_was_5 : decode cb_M_was 5 = .ok (.aload_n 0, 1) := by decide +kernel
theorem cd_M_was_6 : decode cb_M_was 6 = .ok (.iload_n 1, 1) := by decide +kernel
theorem cd_M_was_7 : decode cb_M_was 7 = .ok (.invokevirtual 150, 3) := by decide +kernel
theorem cd_M_was_10 : decode cb_M_was 10 = .ok (.ifCond .eq 32, 3) := by decide +kernel
theorem cd_M_was_13 : decode cb_M_was 13 = .ok (.iload_n 2, 1) := by decide +kernel
theorem cd_M_was_14 : decode cb_M_was 14 = .ok (.iconst 0, 1) := by decide +kernel
theorem cd_M_was_15 : decode cb_M_was 15 = .ok (.aload_n 0, 1) := by decide +kernel
theorem cd_M_was_16 : decode cb_M_was 16 = .ok (.getfield 60, 3) := by decide +kernel
theorem cd_M_was_19 : decode cb_M_was 19 = .ok (.iload_n 1, 1) := by decide +kernel
theorem cd_M_was_20 : decode cb_M_was 20 = .ok (.iaload, 1) := by decide +kernel
theorem cd_M_was_21 : decode cb_M_was 21 = .ok (.iconst 1, 1) := by decide +kernel
theorem cd_M_was_22 : decode cb_M_was 22 = .ok (.isub, 1) := by decide +kernel
theorem cd_M_was_23 : decode cb_M_was 23 = .ok (.invokestatic 85, 3) := by decide +kernel
theorem cd_M_was_26 : decode cb_M_was 26 = .ok (.ifCond .eq 16, 3) := by decide +kernel
theorem cd_M_was_29 : decode cb_M_was 29 = .ok (.aload_n 0, 1) := by decide +kernel
theorem cd_M_was_30 : decode cb_M_was 30 = .ok (.getfield 57, 3) := by decide +kernel
theorem cd_M_was_33 : decode cb_M_was 33 = .ok (.iconst 5, 1) := by decide +kernel
theorem cd_M_was_34 : decode cb_M_was 34 = .ok (.iload_n 1, 1) := by decide +kernel
theorem cd_M_was_35 : decode cb_M_was 35 = .ok (.imul, 1) := by decide +kernel
theorem cd_M_was_36 : decode cb_M_was 36 = .ok (.iload_n 2, 1) := by decide +kernel
theorem cd_M_was_37 : decode cb_M_was 37 = .ok (.iadd, 1) := by decide +kernel
theorem cd_M_was_38 : decode cb_M_was 38 = .ok (.iaload, 1) := by decide +kernel
theorem cd_M_was_39 : decode cb_M_was 39 = .ok (.goto 4, 3) := by decide +kernel
theorem cd_M_was_42 : decode cb_M_was 42 = .ok (.iconst (-1), 1) := by decide +kernel
theorem cd_M_was_43 : decode cb_M_was 43 = .ok (.ireturn, 1) := by decide +kernel
theorem cd_M_isShown_0 : decode cb_M_isShown 0 = .ok (.iconst 1, 1) := by decide +kernel
theorem cd_M_isShown_1 : decode cb_M_isShown 1 = .ok (.istore_n 2, 1) := by decide +kernel
theorem cd_M_isShown_2 : decode cb_M_isShown 2 = .ok (.iload_n 1, 1) := by decide +kernel
theorem cd_M_isShown_3 : decode cb_M_isShown 3 = .ok (.istore_n 3, 1) := by decide +kernel
theorem cd_M_isShown_4 : decode cb_M_isShown 4 = .ok (.iload_n 3, 1) := by decide +kernel
theorem cd_M_isShown_5 : decode cb_M_isShown 5 = .ok (.ifCond .lt 32, 3) := by decide +kernel
theorem cd_M_isShown_8 : decode cb_M_isShown 8 = .ok (.iload_n 2, 1) := by decide +kernel
theorem cd_M_isShown_9 : decode cb_M_isShown 9 = .ok (.ifCond .eq 16, 3) := by decide +kernel
theorem cd_M_isShown_12 : decode cb_M_isShown 12 = .ok (.aload_n 0, 1) := by decide +kernel
theorem cd_M_isShown_13 : decode cb_M_isShown 13 = .ok (.getfield 63, 3) := by decide +kernel
theorem cd_M_isShown_16 : decode cb_M_isShown 16 = .ok (.iload_n 3, 1) := by decide +kernel
theorem cd_M_isShown_17 : decode cb_M_isShown 17 = .ok (.baload, 1) := by decide +kernel
theorem cd_M_isShown_18 : decode cb_M_isShown 18 = .ok (.ifCond .ne 7, 3) := by decide +kernel
theorem cd_M_isShown_21 : decode cb_M_isShown 21 = .ok (.iconst 1, 1) := by decide +kernel
theorem cd_M_isShown_22 : decode cb_M_isShown 22 = .ok (.goto 4, 3) := by decide +kernel
theorem cd_M_isShown_25 : decode cb_M_isShown 25 = .ok (.iconst 0, 1) := by decide +kernel
theorem cd_M_isShown_26 : decode cb_M_isShown 26 = .ok (.istore_n 2, 1) := by decide +kernel
theorem cd_M_isShown_27 : decode cb_M_isShown 27 = .ok (.aload_n 0, 1) := by decide +kernel
theorem cd_M_isShown_28 : decode cb_M_isShown 28 = .ok (.getfield 24, 3) := by decide +kernel
theorem cd_M_isShown_31 : decode cb_M_isShown 31 = .ok (.iload_n 3, 1) := by decide +kernel
theorem cd_M_isShown_32 : decode cb_M_isShown 32 = .ok (.iaload, 1) := by decide +kernel
theorem cd_M_isShown_33 : decode cb_M_isShown 33 = .ok (.istore_n 3, 1) := by decide +kernel
theorem cd_M_isShown_34 : decode cb_M_isShown 34 = .ok (.goto (-30), 3) := by decide +kernel
theorem cd_M_isShown_37 : decode cb_M_isShown 37 = .ok (.iload_n 2, 1) := by decide +kernel
theorem cd_M_isShown_38 : decode cb_M_isShown 38 = .ok (.ireturn, 1) := by decide +kernel
theorem cd_M_published_0 : decode cb_M_published 0 = .ok (.aload_n 0, 1) := by decide +kernel
theorem cd_M_published_1 : decode cb_M_published 1 = .ok (.iconst 0, 1) := by decide +kernel
theorem cd_M_published_2 : decode cb_M_published 2 = .ok (.putfield 79, 3) := by decide +kernel
theorem cd_M_published_5 : decode cb_M_published 5 = .ok (.aload_n 0, 1) := by decide +kernel
theorem cd_M_published_6 : decode cb_M_published 6 = .ok (.iload_n 1, 1) := by decide +kernel
theorem cd_M_published_7 : decode cb_M_published 7 = .ok (.invokevirtual 150, 3) := by decide +kernel
theorem cd_M_published_10 : decode cb_M_published 10 = .ok (.ifCond .ne 5, 3) := by decide +kernel
theorem cd_M_published_13 : decode cb_M_published 13 = .ok (.iconst (-1), 1) := by decide +kernel
theorem cd_M_published_14 : decode cb_M_published 14 = .ok (.ireturn, 1) := by decide +kernel
theorem cd_M_published_15 : decode cb_M_published 15 = .ok (.aload_n 0, 1) := by decide +kernel
theorem cd_M_published_16 : decode cb_M_published 16 = .ok (.getfield 63, 3) := by decide +kernel
theorem cd_M_published_19 : decode cb_M_published 19 = .ok (.iload_n 1, 1) := by decide +kernel
theorem cd_M_published_20 : decode cb_M_published 20 = .ok (.iload_n 2, 1) := by decide +kernel
theorem cd_M_published_21 : decode cb_M_published 21 = .ok (.ifCond .ne 7, 3) := by decide +kernel
theorem cd_M_published_24 : decode cb_M_published 24 = .ok (.iconst 1, 1) := by decide +kernel
theorem cd_M_published_25 : decode cb_M_published 25 = .ok (.goto 4, 3) := by decide +kernel
theorem cd_M_published_28 : decode cb_M_published 28 = .ok (.iconst 0, 1) := by decide +kernel
theorem cd_M_published_29 : decode cb_M_published 29 = .ok (.bastore, 1) := by decide +kernel
theorem cd_M_published_30 : decode cb_M_published 30 = .ok (.aload_n 0, 1) := by decide +kernel
theorem cd_M_published_31 : decode cb_M_published 31 = .ok (.iload_n 1, 1) := by decide +kernel
theorem cd_M_published_32 : decode cb_M_published 32 = .ok (.invokevirtual 168, 3) := by decide +kernel
theorem cd_M_published_35 : decode cb_M_published 35 = .ok (.ifCond .eq 7, 3) := by decide +kernel
theorem cd_M_published_38 : decode cb_M_published 38 = .ok (.iconst 1, 1) := by decide +kernel
theorem cd_M_published_39 : decode cb_M_published 39 = .ok (.goto 4, 3) := by decide +kernel
theorem cd_M_published_42 : decode cb_M_published 42 = .ok (.iconst 0, 1) := by decide +kernel
theorem cd_M_published_43 : decode cb_M_published 43 = .ok (.ireturn, 1) := by decide +kernel
theorem cd_M_samePath_0 : decode cb_M_samePath 0 = .ok (.iload_n 1, 1) := by decide +kernel
theorem cd_M_samePath_1 : decode cb_M_samePath 1 = .ok (.istore_n 3, 1) := by decide +kernel
theorem cd_M_samePath_2 : decode cb_M_samePath 2 = .ok (.iload_n 2, 1) := by decide +kernel
theorem cd_M_samePath_3 : decode cb_M_samePath 3 = .ok (.istore 4, 2) := by decide +kernel
theorem cd_M_samePath_5 : decode cb_M_samePath 5 = .ok (.iload_n 3, 1) := by decide +kernel
theorem cd_M_samePath_6 : decode cb_M_samePath 6 = .ok (.ifCond .lt 43, 3) := by decide +kernel
theorem cd_M_samePath_9 : decode cb_M_samePath 9 = .ok (.iload 4, 2) := by decide +kernel
theorem cd_M_samePath_11 : decode cb_M_samePath 11 = .ok (.ifCond .lt 38, 3) := by decide +kernel
theorem cd_M_samePath_14 : decode cb_M_samePath 14 = .ok (.aload_n 0, 1) := by decide +kernel
theorem cd_M_samePath_15 : decode cb_M_samePath 15 = .ok (.getfield 21, 3) := by decide +kernel
theorem cd_M_samePath_18 : decode cb_M_samePath 18 = .ok (.iload_n 3, 1) := by decide +kernel
theorem cd_M_samePath_19 : decode cb_M_samePath 19 = .ok (.iaload, 1) := by decide +kernel
theorem cd_M_samePath_20 : decode cb_M_samePath 20 = .ok (.aload_n 0, 1) := by decide +kernel
theorem cd_M_samePath_21 : decode cb_M_samePath 21 = .ok (.getfield 21, 3) := by decide +kernel
theorem cd_M_samePath_24 : decode cb_M_samePath 24 = .ok (.iload 4, 2) := by decide +kernel
theorem cd_M_samePath_26 : decode cb_M_samePath 26 = .ok (.iaload, 1) := by decide +kernel
theorem cd_M_samePath_27 : decode cb_M_samePath 27 = .ok (.if_icmp .ne 22, 3) := by decide +kernel
theorem cd_M_samePath_30 : decode cb_M_samePath 30 = .ok (.aload_n 0, 1) := by decide +kernel
theorem cd_M_samePath_31 : decode cb_M_samePath 31 = .ok (.getfield 24, 3) := by decide +kernel
theorem cd_M_samePath_34 : decode cb_M_samePath 34 = .ok (.iload_n 3, 1) := by decide +kernel
theorem cd_M_samePath_35 : decode cb_M_samePath 35 = .ok (.iaload, 1) := by decide +kernel
theorem cd_M_samePath_36 : decode cb_M_samePath 36 = .ok (.istore_n 3, 1) := by decide +kernel
theorem cd_M_samePath_37 : decode cb_M_samePath 37 = .ok (.aload_n 0, 1) := by decide +kernel
theorem cd_M_samePath_38 : decode cb_M_samePath 38 = .ok (.getfield 24, 3) := by decide +kernel
theorem cd_M_samePath_41 : decode cb_M_samePath 41 = .ok (.iload 4, 2) := by decide +kernel
theorem cd_M_samePath_43 : decode cb_M_samePath 43 = .ok (.iaload, 1) := by decide +kernel
theorem cd_M_samePath_44 : decode cb_M_samePath 44 = .ok (.istore 4, 2) := by decide +kernel
theorem cd_M_samePath_46 : decode cb_M_samePath 46 = .ok (.goto (-41), 3) := by decide +kernel
theorem cd_M_samePath_49 : decode cb_M_samePath 49 = .ok (.iload_n 3, 1) := by decide +kernel
theorem cd_M_samePath_50 : decode cb_M_samePath 50 = .ok (.ifCond .ge 12, 3) := by decide +kernel
theorem cd_M_samePath_53 : decode cb_M_samePath 53 = .ok (.iload 4, 2) := by decide +kernel
theorem cd_M_samePath_55 : decode cb_M_samePath 55 = .ok (.ifCond .ge 7, 3) := by decide +kernel
theorem cd_M_samePath_58 : decode cb_M_samePath 58 = .ok (.iconst 1, 1) := by decide +kernel
theorem cd_M_samePath_59 : decode cb_M_samePath 59 = .ok (.goto 4, 3) := by decide +kernel
theorem cd_M_samePath_62 : decode cb_M_samePath 62 = .ok (.iconst 0, 1) := by decide +kernel
theorem cd_M_samePath_63 : decode cb_M_samePath 63 = .ok (.ireturn, 1) := by decide +kernel
theorem cd_M_differs_0 : decode cb_M_differs 0 = .ok (.aload_n 0, 1) := by decide +kernel
theorem cd_M_differs_1 : decode cb_M_differs 1 = .ok (.getfield 42, 3) := by decide +kernel
theorem cd_M_differs_4 : decode cb_M_differs 4 = .ok (.iload_n 1, 1) := by decide +kernel
theorem cd_M_differs_5 : decode cb_M_differs 5 = .ok (.iaload, 1) := by decide +kernel
theorem cd_M_differs_6 : decode cb_M_differs 6 = .ok (.aload_n 0, 1) := by decide +kernel
theorem cd_M_differs_7 : decode cb_M_differs 7 = .ok (.getfield 42, 3) := by decide +kernel
theorem cd_M_differs_10 : decode cb_M_differs 10 = .ok (.iload_n 2, 1) := by decide +kernel
theorem cd_M_differs_11 : decode cb_M_differs 11 = .ok (.iaload, 1) := by decide +kernel
theorem cd_M_differs_12 : decode cb_M_differs 12 = .ok (.if_icmp .ne 7, 3) := by decide +kernel
theorem cd_M_differs_15 : decode cb_M_differs 15 = .ok (.iconst 1, 1) := by decide +kernel
theorem cd_M_differs_16 : decode cb_M_differs 16 = .ok (.goto 4, 3) := by decide +kernel
theorem cd_M_differs_19 : decode cb_M_differs 19 = .ok (.iconst 0, 1) := by decide +kernel
theorem cd_M_differs_20 : decode cb_M_differs 20 = .ok (.istore_n 3, 1) := by decide +kernel
theorem cd_M_differs_21 : decode cb_M_differs 21 = .ok (.iconst 0, 1) := by decide +kernel
theorem cd_M_differs_22 : decode cb_M_differs 22 = .ok (.istore 4, 2) := by decide +kernel
theorem cd_M_differs_24 : decode cb_M_differs 24 = .ok (.iload 4, 2) := by decide +kernel
theorem cd_M_differs_26 : decode cb_M_differs 26 = .ok (.aload_n 0, 1) := by decide +kernel
theorem cd_M_differs_27 : decode cb_M_differs 27 = .ok (.getfield 42, 3) := by decide +kernel
theorem cd_M_differs_30 : decode cb_M_differs 30 = .ok (.iload_n 1, 1) := by decide +kernel
theorem cd_M_differs_31 : decode cb_M_differs 31 = .ok (.iaload, 1) := by decide +kernel
theorem cd_M_differs_32 : decode cb_M_differs 32 = .ok (.if_icmp .ge 46, 3) := by decide +kernel
theorem cd_M_differs_35 : decode cb_M_differs 35 = .ok (.iload_n 3, 1) := by decide +kernel
theorem cd_M_differs_36 : decode cb_M_differs 36 = .ok (.ifCond .eq 42, 3) := by decide +kernel
theorem cd_M_differs_39 : decode cb_M_differs 39 = .ok (.aload_n 0, 1) := by decide +kernel
theorem cd_M_differs_40 : decode cb_M_differs 40 = .ok (.getfield 45, 3) := by decide +kernel
theorem cd_M_differs_43 : decode cb_M_differs 43 = .ok (.bipush 16, 2) := by decide +kernel
theorem cd_M_differs_45 : decode cb_M_differs 45 = .ok (.iload_n 1, 1) := by decide +kernel
theorem cd_M_differs_46 : decode cb_M_differs 46 = .ok (.imul, 1) := by decide +kernel
theorem cd_M_differs_47 : decode cb_M_differs 47 = .ok (.iload 4, 2) := by decide +kernel
theorem cd_M_differs_49 : decode cb_M_differs 49 = .ok (.iadd, 1) := by decide +kernel
theorem cd_M_differs_50 : decode cb_M_differs 50 = .ok (.baload, 1) := by decide +kernel
theorem cd_M_differs_51 : decode cb_M_differs 51 = .ok (.aload_n 0, 1) := by decide +kernel
theorem cd_M_differs_52 : decode cb_M_differs 52 = .ok (.getfield 45, 3) := by decide +kernel
theorem cd_M_differs_55 : decode cb_M_differs 55 = .ok (.bipush 16, 2) := by decide +kernel
theorem cd_M_differs_57 : decode cb_M_differs 57 = .ok (.iload_n 2, 1) := by decide +kernel
theorem cd_M_differs_58 : decode cb_M_differs 58 = .ok (.imul, 1) := by decide +kernel
theorem cd_M_differs_59 : decode cb_M_differs 59 = .ok (.iload 4, 2) := by decide +kernel
theorem cd_M_differs_61 : decode cb_M_differs 61 = .ok (.iadd, 1) := by decide +kernel
theorem cd_M_differs_62 : decode cb_M_differs 62 = .ok (.baload, 1) := by decide +kernel
theorem cd_M_differs_63 : decode cb_M_differs 63 = .ok (.if_icmp .ne 7, 3) := by decide +kernel
theorem cd_M_differs_66 : decode cb_M_differs 66 = .ok (.iconst 1, 1) := by decide +kernel
theorem cd_M_differs_67 : decode cb_M_differs 67 = .ok (.goto 4, 3) := by decide +kernel
theorem cd_M_differs_70 : decode cb_M_differs 70 = .ok (.iconst 0, 1) := by decide +kernel
theorem cd_M_differs_71 : decode cb_M_differs 71 = .ok (.istore_n 3, 1) := by decide +kernel
theorem cd_M_differs_72 : decode cb_M_differs 72 = .ok (.iinc 4 1, 3) := by decide +kernel
theorem cd_M_differs_75 : decode cb_M_differs 75 = .ok (.goto (-51), 3) := by decide +kernel
theorem cd_M_differs_78 : decode cb_M_differs 78 = .ok (.aload_n 0, 1) := by decide +kernel
theorem cd_M_differs_79 : decode cb_M_differs 79 = .ok (.getfield 27, 3) := by decide +kernel
theorem cd_M_differs_82 : decode cb_M_differs 82 = .ok (.iload_n 1, 1) := by decide +kernel
theorem cd_M_differs_83 : decode cb_M_differs 83 = .ok (.iaload, 1) := by decide +kernel
theorem cd_M_differs_84 : decode cb_M_differs 84 = .ok (.aload_n 0, 1) := by decide +kernel
theorem cd_M_differs_85 : decode cb_M_differs 85 = .ok (.getfield 27, 3) := by decide +kernel
theorem cd_M_differs_88 : decode cb_M_differs 88 = .ok (.iload_n 2, 1) := by decide +kernel
theorem cd_M_differs_89 : decode cb_M_differs 89 = .ok (.iaload, 1) := by decide +kernel
theorem cd_M_differs_90 : decode cb_M_differs 90 = .ok (.if_icmp .ne 37, 3) := by decide +kernel
theorem cd_M_differs_93 : decode cb_M_differs 93 = .ok (.aload_n 0, 1) := by decide +kernel
theorem cd_M_differs_94 : decode cb_M_differs 94 = .ok (.getfield 30, 3) := by decide +kernel
theorem cd_M_differs_97 : decode cb_M_differs 97 = .ok (.iload_n 1, 1) := by decide +kernel
theorem cd_M_differs_98 : decode cb_M_differs 98 = .ok (.iaload, 1) := by decide +kernel
theorem cd_M_differs_99 : decode cb_M_differs 99 = .ok (.aload_n 0, 1) := by decide +kernel
theorem cd_M_differs_100 : decode cb_M_differs 100 = .ok (.getfield 30, 3) := by decide +kernel
theorem cd_M_differs_103 : decode cb_M_differs 103 = .ok (.iload_n 2, 1) := by decide +kernel
theorem cd_M_differs_104 : decode cb_M_differs 104 = .ok (.iaload, 1) := by decide +kernel
theorem cd_M_differs_105 : decode cb_M_differs 105 = .ok (.if_icmp .ne 22, 3) := by decide +kernel
theorem cd_M_differs_108 : decode cb_M_differs 108 = .ok (.aload_n 0, 1) := by decide +kernel
theorem cd_M_differs_109 : decode cb_M_differs 109 = .ok (.getfield 33, 3) := by decide +kernel
theorem cd_M_differs_112 : decode cb_M_differs 112 = .ok (.iload_n 1, 1) := by decide +kernel
theorem cd_M_differs_113 : decode cb_M_differs 113 = .ok (.iaload, 1) := by decide +kernel
theorem cd_M_differs_114 : decode cb_M_differs 114 = .ok (.aload_n 0, 1) := by decide +kernel
theorem cd_M_differs_115 : decode cb_M_differs 115 = .ok (.getfield 33, 3) := by decide +kernel
theorem cd_M_differs_118 : decode cb_M_differs 118 = .ok (.iload_n 2, 1) := by decide +kernel
theorem cd_M_differs_119 : decode cb_M_differs 119 = .ok (.iaload, 1) := by decide +kernel
theorem cd_M_differs_120 : decode cb_M_differs 120 = .ok (.if_icmp .ne 7, 3) := by decide +kernel
theorem cd_M_differs_123 : decode cb_M_differs 123 = .ok (.iconst 1, 1) := by decide +kernel
theorem cd_M_differs_124 : decode cb_M_differs 124 = .ok (.goto 4, 3) := by decide +kernel
theorem cd_M_differs_127 : decode cb_M_differs 127 = .ok (.iconst 0, 1) := by decide +kernel
theorem cd_M_differs_128 : decode cb_M_differs 128 = .ok (.istore 4, 2) := by decide +kernel
theorem cd_M_differs_130 : decode cb_M_differs 130 = .ok (.aload_n 0, 1) := by decide +kernel
theorem cd_M_differs_131 : decode cb_M_differs 131 = .ok (.getfield 36, 3) := by decide +kernel
theorem cd_M_differs_134 : decode cb_M_differs 134 = .ok (.iload_n 1, 1) := by decide +kernel
theorem cd_M_differs_135 : decode cb_M_differs 135 = .ok (.iaload, 1) := by decide +kernel
theorem cd_M_differs_136 : decode cb_M_differs 136 = .ok (.aload_n 0, 1) := by decide +kernel
theorem cd_M_differs_137 : decode cb_M_differs 137 = .ok (.getfield 36, 3) := by decide +kernel
theorem cd_M_differs_140 : decode cb_M_differs 140 = .ok (.iload_n 2, 1) := by decide +kernel
theorem cd_M_differs_141 : decode cb_M_differs 141 = .ok (.iaload, 1) := by decide +kernel
theorem cd_M_differs_142 : decode cb_M_differs 142 = .ok (.if_icmp .ne 22, 3) := by decide +kernel
theorem cd_M_differs_145 : decode cb_M_differs 145 = .ok (.aload_n 0, 1) := by decide +kernel
theorem cd_M_differs_146 : decode cb_M_differs 146 = .ok (.getfield 39, 3) := by decide +kernel
theorem cd_M_differs_149 : decode cb_M_differs 149 = .ok (.iload_n 1, 1) := by decide +kernel
theorem cd_M_differs_150 : decode cb_M_differs 150 = .ok (.iaload, 1) := by decide +kernel
theorem cd_M_differs_151 : decode cb_M_differs 151 = .ok (.aload_n 0, 1) := by decide +kernel
theorem cd_M_differs_152 : decode cb_M_differs 152 = .ok (.getfield 39, 3) := by decide +kernel
theorem cd_M_differs_155 : decode cb_M_differs 155 = .ok (.iload_n 2, 1) := by decide +kernel
theorem cd_M_differs_156 : decode cb_M_differs 156 = .ok (.iaload, 1) := by decide +kernel
theorem cd_M_differs_157 : decode cb_M_differs 157 = .ok (.if_icmp .ne 7, 3) := by decide +kernel
theorem cd_M_differs_160 : decode cb_M_differs 160 = .ok (.iconst 1, 1) := by decide +kernel
theorem cd_M_differs_161 : decode cb_M_differs 161 = .ok (.goto 4, 3) := by decide +kernel
theorem cd_M_differs_164 : decode cb_M_differs 164 = .ok (.iconst 0, 1) := by decide +kernel
theorem cd_M_differs_165 : decode cb_M_differs 165 = .ok (.istore 5, 2) := by decide +kernel
theorem cd_M_differs_167 : decode cb_M_differs 167 = .ok (.iload_n 3, 1) := by decide +kernel
theorem cd_M_differs_168 : decode cb_M_differs 168 = .ok (.ifCond .eq 7, 3) := by decide +kernel
theorem cd_M_differs_171 : decode cb_M_differs 171 = .ok (.iconst 0, 1) := by decide +kernel
theorem cd_M_differs_172 : decode cb_M_differs 172 = .ok (.goto 4, 3) := by decide +kernel
theorem cd_M_differs_175 : decode cb_M_differs 175 = .ok (.iconst 1, 1) := by decide +kernel
theorem cd_M_differs_176 : decode cb_M_differs 176 = .ok (.iload 4, 2) := by decide +kernel
theorem cd_M_differs_178 : decode cb_M_differs 178 = .ok (.ifCond .eq 7, 3) := by decide +kernel
theorem cd_M_differs_181 : decode cb_M_differs 181 = .ok (.iconst 0, 1) := by decide +kernel
theorem cd_M_differs_182 : decode cb_M_differs 182 = .ok (.goto 4, 3) := by decide +kernel
theorem cd_M_differs_185 : decode cb_M_differs 185 = .ok (.iconst 2, 1) := by decide +kernel
theorem cd_M_differs_186 : decode cb_M_differs 186 = .ok (.iadd, 1) := by decide +kernel
theorem cd_M_differs_187 : decode cb_M_differs 187 = .ok (.iload 5, 2) := by decide +kernel
theorem cd_M_differs_189 : decode cb_M_differs 189 = .ok (.ifCond .eq 7, 3) := by decide +kernel
theorem cd_M_differs_192 : decode cb_M_differs 192 = .ok (.iconst 0, 1) := by decide +kernel
theorem cd_M_differs_193 : decode cb_M_differs 193 = .ok (.goto 4, 3) := by decide +kernel
theorem cd_M_differs_196 : decode cb_M_differs 196 = .ok (.iconst 4, 1) := by decide +kernel
theorem cd_M_differs_197 : decode cb_M_differs 197 = .ok (.iadd, 1) := by decide +kernel
theorem cd_M_differs_198 : decode cb_M_differs 198 = .ok (.ireturn, 1) := by decide +kernel
theorem cd_M_merge_0 : decode cb_M_merge 0 = .ok (.aload_n 0, 1) := by decide +kernel
theorem cd_M_merge_1 : decode cb_M_merge 1 = .ok (.aload_n 0, 1) := by decide +kernel
theorem cd_M_merge_2 : decode cb_M_merge 2 = .ok (.invokevirtual 139, 3) := by decide +kernel
theorem cd_M_merge_5 : decode cb_M_merge 5 = .ok (.ifCond .eq 7, 3) := by decide +kernel
theorem cd_M_merge_8 : decode cb_M_merge 8 = .ok (.iconst 0, 1) := by decide +kernel
theorem cd_M_merge_9 : decode cb_M_merge 9 = .ok (.goto 4, 3) := by decide +kernel
theorem cd_M_merge_12 : decode cb_M_merge 12 = .ok (.iconst 1, 1) := by decide +kernel
theorem cd_M_merge_13 : decode cb_M_merge 13 = .ok (.putfield 79, 3) := by decide +kernel
theorem cd_M_merge_16 : decode cb_M_merge 16 = .ok (.aload_n 0, 1) := by decide +kernel
theorem cd_M_merge_17 : decode cb_M_merge 17 = .ok (.getfield 79, 3) := by decide +kernel
theorem cd_M_merge_20 : decode cb_M_merge 20 = .ok (.ifCond .le 5, 3) := by decide +kernel
theorem cd_M_merge_23 : decode cb_M_merge 23 = .ok (.iconst 0, 1) := by decide +kernel
theorem cd_M_merge_24 : decode cb_M_merge 24 = .ok (.ireturn, 1) := by decide +kernel
theorem cd_M_merge_25 : decode cb_M_merge 25 = .ok (.aload_n 0, 1) := by decide +kernel
theorem cd_M_merge_26 : decode cb_M_merge 26 = .ok (.iconst 0, 1) := by decide +kernel
theorem cd_M_merge_27 : decode cb_M_merge 27 = .ok (.putfield 171, 3) := by decide +kernel
theorem cd_M_merge_30 : decode cb_M_merge 30 = .ok (.bipush 100, 2) := by decide +kernel
theorem cd_M_merge_32 : decode cb_M_merge 32 = .ok (.istore_n 1, 1) := by decide +kernel
theorem cd_M_merge_33 : decode cb_M_merge 33 = .ok (.iload_n 1, 1) := by decide +kernel
theorem cd_M_merge_34 : decode cb_M_merge 34 = .ok (.bipush 100, 2) := by decide +kernel
theorem cd_M_merge_36 : decode cb_M_merge 36 = .ok (.aload_n 0, 1) := by decide +kernel
theorem cd_M_merge_37 : decode cb_M_merge 37 = .ok (.getfield 133, 3) := by decide +kernel
theorem cd_M_merge_40 : decode cb_M_merge 40 = .ok (.iadd, 1) := by decide +kernel
theorem cd_M_merge_41 : decode cb_M_merge 41 = .ok (.if_icmp .ge 113, 3) := by decide +kernel
theorem cd_M_merge_44 : decode cb_M_merge 44 = .ok (.iconst 0, 1) := by decide +kernel
theorem cd_M_merge_45 : decode cb_M_merge 45 = .ok (.istore_n 2, 1) := by decide +kernel
theorem cd_M_merge_46 : decode cb_M_merge 46 = .ok (.iload_n 2, 1) := by decide +kernel
theorem cd_M_merge_47 : decode cb_M_merge 47 = .ok (.aload_n 0, 1) := by decide +kernel
theorem cd_M_merge_48 : decode cb_M_merge 48 = .ok (.getfield 82, 3) := by decide +kernel
theorem cd_M_merge_51 : decode cb_M_merge 51 = .ok (.if_icmp .ge 18, 3) := by decide +kernel
theorem cd_M_merge_54 : decode cb_M_merge 54 = .ok (.aload_n 0, 1) := by decide +kernel
theorem cd_M_merge_55 : decode cb_M_merge 55 = .ok (.iload_n 2, 1) := by decide +kernel
theorem cd_M_merge_56 : decode cb_M_merge 56 = .ok (.iload_n 1, 1) := by decide +kernel
theorem cd_M_merge_57 : decode cb_M_merge 57 = .ok (.invokevirtual 174, 3) := by decide +kernel
theorem cd_M_merge_60 : decode cb_M_merge 60 = .ok (.ifCond .ne 9, 3) := by decide +kernel
theorem cd_M_merge_63 : decode cb_M_merge 63 = .ok (.iinc 2 1, 3) := by decide +kernel
theorem cd_M_merge_66 : decode cb_M_merge 66 = .ok (.goto (-20), 3) := by decide +kernel
theorem cd_M_merge_69 : decode cb_M_merge 69 = .ok (.iload_n 2, 1) := by decide +kernel
theorem cd_M_merge_70 : decode cb_M_merge 70 = .ok (.aload_n 0, 1) := by decide +kernel
theorem cd_M_merge_71 : decode cb_M_merge 71 = .ok (.getfield 82, 3) := by decide +kernel
theorem cd_M_merge_74 : decode cb_M_merge 74 = .ok (.if_icmp .eq 74, 3) := by decide +kernel
theorem cd_M_merge_77 : decode cb_M_merge 77 = .ok (.aload_n 0, 1) := by decide +kernel
theorem cd_M_merge_78 : decode cb_M_merge 78 = .ok (.iload_n 2, 1) := by decide +kernel
theorem cd_M_merge_79 : decode cb_M_merge 79 = .ok (.iload_n 1, 1) := by decide +kernel
theorem cd_M_merge_80 : decode cb_M_merge 80 = .ok (.invokevirtual 177, 3) := by decide +kernel
theorem cd_M_merge_83 : decode cb_M_merge 83 = .ok (.ifCond .ne 6, 3) := by decide +kernel
theorem cd_M_merge_86 : decode cb_M_merge 86 = .ok (.goto 62, 3) := by decide +kernel
theorem cd_M_merge_89 : decode cb_M_merge 89 = .ok (.aload_n 0, 1) := by decide +kernel
theorem cd_M_merge_90 : decode cb_M_merge 90 = .ok (.getfield 67, 3) := by decide +kernel
theorem cd_M_merge_93 : decode cb_M_merge 93 = .ok (.aload_n 0, 1) := by decide +kernel
theorem cd_M_merge_94 : decode cb_M_merge 94 = .ok (.getfield 171, 3) := by decide +kernel
theorem cd_M_merge_97 : decode cb_M_merge 97 = .ok (.iload_n 2, 1) := by decide +kernel
theorem cd_M_merge_98 : decode cb_M_merge 98 = .ok (.iastore, 1) := by decide +kernel
theorem cd_M_merge_99 : decode cb_M_merge 99 = .ok (.aload_n 0, 1) := by decide +kernel
theorem cd_M_merge_100 : decode cb_M_merge 100 = .ok (.sipush 200, 3) := by decide +kernel
theorem cd_M_merge_103 : decode cb_M_merge 103 = .ok (.aload_n 0, 1) := by decide +kernel
theorem cd_M_merge_104 : decode cb_M_merge 104 = .ok (.getfield 171, 3) := by decide +kernel
theorem cd_M_merge_107 : decode cb_M_merge 107 = .ok (.iadd, 1) := by decide +kernel
theorem cd_M_merge_108 : decode cb_M_merge 108 = .ok (.iload_n 1, 1) := by decide +kernel
theorem cd_M_merge_109 : decode cb_M_merge 109 = .ok (.iconst 0, 1) := by decide +kernel
theorem cd_M_merge_110 : decode cb_M_merge 110 = .ok (.invokevirtual 146, 3) := by decide +kernel
theorem cd_M_merge_113 : decode cb_M_merge 113 = .ok (.aload_n 0, 1) := by decide +kernel
theorem cd_M_merge_114 : decode cb_M_merge 114 = .ok (.getfield 70, 3) := by decide +kernel
theorem cd_M_merge_117 : decode cb_M_merge 117 = .ok (.aload_n 0, 1) := by decide +kernel
theorem cd_M_merge_118 : decode cb_M_merge 118 = .ok (.getfield 171, 3) := by decide +kernel
theorem cd_M_merge_121 : decode cb_M_merge 121 = .ok (.aload_n 0, 1) := by decide +kernel
theorem cd_M_merge_122 : decode cb_M_merge 122 = .ok (.iload_n 2, 1) := by decide +kernel
theorem cd_M_merge_123 : decode cb_M_merge 123 = .ok (.iload_n 1, 1) := by decide +kernel
theorem cd_M_merge_124 : decode cb_M_merge 124 = .ok (.invokevirtual 177, 3) := by decide +kernel
theorem cd_M_merge_127 : decode cb_M_merge 127 = .ok (.iastore, 1) := by decide +kernel
theorem cd_M_merge_128 : decode cb_M_merge 128 = .ok (.aload_n 0, 1) := by decide +kernel
theorem cd_M_merge_129 : decode cb_M_merge 129 = .ok (.getfield 73, 3) := by decide +kernel
theorem cd_M_merge_132 : decode cb_M_merge 132 = .ok (.aload_n 0, 1) := by decide +kernel
theorem cd_M_merge_133 : decode cb_M_merge 133 = .ok (.getfield 171, 3) := by decide +kernel
theorem cd_M_merge_136 : decode cb_M_merge 136 = .ok (.iconst 0, 1) := by decide +kernel
theorem cd_M_merge_137 : decode cb_M_merge 137 = .ok (.bastore, 1) := by decide +kernel
theorem cd_M_merge_138 : decode cb_M_merge 138 = .ok (.aload_n 0, 1) := by decide +kernel
theorem cd_M_merge_139 : decode cb_M_merge 139 = .ok (.dup, 1) := by decide +kernel
theorem cd_M_merge_140 : decode cb_M_merge 140 = .ok (.getfield 171, 3) := by decide +kernel
theorem cd_M_merge_143 : decode cb_M_merge 143 = .ok (.iconst 1, 1) := by decide +kernel
theorem cd_M_merge_144 : decode cb_M_merge 144 = .ok (.iadd, 1) := by decide +kernel
theorem cd_M_merge_145 : decode cb_M_merge 145 = .ok (.putfield 171, 3) := by decide +kernel
theorem cd_M_merge_148 : decode cb_M_merge 148 = .ok (.iinc 1 1, 3) := by decide +kernel
theorem cd_M_merge_151 : decode cb_M_merge 151 = .ok (.goto (-118), 3) := by decide +kernel
theorem cd_M_merge_154 : decode cb_M_merge 154 = .ok (.aload_n 0, 1) := by decide +kernel
theorem cd_M_merge_155 : decode cb_M_merge 155 = .ok (.iconst 1, 1) := by decide +kernel
theorem cd_M_merge_156 : decode cb_M_merge 156 = .ok (.putfield 142, 3) := by decide +kernel
theorem cd_M_merge_159 : decode cb_M_merge 159 = .ok (.aload_n 0, 1) := by decide +kernel
theorem cd_M_merge_160 : decode cb_M_merge 160 = .ok (.getfield 171, 3) := by decide +kernel
theorem cd_M_merge_163 : decode cb_M_merge 163 = .ok (.ireturn, 1) := by decide +kernel
theorem cd_M_ask_0 : decode cb_M_ask 0 = .ok (.aload_n 0, 1) := by decide +kernel
theorem cd_M_ask_1 : decode cb_M_ask 1 = .ok (.iconst 0, 1) := by decide +kernel
theorem cd_M_ask_2 : decode cb_M_ask 2 = .ok (.putfield 79, 3) := by decide +kernel
theorem cd_M_ask_5 : decode cb_M_ask 5 = .ok (.iload_n 1, 1) := by decide +kernel
theorem cd_M_ask_6 : decode cb_M_ask 6 = .ok (.iconst 0, 1) := by decide +kernel
theorem cd_M_ask_7 : decode cb_M_ask 7 = .ok (.aload_n 0, 1) := by decide +kernel
theorem cd_M_ask_8 : decode cb_M_ask 8 = .ok (.getfield 171, 3) := by decide +kernel
theorem cd_M_ask_11 : decode cb_M_ask 11 = .ok (.iconst 1, 1) := by decide +kernel
theorem cd_M_ask_12 : decode cb_M_ask 12 = .ok (.isub, 1) := by decide +kernel
theorem cd_M_ask_13 : decode cb_M_ask 13 = .ok (.invokestatic 85, 3) := by decide +kernel
theorem cd_M_ask_16 : decode cb_M_ask 16 = .ok (.ifCond .eq 12, 3) := by decide +kernel
theorem cd_M_ask_19 : decode cb_M_ask 19 = .ok (.iload_n 2, 1) := by decide +kernel
theorem cd_M_ask_20 : decode cb_M_ask 20 = .ok (.iconst 0, 1) := by decide +kernel
theorem cd_M_ask_21 : decode cb_M_ask 21 = .ok (.iconst 1, 1) := by decide +kernel
theorem cd_M_ask_22 : decode cb_M_ask 22 = .ok (.invokestatic 85, 3) := by decide +kernel
theorem cd_M_ask_25 : decode cb_M_ask 25 = .ok (.ifCond .ne 7, 3) := by decide +kernel
theorem cd_M_ask_28 : decode cb_M_ask 28 = .ok (.iconst (-1), 1) := by decide +kernel
theorem cd_M_ask_29 : decode cb_M_ask 29 = .ok (.goto 22, 3) := by decide +kernel
theorem cd_M_ask_32 : decode cb_M_ask 32 = .ok (.iload_n 2, 1) := by decide +kernel
theorem cd_M_ask_33 : decode cb_M_ask 33 = .ok (.ifCond .ne 12, 3) := by decide +kernel
theorem cd_M_ask_36 : decode cb_M_ask 36 = .ok (.aload_n 0, 1) := by decide +kernel
theorem cd_M_ask_37 : decode cb_M_ask 37 = .ok (.getfield 67, 3) := by decide +kernel
theorem cd_M_ask_40 : decode cb_M_ask 40 = .ok (.iload_n 1, 1) := by decide +kernel
theorem cd_M_ask_41 : decode cb_M_ask 41 = .ok (.iaload, 1) := by decide +kernel
theorem cd_M_ask_42 : decode cb_M_ask 42 = .ok (.goto 9, 3) := by decide +kernel
theorem cd_M_ask_45 : decode cb_M_ask 45 = .ok (.aload_n 0, 1) := by decide +kernel
theorem cd_M_ask_46 : decode cb_M_ask 46 = .ok (.getfield 70, 3) := by decide +kernel
theorem cd_M_ask_49 : decode cb_M_ask 49 = .ok (.iload_n 1, 1) := by decide +kernel
theorem cd_M_ask_50 : decode cb_M_ask 50 = .ok (.iaload, 1) := by decide +kernel
theorem cd_M_ask_51 : decode cb_M_ask 51 = .ok (.ireturn, 1) := by decide +kernel
theorem cd_M_take_0 : decode cb_M_take 0 = .ok (.aload_n 0, 1) := by decide +kernel
theorem cd_M_take_1 : decode cb_M_take 1 = .ok (.iconst 0, 1) := by decide +kernel
theorem cd_M_take_2 : decode cb_M_take 2 = .ok (.putfield 79, 3) := by decide +kernel
theorem cd_M_take_5 : decode cb_M_take 5 = .ok (.iload_n 1, 1) := by decide +kernel
theorem cd_M_take_6 : decode cb_M_take 6 = .ok (.iconst 0, 1) := by decide +kernel
theorem cd_M_take_7 : decode cb_M_take 7 = .ok (.aload_n 0, 1) := by decide +kernel
theorem cd_M_take_8 : decode cb_M_take 8 = .ok (.getfield 171, 3) := by decide +kernel
theorem cd_M_take_11 : decode cb_M_take 11 = .ok (.iconst 1, 1) := by decide +kernel
theorem cd_M_take_12 : decode cb_M_take 12 = .ok (.isub, 1) := by decide +kernel
theorem cd_M_take_13 : decode cb_M_take 13 = .ok (.invokestatic 85, 3) := by decide +kernel
theorem cd_M_take_16 : decode cb_M_take 16 = .ok (.ifCond .ne 5, 3) := by decide +kernel
theorem cd_M_take_19 : decode cb_M_take 19 = .ok (.iconst (-1), 1) := by decide +kernel
theorem cd_M_take_20 : decode cb_M_take 20 = .ok (.ireturn, 1) := by decide +kernel
theorem cd_M_take_21 : decode cb_M_take 21 = .ok (.aload_n 0, 1) := by decide +kernel
theorem cd_M_take_22 : decode cb_M_take 22 = .ok (.getfield 73, 3) := by decide +kernel
theorem cd_M_take_25 : decode cb_M_take 25 = .ok (.iload_n 1, 1) := by decide +kernel
theorem cd_M_take_26 : decode cb_M_take 26 = .ok (.baload, 1) := by decide +kernel
theorem cd_M_take_27 : decode cb_M_take 27 = .ok (.ifCond .ne 10, 3) := by decide +kernel
theorem cd_M_take_30 : decode cb_M_take 30 = .ok (.aload_n 0, 1) := by decide +kernel
theorem cd_M_take_31 : decode cb_M_take 31 = .ok (.getfield 142, 3) := by decide +kernel
theorem cd_M_take_34 : decode cb_M_take 34 = .ok (.ifCond .ne 5, 3) := by decide +kernel
theorem cd_M_take_37 : decode cb_M_take 37 = .ok (.iconst 0, 1) := by decide +kernel
theorem cd_M_take_38 : decode cb_M_take 38 = .ok (.ireturn, 1) := by decide +kernel
theorem cd_M_take_39 : decode cb_M_take 39 = .ok (.aload_n 0, 1) := by decide +kernel
theorem cd_M_take_40 : decode cb_M_take 40 = .ok (.getfield 73, 3) := by decide +kernel
theorem cd_M_take_43 : decode cb_M_take 43 = .ok (.iload_n 1, 1) := by decide +kernel
theorem cd_M_take_44 : decode cb_M_take 44 = .ok (.iconst 1, 1) := by decide +kernel
theorem cd_M_take_45 : decode cb_M_take 45 = .ok (.bastore, 1) := by decide +kernel
theorem cd_M_take_46 : decode cb_M_take 46 = .ok (.aload_n 0, 1) := by decide +kernel
theorem cd_M_take_47 : decode cb_M_take 47 = .ok (.aload_n 0, 1) := by decide +kernel
theorem cd_M_take_48 : decode cb_M_take 48 = .ok (.getfield 67, 3) := by decide +kernel
theorem cd_M_take_51 : decode cb_M_take 51 = .ok (.iload_n 1, 1) := by decide +kernel
theorem cd_M_take_52 : decode cb_M_take 52 = .ok (.iaload, 1) := by decide +kernel
theorem cd_M_take_53 : decode cb_M_take 53 = .ok (.sipush 200, 3) := by decide +kernel
theorem cd_M_take_56 : decode cb_M_take 56 = .ok (.iload_n 1, 1) := by decide +kernel
theorem cd_M_take_57 : decode cb_M_take 57 = .ok (.iadd, 1) := by decide +kernel
theorem cd_M_take_58 : decode cb_M_take 58 = .ok (.iconst 0, 1) := by decide +kernel
theorem cd_M_take_59 : decode cb_M_take 59 = .ok (.invokevirtual 146, 3) := by decide +kernel
theorem cd_M_take_62 : decode cb_M_take 62 = .ok (.iconst 1, 1) := by decide +kernel
theorem cd_M_take_63 : decode cb_M_take 63 = .ok (.ireturn, 1) := by decide +kernel
theorem cd_M_put_0 : decode cb_M_put 0 = .ok (.aload_n 0, 1) := by decide +kernel
theorem cd_M_put_1 : decode cb_M_put 1 = .ok (.getfield 76, 3) := by decide +kernel
theorem cd_M_put_4 : decode cb_M_put 4 = .ok (.aload_n 0, 1) := by decide +kernel
theorem cd_M_put_5 : decode cb_M_put 5 = .ok (.getfield 181, 3) := by decide +kernel
theorem cd_M_put_8 : decode cb_M_put 8 = .ok (.iload_n 1, 1) := by decide +kernel
theorem cd_M_put_9 : decode cb_M_put 9 = .ok (.i2b, 1) := by decide +kernel
theorem cd_M_put_10 : decode cb_M_put 10 = .ok (.bastore, 1) := by decide +kernel
theorem cd_M_put_11 : decode cb_M_put 11 = .ok (.aload_n 0, 1) := by decide +kernel
theorem cd_M_put_12 : decode cb_M_put 12 = .ok (.dup, 1) := by decide +kernel
theorem cd_M_put_13 : decode cb_M_put 13 = .ok (.getfield 181, 3) := by decide +kernel
theorem cd_M_put_16 : decode cb_M_put 16 = .ok (.iconst 1, 1) := by decide +kernel
theorem cd_M_put_17 : decode cb_M_put 17 = .ok (.iadd, 1) := by decide +kernel
theorem cd_M_put_18 : decode cb_M_put 18 = .ok (.putfield 181, 3) := by decide +kernel
theorem cd_M_put_21 : decode cb_M_put 21 = .ok (.return_, 1) := by decide +kernel
theorem cd_M_digits_0 : decode cb_M_digits 0 = .ok (.sipush 1000, 3) := by decide +kernel
theorem cd_M_digits_3 : decode cb_M_digits 3 = .ok (.istore_n 2, 1) := by decide +kernel
theorem cd_M_digits_4 : decode cb_M_digits 4 = .ok (.iload_n 2, 1) := by decide +kernel
theorem cd_M_digits_5 : decode cb_M_digits 5 = .ok (.ifCond .le 29, 3) := by decide +kernel
theorem cd_M_digits_8 : decode cb_M_digits 8 = .ok (.iload_n 1, 1) := by decide +kernel
theorem cd_M_digits_9 : decode cb_M_digits 9 = .ok (.iload_n 2, 1) := by decide +kernel
theorem cd_M_digits_10 : decode cb_M_digits 10 = .ok (.if_icmp .lt 16, 3) := by decide +kernel
theorem cd_M_digits_13 : decode cb_M_digits 13 = .ok (.aload_n 0, 1) := by decide +kernel
theorem cd_M_digits_14 : decode cb_M_digits 14 = .ok (.bipush 48, 2) := by decide +kernel
theorem cd_M_digits_16 : decode cb_M_digits 16 = .ok (.iload_n 1, 1) := by decide +kernel
theorem cd_M_digits_17 : decode cb_M_digits 17 = .ok (.iload_n 2, 1) := by decide +kernel
theorem cd_M_digits_18 : decode cb_M_digits 18 = .ok (.idiv, 1) := by decide +kernel
theorem cd_M_digits_19 : decode cb_M_digits 19 = .ok (.bipush 10, 2) := by decide +kernel
theorem cd_M_digits_21 : decode cb_M_digits 21 = .ok (.irem, 1) := by decide +kernel
theorem cd_M_digits_22 : decode cb_M_digits 22 = .ok (.iadd, 1) := by decide +kernel
theorem cd_M_digits_23 : decode cb_M_digits 23 = .ok (.invokevirtual 184, 3) := by decide +kernel
theorem cd_M_digits_26 : decode cb_M_digits 26 = .ok (.iload_n 2, 1) := by decide +kernel
theorem cd_M_digits_27 : decode cb_M_digits 27 = .ok (.bipush 10, 2) := by decide +kernel
theorem cd_M_digits_29 : decode cb_M_digits 29 = .ok (.idiv, 1) := by decide +kernel
theorem cd_M_digits_30 : decode cb_M_digits 30 = .ok (.istore_n 2, 1) := by decide +kernel
theorem cd_M_digits_31 : decode cb_M_digits 31 = .ok (.goto (-27), 3) := by decide +kernel
theorem cd_M_digits_34 : decode cb_M_digits 34 = .ok (.return_, 1) := by decide +kernel
theorem cd_M_write_0 : decode cb_M_write 0 = .ok (.iconst 0, 1) := by decide +kernel
theorem cd_M_write_1 : decode cb_M_write 1 = .ok (.istore_n 2, 1) := by decide +kernel
theorem cd_M_write_2 : decode cb_M_write 2 = .ok (.iload_n 2, 1) := by decide +kernel
theorem cd_M_write_3 : decode cb_M_write 3 = .ok (.aload_n 0, 1) := by decide +kernel
theorem cd_M_write_4 : decode cb_M_write 4 = .ok (.iload_n 1, 1) := by decide +kernel
theorem cd_M_write_5 : decode cb_M_write 5 = .ok (.invokevirtual 103, 3) := by decide +kernel
theorem cd_M_write_8 : decode cb_M_write 8 = .ok (.if_icmp .ge 15, 3) := by decide +kernel
theorem cd_M_write_11 : decode cb_M_write 11 = .ok (.aload_n 0, 1) := by decide +kernel
theorem cd_M_write_12 : decode cb_M_write 12 = .ok (.bipush 43, 2) := by decide +kernel
theorem cd_M_write_14 : decode cb_M_write 14 = .ok (.invokevirtual 184, 3) := by decide +kernel
theorem cd_M_write_17 : decode cb_M_write 17 = .ok (.iinc 2 1, 3) := by decide +kernel
theorem cd_M_write_20 : decode cb_M_write 20 = .ok (.goto (-18), 3) := by decide +kernel
theorem cd_M_write_23 : decode cb_M_write 23 = .ok (.aload_n 0, 1) := by decide +kernel
theorem cd_M_write_24 : decode cb_M_write 24 = .ok (.aload_n 0, 1) := by decide +kernel
theorem cd_M_write_25 : decode cb_M_write 25 = .ok (.getfield 17, 3) := by decide +kernel
theorem cd_M_write_28 : decode cb_M_write 28 = .ok (.iload_n 1, 1) := by decide +kernel
theorem cd_M_write_29 : decode cb_M_write 29 = .ok (.iaload, 1) := by decide +kernel
theorem cd_M_write_30 : decode cb_M_write 30 = .ok (.ifCond .ne 8, 3) := by decide +kernel
theorem cd_M_write_33 : decode cb_M_write 33 = .ok (.bipush 102, 2) := by decide +kernel
theorem cd_M_write_35 : decode cb_M_write 35 = .ok (.goto 35, 3) := by decide +kernel
theorem cd_M_write_38 : decode cb_M_write 38 = .ok (.aload_n 0, 1) := by decide +kernel
theorem cd_M_write_39 : decode cb_M_write 39 = .ok (.getfield 17, 3) := by decide +kernel
theorem cd_M_write_42 : decode cb_M_write 42 = .ok (.iload_n 1, 1) := by decide +kernel
theorem cd_M_write_43 : decode cb_M_write 43 = .ok (.iaload, 1) := by decide +kernel
theorem cd_M_write_44 : decode cb_M_write 44 = .ok (.iconst 1, 1) := by decide +kernel
theorem cd_M_write_45 : decode cb_M_write 45 = .ok (.if_icmp .ne 8, 3) := by decide +kernel
theorem cd_M_write_48 : decode cb_M_write 48 = .ok (.bipush 115, 2) := by decide +kernel
theorem cd_M_write_50 : decode cb_M_write 50 = .ok (.goto 20, 3) := by decide +kernel
theorem cd_M_write_53 : decode cb_M_write 53 = .ok (.aload_n 0, 1) := by decide +kernel
theorem cd_M_write_54 : decode cb_M_write 54 = .ok (.getfield 17, 3) := by decide +kernel
theorem cd_M_write_57 : decode cb_M_write 57 = .ok (.iload_n 1, 1) := by decide +kernel
theorem cd_M_write_58 : decode cb_M_write 58 = .ok (.iaload, 1) := by decide +kernel
theorem cd_M_write_59 : decode cb_M_write 59 = .ok (.iconst 2, 1) := by decide +kernel
theorem cd_M_write_60 : decode cb_M_write 60 = .ok (.if_icmp .ne 8, 3) := by decide +kernel
theorem cd_M_write_63 : decode cb_M_write 63 = .ok (.bipush 117, 2) := by decide +kernel
theorem cd_M_write_65 : decode cb_M_write 65 = .ok (.goto 5, 3) := by decide +kernel
theorem cd_M_write_68 : decode cb_M_write 68 = .ok (.bipush 105, 2) := by decide +kernel
theorem cd_M_write_70 : decode cb_M_write 70 = .ok (.invokevirtual 184, 3) := by decide +kernel
theorem cd_M_write_73 : decode cb_M_write 73 = .ok (.aload_n 0, 1) := by decide +kernel
theorem cd_M_write_74 : decode cb_M_write 74 = .ok (.aload_n 0, 1) := by decide +kernel
theorem cd_M_write_75 : decode cb_M_write 75 = .ok (.getfield 21, 3) := by decide +kernel
theorem cd_M_write_78 : decode cb_M_write 78 = .ok (.iload_n 1, 1) := by decide +kernel
theorem cd_M_write_79 : decode cb_M_write 79 = .ok (.iaload, 1) := by decide +kernel
theorem cd_M_write_80 : decode cb_M_write 80 = .ok (.invokevirtual 188, 3) := by decide +kernel
theorem cd_M_write_83 : decode cb_M_write 83 = .ok (.aload_n 0, 1) := by decide +kernel
theorem cd_M_write_84 : decode cb_M_write 84 = .ok (.bipush 32, 2) := by decide +kernel
theorem cd_M_write_86 : decode cb_M_write 86 = .ok (.invokevirtual 184, 3) := by decide +kernel
theorem cd_M_write_89 : decode cb_M_write 89 = .ok (.iconst 0, 1) := by decide +kernel
theorem cd_M_write_90 : decode cb_M_write 90 = .ok (.istore_n 2, 1) := by decide +kernel
theorem cd_M_write_91 : decode cb_M_write 91 = .ok (.iload_n 2, 1) := by decide +kernel
theorem cd_M_write_92 : decode cb_M_write 92 = .ok (.aload_n 0, 1) := by decide +kernel
theorem cd_M_write_93 : decode cb_M_write 93 = .ok (.getfield 42, 3) := by decide +kernel
theorem cd_M_write_96 : decode cb_M_write 96 = .ok (.iload_n 1, 1) := by decide +kernel
theorem cd_M_write_97 : decode cb_M_write 97 = .ok (.iaload, 1) := by decide +kernel
theorem cd_M_write_98 : decode cb_M_write 98 = .ok (.if_icmp .ge 24, 3) := by decide +kernel
theorem cd_M_write_101 : decode cb_M_write 101 = .ok (.aload_n 0, 1) := by decide +kernel
theorem cd_M_write_102 : decode cb_M_write 102 = .ok (.aload_n 0, 1) := by decide +kernel
theorem cd_M_write_103 : decode cb_M_write 103 = .ok (.getfield 45, 3) := by decide +kernel
theorem cd_M_write_106 : decode cb_M_write 106 = .ok (.bipush 16, 2) := by decide +kernel
theorem cd_M_write_108 : decode cb_M_write 108 = .ok (.iload_n 1, 1) := by decide +kernel
theorem cd_M_write_109 : decode cb_M_write 109 = .ok (.imul, 1) := by decide +kernel
theorem cd_M_write_110 : decode cb_M_write 110 = .ok (.iload_n 2, 1) := by decide +kernel
theorem cd_M_write_111 : decode cb_M_write 111 = .ok (.iadd, 1) := by decide +kernel
theorem cd_M_write_112 : decode cb_M_write 112 = .ok (.baload, 1) := by decide +kernel
theorem cd_M_write_113 : decode cb_M_write 113 = .ok (.invokevirtual 184, 3) := by decide +kernel
theorem cd_M_write_116 : decode cb_M_write 116 = .ok (.iinc 2 1, 3) := by decide +kernel
theorem cd_M_write_119 : decode cb_M_write 119 = .ok (.goto (-28), 3) := by decide +kernel
theorem cd_M_write_122 : decode cb_M_write 122 = .ok (.aload_n 0, 1) := by decide +kernel
theorem cd_M_write_123 : decode cb_M_write 123 = .ok (.getfield 27, 3) := by decide +kernel
theorem cd_M_write_126 : decode cb_M_write 126 = .ok (.iload_n 1, 1) := by decide +kernel
theorem cd_M_write_127 : decode cb_M_write 127 = .ok (.iaload, 1) := by decide +kernel
theorem cd_M_write_128 : decode cb_M_write 128 = .ok (.ifCond .lt 72, 3) := by decide +kernel
theorem cd_M_write_131 : decode cb_M_write 131 = .ok (.aload_n 0, 1) := by decide +kernel
theorem cd_M_write_132 : decode cb_M_write 132 = .ok (.bipush 32, 2) := by decide +kernel
theorem cd_M_write_134 : decode cb_M_write 134 = .ok (.invokevirtual 184, 3) := by decide +kernel
theorem cd_M_write_137 : decode cb_M_write 137 = .ok (.aload_n 0, 1) := by decide +kernel
theorem cd_M_write_138 : decode cb_M_write 138 = .ok (.bipush 100, 2) := by decide +kernel
theorem cd_M_write_140 : decode cb_M_write 140 = .ok (.invokevirtual 184, 3) := by decide +kernel
theorem cd_M_write_143 : decode cb_M_write 143 = .ok (.aload_n 0, 1) := by decide +kernel
theorem cd_M_write_144 : decode cb_M_write 144 = .ok (.aload_n 0, 1) := by decide +kernel
theorem cd_M_write_145 : decode cb_M_write 145 = .ok (.getfield 27, 3) := by decide +kernel
theorem cd_M_write_148 : decode cb_M_write 148 = .ok (.iload_n 1, 1) := by decide +kernel
theorem cd_M_write_149 : decode cb_M_write 149 = .ok (.iaload, 1) := by decide +kernel
theorem cd_M_write_150 : decode cb_M_write 150 = .ok (.invokevirtual 188, 3) := by decide +kernel
theorem cd_M_write_153 : decode cb_M_write 153 = .ok (.aload_n 0, 1) := by decide +kernel
theorem cd_M_write_154 : decode cb_M_write 154 = .ok (.getfield 30, 3) := by decide +kernel
theorem cd_M_write_157 : decode cb_M_write 157 = .ok (.iload_n 1, 1) := by decide +kernel
theorem cd_M_write_158 : decode cb_M_write 158 = .ok (.iaload, 1) := by decide +kernel
theorem cd_M_write_159 : decode cb_M_write 159 = .ok (.aload_n 0, 1) := by decide +kernel
theorem cd_M_write_160 : decode cb_M_write 160 = .ok (.getfield 27, 3) := by decide +kernel
theorem cd_M_write_163 : decode cb_M_write 163 = .ok (.iload_n 1, 1) := by decide +kernel
theorem cd_M_write_164 : decode cb_M_write 164 = .ok (.iaload, 1) := by decide +kernel
theorem cd_M_write_165 : decode cb_M_write 165 = .ok (.if_icmp .eq 19, 3) := by decide +kernel
theorem cd_M_write_168 : decode cb_M_write 168 = .ok (.aload_n 0, 1) := by decide +kernel
theorem cd_M_write_169 : decode cb_M_write 169 = .ok (.bipush 45, 2) := by decide +kernel
theorem cd_M_write_171 : decode cb_M_write 171 = .ok (.invokevirtual 184, 3) := by decide +kernel
theorem cd_M_write_174 : decode cb_M_write 174 = .ok (.aload_n 0, 1) := by decide +kernel
theorem cd_M_write_175 : decode cb_M_write 175 = .ok (.aload_n 0, 1) := by decide +kernel
theorem cd_M_write_176 : decode cb_M_write 176 = .ok (.getfield 30, 3) := by decide +kernel
theorem cd_M_write_179 : decode cb_M_write 179 = .ok (.iload_n 1, 1) := by decide +kernel
theorem cd_M_write_180 : decode cb_M_write 180 = .ok (.iaload, 1) := by decide +kernel
theorem cd_M_write_181 : decode cb_M_write 181 = .ok (.invokevirtual 188, 3) := by decide +kernel
theorem cd_M_write_184 : decode cb_M_write 184 = .ok (.aload_n 0, 1) := by decide +kernel
theorem cd_M_write_185 : decode cb_M_write 185 = .ok (.getfield 33, 3) := by decide +kernel
theorem cd_M_write_188 : decode cb_M_write 188 = .ok (.iload_n 1, 1) := by decide +kernel
theorem cd_M_write_189 : decode cb_M_write 189 = .ok (.iaload, 1) := by decide +kernel
theorem cd_M_write_190 : decode cb_M_write 190 = .ok (.iconst 1, 1) := by decide +kernel
theorem cd_M_write_191 : decode cb_M_write 191 = .ok (.if_icmp .ne 9, 3) := by decide +kernel
theorem cd_M_write_194 : decode cb_M_write 194 = .ok (.aload_n 0, 1) := by decide +kernel
theorem cd_M_write_195 : decode cb_M_write 195 = .ok (.bipush 63, 2) := by decide +kernel
theorem cd_M_write_197 : decode cb_M_write 197 = .ok (.invokevirtual 184, 3) := by decide +kernel
theorem cd_M_write_200 : decode cb_M_write 200 = .ok (.aload_n 0, 1) := by decide +kernel
theorem cd_M_write_201 : decode cb_M_write 201 = .ok (.getfield 36, 3) := by decide +kernel
theorem cd_M_write_204 : decode cb_M_write 204 = .ok (.iload_n 1, 1) := by decide +kernel
theorem cd_M_write_205 : decode cb_M_write 205 = .ok (.iaload, 1) := by decide +kernel
theorem cd_M_write_206 : decode cb_M_write 206 = .ok (.ifCond .lt 60, 3) := by decide +kernel
theorem cd_M_write_209 : decode cb_M_write 209 = .ok (.aload_n 0, 1) := by decide +kernel
theorem cd_M_write_210 : decode cb_M_write 210 = .ok (.bipush 32, 2) := by decide +kernel
theorem cd_M_write_212 : decode cb_M_write 212 = .ok (.invokevirtual 184, 3) := by decide +kernel
theorem cd_M_write_215 : decode cb_M_write 215 = .ok (.aload_n 0, 1) := by decide +kernel
theorem cd_M_write_216 : decode cb_M_write 216 = .ok (.bipush 101, 2) := by decide +kernel
theorem cd_M_write_218 : decode cb_M_write 218 = .ok (.invokevirtual 184, 3) := by decide +kernel
theorem cd_M_write_221 : decode cb_M_write 221 = .ok (.aload_n 0, 1) := by decide +kernel
theorem cd_M_write_222 : decode cb_M_write 222 = .ok (.aload_n 0, 1) := by decide +kernel
theorem cd_M_write_223 : decode cb_M_write 223 = .ok (.getfield 36, 3) := by decide +kernel
theorem cd_M_write_226 : decode cb_M_write 226 = .ok (.iload_n 1, 1) := by decide +kernel
theorem cd_M_write_227 : decode cb_M_write 227 = .ok (.iaload, 1) := by decide +kernel
theorem cd_M_write_228 : decode cb_M_write 228 = .ok (.invokevirtual 188, 3) := by decide +kernel
theorem cd_M_write_231 : decode cb_M_write 231 = .ok (.aload_n 0, 1) := by decide +kernel
theorem cd_M_write_232 : decode cb_M_write 232 = .ok (.aload_n 0, 1) := by decide +kernel
theorem cd_M_write_233 : decode cb_M_write 233 = .ok (.getfield 39, 3) := by decide +kernel
theorem cd_M_write_236 : decode cb_M_write 236 = .ok (.iload_n 1, 1) := by decide +kernel
theorem cd_M_write_237 : decode cb_M_write 237 = .ok (.iaload, 1) := by decide +kernel
theorem cd_M_write_238 : decode cb_M_write 238 = .ok (.ifCond .ne 8, 3) := by decide +kernel
theorem cd_M_write_241 : decode cb_M_write 241 = .ok (.bipush 98, 2) := by decide +kernel
theorem cd_M_write_243 : decode cb_M_write 243 = .ok (.goto 20, 3) := by decide +kernel
theorem cd_M_write_246 : decode cb_M_write 246 = .ok (.aload_n 0, 1) := by decide +kernel
theorem cd_M_write_247 : decode cb_M_write 247 = .ok (.getfield 39, 3) := by decide +kernel
theorem cd_M_write_250 : decode cb_M_write 250 = .ok (.iload_n 1, 1) := by decide +kernel
theorem cd_M_write_251 : decode cb_M_write 251 = .ok (.iaload, 1) := by decide +kernel
theorem cd_M_write_252 : decode cb_M_write 252 = .ok (.iconst 1, 1) := by decide +kernel
theorem cd_M_write_253 : decode cb_M_write 253 = .ok (.if_icmp .ne 8, 3) := by decide +kernel
theorem cd_M_write_256 : decode cb_M_write 256 = .ok (.bipush 109, 2) := by decide +kernel
theorem cd_M_write_258 : decode cb_M_write 258 = .ok (.goto 5, 3) := by decide +kernel
theorem cd_M_write_261 : decode cb_M_write 261 = .ok (.bipush 112, 2) := by decide +kernel
theorem cd_M_write_263 : decode cb_M_write 263 = .ok (.invokevirtual 184, 3) := by decide +kernel
theorem cd_M_write_266 : decode cb_M_write 266 = .ok (.aload_n 0, 1) := by decide +kernel
theorem cd_M_write_267 : decode cb_M_write 267 = .ok (.bipush 10, 2) := by decide +kernel
theorem cd_M_write_269 : decode cb_M_write 269 = .ok (.invokevirtual 184, 3) := by decide +kernel
theorem cd_M_write_272 : decode cb_M_write 272 = .ok (.return_, 1) := by decide +kernel
theorem cd_M_next_0 : decode cb_M_next 0 = .ok (.iconst (-1), 1) := by decide +kernel
theorem cd_M_next_1 : decode cb_M_next 1 = .ok (.istore_n 3, 1) := by decide +kernel
theorem cd_M_next_2 : decode cb_M_next 2 = .ok (.iconst 0, 1) := by decide +kernel
theorem cd_M_next_3 : decode cb_M_next 3 = .ok (.istore 4, 2) := by decide +kernel
theorem cd_M_next_5 : decode cb_M_next 5 = .ok (.iload 4, 2) := by decide +kernel
theorem cd_M_next_7 : decode cb_M_next 7 = .ok (.aload_n 0, 1) := by decide +kernel
theorem cd_M_next_8 : decode cb_M_next 8 = .ok (.getfield 82, 3) := by decide +kernel
theorem cd_M_next_11 : decode cb_M_next 11 = .ok (.if_icmp .ge 111, 3) := by decide +kernel
theorem cd_M_next_14 : decode cb_M_next 14 = .ok (.aload_n 0, 1) := by decide +kernel
theorem cd_M_next_15 : decode cb_M_next 15 = .ok (.getfield 24, 3) := by decide +kernel
theorem cd_M_next_18 : decode cb_M_next 18 = .ok (.iload 4, 2) := by decide +kernel
theorem cd_M_next_20 : decode cb_M_next 20 = .ok (.iaload, 1) := by decide +kernel
theorem cd_M_next_21 : decode cb_M_next 21 = .ok (.iload_n 1, 1) := by decide +kernel
theorem cd_M_next_22 : decode cb_M_next 22 = .ok (.if_icmp .ne 59, 3) := by decide +kernel
theorem cd_M_next_25 : decode cb_M_next 25 = .ok (.aload_n 0, 1) := by decide +kernel
theorem cd_M_next_26 : decode cb_M_next 26 = .ok (.getfield 63, 3) := by decide +kernel
theorem cd_M_next_29 : decode cb_M_next 29 = .ok (.iload 4, 2) := by decide +kernel
theorem cd_M_next_31 : decode cb_M_next 31 = .ok (.baload, 1) := by decide +kernel
theorem cd_M_next_32 : decode cb_M_next 32 = .ok (.ifCond .ne 49, 3) := by decide +kernel
theorem cd_M_next_35 : decode cb_M_next 35 = .ok (.iload_n 2, 1) := by decide +kernel
theorem cd_M_next_36 : decode cb_M_next 36 = .ok (.ifCond .lt 41, 3) := by decide +kernel
theorem cd_M_next_39 : decode cb_M_next 39 = .ok (.aload_n 0, 1) := by decide +kernel
theorem cd_M_next_40 : decode cb_M_next 40 = .ok (.getfield 21, 3) := by decide +kernel
theorem cd_M_next_43 : decode cb_M_next 43 = .ok (.iload 4, 2) := by decide +kernel
theorem cd_M_next_45 : decode cb_M_next 45 = .ok (.iaload, 1) := by decide +kernel
theorem cd_M_next_46 : decode cb_M_next 46 = .ok (.aload_n 0, 1) := by decide +kernel
theorem cd_M_next_47 : decode cb_M_next 47 = .ok (.getfield 21, 3) := by decide +kernel
theorem cd_M_next_50 : decode cb_M_next 50 = .ok (.iload_n 2, 1) := by decide +kernel
theorem cd_M_next_51 : decode cb_M_next 51 = .ok (.iaload, 1) := by decide +kernel
theorem cd_M_next_52 : decode cb_M_next 52 = .ok (.if_icmp .gt 25, 3) := by decide +kernel
theorem cd_M_next_55 : decode cb_M_next 55 = .ok (.aload_n 0, 1) := by decide +kernel
theorem cd_M_next_56 : decode cb_M_next 56 = .ok (.getfield 21, 3) := by decide +kernel
theorem cd_M_next_59 : decode cb_M_next 59 = .ok (.iload 4, 2) := by decide +kernel
theorem cd_M_next_61 : decode cb_M_next 61 = .ok (.iaload, 1) := by decide +kernel
theorem cd_M_next_62 : decode cb_M_next 62 = .ok (.aload_n 0, 1) := by decide +kernel
theorem cd_M_next_63 : decode cb_M_next 63 = .ok (.getfield 21, 3) := by decide +kernel
theorem cd_M_next_66 : decode cb_M_next 66 = .ok (.iload_n 2, 1) := by decide +kernel
theorem cd_M_next_67 : decode cb_M_next 67 = .ok (.iaload, 1) := by decide +kernel
theorem cd_M_next_68 : decode cb_M_next 68 = .ok (.if_icmp .ne 13, 3) := by decide +kernel
theorem cd_M_next_71 : decode cb_M_next 71 = .ok (.iload 4, 2) := by decide +kernel
theorem cd_M_next_73 : decode cb_M_next 73 = .ok (.iload_n 2, 1) := by decide +kernel
theorem cd_M_next_74 : decode cb_M_next 74 = .ok (.if_icmp .le 7, 3) := by decide +kernel
theorem cd_M_next_77 : decode cb_M_next 77 = .ok (.iconst 1, 1) := by decide +kernel
theorem cd_M_next_78 : decode cb_M_next 78 = .ok (.goto 4, 3) := by decide +kernel
theorem cd_M_next_81 : decode cb_M_next 81 = .ok (.iconst 0, 1) := by decide +kernel
theorem cd_M_next_82 : decode cb_M_next 82 = .ok (.istore 5, 2) := by decide +kernel
theorem cd_M_next_84 : decode cb_M_next 84 = .ok (.iload 5, 2) := by decide +kernel
theorem cd_M_next_86 : decode cb_M_next 86 = .ok (.ifCond .eq 28, 3) := by decide +kernel
theorem cd_M_next_89 : decode cb_M_next 89 = .ok (.iload_n 3, 1) := by decide +kernel
theorem cd_M_next_90 : decode cb_M_next 90 = .ok (.ifCond .lt 19, 3) := by decide +kernel
theorem cd_M_next_93 : decode cb_M_next 93 = .ok (.aload_n 0, 1) := by decide +kernel
theorem cd_M_next_94 : decode cb_M_next 94 = .ok (.getfield 21, 3) := by decide +kernel
theorem cd_M_next_97 : decode cb_M_next 97 = .ok (.iload 4, 2) := by decide +kernel
theorem cd_M_next_99 : decode cb_M_next 99 = .ok (.iaload, 1) := by decide +kernel
theorem cd_M_next_100 : decode cb_M_next 100 = .ok (.aload_n 0, 1) := by decide +kernel
theorem cd_M_next_101 : decode cb_M_next 101 = .ok (.getfield 21, 3) := by decide +kernel
theorem cd_M_next_104 : decode cb_M_next 104 = .ok (.iload_n 3, 1) := by decide +kernel
theorem cd_M_next_105 : decode cb_M_next 105 = .ok (.iaload, 1) := by decide +kernel
theorem cd_M_next_106 : decode cb_M_next 106 = .ok (.if_icmp .ge 8, 3) := by decide +kernel
theorem cd_M_next_109 : decode cb_M_next 109 = .ok (.iload 4, 2) := by decide +kernel
theorem cd_M_next_111 : decode cb_M_next 111 = .ok (.goto 4, 3) := by decide +kernel
theorem cd_M_next_114 : decode cb_M_next 114 = .ok (.iload_n 3, 1) := by decide +kernel
theorem cd_M_next_115 : decode cb_M_next 115 = .ok (.istore_n 3, 1) := by decide +kernel
theorem cd_M_next_116 : decode cb_M_next 116 = .ok (.iinc 4 1, 3) := by decide +kernel
theorem cd_M_next_119 : decode cb_M_next 119 = .ok (.goto (-114), 3) := by decide +kernel
theorem cd_M_next_122 : decode cb_M_next 122 = .ok (.iload_n 3, 1) := by decide +kernel
theorem cd_M_next_123 : decode cb_M_next 123 = .ok (.ireturn, 1) := by decide +kernel
theorem cd_M_print_0 : decode cb_M_print 0 = .ok (.aload_n 0, 1) := by decide +kernel
theorem cd_M_print_1 : decode cb_M_print 1 = .ok (.iconst 0, 1) := by decide +kernel
theorem cd_M_print_2 : decode cb_M_print 2 = .ok (.putfield 79, 3) := by decide +kernel
theorem cd_M_print_5 : decode cb_M_print 5 = .ok (.aload_n 0, 1) := by decide +kernel
theorem cd_M_print_6 : decode cb_M_print 6 = .ok (.iconst 0, 1) := by decide +kernel
theorem cd_M_print_7 : decode cb_M_print 7 = .ok (.putfield 181, 3) := by decide +kernel
theorem cd_M_print_10 : decode cb_M_print 10 = .ok (.aload_n 0, 1) := by decide +kernel
theorem cd_M_print_11 : decode cb_M_print 11 = .ok (.getfield 82, 3) := by decide +kernel
theorem cd_M_print_14 : decode cb_M_print 14 = .ok (.ifCond .le 16, 3) := by decide +kernel
theorem cd_M_print_17 : decode cb_M_print 17 = .ok (.aload_n 0, 1) := by decide +kernel
theorem cd_M_print_18 : decode cb_M_print 18 = .ok (.getfield 63, 3) := by decide +kernel
theorem cd_M_print_21 : decode cb_M_print 21 = .ok (.iconst 0, 1) := by decide +kernel
theorem cd_M_print_22 : decode cb_M_print 22 = .ok (.baload, 1) := by decide +kernel
theorem cd_M_print_23 : decode cb_M_print 23 = .ok (.ifCond .ne 7, 3) := by decide +kernel
theorem cd_M_print_26 : decode cb_M_print 26 = .ok (.iconst 0, 1) := by decide +kernel
theorem cd_M_print_27 : decode cb_M_print 27 = .ok (.goto 4, 3) := by decide +kernel
theorem cd_M_print_30 : decode cb_M_print 30 = .ok (.iconst (-1), 1) := by decide +kernel
theorem cd_M_print_31 : decode cb_M_print 31 = .ok (.istore_n 1, 1) := by decide +kernel
theorem cd_M_print_32 : decode cb_M_print 32 = .ok (.iload_n 1, 1) := by decide +kernel
theorem cd_M_print_33 : decode cb_M_print 33 = .ok (.ifCond .lt 58, 3) := by decide +kernel
theorem cd_M_print_36 : decode cb_M_print 36 = .ok (.aload_n 0, 1) := by decide +kernel
theorem cd_M_print_37 : decode cb_M_print 37 = .ok (.iload_n 1, 1) := by decide +kernel
theorem cd_M_print_38 : decode cb_M_print 38 = .ok (.invokevirtual 191, 3) := by decide +kernel
theorem cd_M_print_41 : decode cb_M_print 41 = .ok (.aload_n 0, 1) := by decide +kernel
theorem cd_M_print_42 : decode cb_M_print 42 = .ok (.iload_n 1, 1) := by decide +kernel
theorem cd_M_print_43 : decode cb_M_print 43 = .ok (.iconst (-1), 1) := by decide +kernel
theorem cd_M_print_44 : decode cb_M_print 44 = .ok (.invokevirtual 194, 3) := by decide +kernel
theorem cd_M_print_47 : decode cb_M_print 47 = .ok (.istore_n 2, 1) := by decide +kernel
theorem cd_M_print_48 : decode cb_M_print 48 = .ok (.iload_n 2, 1) := by decide +kernel
theorem cd_M_print_49 : decode cb_M_print 49 = .ok (.ifCond .ge 37, 3) := by decide +kernel
theorem cd_M_print_52 : decode cb_M_print 52 = .ok (.iload_n 1, 1) := by decide +kernel
theorem cd_M_print_53 : decode cb_M_print 53 = .ok (.ifCond .le 33, 3) := by decide +kernel
theorem cd_M_print_56 : decode cb_M_print 56 = .ok (.aload_n 0, 1) := by decide +kernel
theorem cd_M_print_57 : decode cb_M_print 57 = .ok (.aload_n 0, 1) := by decide +kernel
theorem cd_M_print_58 : decode cb_M_print 58 = .ok (.getfield 24, 3) := by decide +kernel
theorem cd_M_print_61 : decode cb_M_print 61 = .ok (.iload_n 1, 1) := by decide +kernel
theorem cd_M_print_62 : decode cb_M_print 62 = .ok (.iaload, 1) := by decide +kernel
theorem cd_M_print_63 : decode cb_M_print 63 = .ok (.iload_n 1, 1) := by decide +kernel
theorem cd_M_print_64 : decode cb_M_print 64 = .ok (.invokevirtual 194, 3) := by decide +kernel
theorem cd_M_print_67 : decode cb_M_print 67 = .ok (.istore_n 2, 1) := by decide +kernel
theorem cd_M_print_68 : decode cb_M_print 68 = .ok (.iload_n 2, 1) := by decide +kernel
theorem cd_M_print_69 : decode cb_M_print 69 = .ok (.ifCond .ge 12, 3) := by decide +kernel
theorem cd_M_print_72 : decode cb_M_print 72 = .ok (.aload_n 0, 1) := by decide +kernel
theorem cd_M_print_73 : decode cb_M_print 73 = .ok (.getfield 24, 3) := by decide +kernel
theorem cd_M_print_76 : decode cb_M_print 76 = .ok (.iload_n 1, 1) := by decide +kernel
theorem cd_M_print_77 : decode cb_M_print 77 = .ok (.iaload, 1) := by decide +kernel
theorem cd_M_print_78 : decode cb_M_print 78 = .ok (.goto 4, 3) := by decide +kernel
theorem cd_M_print_81 : decode cb_M_print 81 = .ok (.iload_n 1, 1) := by decide +kernel
theorem cd_M_print_82 : decode cb_M_print 82 = .ok (.istore_n 1, 1) := by decide +kernel
theorem cd_M_print_83 : decode cb_M_print 83 = .ok (.goto (-35), 3) := by decide +kernel
theorem cd_M_print_86 : decode cb_M_print 86 = .ok (.iload_n 2, 1) := by decide +kernel
theorem cd_M_print_87 : decode cb_M_print 87 = .ok (.istore_n 1, 1) := by decide +kernel
theorem cd_M_print_88 : decode cb_M_print 88 = .ok (.goto (-56), 3) := by decide +kernel
theorem cd_M_print_91 : decode cb_M_print 91 = .ok (.aload_n 0, 1) := by decide +kernel
theorem cd_M_print_92 : decode cb_M_print 92 = .ok (.getfield 181, 3) := by decide +kernel
theorem cd_M_print_95 : decode cb_M_print 95 = .ok (.ireturn, 1) := by decide +kernel
theorem cd_M_at_0 : decode cb_M_at 0 = .ok (.aload_n 0, 1) := by decide +kernel
theorem cd_M_at_1 : decode cb_M_at 1 = .ok (.iconst 0, 1) := by decide +kernel
theorem cd_M_at_2 : decode cb_M_at 2 = .ok (.putfield 79, 3) := by decide +kernel
theorem cd_M_at_5 : decode cb_M_at 5 = .ok (.iload_n 1, 1) := by decide +kernel
theorem cd_M_at_6 : decode cb_M_at 6 = .ok (.iconst 0, 1) := by decide +kernel
theorem cd_M_at_7 : decode cb_M_at 7 = .ok (.aload_n 0, 1) := by decide +kernel
theorem cd_M_at_8 : decode cb_M_at 8 = .ok (.getfield 181, 3) := by decide +kernel
theorem cd_M_at_11 : decode cb_M_at 11 = .ok (.iconst 1, 1) := by decide +kernel
theorem cd_M_at_12 : decode cb_M_at 12 = .ok (.isub, 1) := by decide +kernel
theorem cd_M_at_13 : decode cb_M_at 13 = .ok (.invokestatic 85, 3) := by decide +kernel
theorem cd_M_at_16 : decode cb_M_at 16 = .ok (.ifCond .eq 12, 3) := by decide +kernel
theorem cd_M_at_19 : decode cb_M_at 19 = .ok (.aload_n 0, 1) := by decide +kernel
theorem cd_M_at_20 : decode cb_M_at 20 = .ok (.getfield 76, 3) := by decide +kernel
theorem cd_M_at_23 : decode cb_M_at 23 = .ok (.iload_n 1, 1) := by decide +kernel
theorem cd_M_at_24 : decode cb_M_at 24 = .ok (.baload, 1) := by decide +kernel
theorem cd_M_at_25 : decode cb_M_at 25 = .ok (.goto 4, 3) := by decide +kernel
theorem cd_M_at_28 : decode cb_M_at 28 = .ok (.iconst (-1), 1) := by decide +kernel
theorem cd_M_at_29 : decode cb_M_at 29 = .ok (.ireturn, 1) := by decide +kernel
end
section
theorem cd_W_read_0 : decode cb_W_read 0 = .ok (.aload_n 1, 1) := by decide +kernel
theorem cd_W_read_1 : decode cb_W_read 1 = .ok (.iconst 0, 1) := by decide +kernel
theorem cd_W_read_2 : decode cb_W_read 2 = .ok (.aload_n 0, 1) := by decide +kernel
theorem cd_W_read_3 : decode cb_W_read 3 = .ok (.invokevirtual 7, 3) := by decide +kernel
theorem cd_W_read_6 : decode cb_W_read 6 = .ok (.i2l, 1) := by decide +kernel
theorem cd_W_read_7 : decode cb_W_read 7 = .ok (.lastore, 1) := by decide +kernel
theorem cd_W_read_8 : decode cb_W_read 8 = .ok (.goto 6, 3) := by decide +kernel
theorem cd_W_read_11 : decode cb_W_read 11 = .ok (.astore_n 2, 1) := by decide +kernel
theorem cd_W_read_12 : decode cb_W_read 12 = .ok (.iconst 1, 1) := by decide +kernel
theorem cd_W_read_13 : decode cb_W_read 13 = .ok (.ireturn, 1) := by decide +kernel
theorem cd_W_read_14 : decode cb_W_read 14 = .ok (.iconst 0, 1) := by decide +kernel
theorem cd_W_read_15 : decode cb_W_read 15 = .ok (.ireturn, 1) := by decide +kernel
theorem cd_W_merge_0 : decode cb_W_merge 0 = .ok (.aload_n 1, 1) := by decide +kernel
theorem cd_W_merge_1 : decode cb_W_merge 1 = .ok (.iconst 0, 1) := by decide +kernel
theorem cd_W_merge_2 : decode cb_W_merge 2 = .ok (.aload_n 0, 1) := by decide +kernel
theorem cd_W_merge_3 : decode cb_W_merge 3 = .ok (.invokevirtual 15, 3) := by decide +kernel
theorem cd_W_merge_6 : decode cb_W_merge 6 = .ok (.i2l, 1) := by decide +kernel
theorem cd_W_merge_7 : decode cb_W_merge 7 = .ok (.lastore, 1) := by decide +kernel
theorem cd_W_merge_8 : decode cb_W_merge 8 = .ok (.goto 6, 3) := by decide +kernel
theorem cd_W_merge_11 : decode cb_W_merge 11 = .ok (.astore_n 2, 1) := by decide +kernel
theorem cd_W_merge_12 : decode cb_W_merge 12 = .ok (.iconst 1, 1) := by decide +kernel
theorem cd_W_merge_13 : decode cb_W_merge 13 = .ok (.ireturn, 1) := by decide +kernel
theorem cd_W_merge_14 : decode cb_W_merge 14 = .ok (.iconst 0, 1) := by decide +kernel
theorem cd_W_merge_15 : decode cb_W_merge 15 = .ok (.ireturn, 1) := by decide +kernel
theorem cd_W_law_0 : decode cb_W_law 0 = .ok (.new 8, 3) := by decide +kernel
theorem cd_W_law_3 : decode cb_W_law 3 = .ok (.dup, 1) := by decide +kernel
theorem cd_W_law_4 : decode cb_W_law 4 = .ok (.invokespecial 18, 3) := by decide +kernel
theorem cd_W_law_7 : decode cb_W_law 7 = .ok (.astore_n 1, 1) := by decide +kernel
theorem cd_W_law_8 : decode cb_W_law 8 = .ok (.new 19, 3) := by decide +kernel
theorem cd_W_law_11 : decode cb_W_law 11 = .ok (.dup, 1) := by decide +kernel
theorem cd_W_law_12 : decode cb_W_law 12 = .ok (.invokespecial 21, 3) := by decide +kernel
theorem cd_W_law_15 : decode cb_W_law 15 = .ok (.astore_n 2, 1) := by decide +kernel
theorem cd_W_law_16 : decode cb_W_law 16 = .ok (.iconst 1, 1) := by decide +kernel
theorem cd_W_law_17 : decode cb_W_law 17 = .ok (.newarray .long, 2) := by decide +kernel
theorem cd_W_law_19 : decode cb_W_law 19 = .ok (.astore_n 3, 1) := by decide +kernel
theorem cd_W_law_20 : decode cb_W_law 20 = .ok (.iconst 0, 1) := by decide +kernel
theorem cd_W_law_21 : decode cb_W_law 21 = .ok (.istore 4, 2) := by decide +kernel
theorem cd_W_law_23 : decode cb_W_law 23 = .ok (.iload 4, 2) := by decide +kernel
theorem cd_W_law_25 : decode cb_W_law 25 = .ok (.aload_n 0, 1) := by decide +kernel
theorem cd_W_law_26 : decode cb_W_law 26 = .ok (.arraylength, 1) := by decide +kernel
theorem cd_W_law_27 : decode cb_W_law 27 = .ok (.iconst 4, 1) := by decide +kernel
theorem cd_W_law_28 : decode cb_W_law 28 = .ok (.isub, 1) := by decide +kernel
theorem cd_W_law_29 : decode cb_W_law 29 = .ok (.if_icmp .gt 822, 3) := by decide +kernel
theorem cd_W_law_32 : decode cb_W_law 32 = .ok (.aload_n 0, 1) := by decide +kernel
theorem cd_W_law_33 : decode cb_W_law 33 = .ok (.iload 4, 2) := by decide +kernel
theorem cd_W_law_35 : decode cb_W_law 35 = .ok (.iaload, 1) := by decide +kernel
theorem cd_W_law_36 : decode cb_W_law 36 = .ok (.bipush 31, 2) := by decide +kernel
theorem cd_W_law_38 : decode cb_W_law 38 = .ok (.iand, 1) := by decide +kernel
theorem cd_W_law_39 : decode cb_W_law 39 = .ok (.tableswitch 806 0 20 #[97, 120, 164, 177, 214, 251, 288, 325, 350, 375, 424, 461, 498, 535, 572, 609, 662, 706, 743, 768, 781], 97) := by decide +kernel
theorem cd_W_law_136 : decode cb_W_law 136 = .ok (.aload_n 1, 1) := by decide +kernel
theorem cd_W_law_137 : decode cb_W_law 137 = .ok (.aload_n 0, 1) := by decide +kernel
theorem cd_W_law_138 : decode cb_W_law 138 = .ok (.iload 4, 2) := by decide +kernel
theorem cd_W_law_140 : decode cb_W_law 140 = .ok (.iconst 1, 1) := by decide +kernel
theorem cd_W_law_141 : decode cb_W_law 141 = .ok (.iadd, 1) := by decide +kernel
theorem cd_W_law_142 : decode cb_W_law 142 = .ok (.iaload, 1) := by decide +kernel
theorem cd_W_law_143 : decode cb_W_law 143 = .ok (.invokevirtual 22, 3) := by decide +kernel
theorem cd_W_law_146 : decode cb_W_law 146 = .ok (.aload_n 2, 1) := by decide +kernel
theorem cd_W_law_147 : decode cb_W_law 147 = .ok (.aload_n 0, 1) := by decide +kernel
theorem cd_W_law_148 : decode cb_W_law 148 = .ok (.iload 4, 2) := by decide +kernel
theorem cd_W_law_150 : decode cb_W_law 150 = .ok (.iconst 1, 1) := by decide +kernel
theorem cd_W_law_151 : decode cb_W_law 151 = .ok (.iadd, 1) := by decide +kernel
theorem cd_W_law_152 : decode cb_W_law 152 = .ok (.iaload, 1) := by decide +kernel
theorem cd_W_law_153 : decode cb_W_law 153 = .ok (.invokevirtual 26, 3) := by decide +kernel
theorem cd_W_law_156 : decode cb_W_law 156 = .ok (.goto 689, 3) := by decide +kernel
theorem cd_W_law_159 : decode cb_W_law 159 = .ok (.aload_n 1, 1) := by decide +kernel
theorem cd_W_law_160 : decode cb_W_law 160 = .ok (.aload_n 3, 1) := by decide +kernel
theorem cd_W_law_161 : decode cb_W_law 161 = .ok (.invokestatic 27, 3) := by decide +kernel
theorem cd_W_law_164 : decode cb_W_law 164 = .ok (.istore 5, 2) := by decide +kernel
theorem cd_W_law_166 : decode cb_W_law 166 = .ok (.aload_n 2, 1) := by decide +kernel
theorem cd_W_law_167 : decode cb_W_law 167 = .ok (.invokevirtual 32, 3) := by decide +kernel
theorem cd_W_law_170 : decode cb_W_law 170 = .ok (.istore 6, 2) := by decide +kernel
theorem cd_W_law_172 : decode cb_W_law 172 = .ok (.aload_n 2, 1) := by decide +kernel
theorem cd_W_law_173 : decode cb_W_law 173 = .ok (.invokevirtual 33, 3) := by decide +kernel
theorem cd_W_law_176 : decode cb_W_law 176 = .ok (.iload 5, 2) := by decide +kernel
theorem cd_W_law_178 : decode cb_W_law 178 = .ok (.if_icmp .eq 5, 3) := by decide +kernel
theorem cd_W_law_181 : decode cb_W_law 181 = .ok (.iconst 0, 1) := by decide +kernel
theorem cd_W_law_182 : decode cb_W_law 182 = .ok (.ireturn, 1) := by decide +kernel
theorem cd_W_law_183 : decode cb_W_law 183 = .ok (.iload 5, 2) := by decide +kernel
theorem cd_W_law_185 : decode cb_W_law 185 = .ok (.ifCond .ne 15, 3) := by decide +kernel
theorem cd_W_law_188 : decode cb_W_law 188 = .ok (.aload_n 3, 1) := by decide +kernel
theorem cd_W_law_189 : decode cb_W_law 189 = .ok (.iconst 0, 1) := by decide +kernel
theorem cd_W_law_190 : decode cb_W_law 190 = .ok (.laload, 1) := by decide +kernel
theorem cd_W_law_191 : decode cb_W_law 191 = .ok (.iload 6, 2) := by decide +kernel
theorem cd_W_law_193 : decode cb_W_law 193 = .ok (.i2l, 1) := by decide +kernel
theorem cd_W_law_194 : decode cb_W_law 194 = .ok (.lcmp, 1) := by decide +kernel
theorem cd_W_law_195 : decode cb_W_law 195 = .ok (.ifCond .eq 5, 3) := by decide +kernel
theorem cd_W_law_198 : decode cb_W_law 198 = .ok (.iconst 0, 1) := by decide +kernel
theorem cd_W_law_199 : decode cb_W_law 199 = .ok (.ireturn, 1) := by decide +kernel
theorem cd_W_law_200 : decode cb_W_law 200 = .ok (.goto 645, 3) := by decide +kernel
theorem cd_W_law_203 : decode cb_W_law 203 = .ok (.aload_n 1, 1) := by decide +kernel
theorem cd_W_law_204 : decode cb_W_law 204 = .ok (.invokevirtual 36, 3) := by decide +kernel
theorem cd_W_law_207 : decode cb_W_law 207 = .ok (.aload_n 2, 1) := by decide +kernel
theorem cd_W_law_208 : decode cb_W_law 208 = .ok (.invokevirtual 39, 3) := by decide +kernel
theorem cd_W_law_211 : decode cb_W_law 211 = .ok (.if_icmp .eq 634, 3) := by decide +kernel
theorem cd_W_law_214 : decode cb_W_law 214 = .ok (.iconst 0, 1) := by decide +kernel
theorem cd_W_law_215 : decode cb_W_law 215 = .ok (.ireturn, 1) := by decide +kernel
theorem cd_W_law_216 : decode cb_W_law 216 = .ok (.aload_n 1, 1) := by decide +kernel
theorem cd_W_law_217 : decode cb_W_law 217 = .ok (.aload_n 0, 1) := by decide +kernel
theorem cd_W_law_218 : decode cb_W_law 218 = .ok (.iload 4, 2) := by decide +kernel
theorem cd_W_law_220 : decode cb_W_law 220 = .ok (.iconst 1, 1) := by decide +kernel
theorem cd_W_law_221 : decode cb_W_law 221 = .ok (.iadd, 1) := by decide +kernel
theorem cd_W_law_222 : decode cb_W_law 222 = .ok (.iaload, 1) := by decide +kernel
theorem cd_W_law_223 : decode cb_W_law 223 = .ok (.aload_n 0, 1) := by decide +kernel
theorem cd_W_law_224 : decode cb_W_law 224 = .ok (.iload 4, 2) := by decide +kernel
theorem cd_W_law_226 : decode cb_W_law 226 = .ok (.iconst 2, 1) := by decide +kernel
theorem cd_W_law_227 : decode cb_W_law 227 = .ok (.iadd, 1) := by decide +kernel
theorem cd_W_law_228 : decode cb_W_law 228 = .ok (.iaload, 1) := by decide +kernel
theorem cd_W_law_229 : decode cb_W_law 229 = .ok (.invokevirtual 40, 3) := by decide +kernel
theorem cd_W_law_232 : decode cb_W_law 232 = .ok (.aload_n 2, 1) := by decide +kernel
theorem cd_W_law_233 : decode cb_W_law 233 = .ok (.aload_n 0, 1) := by decide +kernel
theorem cd_W_law_234 : decode cb_W_law 234 = .ok (.iload 4, 2) := by decide +kernel
theorem cd_W_law_236 : decode cb_W_law 236 = .ok (.iconst 1, 1) := by decide +kernel
theorem cd_W_law_237 : decode cb_W_law 237 = .ok (.iadd, 1) := by decide +kernel
theorem cd_W_law_238 : decode cb_W_law 238 = .ok (.iaload, 1) := by decide +kernel
theorem cd_W_law_239 : decode cb_W_law 239 = .ok (.aload_n 0, 1) := by decide +kernel
theorem cd_W_law_240 : decode cb_W_law 240 = .ok (.iload 4, 2) := by decide +kernel
theorem cd_W_law_242 : decode cb_W_law 242 = .ok (.iconst 2, 1) := by decide +kernel
theorem cd_W_law_243 : decode cb_W_law 243 = .ok (.iadd, 1) := by decide +kernel
theorem cd_W_law_244 : decode cb_W_law 244 = .ok (.iaload, 1) := by decide +kernel
theorem cd_W_law_245 : decode cb_W_law 245 = .ok (.invokevirtual 44, 3) := by decide +kernel
theorem cd_W_law_248 : decode cb_W_law 248 = .ok (.if_icmp .eq 597, 3) := by decide +kernel
theorem cd_W_law_251 : decode cb_W_law 251 = .ok (.iconst 0, 1) := by decide +kernel
theorem cd_W_law_252 : decode cb_W_law 252 = .ok (.ireturn, 1) := by decide +kernel
theorem cd_W_law_253 : decode cb_W_law 253 = .ok (.aload_n 1, 1) := by decide +kernel
theorem cd_W_law_254 : decode cb_W_law 254 = .ok (.aload_n 0, 1) := by decide +kernel
theorem cd_W_law_255 : decode cb_W_law 255 = .ok (.iload 4, 2) := by decide +kernel
theorem cd_W_law_257 : decode cb_W_law 257 = .ok (.iconst 1, 1) := by decide +kernel
theorem cd_W_law_258 : decode cb_W_law 258 = .ok (.iadd, 1) := by decide +kernel
theorem cd_W_law_259 : decode cb_W_law 259 = .ok (.iaload, 1) := by decide +kernel
theorem cd_W_law_260 : decode cb_W_law 260 = .ok (.aload_n 0, 1) := by decide +kernel
theorem cd_W_law_261 : decode cb_W_law 261 = .ok (.iload 4, 2) := by decide +kernel
theorem cd_W_law_263 : decode cb_W_law 263 = .ok (.iconst 2, 1) := by decide +kernel
theorem cd_W_law_264 : decode cb_W_law 264 = .ok (.iadd, 1) := by decide +kernel
theorem cd_W_law_265 : decode cb_W_law 265 = .ok (.iaload, 1) := by decide +kernel
theorem cd_W_law_266 : decode cb_W_law 266 = .ok (.invokevirtual 45, 3) := by decide +kernel
theorem cd_W_law_269 : decode cb_W_law 269 = .ok (.aload_n 2, 1) := by decide +kernel
theorem cd_W_law_270 : decode cb_W_law 270 = .ok (.aload_n 0, 1) := by decide +kernel
theorem cd_W_law_271 : decode cb_W_law 271 = .ok (.iload 4, 2) := by decide +kernel
theorem cd_W_law_273 : decode cb_W_law 273 = .ok (.iconst 1, 1) := by decide +kernel
theorem cd_W_law_274 : decode cb_W_law 274 = .ok (.iadd, 1) := by decide +kernel
theorem cd_W_law_275 : decode cb_W_law 275 = .ok (.iaload, 1) := by decide +kernel
theorem cd_W_law_276 : decode cb_W_law 276 = .ok (.aload_n 0, 1) := by decide +kernel
theorem cd_W_law_277 : decode cb_W_law 277 = .ok (.iload 4, 2) := by decide +kernel
theorem cd_W_law_279 : decode cb_W_law 279 = .ok (.iconst 2, 1) := by decide +kernel
theorem cd_W_law_280 : decode cb_W_law 280 = .ok (.iadd, 1) := by decide +kernel
theorem cd_W_law_281 : decode cb_W_law 281 = .ok (.iaload, 1) := by decide +kernel
theorem cd_W_law_282 : decode cb_W_law 282 = .ok (.invokevirtual 48, 3) := by decide +kernel
theorem cd_W_law_285 : decode cb_W_law 285 = .ok (.if_icmp .eq 560, 3) := by decide +kernel
theorem cd_W_law_288 : decode cb_W_law 288 = .ok (.iconst 0, 1) := by decide +kernel
theorem cd_W_law_289 : decode cb_W_law 289 = .ok (.ireturn, 1) := by decide +kernel
theorem cd_W_law_290 : decode cb_W_law 290 = .ok (.aload_n 1, 1) := by decide +kernel
theorem cd_W_law_291 : decode cb_W_law 291 = .ok (.aload_n 0, 1) := by decide +kernel
theorem cd_W_law_292 : decode cb_W_law 292 = .ok (.iload 4, 2) := by decide +kernel
theorem cd_W_law_294 : decode cb_W_law 294 = .ok (.iconst 1, 1) := by decide +kernel
theorem cd_W_law_295 : decode cb_W_law 295 = .ok (.iadd, 1) := by decide +kernel
theorem cd_W_law_296 : decode cb_W_law 296 = .ok (.iaload, 1) := by decide +kernel
theorem cd_W_law_297 : decode cb_W_law 297 = .ok (.aload_n 0, 1) := by decide +kernel
theorem cd_W_law_298 : decode cb_W_law 298 = .ok (.iload 4, 2) := by decide +kernel
theorem cd_W_law_300 : decode cb_W_law 300 = .ok (.iconst 2, 1) := by decide +kernel
theorem cd_W_law_301 : decode cb_W_law 301 = .ok (.iadd, 1) := by decide +kernel
theorem cd_W_law_302 : decode cb_W_law 302 = .ok (.iaload, 1) := by decide +kernel
theorem cd_W_law_303 : decode cb_W_law 303 = .ok (.invokevirtual 49, 3) := by decide +kernel
theorem cd_W_law_306 : decode cb_W_law 306 = .ok (.aload_n 2, 1) := by decide +kernel
theorem cd_W_law_307 : decode cb_W_law 307 = .ok (.aload_n 0, 1) := by decide +kernel
theorem cd_W_law_308 : decode cb_W_law 308 = .ok (.iload 4, 2) := by decide +kernel
theorem cd_W_law_310 : decode cb_W_law 310 = .ok (.iconst 1, 1) := by decide +kernel
theorem cd_W_law_311 : decode cb_W_law 311 = .ok (.iadd, 1) := by decide +kernel
theorem cd_W_law_312 : decode cb_W_law 312 = .ok (.iaload, 1) := by decide +kernel
theorem cd_W_law_313 : decode cb_W_law 313 = .ok (.aload_n 0, 1) := by decide +kernel
theorem cd_W_law_314 : decode cb_W_law 314 = .ok (.iload 4, 2) := by decide +kernel
theorem cd_W_law_316 : decode cb_W_law 316 = .ok (.iconst 2, 1) := by decide +kernel
theorem cd_W_law_317 : decode cb_W_law 317 = .ok (.iadd, 1) := by decide +kernel
theorem cd_W_law_318 : decode cb_W_law 318 = .ok (.iaload, 1) := by decide +kernel
theorem cd_W_law_319 : decode cb_W_law 319 = .ok (.invokevirtual 52, 3) := by decide +kernel
theorem cd_W_law_322 : decode cb_W_law 322 = .ok (.if_icmp .eq 523, 3) := by decide +kernel
theorem cd_W_law_325 : decode cb_W_law 325 = .ok (.iconst 0, 1) := by decide +kernel
theorem cd_W_law_326 : decode cb_W_law 326 = .ok (.ireturn, 1) := by decide +kernel
theorem cd_W_law_327 : decode cb_W_law 327 = .ok (.aload_n 1, 1) := by decide +kernel
theorem cd_W_law_328 : decode cb_W_law 328 = .ok (.aload_n 0, 1) := by decide +kernel
theorem cd_W_law_329 : decode cb_W_law 329 = .ok (.iload 4, 2) := by decide +kernel
theorem cd_W_law_331 : decode cb_W_law 331 = .ok (.iconst 1, 1) := by decide +kernel
theorem cd_W_law_332 : decode cb_W_law 332 = .ok (.iadd, 1) := by decide +kernel
theorem cd_W_law_333 : decode cb_W_law 333 = .ok (.iaload, 1) := by decide +kernel
theorem cd_W_law_334 : decode cb_W_law 334 = .ok (.aload_n 0, 1) := by decide +kernel
theorem cd_W_law_335 : decode cb_W_law 335 = .ok (.iload 4, 2) := by decide +kernel
theorem cd_W_law_337 : decode cb_W_law 337 = .ok (.iconst 2, 1) := by decide +kernel
theorem cd_W_law_338 : decode cb_W_law 338 = .ok (.iadd, 1) := by decide +kernel
theorem cd_W_law_339 : decode cb_W_law 339 = .ok (.iaload, 1) := by decide +kernel
theorem cd_W_law_340 : decode cb_W_law 340 = .ok (.invokevirtual 53, 3) := by decide +kernel
theorem cd_W_law_343 : decode cb_W_law 343 = .ok (.aload_n 2, 1) := by decide +kernel
theorem cd_W_law_344 : decode cb_W_law 344 = .ok (.aload_n 0, 1) := by decide +kernel
theorem cd_W_law_345 : decode cb_W_law 345 = .ok (.iload 4, 2) := by decide +kernel
theorem cd_W_law_347 : decode cb_W_law 347 = .ok (.iconst 1, 1) := by decide +kernel
theorem cd_W_law_348 : decode cb_W_law 348 = .ok (.iadd, 1) := by decide +kernel
theorem cd_W_law_349 : decode cb_W_law 349 = .ok (.iaload, 1) := by decide +kernel
theorem cd_W_law_350 : decode cb_W_law 350 = .ok (.aload_n 0, 1) := by decide +kernel
theorem cd_W_law_351 : decode cb_W_law 351 = .ok (.iload 4, 2) := by decide +kernel
theorem cd_W_law_353 : decode cb_W_law 353 = .ok (.iconst 2, 1) := by decide +kernel
theorem cd_W_law_354 : decode cb_W_law 354 = .ok (.iadd, 1) := by decide +kernel
theorem cd_W_law_355 : decode cb_W_law 355 = .ok (.iaload, 1) := by decide +kernel
theorem cd_W_law_356 : decode cb_W_law 356 = .ok (.invokevirtual 56, 3) := by decide +kernel
theorem cd_W_law_359 : decode cb_W_law 359 = .ok (.if_icmp .eq 486, 3) := by decide +kernel
theorem cd_W_law_362 : decode cb_W_law 362 = .ok (.iconst 0, 1) := by decide +kernel
theorem cd_W_law_363 : decode cb_W_law 363 = .ok (.ireturn, 1) := by decide +kernel
theorem cd_W_law_364 : decode cb_W_law 364 = .ok (.aload_n 1, 1) := by decide +kernel
theorem cd_W_law_365 : decode cb_W_law 365 = .ok (.aload_n 0, 1) := by decide +kernel
theorem cd_W_law_366 : decode cb_W_law 366 = .ok (.iload 4, 2) := by decide +kernel
theorem cd_W_law_368 : decode cb_W_law 368 = .ok (.iconst 1, 1) := by decide +kernel
theorem cd_W_law_369 : decode cb_W_law 369 = .ok (.iadd, 1) := by decide +kernel
theorem cd_W_law_370 : decode cb_W_law 370 = .ok (.iaload, 1) := by decide +kernel
theorem cd_W_law_371 : decode cb_W_law 371 = .ok (.invokevirtual 57, 3) := by decide +kernel
theorem cd_W_law_374 : decode cb_W_law 374 = .ok (.aload_n 2, 1) := by decide +kernel
theorem cd_W_law_375 : decode cb_W_law 375 = .ok (.aload_n 0, 1) := by decide +kernel
theorem cd_W_law_376 : decode cb_W_law 376 = .ok (.iload 4, 2) := by decide +kernel
theorem cd_W_law_378 : decode cb_W_law 378 = .ok (.iconst 1, 1) := by decide +kernel
theorem cd_W_law_379 : decode cb_W_law 379 = .ok (.iadd, 1) := by decide +kernel
theorem cd_W_law_380 : decode cb_W_law 380 = .ok (.iaload, 1) := by decide +kernel
theorem cd_W_law_381 : decode cb_W_law 381 = .ok (.invokevirtual 61, 3) := by decide +kernel
theorem cd_W_law_384 : decode cb_W_law 384 = .ok (.if_icmp .eq 461, 3) := by decide +kernel
theorem cd_W_law_387 : decode cb_W_law 387 = .ok (.iconst 0, 1) := by decide +kernel
theorem cd_W_law_388 : decode cb_W_law 388 = .ok (.ireturn, 1) := by decide +kernel
theorem cd_W_law_389 : decode cb_W_law 389 = .ok (.aload_n 1, 1) := by decide +kernel
theorem cd_W_law_390 : decode cb_W_law 390 = .ok (.aload_n 0, 1) := by decide +kernel
theorem cd_W_law_391 : decode cb_W_law 391 = .ok (.iload 4, 2) := by decide +kernel
theorem cd_W_law_393 : decode cb_W_law 393 = .ok (.iconst 1, 1) := by decide +kernel
theorem cd_W_law_394 : decode cb_W_law 394 = .ok (.iadd, 1) := by decide +kernel
theorem cd_W_law_395 : decode cb_W_law 395 = .ok (.iaload, 1) := by decide +kernel
theorem cd_W_law_396 : decode cb_W_law 396 = .ok (.invokevirtual 62, 3) := by decide +kernel
theorem cd_W_law_399 : decode cb_W_law 399 = .ok (.aload_n 2, 1) := by decide +kernel
theorem cd_W_law_400 : decode cb_W_law 400 = .ok (.aload_n 0, 1) := by decide +kernel
theorem cd_W_law_401 : decode cb_W_law 401 = .ok (.iload 4, 2) := by decide +kernel
theorem cd_W_law_403 : decode cb_W_law 403 = .ok (.iconst 1, 1) := by decide +kernel
theorem cd_W_law_404 : decode cb_W_law 404 = .ok (.iadd, 1) := by decide +kernel
theorem cd_W_law_405 : decode cb_W_law 405 = .ok (.iaload, 1) := by decide +kernel
theorem cd_W_law_406 : decode cb_W_law 406 = .ok (.invokevirtual 65, 3) := by decide +kernel
theorem cd_W_law_409 : decode cb_W_law 409 = .ok (.if_icmp .eq 436, 3) := by decide +kernel
theorem cd_W_law_412 : decode cb_W_law 412 = .ok (.iconst 0, 1) := by decide +kernel
theorem cd_W_law_413 : decode cb_W_law 413 = .ok (.ireturn, 1) := by decide +kernel
theorem cd_W_law_414 : decode cb_W_law 414 = .ok (.aload_n 1, 1) := by decide +kernel
theorem cd_W_law_415 : decode cb_W_law 415 = .ok (.aload_n 0, 1) := by decide +kernel
theorem cd_W_law_416 : decode cb_W_law 416 = .ok (.iload 4, 2) := by decide +kernel
theorem cd_W_law_418 : decode cb_W_law 418 = .ok (.iconst 1, 1) := by decide +kernel
theorem cd_W_law_419 : decode cb_W_law 419 = .ok (.iadd, 1) := by decide +kernel
theorem cd_W_law_420 : decode cb_W_law 420 = .ok (.iaload, 1) := by decide +kernel
theorem cd_W_law_421 : decode cb_W_law 421 = .ok (.aload_n 0, 1) := by decide +kernel
theorem cd_W_law_422 : decode cb_W_law 422 = .ok (.iload 4, 2) := by decide +kernel
theorem cd_W_law_424 : decode cb_W_law 424 = .ok (.iconst 2, 1) := by decide +kernel
theorem cd_W_law_425 : decode cb_W_law 425 = .ok (.iadd, 1) := by decide +kernel
theorem cd_W_law_426 : decode cb_W_law 426 = .ok (.iaload, 1) := by decide +kernel
theorem cd_W_law_427 : decode cb_W_law 427 = .ok (.aload_n 0, 1) := by decide +kernel
theorem cd_W_law_428 : decode cb_W_law 428 = .ok (.iload 4, 2) := by decide +kernel
theorem cd_W_law_430 : decode cb_W_law 430 = .ok (.iconst 3, 1) := by decide +kernel
theorem cd_W_law_431 : decode cb_W_law 431 = .ok (.iadd, 1) := by decide +kernel
theorem cd_W_law_432 : decode cb_W_law 432 = .ok (.iaload, 1) := by decide +kernel
theorem cd_W_law_433 : decode cb_W_law 433 = .ok (.invokevirtual 66, 3) := by decide +kernel
theorem cd_W_law_436 : decode cb_W_law 436 = .ok (.aload_n 2, 1) := by decide +kernel
theorem cd_W_law_437 : decode cb_W_law 437 = .ok (.aload_n 0, 1) := by decide +kernel
theorem cd_W_law_438 : decode cb_W_law 438 = .ok (.iload 4, 2) := by decide +kernel
theorem cd_W_law_440 : decode cb_W_law 440 = .ok (.iconst 1, 1) := by decide +kernel
theorem cd_W_law_441 : decode cb_W_law 441 = .ok (.iadd, 1) := by decide +kernel
theorem cd_W_law_442 : decode cb_W_law 442 = .ok (.iaload, 1) := by decide +kernel
theorem cd_W_law_443 : decode cb_W_law 443 = .ok (.aload_n 0, 1) := by decide +kernel
theorem cd_W_law_444 : decode cb_W_law 444 = .ok (.iload 4, 2) := by decide +kernel
theorem cd_W_law_446 : decode cb_W_law 446 = .ok (.iconst 2, 1) := by decide +kernel
theorem cd_W_law_447 : decode cb_W_law 447 = .ok (.iadd, 1) := by decide +kernel
theorem cd_W_law_448 : decode cb_W_law 448 = .ok (.iaload, 1) := by decide +kernel
theorem cd_W_law_449 : decode cb_W_law 449 = .ok (.aload_n 0, 1) := by decide +kernel
theorem cd_W_law_450 : decode cb_W_law 450 = .ok (.iload 4, 2) := by decide +kernel
theorem cd_W_law_452 : decode cb_W_law 452 = .ok (.iconst 3, 1) := by decide +kernel
theorem cd_W_law_453 : decode cb_W_law 453 = .ok (.iadd, 1) := by decide +kernel
theorem cd_W_law_454 : decode cb_W_law 454 = .ok (.iaload, 1) := by decide +kernel
theorem cd_W_law_455 : decode cb_W_law 455 = .ok (.invokevirtual 70, 3) := by decide +kernel
theorem cd_W_law_458 : decode cb_W_law 458 = .ok (.if_icmp .eq 387, 3) := by decide +kernel
theorem cd_W_law_461 : decode cb_W_law 461 = .ok (.iconst 0, 1) := by decide +kernel
theorem cd_W_law_462 : decode cb_W_law 462 = .ok (.ireturn, 1) := by decide +kernel
theorem cd_W_law_463 : decode cb_W_law 463 = .ok (.aload_n 1, 1) := by decide +kernel
theorem cd_W_law_464 : decode cb_W_law 464 = .ok (.aload_n 0, 1) := by decide +kernel
theorem cd_W_law_465 : decode cb_W_law 465 = .ok (.iload 4, 2) := by decide +kernel
theorem cd_W_law_467 : decode cb_W_law 467 = .ok (.iconst 1, 1) := by decide +kernel
theorem cd_W_law_468 : decode cb_W_law 468 = .ok (.iadd, 1) := by decide +kernel
theorem cd_W_law_469 : decode cb_W_law 469 = .ok (.iaload, 1) := by decide +kernel
theorem cd_W_law_470 : decode cb_W_law 470 = .ok (.aload_n 0, 1) := by decide +kernel
theorem cd_W_law_471 : decode cb_W_law 471 = .ok (.iload 4, 2) := by decide +kernel
theorem cd_W_law_473 : decode cb_W_law 473 = .ok (.iconst 2, 1) := by decide +kernel
theorem cd_W_law_474 : decode cb_W_law 474 = .ok (.iadd, 1) := by decide +kernel
theorem cd_W_law_475 : decode cb_W_law 475 = .ok (.iaload, 1) := by decide +kernel
theorem cd_W_law_476 : decode cb_W_law 476 = .ok (.invokevirtual 71, 3) := by decide +kernel
theorem cd_W_law_479 : decode cb_W_law 479 = .ok (.aload_n 2, 1) := by decide +kernel
theorem cd_W_law_480 : decode cb_W_law 480 = .ok (.aload_n 0, 1) := by decide +kernel
theorem cd_W_law_481 : decode cb_W_law 481 = .ok (.iload 4, 2) := by decide +kernel
theorem cd_W_law_483 : decode cb_W_law 483 = .ok (.iconst 1, 1) := by decide +kernel
theorem cd_W_law_484 : decode cb_W_law 484 = .ok (.iadd, 1) := by decide +kernel
theorem cd_W_law_485 : decode cb_W_law 485 = .ok (.iaload, 1) := by decide +kernel
theorem cd_W_law_486 : decode cb_W_law 486 = .ok (.aload_n 0, 1) := by decide +kernel
theorem cd_W_law_487 : decode cb_W_law 487 = .ok (.iload 4, 2) := by decide +kernel
theorem cd_W_law_489 : decode cb_W_law 489 = .ok (.iconst 2, 1) := by decide +kernel
theorem cd_W_law_490 : decode cb_W_law 490 = .ok (.iadd, 1) := by decide +kernel
theorem cd_W_law_491 : decode cb_W_law 491 = .ok (.iaload, 1) := by decide +kernel
theorem cd_W_law_492 : decode cb_W_law 492 = .ok (.invokevirtual 74, 3) := by decide +kernel
theorem cd_W_law_495 : decode cb_W_law 495 = .ok (.if_icmp .eq 350, 3) := by decide +kernel
theorem cd_W_law_498 : decode cb_W_law 498 = .ok (.iconst 0, 1) := by decide +kernel
theorem cd_W_law_499 : decode cb_W_law 499 = .ok (.ireturn, 1) := by decide +kernel
theorem cd_W_law_500 : decode cb_W_law 500 = .ok (.aload_n 1, 1) := by decide +kernel
theorem cd_W_law_501 : decode cb_W_law 501 = .ok (.aload_n 0, 1) := by decide +kernel
theorem cd_W_law_502 : decode cb_W_law 502 = .ok (.iload 4, 2) := by decide +kernel
theorem cd_W_law_504 : decode cb_W_law 504 = .ok (.iconst 1, 1) := by decide +kernel
theorem cd_W_law_505 : decode cb_W_law 505 = .ok (.iadd, 1) := by decide +kernel
theorem cd_W_law_506 : decode cb_W_law 506 = .ok (.iaload, 1) := by decide +kernel
theorem cd_W_law_507 : decode cb_W_law 507 = .ok (.aload_n 0, 1) := by decide +kernel
theorem cd_W_law_508 : decode cb_W_law 508 = .ok (.iload 4, 2) := by decide +kernel
theorem cd_W_law_510 : decode cb_W_law 510 = .ok (.iconst 2, 1) := by decide +kernel
theorem cd_W_law_511 : decode cb_W_law 511 = .ok (.iadd, 1) := by decide +kernel
theorem cd_W_law_512 : decode cb_W_law 512 = .ok (.iaload, 1) := by decide +kernel
theorem cd_W_law_513 : decode cb_W_law 513 = .ok (.invokevirtual 75, 3) := by decide +kernel
theorem cd_W_law_516 : decode cb_W_law 516 = .ok (.aload_n 2, 1) := by decide +kernel
theorem cd_W_law_517 : decode cb_W_law 517 = .ok (.aload_n 0, 1) := by decide +kernel
theorem cd_W_law_518 : decode cb_W_law 518 = .ok (.iload 4, 2) := by decide +kernel
theorem cd_W_law_520 : decode cb_W_law 520 = .ok (.iconst 1, 1) := by decide +kernel
theorem cd_W_law_521 : decode cb_W_law 521 = .ok (.iadd, 1) := by decide +kernel
theorem cd_W_law_522 : decode cb_W_law 522 = .ok (.iaload, 1) := by decide +kernel
theorem cd_W_law_523 : decode cb_W_law 523 = .ok (.aload_n 0, 1) := by decide +kernel
theorem cd_W_law_524 : decode cb_W_law 524 = .ok (.iload 4, 2) := by decide +kernel
theorem cd_W_law_526 : decode cb_W_law 526 = .ok (.iconst 2, 1) := by decide +kernel
theorem cd_W_law_527 : decode cb_W_law 527 = .ok (.iadd, 1) := by decide +kernel
theorem cd_W_law_528 : decode cb_W_law 528 = .ok (.iaload, 1) := by decide +kernel
theorem cd_W_law_529 : decode cb_W_law 529 = .ok (.invokevirtual 78, 3) := by decide +kernel
theorem cd_W_law_532 : decode cb_W_law 532 = .ok (.if_icmp .eq 313, 3) := by decide +kernel
theorem cd_W_law_535 : decode cb_W_law 535 = .ok (.iconst 0, 1) := by decide +kernel
theorem cd_W_law_536 : decode cb_W_law 536 = .ok (.ireturn, 1) := by decide +kernel
theorem cd_W_law_537 : decode cb_W_law 537 = .ok (.aload_n 1, 1) := by decide +kernel
theorem cd_W_law_538 : decode cb_W_law 538 = .ok (.aload_n 0, 1) := by decide +kernel
theorem cd_W_law_539 : decode cb_W_law 539 = .ok (.iload 4, 2) := by decide +kernel
theorem cd_W_law_541 : decode cb_W_law 541 = .ok (.iconst 1, 1) := by decide +kernel
theorem cd_W_law_542 : decode cb_W_law 542 = .ok (.iadd, 1) := by decide +kernel
theorem cd_W_law_543 : decode cb_W_law 543 = .ok (.iaload, 1) := by decide +kernel
theorem cd_W_law_544 : decode cb_W_law 544 = .ok (.aload_n 0, 1) := by decide +kernel
theorem cd_W_law_545 : decode cb_W_law 545 = .ok (.iload 4, 2) := by decide +kernel
theorem cd_W_law_547 : decode cb_W_law 547 = .ok (.iconst 2, 1) := by decide +kernel
theorem cd_W_law_548 : decode cb_W_law 548 = .ok (.iadd, 1) := by decide +kernel
theorem cd_W_law_549 : decode cb_W_law 549 = .ok (.iaload, 1) := by decide +kernel
theorem cd_W_law_550 : decode cb_W_law 550 = .ok (.invokevirtual 79, 3) := by decide +kernel
theorem cd_W_law_553 : decode cb_W_law 553 = .ok (.aload_n 2, 1) := by decide +kernel
theorem cd_W_law_554 : decode cb_W_law 554 = .ok (.aload_n 0, 1) := by decide +kernel
theorem cd_W_law_555 : decode cb_W_law 555 = .ok (.iload 4, 2) := by decide +kernel
theorem cd_W_law_557 : decode cb_W_law 557 = .ok (.iconst 1, 1) := by decide +kernel
theorem cd_W_law_558 : decode cb_W_law 558 = .ok (.iadd, 1) := by decide +kernel
theorem cd_W_law_559 : decode cb_W_law 559 = .ok (.iaload, 1) := by decide +kernel
theorem cd_W_law_560 : decode cb_W_law 560 = .ok (.aload_n 0, 1) := by decide +kernel
theorem cd_W_law_561 : decode cb_W_law 561 = .ok (.iload 4, 2) := by decide +kernel
theorem cd_W_law_563 : decode cb_W_law 563 = .ok (.iconst 2, 1) := by decide +kernel
theorem cd_W_law_564 : decode cb_W_law 564 = .ok (.iadd, 1) := by decide +kernel
theorem cd_W_law_565 : decode cb_W_law 565 = .ok (.iaload, 1) := by decide +kernel
theorem cd_W_law_566 : decode cb_W_law 566 = .ok (.invokevirtual 82, 3) := by decide +kernel
theorem cd_W_law_569 : decode cb_W_law 569 = .ok (.if_icmp .eq 276, 3) := by decide +kernel
theorem cd_W_law_572 : decode cb_W_law 572 = .ok (.iconst 0, 1) := by decide +kernel
theorem cd_W_law_573 : decode cb_W_law 573 = .ok (.ireturn, 1) := by decide +kernel
theorem cd_W_law_574 : decode cb_W_law 574 = .ok (.aload_n 1, 1) := by decide +kernel
theorem cd_W_law_575 : decode cb_W_law 575 = .ok (.aload_n 0, 1) := by decide +kernel
theorem cd_W_law_576 : decode cb_W_law 576 = .ok (.iload 4, 2) := by decide +kernel
theorem cd_W_law_578 : decode cb_W_law 578 = .ok (.iconst 1, 1) := by decide +kernel
theorem cd_W_law_579 : decode cb_W_law 579 = .ok (.iadd, 1) := by decide +kernel
theorem cd_W_law_580 : decode cb_W_law 580 = .ok (.iaload, 1) := by decide +kernel
theorem cd_W_law_581 : decode cb_W_law 581 = .ok (.aload_n 0, 1) := by decide +kernel
theorem cd_W_law_582 : decode cb_W_law 582 = .ok (.iload 4, 2) := by decide +kernel
theorem cd_W_law_584 : decode cb_W_law 584 = .ok (.iconst 2, 1) := by decide +kernel
theorem cd_W_law_585 : decode cb_W_law 585 = .ok (.iadd, 1) := by decide +kernel
theorem cd_W_law_586 : decode cb_W_law 586 = .ok (.iaload, 1) := by decide +kernel
theorem cd_W_law_587 : decode cb_W_law 587 = .ok (.invokevirtual 83, 3) := by decide +kernel
theorem cd_W_law_590 : decode cb_W_law 590 = .ok (.aload_n 2, 1) := by decide +kernel
theorem cd_W_law_591 : decode cb_W_law 591 = .ok (.aload_n 0, 1) := by decide +kernel
theorem cd_W_law_592 : decode cb_W_law 592 = .ok (.iload 4, 2) := by decide +kernel
theorem cd_W_law_594 : decode cb_W_law 594 = .ok (.iconst 1, 1) := by decide +kernel
theorem cd_W_law_595 : decode cb_W_law 595 = .ok (.iadd, 1) := by decide +kernel
theorem cd_W_law_596 : decode cb_W_law 596 = .ok (.iaload, 1) := by decide +kernel
theorem cd_W_law_597 : decode cb_W_law 597 = .ok (.aload_n 0, 1) := by decide +kernel
theorem cd_W_law_598 : decode cb_W_law 598 = .ok (.iload 4, 2) := by decide +kernel
theorem cd_W_law_600 : decode cb_W_law 600 = .ok (.iconst 2, 1) := by decide +kernel
theorem cd_W_law_601 : decode cb_W_law 601 = .ok (.iadd, 1) := by decide +kernel
theorem cd_W_law_602 : decode cb_W_law 602 = .ok (.iaload, 1) := by decide +kernel
theorem cd_W_law_603 : decode cb_W_law 603 = .ok (.invokevirtual 86, 3) := by decide +kernel
theorem cd_W_law_606 : decode cb_W_law 606 = .ok (.if_icmp .eq 239, 3) := by decide +kernel
theorem cd_W_law_609 : decode cb_W_law 609 = .ok (.iconst 0, 1) := by decide +kernel
theorem cd_W_law_610 : decode cb_W_law 610 = .ok (.ireturn, 1) := by decide +kernel
theorem cd_W_law_611 : decode cb_W_law 611 = .ok (.aload_n 1, 1) := by decide +kernel
theorem cd_W_law_612 : decode cb_W_law 612 = .ok (.aload_n 0, 1) := by decide +kernel
theorem cd_W_law_613 : decode cb_W_law 613 = .ok (.iload 4, 2) := by decide +kernel
theorem cd_W_law_615 : decode cb_W_law 615 = .ok (.iconst 1, 1) := by decide +kernel
theorem cd_W_law_616 : decode cb_W_law 616 = .ok (.iadd, 1) := by decide +kernel
theorem cd_W_law_617 : decode cb_W_law 617 = .ok (.iaload, 1) := by decide +kernel
theorem cd_W_law_618 : decode cb_W_law 618 = .ok (.aload_n 0, 1) := by decide +kernel
theorem cd_W_law_619 : decode cb_W_law 619 = .ok (.iload 4, 2) := by decide +kernel
theorem cd_W_law_621 : decode cb_W_law 621 = .ok (.iconst 2, 1) := by decide +kernel
theorem cd_W_law_622 : decode cb_W_law 622 = .ok (.iadd, 1) := by decide +kernel
theorem cd_W_law_623 : decode cb_W_law 623 = .ok (.iaload, 1) := by decide +kernel
theorem cd_W_law_624 : decode cb_W_law 624 = .ok (.invokevirtual 87, 3) := by decide +kernel
theorem cd_W_law_627 : decode cb_W_law 627 = .ok (.aload_n 2, 1) := by decide +kernel
theorem cd_W_law_628 : decode cb_W_law 628 = .ok (.aload_n 0, 1) := by decide +kernel
theorem cd_W_law_629 : decode cb_W_law 629 = .ok (.iload 4, 2) := by decide +kernel
theorem cd_W_law_631 : decode cb_W_law 631 = .ok (.iconst 1, 1) := by decide +kernel
theorem cd_W_law_632 : decode cb_W_law 632 = .ok (.iadd, 1) := by decide +kernel
theorem cd_W_law_633 : decode cb_W_law 633 = .ok (.iaload, 1) := by decide +kernel
theorem cd_W_law_634 : decode cb_W_law 634 = .ok (.aload_n 0, 1) := by decide +kernel
theorem cd_W_law_635 : decode cb_W_law 635 = .ok (.iload 4, 2) := by decide +kernel
theorem cd_W_law_637 : decode cb_W_law 637 = .ok (.iconst 2, 1) := by decide +kernel
theorem cd_W_law_638 : decode cb_W_law 638 = .ok (.iadd, 1) := by decide +kernel
theorem cd_W_law_639 : decode cb_W_law 639 = .ok (.iaload, 1) := by decide +kernel
theorem cd_W_law_640 : decode cb_W_law 640 = .ok (.invokevirtual 90, 3) := by decide +kernel
theorem cd_W_law_643 : decode cb_W_law 643 = .ok (.if_icmp .eq 202, 3) := by decide +kernel
theorem cd_W_law_646 : decode cb_W_law 646 = .ok (.iconst 0, 1) := by decide +kernel
theorem cd_W_law_647 : decode cb_W_law 647 = .ok (.ireturn, 1) := by decide +kernel
theorem cd_W_law_648 : decode cb_W_law 648 = .ok (.aload_n 1, 1) := by decide +kernel
theorem cd_W_law_649 : decode cb_W_law 649 = .ok (.aload_n 0, 1) := by decide +kernel
theorem cd_W_law_650 : decode cb_W_law 650 = .ok (.iload 4, 2) := by decide +kernel
theorem cd_W_law_652 : decode cb_W_law 652 = .ok (.iconst 1, 1) := by decide +kernel
theorem cd_W_law_653 : decode cb_W_law 653 = .ok (.iadd, 1) := by decide +kernel
theorem cd_W_law_654 : decode cb_W_law 654 = .ok (.iaload, 1) := by decide +kernel
theorem cd_W_law_655 : decode cb_W_law 655 = .ok (.aload_n 0, 1) := by decide +kernel
theorem cd_W_law_656 : decode cb_W_law 656 = .ok (.iload 4, 2) := by decide +kernel
theorem cd_W_law_658 : decode cb_W_law 658 = .ok (.iconst 2, 1) := by decide +kernel
theorem cd_W_law_659 : decode cb_W_law 659 = .ok (.iadd, 1) := by decide +kernel
theorem cd_W_law_660 : decode cb_W_law 660 = .ok (.iaload, 1) := by decide +kernel
theorem cd_W_law_661 : decode cb_W_law 661 = .ok (.ifCond .eq 7, 3) := by decide +kernel
theorem cd_W_law_664 : decode cb_W_law 664 = .ok (.iconst 1, 1) := by decide +kernel
theorem cd_W_law_665 : decode cb_W_law 665 = .ok (.goto 4, 3) := by decide +kernel
theorem cd_W_law_668 : decode cb_W_law 668 = .ok (.iconst 0, 1) := by decide +kernel
theorem cd_W_law_669 : decode cb_W_law 669 = .ok (.invokevirtual 91, 3) := by decide +kernel
theorem cd_W_law_672 : decode cb_W_law 672 = .ok (.aload_n 2, 1) := by decide +kernel
theorem cd_W_law_673 : decode cb_W_law 673 = .ok (.aload_n 0, 1) := by decide +kernel
theorem cd_W_law_674 : decode cb_W_law 674 = .ok (.iload 4, 2) := by decide +kernel
theorem cd_W_law_676 : decode cb_W_law 676 = .ok (.iconst 1, 1) := by decide +kernel
theorem cd_W_law_677 : decode cb_W_law 677 = .ok (.iadd, 1) := by decide +kernel
theorem cd_W_law_678 : decode cb_W_law 678 = .ok (.iaload, 1) := by decide +kernel
theorem cd_W_law_679 : decode cb_W_law 679 = .ok (.aload_n 0, 1) := by decide +kernel
theorem cd_W_law_680 : decode cb_W_law 680 = .ok (.iload 4, 2) := by decide +kernel
theorem cd_W_law_682 : decode cb_W_law 682 = .ok (.iconst 2, 1) := by decide +kernel
theorem cd_W_law_683 : decode cb_W_law 683 = .ok (.iadd, 1) := by decide +kernel
theorem cd_W_law_684 : decode cb_W_law 684 = .ok (.iaload, 1) := by decide +kernel
theorem cd_W_law_685 : decode cb_W_law 685 = .ok (.ifCond .eq 7, 3) := by decide +kernel
theorem cd_W_law_688 : decode cb_W_law 688 = .ok (.iconst 1, 1) := by decide +kernel
theorem cd_W_law_689 : decode cb_W_law 689 = .ok (.goto 4, 3) := by decide +kernel
theorem cd_W_law_692 : decode cb_W_law 692 = .ok (.iconst 0, 1) := by decide +kernel
theorem cd_W_law_693 : decode cb_W_law 693 = .ok (.invokevirtual 95, 3) := by decide +kernel
theorem cd_W_law_696 : decode cb_W_law 696 = .ok (.if_icmp .eq 149, 3) := by decide +kernel
theorem cd_W_law_699 : decode cb_W_law 699 = .ok (.iconst 0, 1) := by decide +kernel
theorem cd_W_law_700 : decode cb_W_law 700 = .ok (.ireturn, 1) := by decide +kernel
theorem cd_W_law_701 : decode cb_W_law 701 = .ok (.aload_n 1, 1) := by decide +kernel
theorem cd_W_law_702 : decode cb_W_law 702 = .ok (.aload_n 3, 1) := by decide +kernel
theorem cd_W_law_703 : decode cb_W_law 703 = .ok (.invokestatic 96, 3) := by decide +kernel
theorem cd_W_law_706 : decode cb_W_law 706 = .ok (.istore 5, 2) := by decide +kernel
theorem cd_W_law_708 : decode cb_W_law 708 = .ok (.aload_n 2, 1) := by decide +kernel
theorem cd_W_law_709 : decode cb_W_law 709 = .ok (.invokevirtual 98, 3) := by decide +kernel
theorem cd_W_law_712 : decode cb_W_law 712 = .ok (.istore 6, 2) := by decide +kernel
theorem cd_W_law_714 : decode cb_W_law 714 = .ok (.aload_n 2, 1) := by decide +kernel
theorem cd_W_law_715 : decode cb_W_law 715 = .ok (.invokevirtual 33, 3) := by decide +kernel
theorem cd_W_law_718 : decode cb_W_law 718 = .ok (.iload 5, 2) := by decide +kernel
theorem cd_W_law_720 : decode cb_W_law 720 = .ok (.if_icmp .eq 5, 3) := by decide +kernel
theorem cd_W_law_723 : decode cb_W_law 723 = .ok (.iconst 0, 1) := by decide +kernel
theorem cd_W_law_724 : decode cb_W_law 724 = .ok (.ireturn, 1) := by decide +kernel
theorem cd_W_law_725 : decode cb_W_law 725 = .ok (.iload 5, 2) := by decide +kernel
theorem cd_W_law_727 : decode cb_W_law 727 = .ok (.ifCond .ne 15, 3) := by decide +kernel
theorem cd_W_law_730 : decode cb_W_law 730 = .ok (.aload_n 3, 1) := by decide +kernel
theorem cd_W_law_731 : decode cb_W_law 731 = .ok (.iconst 0, 1) := by decide +kernel
theorem cd_W_law_732 : decode cb_W_law 732 = .ok (.laload, 1) := by decide +kernel
theorem cd_W_law_733 : decode cb_W_law 733 = .ok (.iload 6, 2) := by decide +kernel
theorem cd_W_law_735 : decode cb_W_law 735 = .ok (.i2l, 1) := by decide +kernel
theorem cd_W_law_736 : decode cb_W_law 736 = .ok (.lcmp, 1) := by decide +kernel
theorem cd_W_law_737 : decode cb_W_law 737 = .ok (.ifCond .eq 5, 3) := by decide +kernel
theorem cd_W_law_740 : decode cb_W_law 740 = .ok (.iconst 0, 1) := by decide +kernel
theorem cd_W_law_741 : decode cb_W_law 741 = .ok (.ireturn, 1) := by decide +kernel
theorem cd_W_law_742 : decode cb_W_law 742 = .ok (.goto 103, 3) := by decide +kernel
theorem cd_W_law_745 : decode cb_W_law 745 = .ok (.aload_n 1, 1) := by decide +kernel
theorem cd_W_law_746 : decode cb_W_law 746 = .ok (.aload_n 0, 1) := by decide +kernel
theorem cd_W_law_747 : decode cb_W_law 747 = .ok (.iload 4, 2) := by decide +kernel
theorem cd_W_law_749 : decode cb_W_law 749 = .ok (.iconst 1, 1) := by decide +kernel
theorem cd_W_law_750 : decode cb_W_law 750 = .ok (.iadd, 1) := by decide +kernel
theorem cd_W_law_751 : decode cb_W_law 751 = .ok (.iaload, 1) := by decide +kernel
theorem cd_W_law_752 : decode cb_W_law 752 = .ok (.aload_n 0, 1) := by decide +kernel
theorem cd_W_law_753 : decode cb_W_law 753 = .ok (.iload 4, 2) := by decide +kernel
theorem cd_W_law_755 : decode cb_W_law 755 = .ok (.iconst 2, 1) := by decide +kernel
theorem cd_W_law_756 : decode cb_W_law 756 = .ok (.iadd, 1) := by decide +kernel
theorem cd_W_law_757 : decode cb_W_law 757 = .ok (.iaload, 1) := by decide +kernel
theorem cd_W_law_758 : decode cb_W_law 758 = .ok (.invokevirtual 99, 3) := by decide +kernel
theorem cd_W_law_761 : decode cb_W_law 761 = .ok (.aload_n 2, 1) := by decide +kernel
theorem cd_W_law_762 : decode cb_W_law 762 = .ok (.aload_n 0, 1) := by decide +kernel
theorem cd_W_law_763 : decode cb_W_law 763 = .ok (.iload 4, 2) := by decide +kernel
theorem cd_W_law_765 : decode cb_W_law 765 = .ok (.iconst 1, 1) := by decide +kernel
theorem cd_W_law_766 : decode cb_W_law 766 = .ok (.iadd, 1) := by decide +kernel
theorem cd_W_law_767 : decode cb_W_law 767 = .ok (.iaload, 1) := by decide +kernel
theorem cd_W_law_768 : decode cb_W_law 768 = .ok (.aload_n 0, 1) := by decide +kernel
theorem cd_W_law_769 : decode cb_W_law 769 = .ok (.iload 4, 2) := by decide +kernel
theorem cd_W_law_771 : decode cb_W_law 771 = .ok (.iconst 2, 1) := by decide +kernel
theorem cd_W_law_772 : decode cb_W_law 772 = .ok (.iadd, 1) := by decide +kernel
theorem cd_W_law_773 : decode cb_W_law 773 = .ok (.iaload, 1) := by decide +kernel
theorem cd_W_law_774 : decode cb_W_law 774 = .ok (.invokevirtual 102, 3) := by decide +kernel
theorem cd_W_law_777 : decode cb_W_law 777 = .ok (.if_icmp .eq 68, 3) := by decide +kernel
theorem cd_W_law_780 : decode cb_W_law 780 = .ok (.iconst 0, 1) := by decide +kernel
theorem cd_W_law_781 : decode cb_W_law 781 = .ok (.ireturn, 1) := by decide +kernel
theorem cd_W_law_782 : decode cb_W_law 782 = .ok (.aload_n 1, 1) := by decide +kernel
theorem cd_W_law_783 : decode cb_W_law 783 = .ok (.aload_n 0, 1) := by decide +kernel
theorem cd_W_law_784 : decode cb_W_law 784 = .ok (.iload 4, 2) := by decide +kernel
theorem cd_W_law_786 : decode cb_W_law 786 = .ok (.iconst 1, 1) := by decide +kernel
theorem cd_W_law_787 : decode cb_W_law 787 = .ok (.iadd, 1) := by decide +kernel
theorem cd_W_law_788 : decode cb_W_law 788 = .ok (.iaload, 1) := by decide +kernel
theorem cd_W_law_789 : decode cb_W_law 789 = .ok (.invokevirtual 103, 3) := by decide +kernel
theorem cd_W_law_792 : decode cb_W_law 792 = .ok (.aload_n 2, 1) := by decide +kernel
theorem cd_W_law_793 : decode cb_W_law 793 = .ok (.aload_n 0, 1) := by decide +kernel
theorem cd_W_law_794 : decode cb_W_law 794 = .ok (.iload 4, 2) := by decide +kernel
theorem cd_W_law_796 : decode cb_W_law 796 = .ok (.iconst 1, 1) := by decide +kernel
theorem cd_W_law_797 : decode cb_W_law 797 = .ok (.iadd, 1) := by decide +kernel
theorem cd_W_law_798 : decode cb_W_law 798 = .ok (.iaload, 1) := by decide +kernel
theorem cd_W_law_799 : decode cb_W_law 799 = .ok (.invokevirtual 106, 3) := by decide +kernel
theorem cd_W_law_802 : decode cb_W_law 802 = .ok (.if_icmp .eq 43, 3) := by decide +kernel
theorem cd_W_law_805 : decode cb_W_law 805 = .ok (.iconst 0, 1) := by decide +kernel
theorem cd_W_law_806 : decode cb_W_law 806 = .ok (.ireturn, 1) := by decide +kernel
theorem cd_W_law_807 : decode cb_W_law 807 = .ok (.aload_n 1, 1) := by decide +kernel
theorem cd_W_law_808 : decode cb_W_law 808 = .ok (.invokevirtual 107, 3) := by decide +kernel
theorem cd_W_law_811 : decode cb_W_law 811 = .ok (.aload_n 2, 1) := by decide +kernel
theorem cd_W_law_812 : decode cb_W_law 812 = .ok (.invokevirtual 110, 3) := by decide +kernel
theorem cd_W_law_815 : decode cb_W_law 815 = .ok (.if_icmp .eq 30, 3) := by decide +kernel
theorem cd_W_law_818 : decode cb_W_law 818 = .ok (.iconst 0, 1) := by decide +kernel
theorem cd_W_law_819 : decode cb_W_law 819 = .ok (.ireturn, 1) := by decide +kernel
theorem cd_W_law_820 : decode cb_W_law 820 = .ok (.aload_n 1, 1) := by decide +kernel
theorem cd_W_law_821 : decode cb_W_law 821 = .ok (.aload_n 0, 1) := by decide +kernel
theorem cd_W_law_822 : decode cb_W_law 822 = .ok (.iload 4, 2) := by decide +kernel
theorem cd_W_law_824 : decode cb_W_law 824 = .ok (.iconst 1, 1) := by decide +kernel
theorem cd_W_law_825 : decode cb_W_law 825 = .ok (.iadd, 1) := by decide +kernel
theorem cd_W_law_826 : decode cb_W_law 826 = .ok (.iaload, 1) := by decide +kernel
theorem cd_W_law_827 : decode cb_W_law 827 = .ok (.invokevirtual 111, 3) := by decide +kernel
theorem cd_W_law_830 : decode cb_W_law 830 = .ok (.aload_n 2, 1) := by decide +kernel
theorem cd_W_law_831 : decode cb_W_law 831 = .ok (.aload_n 0, 1) := by decide +kernel
theorem cd_W_law_832 : decode cb_W_law 832 = .ok (.iload 4, 2) := by decide +kernel
theorem cd_W_law_834 : decode cb_W_law 834 = .ok (.iconst 1, 1) := by decide +kernel
theorem cd_W_law_835 : decode cb_W_law 835 = .ok (.iadd, 1) := by decide +kernel
theorem cd_W_law_836 : decode cb_W_law 836 = .ok (.iaload, 1) := by decide +kernel
theorem cd_W_law_837 : decode cb_W_law 837 = .ok (.invokevirtual 114, 3) := by decide +kernel
theorem cd_W_law_840 : decode cb_W_law 840 = .ok (.if_icmp .eq 5, 3) := by decide +kernel
theorem cd_W_law_843 : decode cb_W_law 843 = .ok (.iconst 0, 1) := by decide +kernel
theorem cd_W_law_844 : decode cb_W_law 844 = .ok (.ireturn, 1) := by decide +kernel
theorem cd_W_law_845 : decode cb_W_law 845 = .ok (.iinc 4 4, 3) := by decide +kernel
theorem cd_W_law_848 : decode cb_W_law 848 = .ok (.goto (-825), 3) := by decide +kernel
theorem cd_W_law_851 : decode cb_W_law 851 = .ok (.iconst 1, 1) := by decide +kernel
theorem cd_W_law_852 : decode cb_W_law 852 = .ok (.ireturn, 1) := by decide +kernel
end
section
theorem zm_0 : (Jvm.Cond.selects "FindingAid$Sums" ({ cls := "FindingAid$Sums", name := "weighOne", desc := "(LFindingAid$Levels;I)V" } : Jvm.MethodName) ({ cls := "FindingAid$Sums", name := "weighOne", desc := "(LFindingAid$Levels;I)V" } : Jvm.MethodName)) ∈ zc_T := zc_in 0 (by decide +kernel) (by decide +kernel)
theorem zm_1 : (Jvm.Cond.selects "FindingAid$Levels" ({ cls := "FindingAid$Levels", name := "deepestWithin", desc := "(I)I" } : Jvm.MethodName) ({ cls := "FindingAid$Levels", name := "deepestWithin", desc := "(I)I" } : Jvm.MethodName)) ∈ zc_T := zc_in 1 (by decide +kernel) (by decide +kernel)
theorem zm_2 : (Jvm.Cond.selects "FindingAid$Levels" ({ cls := "FindingAid$Levels", name := "deeperUnder", desc := "(II)I" } : Jvm.MethodName) ({ cls := "FindingAid$Levels", name := "deeperUnder", desc := "(II)I" } : Jvm.MethodName)) ∈ zc_T := zc_in 2 (by decide +kernel) (by decide +kernel)
theorem zm_3 : (Jvm.Cond.selects "FindingAid" ({ cls := "FindingAid", name := "isShown", desc := "(I)Z" } : Jvm.MethodName) ({ cls := "FindingAid", name := "isShown", desc := "(I)Z" } : Jvm.MethodName)) ∈ zc_T := zc_in 3 (by decide +kernel) (by decide +kernel)
theorem zm_4 : (Jvm.Cond.selects "FindingAid$Page" ({ cls := "FindingAid$Page", name := "writeLine", desc := "(LFindingAid$Levels;I)V" } : Jvm.MethodName) ({ cls := "FindingAid$Page", name := "writeLine", desc := "(LFindingAid$Levels;I)V" } : Jvm.MethodName)) ∈ zc_T := zc_in 4 (by decide +kernel) (by decide +kernel)
theorem zm_5 : (Jvm.Cond.selects "FindingAid$Page" ({ cls := "FindingAid$Page", name := "put", desc := "(I)V" } : Jvm.MethodName) ({ cls := "FindingAid$Page", name := "put", desc := "(I)V" } : Jvm.MethodName)) ∈ zc_T := zc_in 5 (by decide +kernel) (by decide +kernel)
theorem zm_6 : (Jvm.Cond.selects "FindingAid$Page" ({ cls := "FindingAid$Page", name := "putOneOf", desc := "([CI)V" } : Jvm.MethodName) ({ cls := "FindingAid$Page", name := "putOneOf", desc := "([CI)V" } : Jvm.MethodName)) ∈ zc_T := zc_in 6 (by decide +kernel) (by decide +kernel)
theorem zm_7 : (Jvm.Cond.selects "FindingAid$Page" ({ cls := "FindingAid$Page", name := "putNumber", desc := "(I)V" } : Jvm.MethodName) ({ cls := "FindingAid$Page", name := "putNumber", desc := "(I)V" } : Jvm.MethodName)) ∈ zc_T := zc_in 7 (by decide +kernel) (by decide +kernel)
theorem zm_8 : (Jvm.Cond.selects "FindingAid$Page" ({ cls := "FindingAid$Page", name := "writeDate", desc := "(LFindingAid$Levels;I)V" } : Jvm.MethodName) ({ cls := "FindingAid$Page", name := "writeDate", desc := "(LFindingAid$Levels;I)V" } : Jvm.MethodName)) ∈ zc_T := zc_in 8 (by decide +kernel) (by decide +kernel)
theorem zm_9 : (Jvm.Cond.selects "FindingAid$Levels" ({ cls := "FindingAid$Levels", name := "isBehind", desc := "(II)Z" } : Jvm.MethodName) ({ cls := "FindingAid$Levels", name := "isBehind", desc := "(II)Z" } : Jvm.MethodName)) ∈ zc_T := zc_in 9 (by decide +kernel) (by decide +kernel)
theorem zm_10 : (Jvm.Cond.selects "FindingAid$TextReader" ({ cls := "FindingAid$TextReader", name := "readLines", desc := "()Z" } : Jvm.MethodName) ({ cls := "FindingAid$TextReader", name := "readLines", desc := "()Z" } : Jvm.MethodName)) ∈ zc_T := zc_in 10 (by decide +kernel) (by decide +kernel)
theorem zm_11 : (Jvm.Cond.selects "FindingAid$TextReader" ({ cls := "FindingAid$TextReader", name := "readLine", desc := "(I)Z" } : Jvm.MethodName) ({ cls := "FindingAid$TextReader", name := "readLine", desc := "(I)Z" } : Jvm.MethodName)) ∈ zc_T := zc_in 11 (by decide +kernel) (by decide +kernel)
theorem zm_12 : (Jvm.Cond.selects "FindingAid$TextReader" ({ cls := "FindingAid$TextReader", name := "readDepth", desc := "(I)Z" } : Jvm.MethodName) ({ cls := "FindingAid$TextReader", name := "readDepth", desc := "(I)Z" } : Jvm.MethodName)) ∈ zc_T := zc_in 12 (by decide +kernel) (by decide +kernel)
theorem zm_13 : (Jvm.Cond.selects "FindingAid$TextReader" ({ cls := "FindingAid$TextReader", name := "ahead", desc := "(I)I" } : Jvm.MethodName) ({ cls := "FindingAid$TextReader", name := "ahead", desc := "(I)I" } : Jvm.MethodName)) ∈ zc_T := zc_in 13 (by decide +kernel) (by decide +kernel)
theorem zm_14 : (Jvm.Cond.selects "FindingAid$TextReader" ({ cls := "FindingAid$TextReader", name := "wrongAt", desc := "(I)Z" } : Jvm.MethodName) ({ cls := "FindingAid$TextReader", name := "wrongAt", desc := "(I)Z" } : Jvm.MethodName)) ∈ zc_T := zc_in 14 (by decide +kernel) (by decide +kernel)
theorem zm_15 : (Jvm.Cond.selects "FindingAid$Levels" ({ cls := "FindingAid$Levels", name := "latestOfDepth", desc := "(II)I" } : Jvm.MethodName) ({ cls := "FindingAid$Levels", name := "latestOfDepth", desc := "(II)I" } : Jvm.MethodName)) ∈ zc_T := zc_in 15 (by decide +kernel) (by decide +kernel)
theorem zm_16 : (Jvm.Cond.selects "FindingAid$TextReader" ({ cls := "FindingAid$TextReader", name := "readKind", desc := "(I)Z" } : Jvm.MethodName) ({ cls := "FindingAid$TextReader", name := "readKind", desc := "(I)Z" } : Jvm.MethodName)) ∈ zc_T := zc_in 16 (by decide +kernel) (by decide +kernel)
theorem zm_17 : (Jvm.Cond.selects "FindingAid$TextReader" ({ cls := "FindingAid$TextReader", name := "readNumber", desc := "(I)Z" } : Jvm.MethodName) ({ cls := "FindingAid$TextReader", name := "readNumber", desc := "(I)Z" } : Jvm.MethodName)) ∈ zc_T := zc_in 17 (by decide +kernel) (by decide +kernel)
theorem zm_18 : (Jvm.Cond.selects "FindingAid$TextReader" ({ cls := "FindingAid$TextReader", name := "readDigits", desc := "()I" } : Jvm.MethodName) ({ cls := "FindingAid$TextReader", name := "readDigits", desc := "()I" } : Jvm.MethodName)) ∈ zc_T := zc_in 18 (by decide +kernel) (by decide +kernel)
theorem zm_19 : (Jvm.Cond.selects "FindingAid$TextReader" ({ cls := "FindingAid$TextReader", name := "readTitle", desc := "(I)Z" } : Jvm.MethodName) ({ cls := "FindingAid$TextReader", name := "readTitle", desc := "(I)Z" } : Jvm.MethodName)) ∈ zc_T := zc_in 19 (by decide +kernel) (by decide +kernel)
theorem zm_20 : (Jvm.Cond.selects "FindingAid$TextReader" ({ cls := "FindingAid$TextReader", name := "expect", desc := "(I)Z" } : Jvm.MethodName) ({ cls := "FindingAid$TextReader", name := "expect", desc := "(I)Z" } : Jvm.MethodName)) ∈ zc_T := zc_in 20 (by decide +kernel) (by decide +kernel)
theorem zm_21 : (Jvm.Cond.selects "FindingAid$TextReader" ({ cls := "FindingAid$TextReader", name := "readDate", desc := "(I)Z" } : Jvm.MethodName) ({ cls := "FindingAid$TextReader", name := "readDate", desc := "(I)Z" } : Jvm.MethodName)) ∈ zc_T := zc_in 21 (by decide +kernel) (by decide +kernel)
theorem zm_22 : (Jvm.Cond.selects "FindingAid$TextReader" ({ cls := "FindingAid$TextReader", name := "readYear", desc := "(I)I" } : Jvm.MethodName) ({ cls := "FindingAid$TextReader", name := "readYear", desc := "(I)I" } : Jvm.MethodName)) ∈ zc_T := zc_in 22 (by decide +kernel) (by decide +kernel)
theorem zm_23 : (Jvm.Cond.selects "FindingAid$TextReader" ({ cls := "FindingAid$TextReader", name := "readExtent", desc := "(I)Z" } : Jvm.MethodName) ({ cls := "FindingAid$TextReader", name := "readExtent", desc := "(I)Z" } : Jvm.MethodName)) ∈ zc_T := zc_in 23 (by decide +kernel) (by decide +kernel)
theorem zm_24 : (Jvm.Cond.selects "java/lang/Throwable" ({ cls := "java/lang/Throwable", name := "fillInStackTrace", desc := "(I)Ljava/lang/Throwable;" } : Jvm.MethodName) ({ cls := "java/lang/Throwable", name := "fillInStackTrace", desc := "(I)Ljava/lang/Throwable;" } : Jvm.MethodName)) ∈ zc_T := zc_in 24 (by decide +kernel) (by decide +kernel)
theorem zm_25 : (Jvm.Cond.selects "FindingAid$Levels" ({ cls := "FindingAid$Levels", name := "hasPathOf", desc := "(ILFindingAid$Levels;I)Z" } : Jvm.MethodName) ({ cls := "FindingAid$Levels", name := "hasPathOf", desc := "(ILFindingAid$Levels;I)Z" } : Jvm.MethodName)) ∈ zc_T := zc_in 25 (by decide +kernel) (by decide +kernel)
theorem zm_26 : (Jvm.Cond.selects "FindingAid$Levels" ({ cls := "FindingAid$Levels", name := "hasTitleOf", desc := "(ILFindingAid$Levels;I)Z" } : Jvm.MethodName) ({ cls := "FindingAid$Levels", name := "hasTitleOf", desc := "(ILFindingAid$Levels;I)Z" } : Jvm.MethodName)) ∈ zc_T := zc_in 26 (by decide +kernel) (by decide +kernel)
theorem zm_27 : (Jvm.Cond.selects "FindingAid$Asks" ({ cls := "FindingAid$Asks", name := "add", desc := "(III)V" } : Jvm.MethodName) ({ cls := "FindingAid$Asks", name := "add", desc := "(III)V" } : Jvm.MethodName)) ∈ zc_T := zc_in 27 (by decide +kernel) (by decide +kernel)
theorem zm_28 : (Jvm.Cond.selects "FindingAidModel" ({ cls := "FindingAidModel", name := "reads", desc := "()Z" } : Jvm.MethodName) ({ cls := "FindingAidModel", name := "reads", desc := "()Z" } : Jvm.MethodName)) ∈ zc_T := zc_in 28 (by decide +kernel) (by decide +kernel)
theorem zm_29 : (Jvm.Cond.selects "FindingAidModel" ({ cls := "FindingAidModel", name := "line", desc := "(I)Z" } : Jvm.MethodName) ({ cls := "FindingAidModel", name := "line", desc := "(I)Z" } : Jvm.MethodName)) ∈ zc_T := zc_in 29 (by decide +kernel) (by decide +kernel)
theorem zm_30 : (Jvm.Cond.selects "FindingAidModel" ({ cls := "FindingAidModel", name := "place", desc := "(I)Z" } : Jvm.MethodName) ({ cls := "FindingAidModel", name := "place", desc := "(I)Z" } : Jvm.MethodName)) ∈ zc_T := zc_in 30 (by decide +kernel) (by decide +kernel)
theorem zm_31 : (Jvm.Cond.selects "FindingAidModel" ({ cls := "FindingAidModel", name := "depth", desc := "(I)I" } : Jvm.MethodName) ({ cls := "FindingAidModel", name := "depth", desc := "(I)I" } : Jvm.MethodName)) ∈ zc_T := zc_in 31 (by decide +kernel) (by decide +kernel)
theorem zm_32 : (Jvm.Cond.selects "FindingAidModel" ({ cls := "FindingAidModel", name := "look", desc := "()I" } : Jvm.MethodName) ({ cls := "FindingAidModel", name := "look", desc := "()I" } : Jvm.MethodName)) ∈ zc_T := zc_in 32 (by decide +kernel) (by decide +kernel)
theorem zm_33 : (Jvm.Cond.selects "FindingAidModel" ({ cls := "FindingAidModel", name := "number", desc := "([II)Z" } : Jvm.MethodName) ({ cls := "FindingAidModel", name := "number", desc := "([II)Z" } : Jvm.MethodName)) ∈ zc_T := zc_in 33 (by decide +kernel) (by decide +kernel)
theorem zm_34 : (Jvm.Cond.selects "FindingAidModel" ({ cls := "FindingAidModel", name := "isDigit", desc := "()Z" } : Jvm.MethodName) ({ cls := "FindingAidModel", name := "isDigit", desc := "()Z" } : Jvm.MethodName)) ∈ zc_T := zc_in 34 (by decide +kernel) (by decide +kernel)
theorem zm_35 : (Jvm.Cond.selects "FindingAidModel" ({ cls := "FindingAidModel", name := "eat", desc := "(I)Z" } : Jvm.MethodName) ({ cls := "FindingAidModel", name := "eat", desc := "(I)Z" } : Jvm.MethodName)) ∈ zc_T := zc_in 35 (by decide +kernel) (by decide +kernel)
theorem zm_36 : (Jvm.Cond.selects "FindingAidModel" ({ cls := "FindingAidModel", name := "titled", desc := "(I)Z" } : Jvm.MethodName) ({ cls := "FindingAidModel", name := "titled", desc := "(I)Z" } : Jvm.MethodName)) ∈ zc_T := zc_in 36 (by decide +kernel) (by decide +kernel)
theorem zm_37 : (Jvm.Cond.selects "FindingAidModel" ({ cls := "FindingAidModel", name := "dated", desc := "(I)Z" } : Jvm.MethodName) ({ cls := "FindingAidModel", name := "dated", desc := "(I)Z" } : Jvm.MethodName)) ∈ zc_T := zc_in 37 (by decide +kernel) (by decide +kernel)
theorem zm_38 : (Jvm.Cond.selects "FindingAidModel" ({ cls := "FindingAidModel", name := "year", desc := "([III)Z" } : Jvm.MethodName) ({ cls := "FindingAidModel", name := "year", desc := "([III)Z" } : Jvm.MethodName)) ∈ zc_T := zc_in 38 (by decide +kernel) (by decide +kernel)
theorem zm_39 : (Jvm.Cond.selects "FindingAidModel" ({ cls := "FindingAidModel", name := "extended", desc := "(I)Z" } : Jvm.MethodName) ({ cls := "FindingAidModel", name := "extended", desc := "(I)Z" } : Jvm.MethodName)) ∈ zc_T := zc_in 39 (by decide +kernel) (by decide +kernel)
theorem zm_40 : (Jvm.Cond.selects "FindingAidModel" ({ cls := "FindingAidModel", name := "copy", desc := "(IIZ)V" } : Jvm.MethodName) ({ cls := "FindingAidModel", name := "copy", desc := "(IIZ)V" } : Jvm.MethodName)) ∈ zc_T := zc_in 40 (by decide +kernel) (by decide +kernel)
theorem zm_41 : (Jvm.Cond.selects "FindingAidModel" ({ cls := "FindingAidModel", name := "isLevel", desc := "(I)Z" } : Jvm.MethodName) ({ cls := "FindingAidModel", name := "isLevel", desc := "(I)Z" } : Jvm.MethodName)) ∈ zc_T := zc_in 41 (by decide +kernel) (by decide +kernel)
theorem zm_42 : (Jvm.Cond.selects "FindingAidModel" ({ cls := "FindingAidModel", name := "sum", desc := "(IIZ)I" } : Jvm.MethodName) ({ cls := "FindingAidModel", name := "sum", desc := "(IIZ)I" } : Jvm.MethodName)) ∈ zc_T := zc_in 42 (by decide +kernel) (by decide +kernel)
theorem zm_43 : (Jvm.Cond.selects "FindingAidModel" ({ cls := "FindingAidModel", name := "counts", desc := "(IIIZ)Z" } : Jvm.MethodName) ({ cls := "FindingAidModel", name := "counts", desc := "(IIIZ)Z" } : Jvm.MethodName)) ∈ zc_T := zc_in 43 (by decide +kernel) (by decide +kernel)
theorem zm_44 : (Jvm.Cond.selects "FindingAidModel" ({ cls := "FindingAidModel", name := "hasName", desc := "(II)Z" } : Jvm.MethodName) ({ cls := "FindingAidModel", name := "hasName", desc := "(II)Z" } : Jvm.MethodName)) ∈ zc_T := zc_in 44 (by decide +kernel) (by decide +kernel)
theorem zm_45 : (Jvm.Cond.selects "FindingAidModel" ({ cls := "FindingAidModel", name := "lies", desc := "(II)Z" } : Jvm.MethodName) ({ cls := "FindingAidModel", name := "lies", desc := "(II)Z" } : Jvm.MethodName)) ∈ zc_T := zc_in 45 (by decide +kernel) (by decide +kernel)
theorem zm_46 : (Jvm.Cond.selects "FindingAidModel" ({ cls := "FindingAidModel", name := "isShown", desc := "(I)Z" } : Jvm.MethodName) ({ cls := "FindingAidModel", name := "isShown", desc := "(I)Z" } : Jvm.MethodName)) ∈ zc_T := zc_in 46 (by decide +kernel) (by decide +kernel)
theorem zm_47 : (Jvm.Cond.selects "FindingAidModel" ({ cls := "FindingAidModel", name := "samePath", desc := "(II)Z" } : Jvm.MethodName) ({ cls := "FindingAidModel", name := "samePath", desc := "(II)Z" } : Jvm.MethodName)) ∈ zc_T := zc_in 47 (by decide +kernel) (by decide +kernel)
theorem zm_48 : (Jvm.Cond.selects "FindingAidModel" ({ cls := "FindingAidModel", name := "differs", desc := "(II)I" } : Jvm.MethodName) ({ cls := "FindingAidModel", name := "differs", desc := "(II)I" } : Jvm.MethodName)) ∈ zc_T := zc_in 48 (by decide +kernel) (by decide +kernel)
theorem zm_49 : (Jvm.Cond.selects "FindingAidModel" ({ cls := "FindingAidModel", name := "write", desc := "(I)V" } : Jvm.MethodName) ({ cls := "FindingAidModel", name := "write", desc := "(I)V" } : Jvm.MethodName)) ∈ zc_T := zc_in 49 (by decide +kernel) (by decide +kernel)
theorem zm_50 : (Jvm.Cond.selects "FindingAidModel" ({ cls := "FindingAidModel", name := "put", desc := "(I)V" } : Jvm.MethodName) ({ cls := "FindingAidModel", name := "put", desc := "(I)V" } : Jvm.MethodName)) ∈ zc_T := zc_in 50 (by decide +kernel) (by decide +kernel)
theorem zm_51 : (Jvm.Cond.selects "FindingAidModel" ({ cls := "FindingAidModel", name := "digits", desc := "(I)V" } : Jvm.MethodName) ({ cls := "FindingAidModel", name := "digits", desc := "(I)V" } : Jvm.MethodName)) ∈ zc_T := zc_in 51 (by decide +kernel) (by decide +kernel)
theorem zm_52 : (Jvm.Cond.selects "FindingAidModel" ({ cls := "FindingAidModel", name := "next", desc := "(II)I" } : Jvm.MethodName) ({ cls := "FindingAidModel", name := "next", desc := "(II)I" } : Jvm.MethodName)) ∈ zc_T := zc_in 52 (by decide +kernel) (by decide +kernel)
theorem zm_53 : (Jvm.Cond.initialized "FindingAidLaw") ∈ zc_T := zc_in 53 (by decide +kernel) (by decide +kernel)
theorem zm_54 : (Jvm.Cond.initialized "FindingAid") ∈ zc_T := zc_in 54 (by decide +kernel) (by decide +kernel)
theorem zm_55 : (Jvm.Cond.initialized "FindingAid$TextReader") ∈ zc_T := zc_in 55 (by decide +kernel) (by decide +kernel)
theorem zm_56 : (Jvm.Cond.initialized "FindingAid$Levels") ∈ zc_T := zc_in 56 (by decide +kernel) (by decide +kernel)
theorem zm_57 : (Jvm.Cond.initialized "FindingAid$Notes") ∈ zc_T := zc_in 57 (by decide +kernel) (by decide +kernel)
theorem zm_58 : (Jvm.Cond.initialized "FindingAid$Sums") ∈ zc_T := zc_in 58 (by decide +kernel) (by decide +kernel)
theorem zm_59 : (Jvm.Cond.initialized "FindingAid$Asks") ∈ zc_T := zc_in 59 (by decide +kernel) (by decide +kernel)
theorem zm_60 : (Jvm.Cond.initialized "FindingAid$Page") ∈ zc_T := zc_in 60 (by decide +kernel) (by decide +kernel)
theorem zm_61 : (Jvm.Cond.initialized "FindingAidModel") ∈ zc_T := zc_in 61 (by decide +kernel) (by decide +kernel)
theorem zm_62 : (Jvm.Cond.initialized "java/lang/Math") ∈ zc_T := zc_in 62 (by decide +kernel) (by decide +kernel)
theorem zm_63 : (Jvm.Cond.initialized "java/lang/Throwable") ∈ zc_T := zc_in 63 (by decide +kernel) (by decide +kernel)
theorem zm_64 : (Jvm.Cond.initialized "java/lang/Exception") ∈ zc_T := zc_in 64 (by decide +kernel) (by decide +kernel)
theorem zm_65 : (Jvm.Cond.initialized "java/lang/RuntimeException") ∈ zc_T := zc_in 65 (by decide +kernel) (by decide +kernel)
theorem zm_66 : (Jvm.Cond.initialized "java/lang/IllegalStateException") ∈ zc_T := zc_in 66 (by decide +kernel) (by decide +kernel)
theorem zm_67 : (Jvm.Cond.initialized "java/util/Arrays") ∈ zc_T := zc_in 67 (by decide +kernel) (by decide +kernel)
theorem zm_68 : (Jvm.Cond.classLink "FindingAidLaw" (8 : Nat) "FindingAid") ∈ zc_T := zc_in 68 (by decide +kernel) (by decide +kernel)
theorem zm_69 : (Jvm.Cond.instantiable "FindingAid" (7 : Nat)) ∈ zc_T := zc_in 69 (by decide +kernel) (by decide +kernel)
theorem zm_70 : (Jvm.Cond.methodLink "FindingAidLaw" (18 : Nat) ({ cls := "FindingAid", name := "<init>", desc := "()V" } : Jvm.MethodName)) ∈ zc_T := zc_in 70 (by decide +kernel) (by decide +kernel)
theorem zm_71 : (Jvm.Cond.instanceMethod ({ cls := "FindingAid", name := "<init>", desc := "()V" } : Jvm.MethodName)) ∈ zc_T := zc_in 71 (by decide +kernel) (by decide +kernel)
theorem zm_72 : (Jvm.Cond.code ({ cls := "FindingAid", name := "<init>", desc := "()V" } : Jvm.MethodName) prog_1_method_1_code (1 : Nat) (Option.none : Option Jvm.ClassFile.FieldType)) ∈ zc_T := zc_in 72 (by decide +kernel) (by decide +kernel)
theorem zm_73 : (Jvm.Cond.methodLink "FindingAid" (1 : Nat) ({ cls := "java/lang/Object", name := "<init>", desc := "()V" } : Jvm.MethodName)) ∈ zc_T := zc_in 73 (by decide +kernel) (by decide +kernel)
theorem zm_74 : (Jvm.Cond.instanceMethod ({ cls := "java/lang/Object", name := "<init>", desc := "()V" } : Jvm.MethodName)) ∈ zc_T := zc_in 74 (by decide +kernel) (by decide +kernel)
theorem zm_75 : (Jvm.Cond.code ({ cls := "java/lang/Object", name := "<init>", desc := "()V" } : Jvm.MethodName) object_method_1_code (1 : Nat) (Option.none : Option Jvm.ClassFile.FieldType)) ∈ zc_T := zc_in 75 (by decide +kernel) (by decide +kernel)
theorem zm_76 : (Jvm.Cond.classLink "FindingAid" (7 : Nat) "FindingAid$TextReader") ∈ zc_T := zc_in 76 (by decide +kernel) (by decide +kernel)
theorem zm_77 : (Jvm.Cond.instantiable "FindingAid$TextReader" (5 : Nat)) ∈ zc_T := zc_in 77 (by decide +kernel) (by decide +kernel)
theorem zm_79 : (Jvm.Cond.instanceMethod ({ cls := "FindingAid$TextReader", name := "<init>", desc := "()V" } : Jvm.MethodName)) ∈ zc_T := zc_in 79 (by decide +kernel) (by decide +kernel)
theorem zm_80 : (Jvm.Cond.code ({ cls := "FindingAid$TextReader", name := "<init>", desc := "()V" } : Jvm.MethodName) prog_7_method_1_code (1 : Nat) (Option.none : Option Jvm.ClassFile.FieldType)) ∈ zc_T := zc_in 80 (by decide +kernel) (by decide +kernel)
theorem zm_81 : (Jvm.Cond.methodLink "FindingAid$TextReader" (3 : Nat) ({ cls := "java/lang/Object", name := "<init>", desc := "()V" } : Jvm.MethodName)) ∈ zc_T := zc_in 81 (by decide +kernel) (by decide +kernel)
theorem zm_82 : (Jvm.Cond.classLink "FindingAid$TextReader" (25 : Nat) "FindingAid$Levels") ∈ zc_T := zc_in 82 (by decide +kernel) (by decide +kernel)
theorem zm_83 : (Jvm.Cond.instantiable "FindingAid$Levels" (12 : Nat)) ∈ zc_T := zc_in 83 (by decide +kernel) (by decide +kernel)
theorem zm_85 : (Jvm.Cond.instanceMethod ({ cls := "FindingAid$Levels", name := "<init>", desc := "()V" } : Jvm.MethodName)) ∈ zc_T := zc_in 85 (by decide +kernel) (by decide +kernel)
theorem zm_86 : (Jvm.Cond.code ({ cls := "FindingAid$Levels", name := "<init>", desc := "()V" } : Jvm.MethodName) prog_3_method_1_code (1 : Nat) (Option.none : Option Jvm.ClassFile.FieldType)) ∈ zc_T := zc_in 86 (by decide +kernel) (by decide +kernel)
theorem zm_87 : (Jvm.Cond.methodLink "FindingAid$Levels" (3 : Nat) ({ cls := "java/lang/Object", name := "<init>", desc := "()V" } : Jvm.MethodName)) ∈ zc_T := zc_in 87 (by decide +kernel) (by decide +kernel)
theorem zm_88 : (Jvm.Cond.fieldLink "FindingAid$Levels" (9 : Nat) "FindingAid$Levels" "count" "I") ∈ zc_T := zc_in 88 (by decide +kernel) (by decide +kernel)
theorem zm_89 : (Jvm.Cond.fieldLink "FindingAid$Sums" (24 : Nat) "FindingAid$Levels" "count" "I") ∈ zc_T := zc_in 89 (by decide +kernel) (by decide +kernel)
theorem zm_90 : (Jvm.Cond.fieldLink "FindingAid$Asks" (33 : Nat) "FindingAid$Levels" "count" "I") ∈ zc_T := zc_in 90 (by decide +kernel) (by decide +kernel)
theorem zm_91 : (Jvm.Cond.fieldLink "FindingAid$Page" (43 : Nat) "FindingAid$Levels" "count" "I") ∈ zc_T := zc_in 91 (by decide +kernel) (by decide +kernel)
theorem zm_92 : (Jvm.Cond.fieldLink "FindingAid" (80 : Nat) "FindingAid$Levels" "count" "I") ∈ zc_T := zc_in 92 (by decide +kernel) (by decide +kernel)
theorem zm_93 : (Jvm.Cond.fieldLink "FindingAid$TextReader" (32 : Nat) "FindingAid$Levels" "count" "I") ∈ zc_T := zc_in 93 (by decide +kernel) (by decide +kernel)
theorem zm_94 : (Jvm.Cond.fieldLink "FindingAid$Levels" (15 : Nat) "FindingAid$Levels" "kind" "[I") ∈ zc_T := zc_in 94 (by decide +kernel) (by decide +kernel)
theorem zm_95 : (Jvm.Cond.fieldLink "FindingAid$Page" (57 : Nat) "FindingAid$Levels" "kind" "[I") ∈ zc_T := zc_in 95 (by decide +kernel) (by decide +kernel)
theorem zm_96 : (Jvm.Cond.fieldLink "FindingAid" (91 : Nat) "FindingAid$Levels" "kind" "[I") ∈ zc_T := zc_in 96 (by decide +kernel) (by decide +kernel)
theorem zm_97 : (Jvm.Cond.fieldLink "FindingAid$TextReader" (98 : Nat) "FindingAid$Levels" "kind" "[I") ∈ zc_T := zc_in 97 (by decide +kernel) (by decide +kernel)
theorem zm_98 : (Jvm.Cond.fieldLink "FindingAid$Levels" (19 : Nat) "FindingAid$Levels" "number" "[I") ∈ zc_T := zc_in 98 (by decide +kernel) (by decide +kernel)
theorem zm_99 : (Jvm.Cond.fieldLink "FindingAid$Page" (64 : Nat) "FindingAid$Levels" "number" "[I") ∈ zc_T := zc_in 99 (by decide +kernel) (by decide +kernel)
theorem zm_100 : (Jvm.Cond.fieldLink "FindingAid" (95 : Nat) "FindingAid$Levels" "number" "[I") ∈ zc_T := zc_in 100 (by decide +kernel) (by decide +kernel)
theorem zm_101 : (Jvm.Cond.fieldLink "FindingAid$TextReader" (101 : Nat) "FindingAid$Levels" "number" "[I") ∈ zc_T := zc_in 101 (by decide +kernel) (by decide +kernel)
theorem zm_102 : (Jvm.Cond.fieldLink "FindingAid$Levels" (22 : Nat) "FindingAid$Levels" "above" "[I") ∈ zc_T := zc_in 102 (by decide +kernel) (by decide +kernel)
theorem zm_103 : (Jvm.Cond.fieldLink "FindingAid$Sums" (37 : Nat) "FindingAid$Levels" "above" "[I") ∈ zc_T := zc_in 103 (by decide +kernel) (by decide +kernel)
theorem zm_104 : (Jvm.Cond.fieldLink "FindingAid" (98 : Nat) "FindingAid$Levels" "above" "[I") ∈ zc_T := zc_in 104 (by decide +kernel) (by decide +kernel)
theorem zm_105 : (Jvm.Cond.fieldLink "FindingAid$TextReader" (92 : Nat) "FindingAid$Levels" "above" "[I") ∈ zc_T := zc_in 105 (by decide +kernel) (by decide +kernel)
theorem zm_106 : (Jvm.Cond.fieldLink "FindingAid$Levels" (25 : Nat) "FindingAid$Levels" "depth" "[I") ∈ zc_T := zc_in 106 (by decide +kernel) (by decide +kernel)
theorem zm_107 : (Jvm.Cond.fieldLink "FindingAid$Sums" (30 : Nat) "FindingAid$Levels" "depth" "[I") ∈ zc_T := zc_in 107 (by decide +kernel) (by decide +kernel)
theorem zm_108 : (Jvm.Cond.fieldLink "FindingAid$Page" (46 : Nat) "FindingAid$Levels" "depth" "[I") ∈ zc_T := zc_in 108 (by decide +kernel) (by decide +kernel)
theorem zm_109 : (Jvm.Cond.fieldLink "FindingAid" (101 : Nat) "FindingAid$Levels" "depth" "[I") ∈ zc_T := zc_in 109 (by decide +kernel) (by decide +kernel)
theorem zm_110 : (Jvm.Cond.fieldLink "FindingAid$TextReader" (67 : Nat) "FindingAid$Levels" "depth" "[I") ∈ zc_T := zc_in 110 (by decide +kernel) (by decide +kernel)
theorem zm_111 : (Jvm.Cond.fieldLink "FindingAid$Levels" (28 : Nat) "FindingAid$Levels" "firstYear" "[I") ∈ zc_T := zc_in 111 (by decide +kernel) (by decide +kernel)
theorem zm_112 : (Jvm.Cond.fieldLink "FindingAid$Page" (76 : Nat) "FindingAid$Levels" "firstYear" "[I") ∈ zc_T := zc_in 112 (by decide +kernel) (by decide +kernel)
theorem zm_113 : (Jvm.Cond.fieldLink "FindingAid" (104 : Nat) "FindingAid$Levels" "firstYear" "[I") ∈ zc_T := zc_in 113 (by decide +kernel) (by decide +kernel)
theorem zm_114 : (Jvm.Cond.fieldLink "FindingAid$TextReader" (121 : Nat) "FindingAid$Levels" "firstYear" "[I") ∈ zc_T := zc_in 114 (by decide +kernel) (by decide +kernel)
theorem zm_115 : (Jvm.Cond.fieldLink "FindingAid$Levels" (31 : Nat) "FindingAid$Levels" "lastYear" "[I") ∈ zc_T := zc_in 115 (by decide +kernel) (by decide +kernel)
theorem zm_116 : (Jvm.Cond.fieldLink "FindingAid$Page" (91 : Nat) "FindingAid$Levels" "lastYear" "[I") ∈ zc_T := zc_in 116 (by decide +kernel) (by decide +kernel)
theorem zm_117 : (Jvm.Cond.fieldLink "FindingAid" (107 : Nat) "FindingAid$Levels" "lastYear" "[I") ∈ zc_T := zc_in 117 (by decide +kernel) (by decide +kernel)
theorem zm_118 : (Jvm.Cond.fieldLink "FindingAid$TextReader" (124 : Nat) "FindingAid$Levels" "lastYear" "[I") ∈ zc_T := zc_in 118 (by decide +kernel) (by decide +kernel)
theorem zm_119 : (Jvm.Cond.fieldLink "FindingAid$Levels" (34 : Nat) "FindingAid$Levels" "doubt" "[I") ∈ zc_T := zc_in 119 (by decide +kernel) (by decide +kernel)
theorem zm_120 : (Jvm.Cond.fieldLink "FindingAid$Page" (94 : Nat) "FindingAid$Levels" "doubt" "[I") ∈ zc_T := zc_in 120 (by decide +kernel) (by decide +kernel)
theorem zm_121 : (Jvm.Cond.fieldLink "FindingAid" (110 : Nat) "FindingAid$Levels" "doubt" "[I") ∈ zc_T := zc_in 121 (by decide +kernel) (by decide +kernel)
theorem zm_122 : (Jvm.Cond.fieldLink "FindingAid$TextReader" (127 : Nat) "FindingAid$Levels" "doubt" "[I") ∈ zc_T := zc_in 122 (by decide +kernel) (by decide +kernel)
theorem zm_123 : (Jvm.Cond.fieldLink "FindingAid$Levels" (37 : Nat) "FindingAid$Levels" "amount" "[I") ∈ zc_T := zc_in 123 (by decide +kernel) (by decide +kernel)
theorem zm_124 : (Jvm.Cond.fieldLink "FindingAid$Sums" (43 : Nat) "FindingAid$Levels" "amount" "[I") ∈ zc_T := zc_in 124 (by decide +kernel) (by decide +kernel)
theorem zm_125 : (Jvm.Cond.fieldLink "FindingAid$Page" (85 : Nat) "FindingAid$Levels" "amount" "[I") ∈ zc_T := zc_in 125 (by decide +kernel) (by decide +kernel)
theorem zm_126 : (Jvm.Cond.fieldLink "FindingAid" (113 : Nat) "FindingAid$Levels" "amount" "[I") ∈ zc_T := zc_in 126 (by decide +kernel) (by decide +kernel)
theorem zm_127 : (Jvm.Cond.fieldLink "FindingAid$TextReader" (130 : Nat) "FindingAid$Levels" "amount" "[I") ∈ zc_T := zc_in 127 (by decide +kernel) (by decide +kernel)
theorem zm_128 : (Jvm.Cond.fieldLink "FindingAid$Levels" (40 : Nat) "FindingAid$Levels" "unit" "[I") ∈ zc_T := zc_in 128 (by decide +kernel) (by decide +kernel)
theorem zm_129 : (Jvm.Cond.fieldLink "FindingAid$Sums" (40 : Nat) "FindingAid$Levels" "unit" "[I") ∈ zc_T := zc_in 129 (by decide +kernel) (by decide +kernel)
theorem zm_130 : (Jvm.Cond.fieldLink "FindingAid$Page" (82 : Nat) "FindingAid$Levels" "unit" "[I") ∈ zc_T := zc_in 130 (by decide +kernel) (by decide +kernel)
theorem zm_131 : (Jvm.Cond.fieldLink "FindingAid" (116 : Nat) "FindingAid$Levels" "unit" "[I") ∈ zc_T := zc_in 131 (by decide +kernel) (by decide +kernel)
theorem zm_132 : (Jvm.Cond.fieldLink "FindingAid$TextReader" (133 : Nat) "FindingAid$Levels" "unit" "[I") ∈ zc_T := zc_in 132 (by decide +kernel) (by decide +kernel)
theorem zm_133 : (Jvm.Cond.fieldLink "FindingAid$Levels" (43 : Nat) "FindingAid$Levels" "titleLength" "[I") ∈ zc_T := zc_in 133 (by decide +kernel) (by decide +kernel)
theorem zm_134 : (Jvm.Cond.fieldLink "FindingAid$Page" (70 : Nat) "FindingAid$Levels" "titleLength" "[I") ∈ zc_T := zc_in 134 (by decide +kernel) (by decide +kernel)
theorem zm_135 : (Jvm.Cond.fieldLink "FindingAid" (119 : Nat) "FindingAid$Levels" "titleLength" "[I") ∈ zc_T := zc_in 135 (by decide +kernel) (by decide +kernel)
theorem zm_136 : (Jvm.Cond.fieldLink "FindingAid$TextReader" (115 : Nat) "FindingAid$Levels" "titleLength" "[I") ∈ zc_T := zc_in 136 (by decide +kernel) (by decide +kernel)
theorem zm_137 : (Jvm.Cond.fieldLink "FindingAid$Levels" (46 : Nat) "FindingAid$Levels" "titleSigns" "[I") ∈ zc_T := zc_in 137 (by decide +kernel) (by decide +kernel)
theorem zm_163 : (Jvm.Cond.arrayClass Jvm.ClassFile.FieldType.int) ∈ zc_T := zc_in 163 (by decide +kernel) (by decide +kernel)
theorem zm_164 : (Jvm.Cond.fieldLink "FindingAid$TextReader" (9 : Nat) "FindingAid$TextReader" "signs" "[I") ∈ zc_T := zc_in 164 (by decide +kernel) (by decide +kernel)
theorem zm_165 : (Jvm.Cond.fieldLink "FindingAid$TextReader" (15 : Nat) "FindingAid$TextReader" "length" "I") ∈ zc_T := zc_in 165 (by decide +kernel) (by decide +kernel)
theorem zm_166 : (Jvm.Cond.fieldLink "FindingAid$TextReader" (19 : Nat) "FindingAid$TextReader" "next" "I") ∈ zc_T := zc_in 166 (by decide +kernel) (by decide +kernel)
theorem zm_167 : (Jvm.Cond.fieldLink "FindingAid$TextReader" (22 : Nat) "FindingAid$TextReader" "wrong" "I") ∈ zc_T := zc_in 167 (by decide +kernel) (by decide +kernel)
theorem zm_168 : (Jvm.Cond.fieldLink "FindingAid" (84 : Nat) "FindingAid$TextReader" "wrong" "I") ∈ zc_T := zc_in 168 (by decide +kernel) (by decide +kernel)
theorem zm_169 : (Jvm.Cond.fieldLink "FindingAid$TextReader" (28 : Nat) "FindingAid$TextReader" "levels" "LFindingAid$Levels;") ∈ zc_T := zc_in 169 (by decide +kernel) (by decide +kernel)
theorem zm_181 : (Jvm.Cond.classLink "FindingAid" (16 : Nat) "FindingAid$Notes") ∈ zc_T := zc_in 181 (by decide +kernel) (by decide +kernel)
theorem zm_182 : (Jvm.Cond.instantiable "FindingAid$Notes" (6 : Nat)) ∈ zc_T := zc_in 182 (by decide +kernel) (by decide +kernel)
theorem zm_184 : (Jvm.Cond.instanceMethod ({ cls := "FindingAid$Notes", name := "<init>", desc := "()V" } : Jvm.MethodName)) ∈ zc_T := zc_in 184 (by decide +kernel) (by decide +kernel)
theorem zm_185 : (Jvm.Cond.code ({ cls := "FindingAid$Notes", name := "<init>", desc := "()V" } : Jvm.MethodName) prog_4_method_1_code (1 : Nat) (Option.none : Option Jvm.ClassFile.FieldType)) ∈ zc_T := zc_in 185 (by decide +kernel) (by decide +kernel)
theorem zm_186 : (Jvm.Cond.methodLink "FindingAid$Notes" (3 : Nat) ({ cls := "java/lang/Object", name := "<init>", desc := "()V" } : Jvm.MethodName)) ∈ zc_T := zc_in 186 (by decide +kernel) (by decide +kernel)
theorem zm_187 : (Jvm.Cond.fieldLink "FindingAid$Notes" (9 : Nat) "FindingAid$Notes" "reasons" "[I") ∈ zc_T := zc_in 187 (by decide +kernel) (by decide +kernel)
theorem zm_188 : (Jvm.Cond.fieldLink "FindingAid$Notes" (15 : Nat) "FindingAid$Notes" "headings" "[I") ∈ zc_T := zc_in 188 (by decide +kernel) (by decide +kernel)
theorem zm_189 : (Jvm.Cond.fieldLink "FindingAid$Notes" (18 : Nat) "FindingAid$Notes" "undersBefore" "[I") ∈ zc_T := zc_in 189 (by decide +kernel) (by decide +kernel)
theorem zm_190 : (Jvm.Cond.fieldLink "FindingAid$Notes" (21 : Nat) "FindingAid$Notes" "headingCount" "[I") ∈ zc_T := zc_in 190 (by decide +kernel) (by decide +kernel)
theorem zm_191 : (Jvm.Cond.fieldLink "FindingAid" (157 : Nat) "FindingAid$Notes" "headingCount" "[I") ∈ zc_T := zc_in 191 (by decide +kernel) (by decide +kernel)
theorem zm_192 : (Jvm.Cond.fieldLink "FindingAid$Notes" (24 : Nat) "FindingAid$Notes" "moveCount" "[I") ∈ zc_T := zc_in 192 (by decide +kernel) (by decide +kernel)
theorem zm_193 : (Jvm.Cond.fieldLink "FindingAid" (173 : Nat) "FindingAid$Notes" "moveCount" "[I") ∈ zc_T := zc_in 193 (by decide +kernel) (by decide +kernel)
theorem zm_194 : (Jvm.Cond.fieldLink "FindingAid$Notes" (27 : Nat) "FindingAid$Notes" "hidden" "[Z") ∈ zc_T := zc_in 194 (by decide +kernel) (by decide +kernel)
theorem zm_195 : (Jvm.Cond.fieldLink "FindingAid$Page" (29 : Nat) "FindingAid$Notes" "hidden" "[Z") ∈ zc_T := zc_in 195 (by decide +kernel) (by decide +kernel)
theorem zm_196 : (Jvm.Cond.fieldLink "FindingAid" (179 : Nat) "FindingAid$Notes" "hidden" "[Z") ∈ zc_T := zc_in 196 (by decide +kernel) (by decide +kernel)
theorem zm_210 : (Jvm.Cond.arrayClass Jvm.ClassFile.FieldType.boolean) ∈ zc_T := zc_in 210 (by decide +kernel) (by decide +kernel)
theorem zm_211 : (Jvm.Cond.classLink "FindingAid" (23 : Nat) "FindingAid$Sums") ∈ zc_T := zc_in 211 (by decide +kernel) (by decide +kernel)
theorem zm_212 : (Jvm.Cond.instantiable "FindingAid$Sums" (2 : Nat)) ∈ zc_T := zc_in 212 (by decide +kernel) (by decide +kernel)
theorem zm_214 : (Jvm.Cond.instanceMethod ({ cls := "FindingAid$Sums", name := "<init>", desc := "()V" } : Jvm.MethodName)) ∈ zc_T := zc_in 214 (by decide +kernel) (by decide +kernel)
theorem zm_215 : (Jvm.Cond.code ({ cls := "FindingAid$Sums", name := "<init>", desc := "()V" } : Jvm.MethodName) prog_6_method_1_code (1 : Nat) (Option.none : Option Jvm.ClassFile.FieldType)) ∈ zc_T := zc_in 215 (by decide +kernel) (by decide +kernel)
theorem zm_216 : (Jvm.Cond.methodLink "FindingAid$Sums" (3 : Nat) ({ cls := "java/lang/Object", name := "<init>", desc := "()V" } : Jvm.MethodName)) ∈ zc_T := zc_in 216 (by decide +kernel) (by decide +kernel)
theorem zm_217 : (Jvm.Cond.fieldLink "FindingAid$Sums" (9 : Nat) "FindingAid$Sums" "whole" "[I") ∈ zc_T := zc_in 217 (by decide +kernel) (by decide +kernel)
theorem zm_218 : (Jvm.Cond.fieldLink "FindingAid$Sums" (15 : Nat) "FindingAid$Sums" "below" "[I") ∈ zc_T := zc_in 218 (by decide +kernel) (by decide +kernel)
theorem zm_224 : (Jvm.Cond.classLink "FindingAid" (30 : Nat) "FindingAid$Asks") ∈ zc_T := zc_in 224 (by decide +kernel) (by decide +kernel)
theorem zm_225 : (Jvm.Cond.instantiable "FindingAid$Asks" (6 : Nat)) ∈ zc_T := zc_in 225 (by decide +kernel) (by decide +kernel)
theorem zm_227 : (Jvm.Cond.instanceMethod ({ cls := "FindingAid$Asks", name := "<init>", desc := "()V" } : Jvm.MethodName)) ∈ zc_T := zc_in 227 (by decide +kernel) (by decide +kernel)
theorem zm_228 : (Jvm.Cond.code ({ cls := "FindingAid$Asks", name := "<init>", desc := "()V" } : Jvm.MethodName) prog_2_method_1_code (1 : Nat) (Option.none : Option Jvm.ClassFile.FieldType)) ∈ zc_T := zc_in 228 (by decide +kernel) (by decide +kernel)
theorem zm_229 : (Jvm.Cond.methodLink "FindingAid$Asks" (3 : Nat) ({ cls := "java/lang/Object", name := "<init>", desc := "()V" } : Jvm.MethodName)) ∈ zc_T := zc_in 229 (by decide +kernel) (by decide +kernel)
theorem zm_230 : (Jvm.Cond.fieldLink "FindingAid$Asks" (9 : Nat) "FindingAid$Asks" "count" "I") ∈ zc_T := zc_in 230 (by decide +kernel) (by decide +kernel)
theorem zm_231 : (Jvm.Cond.fieldLink "FindingAid" (190 : Nat) "FindingAid$Asks" "count" "I") ∈ zc_T := zc_in 231 (by decide +kernel) (by decide +kernel)
theorem zm_232 : (Jvm.Cond.fieldLink "FindingAid$Asks" (15 : Nat) "FindingAid$Asks" "outdated" "Z") ∈ zc_T := zc_in 232 (by decide +kernel) (by decide +kernel)
theorem zm_233 : (Jvm.Cond.fieldLink "FindingAid" (76 : Nat) "FindingAid$Asks" "outdated" "Z") ∈ zc_T := zc_in 233 (by decide +kernel) (by decide +kernel)
theorem zm_234 : (Jvm.Cond.fieldLink "FindingAid$Asks" (19 : Nat) "FindingAid$Asks" "levelHere" "[I") ∈ zc_T := zc_in 234 (by decide +kernel) (by decide +kernel)
theorem zm_235 : (Jvm.Cond.fieldLink "FindingAid" (192 : Nat) "FindingAid$Asks" "levelHere" "[I") ∈ zc_T := zc_in 235 (by decide +kernel) (by decide +kernel)
theorem zm_236 : (Jvm.Cond.fieldLink "FindingAid$Asks" (23 : Nat) "FindingAid$Asks" "levelThere" "[I") ∈ zc_T := zc_in 236 (by decide +kernel) (by decide +kernel)
theorem zm_237 : (Jvm.Cond.fieldLink "FindingAid" (201 : Nat) "FindingAid$Asks" "levelThere" "[I") ∈ zc_T := zc_in 237 (by decide +kernel) (by decide +kernel)
theorem zm_238 : (Jvm.Cond.fieldLink "FindingAid$Asks" (26 : Nat) "FindingAid$Asks" "bits" "[I") ∈ zc_T := zc_in 238 (by decide +kernel) (by decide +kernel)
theorem zm_239 : (Jvm.Cond.fieldLink "FindingAid" (195 : Nat) "FindingAid$Asks" "bits" "[I") ∈ zc_T := zc_in 239 (by decide +kernel) (by decide +kernel)
theorem zm_240 : (Jvm.Cond.fieldLink "FindingAid$Asks" (29 : Nat) "FindingAid$Asks" "taken" "[Z") ∈ zc_T := zc_in 240 (by decide +kernel) (by decide +kernel)
theorem zm_241 : (Jvm.Cond.fieldLink "FindingAid" (198 : Nat) "FindingAid$Asks" "taken" "[Z") ∈ zc_T := zc_in 241 (by decide +kernel) (by decide +kernel)
theorem zm_255 : (Jvm.Cond.classLink "FindingAid" (37 : Nat) "FindingAid$Page") ∈ zc_T := zc_in 255 (by decide +kernel) (by decide +kernel)
theorem zm_256 : (Jvm.Cond.instantiable "FindingAid$Page" (2 : Nat)) ∈ zc_T := zc_in 256 (by decide +kernel) (by decide +kernel)
theorem zm_258 : (Jvm.Cond.instanceMethod ({ cls := "FindingAid$Page", name := "<init>", desc := "()V" } : Jvm.MethodName)) ∈ zc_T := zc_in 258 (by decide +kernel) (by decide +kernel)
theorem zm_259 : (Jvm.Cond.code ({ cls := "FindingAid$Page", name := "<init>", desc := "()V" } : Jvm.MethodName) prog_5_method_1_code (1 : Nat) (Option.none : Option Jvm.ClassFile.FieldType)) ∈ zc_T := zc_in 259 (by decide +kernel) (by decide +kernel)
theorem zm_260 : (Jvm.Cond.methodLink "FindingAid$Page" (3 : Nat) ({ cls := "java/lang/Object", name := "<init>", desc := "()V" } : Jvm.MethodName)) ∈ zc_T := zc_in 260 (by decide +kernel) (by decide +kernel)
theorem zm_261 : (Jvm.Cond.fieldLink "FindingAid$Page" (9 : Nat) "FindingAid$Page" "signs" "[I") ∈ zc_T := zc_in 261 (by decide +kernel) (by decide +kernel)
theorem zm_262 : (Jvm.Cond.fieldLink "FindingAid" (215 : Nat) "FindingAid$Page" "signs" "[I") ∈ zc_T := zc_in 262 (by decide +kernel) (by decide +kernel)
theorem zm_263 : (Jvm.Cond.fieldLink "FindingAid$Page" (15 : Nat) "FindingAid$Page" "length" "I") ∈ zc_T := zc_in 263 (by decide +kernel) (by decide +kernel)
theorem zm_264 : (Jvm.Cond.fieldLink "FindingAid" (212 : Nat) "FindingAid$Page" "length" "I") ∈ zc_T := zc_in 264 (by decide +kernel) (by decide +kernel)
theorem zm_270 : (Jvm.Cond.classLink "FindingAid" (44 : Nat) "FindingAid$Levels") ∈ zc_T := zc_in 270 (by decide +kernel) (by decide +kernel)
theorem zm_272 : (Jvm.Cond.fieldLink "FindingAid" (10 : Nat) "FindingAid" "reader" "LFindingAid$TextReader;") ∈ zc_T := zc_in 272 (by decide +kernel) (by decide +kernel)
theorem zm_273 : (Jvm.Cond.fieldLink "FindingAid" (19 : Nat) "FindingAid" "notes" "LFindingAid$Notes;") ∈ zc_T := zc_in 273 (by decide +kernel) (by decide +kernel)
theorem zm_274 : (Jvm.Cond.fieldLink "FindingAid" (26 : Nat) "FindingAid" "sums" "LFindingAid$Sums;") ∈ zc_T := zc_in 274 (by decide +kernel) (by decide +kernel)
theorem zm_275 : (Jvm.Cond.fieldLink "FindingAid" (33 : Nat) "FindingAid" "asks" "LFindingAid$Asks;") ∈ zc_T := zc_in 275 (by decide +kernel) (by decide +kernel)
theorem zm_276 : (Jvm.Cond.fieldLink "FindingAid" (40 : Nat) "FindingAid" "page" "LFindingAid$Page;") ∈ zc_T := zc_in 276 (by decide +kernel) (by decide +kernel)
theorem zm_277 : (Jvm.Cond.fieldLink "FindingAid" (47 : Nat) "FindingAid" "here" "LFindingAid$Levels;") ∈ zc_T := zc_in 277 (by decide +kernel) (by decide +kernel)
theorem zm_278 : (Jvm.Cond.fieldLink "FindingAid" (51 : Nat) "FindingAid" "other" "LFindingAid$Levels;") ∈ zc_T := zc_in 278 (by decide +kernel) (by decide +kernel)
theorem zm_294 : (Jvm.Cond.methodLink "FindingAidLaw" (22 : Nat) ({ cls := "FindingAid", name := "sign", desc := "(I)V" } : Jvm.MethodName)) ∈ zc_T := zc_in 294 (by decide +kernel) (by decide +kernel)
theorem zm_295 : (Jvm.Cond.instanceMethod ({ cls := "FindingAid", name := "sign", desc := "(I)V" } : Jvm.MethodName)) ∈ zc_T := zc_in 295 (by decide +kernel) (by decide +kernel)
theorem zm_296 : (Jvm.Cond.selects "FindingAid" ({ cls := "FindingAid", name := "sign", desc := "(I)V" } : Jvm.MethodName) ({ cls := "FindingAid", name := "sign", desc := "(I)V" } : Jvm.MethodName)) ∈ zc_T := zc_in 296 (by decide +kernel) (by decide +kernel)
theorem zm_297 : (Jvm.Cond.code ({ cls := "FindingAid", name := "sign", desc := "(I)V" } : Jvm.MethodName) prog_1_method_2_code (2 : Nat) (Option.none : Option Jvm.ClassFile.FieldType)) ∈ zc_T := zc_in 297 (by decide +kernel) (by decide +kernel)
theorem zm_298 : (Jvm.Cond.methodLink "FindingAid" (54 : Nat) ({ cls := "FindingAid$TextReader", name := "hear", desc := "(I)V" } : Jvm.MethodName)) ∈ zc_T := zc_in 298 (by decide +kernel) (by decide +kernel)
theorem zm_299 : (Jvm.Cond.instanceMethod ({ cls := "FindingAid$TextReader", name := "hear", desc := "(I)V" } : Jvm.MethodName)) ∈ zc_T := zc_in 299 (by decide +kernel) (by decide +kernel)
theorem zm_300 : (Jvm.Cond.selects "FindingAid$TextReader" ({ cls := "FindingAid$TextReader", name := "hear", desc := "(I)V" } : Jvm.MethodName) ({ cls := "FindingAid$TextReader", name := "hear", desc := "(I)V" } : Jvm.MethodName)) ∈ zc_T := zc_in 300 (by decide +kernel) (by decide +kernel)
theorem zm_301 : (Jvm.Cond.code ({ cls := "FindingAid$TextReader", name := "hear", desc := "(I)V" } : Jvm.MethodName) prog_7_method_2_code (2 : Nat) (Option.none : Option Jvm.ClassFile.FieldType)) ∈ zc_T := zc_in 301 (by decide +kernel) (by decide +kernel)
theorem zm_302 : (Jvm.Cond.methodLink "FindingAidLaw" (36 : Nat) ({ cls := "FindingAid", name := "place", desc := "()I" } : Jvm.MethodName)) ∈ zc_T := zc_in 302 (by decide +kernel) (by decide +kernel)
theorem zm_303 : (Jvm.Cond.instanceMethod ({ cls := "FindingAid", name := "place", desc := "()I" } : Jvm.MethodName)) ∈ zc_T := zc_in 303 (by decide +kernel) (by decide +kernel)
theorem zm_304 : (Jvm.Cond.selects "FindingAid" ({ cls := "FindingAid", name := "place", desc := "()I" } : Jvm.MethodName) ({ cls := "FindingAid", name := "place", desc := "()I" } : Jvm.MethodName)) ∈ zc_T := zc_in 304 (by decide +kernel) (by decide +kernel)
theorem zm_305 : (Jvm.Cond.code ({ cls := "FindingAid", name := "place", desc := "()I" } : Jvm.MethodName) prog_1_method_4_code (1 : Nat) (Option.some Jvm.ClassFile.FieldType.int)) ∈ zc_T := zc_in 305 (by decide +kernel) (by decide +kernel)
theorem zm_306 : (Jvm.Cond.methodLink "FindingAidLaw" (40 : Nat) ({ cls := "FindingAid", name := "level", desc := "(II)I" } : Jvm.MethodName)) ∈ zc_T := zc_in 306 (by decide +kernel) (by decide +kernel)
theorem zm_307 : (Jvm.Cond.instanceMethod ({ cls := "FindingAid", name := "level", desc := "(II)I" } : Jvm.MethodName)) ∈ zc_T := zc_in 307 (by decide +kernel) (by decide +kernel)
theorem zm_308 : (Jvm.Cond.selects "FindingAid" ({ cls := "FindingAid", name := "level", desc := "(II)I" } : Jvm.MethodName) ({ cls := "FindingAid", name := "level", desc := "(II)I" } : Jvm.MethodName)) ∈ zc_T := zc_in 308 (by decide +kernel) (by decide +kernel)
theorem zm_309 : (Jvm.Cond.code ({ cls := "FindingAid", name := "level", desc := "(II)I" } : Jvm.MethodName) prog_1_method_5_code (3 : Nat) (Option.some Jvm.ClassFile.FieldType.int)) ∈ zc_T := zc_in 309 (by decide +kernel) (by decide +kernel)
theorem zm_310 : (Jvm.Cond.methodLink "FindingAid" (87 : Nat) ({ cls := "FindingAid$Levels", name := "has", desc := "(I)Z" } : Jvm.MethodName)) ∈ zc_T := zc_in 310 (by decide +kernel) (by decide +kernel)
theorem zm_311 : (Jvm.Cond.instanceMethod ({ cls := "FindingAid$Levels", name := "has", desc := "(I)Z" } : Jvm.MethodName)) ∈ zc_T := zc_in 311 (by decide +kernel) (by decide +kernel)
theorem zm_312 : (Jvm.Cond.selects "FindingAid$Levels" ({ cls := "FindingAid$Levels", name := "has", desc := "(I)Z" } : Jvm.MethodName) ({ cls := "FindingAid$Levels", name := "has", desc := "(I)Z" } : Jvm.MethodName)) ∈ zc_T := zc_in 312 (by decide +kernel) (by decide +kernel)
theorem zm_313 : (Jvm.Cond.code ({ cls := "FindingAid$Levels", name := "has", desc := "(I)Z" } : Jvm.MethodName) prog_3_method_2_code (2 : Nat) (Option.some Jvm.ClassFile.FieldType.boolean)) ∈ zc_T := zc_in 313 (by decide +kernel) (by decide +kernel)
theorem zm_314 : (Jvm.Cond.methodLink "FindingAidLaw" (45 : Nat) ({ cls := "FindingAid", name := "letter", desc := "(II)I" } : Jvm.MethodName)) ∈ zc_T := zc_in 314 (by decide +kernel) (by decide +kernel)
theorem zm_315 : (Jvm.Cond.instanceMethod ({ cls := "FindingAid", name := "letter", desc := "(II)I" } : Jvm.MethodName)) ∈ zc_T := zc_in 315 (by decide +kernel) (by decide +kernel)
theorem zm_316 : (Jvm.Cond.selects "FindingAid" ({ cls := "FindingAid", name := "letter", desc := "(II)I" } : Jvm.MethodName) ({ cls := "FindingAid", name := "letter", desc := "(II)I" } : Jvm.MethodName)) ∈ zc_T := zc_in 316 (by decide +kernel) (by decide +kernel)
theorem zm_317 : (Jvm.Cond.code ({ cls := "FindingAid", name := "letter", desc := "(II)I" } : Jvm.MethodName) prog_1_method_6_code (3 : Nat) (Option.some Jvm.ClassFile.FieldType.int)) ∈ zc_T := zc_in 317 (by decide +kernel) (by decide +kernel)
theorem zm_318 : (Jvm.Cond.methodLink "FindingAid" (122 : Nat) ({ cls := "FindingAid$Levels", name := "titleSign", desc := "(II)I" } : Jvm.MethodName)) ∈ zc_T := zc_in 318 (by decide +kernel) (by decide +kernel)
theorem zm_319 : (Jvm.Cond.instanceMethod ({ cls := "FindingAid$Levels", name := "titleSign", desc := "(II)I" } : Jvm.MethodName)) ∈ zc_T := zc_in 319 (by decide +kernel) (by decide +kernel)
theorem zm_320 : (Jvm.Cond.selects "FindingAid$Levels" ({ cls := "FindingAid$Levels", name := "titleSign", desc := "(II)I" } : Jvm.MethodName) ({ cls := "FindingAid$Levels", name := "titleSign", desc := "(II)I" } : Jvm.MethodName)) ∈ zc_T := zc_in 320 (by decide +kernel) (by decide +kernel)
theorem zm_321 : (Jvm.Cond.code ({ cls := "FindingAid$Levels", name := "titleSign", desc := "(II)I" } : Jvm.MethodName) prog_3_method_3_code (3 : Nat) (Option.some Jvm.ClassFile.FieldType.int)) ∈ zc_T := zc_in 321 (by decide +kernel) (by decide +kernel)
theorem zm_322 : (Jvm.Cond.methodLink "FindingAidLaw" (49 : Nat) ({ cls := "FindingAid", name := "compare", desc := "(II)I" } : Jvm.MethodName)) ∈ zc_T := zc_in 322 (by decide +kernel) (by decide +kernel)
theorem zm_323 : (Jvm.Cond.instanceMethod ({ cls := "FindingAid", name := "compare", desc := "(II)I" } : Jvm.MethodName)) ∈ zc_T := zc_in 323 (by decide +kernel) (by decide +kernel)
theorem zm_324 : (Jvm.Cond.selects "FindingAid" ({ cls := "FindingAid", name := "compare", desc := "(II)I" } : Jvm.MethodName) ({ cls := "FindingAid", name := "compare", desc := "(II)I" } : Jvm.MethodName)) ∈ zc_T := zc_in 324 (by decide +kernel) (by decide +kernel)
theorem zm_325 : (Jvm.Cond.code ({ cls := "FindingAid", name := "compare", desc := "(II)I" } : Jvm.MethodName) prog_1_method_7_code (3 : Nat) (Option.some Jvm.ClassFile.FieldType.int)) ∈ zc_T := zc_in 325 (by decide +kernel) (by decide +kernel)
theorem zm_326 : (Jvm.Cond.methodLink "FindingAid" (126 : Nat) ({ cls := "FindingAid$Levels", name := "orderOfDates", desc := "(II)I" } : Jvm.MethodName)) ∈ zc_T := zc_in 326 (by decide +kernel) (by decide +kernel)
theorem zm_327 : (Jvm.Cond.instanceMethod ({ cls := "FindingAid$Levels", name := "orderOfDates", desc := "(II)I" } : Jvm.MethodName)) ∈ zc_T := zc_in 327 (by decide +kernel) (by decide +kernel)
theorem zm_328 : (Jvm.Cond.selects "FindingAid$Levels" ({ cls := "FindingAid$Levels", name := "orderOfDates", desc := "(II)I" } : Jvm.MethodName) ({ cls := "FindingAid$Levels", name := "orderOfDates", desc := "(II)I" } : Jvm.MethodName)) ∈ zc_T := zc_in 328 (by decide +kernel) (by decide +kernel)
theorem zm_329 : (Jvm.Cond.code ({ cls := "FindingAid$Levels", name := "orderOfDates", desc := "(II)I" } : Jvm.MethodName) prog_3_method_7_code (5 : Nat) (Option.some Jvm.ClassFile.FieldType.int)) ∈ zc_T := zc_in 329 (by decide +kernel) (by decide +kernel)
theorem zm_331 : (Jvm.Cond.static ({ cls := "FindingAid", name := "order", desc := "(II)I" } : Jvm.MethodName)) ∈ zc_T := zc_in 331 (by decide +kernel) (by decide +kernel)
theorem zm_332 : (Jvm.Cond.code ({ cls := "FindingAid", name := "order", desc := "(II)I" } : Jvm.MethodName) prog_1_method_25_code (2 : Nat) (Option.some Jvm.ClassFile.FieldType.int)) ∈ zc_T := zc_in 332 (by decide +kernel) (by decide +kernel)
theorem zm_333 : (Jvm.Cond.methodLink "FindingAidLaw" (53 : Nat) ({ cls := "FindingAid", name := "extent", desc := "(II)I" } : Jvm.MethodName)) ∈ zc_T := zc_in 333 (by decide +kernel) (by decide +kernel)
theorem zm_334 : (Jvm.Cond.instanceMethod ({ cls := "FindingAid", name := "extent", desc := "(II)I" } : Jvm.MethodName)) ∈ zc_T := zc_in 334 (by decide +kernel) (by decide +kernel)
theorem zm_335 : (Jvm.Cond.selects "FindingAid" ({ cls := "FindingAid", name := "extent", desc := "(II)I" } : Jvm.MethodName) ({ cls := "FindingAid", name := "extent", desc := "(II)I" } : Jvm.MethodName)) ∈ zc_T := zc_in 335 (by decide +kernel) (by decide +kernel)
theorem zm_336 : (Jvm.Cond.code ({ cls := "FindingAid", name := "extent", desc := "(II)I" } : Jvm.MethodName) prog_1_method_8_code (3 : Nat) (Option.some Jvm.ClassFile.FieldType.int)) ∈ zc_T := zc_in 336 (by decide +kernel) (by decide +kernel)
theorem zm_337 : (Jvm.Cond.methodLink "FindingAid" (129 : Nat) ({ cls := "FindingAid$Sums", name := "weigh", desc := "(LFindingAid$Levels;)V" } : Jvm.MethodName)) ∈ zc_T := zc_in 337 (by decide +kernel) (by decide +kernel)
theorem zm_338 : (Jvm.Cond.instanceMethod ({ cls := "FindingAid$Sums", name := "weigh", desc := "(LFindingAid$Levels;)V" } : Jvm.MethodName)) ∈ zc_T := zc_in 338 (by decide +kernel) (by decide +kernel)
theorem zm_339 : (Jvm.Cond.selects "FindingAid$Sums" ({ cls := "FindingAid$Sums", name := "weigh", desc := "(LFindingAid$Levels;)V" } : Jvm.MethodName) ({ cls := "FindingAid$Sums", name := "weigh", desc := "(LFindingAid$Levels;)V" } : Jvm.MethodName)) ∈ zc_T := zc_in 339 (by decide +kernel) (by decide +kernel)
theorem zm_340 : (Jvm.Cond.code ({ cls := "FindingAid$Sums", name := "weigh", desc := "(LFindingAid$Levels;)V" } : Jvm.MethodName) prog_6_method_2_code (4 : Nat) (Option.none : Option Jvm.ClassFile.FieldType)) ∈ zc_T := zc_in 340 (by decide +kernel) (by decide +kernel)
theorem zm_341 : (Jvm.Cond.methodLink "FindingAid$Sums" (18 : Nat) ({ cls := "java/util/Arrays", name := "fill", desc := "([II)V" } : Jvm.MethodName)) ∈ zc_T := zc_in 341 (by decide +kernel) (by decide +kernel)
theorem zm_342 : (Jvm.Cond.static ({ cls := "java/util/Arrays", name := "fill", desc := "([II)V" } : Jvm.MethodName)) ∈ zc_T := zc_in 342 (by decide +kernel) (by decide +kernel)
theorem zm_343 : (Jvm.Cond.code ({ cls := "java/util/Arrays", name := "fill", desc := "([II)V" } : Jvm.MethodName) prog_16_method_103_code (4 : Nat) (Option.none : Option Jvm.ClassFile.FieldType)) ∈ zc_T := zc_in 343 (by decide +kernel) (by decide +kernel)
theorem zm_344 : (Jvm.Cond.methodLink "FindingAid$Sums" (33 : Nat) ({ cls := "FindingAid$Sums", name := "weighOne", desc := "(LFindingAid$Levels;I)V" } : Jvm.MethodName)) ∈ zc_T := zc_in 344 (by decide +kernel) (by decide +kernel)
theorem zm_346 : (Jvm.Cond.instanceMethod ({ cls := "FindingAid$Sums", name := "weighOne", desc := "(LFindingAid$Levels;I)V" } : Jvm.MethodName)) ∈ zc_T := zc_in 346 (by decide +kernel) (by decide +kernel)
theorem zm_347 : (Jvm.Cond.code ({ cls := "FindingAid$Sums", name := "weighOne", desc := "(LFindingAid$Levels;I)V" } : Jvm.MethodName) prog_6_method_3_code (6 : Nat) (Option.none : Option Jvm.ClassFile.FieldType)) ∈ zc_T := zc_in 347 (by decide +kernel) (by decide +kernel)
theorem zm_348 : (Jvm.Cond.methodLink "FindingAid$Sums" (46 : Nat) ({ cls := "FindingAid$Levels", name := "has", desc := "(I)Z" } : Jvm.MethodName)) ∈ zc_T := zc_in 348 (by decide +kernel) (by decide +kernel)
theorem zm_349 : (Jvm.Cond.methodLink "FindingAid" (133 : Nat) ({ cls := "FindingAid$Sums", name := "wholeOf", desc := "(II)I" } : Jvm.MethodName)) ∈ zc_T := zc_in 349 (by decide +kernel) (by decide +kernel)
theorem zm_350 : (Jvm.Cond.instanceMethod ({ cls := "FindingAid$Sums", name := "wholeOf", desc := "(II)I" } : Jvm.MethodName)) ∈ zc_T := zc_in 350 (by decide +kernel) (by decide +kernel)
theorem zm_351 : (Jvm.Cond.selects "FindingAid$Sums" ({ cls := "FindingAid$Sums", name := "wholeOf", desc := "(II)I" } : Jvm.MethodName) ({ cls := "FindingAid$Sums", name := "wholeOf", desc := "(II)I" } : Jvm.MethodName)) ∈ zc_T := zc_in 351 (by decide +kernel) (by decide +kernel)
theorem zm_352 : (Jvm.Cond.code ({ cls := "FindingAid$Sums", name := "wholeOf", desc := "(II)I" } : Jvm.MethodName) prog_6_method_4_code (3 : Nat) (Option.some Jvm.ClassFile.FieldType.int)) ∈ zc_T := zc_in 352 (by decide +kernel) (by decide +kernel)
theorem zm_353 : (Jvm.Cond.methodLink "FindingAidLaw" (57 : Nat) ({ cls := "FindingAid", name := "differ", desc := "(I)I" } : Jvm.MethodName)) ∈ zc_T := zc_in 353 (by decide +kernel) (by decide +kernel)
theorem zm_354 : (Jvm.Cond.instanceMethod ({ cls := "FindingAid", name := "differ", desc := "(I)I" } : Jvm.MethodName)) ∈ zc_T := zc_in 354 (by decide +kernel) (by decide +kernel)
theorem zm_355 : (Jvm.Cond.selects "FindingAid" ({ cls := "FindingAid", name := "differ", desc := "(I)I" } : Jvm.MethodName) ({ cls := "FindingAid", name := "differ", desc := "(I)I" } : Jvm.MethodName)) ∈ zc_T := zc_in 355 (by decide +kernel) (by decide +kernel)
theorem zm_356 : (Jvm.Cond.code ({ cls := "FindingAid", name := "differ", desc := "(I)I" } : Jvm.MethodName) prog_1_method_9_code (4 : Nat) (Option.some Jvm.ClassFile.FieldType.int)) ∈ zc_T := zc_in 356 (by decide +kernel) (by decide +kernel)
theorem zm_357 : (Jvm.Cond.methodLink "FindingAid" (136 : Nat) ({ cls := "FindingAid$Sums", name := "contradicts", desc := "(LFindingAid$Levels;I)Z" } : Jvm.MethodName)) ∈ zc_T := zc_in 357 (by decide +kernel) (by decide +kernel)
theorem zm_358 : (Jvm.Cond.instanceMethod ({ cls := "FindingAid$Sums", name := "contradicts", desc := "(LFindingAid$Levels;I)Z" } : Jvm.MethodName)) ∈ zc_T := zc_in 358 (by decide +kernel) (by decide +kernel)
theorem zm_359 : (Jvm.Cond.selects "FindingAid$Sums" ({ cls := "FindingAid$Sums", name := "contradicts", desc := "(LFindingAid$Levels;I)Z" } : Jvm.MethodName) ({ cls := "FindingAid$Sums", name := "contradicts", desc := "(LFindingAid$Levels;I)Z" } : Jvm.MethodName)) ∈ zc_T := zc_in 359 (by decide +kernel) (by decide +kernel)
theorem zm_360 : (Jvm.Cond.code ({ cls := "FindingAid$Sums", name := "contradicts", desc := "(LFindingAid$Levels;I)Z" } : Jvm.MethodName) prog_6_method_5_code (5 : Nat) (Option.some Jvm.ClassFile.FieldType.boolean)) ∈ zc_T := zc_in 360 (by decide +kernel) (by decide +kernel)
theorem zm_361 : (Jvm.Cond.methodLink "FindingAidLaw" (62 : Nat) ({ cls := "FindingAid", name := "twice", desc := "(I)I" } : Jvm.MethodName)) ∈ zc_T := zc_in 361 (by decide +kernel) (by decide +kernel)
theorem zm_362 : (Jvm.Cond.instanceMethod ({ cls := "FindingAid", name := "twice", desc := "(I)I" } : Jvm.MethodName)) ∈ zc_T := zc_in 362 (by decide +kernel) (by decide +kernel)
theorem zm_363 : (Jvm.Cond.selects "FindingAid" ({ cls := "FindingAid", name := "twice", desc := "(I)I" } : Jvm.MethodName) ({ cls := "FindingAid", name := "twice", desc := "(I)I" } : Jvm.MethodName)) ∈ zc_T := zc_in 363 (by decide +kernel) (by decide +kernel)
theorem zm_364 : (Jvm.Cond.code ({ cls := "FindingAid", name := "twice", desc := "(I)I" } : Jvm.MethodName) prog_1_method_10_code (4 : Nat) (Option.some Jvm.ClassFile.FieldType.int)) ∈ zc_T := zc_in 364 (by decide +kernel) (by decide +kernel)
theorem zm_365 : (Jvm.Cond.methodLink "FindingAid" (140 : Nat) ({ cls := "FindingAid$Levels", name := "repeatsNumber", desc := "(I)Z" } : Jvm.MethodName)) ∈ zc_T := zc_in 365 (by decide +kernel) (by decide +kernel)
theorem zm_366 : (Jvm.Cond.instanceMethod ({ cls := "FindingAid$Levels", name := "repeatsNumber", desc := "(I)Z" } : Jvm.MethodName)) ∈ zc_T := zc_in 366 (by decide +kernel) (by decide +kernel)
theorem zm_367 : (Jvm.Cond.selects "FindingAid$Levels" ({ cls := "FindingAid$Levels", name := "repeatsNumber", desc := "(I)Z" } : Jvm.MethodName) ({ cls := "FindingAid$Levels", name := "repeatsNumber", desc := "(I)Z" } : Jvm.MethodName)) ∈ zc_T := zc_in 367 (by decide +kernel) (by decide +kernel)
theorem zm_368 : (Jvm.Cond.code ({ cls := "FindingAid$Levels", name := "repeatsNumber", desc := "(I)Z" } : Jvm.MethodName) prog_3_method_8_code (3 : Nat) (Option.some Jvm.ClassFile.FieldType.boolean)) ∈ zc_T := zc_in 368 (by decide +kernel) (by decide +kernel)
theorem zm_369 : (Jvm.Cond.methodLink "FindingAidLaw" (66 : Nat) ({ cls := "FindingAid", name := "restrict", desc := "(III)I" } : Jvm.MethodName)) ∈ zc_T := zc_in 369 (by decide +kernel) (by decide +kernel)
theorem zm_370 : (Jvm.Cond.instanceMethod ({ cls := "FindingAid", name := "restrict", desc := "(III)I" } : Jvm.MethodName)) ∈ zc_T := zc_in 370 (by decide +kernel) (by decide +kernel)
theorem zm_371 : (Jvm.Cond.selects "FindingAid" ({ cls := "FindingAid", name := "restrict", desc := "(III)I" } : Jvm.MethodName) ({ cls := "FindingAid", name := "restrict", desc := "(III)I" } : Jvm.MethodName)) ∈ zc_T := zc_in 371 (by decide +kernel) (by decide +kernel)
theorem zm_372 : (Jvm.Cond.code ({ cls := "FindingAid", name := "restrict", desc := "(III)I" } : Jvm.MethodName) prog_1_method_11_code (4 : Nat) (Option.some Jvm.ClassFile.FieldType.int)) ∈ zc_T := zc_in 372 (by decide +kernel) (by decide +kernel)
theorem zm_373 : (Jvm.Cond.methodLink "FindingAid" (143 : Nat) ({ cls := "FindingAid", name := "isRestrictionKind", desc := "(I)Z" } : Jvm.MethodName)) ∈ zc_T := zc_in 373 (by decide +kernel) (by decide +kernel)
theorem zm_374 : (Jvm.Cond.static ({ cls := "FindingAid", name := "isRestrictionKind", desc := "(I)Z" } : Jvm.MethodName)) ∈ zc_T := zc_in 374 (by decide +kernel) (by decide +kernel)
theorem zm_375 : (Jvm.Cond.code ({ cls := "FindingAid", name := "isRestrictionKind", desc := "(I)Z" } : Jvm.MethodName) prog_1_method_24_code (1 : Nat) (Option.some Jvm.ClassFile.FieldType.boolean)) ∈ zc_T := zc_in 375 (by decide +kernel) (by decide +kernel)
theorem zm_376 : (Jvm.Cond.methodLink "FindingAid" (146 : Nat) ({ cls := "FindingAid$Notes", name := "setReason", desc := "(III)V" } : Jvm.MethodName)) ∈ zc_T := zc_in 376 (by decide +kernel) (by decide +kernel)
theorem zm_377 : (Jvm.Cond.instanceMethod ({ cls := "FindingAid$Notes", name := "setReason", desc := "(III)V" } : Jvm.MethodName)) ∈ zc_T := zc_in 377 (by decide +kernel) (by decide +kernel)
theorem zm_378 : (Jvm.Cond.selects "FindingAid$Notes" ({ cls := "FindingAid$Notes", name := "setReason", desc := "(III)V" } : Jvm.MethodName) ({ cls := "FindingAid$Notes", name := "setReason", desc := "(III)V" } : Jvm.MethodName)) ∈ zc_T := zc_in 378 (by decide +kernel) (by decide +kernel)
theorem zm_379 : (Jvm.Cond.code ({ cls := "FindingAid$Notes", name := "setReason", desc := "(III)V" } : Jvm.MethodName) prog_4_method_3_code (4 : Nat) (Option.none : Option Jvm.ClassFile.FieldType)) ∈ zc_T := zc_in 379 (by decide +kernel) (by decide +kernel)
theorem zm_380 : (Jvm.Cond.methodLink "FindingAidLaw" (71 : Nat) ({ cls := "FindingAid", name := "restricted", desc := "(II)I" } : Jvm.MethodName)) ∈ zc_T := zc_in 380 (by decide +kernel) (by decide +kernel)
theorem zm_381 : (Jvm.Cond.instanceMethod ({ cls := "FindingAid", name := "restricted", desc := "(II)I" } : Jvm.MethodName)) ∈ zc_T := zc_in 381 (by decide +kernel) (by decide +kernel)
theorem zm_382 : (Jvm.Cond.selects "FindingAid" ({ cls := "FindingAid", name := "restricted", desc := "(II)I" } : Jvm.MethodName) ({ cls := "FindingAid", name := "restricted", desc := "(II)I" } : Jvm.MethodName)) ∈ zc_T := zc_in 382 (by decide +kernel) (by decide +kernel)
theorem zm_383 : (Jvm.Cond.code ({ cls := "FindingAid", name := "restricted", desc := "(II)I" } : Jvm.MethodName) prog_1_method_12_code (6 : Nat) (Option.some Jvm.ClassFile.FieldType.int)) ∈ zc_T := zc_in 383 (by decide +kernel) (by decide +kernel)
theorem zm_384 : (Jvm.Cond.methodLink "FindingAid" (150 : Nat) ({ cls := "FindingAid$Notes", name := "reasonOf", desc := "(II)I" } : Jvm.MethodName)) ∈ zc_T := zc_in 384 (by decide +kernel) (by decide +kernel)
theorem zm_385 : (Jvm.Cond.instanceMethod ({ cls := "FindingAid$Notes", name := "reasonOf", desc := "(II)I" } : Jvm.MethodName)) ∈ zc_T := zc_in 385 (by decide +kernel) (by decide +kernel)
theorem zm_386 : (Jvm.Cond.selects "FindingAid$Notes" ({ cls := "FindingAid$Notes", name := "reasonOf", desc := "(II)I" } : Jvm.MethodName) ({ cls := "FindingAid$Notes", name := "reasonOf", desc := "(II)I" } : Jvm.MethodName)) ∈ zc_T := zc_in 386 (by decide +kernel) (by decide +kernel)
theorem zm_387 : (Jvm.Cond.code ({ cls := "FindingAid$Notes", name := "reasonOf", desc := "(II)I" } : Jvm.MethodName) prog_4_method_4_code (3 : Nat) (Option.some Jvm.ClassFile.FieldType.int)) ∈ zc_T := zc_in 387 (by decide +kernel) (by decide +kernel)
theorem zm_388 : (Jvm.Cond.methodLink "FindingAidLaw" (75 : Nat) ({ cls := "FindingAid", name := "name", desc := "(II)I" } : Jvm.MethodName)) ∈ zc_T := zc_in 388 (by decide +kernel) (by decide +kernel)
theorem zm_389 : (Jvm.Cond.instanceMethod ({ cls := "FindingAid", name := "name", desc := "(II)I" } : Jvm.MethodName)) ∈ zc_T := zc_in 389 (by decide +kernel) (by decide +kernel)
theorem zm_390 : (Jvm.Cond.selects "FindingAid" ({ cls := "FindingAid", name := "name", desc := "(II)I" } : Jvm.MethodName) ({ cls := "FindingAid", name := "name", desc := "(II)I" } : Jvm.MethodName)) ∈ zc_T := zc_in 390 (by decide +kernel) (by decide +kernel)
theorem zm_391 : (Jvm.Cond.code ({ cls := "FindingAid", name := "name", desc := "(II)I" } : Jvm.MethodName) prog_1_method_13_code (3 : Nat) (Option.some Jvm.ClassFile.FieldType.int)) ∈ zc_T := zc_in 391 (by decide +kernel) (by decide +kernel)
theorem zm_392 : (Jvm.Cond.methodLink "FindingAid" (153 : Nat) ({ cls := "FindingAid$Notes", name := "hasHeading", desc := "(II)Z" } : Jvm.MethodName)) ∈ zc_T := zc_in 392 (by decide +kernel) (by decide +kernel)
theorem zm_393 : (Jvm.Cond.instanceMethod ({ cls := "FindingAid$Notes", name := "hasHeading", desc := "(II)Z" } : Jvm.MethodName)) ∈ zc_T := zc_in 393 (by decide +kernel) (by decide +kernel)
theorem zm_394 : (Jvm.Cond.selects "FindingAid$Notes" ({ cls := "FindingAid$Notes", name := "hasHeading", desc := "(II)Z" } : Jvm.MethodName) ({ cls := "FindingAid$Notes", name := "hasHeading", desc := "(II)Z" } : Jvm.MethodName)) ∈ zc_T := zc_in 394 (by decide +kernel) (by decide +kernel)
theorem zm_395 : (Jvm.Cond.code ({ cls := "FindingAid$Notes", name := "hasHeading", desc := "(II)Z" } : Jvm.MethodName) prog_4_method_5_code (4 : Nat) (Option.some Jvm.ClassFile.FieldType.boolean)) ∈ zc_T := zc_in 395 (by decide +kernel) (by decide +kernel)
theorem zm_396 : (Jvm.Cond.methodLink "FindingAid" (160 : Nat) ({ cls := "FindingAid$Notes", name := "addHeading", desc := "(II)V" } : Jvm.MethodName)) ∈ zc_T := zc_in 396 (by decide +kernel) (by decide +kernel)
theorem zm_397 : (Jvm.Cond.instanceMethod ({ cls := "FindingAid$Notes", name := "addHeading", desc := "(II)V" } : Jvm.MethodName)) ∈ zc_T := zc_in 397 (by decide +kernel) (by decide +kernel)
theorem zm_398 : (Jvm.Cond.selects "FindingAid$Notes" ({ cls := "FindingAid$Notes", name := "addHeading", desc := "(II)V" } : Jvm.MethodName) ({ cls := "FindingAid$Notes", name := "addHeading", desc := "(II)V" } : Jvm.MethodName)) ∈ zc_T := zc_in 398 (by decide +kernel) (by decide +kernel)
theorem zm_399 : (Jvm.Cond.code ({ cls := "FindingAid$Notes", name := "addHeading", desc := "(II)V" } : Jvm.MethodName) prog_4_method_6_code (3 : Nat) (Option.none : Option Jvm.ClassFile.FieldType)) ∈ zc_T := zc_in 399 (by decide +kernel) (by decide +kernel)
theorem zm_400 : (Jvm.Cond.methodLink "FindingAidLaw" (79 : Nat) ({ cls := "FindingAid", name := "named", desc := "(II)I" } : Jvm.MethodName)) ∈ zc_T := zc_in 400 (by decide +kernel) (by decide +kernel)
theorem zm_401 : (Jvm.Cond.instanceMethod ({ cls := "FindingAid", name := "named", desc := "(II)I" } : Jvm.MethodName)) ∈ zc_T := zc_in 401 (by decide +kernel) (by decide +kernel)
theorem zm_402 : (Jvm.Cond.selects "FindingAid" ({ cls := "FindingAid", name := "named", desc := "(II)I" } : Jvm.MethodName) ({ cls := "FindingAid", name := "named", desc := "(II)I" } : Jvm.MethodName)) ∈ zc_T := zc_in 402 (by decide +kernel) (by decide +kernel)
theorem zm_403 : (Jvm.Cond.code ({ cls := "FindingAid", name := "named", desc := "(II)I" } : Jvm.MethodName) prog_1_method_14_code (5 : Nat) (Option.some Jvm.ClassFile.FieldType.int)) ∈ zc_T := zc_in 403 (by decide +kernel) (by decide +kernel)
theorem zm_404 : (Jvm.Cond.methodLink "FindingAidLaw" (83 : Nat) ({ cls := "FindingAid", name := "move", desc := "(II)I" } : Jvm.MethodName)) ∈ zc_T := zc_in 404 (by decide +kernel) (by decide +kernel)
theorem zm_405 : (Jvm.Cond.instanceMethod ({ cls := "FindingAid", name := "move", desc := "(II)I" } : Jvm.MethodName)) ∈ zc_T := zc_in 405 (by decide +kernel) (by decide +kernel)
theorem zm_406 : (Jvm.Cond.selects "FindingAid" ({ cls := "FindingAid", name := "move", desc := "(II)I" } : Jvm.MethodName) ({ cls := "FindingAid", name := "move", desc := "(II)I" } : Jvm.MethodName)) ∈ zc_T := zc_in 406 (by decide +kernel) (by decide +kernel)
theorem zm_407 : (Jvm.Cond.code ({ cls := "FindingAid", name := "move", desc := "(II)I" } : Jvm.MethodName) prog_1_method_15_code (3 : Nat) (Option.some Jvm.ClassFile.FieldType.int)) ∈ zc_T := zc_in 407 (by decide +kernel) (by decide +kernel)
theorem zm_408 : (Jvm.Cond.methodLink "FindingAid" (164 : Nat) ({ cls := "FindingAid$Levels", name := "mayHang", desc := "(II)Z" } : Jvm.MethodName)) ∈ zc_T := zc_in 408 (by decide +kernel) (by decide +kernel)
theorem zm_409 : (Jvm.Cond.instanceMethod ({ cls := "FindingAid$Levels", name := "mayHang", desc := "(II)Z" } : Jvm.MethodName)) ∈ zc_T := zc_in 409 (by decide +kernel) (by decide +kernel)
theorem zm_410 : (Jvm.Cond.selects "FindingAid$Levels" ({ cls := "FindingAid$Levels", name := "mayHang", desc := "(II)Z" } : Jvm.MethodName) ({ cls := "FindingAid$Levels", name := "mayHang", desc := "(II)Z" } : Jvm.MethodName)) ∈ zc_T := zc_in 410 (by decide +kernel) (by decide +kernel)
theorem zm_411 : (Jvm.Cond.code ({ cls := "FindingAid$Levels", name := "mayHang", desc := "(II)Z" } : Jvm.MethodName) prog_3_method_10_code (3 : Nat) (Option.some Jvm.ClassFile.FieldType.boolean)) ∈ zc_T := zc_in 411 (by decide +kernel) (by decide +kernel)
theorem zm_412 : (Jvm.Cond.methodLink "FindingAid$Levels" (60 : Nat) ({ cls := "FindingAid$Levels", name := "isWithin", desc := "(II)Z" } : Jvm.MethodName)) ∈ zc_T := zc_in 412 (by decide +kernel) (by decide +kernel)
theorem zm_413 : (Jvm.Cond.instanceMethod ({ cls := "FindingAid$Levels", name := "isWithin", desc := "(II)Z" } : Jvm.MethodName)) ∈ zc_T := zc_in 413 (by decide +kernel) (by decide +kernel)
theorem zm_414 : (Jvm.Cond.selects "FindingAid$Levels" ({ cls := "FindingAid$Levels", name := "isWithin", desc := "(II)Z" } : Jvm.MethodName) ({ cls := "FindingAid$Levels", name := "isWithin", desc := "(II)Z" } : Jvm.MethodName)) ∈ zc_T := zc_in 414 (by decide +kernel) (by decide +kernel)
theorem zm_415 : (Jvm.Cond.code ({ cls := "FindingAid$Levels", name := "isWithin", desc := "(II)Z" } : Jvm.MethodName) prog_3_method_9_code (5 : Nat) (Option.some Jvm.ClassFile.FieldType.boolean)) ∈ zc_T := zc_in 415 (by decide +kernel) (by decide +kernel)
theorem zm_416 : (Jvm.Cond.methodLink "FindingAid$Levels" (56 : Nat) ({ cls := "FindingAid$Levels", name := "has", desc := "(I)Z" } : Jvm.MethodName)) ∈ zc_T := zc_in 416 (by decide +kernel) (by decide +kernel)
theorem zm_417 : (Jvm.Cond.methodLink "FindingAid$Levels" (64 : Nat) ({ cls := "FindingAid$Levels", name := "deepestWithin", desc := "(I)I" } : Jvm.MethodName)) ∈ zc_T := zc_in 417 (by decide +kernel) (by decide +kernel)
theorem zm_419 : (Jvm.Cond.instanceMethod ({ cls := "FindingAid$Levels", name := "deepestWithin", desc := "(I)I" } : Jvm.MethodName)) ∈ zc_T := zc_in 419 (by decide +kernel) (by decide +kernel)
theorem zm_420 : (Jvm.Cond.code ({ cls := "FindingAid$Levels", name := "deepestWithin", desc := "(I)I" } : Jvm.MethodName) prog_3_method_13_code (4 : Nat) (Option.some Jvm.ClassFile.FieldType.int)) ∈ zc_T := zc_in 420 (by decide +kernel) (by decide +kernel)
theorem zm_421 : (Jvm.Cond.methodLink "FindingAid$Levels" (71 : Nat) ({ cls := "java/lang/Math", name := "max", desc := "(II)I" } : Jvm.MethodName)) ∈ zc_T := zc_in 421 (by decide +kernel) (by decide +kernel)
theorem zm_422 : (Jvm.Cond.static ({ cls := "java/lang/Math", name := "max", desc := "(II)I" } : Jvm.MethodName)) ∈ zc_T := zc_in 422 (by decide +kernel) (by decide +kernel)
theorem zm_423 : (Jvm.Cond.code ({ cls := "java/lang/Math", name := "max", desc := "(II)I" } : Jvm.MethodName) prog_12_method_65_code (2 : Nat) (Option.some Jvm.ClassFile.FieldType.int)) ∈ zc_T := zc_in 423 (by decide +kernel) (by decide +kernel)
theorem zm_424 : (Jvm.Cond.methodLink "FindingAid$Levels" (68 : Nat) ({ cls := "FindingAid$Levels", name := "deeperUnder", desc := "(II)I" } : Jvm.MethodName)) ∈ zc_T := zc_in 424 (by decide +kernel) (by decide +kernel)
theorem zm_426 : (Jvm.Cond.instanceMethod ({ cls := "FindingAid$Levels", name := "deeperUnder", desc := "(II)I" } : Jvm.MethodName)) ∈ zc_T := zc_in 426 (by decide +kernel) (by decide +kernel)
theorem zm_427 : (Jvm.Cond.code ({ cls := "FindingAid$Levels", name := "deeperUnder", desc := "(II)I" } : Jvm.MethodName) prog_3_method_12_code (3 : Nat) (Option.some Jvm.ClassFile.FieldType.int)) ∈ zc_T := zc_in 427 (by decide +kernel) (by decide +kernel)
theorem zm_428 : (Jvm.Cond.methodLink "FindingAid" (167 : Nat) ({ cls := "FindingAid$Notes", name := "addMove", desc := "(II)V" } : Jvm.MethodName)) ∈ zc_T := zc_in 428 (by decide +kernel) (by decide +kernel)
theorem zm_429 : (Jvm.Cond.instanceMethod ({ cls := "FindingAid$Notes", name := "addMove", desc := "(II)V" } : Jvm.MethodName)) ∈ zc_T := zc_in 429 (by decide +kernel) (by decide +kernel)
theorem zm_430 : (Jvm.Cond.selects "FindingAid$Notes" ({ cls := "FindingAid$Notes", name := "addMove", desc := "(II)V" } : Jvm.MethodName) ({ cls := "FindingAid$Notes", name := "addMove", desc := "(II)V" } : Jvm.MethodName)) ∈ zc_T := zc_in 430 (by decide +kernel) (by decide +kernel)
theorem zm_431 : (Jvm.Cond.code ({ cls := "FindingAid$Notes", name := "addMove", desc := "(II)V" } : Jvm.MethodName) prog_4_method_7_code (3 : Nat) (Option.none : Option Jvm.ClassFile.FieldType)) ∈ zc_T := zc_in 431 (by decide +kernel) (by decide +kernel)
theorem zm_432 : (Jvm.Cond.methodLink "FindingAid" (170 : Nat) ({ cls := "FindingAid$Levels", name := "hang", desc := "(II)V" } : Jvm.MethodName)) ∈ zc_T := zc_in 432 (by decide +kernel) (by decide +kernel)
theorem zm_433 : (Jvm.Cond.instanceMethod ({ cls := "FindingAid$Levels", name := "hang", desc := "(II)V" } : Jvm.MethodName)) ∈ zc_T := zc_in 433 (by decide +kernel) (by decide +kernel)
theorem zm_434 : (Jvm.Cond.selects "FindingAid$Levels" ({ cls := "FindingAid$Levels", name := "hang", desc := "(II)V" } : Jvm.MethodName) ({ cls := "FindingAid$Levels", name := "hang", desc := "(II)V" } : Jvm.MethodName)) ∈ zc_T := zc_in 434 (by decide +kernel) (by decide +kernel)
theorem zm_435 : (Jvm.Cond.code ({ cls := "FindingAid$Levels", name := "hang", desc := "(II)V" } : Jvm.MethodName) prog_3_method_11_code (5 : Nat) (Option.none : Option Jvm.ClassFile.FieldType)) ∈ zc_T := zc_in 435 (by decide +kernel) (by decide +kernel)
theorem zm_436 : (Jvm.Cond.methodLink "FindingAidLaw" (87 : Nat) ({ cls := "FindingAid", name := "was", desc := "(II)I" } : Jvm.MethodName)) ∈ zc_T := zc_in 436 (by decide +kernel) (by decide +kernel)
theorem zm_437 : (Jvm.Cond.instanceMethod ({ cls := "FindingAid", name := "was", desc := "(II)I" } : Jvm.MethodName)) ∈ zc_T := zc_in 437 (by decide +kernel) (by decide +kernel)
theorem zm_438 : (Jvm.Cond.selects "FindingAid" ({ cls := "FindingAid", name := "was", desc := "(II)I" } : Jvm.MethodName) ({ cls := "FindingAid", name := "was", desc := "(II)I" } : Jvm.MethodName)) ∈ zc_T := zc_in 438 (by decide +kernel) (by decide +kernel)
theorem zm_439 : (Jvm.Cond.code ({ cls := "FindingAid", name := "was", desc := "(II)I" } : Jvm.MethodName) prog_1_method_16_code (3 : Nat) (Option.some Jvm.ClassFile.FieldType.int)) ∈ zc_T := zc_in 439 (by decide +kernel) (by decide +kernel)
theorem zm_440 : (Jvm.Cond.methodLink "FindingAid" (176 : Nat) ({ cls := "FindingAid$Notes", name := "underBefore", desc := "(II)I" } : Jvm.MethodName)) ∈ zc_T := zc_in 440 (by decide +kernel) (by decide +kernel)
theorem zm_441 : (Jvm.Cond.instanceMethod ({ cls := "FindingAid$Notes", name := "underBefore", desc := "(II)I" } : Jvm.MethodName)) ∈ zc_T := zc_in 441 (by decide +kernel) (by decide +kernel)
theorem zm_442 : (Jvm.Cond.selects "FindingAid$Notes" ({ cls := "FindingAid$Notes", name := "underBefore", desc := "(II)I" } : Jvm.MethodName) ({ cls := "FindingAid$Notes", name := "underBefore", desc := "(II)I" } : Jvm.MethodName)) ∈ zc_T := zc_in 442 (by decide +kernel) (by decide +kernel)
theorem zm_443 : (Jvm.Cond.code ({ cls := "FindingAid$Notes", name := "underBefore", desc := "(II)I" } : Jvm.MethodName) prog_4_method_8_code (3 : Nat) (Option.some Jvm.ClassFile.FieldType.int)) ∈ zc_T := zc_in 443 (by decide +kernel) (by decide +kernel)
theorem zm_444 : (Jvm.Cond.methodLink "FindingAidLaw" (91 : Nat) ({ cls := "FindingAid", name := "published", desc := "(IZ)I" } : Jvm.MethodName)) ∈ zc_T := zc_in 444 (by decide +kernel) (by decide +kernel)
theorem zm_445 : (Jvm.Cond.instanceMethod ({ cls := "FindingAid", name := "published", desc := "(IZ)I" } : Jvm.MethodName)) ∈ zc_T := zc_in 445 (by decide +kernel) (by decide +kernel)
theorem zm_446 : (Jvm.Cond.selects "FindingAid" ({ cls := "FindingAid", name := "published", desc := "(IZ)I" } : Jvm.MethodName) ({ cls := "FindingAid", name := "published", desc := "(IZ)I" } : Jvm.MethodName)) ∈ zc_T := zc_in 446 (by decide +kernel) (by decide +kernel)
theorem zm_447 : (Jvm.Cond.code ({ cls := "FindingAid", name := "published", desc := "(IZ)I" } : Jvm.MethodName) prog_1_method_17_code (3 : Nat) (Option.some Jvm.ClassFile.FieldType.int)) ∈ zc_T := zc_in 447 (by decide +kernel) (by decide +kernel)
theorem zm_448 : (Jvm.Cond.methodLink "FindingAid" (183 : Nat) ({ cls := "FindingAid", name := "isShown", desc := "(I)Z" } : Jvm.MethodName)) ∈ zc_T := zc_in 448 (by decide +kernel) (by decide +kernel)
theorem zm_450 : (Jvm.Cond.instanceMethod ({ cls := "FindingAid", name := "isShown", desc := "(I)Z" } : Jvm.MethodName)) ∈ zc_T := zc_in 450 (by decide +kernel) (by decide +kernel)
theorem zm_451 : (Jvm.Cond.code ({ cls := "FindingAid", name := "isShown", desc := "(I)Z" } : Jvm.MethodName) prog_1_method_23_code (4 : Nat) (Option.some Jvm.ClassFile.FieldType.boolean)) ∈ zc_T := zc_in 451 (by decide +kernel) (by decide +kernel)
theorem zm_452 : (Jvm.Cond.methodLink "FindingAidLaw" (99 : Nat) ({ cls := "FindingAid", name := "ask", desc := "(II)I" } : Jvm.MethodName)) ∈ zc_T := zc_in 452 (by decide +kernel) (by decide +kernel)
theorem zm_453 : (Jvm.Cond.instanceMethod ({ cls := "FindingAid", name := "ask", desc := "(II)I" } : Jvm.MethodName)) ∈ zc_T := zc_in 453 (by decide +kernel) (by decide +kernel)
theorem zm_454 : (Jvm.Cond.selects "FindingAid" ({ cls := "FindingAid", name := "ask", desc := "(II)I" } : Jvm.MethodName) ({ cls := "FindingAid", name := "ask", desc := "(II)I" } : Jvm.MethodName)) ∈ zc_T := zc_in 454 (by decide +kernel) (by decide +kernel)
theorem zm_455 : (Jvm.Cond.code ({ cls := "FindingAid", name := "ask", desc := "(II)I" } : Jvm.MethodName) prog_1_method_19_code (3 : Nat) (Option.some Jvm.ClassFile.FieldType.int)) ∈ zc_T := zc_in 455 (by decide +kernel) (by decide +kernel)
theorem zm_456 : (Jvm.Cond.methodLink "FindingAid" (191 : Nat) ({ cls := "FindingAid$Asks", name := "has", desc := "(I)Z" } : Jvm.MethodName)) ∈ zc_T := zc_in 456 (by decide +kernel) (by decide +kernel)
theorem zm_457 : (Jvm.Cond.instanceMethod ({ cls := "FindingAid$Asks", name := "has", desc := "(I)Z" } : Jvm.MethodName)) ∈ zc_T := zc_in 457 (by decide +kernel) (by decide +kernel)
theorem zm_458 : (Jvm.Cond.selects "FindingAid$Asks" ({ cls := "FindingAid$Asks", name := "has", desc := "(I)Z" } : Jvm.MethodName) ({ cls := "FindingAid$Asks", name := "has", desc := "(I)Z" } : Jvm.MethodName)) ∈ zc_T := zc_in 458 (by decide +kernel) (by decide +kernel)
theorem zm_459 : (Jvm.Cond.code ({ cls := "FindingAid$Asks", name := "has", desc := "(I)Z" } : Jvm.MethodName) prog_2_method_2_code (2 : Nat) (Option.some Jvm.ClassFile.FieldType.boolean)) ∈ zc_T := zc_in 459 (by decide +kernel) (by decide +kernel)
theorem zm_460 : (Jvm.Cond.methodLink "FindingAidLaw" (103 : Nat) ({ cls := "FindingAid", name := "take", desc := "(I)I" } : Jvm.MethodName)) ∈ zc_T := zc_in 460 (by decide +kernel) (by decide +kernel)
theorem zm_461 : (Jvm.Cond.instanceMethod ({ cls := "FindingAid", name := "take", desc := "(I)I" } : Jvm.MethodName)) ∈ zc_T := zc_in 461 (by decide +kernel) (by decide +kernel)
theorem zm_462 : (Jvm.Cond.selects "FindingAid" ({ cls := "FindingAid", name := "take", desc := "(I)I" } : Jvm.MethodName) ({ cls := "FindingAid", name := "take", desc := "(I)I" } : Jvm.MethodName)) ∈ zc_T := zc_in 462 (by decide +kernel) (by decide +kernel)
theorem zm_463 : (Jvm.Cond.code ({ cls := "FindingAid", name := "take", desc := "(I)I" } : Jvm.MethodName) prog_1_method_20_code (2 : Nat) (Option.some Jvm.ClassFile.FieldType.int)) ∈ zc_T := zc_in 463 (by decide +kernel) (by decide +kernel)
theorem zm_464 : (Jvm.Cond.methodLink "FindingAid" (204 : Nat) ({ cls := "FindingAid$Levels", name := "copyParts", desc := "(ILFindingAid$Levels;I)V" } : Jvm.MethodName)) ∈ zc_T := zc_in 464 (by decide +kernel) (by decide +kernel)
theorem zm_465 : (Jvm.Cond.instanceMethod ({ cls := "FindingAid$Levels", name := "copyParts", desc := "(ILFindingAid$Levels;I)V" } : Jvm.MethodName)) ∈ zc_T := zc_in 465 (by decide +kernel) (by decide +kernel)
theorem zm_466 : (Jvm.Cond.selects "FindingAid$Levels" ({ cls := "FindingAid$Levels", name := "copyParts", desc := "(ILFindingAid$Levels;I)V" } : Jvm.MethodName) ({ cls := "FindingAid$Levels", name := "copyParts", desc := "(ILFindingAid$Levels;I)V" } : Jvm.MethodName)) ∈ zc_T := zc_in 466 (by decide +kernel) (by decide +kernel)
theorem zm_467 : (Jvm.Cond.code ({ cls := "FindingAid$Levels", name := "copyParts", desc := "(ILFindingAid$Levels;I)V" } : Jvm.MethodName) prog_3_method_20_code (5 : Nat) (Option.none : Option Jvm.ClassFile.FieldType)) ∈ zc_T := zc_in 467 (by decide +kernel) (by decide +kernel)
theorem zm_468 : (Jvm.Cond.methodLink "FindingAid$Levels" (86 : Nat) ({ cls := "FindingAid$Levels", name := "titleSign", desc := "(II)I" } : Jvm.MethodName)) ∈ zc_T := zc_in 468 (by decide +kernel) (by decide +kernel)
theorem zm_469 : (Jvm.Cond.methodLink "FindingAid$Levels" (89 : Nat) ({ cls := "FindingAid$Levels", name := "addTitleSign", desc := "(II)V" } : Jvm.MethodName)) ∈ zc_T := zc_in 469 (by decide +kernel) (by decide +kernel)
theorem zm_470 : (Jvm.Cond.instanceMethod ({ cls := "FindingAid$Levels", name := "addTitleSign", desc := "(II)V" } : Jvm.MethodName)) ∈ zc_T := zc_in 470 (by decide +kernel) (by decide +kernel)
theorem zm_471 : (Jvm.Cond.selects "FindingAid$Levels" ({ cls := "FindingAid$Levels", name := "addTitleSign", desc := "(II)V" } : Jvm.MethodName) ({ cls := "FindingAid$Levels", name := "addTitleSign", desc := "(II)V" } : Jvm.MethodName)) ∈ zc_T := zc_in 471 (by decide +kernel) (by decide +kernel)
theorem zm_472 : (Jvm.Cond.code ({ cls := "FindingAid$Levels", name := "addTitleSign", desc := "(II)V" } : Jvm.MethodName) prog_3_method_4_code (3 : Nat) (Option.none : Option Jvm.ClassFile.FieldType)) ∈ zc_T := zc_in 472 (by decide +kernel) (by decide +kernel)
theorem zm_473 : (Jvm.Cond.methodLink "FindingAidLaw" (107 : Nat) ({ cls := "FindingAid", name := "print", desc := "()I" } : Jvm.MethodName)) ∈ zc_T := zc_in 473 (by decide +kernel) (by decide +kernel)
theorem zm_474 : (Jvm.Cond.instanceMethod ({ cls := "FindingAid", name := "print", desc := "()I" } : Jvm.MethodName)) ∈ zc_T := zc_in 474 (by decide +kernel) (by decide +kernel)
theorem zm_475 : (Jvm.Cond.selects "FindingAid" ({ cls := "FindingAid", name := "print", desc := "()I" } : Jvm.MethodName) ({ cls := "FindingAid", name := "print", desc := "()I" } : Jvm.MethodName)) ∈ zc_T := zc_in 475 (by decide +kernel) (by decide +kernel)
theorem zm_476 : (Jvm.Cond.code ({ cls := "FindingAid", name := "print", desc := "()I" } : Jvm.MethodName) prog_1_method_21_code (1 : Nat) (Option.some Jvm.ClassFile.FieldType.int)) ∈ zc_T := zc_in 476 (by decide +kernel) (by decide +kernel)
theorem zm_477 : (Jvm.Cond.methodLink "FindingAid" (208 : Nat) ({ cls := "FindingAid$Page", name := "write", desc := "(LFindingAid$Levels;LFindingAid$Notes;)V" } : Jvm.MethodName)) ∈ zc_T := zc_in 477 (by decide +kernel) (by decide +kernel)
theorem zm_478 : (Jvm.Cond.instanceMethod ({ cls := "FindingAid$Page", name := "write", desc := "(LFindingAid$Levels;LFindingAid$Notes;)V" } : Jvm.MethodName)) ∈ zc_T := zc_in 478 (by decide +kernel) (by decide +kernel)
theorem zm_479 : (Jvm.Cond.selects "FindingAid$Page" ({ cls := "FindingAid$Page", name := "write", desc := "(LFindingAid$Levels;LFindingAid$Notes;)V" } : Jvm.MethodName) ({ cls := "FindingAid$Page", name := "write", desc := "(LFindingAid$Levels;LFindingAid$Notes;)V" } : Jvm.MethodName)) ∈ zc_T := zc_in 479 (by decide +kernel) (by decide +kernel)
theorem zm_480 : (Jvm.Cond.code ({ cls := "FindingAid$Page", name := "write", desc := "(LFindingAid$Levels;LFindingAid$Notes;)V" } : Jvm.MethodName) prog_5_method_2_code (3 : Nat) (Option.none : Option Jvm.ClassFile.FieldType)) ∈ zc_T := zc_in 480 (by decide +kernel) (by decide +kernel)
theorem zm_481 : (Jvm.Cond.methodLink "FindingAid$Page" (19 : Nat) ({ cls := "FindingAid$Page", name := "writeFrom", desc := "(LFindingAid$Page;LFindingAid$Levels;LFindingAid$Notes;II)V" } : Jvm.MethodName)) ∈ zc_T := zc_in 481 (by decide +kernel) (by decide +kernel)
theorem zm_482 : (Jvm.Cond.static ({ cls := "FindingAid$Page", name := "writeFrom", desc := "(LFindingAid$Page;LFindingAid$Levels;LFindingAid$Notes;II)V" } : Jvm.MethodName)) ∈ zc_T := zc_in 482 (by decide +kernel) (by decide +kernel)
theorem zm_483 : (Jvm.Cond.code ({ cls := "FindingAid$Page", name := "writeFrom", desc := "(LFindingAid$Page;LFindingAid$Levels;LFindingAid$Notes;II)V" } : Jvm.MethodName) prog_5_method_3_code (7 : Nat) (Option.none : Option Jvm.ClassFile.FieldType)) ∈ zc_T := zc_in 483 (by decide +kernel) (by decide +kernel)
theorem zm_484 : (Jvm.Cond.methodLink "FindingAid$Page" (23 : Nat) ({ cls := "FindingAid$Levels", name := "has", desc := "(I)Z" } : Jvm.MethodName)) ∈ zc_T := zc_in 484 (by decide +kernel) (by decide +kernel)
theorem zm_485 : (Jvm.Cond.methodLink "FindingAid$Page" (35 : Nat) ({ cls := "FindingAid$Page", name := "writeLine", desc := "(LFindingAid$Levels;I)V" } : Jvm.MethodName)) ∈ zc_T := zc_in 485 (by decide +kernel) (by decide +kernel)
theorem zm_487 : (Jvm.Cond.instanceMethod ({ cls := "FindingAid$Page", name := "writeLine", desc := "(LFindingAid$Levels;I)V" } : Jvm.MethodName)) ∈ zc_T := zc_in 487 (by decide +kernel) (by decide +kernel)
theorem zm_488 : (Jvm.Cond.code ({ cls := "FindingAid$Page", name := "writeLine", desc := "(LFindingAid$Levels;I)V" } : Jvm.MethodName) prog_5_method_4_code (4 : Nat) (Option.none : Option Jvm.ClassFile.FieldType)) ∈ zc_T := zc_in 488 (by decide +kernel) (by decide +kernel)
theorem zm_489 : (Jvm.Cond.methodLink "FindingAid$Page" (49 : Nat) ({ cls := "FindingAid$Page", name := "put", desc := "(I)V" } : Jvm.MethodName)) ∈ zc_T := zc_in 489 (by decide +kernel) (by decide +kernel)
theorem zm_491 : (Jvm.Cond.instanceMethod ({ cls := "FindingAid$Page", name := "put", desc := "(I)V" } : Jvm.MethodName)) ∈ zc_T := zc_in 491 (by decide +kernel) (by decide +kernel)
theorem zm_492 : (Jvm.Cond.code ({ cls := "FindingAid$Page", name := "put", desc := "(I)V" } : Jvm.MethodName) prog_5_method_8_code (2 : Nat) (Option.none : Option Jvm.ClassFile.FieldType)) ∈ zc_T := zc_in 492 (by decide +kernel) (by decide +kernel)
theorem zm_495 : (Jvm.Cond.methodLink "FindingAid$Page" (60 : Nat) ({ cls := "FindingAid$Page", name := "putOneOf", desc := "([CI)V" } : Jvm.MethodName)) ∈ zc_T := zc_in 495 (by decide +kernel) (by decide +kernel)
theorem zm_497 : (Jvm.Cond.instanceMethod ({ cls := "FindingAid$Page", name := "putOneOf", desc := "([CI)V" } : Jvm.MethodName)) ∈ zc_T := zc_in 497 (by decide +kernel) (by decide +kernel)
theorem zm_498 : (Jvm.Cond.code ({ cls := "FindingAid$Page", name := "putOneOf", desc := "([CI)V" } : Jvm.MethodName) prog_5_method_7_code (3 : Nat) (Option.none : Option Jvm.ClassFile.FieldType)) ∈ zc_T := zc_in 498 (by decide +kernel) (by decide +kernel)
theorem zm_499 : (Jvm.Cond.methodLink "FindingAid$Page" (67 : Nat) ({ cls := "FindingAid$Page", name := "putNumber", desc := "(I)V" } : Jvm.MethodName)) ∈ zc_T := zc_in 499 (by decide +kernel) (by decide +kernel)
theorem zm_501 : (Jvm.Cond.instanceMethod ({ cls := "FindingAid$Page", name := "putNumber", desc := "(I)V" } : Jvm.MethodName)) ∈ zc_T := zc_in 501 (by decide +kernel) (by decide +kernel)
theorem zm_502 : (Jvm.Cond.code ({ cls := "FindingAid$Page", name := "putNumber", desc := "(I)V" } : Jvm.MethodName) prog_5_method_6_code (3 : Nat) (Option.none : Option Jvm.ClassFile.FieldType)) ∈ zc_T := zc_in 502 (by decide +kernel) (by decide +kernel)
theorem zm_503 : (Jvm.Cond.methodLink "FindingAid$Page" (73 : Nat) ({ cls := "FindingAid$Levels", name := "titleSign", desc := "(II)I" } : Jvm.MethodName)) ∈ zc_T := zc_in 503 (by decide +kernel) (by decide +kernel)
theorem zm_504 : (Jvm.Cond.methodLink "FindingAid$Page" (79 : Nat) ({ cls := "FindingAid$Page", name := "writeDate", desc := "(LFindingAid$Levels;I)V" } : Jvm.MethodName)) ∈ zc_T := zc_in 504 (by decide +kernel) (by decide +kernel)
theorem zm_506 : (Jvm.Cond.instanceMethod ({ cls := "FindingAid$Page", name := "writeDate", desc := "(LFindingAid$Levels;I)V" } : Jvm.MethodName)) ∈ zc_T := zc_in 506 (by decide +kernel) (by decide +kernel)
theorem zm_507 : (Jvm.Cond.code ({ cls := "FindingAid$Page", name := "writeDate", desc := "(LFindingAid$Levels;I)V" } : Jvm.MethodName) prog_5_method_5_code (3 : Nat) (Option.none : Option Jvm.ClassFile.FieldType)) ∈ zc_T := zc_in 507 (by decide +kernel) (by decide +kernel)
theorem zm_510 : (Jvm.Cond.methodLink "FindingAid$Page" (39 : Nat) ({ cls := "FindingAid$Levels", name := "nextUnder", desc := "(II)I" } : Jvm.MethodName)) ∈ zc_T := zc_in 510 (by decide +kernel) (by decide +kernel)
theorem zm_511 : (Jvm.Cond.instanceMethod ({ cls := "FindingAid$Levels", name := "nextUnder", desc := "(II)I" } : Jvm.MethodName)) ∈ zc_T := zc_in 511 (by decide +kernel) (by decide +kernel)
theorem zm_512 : (Jvm.Cond.selects "FindingAid$Levels" ({ cls := "FindingAid$Levels", name := "nextUnder", desc := "(II)I" } : Jvm.MethodName) ({ cls := "FindingAid$Levels", name := "nextUnder", desc := "(II)I" } : Jvm.MethodName)) ∈ zc_T := zc_in 512 (by decide +kernel) (by decide +kernel)
theorem zm_513 : (Jvm.Cond.code ({ cls := "FindingAid$Levels", name := "nextUnder", desc := "(II)I" } : Jvm.MethodName) prog_3_method_14_code (5 : Nat) (Option.some Jvm.ClassFile.FieldType.int)) ∈ zc_T := zc_in 513 (by decide +kernel) (by decide +kernel)
theorem zm_514 : (Jvm.Cond.methodLink "FindingAid$Levels" (76 : Nat) ({ cls := "FindingAid$Levels", name := "isBehind", desc := "(II)Z" } : Jvm.MethodName)) ∈ zc_T := zc_in 514 (by decide +kernel) (by decide +kernel)
theorem zm_516 : (Jvm.Cond.instanceMethod ({ cls := "FindingAid$Levels", name := "isBehind", desc := "(II)Z" } : Jvm.MethodName)) ∈ zc_T := zc_in 516 (by decide +kernel) (by decide +kernel)
theorem zm_517 : (Jvm.Cond.code ({ cls := "FindingAid$Levels", name := "isBehind", desc := "(II)Z" } : Jvm.MethodName) prog_3_method_15_code (3 : Nat) (Option.some Jvm.ClassFile.FieldType.boolean)) ∈ zc_T := zc_in 517 (by decide +kernel) (by decide +kernel)
theorem zm_518 : (Jvm.Cond.methodLink "FindingAidLaw" (111 : Nat) ({ cls := "FindingAid", name := "at", desc := "(I)I" } : Jvm.MethodName)) ∈ zc_T := zc_in 518 (by decide +kernel) (by decide +kernel)
theorem zm_519 : (Jvm.Cond.instanceMethod ({ cls := "FindingAid", name := "at", desc := "(I)I" } : Jvm.MethodName)) ∈ zc_T := zc_in 519 (by decide +kernel) (by decide +kernel)
theorem zm_520 : (Jvm.Cond.selects "FindingAid" ({ cls := "FindingAid", name := "at", desc := "(I)I" } : Jvm.MethodName) ({ cls := "FindingAid", name := "at", desc := "(I)I" } : Jvm.MethodName)) ∈ zc_T := zc_in 520 (by decide +kernel) (by decide +kernel)
theorem zm_521 : (Jvm.Cond.code ({ cls := "FindingAid", name := "at", desc := "(I)I" } : Jvm.MethodName) prog_1_method_22_code (2 : Nat) (Option.some Jvm.ClassFile.FieldType.int)) ∈ zc_T := zc_in 521 (by decide +kernel) (by decide +kernel)
theorem zm_522 : (Jvm.Cond.methodLink "FindingAidLaw" (27 : Nat) ({ cls := "FindingAidLaw", name := "read", desc := "(LFindingAid;[J)I" } : Jvm.MethodName)) ∈ zc_T := zc_in 522 (by decide +kernel) (by decide +kernel)
theorem zm_523 : (Jvm.Cond.static ({ cls := "FindingAidLaw", name := "read", desc := "(LFindingAid;[J)I" } : Jvm.MethodName)) ∈ zc_T := zc_in 523 (by decide +kernel) (by decide +kernel)
theorem zm_525 : (Jvm.Cond.classLink "FindingAidLaw" (13 : Nat) "java/lang/IllegalStateException") ∈ zc_T := zc_in 525 (by decide +kernel) (by decide +kernel)
theorem zm_526 : (Jvm.Cond.methodLink "FindingAidLaw" (7 : Nat) ({ cls := "FindingAid", name := "read", desc := "()I" } : Jvm.MethodName)) ∈ zc_T := zc_in 526 (by decide +kernel) (by decide +kernel)
theorem zm_527 : (Jvm.Cond.instanceMethod ({ cls := "FindingAid", name := "read", desc := "()I" } : Jvm.MethodName)) ∈ zc_T := zc_in 527 (by decide +kernel) (by decide +kernel)
theorem zm_528 : (Jvm.Cond.selects "FindingAid" ({ cls := "FindingAid", name := "read", desc := "()I" } : Jvm.MethodName) ({ cls := "FindingAid", name := "read", desc := "()I" } : Jvm.MethodName)) ∈ zc_T := zc_in 528 (by decide +kernel) (by decide +kernel)
theorem zm_529 : (Jvm.Cond.code ({ cls := "FindingAid", name := "read", desc := "()I" } : Jvm.MethodName) prog_1_method_3_code (1 : Nat) (Option.some Jvm.ClassFile.FieldType.int)) ∈ zc_T := zc_in 529 (by decide +kernel) (by decide +kernel)
theorem zm_530 : (Jvm.Cond.methodLink "FindingAid" (58 : Nat) ({ cls := "FindingAid$TextReader", name := "readText", desc := "()Z" } : Jvm.MethodName)) ∈ zc_T := zc_in 530 (by decide +kernel) (by decide +kernel)
theorem zm_531 : (Jvm.Cond.instanceMethod ({ cls := "FindingAid$TextReader", name := "readText", desc := "()Z" } : Jvm.MethodName)) ∈ zc_T := zc_in 531 (by decide +kernel) (by decide +kernel)
theorem zm_532 : (Jvm.Cond.selects "FindingAid$TextReader" ({ cls := "FindingAid$TextReader", name := "readText", desc := "()Z" } : Jvm.MethodName) ({ cls := "FindingAid$TextReader", name := "readText", desc := "()Z" } : Jvm.MethodName)) ∈ zc_T := zc_in 532 (by decide +kernel) (by decide +kernel)
theorem zm_533 : (Jvm.Cond.code ({ cls := "FindingAid$TextReader", name := "readText", desc := "()Z" } : Jvm.MethodName) prog_7_method_4_code (2 : Nat) (Option.some Jvm.ClassFile.FieldType.boolean)) ∈ zc_T := zc_in 533 (by decide +kernel) (by decide +kernel)
theorem zm_534 : (Jvm.Cond.methodLink "FindingAid$TextReader" (35 : Nat) ({ cls := "FindingAid$TextReader", name := "readLines", desc := "()Z" } : Jvm.MethodName)) ∈ zc_T := zc_in 534 (by decide +kernel) (by decide +kernel)
theorem zm_536 : (Jvm.Cond.instanceMethod ({ cls := "FindingAid$TextReader", name := "readLines", desc := "()Z" } : Jvm.MethodName)) ∈ zc_T := zc_in 536 (by decide +kernel) (by decide +kernel)
theorem zm_537 : (Jvm.Cond.code ({ cls := "FindingAid$TextReader", name := "readLines", desc := "()Z" } : Jvm.MethodName) prog_7_method_5_code (2 : Nat) (Option.some Jvm.ClassFile.FieldType.boolean)) ∈ zc_T := zc_in 537 (by decide +kernel) (by decide +kernel)
theorem zm_538 : (Jvm.Cond.methodLink "FindingAid$TextReader" (39 : Nat) ({ cls := "FindingAid$TextReader", name := "readLine", desc := "(I)Z" } : Jvm.MethodName)) ∈ zc_T := zc_in 538 (by decide +kernel) (by decide +kernel)
theorem zm_540 : (Jvm.Cond.instanceMethod ({ cls := "FindingAid$TextReader", name := "readLine", desc := "(I)Z" } : Jvm.MethodName)) ∈ zc_T := zc_in 540 (by decide +kernel) (by decide +kernel)
theorem zm_541 : (Jvm.Cond.code ({ cls := "FindingAid$TextReader", name := "readLine", desc := "(I)Z" } : Jvm.MethodName) prog_7_method_6_code (2 : Nat) (Option.some Jvm.ClassFile.FieldType.boolean)) ∈ zc_T := zc_in 541 (by decide +kernel) (by decide +kernel)
theorem zm_542 : (Jvm.Cond.methodLink "FindingAid$TextReader" (46 : Nat) ({ cls := "FindingAid$TextReader", name := "readDepth", desc := "(I)Z" } : Jvm.MethodName)) ∈ zc_T := zc_in 542 (by decide +kernel) (by decide +kernel)
theorem zm_544 : (Jvm.Cond.instanceMethod ({ cls := "FindingAid$TextReader", name := "readDepth", desc := "(I)Z" } : Jvm.MethodName)) ∈ zc_T := zc_in 544 (by decide +kernel) (by decide +kernel)
theorem zm_545 : (Jvm.Cond.code ({ cls := "FindingAid$TextReader", name := "readDepth", desc := "(I)Z" } : Jvm.MethodName) prog_7_method_7_code (4 : Nat) (Option.some Jvm.ClassFile.FieldType.boolean)) ∈ zc_T := zc_in 545 (by decide +kernel) (by decide +kernel)
theorem zm_546 : (Jvm.Cond.methodLink "FindingAid$TextReader" (70 : Nat) ({ cls := "java/lang/Math", name := "min", desc := "(II)I" } : Jvm.MethodName)) ∈ zc_T := zc_in 546 (by decide +kernel) (by decide +kernel)
theorem zm_547 : (Jvm.Cond.static ({ cls := "java/lang/Math", name := "min", desc := "(II)I" } : Jvm.MethodName)) ∈ zc_T := zc_in 547 (by decide +kernel) (by decide +kernel)
theorem zm_548 : (Jvm.Cond.code ({ cls := "java/lang/Math", name := "min", desc := "(II)I" } : Jvm.MethodName) prog_12_method_69_code (2 : Nat) (Option.some Jvm.ClassFile.FieldType.int)) ∈ zc_T := zc_in 548 (by decide +kernel) (by decide +kernel)
theorem zm_549 : (Jvm.Cond.methodLink "FindingAid$TextReader" (76 : Nat) ({ cls := "FindingAid$TextReader", name := "ahead", desc := "(I)I" } : Jvm.MethodName)) ∈ zc_T := zc_in 549 (by decide +kernel) (by decide +kernel)
theorem zm_551 : (Jvm.Cond.instanceMethod ({ cls := "FindingAid$TextReader", name := "ahead", desc := "(I)I" } : Jvm.MethodName)) ∈ zc_T := zc_in 551 (by decide +kernel) (by decide +kernel)
theorem zm_552 : (Jvm.Cond.code ({ cls := "FindingAid$TextReader", name := "ahead", desc := "(I)I" } : Jvm.MethodName) prog_7_method_17_code (3 : Nat) (Option.some Jvm.ClassFile.FieldType.int)) ∈ zc_T := zc_in 552 (by decide +kernel) (by decide +kernel)
theorem zm_553 : (Jvm.Cond.methodLink "FindingAid$TextReader" (43 : Nat) ({ cls := "FindingAid$TextReader", name := "wrongAt", desc := "(I)Z" } : Jvm.MethodName)) ∈ zc_T := zc_in 553 (by decide +kernel) (by decide +kernel)
theorem zm_555 : (Jvm.Cond.instanceMethod ({ cls := "FindingAid$TextReader", name := "wrongAt", desc := "(I)Z" } : Jvm.MethodName)) ∈ zc_T := zc_in 555 (by decide +kernel) (by decide +kernel)
theorem zm_556 : (Jvm.Cond.code ({ cls := "FindingAid$TextReader", name := "wrongAt", desc := "(I)Z" } : Jvm.MethodName) prog_7_method_16_code (2 : Nat) (Option.some Jvm.ClassFile.FieldType.boolean)) ∈ zc_T := zc_in 556 (by decide +kernel) (by decide +kernel)
theorem zm_557 : (Jvm.Cond.methodLink "FindingAid$TextReader" (80 : Nat) ({ cls := "FindingAid$Levels", name := "addBare", desc := "(I)V" } : Jvm.MethodName)) ∈ zc_T := zc_in 557 (by decide +kernel) (by decide +kernel)
theorem zm_558 : (Jvm.Cond.instanceMethod ({ cls := "FindingAid$Levels", name := "addBare", desc := "(I)V" } : Jvm.MethodName)) ∈ zc_T := zc_in 558 (by decide +kernel) (by decide +kernel)
theorem zm_559 : (Jvm.Cond.selects "FindingAid$Levels" ({ cls := "FindingAid$Levels", name := "addBare", desc := "(I)V" } : Jvm.MethodName) ({ cls := "FindingAid$Levels", name := "addBare", desc := "(I)V" } : Jvm.MethodName)) ∈ zc_T := zc_in 559 (by decide +kernel) (by decide +kernel)
theorem zm_560 : (Jvm.Cond.code ({ cls := "FindingAid$Levels", name := "addBare", desc := "(I)V" } : Jvm.MethodName) prog_3_method_5_code (3 : Nat) (Option.none : Option Jvm.ClassFile.FieldType)) ∈ zc_T := zc_in 560 (by decide +kernel) (by decide +kernel)
theorem zm_561 : (Jvm.Cond.methodLink "FindingAid$Levels" (49 : Nat) ({ cls := "FindingAid$Levels", name := "latestOfDepth", desc := "(II)I" } : Jvm.MethodName)) ∈ zc_T := zc_in 561 (by decide +kernel) (by decide +kernel)
theorem zm_563 : (Jvm.Cond.instanceMethod ({ cls := "FindingAid$Levels", name := "latestOfDepth", desc := "(II)I" } : Jvm.MethodName)) ∈ zc_T := zc_in 563 (by decide +kernel) (by decide +kernel)
theorem zm_564 : (Jvm.Cond.code ({ cls := "FindingAid$Levels", name := "latestOfDepth", desc := "(II)I" } : Jvm.MethodName) prog_3_method_6_code (4 : Nat) (Option.some Jvm.ClassFile.FieldType.int)) ∈ zc_T := zc_in 564 (by decide +kernel) (by decide +kernel)
theorem zm_565 : (Jvm.Cond.methodLink "FindingAid$TextReader" (49 : Nat) ({ cls := "FindingAid$TextReader", name := "readKind", desc := "(I)Z" } : Jvm.MethodName)) ∈ zc_T := zc_in 565 (by decide +kernel) (by decide +kernel)
theorem zm_567 : (Jvm.Cond.instanceMethod ({ cls := "FindingAid$TextReader", name := "readKind", desc := "(I)Z" } : Jvm.MethodName)) ∈ zc_T := zc_in 567 (by decide +kernel) (by decide +kernel)
theorem zm_568 : (Jvm.Cond.code ({ cls := "FindingAid$TextReader", name := "readKind", desc := "(I)Z" } : Jvm.MethodName) prog_7_method_8_code (4 : Nat) (Option.some Jvm.ClassFile.FieldType.boolean)) ∈ zc_T := zc_in 568 (by decide +kernel) (by decide +kernel)
theorem zm_571 : (Jvm.Cond.static ({ cls := "FindingAid", name := "indexIn", desc := "([CI)I" } : Jvm.MethodName)) ∈ zc_T := zc_in 571 (by decide +kernel) (by decide +kernel)
theorem zm_572 : (Jvm.Cond.code ({ cls := "FindingAid", name := "indexIn", desc := "([CI)I" } : Jvm.MethodName) prog_1_method_26_code (3 : Nat) (Option.some Jvm.ClassFile.FieldType.int)) ∈ zc_T := zc_in 572 (by decide +kernel) (by decide +kernel)
theorem zm_573 : (Jvm.Cond.methodLink "FindingAid$TextReader" (95 : Nat) ({ cls := "FindingAid$Levels", name := "has", desc := "(I)Z" } : Jvm.MethodName)) ∈ zc_T := zc_in 573 (by decide +kernel) (by decide +kernel)
theorem zm_574 : (Jvm.Cond.methodLink "FindingAid$TextReader" (52 : Nat) ({ cls := "FindingAid$TextReader", name := "readNumber", desc := "(I)Z" } : Jvm.MethodName)) ∈ zc_T := zc_in 574 (by decide +kernel) (by decide +kernel)
theorem zm_576 : (Jvm.Cond.instanceMethod ({ cls := "FindingAid$TextReader", name := "readNumber", desc := "(I)Z" } : Jvm.MethodName)) ∈ zc_T := zc_in 576 (by decide +kernel) (by decide +kernel)
theorem zm_577 : (Jvm.Cond.code ({ cls := "FindingAid$TextReader", name := "readNumber", desc := "(I)Z" } : Jvm.MethodName) prog_7_method_9_code (2 : Nat) (Option.some Jvm.ClassFile.FieldType.boolean)) ∈ zc_T := zc_in 577 (by decide +kernel) (by decide +kernel)
theorem zm_578 : (Jvm.Cond.methodLink "FindingAid$TextReader" (104 : Nat) ({ cls := "FindingAid$TextReader", name := "readDigits", desc := "()I" } : Jvm.MethodName)) ∈ zc_T := zc_in 578 (by decide +kernel) (by decide +kernel)
theorem zm_580 : (Jvm.Cond.instanceMethod ({ cls := "FindingAid$TextReader", name := "readDigits", desc := "()I" } : Jvm.MethodName)) ∈ zc_T := zc_in 580 (by decide +kernel) (by decide +kernel)
theorem zm_581 : (Jvm.Cond.code ({ cls := "FindingAid$TextReader", name := "readDigits", desc := "()I" } : Jvm.MethodName) prog_7_method_13_code (4 : Nat) (Option.some Jvm.ClassFile.FieldType.int)) ∈ zc_T := zc_in 581 (by decide +kernel) (by decide +kernel)
theorem zm_582 : (Jvm.Cond.methodLink "FindingAid$TextReader" (139 : Nat) ({ cls := "FindingAid$TextReader", name := "isDigit", desc := "(I)Z" } : Jvm.MethodName)) ∈ zc_T := zc_in 582 (by decide +kernel) (by decide +kernel)
theorem zm_583 : (Jvm.Cond.static ({ cls := "FindingAid$TextReader", name := "isDigit", desc := "(I)Z" } : Jvm.MethodName)) ∈ zc_T := zc_in 583 (by decide +kernel) (by decide +kernel)
theorem zm_584 : (Jvm.Cond.code ({ cls := "FindingAid$TextReader", name := "isDigit", desc := "(I)Z" } : Jvm.MethodName) prog_7_method_18_code (1 : Nat) (Option.some Jvm.ClassFile.FieldType.boolean)) ∈ zc_T := zc_in 584 (by decide +kernel) (by decide +kernel)
theorem zm_585 : (Jvm.Cond.methodLink "FindingAid$TextReader" (55 : Nat) ({ cls := "FindingAid$TextReader", name := "readTitle", desc := "(I)Z" } : Jvm.MethodName)) ∈ zc_T := zc_in 585 (by decide +kernel) (by decide +kernel)
theorem zm_587 : (Jvm.Cond.instanceMethod ({ cls := "FindingAid$TextReader", name := "readTitle", desc := "(I)Z" } : Jvm.MethodName)) ∈ zc_T := zc_in 587 (by decide +kernel) (by decide +kernel)
theorem zm_588 : (Jvm.Cond.code ({ cls := "FindingAid$TextReader", name := "readTitle", desc := "(I)Z" } : Jvm.MethodName) prog_7_method_10_code (3 : Nat) (Option.some Jvm.ClassFile.FieldType.boolean)) ∈ zc_T := zc_in 588 (by decide +kernel) (by decide +kernel)
theorem zm_589 : (Jvm.Cond.methodLink "FindingAid$TextReader" (64 : Nat) ({ cls := "FindingAid$TextReader", name := "expect", desc := "(I)Z" } : Jvm.MethodName)) ∈ zc_T := zc_in 589 (by decide +kernel) (by decide +kernel)
theorem zm_591 : (Jvm.Cond.instanceMethod ({ cls := "FindingAid$TextReader", name := "expect", desc := "(I)Z" } : Jvm.MethodName)) ∈ zc_T := zc_in 591 (by decide +kernel) (by decide +kernel)
theorem zm_592 : (Jvm.Cond.code ({ cls := "FindingAid$TextReader", name := "expect", desc := "(I)Z" } : Jvm.MethodName) prog_7_method_15_code (2 : Nat) (Option.some Jvm.ClassFile.FieldType.boolean)) ∈ zc_T := zc_in 592 (by decide +kernel) (by decide +kernel)
theorem zm_593 : (Jvm.Cond.methodLink "FindingAid$TextReader" (108 : Nat) ({ cls := "FindingAid$TextReader", name := "isLetter", desc := "(I)Z" } : Jvm.MethodName)) ∈ zc_T := zc_in 593 (by decide +kernel) (by decide +kernel)
theorem zm_594 : (Jvm.Cond.static ({ cls := "FindingAid$TextReader", name := "isLetter", desc := "(I)Z" } : Jvm.MethodName)) ∈ zc_T := zc_in 594 (by decide +kernel) (by decide +kernel)
theorem zm_595 : (Jvm.Cond.code ({ cls := "FindingAid$TextReader", name := "isLetter", desc := "(I)Z" } : Jvm.MethodName) prog_7_method_19_code (1 : Nat) (Option.some Jvm.ClassFile.FieldType.boolean)) ∈ zc_T := zc_in 595 (by decide +kernel) (by decide +kernel)
theorem zm_596 : (Jvm.Cond.methodLink "FindingAid$TextReader" (111 : Nat) ({ cls := "FindingAid$Levels", name := "addTitleSign", desc := "(II)V" } : Jvm.MethodName)) ∈ zc_T := zc_in 596 (by decide +kernel) (by decide +kernel)
theorem zm_597 : (Jvm.Cond.methodLink "FindingAid$TextReader" (58 : Nat) ({ cls := "FindingAid$TextReader", name := "readDate", desc := "(I)Z" } : Jvm.MethodName)) ∈ zc_T := zc_in 597 (by decide +kernel) (by decide +kernel)
theorem zm_599 : (Jvm.Cond.instanceMethod ({ cls := "FindingAid$TextReader", name := "readDate", desc := "(I)Z" } : Jvm.MethodName)) ∈ zc_T := zc_in 599 (by decide +kernel) (by decide +kernel)
theorem zm_600 : (Jvm.Cond.code ({ cls := "FindingAid$TextReader", name := "readDate", desc := "(I)Z" } : Jvm.MethodName) prog_7_method_11_code (4 : Nat) (Option.some Jvm.ClassFile.FieldType.boolean)) ∈ zc_T := zc_in 600 (by decide +kernel) (by decide +kernel)
theorem zm_601 : (Jvm.Cond.methodLink "FindingAid$TextReader" (118 : Nat) ({ cls := "FindingAid$TextReader", name := "readYear", desc := "(I)I" } : Jvm.MethodName)) ∈ zc_T := zc_in 601 (by decide +kernel) (by decide +kernel)
theorem zm_603 : (Jvm.Cond.instanceMethod ({ cls := "FindingAid$TextReader", name := "readYear", desc := "(I)I" } : Jvm.MethodName)) ∈ zc_T := zc_in 603 (by decide +kernel) (by decide +kernel)
theorem zm_604 : (Jvm.Cond.code ({ cls := "FindingAid$TextReader", name := "readYear", desc := "(I)I" } : Jvm.MethodName) prog_7_method_14_code (5 : Nat) (Option.some Jvm.ClassFile.FieldType.int)) ∈ zc_T := zc_in 604 (by decide +kernel) (by decide +kernel)
theorem zm_605 : (Jvm.Cond.methodLink "FindingAid$TextReader" (61 : Nat) ({ cls := "FindingAid$TextReader", name := "readExtent", desc := "(I)Z" } : Jvm.MethodName)) ∈ zc_T := zc_in 605 (by decide +kernel) (by decide +kernel)
theorem zm_607 : (Jvm.Cond.instanceMethod ({ cls := "FindingAid$TextReader", name := "readExtent", desc := "(I)Z" } : Jvm.MethodName)) ∈ zc_T := zc_in 607 (by decide +kernel) (by decide +kernel)
theorem zm_608 : (Jvm.Cond.code ({ cls := "FindingAid$TextReader", name := "readExtent", desc := "(I)Z" } : Jvm.MethodName) prog_7_method_12_code (2 : Nat) (Option.some Jvm.ClassFile.FieldType.boolean)) ∈ zc_T := zc_in 608 (by decide +kernel) (by decide +kernel)
theorem zm_610 : (Jvm.Cond.classLink "FindingAid" (62 : Nat) "java/lang/IllegalStateException") ∈ zc_T := zc_in 610 (by decide +kernel) (by decide +kernel)
theorem zm_611 : (Jvm.Cond.instantiable "java/lang/IllegalStateException" (6 : Nat)) ∈ zc_T := zc_in 611 (by decide +kernel) (by decide +kernel)
theorem zm_619 : (Jvm.Cond.selects "java/lang/IllegalStateException" ({ cls := "java/lang/Throwable", name := "fillInStackTrace", desc := "(I)Ljava/lang/Throwable;" } : Jvm.MethodName) ({ cls := "java/lang/Throwable", name := "fillInStackTrace", desc := "(I)Ljava/lang/Throwable;" } : Jvm.MethodName)) ∈ zc_T := zc_in 619 (by decide +kernel) (by decide +kernel)
theorem zm_620 : (Jvm.Cond.selects "java/lang/IllegalStateException" ({ cls := "java/lang/Throwable", name := "fillInStackTrace", desc := "()Ljava/lang/Throwable;" } : Jvm.MethodName) ({ cls := "java/lang/Throwable", name := "fillInStackTrace", desc := "()Ljava/lang/Throwable;" } : Jvm.MethodName)) ∈ zc_T := zc_in 620 (by decide +kernel) (by decide +kernel)
theorem zm_631 : (Jvm.Cond.fieldLink "java/lang/Throwable" (198 : Nat) "java/lang/Throwable" "backtrace" "Ljava/lang/Object;") ∈ zc_T := zc_in 631 (by decide +kernel) (by decide +kernel)
theorem zm_633 : (Jvm.Cond.instanceMethod ({ cls := "java/lang/Throwable", name := "<init>", desc := "()V" } : Jvm.MethodName)) ∈ zc_T := zc_in 633 (by decide +kernel) (by decide +kernel)
theorem zm_634 : (Jvm.Cond.code ({ cls := "java/lang/Throwable", name := "<init>", desc := "()V" } : Jvm.MethodName) prog_15_method_1_code (1 : Nat) (Option.none : Option Jvm.ClassFile.FieldType)) ∈ zc_T := zc_in 634 (by decide +kernel) (by decide +kernel)
theorem zm_635 : (Jvm.Cond.methodLink "java/lang/Throwable" (1 : Nat) ({ cls := "java/lang/Object", name := "<init>", desc := "()V" } : Jvm.MethodName)) ∈ zc_T := zc_in 635 (by decide +kernel) (by decide +kernel)
theorem zm_636 : (Jvm.Cond.fieldLink "java/lang/Throwable" (13 : Nat) "java/lang/Throwable" "UNASSIGNED_STACK" "[Ljava/lang/StackTraceElement;") ∈ zc_T := zc_in 636 (by decide +kernel) (by decide +kernel)
theorem zm_638 : (Jvm.Cond.fieldLink "java/lang/Throwable" (20 : Nat) "java/lang/Throwable" "SUPPRESSED_SENTINEL" "Ljava/util/List;") ∈ zc_T := zc_in 638 (by decide +kernel) (by decide +kernel)
theorem zm_640 : (Jvm.Cond.methodLink "java/lang/Throwable" (27 : Nat) ({ cls := "java/lang/Throwable", name := "fillInStackTrace", desc := "()Ljava/lang/Throwable;" } : Jvm.MethodName)) ∈ zc_T := zc_in 640 (by decide +kernel) (by decide +kernel)
theorem zm_641 : (Jvm.Cond.instanceMethod ({ cls := "java/lang/Throwable", name := "fillInStackTrace", desc := "()Ljava/lang/Throwable;" } : Jvm.MethodName)) ∈ zc_T := zc_in 641 (by decide +kernel) (by decide +kernel)
theorem zm_644 : (Jvm.Cond.methodLink "java/lang/Throwable" (202 : Nat) ({ cls := "java/lang/Throwable", name := "fillInStackTrace", desc := "(I)Ljava/lang/Throwable;" } : Jvm.MethodName)) ∈ zc_T := zc_in 644 (by decide +kernel) (by decide +kernel)
theorem zm_646 : (Jvm.Cond.instanceMethod ({ cls := "java/lang/Throwable", name := "fillInStackTrace", desc := "(I)Ljava/lang/Throwable;" } : Jvm.MethodName)) ∈ zc_T := zc_in 646 (by decide +kernel) (by decide +kernel)
theorem zm_647 : (Jvm.Cond.instantiable "java/lang/Throwable" (6 : Nat)) ∈ zc_T := zc_in 647 (by decide +kernel) (by decide +kernel)
theorem zm_650 : (Jvm.Cond.methodLink "FindingAid" (66 : Nat) ({ cls := "java/lang/IllegalStateException", name := "<init>", desc := "(Ljava/lang/String;)V" } : Jvm.MethodName)) ∈ zc_T := zc_in 650 (by decide +kernel) (by decide +kernel)
theorem zm_651 : (Jvm.Cond.instanceMethod ({ cls := "java/lang/IllegalStateException", name := "<init>", desc := "(Ljava/lang/String;)V" } : Jvm.MethodName)) ∈ zc_T := zc_in 651 (by decide +kernel) (by decide +kernel)
theorem zm_652 : (Jvm.Cond.code ({ cls := "java/lang/IllegalStateException", name := "<init>", desc := "(Ljava/lang/String;)V" } : Jvm.MethodName) prog_11_method_2_code (2 : Nat) (Option.none : Option Jvm.ClassFile.FieldType)) ∈ zc_T := zc_in 652 (by decide +kernel) (by decide +kernel)
theorem zm_653 : (Jvm.Cond.methodLink "java/lang/IllegalStateException" (7 : Nat) ({ cls := "java/lang/RuntimeException", name := "<init>", desc := "(Ljava/lang/String;)V" } : Jvm.MethodName)) ∈ zc_T := zc_in 653 (by decide +kernel) (by decide +kernel)
theorem zm_654 : (Jvm.Cond.instanceMethod ({ cls := "java/lang/RuntimeException", name := "<init>", desc := "(Ljava/lang/String;)V" } : Jvm.MethodName)) ∈ zc_T := zc_in 654 (by decide +kernel) (by decide +kernel)
theorem zm_655 : (Jvm.Cond.code ({ cls := "java/lang/RuntimeException", name := "<init>", desc := "(Ljava/lang/String;)V" } : Jvm.MethodName) prog_13_method_2_code (2 : Nat) (Option.none : Option Jvm.ClassFile.FieldType)) ∈ zc_T := zc_in 655 (by decide +kernel) (by decide +kernel)
theorem zm_656 : (Jvm.Cond.methodLink "java/lang/RuntimeException" (7 : Nat) ({ cls := "java/lang/Exception", name := "<init>", desc := "(Ljava/lang/String;)V" } : Jvm.MethodName)) ∈ zc_T := zc_in 656 (by decide +kernel) (by decide +kernel)
theorem zm_657 : (Jvm.Cond.instanceMethod ({ cls := "java/lang/Exception", name := "<init>", desc := "(Ljava/lang/String;)V" } : Jvm.MethodName)) ∈ zc_T := zc_in 657 (by decide +kernel) (by decide +kernel)
theorem zm_658 : (Jvm.Cond.code ({ cls := "java/lang/Exception", name := "<init>", desc := "(Ljava/lang/String;)V" } : Jvm.MethodName) prog_10_method_2_code (2 : Nat) (Option.none : Option Jvm.ClassFile.FieldType)) ∈ zc_T := zc_in 658 (by decide +kernel) (by decide +kernel)
theorem zm_659 : (Jvm.Cond.methodLink "java/lang/Exception" (7 : Nat) ({ cls := "java/lang/Throwable", name := "<init>", desc := "(Ljava/lang/String;)V" } : Jvm.MethodName)) ∈ zc_T := zc_in 659 (by decide +kernel) (by decide +kernel)
theorem zm_660 : (Jvm.Cond.instanceMethod ({ cls := "java/lang/Throwable", name := "<init>", desc := "(Ljava/lang/String;)V" } : Jvm.MethodName)) ∈ zc_T := zc_in 660 (by decide +kernel) (by decide +kernel)
theorem zm_661 : (Jvm.Cond.code ({ cls := "java/lang/Throwable", name := "<init>", desc := "(Ljava/lang/String;)V" } : Jvm.MethodName) prog_15_method_2_code (2 : Nat) (Option.none : Option Jvm.ClassFile.FieldType)) ∈ zc_T := zc_in 661 (by decide +kernel) (by decide +kernel)
theorem zm_663 : (Jvm.Cond.fieldLink "java/lang/Throwable" (31 : Nat) "java/lang/Throwable" "detailMessage" "Ljava/lang/String;") ∈ zc_T := zc_in 663 (by decide +kernel) (by decide +kernel)
theorem zm_664 : (Jvm.Cond.fieldLink "java/lang/Throwable" (7 : Nat) "java/lang/Throwable" "cause" "Ljava/lang/Throwable;") ∈ zc_T := zc_in 664 (by decide +kernel) (by decide +kernel)
theorem zm_665 : (Jvm.Cond.fieldLink "java/lang/Throwable" (17 : Nat) "java/lang/Throwable" "stackTrace" "[Ljava/lang/StackTraceElement;") ∈ zc_T := zc_in 665 (by decide +kernel) (by decide +kernel)
theorem zm_666 : (Jvm.Cond.fieldLink "java/lang/Throwable" (24 : Nat) "java/lang/Throwable" "suppressedExceptions" "Ljava/util/List;") ∈ zc_T := zc_in 666 (by decide +kernel) (by decide +kernel)
theorem zm_675 : (Jvm.Cond.arrayClass Jvm.ClassFile.FieldType.byte) ∈ zc_T := zc_in 675 (by decide +kernel) (by decide +kernel)
theorem zm_676 : (Jvm.Cond.methodLink "FindingAid" (69 : Nat) ({ cls := "FindingAid$TextReader", name := "exchange", desc := "(LFindingAid$Levels;)LFindingAid$Levels;" } : Jvm.MethodName)) ∈ zc_T := zc_in 676 (by decide +kernel) (by decide +kernel)
theorem zm_677 : (Jvm.Cond.instanceMethod ({ cls := "FindingAid$TextReader", name := "exchange", desc := "(LFindingAid$Levels;)LFindingAid$Levels;" } : Jvm.MethodName)) ∈ zc_T := zc_in 677 (by decide +kernel) (by decide +kernel)
theorem zm_678 : (Jvm.Cond.selects "FindingAid$TextReader" ({ cls := "FindingAid$TextReader", name := "exchange", desc := "(LFindingAid$Levels;)LFindingAid$Levels;" } : Jvm.MethodName) ({ cls := "FindingAid$TextReader", name := "exchange", desc := "(LFindingAid$Levels;)LFindingAid$Levels;" } : Jvm.MethodName)) ∈ zc_T := zc_in 678 (by decide +kernel) (by decide +kernel)
theorem zm_679 : (Jvm.Cond.code ({ cls := "FindingAid$TextReader", name := "exchange", desc := "(LFindingAid$Levels;)LFindingAid$Levels;" } : Jvm.MethodName) prog_7_method_3_code (3 : Nat) (Option.some (Jvm.ClassFile.FieldType.object "FindingAid$Levels"))) ∈ zc_T := zc_in 679 (by decide +kernel) (by decide +kernel)
theorem zm_680 : (Jvm.Cond.methodLink "FindingAid" (73 : Nat) ({ cls := "FindingAid$Notes", name := "forget", desc := "()V" } : Jvm.MethodName)) ∈ zc_T := zc_in 680 (by decide +kernel) (by decide +kernel)
theorem zm_681 : (Jvm.Cond.instanceMethod ({ cls := "FindingAid$Notes", name := "forget", desc := "()V" } : Jvm.MethodName)) ∈ zc_T := zc_in 681 (by decide +kernel) (by decide +kernel)
theorem zm_682 : (Jvm.Cond.selects "FindingAid$Notes" ({ cls := "FindingAid$Notes", name := "forget", desc := "()V" } : Jvm.MethodName) ({ cls := "FindingAid$Notes", name := "forget", desc := "()V" } : Jvm.MethodName)) ∈ zc_T := zc_in 682 (by decide +kernel) (by decide +kernel)
theorem zm_683 : (Jvm.Cond.code ({ cls := "FindingAid$Notes", name := "forget", desc := "()V" } : Jvm.MethodName) prog_4_method_2_code (2 : Nat) (Option.none : Option Jvm.ClassFile.FieldType)) ∈ zc_T := zc_in 683 (by decide +kernel) (by decide +kernel)
theorem zm_684 : (Jvm.Cond.methodLink "FindingAid$Notes" (31 : Nat) ({ cls := "java/util/Arrays", name := "fill", desc := "([II)V" } : Jvm.MethodName)) ∈ zc_T := zc_in 684 (by decide +kernel) (by decide +kernel)
theorem zm_685 : (Jvm.Cond.methodLink "FindingAidLaw" (96 : Nat) ({ cls := "FindingAidLaw", name := "merge", desc := "(LFindingAid;[J)I" } : Jvm.MethodName)) ∈ zc_T := zc_in 685 (by decide +kernel) (by decide +kernel)
theorem zm_686 : (Jvm.Cond.static ({ cls := "FindingAidLaw", name := "merge", desc := "(LFindingAid;[J)I" } : Jvm.MethodName)) ∈ zc_T := zc_in 686 (by decide +kernel) (by decide +kernel)
theorem zm_688 : (Jvm.Cond.methodLink "FindingAidLaw" (15 : Nat) ({ cls := "FindingAid", name := "merge", desc := "()I" } : Jvm.MethodName)) ∈ zc_T := zc_in 688 (by decide +kernel) (by decide +kernel)
theorem zm_689 : (Jvm.Cond.instanceMethod ({ cls := "FindingAid", name := "merge", desc := "()I" } : Jvm.MethodName)) ∈ zc_T := zc_in 689 (by decide +kernel) (by decide +kernel)
theorem zm_690 : (Jvm.Cond.selects "FindingAid" ({ cls := "FindingAid", name := "merge", desc := "()I" } : Jvm.MethodName) ({ cls := "FindingAid", name := "merge", desc := "()I" } : Jvm.MethodName)) ∈ zc_T := zc_in 690 (by decide +kernel) (by decide +kernel)
theorem zm_691 : (Jvm.Cond.code ({ cls := "FindingAid", name := "merge", desc := "()I" } : Jvm.MethodName) prog_1_method_18_code (1 : Nat) (Option.some Jvm.ClassFile.FieldType.int)) ∈ zc_T := zc_in 691 (by decide +kernel) (by decide +kernel)
theorem zm_692 : (Jvm.Cond.methodLink "FindingAid" (186 : Nat) ({ cls := "FindingAid$Asks", name := "gather", desc := "(LFindingAid$Levels;LFindingAid$Levels;)V" } : Jvm.MethodName)) ∈ zc_T := zc_in 692 (by decide +kernel) (by decide +kernel)
theorem zm_693 : (Jvm.Cond.instanceMethod ({ cls := "FindingAid$Asks", name := "gather", desc := "(LFindingAid$Levels;LFindingAid$Levels;)V" } : Jvm.MethodName)) ∈ zc_T := zc_in 693 (by decide +kernel) (by decide +kernel)
theorem zm_694 : (Jvm.Cond.selects "FindingAid$Asks" ({ cls := "FindingAid$Asks", name := "gather", desc := "(LFindingAid$Levels;LFindingAid$Levels;)V" } : Jvm.MethodName) ({ cls := "FindingAid$Asks", name := "gather", desc := "(LFindingAid$Levels;LFindingAid$Levels;)V" } : Jvm.MethodName)) ∈ zc_T := zc_in 694 (by decide +kernel) (by decide +kernel)
theorem zm_695 : (Jvm.Cond.code ({ cls := "FindingAid$Asks", name := "gather", desc := "(LFindingAid$Levels;LFindingAid$Levels;)V" } : Jvm.MethodName) prog_2_method_3_code (6 : Nat) (Option.none : Option Jvm.ClassFile.FieldType)) ∈ zc_T := zc_in 695 (by decide +kernel) (by decide +kernel)
theorem zm_696 : (Jvm.Cond.methodLink "FindingAid$Asks" (36 : Nat) ({ cls := "FindingAid$Levels", name := "firstWithPathOf", desc := "(LFindingAid$Levels;I)I" } : Jvm.MethodName)) ∈ zc_T := zc_in 696 (by decide +kernel) (by decide +kernel)
theorem zm_697 : (Jvm.Cond.instanceMethod ({ cls := "FindingAid$Levels", name := "firstWithPathOf", desc := "(LFindingAid$Levels;I)I" } : Jvm.MethodName)) ∈ zc_T := zc_in 697 (by decide +kernel) (by decide +kernel)
theorem zm_698 : (Jvm.Cond.selects "FindingAid$Levels" ({ cls := "FindingAid$Levels", name := "firstWithPathOf", desc := "(LFindingAid$Levels;I)I" } : Jvm.MethodName) ({ cls := "FindingAid$Levels", name := "firstWithPathOf", desc := "(LFindingAid$Levels;I)I" } : Jvm.MethodName)) ∈ zc_T := zc_in 698 (by decide +kernel) (by decide +kernel)
theorem zm_699 : (Jvm.Cond.code ({ cls := "FindingAid$Levels", name := "firstWithPathOf", desc := "(LFindingAid$Levels;I)I" } : Jvm.MethodName) prog_3_method_16_code (4 : Nat) (Option.some Jvm.ClassFile.FieldType.int)) ∈ zc_T := zc_in 699 (by decide +kernel) (by decide +kernel)
theorem zm_700 : (Jvm.Cond.methodLink "FindingAid$Levels" (79 : Nat) ({ cls := "FindingAid$Levels", name := "hasPathOf", desc := "(ILFindingAid$Levels;I)Z" } : Jvm.MethodName)) ∈ zc_T := zc_in 700 (by decide +kernel) (by decide +kernel)
theorem zm_702 : (Jvm.Cond.instanceMethod ({ cls := "FindingAid$Levels", name := "hasPathOf", desc := "(ILFindingAid$Levels;I)Z" } : Jvm.MethodName)) ∈ zc_T := zc_in 702 (by decide +kernel) (by decide +kernel)
theorem zm_703 : (Jvm.Cond.code ({ cls := "FindingAid$Levels", name := "hasPathOf", desc := "(ILFindingAid$Levels;I)Z" } : Jvm.MethodName) prog_3_method_17_code (7 : Nat) (Option.some Jvm.ClassFile.FieldType.boolean)) ∈ zc_T := zc_in 703 (by decide +kernel) (by decide +kernel)
theorem zm_704 : (Jvm.Cond.methodLink "FindingAid$Asks" (40 : Nat) ({ cls := "FindingAid$Levels", name := "differenceBits", desc := "(ILFindingAid$Levels;I)I" } : Jvm.MethodName)) ∈ zc_T := zc_in 704 (by decide +kernel) (by decide +kernel)
theorem zm_705 : (Jvm.Cond.instanceMethod ({ cls := "FindingAid$Levels", name := "differenceBits", desc := "(ILFindingAid$Levels;I)I" } : Jvm.MethodName)) ∈ zc_T := zc_in 705 (by decide +kernel) (by decide +kernel)
theorem zm_706 : (Jvm.Cond.selects "FindingAid$Levels" ({ cls := "FindingAid$Levels", name := "differenceBits", desc := "(ILFindingAid$Levels;I)I" } : Jvm.MethodName) ({ cls := "FindingAid$Levels", name := "differenceBits", desc := "(ILFindingAid$Levels;I)I" } : Jvm.MethodName)) ∈ zc_T := zc_in 706 (by decide +kernel) (by decide +kernel)
theorem zm_707 : (Jvm.Cond.code ({ cls := "FindingAid$Levels", name := "differenceBits", desc := "(ILFindingAid$Levels;I)I" } : Jvm.MethodName) prog_3_method_18_code (5 : Nat) (Option.some Jvm.ClassFile.FieldType.int)) ∈ zc_T := zc_in 707 (by decide +kernel) (by decide +kernel)
theorem zm_708 : (Jvm.Cond.methodLink "FindingAid$Levels" (83 : Nat) ({ cls := "FindingAid$Levels", name := "hasTitleOf", desc := "(ILFindingAid$Levels;I)Z" } : Jvm.MethodName)) ∈ zc_T := zc_in 708 (by decide +kernel) (by decide +kernel)
theorem zm_710 : (Jvm.Cond.instanceMethod ({ cls := "FindingAid$Levels", name := "hasTitleOf", desc := "(ILFindingAid$Levels;I)Z" } : Jvm.MethodName)) ∈ zc_T := zc_in 710 (by decide +kernel) (by decide +kernel)
theorem zm_711 : (Jvm.Cond.code ({ cls := "FindingAid$Levels", name := "hasTitleOf", desc := "(ILFindingAid$Levels;I)Z" } : Jvm.MethodName) prog_3_method_19_code (5 : Nat) (Option.some Jvm.ClassFile.FieldType.boolean)) ∈ zc_T := zc_in 711 (by decide +kernel) (by decide +kernel)
theorem zm_712 : (Jvm.Cond.methodLink "FindingAid$Asks" (44 : Nat) ({ cls := "FindingAid$Asks", name := "add", desc := "(III)V" } : Jvm.MethodName)) ∈ zc_T := zc_in 712 (by decide +kernel) (by decide +kernel)
theorem zm_714 : (Jvm.Cond.instanceMethod ({ cls := "FindingAid$Asks", name := "add", desc := "(III)V" } : Jvm.MethodName)) ∈ zc_T := zc_in 714 (by decide +kernel) (by decide +kernel)
theorem zm_715 : (Jvm.Cond.code ({ cls := "FindingAid$Asks", name := "add", desc := "(III)V" } : Jvm.MethodName) prog_2_method_4_code (4 : Nat) (Option.none : Option Jvm.ClassFile.FieldType)) ∈ zc_T := zc_in 715 (by decide +kernel) (by decide +kernel)
theorem zm_716 : (Jvm.Cond.classLink "FindingAidLaw" (19 : Nat) "FindingAidModel") ∈ zc_T := zc_in 716 (by decide +kernel) (by decide +kernel)
theorem zm_717 : (Jvm.Cond.instantiable "FindingAidModel" (30 : Nat)) ∈ zc_T := zc_in 717 (by decide +kernel) (by decide +kernel)
theorem zm_718 : (Jvm.Cond.methodLink "FindingAidLaw" (21 : Nat) ({ cls := "FindingAidModel", name := "<init>", desc := "()V" } : Jvm.MethodName)) ∈ zc_T := zc_in 718 (by decide +kernel) (by decide +kernel)
theorem zm_719 : (Jvm.Cond.instanceMethod ({ cls := "FindingAidModel", name := "<init>", desc := "()V" } : Jvm.MethodName)) ∈ zc_T := zc_in 719 (by decide +kernel) (by decide +kernel)
theorem zm_720 : (Jvm.Cond.code ({ cls := "FindingAidModel", name := "<init>", desc := "()V" } : Jvm.MethodName) prog_9_method_1_code (1 : Nat) (Option.none : Option Jvm.ClassFile.FieldType)) ∈ zc_T := zc_in 720 (by decide +kernel) (by decide +kernel)
theorem zm_721 : (Jvm.Cond.methodLink "FindingAidModel" (1 : Nat) ({ cls := "java/lang/Object", name := "<init>", desc := "()V" } : Jvm.MethodName)) ∈ zc_T := zc_in 721 (by decide +kernel) (by decide +kernel)
theorem zm_722 : (Jvm.Cond.fieldLink "FindingAidModel" (79 : Nat) "FindingAidModel" "thrown" "I") ∈ zc_T := zc_in 722 (by decide +kernel) (by decide +kernel)
theorem zm_723 : (Jvm.Cond.fieldLink "FindingAidModel" (89 : Nat) "FindingAidModel" "size" "I") ∈ zc_T := zc_in 723 (by decide +kernel) (by decide +kernel)
theorem zm_724 : (Jvm.Cond.fieldLink "FindingAidModel" (7 : Nat) "FindingAidModel" "text" "[B") ∈ zc_T := zc_in 724 (by decide +kernel) (by decide +kernel)
theorem zm_725 : (Jvm.Cond.fieldLink "FindingAidModel" (13 : Nat) "FindingAidModel" "wrong" "I") ∈ zc_T := zc_in 725 (by decide +kernel) (by decide +kernel)
theorem zm_726 : (Jvm.Cond.fieldLink "FindingAidModel" (92 : Nat) "FindingAidModel" "at" "I") ∈ zc_T := zc_in 726 (by decide +kernel) (by decide +kernel)
theorem zm_727 : (Jvm.Cond.fieldLink "FindingAidModel" (82 : Nat) "FindingAidModel" "levels" "I") ∈ zc_T := zc_in 727 (by decide +kernel) (by decide +kernel)
theorem zm_728 : (Jvm.Cond.fieldLink "FindingAidModel" (133 : Nat) "FindingAidModel" "other" "I") ∈ zc_T := zc_in 728 (by decide +kernel) (by decide +kernel)
theorem zm_729 : (Jvm.Cond.fieldLink "FindingAidModel" (17 : Nat) "FindingAidModel" "kind" "[I") ∈ zc_T := zc_in 729 (by decide +kernel) (by decide +kernel)
theorem zm_730 : (Jvm.Cond.fieldLink "FindingAidModel" (21 : Nat) "FindingAidModel" "number" "[I") ∈ zc_T := zc_in 730 (by decide +kernel) (by decide +kernel)
theorem zm_731 : (Jvm.Cond.fieldLink "FindingAidModel" (24 : Nat) "FindingAidModel" "under" "[I") ∈ zc_T := zc_in 731 (by decide +kernel) (by decide +kernel)
theorem zm_732 : (Jvm.Cond.fieldLink "FindingAidModel" (27 : Nat) "FindingAidModel" "first" "[I") ∈ zc_T := zc_in 732 (by decide +kernel) (by decide +kernel)
theorem zm_733 : (Jvm.Cond.fieldLink "FindingAidModel" (30 : Nat) "FindingAidModel" "last" "[I") ∈ zc_T := zc_in 733 (by decide +kernel) (by decide +kernel)
theorem zm_734 : (Jvm.Cond.fieldLink "FindingAidModel" (33 : Nat) "FindingAidModel" "unsure" "[I") ∈ zc_T := zc_in 734 (by decide +kernel) (by decide +kernel)
theorem zm_735 : (Jvm.Cond.fieldLink "FindingAidModel" (36 : Nat) "FindingAidModel" "many" "[I") ∈ zc_T := zc_in 735 (by decide +kernel) (by decide +kernel)
theorem zm_736 : (Jvm.Cond.fieldLink "FindingAidModel" (39 : Nat) "FindingAidModel" "unit" "[I") ∈ zc_T := zc_in 736 (by decide +kernel) (by decide +kernel)
theorem zm_737 : (Jvm.Cond.fieldLink "FindingAidModel" (42 : Nat) "FindingAidModel" "letters" "[I") ∈ zc_T := zc_in 737 (by decide +kernel) (by decide +kernel)
theorem zm_738 : (Jvm.Cond.fieldLink "FindingAidModel" (45 : Nat) "FindingAidModel" "title" "[B") ∈ zc_T := zc_in 738 (by decide +kernel) (by decide +kernel)
theorem zm_739 : (Jvm.Cond.fieldLink "FindingAidModel" (48 : Nat) "FindingAidModel" "reasons" "[I") ∈ zc_T := zc_in 739 (by decide +kernel) (by decide +kernel)
theorem zm_740 : (Jvm.Cond.fieldLink "FindingAidModel" (51 : Nat) "FindingAidModel" "names" "[I") ∈ zc_T := zc_in 740 (by decide +kernel) (by decide +kernel)
theorem zm_741 : (Jvm.Cond.fieldLink "FindingAidModel" (54 : Nat) "FindingAidModel" "nameCount" "[I") ∈ zc_T := zc_in 741 (by decide +kernel) (by decide +kernel)
theorem zm_742 : (Jvm.Cond.fieldLink "FindingAidModel" (57 : Nat) "FindingAidModel" "moved" "[I") ∈ zc_T := zc_in 742 (by decide +kernel) (by decide +kernel)
theorem zm_743 : (Jvm.Cond.fieldLink "FindingAidModel" (60 : Nat) "FindingAidModel" "moves" "[I") ∈ zc_T := zc_in 743 (by decide +kernel) (by decide +kernel)
theorem zm_744 : (Jvm.Cond.fieldLink "FindingAidModel" (63 : Nat) "FindingAidModel" "hidden" "[Z") ∈ zc_T := zc_in 744 (by decide +kernel) (by decide +kernel)
theorem zm_745 : (Jvm.Cond.fieldLink "FindingAidModel" (171 : Nat) "FindingAidModel" "asks" "I") ∈ zc_T := zc_in 745 (by decide +kernel) (by decide +kernel)
theorem zm_746 : (Jvm.Cond.fieldLink "FindingAidModel" (67 : Nat) "FindingAidModel" "askLevel" "[I") ∈ zc_T := zc_in 746 (by decide +kernel) (by decide +kernel)
theorem zm_747 : (Jvm.Cond.fieldLink "FindingAidModel" (70 : Nat) "FindingAidModel" "askBits" "[I") ∈ zc_T := zc_in 747 (by decide +kernel) (by decide +kernel)
theorem zm_748 : (Jvm.Cond.fieldLink "FindingAidModel" (73 : Nat) "FindingAidModel" "taken" "[Z") ∈ zc_T := zc_in 748 (by decide +kernel) (by decide +kernel)
theorem zm_749 : (Jvm.Cond.fieldLink "FindingAidModel" (142 : Nat) "FindingAidModel" "fresh" "Z") ∈ zc_T := zc_in 749 (by decide +kernel) (by decide +kernel)
theorem zm_750 : (Jvm.Cond.fieldLink "FindingAidModel" (181 : Nat) "FindingAidModel" "printed" "I") ∈ zc_T := zc_in 750 (by decide +kernel) (by decide +kernel)
theorem zm_751 : (Jvm.Cond.fieldLink "FindingAidModel" (76 : Nat) "FindingAidModel" "signs" "[B") ∈ zc_T := zc_in 751 (by decide +kernel) (by decide +kernel)
theorem zm_813 : (Jvm.Cond.methodLink "FindingAidLaw" (33 : Nat) ({ cls := "FindingAidModel", name := "thrown", desc := "()I" } : Jvm.MethodName)) ∈ zc_T := zc_in 813 (by decide +kernel) (by decide +kernel)
theorem zm_814 : (Jvm.Cond.instanceMethod ({ cls := "FindingAidModel", name := "thrown", desc := "()I" } : Jvm.MethodName)) ∈ zc_T := zc_in 814 (by decide +kernel) (by decide +kernel)
theorem zm_815 : (Jvm.Cond.selects "FindingAidModel" ({ cls := "FindingAidModel", name := "thrown", desc := "()I" } : Jvm.MethodName) ({ cls := "FindingAidModel", name := "thrown", desc := "()I" } : Jvm.MethodName)) ∈ zc_T := zc_in 815 (by decide +kernel) (by decide +kernel)
theorem zm_816 : (Jvm.Cond.code ({ cls := "FindingAidModel", name := "thrown", desc := "()I" } : Jvm.MethodName) prog_9_method_2_code (1 : Nat) (Option.some Jvm.ClassFile.FieldType.int)) ∈ zc_T := zc_in 816 (by decide +kernel) (by decide +kernel)
theorem zm_817 : (Jvm.Cond.methodLink "FindingAidLaw" (26 : Nat) ({ cls := "FindingAidModel", name := "sign", desc := "(I)V" } : Jvm.MethodName)) ∈ zc_T := zc_in 817 (by decide +kernel) (by decide +kernel)
theorem zm_818 : (Jvm.Cond.instanceMethod ({ cls := "FindingAidModel", name := "sign", desc := "(I)V" } : Jvm.MethodName)) ∈ zc_T := zc_in 818 (by decide +kernel) (by decide +kernel)
theorem zm_819 : (Jvm.Cond.selects "FindingAidModel" ({ cls := "FindingAidModel", name := "sign", desc := "(I)V" } : Jvm.MethodName) ({ cls := "FindingAidModel", name := "sign", desc := "(I)V" } : Jvm.MethodName)) ∈ zc_T := zc_in 819 (by decide +kernel) (by decide +kernel)
theorem zm_820 : (Jvm.Cond.code ({ cls := "FindingAidModel", name := "sign", desc := "(I)V" } : Jvm.MethodName) prog_9_method_5_code (2 : Nat) (Option.none : Option Jvm.ClassFile.FieldType)) ∈ zc_T := zc_in 820 (by decide +kernel) (by decide +kernel)
theorem zm_821 : (Jvm.Cond.methodLink "FindingAidLaw" (32 : Nat) ({ cls := "FindingAidModel", name := "read", desc := "()I" } : Jvm.MethodName)) ∈ zc_T := zc_in 821 (by decide +kernel) (by decide +kernel)
theorem zm_822 : (Jvm.Cond.instanceMethod ({ cls := "FindingAidModel", name := "read", desc := "()I" } : Jvm.MethodName)) ∈ zc_T := zc_in 822 (by decide +kernel) (by decide +kernel)
theorem zm_823 : (Jvm.Cond.selects "FindingAidModel" ({ cls := "FindingAidModel", name := "read", desc := "()I" } : Jvm.MethodName) ({ cls := "FindingAidModel", name := "read", desc := "()I" } : Jvm.MethodName)) ∈ zc_T := zc_in 823 (by decide +kernel) (by decide +kernel)
theorem zm_824 : (Jvm.Cond.code ({ cls := "FindingAidModel", name := "read", desc := "()I" } : Jvm.MethodName) prog_9_method_20_code (3 : Nat) (Option.some Jvm.ClassFile.FieldType.int)) ∈ zc_T := zc_in 824 (by decide +kernel) (by decide +kernel)
theorem zm_825 : (Jvm.Cond.methodLink "FindingAidModel" (139 : Nat) ({ cls := "FindingAidModel", name := "reads", desc := "()Z" } : Jvm.MethodName)) ∈ zc_T := zc_in 825 (by decide +kernel) (by decide +kernel)
theorem zm_827 : (Jvm.Cond.instanceMethod ({ cls := "FindingAidModel", name := "reads", desc := "()Z" } : Jvm.MethodName)) ∈ zc_T := zc_in 827 (by decide +kernel) (by decide +kernel)
theorem zm_828 : (Jvm.Cond.code ({ cls := "FindingAidModel", name := "reads", desc := "()Z" } : Jvm.MethodName) prog_9_method_18_code (2 : Nat) (Option.some Jvm.ClassFile.FieldType.boolean)) ∈ zc_T := zc_in 828 (by decide +kernel) (by decide +kernel)
theorem zm_829 : (Jvm.Cond.methodLink "FindingAidModel" (136 : Nat) ({ cls := "FindingAidModel", name := "line", desc := "(I)Z" } : Jvm.MethodName)) ∈ zc_T := zc_in 829 (by decide +kernel) (by decide +kernel)
theorem zm_831 : (Jvm.Cond.instanceMethod ({ cls := "FindingAidModel", name := "line", desc := "(I)Z" } : Jvm.MethodName)) ∈ zc_T := zc_in 831 (by decide +kernel) (by decide +kernel)
theorem zm_832 : (Jvm.Cond.code ({ cls := "FindingAidModel", name := "line", desc := "(I)Z" } : Jvm.MethodName) prog_9_method_17_code (3 : Nat) (Option.some Jvm.ClassFile.FieldType.boolean)) ∈ zc_T := zc_in 832 (by decide +kernel) (by decide +kernel)
theorem zm_833 : (Jvm.Cond.methodLink "FindingAidModel" (121 : Nat) ({ cls := "FindingAidModel", name := "place", desc := "(I)Z" } : Jvm.MethodName)) ∈ zc_T := zc_in 833 (by decide +kernel) (by decide +kernel)
theorem zm_835 : (Jvm.Cond.instanceMethod ({ cls := "FindingAidModel", name := "place", desc := "(I)Z" } : Jvm.MethodName)) ∈ zc_T := zc_in 835 (by decide +kernel) (by decide +kernel)
theorem zm_836 : (Jvm.Cond.code ({ cls := "FindingAidModel", name := "place", desc := "(I)Z" } : Jvm.MethodName) prog_9_method_13_code (7 : Nat) (Option.some Jvm.ClassFile.FieldType.boolean)) ∈ zc_T := zc_in 836 (by decide +kernel) (by decide +kernel)
theorem zm_837 : (Jvm.Cond.methodLink "FindingAidModel" (103 : Nat) ({ cls := "FindingAidModel", name := "depth", desc := "(I)I" } : Jvm.MethodName)) ∈ zc_T := zc_in 837 (by decide +kernel) (by decide +kernel)
theorem zm_839 : (Jvm.Cond.instanceMethod ({ cls := "FindingAidModel", name := "depth", desc := "(I)I" } : Jvm.MethodName)) ∈ zc_T := zc_in 839 (by decide +kernel) (by decide +kernel)
theorem zm_840 : (Jvm.Cond.code ({ cls := "FindingAidModel", name := "depth", desc := "(I)I" } : Jvm.MethodName) prog_9_method_11_code (4 : Nat) (Option.some Jvm.ClassFile.FieldType.int)) ∈ zc_T := zc_in 840 (by decide +kernel) (by decide +kernel)
theorem zm_841 : (Jvm.Cond.methodLink "FindingAidModel" (95 : Nat) ({ cls := "FindingAidModel", name := "look", desc := "()I" } : Jvm.MethodName)) ∈ zc_T := zc_in 841 (by decide +kernel) (by decide +kernel)
theorem zm_843 : (Jvm.Cond.instanceMethod ({ cls := "FindingAidModel", name := "look", desc := "()I" } : Jvm.MethodName)) ∈ zc_T := zc_in 843 (by decide +kernel) (by decide +kernel)
theorem zm_844 : (Jvm.Cond.code ({ cls := "FindingAidModel", name := "look", desc := "()I" } : Jvm.MethodName) prog_9_method_6_code (1 : Nat) (Option.some Jvm.ClassFile.FieldType.int)) ∈ zc_T := zc_in 844 (by decide +kernel) (by decide +kernel)
theorem zm_845 : (Jvm.Cond.methodLink "FindingAidModel" (107 : Nat) ({ cls := "FindingAidModel", name := "kindOf", desc := "(I)I" } : Jvm.MethodName)) ∈ zc_T := zc_in 845 (by decide +kernel) (by decide +kernel)
theorem zm_846 : (Jvm.Cond.static ({ cls := "FindingAidModel", name := "kindOf", desc := "(I)I" } : Jvm.MethodName)) ∈ zc_T := zc_in 846 (by decide +kernel) (by decide +kernel)
theorem zm_847 : (Jvm.Cond.code ({ cls := "FindingAidModel", name := "kindOf", desc := "(I)I" } : Jvm.MethodName) prog_9_method_12_code (1 : Nat) (Option.some Jvm.ClassFile.FieldType.int)) ∈ zc_T := zc_in 847 (by decide +kernel) (by decide +kernel)
theorem zm_848 : (Jvm.Cond.methodLink "FindingAidModel" (118 : Nat) ({ cls := "FindingAidModel", name := "number", desc := "([II)Z" } : Jvm.MethodName)) ∈ zc_T := zc_in 848 (by decide +kernel) (by decide +kernel)
theorem zm_850 : (Jvm.Cond.instanceMethod ({ cls := "FindingAidModel", name := "number", desc := "([II)Z" } : Jvm.MethodName)) ∈ zc_T := zc_in 850 (by decide +kernel) (by decide +kernel)
theorem zm_851 : (Jvm.Cond.code ({ cls := "FindingAidModel", name := "number", desc := "([II)Z" } : Jvm.MethodName) prog_9_method_9_code (5 : Nat) (Option.some Jvm.ClassFile.FieldType.boolean)) ∈ zc_T := zc_in 851 (by decide +kernel) (by decide +kernel)
theorem zm_852 : (Jvm.Cond.methodLink "FindingAidModel" (99 : Nat) ({ cls := "FindingAidModel", name := "isDigit", desc := "()Z" } : Jvm.MethodName)) ∈ zc_T := zc_in 852 (by decide +kernel) (by decide +kernel)
theorem zm_854 : (Jvm.Cond.instanceMethod ({ cls := "FindingAidModel", name := "isDigit", desc := "()Z" } : Jvm.MethodName)) ∈ zc_T := zc_in 854 (by decide +kernel) (by decide +kernel)
theorem zm_855 : (Jvm.Cond.code ({ cls := "FindingAidModel", name := "isDigit", desc := "()Z" } : Jvm.MethodName) prog_9_method_7_code (1 : Nat) (Option.some Jvm.ClassFile.FieldType.boolean)) ∈ zc_T := zc_in 855 (by decide +kernel) (by decide +kernel)
theorem zm_856 : (Jvm.Cond.methodLink "FindingAidModel" (85 : Nat) ({ cls := "FindingAidModel", name := "in", desc := "(III)Z" } : Jvm.MethodName)) ∈ zc_T := zc_in 856 (by decide +kernel) (by decide +kernel)
theorem zm_857 : (Jvm.Cond.static ({ cls := "FindingAidModel", name := "in", desc := "(III)Z" } : Jvm.MethodName)) ∈ zc_T := zc_in 857 (by decide +kernel) (by decide +kernel)
theorem zm_858 : (Jvm.Cond.code ({ cls := "FindingAidModel", name := "in", desc := "(III)Z" } : Jvm.MethodName) prog_9_method_3_code (3 : Nat) (Option.some Jvm.ClassFile.FieldType.boolean)) ∈ zc_T := zc_in 858 (by decide +kernel) (by decide +kernel)
theorem zm_859 : (Jvm.Cond.methodLink "FindingAidModel" (114 : Nat) ({ cls := "FindingAidModel", name := "eat", desc := "(I)Z" } : Jvm.MethodName)) ∈ zc_T := zc_in 859 (by decide +kernel) (by decide +kernel)
theorem zm_861 : (Jvm.Cond.instanceMethod ({ cls := "FindingAidModel", name := "eat", desc := "(I)Z" } : Jvm.MethodName)) ∈ zc_T := zc_in 861 (by decide +kernel) (by decide +kernel)
theorem zm_862 : (Jvm.Cond.code ({ cls := "FindingAidModel", name := "eat", desc := "(I)Z" } : Jvm.MethodName) prog_9_method_8_code (2 : Nat) (Option.some Jvm.ClassFile.FieldType.boolean)) ∈ zc_T := zc_in 862 (by decide +kernel) (by decide +kernel)
theorem zm_863 : (Jvm.Cond.methodLink "FindingAidModel" (124 : Nat) ({ cls := "FindingAidModel", name := "titled", desc := "(I)Z" } : Jvm.MethodName)) ∈ zc_T := zc_in 863 (by decide +kernel) (by decide +kernel)
theorem zm_865 : (Jvm.Cond.instanceMethod ({ cls := "FindingAidModel", name := "titled", desc := "(I)Z" } : Jvm.MethodName)) ∈ zc_T := zc_in 865 (by decide +kernel) (by decide +kernel)
theorem zm_866 : (Jvm.Cond.code ({ cls := "FindingAidModel", name := "titled", desc := "(I)Z" } : Jvm.MethodName) prog_9_method_14_code (3 : Nat) (Option.some Jvm.ClassFile.FieldType.boolean)) ∈ zc_T := zc_in 866 (by decide +kernel) (by decide +kernel)
theorem zm_867 : (Jvm.Cond.methodLink "FindingAidModel" (127 : Nat) ({ cls := "FindingAidModel", name := "dated", desc := "(I)Z" } : Jvm.MethodName)) ∈ zc_T := zc_in 867 (by decide +kernel) (by decide +kernel)
theorem zm_869 : (Jvm.Cond.instanceMethod ({ cls := "FindingAidModel", name := "dated", desc := "(I)Z" } : Jvm.MethodName)) ∈ zc_T := zc_in 869 (by decide +kernel) (by decide +kernel)
theorem zm_870 : (Jvm.Cond.code ({ cls := "FindingAidModel", name := "dated", desc := "(I)Z" } : Jvm.MethodName) prog_9_method_15_code (2 : Nat) (Option.some Jvm.ClassFile.FieldType.boolean)) ∈ zc_T := zc_in 870 (by decide +kernel) (by decide +kernel)
theorem zm_871 : (Jvm.Cond.methodLink "FindingAidModel" (110 : Nat) ({ cls := "FindingAidModel", name := "year", desc := "([III)Z" } : Jvm.MethodName)) ∈ zc_T := zc_in 871 (by decide +kernel) (by decide +kernel)
theorem zm_873 : (Jvm.Cond.instanceMethod ({ cls := "FindingAidModel", name := "year", desc := "([III)Z" } : Jvm.MethodName)) ∈ zc_T := zc_in 873 (by decide +kernel) (by decide +kernel)
theorem zm_874 : (Jvm.Cond.code ({ cls := "FindingAidModel", name := "year", desc := "([III)Z" } : Jvm.MethodName) prog_9_method_10_code (7 : Nat) (Option.some Jvm.ClassFile.FieldType.boolean)) ∈ zc_T := zc_in 874 (by decide +kernel) (by decide +kernel)
theorem zm_875 : (Jvm.Cond.methodLink "FindingAidModel" (130 : Nat) ({ cls := "FindingAidModel", name := "extended", desc := "(I)Z" } : Jvm.MethodName)) ∈ zc_T := zc_in 875 (by decide +kernel) (by decide +kernel)
theorem zm_877 : (Jvm.Cond.instanceMethod ({ cls := "FindingAidModel", name := "extended", desc := "(I)Z" } : Jvm.MethodName)) ∈ zc_T := zc_in 877 (by decide +kernel) (by decide +kernel)
theorem zm_878 : (Jvm.Cond.code ({ cls := "FindingAidModel", name := "extended", desc := "(I)Z" } : Jvm.MethodName) prog_9_method_16_code (2 : Nat) (Option.some Jvm.ClassFile.FieldType.boolean)) ∈ zc_T := zc_in 878 (by decide +kernel) (by decide +kernel)
theorem zm_879 : (Jvm.Cond.methodLink "FindingAidModel" (146 : Nat) ({ cls := "FindingAidModel", name := "copy", desc := "(IIZ)V" } : Jvm.MethodName)) ∈ zc_T := zc_in 879 (by decide +kernel) (by decide +kernel)
theorem zm_881 : (Jvm.Cond.instanceMethod ({ cls := "FindingAidModel", name := "copy", desc := "(IIZ)V" } : Jvm.MethodName)) ∈ zc_T := zc_in 881 (by decide +kernel) (by decide +kernel)
theorem zm_882 : (Jvm.Cond.code ({ cls := "FindingAidModel", name := "copy", desc := "(IIZ)V" } : Jvm.MethodName) prog_9_method_19_code (5 : Nat) (Option.none : Option Jvm.ClassFile.FieldType)) ∈ zc_T := zc_in 882 (by decide +kernel) (by decide +kernel)
theorem zm_883 : (Jvm.Cond.methodLink "FindingAidLaw" (39 : Nat) ({ cls := "FindingAidModel", name := "place", desc := "()I" } : Jvm.MethodName)) ∈ zc_T := zc_in 883 (by decide +kernel) (by decide +kernel)
theorem zm_884 : (Jvm.Cond.instanceMethod ({ cls := "FindingAidModel", name := "place", desc := "()I" } : Jvm.MethodName)) ∈ zc_T := zc_in 884 (by decide +kernel) (by decide +kernel)
theorem zm_885 : (Jvm.Cond.selects "FindingAidModel" ({ cls := "FindingAidModel", name := "place", desc := "()I" } : Jvm.MethodName) ({ cls := "FindingAidModel", name := "place", desc := "()I" } : Jvm.MethodName)) ∈ zc_T := zc_in 885 (by decide +kernel) (by decide +kernel)
theorem zm_886 : (Jvm.Cond.code ({ cls := "FindingAidModel", name := "place", desc := "()I" } : Jvm.MethodName) prog_9_method_21_code (1 : Nat) (Option.some Jvm.ClassFile.FieldType.int)) ∈ zc_T := zc_in 886 (by decide +kernel) (by decide +kernel)
theorem zm_887 : (Jvm.Cond.methodLink "FindingAidLaw" (44 : Nat) ({ cls := "FindingAidModel", name := "level", desc := "(II)I" } : Jvm.MethodName)) ∈ zc_T := zc_in 887 (by decide +kernel) (by decide +kernel)
theorem zm_888 : (Jvm.Cond.instanceMethod ({ cls := "FindingAidModel", name := "level", desc := "(II)I" } : Jvm.MethodName)) ∈ zc_T := zc_in 888 (by decide +kernel) (by decide +kernel)
theorem zm_889 : (Jvm.Cond.selects "FindingAidModel" ({ cls := "FindingAidModel", name := "level", desc := "(II)I" } : Jvm.MethodName) ({ cls := "FindingAidModel", name := "level", desc := "(II)I" } : Jvm.MethodName)) ∈ zc_T := zc_in 889 (by decide +kernel) (by decide +kernel)
theorem zm_890 : (Jvm.Cond.code ({ cls := "FindingAidModel", name := "level", desc := "(II)I" } : Jvm.MethodName) prog_9_method_22_code (3 : Nat) (Option.some Jvm.ClassFile.FieldType.int)) ∈ zc_T := zc_in 890 (by decide +kernel) (by decide +kernel)
theorem zm_891 : (Jvm.Cond.methodLink "FindingAidModel" (150 : Nat) ({ cls := "FindingAidModel", name := "isLevel", desc := "(I)Z" } : Jvm.MethodName)) ∈ zc_T := zc_in 891 (by decide +kernel) (by decide +kernel)
theorem zm_893 : (Jvm.Cond.instanceMethod ({ cls := "FindingAidModel", name := "isLevel", desc := "(I)Z" } : Jvm.MethodName)) ∈ zc_T := zc_in 893 (by decide +kernel) (by decide +kernel)
theorem zm_894 : (Jvm.Cond.code ({ cls := "FindingAidModel", name := "isLevel", desc := "(I)Z" } : Jvm.MethodName) prog_9_method_4_code (2 : Nat) (Option.some Jvm.ClassFile.FieldType.boolean)) ∈ zc_T := zc_in 894 (by decide +kernel) (by decide +kernel)
theorem zm_895 : (Jvm.Cond.methodLink "FindingAidLaw" (48 : Nat) ({ cls := "FindingAidModel", name := "letter", desc := "(II)I" } : Jvm.MethodName)) ∈ zc_T := zc_in 895 (by decide +kernel) (by decide +kernel)
theorem zm_896 : (Jvm.Cond.instanceMethod ({ cls := "FindingAidModel", name := "letter", desc := "(II)I" } : Jvm.MethodName)) ∈ zc_T := zc_in 896 (by decide +kernel) (by decide +kernel)
theorem zm_897 : (Jvm.Cond.selects "FindingAidModel" ({ cls := "FindingAidModel", name := "letter", desc := "(II)I" } : Jvm.MethodName) ({ cls := "FindingAidModel", name := "letter", desc := "(II)I" } : Jvm.MethodName)) ∈ zc_T := zc_in 897 (by decide +kernel) (by decide +kernel)
theorem zm_898 : (Jvm.Cond.code ({ cls := "FindingAidModel", name := "letter", desc := "(II)I" } : Jvm.MethodName) prog_9_method_23_code (3 : Nat) (Option.some Jvm.ClassFile.FieldType.int)) ∈ zc_T := zc_in 898 (by decide +kernel) (by decide +kernel)
theorem zm_899 : (Jvm.Cond.methodLink "FindingAidLaw" (52 : Nat) ({ cls := "FindingAidModel", name := "compare", desc := "(II)I" } : Jvm.MethodName)) ∈ zc_T := zc_in 899 (by decide +kernel) (by decide +kernel)
theorem zm_900 : (Jvm.Cond.instanceMethod ({ cls := "FindingAidModel", name := "compare", desc := "(II)I" } : Jvm.MethodName)) ∈ zc_T := zc_in 900 (by decide +kernel) (by decide +kernel)
theorem zm_901 : (Jvm.Cond.selects "FindingAidModel" ({ cls := "FindingAidModel", name := "compare", desc := "(II)I" } : Jvm.MethodName) ({ cls := "FindingAidModel", name := "compare", desc := "(II)I" } : Jvm.MethodName)) ∈ zc_T := zc_in 901 (by decide +kernel) (by decide +kernel)
theorem zm_902 : (Jvm.Cond.code ({ cls := "FindingAidModel", name := "compare", desc := "(II)I" } : Jvm.MethodName) prog_9_method_24_code (4 : Nat) (Option.some Jvm.ClassFile.FieldType.int)) ∈ zc_T := zc_in 902 (by decide +kernel) (by decide +kernel)
theorem zm_903 : (Jvm.Cond.methodLink "FindingAidLaw" (56 : Nat) ({ cls := "FindingAidModel", name := "extent", desc := "(II)I" } : Jvm.MethodName)) ∈ zc_T := zc_in 903 (by decide +kernel) (by decide +kernel)
theorem zm_904 : (Jvm.Cond.instanceMethod ({ cls := "FindingAidModel", name := "extent", desc := "(II)I" } : Jvm.MethodName)) ∈ zc_T := zc_in 904 (by decide +kernel) (by decide +kernel)
theorem zm_905 : (Jvm.Cond.selects "FindingAidModel" ({ cls := "FindingAidModel", name := "extent", desc := "(II)I" } : Jvm.MethodName) ({ cls := "FindingAidModel", name := "extent", desc := "(II)I" } : Jvm.MethodName)) ∈ zc_T := zc_in 905 (by decide +kernel) (by decide +kernel)
theorem zm_906 : (Jvm.Cond.code ({ cls := "FindingAidModel", name := "extent", desc := "(II)I" } : Jvm.MethodName) prog_9_method_28_code (3 : Nat) (Option.some Jvm.ClassFile.FieldType.int)) ∈ zc_T := zc_in 906 (by decide +kernel) (by decide +kernel)
theorem zm_907 : (Jvm.Cond.methodLink "FindingAidModel" (157 : Nat) ({ cls := "FindingAidModel", name := "sum", desc := "(IIZ)I" } : Jvm.MethodName)) ∈ zc_T := zc_in 907 (by decide +kernel) (by decide +kernel)
theorem zm_909 : (Jvm.Cond.instanceMethod ({ cls := "FindingAidModel", name := "sum", desc := "(IIZ)I" } : Jvm.MethodName)) ∈ zc_T := zc_in 909 (by decide +kernel) (by decide +kernel)
theorem zm_910 : (Jvm.Cond.code ({ cls := "FindingAidModel", name := "sum", desc := "(IIZ)I" } : Jvm.MethodName) prog_9_method_27_code (6 : Nat) (Option.some Jvm.ClassFile.FieldType.int)) ∈ zc_T := zc_in 910 (by decide +kernel) (by decide +kernel)
theorem zm_911 : (Jvm.Cond.methodLink "FindingAidModel" (153 : Nat) ({ cls := "FindingAidModel", name := "counts", desc := "(IIIZ)Z" } : Jvm.MethodName)) ∈ zc_T := zc_in 911 (by decide +kernel) (by decide +kernel)
theorem zm_913 : (Jvm.Cond.instanceMethod ({ cls := "FindingAidModel", name := "counts", desc := "(IIIZ)Z" } : Jvm.MethodName)) ∈ zc_T := zc_in 913 (by decide +kernel) (by decide +kernel)
theorem zm_914 : (Jvm.Cond.code ({ cls := "FindingAidModel", name := "counts", desc := "(IIIZ)Z" } : Jvm.MethodName) prog_9_method_26_code (7 : Nat) (Option.some Jvm.ClassFile.FieldType.boolean)) ∈ zc_T := zc_in 914 (by decide +kernel) (by decide +kernel)
theorem zm_915 : (Jvm.Cond.methodLink "FindingAidLaw" (61 : Nat) ({ cls := "FindingAidModel", name := "differ", desc := "(I)I" } : Jvm.MethodName)) ∈ zc_T := zc_in 915 (by decide +kernel) (by decide +kernel)
theorem zm_916 : (Jvm.Cond.instanceMethod ({ cls := "FindingAidModel", name := "differ", desc := "(I)I" } : Jvm.MethodName)) ∈ zc_T := zc_in 916 (by decide +kernel) (by decide +kernel)
theorem zm_917 : (Jvm.Cond.selects "FindingAidModel" ({ cls := "FindingAidModel", name := "differ", desc := "(I)I" } : Jvm.MethodName) ({ cls := "FindingAidModel", name := "differ", desc := "(I)I" } : Jvm.MethodName)) ∈ zc_T := zc_in 917 (by decide +kernel) (by decide +kernel)
theorem zm_918 : (Jvm.Cond.code ({ cls := "FindingAidModel", name := "differ", desc := "(I)I" } : Jvm.MethodName) prog_9_method_29_code (5 : Nat) (Option.some Jvm.ClassFile.FieldType.int)) ∈ zc_T := zc_in 918 (by decide +kernel) (by decide +kernel)
theorem zm_919 : (Jvm.Cond.methodLink "FindingAidLaw" (65 : Nat) ({ cls := "FindingAidModel", name := "twice", desc := "(I)I" } : Jvm.MethodName)) ∈ zc_T := zc_in 919 (by decide +kernel) (by decide +kernel)
theorem zm_920 : (Jvm.Cond.instanceMethod ({ cls := "FindingAidModel", name := "twice", desc := "(I)I" } : Jvm.MethodName)) ∈ zc_T := zc_in 920 (by decide +kernel) (by decide +kernel)
theorem zm_921 : (Jvm.Cond.selects "FindingAidModel" ({ cls := "FindingAidModel", name := "twice", desc := "(I)I" } : Jvm.MethodName) ({ cls := "FindingAidModel", name := "twice", desc := "(I)I" } : Jvm.MethodName)) ∈ zc_T := zc_in 921 (by decide +kernel) (by decide +kernel)
theorem zm_922 : (Jvm.Cond.code ({ cls := "FindingAidModel", name := "twice", desc := "(I)I" } : Jvm.MethodName) prog_9_method_30_code (6 : Nat) (Option.some Jvm.ClassFile.FieldType.int)) ∈ zc_T := zc_in 922 (by decide +kernel) (by decide +kernel)
theorem zm_923 : (Jvm.Cond.methodLink "FindingAidLaw" (70 : Nat) ({ cls := "FindingAidModel", name := "restrict", desc := "(III)I" } : Jvm.MethodName)) ∈ zc_T := zc_in 923 (by decide +kernel) (by decide +kernel)
theorem zm_924 : (Jvm.Cond.instanceMethod ({ cls := "FindingAidModel", name := "restrict", desc := "(III)I" } : Jvm.MethodName)) ∈ zc_T := zc_in 924 (by decide +kernel) (by decide +kernel)
theorem zm_925 : (Jvm.Cond.selects "FindingAidModel" ({ cls := "FindingAidModel", name := "restrict", desc := "(III)I" } : Jvm.MethodName) ({ cls := "FindingAidModel", name := "restrict", desc := "(III)I" } : Jvm.MethodName)) ∈ zc_T := zc_in 925 (by decide +kernel) (by decide +kernel)
theorem zm_926 : (Jvm.Cond.code ({ cls := "FindingAidModel", name := "restrict", desc := "(III)I" } : Jvm.MethodName) prog_9_method_31_code (4 : Nat) (Option.some Jvm.ClassFile.FieldType.int)) ∈ zc_T := zc_in 926 (by decide +kernel) (by decide +kernel)
theorem zm_927 : (Jvm.Cond.methodLink "FindingAidLaw" (74 : Nat) ({ cls := "FindingAidModel", name := "restricted", desc := "(II)I" } : Jvm.MethodName)) ∈ zc_T := zc_in 927 (by decide +kernel) (by decide +kernel)
theorem zm_928 : (Jvm.Cond.instanceMethod ({ cls := "FindingAidModel", name := "restricted", desc := "(II)I" } : Jvm.MethodName)) ∈ zc_T := zc_in 928 (by decide +kernel) (by decide +kernel)
theorem zm_929 : (Jvm.Cond.selects "FindingAidModel" ({ cls := "FindingAidModel", name := "restricted", desc := "(II)I" } : Jvm.MethodName) ({ cls := "FindingAidModel", name := "restricted", desc := "(II)I" } : Jvm.MethodName)) ∈ zc_T := zc_in 929 (by decide +kernel) (by decide +kernel)
theorem zm_930 : (Jvm.Cond.code ({ cls := "FindingAidModel", name := "restricted", desc := "(II)I" } : Jvm.MethodName) prog_9_method_32_code (4 : Nat) (Option.some Jvm.ClassFile.FieldType.int)) ∈ zc_T := zc_in 930 (by decide +kernel) (by decide +kernel)
theorem zm_931 : (Jvm.Cond.methodLink "FindingAidLaw" (78 : Nat) ({ cls := "FindingAidModel", name := "name", desc := "(II)I" } : Jvm.MethodName)) ∈ zc_T := zc_in 931 (by decide +kernel) (by decide +kernel)
theorem zm_932 : (Jvm.Cond.instanceMethod ({ cls := "FindingAidModel", name := "name", desc := "(II)I" } : Jvm.MethodName)) ∈ zc_T := zc_in 932 (by decide +kernel) (by decide +kernel)
theorem zm_933 : (Jvm.Cond.selects "FindingAidModel" ({ cls := "FindingAidModel", name := "name", desc := "(II)I" } : Jvm.MethodName) ({ cls := "FindingAidModel", name := "name", desc := "(II)I" } : Jvm.MethodName)) ∈ zc_T := zc_in 933 (by decide +kernel) (by decide +kernel)
theorem zm_934 : (Jvm.Cond.code ({ cls := "FindingAidModel", name := "name", desc := "(II)I" } : Jvm.MethodName) prog_9_method_34_code (3 : Nat) (Option.some Jvm.ClassFile.FieldType.int)) ∈ zc_T := zc_in 934 (by decide +kernel) (by decide +kernel)
theorem zm_935 : (Jvm.Cond.methodLink "FindingAidModel" (161 : Nat) ({ cls := "FindingAidModel", name := "hasName", desc := "(II)Z" } : Jvm.MethodName)) ∈ zc_T := zc_in 935 (by decide +kernel) (by decide +kernel)
theorem zm_937 : (Jvm.Cond.instanceMethod ({ cls := "FindingAidModel", name := "hasName", desc := "(II)Z" } : Jvm.MethodName)) ∈ zc_T := zc_in 937 (by decide +kernel) (by decide +kernel)
theorem zm_938 : (Jvm.Cond.code ({ cls := "FindingAidModel", name := "hasName", desc := "(II)Z" } : Jvm.MethodName) prog_9_method_33_code (5 : Nat) (Option.some Jvm.ClassFile.FieldType.boolean)) ∈ zc_T := zc_in 938 (by decide +kernel) (by decide +kernel)
theorem zm_939 : (Jvm.Cond.methodLink "FindingAidLaw" (82 : Nat) ({ cls := "FindingAidModel", name := "named", desc := "(II)I" } : Jvm.MethodName)) ∈ zc_T := zc_in 939 (by decide +kernel) (by decide +kernel)
theorem zm_940 : (Jvm.Cond.instanceMethod ({ cls := "FindingAidModel", name := "named", desc := "(II)I" } : Jvm.MethodName)) ∈ zc_T := zc_in 940 (by decide +kernel) (by decide +kernel)
theorem zm_941 : (Jvm.Cond.selects "FindingAidModel" ({ cls := "FindingAidModel", name := "named", desc := "(II)I" } : Jvm.MethodName) ({ cls := "FindingAidModel", name := "named", desc := "(II)I" } : Jvm.MethodName)) ∈ zc_T := zc_in 941 (by decide +kernel) (by decide +kernel)
theorem zm_942 : (Jvm.Cond.code ({ cls := "FindingAidModel", name := "named", desc := "(II)I" } : Jvm.MethodName) prog_9_method_35_code (5 : Nat) (Option.some Jvm.ClassFile.FieldType.int)) ∈ zc_T := zc_in 942 (by decide +kernel) (by decide +kernel)
theorem zm_943 : (Jvm.Cond.methodLink "FindingAidLaw" (86 : Nat) ({ cls := "FindingAidModel", name := "move", desc := "(II)I" } : Jvm.MethodName)) ∈ zc_T := zc_in 943 (by decide +kernel) (by decide +kernel)
theorem zm_944 : (Jvm.Cond.instanceMethod ({ cls := "FindingAidModel", name := "move", desc := "(II)I" } : Jvm.MethodName)) ∈ zc_T := zc_in 944 (by decide +kernel) (by decide +kernel)
theorem zm_945 : (Jvm.Cond.selects "FindingAidModel" ({ cls := "FindingAidModel", name := "move", desc := "(II)I" } : Jvm.MethodName) ({ cls := "FindingAidModel", name := "move", desc := "(II)I" } : Jvm.MethodName)) ∈ zc_T := zc_in 945 (by decide +kernel) (by decide +kernel)
theorem zm_946 : (Jvm.Cond.code ({ cls := "FindingAidModel", name := "move", desc := "(II)I" } : Jvm.MethodName) prog_9_method_36_code (6 : Nat) (Option.some Jvm.ClassFile.FieldType.int)) ∈ zc_T := zc_in 946 (by decide +kernel) (by decide +kernel)
theorem zm_947 : (Jvm.Cond.methodLink "FindingAidModel" (165 : Nat) ({ cls := "FindingAidModel", name := "lies", desc := "(II)Z" } : Jvm.MethodName)) ∈ zc_T := zc_in 947 (by decide +kernel) (by decide +kernel)
theorem zm_949 : (Jvm.Cond.instanceMethod ({ cls := "FindingAidModel", name := "lies", desc := "(II)Z" } : Jvm.MethodName)) ∈ zc_T := zc_in 949 (by decide +kernel) (by decide +kernel)
theorem zm_950 : (Jvm.Cond.code ({ cls := "FindingAidModel", name := "lies", desc := "(II)Z" } : Jvm.MethodName) prog_9_method_25_code (4 : Nat) (Option.some Jvm.ClassFile.FieldType.boolean)) ∈ zc_T := zc_in 950 (by decide +kernel) (by decide +kernel)
theorem zm_951 : (Jvm.Cond.methodLink "FindingAidLaw" (90 : Nat) ({ cls := "FindingAidModel", name := "was", desc := "(II)I" } : Jvm.MethodName)) ∈ zc_T := zc_in 951 (by decide +kernel) (by decide +kernel)
theorem zm_952 : (Jvm.Cond.instanceMethod ({ cls := "FindingAidModel", name := "was", desc := "(II)I" } : Jvm.MethodName)) ∈ zc_T := zc_in 952 (by decide +kernel) (by decide +kernel)
theorem zm_953 : (Jvm.Cond.selects "FindingAidModel" ({ cls := "FindingAidModel", name := "was", desc := "(II)I" } : Jvm.MethodName) ({ cls := "FindingAidModel", name := "was", desc := "(II)I" } : Jvm.MethodName)) ∈ zc_T := zc_in 953 (by decide +kernel) (by decide +kernel)
theorem zm_954 : (Jvm.Cond.code ({ cls := "FindingAidModel", name := "was", desc := "(II)I" } : Jvm.MethodName) prog_9_method_37_code (3 : Nat) (Option.some Jvm.ClassFile.FieldType.int)) ∈ zc_T := zc_in 954 (by decide +kernel) (by decide +kernel)
theorem zm_955 : (Jvm.Cond.methodLink "FindingAidLaw" (95 : Nat) ({ cls := "FindingAidModel", name := "published", desc := "(IZ)I" } : Jvm.MethodName)) ∈ zc_T := zc_in 955 (by decide +kernel) (by decide +kernel)
theorem zm_956 : (Jvm.Cond.instanceMethod ({ cls := "FindingAidModel", name := "published", desc := "(IZ)I" } : Jvm.MethodName)) ∈ zc_T := zc_in 956 (by decide +kernel) (by decide +kernel)
theorem zm_957 : (Jvm.Cond.selects "FindingAidModel" ({ cls := "FindingAidModel", name := "published", desc := "(IZ)I" } : Jvm.MethodName) ({ cls := "FindingAidModel", name := "published", desc := "(IZ)I" } : Jvm.MethodName)) ∈ zc_T := zc_in 957 (by decide +kernel) (by decide +kernel)
theorem zm_958 : (Jvm.Cond.code ({ cls := "FindingAidModel", name := "published", desc := "(IZ)I" } : Jvm.MethodName) prog_9_method_39_code (3 : Nat) (Option.some Jvm.ClassFile.FieldType.int)) ∈ zc_T := zc_in 958 (by decide +kernel) (by decide +kernel)
theorem zm_959 : (Jvm.Cond.methodLink "FindingAidModel" (168 : Nat) ({ cls := "FindingAidModel", name := "isShown", desc := "(I)Z" } : Jvm.MethodName)) ∈ zc_T := zc_in 959 (by decide +kernel) (by decide +kernel)
theorem zm_961 : (Jvm.Cond.instanceMethod ({ cls := "FindingAidModel", name := "isShown", desc := "(I)Z" } : Jvm.MethodName)) ∈ zc_T := zc_in 961 (by decide +kernel) (by decide +kernel)
theorem zm_962 : (Jvm.Cond.code ({ cls := "FindingAidModel", name := "isShown", desc := "(I)Z" } : Jvm.MethodName) prog_9_method_38_code (4 : Nat) (Option.some Jvm.ClassFile.FieldType.boolean)) ∈ zc_T := zc_in 962 (by decide +kernel) (by decide +kernel)
theorem zm_963 : (Jvm.Cond.methodLink "FindingAidLaw" (98 : Nat) ({ cls := "FindingAidModel", name := "merge", desc := "()I" } : Jvm.MethodName)) ∈ zc_T := zc_in 963 (by decide +kernel) (by decide +kernel)
theorem zm_964 : (Jvm.Cond.instanceMethod ({ cls := "FindingAidModel", name := "merge", desc := "()I" } : Jvm.MethodName)) ∈ zc_T := zc_in 964 (by decide +kernel) (by decide +kernel)
theorem zm_965 : (Jvm.Cond.selects "FindingAidModel" ({ cls := "FindingAidModel", name := "merge", desc := "()I" } : Jvm.MethodName) ({ cls := "FindingAidModel", name := "merge", desc := "()I" } : Jvm.MethodName)) ∈ zc_T := zc_in 965 (by decide +kernel) (by decide +kernel)
theorem zm_966 : (Jvm.Cond.code ({ cls := "FindingAidModel", name := "merge", desc := "()I" } : Jvm.MethodName) prog_9_method_42_code (3 : Nat) (Option.some Jvm.ClassFile.FieldType.int)) ∈ zc_T := zc_in 966 (by decide +kernel) (by decide +kernel)
theorem zm_967 : (Jvm.Cond.methodLink "FindingAidModel" (174 : Nat) ({ cls := "FindingAidModel", name := "samePath", desc := "(II)Z" } : Jvm.MethodName)) ∈ zc_T := zc_in 967 (by decide +kernel) (by decide +kernel)
theorem zm_969 : (Jvm.Cond.instanceMethod ({ cls := "FindingAidModel", name := "samePath", desc := "(II)Z" } : Jvm.MethodName)) ∈ zc_T := zc_in 969 (by decide +kernel) (by decide +kernel)
theorem zm_970 : (Jvm.Cond.code ({ cls := "FindingAidModel", name := "samePath", desc := "(II)Z" } : Jvm.MethodName) prog_9_method_40_code (5 : Nat) (Option.some Jvm.ClassFile.FieldType.boolean)) ∈ zc_T := zc_in 970 (by decide +kernel) (by decide +kernel)
theorem zm_971 : (Jvm.Cond.methodLink "FindingAidModel" (177 : Nat) ({ cls := "FindingAidModel", name := "differs", desc := "(II)I" } : Jvm.MethodName)) ∈ zc_T := zc_in 971 (by decide +kernel) (by decide +kernel)
theorem zm_973 : (Jvm.Cond.instanceMethod ({ cls := "FindingAidModel", name := "differs", desc := "(II)I" } : Jvm.MethodName)) ∈ zc_T := zc_in 973 (by decide +kernel) (by decide +kernel)
theorem zm_974 : (Jvm.Cond.code ({ cls := "FindingAidModel", name := "differs", desc := "(II)I" } : Jvm.MethodName) prog_9_method_41_code (6 : Nat) (Option.some Jvm.ClassFile.FieldType.int)) ∈ zc_T := zc_in 974 (by decide +kernel) (by decide +kernel)
theorem zm_975 : (Jvm.Cond.methodLink "FindingAidLaw" (102 : Nat) ({ cls := "FindingAidModel", name := "ask", desc := "(II)I" } : Jvm.MethodName)) ∈ zc_T := zc_in 975 (by decide +kernel) (by decide +kernel)
theorem zm_976 : (Jvm.Cond.instanceMethod ({ cls := "FindingAidModel", name := "ask", desc := "(II)I" } : Jvm.MethodName)) ∈ zc_T := zc_in 976 (by decide +kernel) (by decide +kernel)
theorem zm_977 : (Jvm.Cond.selects "FindingAidModel" ({ cls := "FindingAidModel", name := "ask", desc := "(II)I" } : Jvm.MethodName) ({ cls := "FindingAidModel", name := "ask", desc := "(II)I" } : Jvm.MethodName)) ∈ zc_T := zc_in 977 (by decide +kernel) (by decide +kernel)
theorem zm_978 : (Jvm.Cond.code ({ cls := "FindingAidModel", name := "ask", desc := "(II)I" } : Jvm.MethodName) prog_9_method_43_code (3 : Nat) (Option.some Jvm.ClassFile.FieldType.int)) ∈ zc_T := zc_in 978 (by decide +kernel) (by decide +kernel)
theorem zm_979 : (Jvm.Cond.methodLink "FindingAidLaw" (106 : Nat) ({ cls := "FindingAidModel", name := "take", desc := "(I)I" } : Jvm.MethodName)) ∈ zc_T := zc_in 979 (by decide +kernel) (by decide +kernel)
theorem zm_980 : (Jvm.Cond.instanceMethod ({ cls := "FindingAidModel", name := "take", desc := "(I)I" } : Jvm.MethodName)) ∈ zc_T := zc_in 980 (by decide +kernel) (by decide +kernel)
theorem zm_981 : (Jvm.Cond.selects "FindingAidModel" ({ cls := "FindingAidModel", name := "take", desc := "(I)I" } : Jvm.MethodName) ({ cls := "FindingAidModel", name := "take", desc := "(I)I" } : Jvm.MethodName)) ∈ zc_T := zc_in 981 (by decide +kernel) (by decide +kernel)
theorem zm_982 : (Jvm.Cond.code ({ cls := "FindingAidModel", name := "take", desc := "(I)I" } : Jvm.MethodName) prog_9_method_44_code (2 : Nat) (Option.some Jvm.ClassFile.FieldType.int)) ∈ zc_T := zc_in 982 (by decide +kernel) (by decide +kernel)
theorem zm_983 : (Jvm.Cond.methodLink "FindingAidLaw" (110 : Nat) ({ cls := "FindingAidModel", name := "print", desc := "()I" } : Jvm.MethodName)) ∈ zc_T := zc_in 983 (by decide +kernel) (by decide +kernel)
theorem zm_984 : (Jvm.Cond.instanceMethod ({ cls := "FindingAidModel", name := "print", desc := "()I" } : Jvm.MethodName)) ∈ zc_T := zc_in 984 (by decide +kernel) (by decide +kernel)
theorem zm_985 : (Jvm.Cond.selects "FindingAidModel" ({ cls := "FindingAidModel", name := "print", desc := "()I" } : Jvm.MethodName) ({ cls := "FindingAidModel", name := "print", desc := "()I" } : Jvm.MethodName)) ∈ zc_T := zc_in 985 (by decide +kernel) (by decide +kernel)
theorem zm_986 : (Jvm.Cond.code ({ cls := "FindingAidModel", name := "print", desc := "()I" } : Jvm.MethodName) prog_9_method_49_code (3 : Nat) (Option.some Jvm.ClassFile.FieldType.int)) ∈ zc_T := zc_in 986 (by decide +kernel) (by decide +kernel)
theorem zm_987 : (Jvm.Cond.methodLink "FindingAidModel" (191 : Nat) ({ cls := "FindingAidModel", name := "write", desc := "(I)V" } : Jvm.MethodName)) ∈ zc_T := zc_in 987 (by decide +kernel) (by decide +kernel)
theorem zm_989 : (Jvm.Cond.instanceMethod ({ cls := "FindingAidModel", name := "write", desc := "(I)V" } : Jvm.MethodName)) ∈ zc_T := zc_in 989 (by decide +kernel) (by decide +kernel)
theorem zm_990 : (Jvm.Cond.code ({ cls := "FindingAidModel", name := "write", desc := "(I)V" } : Jvm.MethodName) prog_9_method_47_code (3 : Nat) (Option.none : Option Jvm.ClassFile.FieldType)) ∈ zc_T := zc_in 990 (by decide +kernel) (by decide +kernel)
theorem zm_991 : (Jvm.Cond.methodLink "FindingAidModel" (184 : Nat) ({ cls := "FindingAidModel", name := "put", desc := "(I)V" } : Jvm.MethodName)) ∈ zc_T := zc_in 991 (by decide +kernel) (by decide +kernel)
theorem zm_993 : (Jvm.Cond.instanceMethod ({ cls := "FindingAidModel", name := "put", desc := "(I)V" } : Jvm.MethodName)) ∈ zc_T := zc_in 993 (by decide +kernel) (by decide +kernel)
theorem zm_994 : (Jvm.Cond.code ({ cls := "FindingAidModel", name := "put", desc := "(I)V" } : Jvm.MethodName) prog_9_method_45_code (2 : Nat) (Option.none : Option Jvm.ClassFile.FieldType)) ∈ zc_T := zc_in 994 (by decide +kernel) (by decide +kernel)
theorem zm_995 : (Jvm.Cond.methodLink "FindingAidModel" (188 : Nat) ({ cls := "FindingAidModel", name := "digits", desc := "(I)V" } : Jvm.MethodName)) ∈ zc_T := zc_in 995 (by decide +kernel) (by decide +kernel)
theorem zm_997 : (Jvm.Cond.instanceMethod ({ cls := "FindingAidModel", name := "digits", desc := "(I)V" } : Jvm.MethodName)) ∈ zc_T := zc_in 997 (by decide +kernel) (by decide +kernel)
theorem zm_998 : (Jvm.Cond.code ({ cls := "FindingAidModel", name := "digits", desc := "(I)V" } : Jvm.MethodName) prog_9_method_46_code (3 : Nat) (Option.none : Option Jvm.ClassFile.FieldType)) ∈ zc_T := zc_in 998 (by decide +kernel) (by decide +kernel)
theorem zm_999 : (Jvm.Cond.methodLink "FindingAidModel" (194 : Nat) ({ cls := "FindingAidModel", name := "next", desc := "(II)I" } : Jvm.MethodName)) ∈ zc_T := zc_in 999 (by decide +kernel) (by decide +kernel)
theorem zm_1001 : (Jvm.Cond.instanceMethod ({ cls := "FindingAidModel", name := "next", desc := "(II)I" } : Jvm.MethodName)) ∈ zc_T := zc_in 1001 (by decide +kernel) (by decide +kernel)
theorem zm_1002 : (Jvm.Cond.code ({ cls := "FindingAidModel", name := "next", desc := "(II)I" } : Jvm.MethodName) prog_9_method_48_code (6 : Nat) (Option.some Jvm.ClassFile.FieldType.int)) ∈ zc_T := zc_in 1002 (by decide +kernel) (by decide +kernel)
theorem zm_1003 : (Jvm.Cond.methodLink "FindingAidLaw" (114 : Nat) ({ cls := "FindingAidModel", name := "at", desc := "(I)I" } : Jvm.MethodName)) ∈ zc_T := zc_in 1003 (by decide +kernel) (by decide +kernel)
theorem zm_1004 : (Jvm.Cond.instanceMethod ({ cls := "FindingAidModel", name := "at", desc := "(I)I" } : Jvm.MethodName)) ∈ zc_T := zc_in 1004 (by decide +kernel) (by decide +kernel)
theorem zm_1005 : (Jvm.Cond.selects "FindingAidModel" ({ cls := "FindingAidModel", name := "at", desc := "(I)I" } : Jvm.MethodName) ({ cls := "FindingAidModel", name := "at", desc := "(I)I" } : Jvm.MethodName)) ∈ zc_T := zc_in 1005 (by decide +kernel) (by decide +kernel)
theorem zm_1006 : (Jvm.Cond.code ({ cls := "FindingAidModel", name := "at", desc := "(I)I" } : Jvm.MethodName) prog_9_method_50_code (2 : Nat) (Option.some Jvm.ClassFile.FieldType.int)) ∈ zc_T := zc_in 1006 (by decide +kernel) (by decide +kernel)
theorem zm_1007 : (Jvm.Cond.arrayClass Jvm.ClassFile.FieldType.long) ∈ zc_T := zc_in 1007 (by decide +kernel) (by decide +kernel)
theorem zm_1009 : (Jvm.Cond.arrayClass Jvm.ClassFile.FieldType.char) ∈ zc_T := zc_in 1009 (by decide +kernel) (by decide +kernel)
theorem zy_F_init_ok : zx_y cy_F_init cb_F_init 1 (Option.none : Option Jvm.ClassFile.FieldType) 0 := ⟨zm_72, zm_54, by decide +kernel, by decide +kernel, by decide +kernel⟩
theorem zy_F_sign_ok : zx_y cy_F_sign cb_F_sign 2 (Option.none : Option Jvm.ClassFile.FieldType) 1 := ⟨zm_297, zm_54, by decide +kernel, by decide +kernel, by decide +kernel⟩
theorem zy_F_read_ok : zx_y cy_F_read cb_F_read 1 (Option.some Jvm.ClassFile.FieldType.int) 0 := ⟨zm_529, zm_54, by decide +kernel, by decide +kernel, by decide +kernel⟩
theorem zy_F_place_ok : zx_y cy_F_place cb_F_place 1 (Option.some Jvm.ClassFile.FieldType.int) 0 := ⟨zm_305, zm_54, by decide +kernel, by decide +kernel, by decide +kernel⟩
theorem zy_F_level_ok : zx_y cy_F_level cb_F_level 3 (Option.some Jvm.ClassFile.FieldType.int) 2 := ⟨zm_309, zm_54, by decide +kernel, by decide +kernel, by decide +kernel⟩
theorem zy_F_letter_ok : zx_y cy_F_letter cb_F_letter 3 (Option.some Jvm.ClassFile.FieldType.int) 2 := ⟨zm_317, zm_54, by decide +kernel, by decide +kernel, by decide +kernel⟩
theorem zy_F_compare_ok : zx_y cy_F_compare cb_F_compare 3 (Option.some Jvm.ClassFile.FieldType.int) 2 := ⟨zm_325, zm_54, by decide +kernel, by decide +kernel, by decide +kernel⟩
theorem zy_F_extent_ok : zx_y cy_F_extent cb_F_extent 3 (Option.some Jvm.ClassFile.FieldType.int) 2 := ⟨zm_336, zm_54, by decide +kernel, by decide +kernel, by decide +kernel⟩
theorem zy_F_differ_ok : zx_y cy_F_differ cb_F_differ 4 (Option.some Jvm.ClassFile.FieldType.int) 1 := ⟨zm_356, zm_54, by decide +kernel, by decide +kernel, by decide +kernel⟩
theorem zy_F_twice_ok : zx_y cy_F_twice cb_F_twice 4 (Option.some Jvm.ClassFile.FieldType.int) 1 := ⟨zm_364, zm_54, by decide +kernel, by decide +kernel, by decide +kernel⟩
theorem zy_F_restrict_ok : zx_y cy_F_restrict cb_F_restrict 4 (Option.some Jvm.ClassFile.FieldType.int) 3 := ⟨zm_372, zm_54, by decide +kernel, by decide +kernel, by decide +kernel⟩
theorem zy_F_restricted_ok : zx_y cy_F_restricted cb_F_restricted 6 (Option.some Jvm.ClassFile.FieldType.int) 2 := ⟨zm_383, zm_54, by decide +kernel, by decide +kernel, by decide +kernel⟩
theorem zy_F_name_ok : zx_y cy_F_name cb_F_name 3 (Option.some Jvm.ClassFile.FieldType.int) 2 := ⟨zm_391, zm_54, by decide +kernel, by decide +kernel, by decide +kernel⟩
theorem zy_F_named_ok : zx_y cy_F_named cb_F_named 5 (Option.some Jvm.ClassFile.FieldType.int) 2 := ⟨zm_403, zm_54, by decide +kernel, by decide +kernel, by decide +kernel⟩
theorem zy_F_move_ok : zx_y cy_F_move cb_F_move 3 (Option.some Jvm.ClassFile.FieldType.int) 2 := ⟨zm_407, zm_54, by decide +kernel, by decide +kernel, by decide +kernel⟩
theorem zy_F_was_ok : zx_y cy_F_was cb_F_was 3 (Option.some Jvm.ClassFile.FieldType.int) 2 := ⟨zm_439, zm_54, by decide +kernel, by decide +kernel, by decide +kernel⟩
theorem zy_F_published_ok : zx_y cy_F_published cb_F_published 3 (Option.some Jvm.ClassFile.FieldType.int) 2 := ⟨zm_447, zm_54, by decide +kernel, by decide +kernel, by decide +kernel⟩
theorem zy_F_merge_ok : zx_y cy_F_merge cb_F_merge 1 (Option.some Jvm.ClassFile.FieldType.int) 0 := ⟨zm_691, zm_54, by decide +kernel, by decide +kernel, by decide +kernel⟩
theorem zy_F_ask_ok : zx_y cy_F_ask cb_F_ask 3 (Option.some Jvm.ClassFile.FieldType.int) 2 := ⟨zm_455, zm_54, by decide +kernel, by decide +kernel, by decide +kernel⟩
theorem zy_F_take_ok : zx_y cy_F_take cb_F_take 2 (Option.some Jvm.ClassFile.FieldType.int) 1 := ⟨zm_463, zm_54, by decide +kernel, by decide +kernel, by decide +kernel⟩
theorem zy_F_print_ok : zx_y cy_F_print cb_F_print 1 (Option.some Jvm.ClassFile.FieldType.int) 0 := ⟨zm_476, zm_54, by decide +kernel, by decide +kernel, by decide +kernel⟩
theorem zy_F_at_ok : zx_y cy_F_at cb_F_at 2 (Option.some Jvm.ClassFile.FieldType.int) 1 := ⟨zm_521, zm_54, by decide +kernel, by decide +kernel, by decide +kernel⟩
theorem zy_F_isShown_ok : zx_y cy_F_isShown cb_F_isShown 4 (Option.some Jvm.ClassFile.FieldType.boolean) 1 := ⟨zm_451, zm_54, by decide +kernel, by decide +kernel, by decide +kernel⟩
theorem zy_F_isRestrictionKind_ok : zx_y cy_F_isRestrictionKind cb_F_isRestrictionKind 1 (Option.some Jvm.ClassFile.FieldType.boolean) 1 := ⟨zm_375, zm_54, by decide +kernel, by decide +kernel, by decide +kernel⟩
theorem zy_F_order_ok : zx_y cy_F_order cb_F_order 2 (Option.some Jvm.ClassFile.FieldType.int) 2 := ⟨zm_332, zm_54, by decide +kernel, by decide +kernel, by decide +kernel⟩
theorem zy_F_indexIn_ok : zx_y cy_F_indexIn cb_F_indexIn 3 (Option.some Jvm.ClassFile.FieldType.int) 2 := ⟨zm_572, zm_54, by decide +kernel, by decide +kernel, by decide +kernel⟩
theorem zy_M_init_ok : zx_y cy_M_init cb_M_init 1 (Option.none : Option Jvm.ClassFile.FieldType) 0 := ⟨zm_720, zm_61, by decide +kernel, by decide +kernel, by decide +kernel⟩
theorem zy_M_thrown_ok : zx_y cy_M_thrown cb_M_thrown 1 (Option.some Jvm.ClassFile.FieldType.int) 0 := ⟨zm_816, zm_61, by decide +kernel, by decide +kernel, by decide +kernel⟩
theorem zy_M_in_ok : zx_y cy_M_in cb_M_in 3 (Option.some Jvm.ClassFile.FieldType.boolean) 3 := ⟨zm_858, zm_61, by decide +kernel, by decide +kernel, by decide +kernel⟩
theorem zy_M_isLevel_ok : zx_y cy_M_isLevel cb_M_isLevel 2 (Option.some Jvm.ClassFile.FieldType.boolean) 1 := ⟨zm_894, zm_61, by decide +kernel, by decide +kernel, by decide +kernel⟩
theorem zy_M_sign_ok : zx_y cy_M_sign cb_M_sign 2 (Option.none : Option Jvm.ClassFile.FieldType) 1 := ⟨zm_820, zm_61, by decide +kernel, by decide +kernel, by decide +kernel⟩
theorem zy_M_look_ok : zx_y cy_M_look cb_M_look 1 (Option.some Jvm.ClassFile.FieldType.int) 0 := ⟨zm_844, zm_61, by decide +kernel, by decide +kernel, by decide +kernel⟩
theorem zy_M_isDigit_ok : zx_y cy_M_isDigit cb_M_isDigit 1 (Option.some Jvm.ClassFile.FieldType.boolean) 0 := ⟨zm_855, zm_61, by decide +kernel, by decide +kernel, by decide +kernel⟩
theorem zy_M_eat_ok : zx_y cy_M_eat cb_M_eat 2 (Option.some Jvm.ClassFile.FieldType.boolean) 1 := ⟨zm_862, zm_61, by decide +kernel, by decide +kernel, by decide +kernel⟩
theorem zy_M_number_ok : zx_y cy_M_number cb_M_number 5 (Option.some Jvm.ClassFile.FieldType.boolean) 2 := ⟨zm_851, zm_61, by decide +kernel, by decide +kernel, by decide +kernel⟩
theorem zy_M_year_ok : zx_y cy_M_year cb_M_year 7 (Option.some Jvm.ClassFile.FieldType.boolean) 3 := ⟨zm_874, zm_61, by decide +kernel, by decide +kernel, by decide +kernel⟩
theorem zy_M_depth_ok : zx_y cy_M_depth cb_M_depth 4 (Option.some Jvm.ClassFile.FieldType.int) 1 := ⟨zm_840, zm_61, by decide +kernel, by decide +kernel, by decide +kernel⟩
theorem zy_M_kindOf_ok : zx_y cy_M_kindOf cb_M_kindOf 1 (Option.some Jvm.ClassFile.FieldType.int) 1 := ⟨zm_847, zm_61, by decide +kernel, by decide +kernel, by decide +kernel⟩
theorem zy_M_place_I_ok : zx_y cy_M_place_I cb_M_place_I 7 (Option.some Jvm.ClassFile.FieldType.boolean) 1 := ⟨zm_836, zm_61, by decide +kernel, by decide +kernel, by decide +kernel⟩
theorem zy_M_titled_ok : zx_y cy_M_titled cb_M_titled 3 (Option.some Jvm.ClassFile.FieldType.boolean) 1 := ⟨zm_866, zm_61, by decide +kernel, by decide +kernel, by decide +kernel⟩
theorem zy_M_dated_ok : zx_y cy_M_dated cb_M_dated 2 (Option.some Jvm.ClassFile.FieldType.boolean) 1 := ⟨zm_870, zm_61, by decide +kernel, by decide +kernel, by decide +kernel⟩
theorem zy_M_extended_ok : zx_y cy_M_extended cb_M_extended 2 (Option.some Jvm.ClassFile.FieldType.boolean) 1 := ⟨zm_878, zm_61, by decide +kernel, by decide +kernel, by decide +kernel⟩
theorem zy_M_line_ok : zx_y cy_M_line cb_M_line 3 (Option.some Jvm.ClassFile.FieldType.boolean) 1 := ⟨zm_832, zm_61, by decide +kernel, by decide +kernel, by decide +kernel⟩
theorem zy_M_reads_ok : zx_y cy_M_reads cb_M_reads 2 (Option.some Jvm.ClassFile.FieldType.boolean) 0 := ⟨zm_828, zm_61, by decide +kernel, by decide +kernel, by decide +kernel⟩
theorem zy_M_copy_ok : zx_y cy_M_copy cb_M_copy 5 (Option.none : Option Jvm.ClassFile.FieldType) 3 := ⟨zm_882, zm_61, by decide +kernel, by decide +kernel, by decide +kernel⟩
theorem zy_M_read_ok : zx_y cy_M_read cb_M_read 3 (Option.some Jvm.ClassFile.FieldType.int) 0 := ⟨zm_824, zm_61, by decide +kernel, by decide +kernel, by decide +kernel⟩
theorem zy_M_place__ok : zx_y cy_M_place_ cb_M_place_ 1 (Option.some Jvm.ClassFile.FieldType.int) 0 := ⟨zm_886, zm_61, by decide +kernel, by decide +kernel, by decide +kernel⟩
theorem zy_M_level_ok : zx_y cy_M_level cb_M_level 3 (Option.some Jvm.ClassFile.FieldType.int) 2 := ⟨zm_890, zm_61, by decide +kernel, by decide +kernel, by decide +kernel⟩
theorem zy_M_letter_ok : zx_y cy_M_letter cb_M_letter 3 (Option.some Jvm.ClassFile.FieldType.int) 2 := ⟨zm_898, zm_61, by decide +kernel, by decide +kernel, by decide +kernel⟩
theorem zy_M_compare_ok : zx_y cy_M_compare cb_M_compare 4 (Option.some Jvm.ClassFile.FieldType.int) 2 := ⟨zm_902, zm_61, by decide +kernel, by decide +kernel, by decide +kernel⟩
theorem zy_M_lies_ok : zx_y cy_M_lies cb_M_lies 4 (Option.some Jvm.ClassFile.FieldType.boolean) 2 := ⟨zm_950, zm_61, by decide +kernel, by decide +kernel, by decide +kernel⟩
theorem zy_M_counts_ok : zx_y cy_M_counts cb_M_counts 7 (Option.some Jvm.ClassFile.FieldType.boolean) 4 := ⟨zm_914, zm_61, by decide +kernel, by decide +kernel, by decide +kernel⟩
theorem zy_M_sum_ok : zx_y cy_M_sum cb_M_sum 6 (Option.some Jvm.ClassFile.FieldType.int) 3 := ⟨zm_910, zm_61, by decide +kernel, by decide +kernel, by decide +kernel⟩
theorem zy_M_extent_ok : zx_y cy_M_extent cb_M_extent 3 (Option.some Jvm.ClassFile.FieldType.int) 2 := ⟨zm_906, zm_61, by decide +kernel, by decide +kernel, by decide +kernel⟩
theorem zy_M_differ_ok : zx_y cy_M_differ cb_M_differ 5 (Option.some Jvm.ClassFile.FieldType.int) 1 := ⟨zm_918, zm_61, by decide +kernel, by decide +kernel, by decide +kernel⟩
theorem zy_M_twice_ok : zx_y cy_M_twice cb_M_twice 6 (Option.some Jvm.ClassFile.FieldType.int) 1 := ⟨zm_922, zm_61, by decide +kernel, by decide +kernel, by decide +kernel⟩
theorem zy_M_restrict_ok : zx_y cy_M_restrict cb_M_restrict 4 (Option.some Jvm.ClassFile.FieldType.int) 3 := ⟨zm_926, zm_61, by decide +kernel, by decide +kernel, by decide +kernel⟩
theorem zy_M_restricted_ok : zx_y cy_M_restricted cb_M_restricted 4 (Option.some Jvm.ClassFile.FieldType.int) 2 := ⟨zm_930, zm_61, by decide +kernel, by decide +kernel, by decide +kernel⟩
theorem zy_M_hasName_ok : zx_y cy_M_hasName cb_M_hasName 5 (Option.some Jvm.ClassFile.FieldType.boolean) 2 := ⟨zm_938, zm_61, by decide +kernel, by decide +kernel, by decide +kernel⟩
theorem zy_M_name_ok : zx_y cy_M_name cb_M_name 3 (Option.some Jvm.ClassFile.FieldType.int) 2 := ⟨zm_934, zm_61, by decide +kernel, by decide +kernel, by decide +kernel⟩
theorem zy_M_named_ok : zx_y cy_M_named cb_M_named 5 (Option.some Jvm.ClassFile.FieldType.int) 2 := ⟨zm_942, zm_61, by decide +kernel, by decide +kernel, by decide +kernel⟩
theorem zy_M_move_ok : zx_y cy_M_move cb_M_move 6 (Option.some Jvm.ClassFile.FieldType.int) 2 := ⟨zm_946, zm_61, by decide +kernel, by decide +kernel, by decide +kernel⟩
theorem zy_M_was_ok : zx_y cy_M_was cb_M_was 3 (Option.some Jvm.ClassFile.FieldType.int) 2 := ⟨zm_954, zm_61, by decide +kernel, by decide +kernel, by decide +kernel⟩
theorem zy_M_isShown_ok : zx_y cy_M_isShown cb_M_isShown 4 (Option.some Jvm.ClassFile.FieldType.boolean) 1 := ⟨zm_962, zm_61, by decide +kernel, by decide +kernel, by decide +kernel⟩
theorem zy_M_published_ok : zx_y cy_M_published cb_M_published 3 (Option.some Jvm.ClassFile.FieldType.int) 2 := ⟨zm_958, zm_61, by decide +kernel, by decide +kernel, by decide +kernel⟩
theorem zy_M_samePath_ok : zx_y cy_M_samePath cb_M_samePath 5 (Option.some Jvm.ClassFile.FieldType.boolean) 2 := ⟨zm_970, zm_61, by decide +kernel, by decide +kernel, by decide +kernel⟩
theorem zy_M_differs_ok : zx_y cy_M_differs cb_M_differs 6 (Option.some Jvm.ClassFile.FieldType.int) 2 := ⟨zm_974, zm_61, by decide +kernel, by decide +kernel, by decide +kernel⟩
theorem zy_M_merge_ok : zx_y cy_M_merge cb_M_merge 3 (Option.some Jvm.ClassFile.FieldType.int) 0 := ⟨zm_966, zm_61, by decide +kernel, by decide +kernel, by decide +kernel⟩
theorem zy_M_ask_ok : zx_y cy_M_ask cb_M_ask 3 (Option.some Jvm.ClassFile.FieldType.int) 2 := ⟨zm_978, zm_61, by decide +kernel, by decide +kernel, by decide +kernel⟩
theorem zy_M_take_ok : zx_y cy_M_take cb_M_take 2 (Option.some Jvm.ClassFile.FieldType.int) 1 := ⟨zm_982, zm_61, by decide +kernel, by decide +kernel, by decide +kernel⟩
theorem zy_M_put_ok : zx_y cy_M_put cb_M_put 2 (Option.none : Option Jvm.ClassFile.FieldType) 1 := ⟨zm_994, zm_61, by decide +kernel, by decide +kernel, by decide +kernel⟩
theorem zy_M_digits_ok : zx_y cy_M_digits cb_M_digits 3 (Option.none : Option Jvm.ClassFile.FieldType) 1 := ⟨zm_998, zm_61, by decide +kernel, by decide +kernel, by decide +kernel⟩
theorem zy_M_write_ok : zx_y cy_M_write cb_M_write 3 (Option.none : Option Jvm.ClassFile.FieldType) 1 := ⟨zm_990, zm_61, by decide +kernel, by decide +kernel, by decide +kernel⟩
theorem zy_M_next_ok : zx_y cy_M_next cb_M_next 6 (Option.some Jvm.ClassFile.FieldType.int) 2 := ⟨zm_1002, zm_61, by decide +kernel, by decide +kernel, by decide +kernel⟩
theorem zy_M_print_ok : zx_y cy_M_print cb_M_print 3 (Option.some Jvm.ClassFile.FieldType.int) 0 := ⟨zm_986, zm_61, by decide +kernel, by decide +kernel, by decide +kernel⟩
theorem zy_M_at_ok : zx_y cy_M_at cb_M_at 2 (Option.some Jvm.ClassFile.FieldType.int) 1 := ⟨zm_1006, zm_61, by decide +kernel, by decide +kernel, by decide +kernel⟩
theorem zy_K_init_ok : zx_y cy_K_init cb_K_init 1 (Option.none : Option Jvm.ClassFile.FieldType) 0 := ⟨zm_228, zm_59, by decide +kernel, by decide +kernel, by decide +kernel⟩
theorem zy_K_has_ok : zx_y cy_K_has cb_K_has 2 (Option.some Jvm.ClassFile.FieldType.boolean) 1 := ⟨zm_459, zm_59, by decide +kernel, by decide +kernel, by decide +kernel⟩
theorem zy_K_gather_ok : zx_y cy_K_gather cb_K_gather 6 (Option.none : Option Jvm.ClassFile.FieldType) 2 := ⟨zm_695, zm_59, by decide +kernel, by decide +kernel, by decide +kernel⟩
theorem zy_K_add_ok : zx_y cy_K_add cb_K_add 4 (Option.none : Option Jvm.ClassFile.FieldType) 3 := ⟨zm_715, zm_59, by decide +kernel, by decide +kernel, by decide +kernel⟩
theorem zy_L_init_ok : zx_y cy_L_init cb_L_init 1 (Option.none : Option Jvm.ClassFile.FieldType) 0 := ⟨zm_86, zm_56, by decide +kernel, by decide +kernel, by decide +kernel⟩
theorem zy_L_has_ok : zx_y cy_L_has cb_L_has 2 (Option.some Jvm.ClassFile.FieldType.boolean) 1 := ⟨zm_313, zm_56, by decide +kernel, by decide +kernel, by decide +kernel⟩
theorem zy_L_titleSign_ok : zx_y cy_L_titleSign cb_L_titleSign 3 (Option.some Jvm.ClassFile.FieldType.int) 2 := ⟨zm_321, zm_56, by decide +kernel, by decide +kernel, by decide +kernel⟩
theorem zy_L_addTitleSign_ok : zx_y cy_L_addTitleSign cb_L_addTitleSign 3 (Option.none : Option Jvm.ClassFile.FieldType) 2 := ⟨zm_472, zm_56, by decide +kernel, by decide +kernel, by decide +kernel⟩
theorem zy_L_addBare_ok : zx_y cy_L_addBare cb_L_addBare 3 (Option.none : Option Jvm.ClassFile.FieldType) 1 := ⟨zm_560, zm_56, by decide +kernel, by decide +kernel, by decide +kernel⟩
theorem zy_L_latestOfDepth_ok : zx_y cy_L_latestOfDepth cb_L_latestOfDepth 4 (Option.some Jvm.ClassFile.FieldType.int) 2 := ⟨zm_564, zm_56, by decide +kernel, by decide +kernel, by decide +kernel⟩
theorem zy_L_orderOfDates_ok : zx_y cy_L_orderOfDates cb_L_orderOfDates 5 (Option.some Jvm.ClassFile.FieldType.int) 2 := ⟨zm_329, zm_56, by decide +kernel, by decide +kernel, by decide +kernel⟩
theorem zy_L_repeatsNumber_ok : zx_y cy_L_repeatsNumber cb_L_repeatsNumber 3 (Option.some Jvm.ClassFile.FieldType.boolean) 1 := ⟨zm_368, zm_56, by decide +kernel, by decide +kernel, by decide +kernel⟩
theorem zy_L_isWithin_ok : zx_y cy_L_isWithin cb_L_isWithin 5 (Option.some Jvm.ClassFile.FieldType.boolean) 2 := ⟨zm_415, zm_56, by decide +kernel, by decide +kernel, by decide +kernel⟩
theorem zy_L_mayHang_ok : zx_y cy_L_mayHang cb_L_mayHang 3 (Option.some Jvm.ClassFile.FieldType.boolean) 2 := ⟨zm_411, zm_56, by decide +kernel, by decide +kernel, by decide +kernel⟩
theorem zy_L_hang_ok : zx_y cy_L_hang cb_L_hang 5 (Option.none : Option Jvm.ClassFile.FieldType) 2 := ⟨zm_435, zm_56, by decide +kernel, by decide +kernel, by decide +kernel⟩
theorem zy_L_deeperUnder_ok : zx_y cy_L_deeperUnder cb_L_deeperUnder 3 (Option.some Jvm.ClassFile.FieldType.int) 2 := ⟨zm_427, zm_56, by decide +kernel, by decide +kernel, by decide +kernel⟩
theorem zy_L_deepestWithin_ok : zx_y cy_L_deepestWithin cb_L_deepestWithin 4 (Option.some Jvm.ClassFile.FieldType.int) 1 := ⟨zm_420, zm_56, by decide +kernel, by decide +kernel, by decide +kernel⟩
theorem zy_L_nextUnder_ok : zx_y cy_L_nextUnder cb_L_nextUnder 5 (Option.some Jvm.ClassFile.FieldType.int) 2 := ⟨zm_513, zm_56, by decide +kernel, by decide +kernel, by decide +kernel⟩
theorem zy_L_isBehind_ok : zx_y cy_L_isBehind cb_L_isBehind 3 (Option.some Jvm.ClassFile.FieldType.boolean) 2 := ⟨zm_517, zm_56, by decide +kernel, by decide +kernel, by decide +kernel⟩
theorem zy_L_firstWithPathOf_ok : zx_y cy_L_firstWithPathOf cb_L_firstWithPathOf 4 (Option.some Jvm.ClassFile.FieldType.int) 2 := ⟨zm_699, zm_56, by decide +kernel, by decide +kernel, by decide +kernel⟩
theorem zy_L_hasPathOf_ok : zx_y cy_L_hasPathOf cb_L_hasPathOf 7 (Option.some Jvm.ClassFile.FieldType.boolean) 3 := ⟨zm_703, zm_56, by decide +kernel, by decide +kernel, by decide +kernel⟩
theorem zy_L_differenceBits_ok : zx_y cy_L_differenceBits cb_L_differenceBits 5 (Option.some Jvm.ClassFile.FieldType.int) 3 := ⟨zm_707, zm_56, by decide +kernel, by decide +kernel, by decide +kernel⟩
theorem zy_L_hasTitleOf_ok : zx_y cy_L_hasTitleOf cb_L_hasTitleOf 5 (Option.some Jvm.ClassFile.FieldType.boolean) 3 := ⟨zm_711, zm_56, by decide +kernel, by decide +kernel, by decide +kernel⟩
theorem zy_L_copyParts_ok : zx_y cy_L_copyParts cb_L_copyParts 5 (Option.none : Option Jvm.ClassFile.FieldType) 3 := ⟨zm_467, zm_56, by decide +kernel, by decide +kernel, by decide +kernel⟩
theorem zy_N_init_ok : zx_y cy_N_init cb_N_init 1 (Option.none : Option Jvm.ClassFile.FieldType) 0 := ⟨zm_185, zm_57, by decide +kernel, by decide +kernel, by decide +kernel⟩
theorem zy_N_forget_ok : zx_y cy_N_forget cb_N_forget 2 (Option.none : Option Jvm.ClassFile.FieldType) 0 := ⟨zm_683, zm_57, by decide +kernel, by decide +kernel, by decide +kernel⟩
theorem zy_N_setReason_ok : zx_y cy_N_setReason cb_N_setReason 4 (Option.none : Option Jvm.ClassFile.FieldType) 3 := ⟨zm_379, zm_57, by decide +kernel, by decide +kernel, by decide +kernel⟩
theorem zy_N_reasonOf_ok : zx_y cy_N_reasonOf cb_N_reasonOf 3 (Option.some Jvm.ClassFile.FieldType.int) 2 := ⟨zm_387, zm_57, by decide +kernel, by decide +kernel, by decide +kernel⟩
theorem zy_N_hasHeading_ok : zx_y cy_N_hasHeading cb_N_hasHeading 4 (Option.some Jvm.ClassFile.FieldType.boolean) 2 := ⟨zm_395, zm_57, by decide +kernel, by decide +kernel, by decide +kernel⟩
theorem zy_N_addHeading_ok : zx_y cy_N_addHeading cb_N_addHeading 3 (Option.none : Option Jvm.ClassFile.FieldType) 2 := ⟨zm_399, zm_57, by decide +kernel, by decide +kernel, by decide +kernel⟩
theorem zy_N_addMove_ok : zx_y cy_N_addMove cb_N_addMove 3 (Option.none : Option Jvm.ClassFile.FieldType) 2 := ⟨zm_431, zm_57, by decide +kernel, by decide +kernel, by decide +kernel⟩
theorem zy_N_underBefore_ok : zx_y cy_N_underBefore cb_N_underBefore 3 (Option.some Jvm.ClassFile.FieldType.int) 2 := ⟨zm_443, zm_57, by decide +kernel, by decide +kernel, by decide +kernel⟩
theorem zy_P_init_ok : zx_y cy_P_init cb_P_init 1 (Option.none : Option Jvm.ClassFile.FieldType) 0 := ⟨zm_259, zm_60, by decide +kernel, by decide +kernel, by decide +kernel⟩
theorem zy_P_write_ok : zx_y cy_P_write cb_P_write 3 (Option.none : Option Jvm.ClassFile.FieldType) 2 := ⟨zm_480, zm_60, by decide +kernel, by decide +kernel, by decide +kernel⟩
theorem zy_P_writeFrom_ok : zx_y cy_P_writeFrom cb_P_writeFrom 7 (Option.none : Option Jvm.ClassFile.FieldType) 5 := ⟨zm_483, zm_60, by decide +kernel, by decide +kernel, by decide +kernel⟩
theorem zy_P_writeLine_ok : zx_y cy_P_writeLine cb_P_writeLine 4 (Option.none : Option Jvm.ClassFile.FieldType) 2 := ⟨zm_488, zm_60, by decide +kernel, by decide +kernel, by decide +kernel⟩
theorem zy_P_writeDate_ok : zx_y cy_P_writeDate cb_P_writeDate 3 (Option.none : Option Jvm.ClassFile.FieldType) 2 := ⟨zm_507, zm_60, by decide +kernel, by decide +kernel, by decide +kernel⟩
theorem zy_P_putNumber_ok : zx_y cy_P_putNumber cb_P_putNumber 3 (Option.none : Option Jvm.ClassFile.FieldType) 1 := ⟨zm_502, zm_60, by decide +kernel, by decide +kernel, by decide +kernel⟩
theorem zy_P_putOneOf_ok : zx_y cy_P_putOneOf cb_P_putOneOf 3 (Option.none : Option Jvm.ClassFile.FieldType) 2 := ⟨zm_498, zm_60, by decide +kernel, by decide +kernel, by decide +kernel⟩
theorem zy_P_put_ok : zx_y cy_P_put cb_P_put 2 (Option.none : Option Jvm.ClassFile.FieldType) 1 := ⟨zm_492, zm_60, by decide +kernel, by decide +kernel, by decide +kernel⟩
theorem zy_S_init_ok : zx_y cy_S_init cb_S_init 1 (Option.none : Option Jvm.ClassFile.FieldType) 0 := ⟨zm_215, zm_58, by decide +kernel, by decide +kernel, by decide +kernel⟩
theorem zy_S_weigh_ok : zx_y cy_S_weigh cb_S_weigh 4 (Option.none : Option Jvm.ClassFile.FieldType) 1 := ⟨zm_340, zm_58, by decide +kernel, by decide +kernel, by decide +kernel⟩
theorem zy_S_weighOne_ok : zx_y cy_S_weighOne cb_S_weighOne 6 (Option.none : Option Jvm.ClassFile.FieldType) 2 := ⟨zm_347, zm_58, by decide +kernel, by decide +kernel, by decide +kernel⟩
theorem zy_S_wholeOf_ok : zx_y cy_S_wholeOf cb_S_wholeOf 3 (Option.some Jvm.ClassFile.FieldType.int) 2 := ⟨zm_352, zm_58, by decide +kernel, by decide +kernel, by decide +kernel⟩
theorem zy_S_contradicts_ok : zx_y cy_S_contradicts cb_S_contradicts 5 (Option.some Jvm.ClassFile.FieldType.boolean) 2 := ⟨zm_360, zm_58, by decide +kernel, by decide +kernel, by decide +kernel⟩
theorem zy_T_init_ok : zx_y cy_T_init cb_T_init 1 (Option.none : Option Jvm.ClassFile.FieldType) 0 := ⟨zm_80, zm_55, by decide +kernel, by decide +kernel, by decide +kernel⟩
theorem zy_T_hear_ok : zx_y cy_T_hear cb_T_hear 2 (Option.none : Option Jvm.ClassFile.FieldType) 1 := ⟨zm_301, zm_55, by decide +kernel, by decide +kernel, by decide +kernel⟩
theorem zy_T_exchange_ok : zx_y cy_T_exchange cb_T_exchange 3 (Option.some (Jvm.ClassFile.FieldType.object "FindingAid$Levels")) 1 := ⟨zm_679, zm_55, by decide +kernel, by decide +kernel, by decide +kernel⟩
theorem zy_T_readText_ok : zx_y cy_T_readText cb_T_readText 2 (Option.some Jvm.ClassFile.FieldType.boolean) 0 := ⟨zm_533, zm_55, by decide +kernel, by decide +kernel, by decide +kernel⟩
theorem zy_T_readLines_ok : zx_y cy_T_readLines cb_T_readLines 2 (Option.some Jvm.ClassFile.FieldType.boolean) 0 := ⟨zm_537, zm_55, by decide +kernel, by decide +kernel, by decide +kernel⟩
theorem zy_T_readLine_ok : zx_y cy_T_readLine cb_T_readLine 2 (Option.some Jvm.ClassFile.FieldType.boolean) 1 := ⟨zm_541, zm_55, by decide +kernel, by decide +kernel, by decide +kernel⟩
theorem zy_T_readDepth_ok : zx_y cy_T_readDepth cb_T_readDepth 4 (Option.some Jvm.ClassFile.FieldType.boolean) 1 := ⟨zm_545, zm_55, by decide +kernel, by decide +kernel, by decide +kernel⟩
theorem zy_T_readKind_ok : zx_y cy_T_readKind cb_T_readKind 4 (Option.some Jvm.ClassFile.FieldType.boolean) 1 := ⟨zm_568, zm_55, by decide +kernel, by decide +kernel, by decide +kernel⟩
theorem zy_T_readNumber_ok : zx_y cy_T_readNumber cb_T_readNumber 2 (Option.some Jvm.ClassFile.FieldType.boolean) 1 := ⟨zm_577, zm_55, by decide +kernel, by decide +kernel, by decide +kernel⟩
theorem zy_T_readTitle_ok : zx_y cy_T_readTitle cb_T_readTitle 3 (Option.some Jvm.ClassFile.FieldType.boolean) 1 := ⟨zm_588, zm_55, by decide +kernel, by decide +kernel, by decide +kernel⟩
theorem zy_T_readDate_ok : zx_y cy_T_readDate cb_T_readDate 4 (Option.some Jvm.ClassFile.FieldType.boolean) 1 := ⟨zm_600, zm_55, by decide +kernel, by decide +kernel, by decide +kernel⟩
theorem zy_T_readExtent_ok : zx_y cy_T_readExtent cb_T_readExtent 2 (Option.some Jvm.ClassFile.FieldType.boolean) 1 := ⟨zm_608, zm_55, by decide +kernel, by decide +kernel, by decide +kernel⟩
theorem zy_T_readDigits_ok : zx_y cy_T_readDigits cb_T_readDigits 4 (Option.some Jvm.ClassFile.FieldType.int) 0 := ⟨zm_581, zm_55, by decide +kernel, by decide +kernel, by decide +kernel⟩
theorem zy_T_readYear_ok : zx_y cy_T_readYear cb_T_readYear 5 (Option.some Jvm.ClassFile.FieldType.int) 1 := ⟨zm_604, zm_55, by decide +kernel, by decide +kernel, by decide +kernel⟩
theorem zy_T_expect_ok : zx_y cy_T_expect cb_T_expect 2 (Option.some Jvm.ClassFile.FieldType.boolean) 1 := ⟨zm_592, zm_55, by decide +kernel, by decide +kernel, by decide +kernel⟩
theorem zy_T_wrongAt_ok : zx_y cy_T_wrongAt cb_T_wrongAt 2 (Option.some Jvm.ClassFile.FieldType.boolean) 1 := ⟨zm_556, zm_55, by decide +kernel, by decide +kernel, by decide +kernel⟩
theorem zy_T_ahead_ok : zx_y cy_T_ahead cb_T_ahead 3 (Option.some Jvm.ClassFile.FieldType.int) 1 := ⟨zm_552, zm_55, by decide +kernel, by decide +kernel, by decide +kernel⟩
theorem zy_T_isDigit_ok : zx_y cy_T_isDigit cb_T_isDigit 1 (Option.some Jvm.ClassFile.FieldType.boolean) 1 := ⟨zm_584, zm_55, by decide +kernel, by decide +kernel, by decide +kernel⟩
theorem zy_T_isLetter_ok : zx_y cy_T_isLetter cb_T_isLetter 1 (Option.some Jvm.ClassFile.FieldType.boolean) 1 := ⟨zm_595, zm_55, by decide +kernel, by decide +kernel, by decide +kernel⟩
theorem zy_JA_fill_ok : zx_y cy_JA_fill cb_JA_fill 4 (Option.none : Option Jvm.ClassFile.FieldType) 2 := ⟨zm_343, zm_67, by decide +kernel, by decide +kernel, by decide +kernel⟩
end
section
theorem zw_max1 : Cond.static Lib.Math.max.name ∈ zc_T := zm_422
theorem zw_max2 : Cond.initialized "java/lang/Math" ∈ zc_T := zm_62
theorem zw_max3 : Cond.code Lib.Math.max.name Lib.Math.max.code 2 (some .int) ∈ zc_T := zc_in 423 (by decide +kernel) (by decide +kernel)
theorem zw_min1 : Cond.static Lib.Math.min.name ∈ zc_T := zm_547
theorem zw_min3 : Cond.code Lib.Math.min.name Lib.Math.min.code 2 (some .int) ∈ zc_T := zc_in 548 (by decide +kernel) (by decide +kernel)
/-! calls by what they answer -/
section ZC
variable {g : zx_G} {own : String} {cc : ByteArray} {nL : Nat} {ret : Option FieldType} {ini : Bool} {rm : Room} {mc ms : Nat} {Post : Option Value → zx_M → Nat → Prop} {pc : Nat} {lv : List (Nat × Value)} {rest : List Value} {σ : zx_M} {sz kc ks : Nat}
variable {y : MethodName} {bytes : ByteArray} {maxL index n : Nat} {r : Option FieldType} {rm' : Room} {b : Nat} {As : List Value} {ci : Nat} {q : vw_C} {fs : List Value} {st0 : List Value} {host : String}
/-- the answer is X, and nothing has changed -/
def zPp (X : Int32) (σ : zx_M) (sz : Nat) : Option Value → zx_M → Nat → Prop := zPi (fun v σ' sz' => v = X ∧ σ' = σ ∧ sz' = sz)
theorem zPp_mk {X v : Int32} {σ : zx_M} {sz : Nat} (h : v = X) : zPp X σ sz (some (.int v)) σ sz := ⟨v, rfl, h, rfl, rfl⟩
theorem ze_callVp {X : Int32} (hM : zM g y bytes maxL r rm' 0 0 (.ref b :: As) σ sz (zPp X σ sz)) (hz : rm'.cells = 0 ∧ rm'.slots = 0) (hy : zx_y y bytes maxL r n) (hlink : Cond.methodLink own index y ∈ zc_T) (hinst : Cond.instanceMethod y ∈ zc_T) (hsel : Cond.selects y.cls y y ∈ zc_T) (hcl : zc_cl[ci]? = some q) (hq : q.1 = y.cls)
    (hR : rm'.frames + 1 ≤ rm.frames ∧ 8 + (maxL + 11) + rm'.locals ≤ rm.locals) (hf : kc ≤ rm.cells ∧ ks ≤ rm.slots) (hd : decode cc pc = .ok (.invokevirtual index, 3)) (he : σ b = some (.inr (ci, fs))) (hst : st0 = As.reverse ++ .ref b :: rest) (hn : As.length = n) (hrest : (rest.map fun v => v.category).sum ≤ 8)
    (k : zE g own cc nL ret ini rm mc ms Post (pc + 3) lv (.int X :: rest) σ sz kc ks) : zE g own cc nL ret ini rm mc ms Post pc lv st0 σ sz kc ks := by
  refine ze_callV (rm' := rm') (by rw [hz.1, hz.2]; exact hM) hy hlink hinst hsel hcl hq hR (by rw [hz.1, hz.2]; exact hf) hd he hst hn hrest ?_
  rw [hz.1, hz.2]
  intro r σ' sz' h
  obtain ⟨v, rfl, rfl, rfl, rfl⟩ := h
  exact k
theorem ze_callVi {P : Int32 → zx_M → Nat → Prop} {mc' ms' : Nat} (hM : zM g y bytes maxL r rm' mc' ms' (.ref b :: As) σ sz (zPi P)) (hz : rm'.cells = mc' ∧ rm'.slots = ms') (hy : zx_y y bytes maxL r n) (hlink : Cond.methodLink own index y ∈ zc_T) (hinst : Cond.instanceMethod y ∈ zc_T) (hsel : Cond.selects y.cls y y ∈ zc_T) (hcl : zc_cl[ci]? = some q) (hq : q.1 = y.cls)
    (hR : rm'.frames + 1 ≤ rm.frames ∧ 8 + (maxL + 11) + rm'.locals ≤ rm.locals) (hf : kc + mc' ≤ rm.cells ∧ ks + ms' ≤ rm.slots) (hd : decode cc pc = .ok (.invokevirtual index, 3)) (he : σ b = some (.inr (ci, fs))) (hst : st0 = As.reverse ++ .ref b :: rest) (hn : As.length = n) (hrest : (rest.map fun v => v.category).sum ≤ 8)
    (k : ∀ v σ' sz', P v σ' sz' → zE g own cc nL ret ini rm mc ms Post (pc + 3) lv (.int v :: rest) σ' sz' (kc + mc') (ks + ms')) : zE g own cc nL ret ini rm mc ms Post pc lv st0 σ sz kc ks := by
  obtain ⟨rfl, rfl⟩ := hz
  refine ze_callV (rm' := rm') hM hy hlink hinst hsel hcl hq hR hf hd he hst hn hrest ?_
  intro r σ' sz' h
  obtain ⟨v, rfl, h⟩ := h
  exact k v σ' sz' h
theorem ze_callVv {P : zx_M → Nat → Prop} {mc' ms' : Nat} (hM : zM g y bytes maxL r rm' mc' ms' (.ref b :: As) σ sz (zPv P)) (hz : rm'.cells = mc' ∧ rm'.slots = ms') (hy : zx_y y bytes maxL r n) (hlink : Cond.methodLink own index y ∈ zc_T) (hinst : Cond.instanceMethod y ∈ zc_T) (hsel : Cond.selects y.cls y y ∈ zc_T) (hcl : zc_cl[ci]? = some q) (hq : q.1 = y.cls)
    (hR : rm'.frames + 1 ≤ rm.frames ∧ 8 + (maxL + 11) + rm'.locals ≤ rm.locals) (hf : kc + mc' ≤ rm.cells ∧ ks + ms' ≤ rm.slots) (hd : decode cc pc = .ok (.invokevirtual index, 3)) (he : σ b = some (.inr (ci, fs))) (hst : st0 = As.reverse ++ .ref b :: rest) (hn : As.length = n) (hrest : (rest.map fun v => v.category).sum ≤ 8)
    (k : ∀ σ' sz', P σ' sz' → zE g own cc nL ret ini rm mc ms Post (pc + 3) lv rest σ' sz' (kc + mc') (ks + ms')) : zE g own cc nL ret ini rm mc ms Post pc lv st0 σ sz kc ks := by
  obtain ⟨rfl, rfl⟩ := hz
  refine ze_callV (rm' := rm') hM hy hlink hinst hsel hcl hq hR hf hd he hst hn hrest ?_
  intro r σ' sz' h
  obtain ⟨rfl, h⟩ := h
  exact k σ' sz' h
theorem ze_callVr {P : Nat → zx_M → Nat → Prop} {mc' ms' : Nat} (hM : zM g y bytes maxL r rm' mc' ms' (.ref b :: As) σ sz (zPr P)) (hz : rm'.cells = mc' ∧ rm'.slots = ms') (hy : zx_y y bytes maxL r n) (hlink : Cond.methodLink own index y ∈ zc_T) (hinst : Cond.instanceMethod y ∈ zc_T) (hsel : Cond.selects y.cls y y ∈ zc_T) (hcl : zc_cl[ci]? = some q) (hq : q.1 = y.cls)
    (hR : rm'.frames + 1 ≤ rm.frames ∧ 8 + (maxL + 11) + rm'.locals ≤ rm.locals) (hf : kc + mc' ≤ rm.cells ∧ ks + ms' ≤ rm.slots) (hd : decode cc pc = .ok (.invokevirtual index, 3)) (he : σ b = some (.inr (ci, fs))) (hst : st0 = As.reverse ++ .ref b :: rest) (hn : As.length = n) (hrest : (rest.map fun v => v.category).sum ≤ 8)
    (k : ∀ v σ' sz', P v σ' sz' → zE g own cc nL ret ini rm mc ms Post (pc + 3) lv (.ref v :: rest) σ' sz' (kc + mc') (ks + ms')) : zE g own cc nL ret ini rm mc ms Post pc lv st0 σ sz kc ks := by
  obtain ⟨rfl, rfl⟩ := hz
  refine ze_callV (rm' := rm') hM hy hlink hinst hsel hcl hq hR hf hd he hst hn hrest ?_
  intro r σ' sz' h
  obtain ⟨v, rfl, h⟩ := h
  exact k v σ' sz' h
theorem ze_callSp {X : Int32} (hM : zM g y bytes maxL r rm' 0 0 As σ sz (zPp X σ sz)) (hz : rm'.cells = 0 ∧ rm'.slots = 0) (hy : zx_y y bytes maxL r n) (hlink : Cond.methodLink own index y ∈ zc_T) (hstat : Cond.static y ∈ zc_T)
    (hR : rm'.frames + 1 ≤ rm.frames ∧ 8 + (maxL + 11) + rm'.locals ≤ rm.locals) (hf : kc ≤ rm.cells ∧ ks ≤ rm.slots) (hd : decode cc pc = .ok (.invokestatic index, 3)) (hst : st0 = As.reverse ++ rest) (hn : As.length = n) (hrest : (rest.map fun v => v.category).sum ≤ 8)
    (k : zE g own cc nL ret ini rm mc ms Post (pc + 3) lv (.int X :: rest) σ sz kc ks) : zE g own cc nL ret ini rm mc ms Post pc lv st0 σ sz kc ks := by
  refine ze_callS (rm' := rm') (by rw [hz.1, hz.2]; exact hM) hy hlink hstat hR (by rw [hz.1, hz.2]; exact hf) hd hst hn hrest ?_
  rw [hz.1, hz.2]
  intro r σ' sz' h
  obtain ⟨v, rfl, rfl, rfl, rfl⟩ := h
  exact k
theorem ze_callSNp {X : Int32} (hM : zM g y bytes maxL r rm' 0 0 As σ sz (zPp X σ sz)) (hz : rm'.cells = 0 ∧ rm'.slots = 0) (hy : zx_y y bytes maxL r n) (hlink : (own, index, y, host) ∈ zc_NM) (hstat : Cond.static y ∈ zc_T)
    (hR : rm'.frames + 1 ≤ rm.frames ∧ 8 + (maxL + 11) + rm'.locals ≤ rm.locals) (hf : kc ≤ rm.cells ∧ ks ≤ rm.slots) (hd : decode cc pc = .ok (.invokestatic index, 3)) (hst : st0 = As.reverse ++ rest) (hn : As.length = n) (hrest : (rest.map fun v => v.category).sum ≤ 8)
    (k : zE g own cc nL ret ini rm mc ms Post (pc + 3) lv (.int X :: rest) σ sz kc ks) : zE g own cc nL ret ini rm mc ms Post pc lv st0 σ sz kc ks := by
  refine ze_callSN (rm' := rm') (by rw [hz.1, hz.2]; exact hM) hy hlink hstat hR (by rw [hz.1, hz.2]; exact hf) hd hst hn hrest ?_
  rw [hz.1, hz.2]
  intro r σ' sz' h
  obtain ⟨v, rfl, rfl, rfl, rfl⟩ := h
  exact k
theorem ze_callSv {P : zx_M → Nat → Prop} {mc' ms' : Nat} (hM : zM g y bytes maxL r rm' mc' ms' As σ sz (zPv P)) (hz : rm'.cells = mc' ∧ rm'.slots = ms') (hy : zx_y y bytes maxL r n) (hlink : Cond.methodLink own index y ∈ zc_T) (hstat : Cond.static y ∈ zc_T)
    (hR : rm'.frames + 1 ≤ rm.frames ∧ 8 + (maxL + 11) + rm'.locals ≤ rm.locals) (hf : kc + mc' ≤ rm.cells ∧ ks + ms' ≤ rm.slots) (hd : decode cc pc = .ok (.invokestatic index, 3)) (hst : st0 = As.reverse ++ rest) (hn : As.length = n) (hrest : (rest.map fun v => v.category).sum ≤ 8)
    (k : ∀ σ' sz', P σ' sz' → zE g own cc nL ret ini rm mc ms Post (pc + 3) lv rest σ' sz' (kc + mc') (ks + ms')) : zE g own cc nL ret ini rm mc ms Post pc lv st0 σ sz kc ks := by
  obtain ⟨rfl, rfl⟩ := hz
  refine ze_callS (rm' := rm') hM hy hlink hstat hR hf hd hst hn hrest ?_
  intro r σ' sz' h
  obtain ⟨rfl, h⟩ := h
  exact k σ' sz' h
theorem ze_mmax {x y : Int32} (hlink : Cond.methodLink own index Lib.Math.max.name ∈ zc_T) (hd : decode cc pc = .ok (.invokestatic index, 3)) (h1 : 1 ≤ rm.frames) (h2 : (rest.map fun v => v.category).sum + 13 ≤ rm.locals) (h3 : kc ≤ rm.cells ∧ ks ≤ rm.slots) (k : zE g own cc nL ret ini rm mc ms Post (pc + 3) lv (.int (if x < y then y else x) :: rest) σ sz kc ks) : zE g own cc nL ret ini rm mc ms Post pc lv (.int y :: .int x :: rest) σ sz kc ks := by
  intro p e s m args below meth c hA H locs ls hW hS hl
  have hts := hA.2.2.2.2.2.1
  exact va_mmax hA.1 hA.2.1 (by rw [hA.2.2.2.1]; exact hl.1.symm) hA.2.2.2.2.1 (hts _ hlink) (hts _ zw_max1) (hts _ zw_max2) (hts _ zw_max3) h1 h2 h3.1 h3.2 hd (k p e s m args below meth c hA H locs ls hW hS hl)
theorem ze_mmin {x y : Int32} (hlink : Cond.methodLink own index Lib.Math.min.name ∈ zc_T) (hd : decode cc pc = .ok (.invokestatic index, 3)) (h1 : 1 ≤ rm.frames) (h2 : (rest.map fun v => v.category).sum + 13 ≤ rm.locals) (h3 : kc ≤ rm.cells ∧ ks ≤ rm.slots) (k : zE g own cc nL ret ini rm mc ms Post (pc + 3) lv (.int (if y < x then y else x) :: rest) σ sz kc ks) : zE g own cc nL ret ini rm mc ms Post pc lv (.int y :: .int x :: rest) σ sz kc ks := by
  intro p e s m args below meth c hA H locs ls hW hS hl
  have hts := hA.2.2.2.2.2.1
  exact va_mmin hA.1 hA.2.1 (by rw [hA.2.2.2.1]; exact hl.1.symm) hA.2.2.2.2.1 (hts _ hlink) (hts _ zw_min1) (hts _ zw_max2) (hts _ zw_min3) h1 h2 h3.1 h3.2 hd (k p e s m args below meth c hA H locs ls hW hS hl)
end ZC
theorem zb_f {b : Bool} (h : zb b = 0) : b = false := by cases b <;> simp_all [zb]
theorem zb_t {b : Bool} (h : ¬ zb b = 0) : b = true := by cases b <;> simp_all [zb]
theorem zi_ltz {n : Nat} {x : Int32} (h : x < 0) : zi n x = none := zi_lo (fun h2 => by rw [Int32.lt_iff_toInt_lt] at h; rw [Int32.le_iff_toInt_le] at h2; omega)
theorem zi_ge {n : Nat} {x : Int32} (h : nI n ≤ x) : zi n x = none := zi_hi (fun h2 => by rw [Int32.lt_iff_toInt_lt] at h2; rw [Int32.le_iff_toInt_le] at h; omega)
theorem zi_ok {n : Nat} {x : Int32} (h0 : ¬ x < 0) (h1 : ¬ nI n ≤ x) : zi n x = some x.toNatClampNeg := zi_of (by rw [Int32.lt_iff_toInt_lt] at h0; rw [Int32.le_iff_toInt_le]; omega) (by rw [Int32.le_iff_toInt_le] at h1; rw [Int32.lt_iff_toInt_lt]; omega)
/-- the place before a place -/
def zp : Nat → Int32
  | 0 => -1
  | k + 1 => nI k
theorem zp_sub (k : Nat) : nI k - 1 = zp k := by
  cases k with
  | zero => decide
  | succ k => exact nI_pred k
theorem zp_add (k : Nat) : nI k + (-1) = zp k := by
  cases k with
  | zero => decide
  | succ k => exact pk_m1 k
theorem zob.upn {g : zx_G} {σ : zx_M} {a ci b : Nat} {e : va_E} {fs : List Value} {ks : List (Nat × Nat)} {R : Nat → Nat → Int32} (h : zob g σ a ci fs ks R) (m : Nat) (hm : ks.length = m) (hd : b < a ∨ a + m < b) : zob g (zx_up σ b e) a ci fs ks R := h.up (by rw [hm]; exact hd)
theorem zob.frn {g : zx_G} {σ σ' : zx_M} {a ci : Nat} {fs : List Value} {ks : List (Nat × Nat)} {R : Nat → Nat → Int32} (h : zob g σ a ci fs ks R) {lo len : Nat} (hf : zfr σ σ' lo len) (m : Nat) (hm : ks.length = m) (hd : a + m < lo ∨ lo + len ≤ a) : zob g σ' a ci fs ks R := h.fr hf (by rw [hm]; exact hd)
/-! the classes' objects -/
abbrev zkL : List (Nat × Nat) := [(0, 100), (0, 100), (0, 100), (0, 100), (0, 100), (0, 100), (0, 100), (0, 100), (0, 100), (0, 100), (0, 1600)]
abbrev zl (g : zx_G) (σ : zx_M) (a n : Nat) (R : Nat → Nat → Int32) : Prop := zob g σ a 1 [.int (nI n), .ref (a + 1), .ref (a + 2), .ref (a + 3), .ref (a + 4), .ref (a + 5), .ref (a + 6), .ref (a + 7), .ref (a + 8), .ref (a + 9), .ref (a + 10), .ref (a + 11)] zkL R
end
section
/-! LEVELS: the methods that only read -/
theorem zi_ok2 {n : Nat} {x : Int32} (h0 : ¬ x < 0) (h1 : x < nI n) : zi n x = some x.toNatClampNeg := zi_of (Int32.not_lt.mp h0) h1
def zany (p : Nat → Bool) : Nat → Nat → Bool
  | _, 0 => false
  | lo, k + 1 => if p lo then true else zany p (lo + 1) k
def zfold {α : Type} (f : α → Nat → α) : α → Nat → Nat → α
  | s, _, 0 => s
  | s, lo, k + 1 => zfold f (f s lo) (lo + 1) k
/-- an index or -1 -/
def zo : Option Nat → Int32
  | none => -1
  | some j => nI j
theorem zo_none {o : Option Nat} (ho : ∀ j, o = some j → j < 2 ^ 31) (h : zo o = -1) : o = none := by
  cases o with
  | none => rfl
  | some j => exact absurd (ho j rfl) (fun hj => by have h1 := nI_toInt hj; rw [show nI j = -1 from h] at h1; have h2 : (-1 : Int32).toInt = -1 := (by decide); omega)
theorem zo_ne {o : Option Nat} (h : ¬ zo o = -1) : ∃ j, o = some j := by
  cases o with
  | none => exact absurd rfl h
  | some j => exact ⟨j, rfl⟩
def zl_lod (d : Nat → Int32) (w : Int32) : Nat → Int32
  | 0 => -1
  | k + 1 => if d k = w then nI k else zl_lod d w k
def zl_ord (a b : Int32) : Int32 := if a = b then 0 else if a < b then -1 else 1
def zl_dates (R : Nat → Nat → Int32) (a b : Nat) : Int32 :=
  if R 4 a = -1 then (if R 4 b = -1 then zl_ord 1 1 else zl_ord 1 0) else if R 4 b = -1 then zl_ord 0 1 else
  if R 4 a = R 4 b then (if R 5 a = R 5 b then zl_ord (R 6 a) (R 6 b) else zl_ord (R 5 a) (R 5 b)) else zl_ord (R 4 a) (R 4 b)
def zl_rep (R : Nat → Nat → Int32) (j : Nat) : Bool := zany (fun x => decide (R 2 x = R 2 j) && decide (R 1 x = R 1 j)) 0 j
def zl_wi (n : Nat) (ab : Nat → Int32) (top : Int32) : Nat → Int32 → Bool
  | 0, _ => false
  | k + 1, x => match zi n x with
    | none => false
    | some j => if x = top then true else zl_wi n ab top k (ab j)
def zl_dw (n : Nat) (R : Nat → Nat → Int32) (top : Int32) : Int32 := zfold (fun s x => if zl_wi n (R 2) top 9 (nI x) then (if s < R 3 x then R 3 x else s) else s) 0 0 n
def zl_may (n : Nat) (R : Nat → Nat → Int32) (i u : Nat) : Bool := if zl_wi n (R 2) (nI i) 9 (nI u) then false else if R 0 i < R 0 u then false else if R 0 u = 3 then false else if 8 < zl_dw n R (nI i) + (R 3 u + 1 - R 3 i) then false else true
def zl_beh (R : Nat → Nat → Int32) (a b : Nat) : Bool := if R 1 a = R 1 b then decide (b < a) else decide (R 1 b < R 1 a)
def zl_la (R : Nat → Nat → Int32) (x : Nat) : Option Nat → Bool
  | none => true
  | some l => zl_beh R x l
def zl_lb (R : Nat → Nat → Int32) (x : Nat) : Option Nat → Bool
  | none => true
  | some b => zl_beh R b x
def zl_nxt1 (R : Nat → Nat → Int32) (top : Int32) (last : Option Nat) (s : Option Nat) (x : Nat) : Option Nat :=
  if R 2 x = top then (if zl_la R x last then (if zl_lb R x s then some x else s) else s) else s
def zl_nxt (n : Nat) (R : Nat → Nat → Int32) (top : Int32) (last : Option Nat) : Option Nat := zfold (zl_nxt1 R top last) none 0 n
theorem zl_nxt1_lt {R : Nat → Nat → Int32} {top : Int32} {last s : Option Nat} {x m : Nat} (hs : ∀ j, s = some j → j < m) (hx : x < m) : ∀ j, zl_nxt1 R top last s x = some j → j < m := by
  intro j hj
  unfold zl_nxt1 at hj
  split at hj
  · split at hj
    · split at hj
      · cases hj; exact hx
      · exact hs j hj
    · exact hs j hj
  · exact hs j hj

abbrev zr_L_has : Room := { frames := 0, cells := 0, slots := 0, locals := 0 }
set_option maxRecDepth 100000 in
set_option maxHeartbeats 4000000 in
theorem kc_L_has {g : zx_G} {σ : zx_M} {sz : Nat} {a n : Nat} {R : Nat → Nat → Int32} {i : Int32} (h : zl g σ a n R) : zM g cy_L_has cb_L_has 2 (Option.some Jvm.ClassFile.FieldType.boolean) zr_L_has 0 0 [.ref a, .int i] σ sz (zPp (zb (zi n i).isSome) σ sz) := by
  refine zM_of (lv := [(0, .ref a), (1, .int i)]) (ini := false) (by decide) rfl (by decide) (Nat.le_of_ble_eq_true rfl) rfl ?_
  refine ze_iload_n 1 cd_L_has_0 rfl rfl ?_
  refine ze_if_lt (tgt := 16) cd_L_has_1 (by decide) (fun c1 => ?_) (fun c1 => ?_)
  · skip
    refine ze_iconst (v := nI 0) cd_L_has_16 (by decide) ?_
    refine ze_zret cd_L_has_17 rfl (by decide) (by decide) (by decide) (zPp_mk ?_)
    first | (rw [zi_ltz c1]; rfl) | (rw [zi_hi c2]; rfl) | (rw [zi_ok2 c1 c2]; rfl)
  · skip
    refine ze_iload_n 1 cd_L_has_4 rfl rfl ?_
    refine ze_aload_n 0 cd_L_has_5 rfl rfl ?_
    refine ze_get zin_L (v := .int (nI n)) (ci := 1) rfl 0 (by decide) zm_88 rfl cd_L_has_6 h.1 rfl ?_
    refine ze_icmp_ge (tgt := 16) cd_L_has_9 (by decide) (fun c2 => ?_) (fun c2 => ?_)
    · skip
      have c2 : ¬ i < (nI n) := Int32.not_lt.mpr c2
      refine ze_iconst (v := nI 0) cd_L_has_16 (by decide) ?_
      refine ze_zret cd_L_has_17 rfl (by decide) (by decide) (by decide) (zPp_mk ?_)
      first | (rw [zi_ltz c1]; rfl) | (rw [zi_hi c2]; rfl) | (rw [zi_ok2 c1 c2]; rfl)
    · skip
      have c2 : i < (nI n) := Int32.not_le.mp c2
      refine ze_iconst (v := nI 1) cd_L_has_12 (by decide) ?_
      refine ze_goto (tgt := 17) cd_L_has_13 (by decide) ?_
      refine ze_zret cd_L_has_17 rfl (by decide) (by decide) (by decide) (zPp_mk ?_)
      first | (rw [zi_ltz c1]; rfl) | (rw [zi_hi c2]; rfl) | (rw [zi_ok2 c1 c2]; rfl)
abbrev zr_L_titleSign : Room := { frames := 0, cells := 0, slots := 0, locals := 0 }
set_option maxRecDepth 100000 in
set_option maxHeartbeats 4000000 in
theorem kc_L_titleSign {g : zx_G} {σ : zx_M} {sz : Nat} {a n : Nat} {R : Nat → Nat → Int32} {j q : Nat} (h : zl g σ a n R) (hj : j < 100) (hq : q < 16) : zM g cy_L_titleSign cb_L_titleSign 3 (Option.some Jvm.ClassFile.FieldType.int) zr_L_titleSign 0 0 [.ref a, .int (nI j), .int (nI q)] σ sz (zPp (R 10 (j * 16 + q)) σ sz) := by
  refine zM_of (lv := [(0, .ref a), (1, .int (nI j)), (2, .int (nI q))]) (ini := false) (by decide) rfl (by decide) (Nat.le_of_ble_eq_true rfl) rfl ?_
  refine ze_aload_n 0 cd_L_titleSign_0 rfl rfl ?_
  refine ze_get zin_L (v := .ref (a + 11)) (ci := 1) rfl 11 (by decide) zm_137 rfl cd_L_titleSign_1 h.1 rfl ?_
  refine ze_iload_n 1 cd_L_titleSign_4 rfl rfl ?_
  refine ze_bipush (v := nI 16) cd_L_titleSign_5 (by decide) ?_
  refine ze_imul cd_L_titleSign_7 ?_
  refine ze_top (pk_mul _ _) ?_
  refine ze_iload_n 2 cd_L_titleSign_8 rfl rfl ?_
  refine ze_iadd cd_L_titleSign_9 ?_
  refine ze_top (nI_add _ _) ?_
  refine ze_iald (j := (j * 16) + q) cd_L_titleSign_10 (h.2 10 _ rfl) rfl (by omega) (by decide) ?_
  refine ze_iret cd_L_titleSign_11 rfl (by decide) (by decide) (zPp_mk ?_)
  rfl
abbrev zr_F_order : Room := { frames := 0, cells := 0, slots := 0, locals := 0 }
set_option maxRecDepth 100000 in
set_option maxHeartbeats 4000000 in
theorem kc_F_order {g : zx_G} {σ : zx_M} {sz : Nat} {x y : Int32}  : zM g cy_F_order cb_F_order 2 (Option.some Jvm.ClassFile.FieldType.int) zr_F_order 0 0 [.int x, .int y] σ sz (zPp (zl_ord x y) σ sz) := by
  refine zM_of (lv := [(0, .int x), (1, .int y)]) (ini := false) (by decide) rfl (by decide) (Nat.le_of_ble_eq_true rfl) rfl ?_
  refine ze_iload_n 0 cd_F_order_0 rfl rfl ?_
  refine ze_iload_n 1 cd_F_order_1 rfl rfl ?_
  refine ze_icmp_ne (tgt := 7) cd_F_order_2 (by decide) (fun c1 => ?_) (fun c1 => ?_)
  · skip
    refine ze_iload_n 0 cd_F_order_7 rfl rfl ?_
    refine ze_iload_n 1 cd_F_order_8 rfl rfl ?_
    refine ze_icmp_ge (tgt := 16) cd_F_order_9 (by decide) (fun c2 => ?_) (fun c2 => ?_)
    · skip
      have c2 : ¬ x < y := Int32.not_lt.mpr c2
      refine ze_iconst (v := nI 1) cd_F_order_16 (by decide) ?_
      refine ze_iret cd_F_order_17 rfl (by decide) (by decide) (zPp_mk ?_)
      simp_all [zl_ord, nI]
    · skip
      have c2 : x < y := Int32.not_le.mp c2
      refine ze_iconst (v := (-1 : Int32)) cd_F_order_12 (by decide) ?_
      refine ze_goto (tgt := 17) cd_F_order_13 (by decide) ?_
      refine ze_iret cd_F_order_17 rfl (by decide) (by decide) (zPp_mk ?_)
      simp_all [zl_ord, nI]
  · skip
    refine ze_iconst (v := nI 0) cd_F_order_5 (by decide) ?_
    refine ze_iret cd_F_order_6 rfl (by decide) (by decide) (zPp_mk ?_)
    simp_all [zl_ord, nI]
abbrev zr_L_orderOfDates : Room := { frames := 1, cells := 0, slots := 0, locals := 21 }
set_option maxRecDepth 100000 in
set_option maxHeartbeats 4000000 in
theorem kc_L_orderOfDates {g : zx_G} {σ : zx_M} {sz : Nat} {a n : Nat} {R : Nat → Nat → Int32} {i j : Nat} (h : zl g σ a n R) (hi : i < 100) (hj : j < 100) : zM g cy_L_orderOfDates cb_L_orderOfDates 5 (Option.some Jvm.ClassFile.FieldType.int) zr_L_orderOfDates 0 0 [.ref a, .int (nI i), .int (nI j)] σ sz (zPp (zl_dates R i j) σ sz) := by
  refine zM_of (lv := [(0, .ref a), (1, .int (nI i)), (2, .int (nI j))]) (ini := false) (by decide) rfl (by decide) (Nat.le_of_ble_eq_true rfl) rfl ?_
  refine ze_aload_n 0 cd_L_orderOfDates_0 rfl rfl ?_
  refine ze_get zin_L (v := .ref (a + 5)) (ci := 1) rfl 5 (by decide) zm_111 rfl cd_L_orderOfDates_1 h.1 rfl ?_
  refine ze_iload_n 1 cd_L_orderOfDates_4 rfl rfl ?_
  refine ze_iald (j := i) cd_L_orderOfDates_5 (h.2 4 _ rfl) rfl (by omega) (by decide) ?_
  refine ze_iconst (v := (-1 : Int32)) cd_L_orderOfDates_6 (by decide) ?_
  refine ze_icmp_ne (tgt := 14) cd_L_orderOfDates_7 (by decide) (fun c1 => ?_) (fun c1 => ?_)
  · skip
    refine ze_iconst (v := nI 0) cd_L_orderOfDates_14 (by decide) ?_
    refine ze_istore_n (lv' := [(3, .int (nI 0)), (0, .ref a), (1, .int (nI i)), (2, .int (nI j))]) cd_L_orderOfDates_15 rfl (by decide) rfl ?_
    refine ze_aload_n 1 cd_L_orderOfDates_16 rfl rfl ?_
    refine ze_get zin_L (v := .ref (a + 5)) (ci := 1) rfl 5 (by decide) zm_111 rfl cd_L_orderOfDates_17 h.1 rfl ?_
    refine ze_iload_n 3 cd_L_orderOfDates_20 rfl rfl ?_
    refine ze_iald (j := j) cd_L_orderOfDates_21 (h.2 4 _ rfl) rfl (by omega) (by decide) ?_
    refine ze_iconst (v := (-1 : Int32)) cd_L_orderOfDates_22 (by decide) ?_
    refine ze_icmp_ne (tgt := 30) cd_L_orderOfDates_23 (by decide) (fun c2 => ?_) (fun c2 => ?_)
    · skip
      refine ze_iconst (v := nI 0) cd_L_orderOfDates_30 (by decide) ?_
      refine ze_istore (lv' := [(4, .int (nI 0)), (3, .int (nI 0)), (0, .ref a), (1, .int (nI i)), (2, .int (nI j))]) cd_L_orderOfDates_31 (by decide) rfl ?_
      refine ze_iload_n 1 cd_L_orderOfDates_33 rfl rfl ?_
      refine ze_if_ne (tgt := 42) cd_L_orderOfDates_34 (by decide) (fun c3 => ?_) (fun c3 => ?_)
      · skip
        have c3 := c3; rw [← nI_0] at c3
        have c3 : ¬ 0 = 0 := fun h9 => c3 (by rw [h9])
        refine ze_iload_n 1 cd_L_orderOfDates_42 rfl rfl ?_
        refine ze_if_eq (tgt := 50) cd_L_orderOfDates_43 (by decide) (fun c4 => ?_) (fun c4 => ?_)
        · skip
          have c4 := c4; rw [← nI_0] at c4
          have c4 : 0 = 0 := (nI_eq (by omega) (by omega)).mp c4
          refine ze_iconst (v := nI 0) cd_L_orderOfDates_50 (by decide) ?_
          refine ze_iload 0 cd_L_orderOfDates_51 rfl ?_
          refine ze_if_eq (tgt := 60) cd_L_orderOfDates_53 (by decide) (fun c5 => ?_) (fun c5 => ?_)
          · skip
            have c5 := c5; rw [← nI_0] at c5
            have c5 : 0 = 0 := (nI_eq (by omega) (by omega)).mp c5
            refine ze_iconst (v := nI 0) cd_L_orderOfDates_60 (by decide) ?_
            refine ze_callSNp (rm' := zr_F_order) (As := [.int (nI 0), .int (nI 0)]) (rest := []) kc_F_order ⟨rfl, rfl⟩ zy_F_order_ok (host := "FindingAid") (by decide) zm_331 (by decide) (by decide) cd_L_orderOfDates_61 rfl rfl (Nat.le_of_ble_eq_true rfl) ?_
            refine ze_iret cd_L_orderOfDates_64 rfl (by decide) (by decide) (zPp_mk ?_)
            simp_all [zl_dates, nI]
          · skip
            have c5 := c5; rw [← nI_0] at c5
            have c5 : ¬ 0 = 0 := fun h9 => c5 (by rw [h9])
            refine ze_iconst (v := nI 1) cd_L_orderOfDates_56 (by decide) ?_
            refine ze_goto (tgt := 61) cd_L_orderOfDates_57 (by decide) ?_
            refine ze_callSNp (rm' := zr_F_order) (As := [.int (nI 0), .int (nI 1)]) (rest := []) kc_F_order ⟨rfl, rfl⟩ zy_F_order_ok (host := "FindingAid") (by decide) zm_331 (by decide) (by decide) cd_L_orderOfDates_61 rfl rfl (Nat.le_of_ble_eq_true rfl) ?_
            refine ze_iret cd_L_orderOfDates_64 rfl (by decide) (by decide) (zPp_mk ?_)
            simp_all [zl_dates, nI]
        · skip
          have c4 := c4; rw [← nI_0] at c4
          have c4 : ¬ 0 = 0 := fun h9 => c4 (by rw [h9])
          refine ze_iconst (v := nI 1) cd_L_orderOfDates_46 (by decide) ?_
          refine ze_goto (tgt := 51) cd_L_orderOfDates_47 (by decide) ?_
          refine ze_iload 0 cd_L_orderOfDates_51 rfl ?_
          refine ze_if_eq (tgt := 60) cd_L_orderOfDates_53 (by decide) (fun c6 => ?_) (fun c6 => ?_)
          · skip
            have c6 := c6; rw [← nI_0] at c6
            have c6 : 0 = 0 := (nI_eq (by omega) (by omega)).mp c6
            refine ze_iconst (v := nI 0) cd_L_orderOfDates_60 (by decide) ?_
            refine ze_callSNp (rm' := zr_F_order) (As := [.int (nI 1), .int (nI 0)]) (rest := []) kc_F_order ⟨rfl, rfl⟩ zy_F_order_ok (host := "FindingAid") (by decide) zm_331 (by decide) (by decide) cd_L_orderOfDates_61 rfl rfl (Nat.le_of_ble_eq_true rfl) ?_
            refine ze_iret cd_L_orderOfDates_64 rfl (by decide) (by decide) (zPp_mk ?_)
            simp_all [zl_dates, nI]
          · skip
            have c6 := c6; rw [← nI_0] at c6
            have c6 : ¬ 0 = 0 := fun h9 => c6 (by rw [h9])
            refine ze_iconst (v := nI 1) cd_L_orderOfDates_56 (by decide) ?_
            refine ze_goto (tgt := 61) cd_L_orderOfDates_57 (by decide) ?_
            refine ze_callSNp (rm' := zr_F_order) (As := [.int (nI 1), .int (nI 1)]) (rest := []) kc_F_order ⟨rfl, rfl⟩ zy_F_order_ok (host := "FindingAid") (by decide) zm_331 (by decide) (by decide) cd_L_orderOfDates_61 rfl rfl (Nat.le_of_ble_eq_true rfl) ?_
            refine ze_iret cd_L_orderOfDates_64 rfl (by decide) (by decide) (zPp_mk ?_)
            simp_all [zl_dates, nI]
      · skip
        have c3 := c3; rw [← nI_0] at c3
        have c3 : 0 = 0 := (nI_eq (by omega) (by omega)).mp c3
        refine ze_iload 0 cd_L_orderOfDates_37 rfl ?_
        refine ze_if_eq (tgt := 65) cd_L_orderOfDates_39 (by decide) (fun c7 => ?_) (fun c7 => ?_)
        · skip
          have c7 := c7; rw [← nI_0] at c7
          have c7 : 0 = 0 := (nI_eq (by omega) (by omega)).mp c7
          refine ze_aload_n 2 cd_L_orderOfDates_65 rfl rfl ?_
          refine ze_get zin_L (v := .ref (a + 5)) (ci := 1) rfl 5 (by decide) zm_111 rfl cd_L_orderOfDates_66 h.1 rfl ?_
          refine ze_iload_n 3 cd_L_orderOfDates_69 rfl rfl ?_
          refine ze_iald (j := i) cd_L_orderOfDates_70 (h.2 4 _ rfl) rfl (by omega) (by decide) ?_
          refine ze_aload_n 2 cd_L_orderOfDates_71 rfl rfl ?_
          refine ze_get zin_L (v := .ref (a + 5)) (ci := 1) rfl 5 (by decide) zm_111 rfl cd_L_orderOfDates_72 h.1 rfl ?_
          refine ze_iload_n 4 cd_L_orderOfDates_75 rfl rfl ?_
          refine ze_iald (j := j) cd_L_orderOfDates_76 (h.2 4 _ rfl) rfl (by omega) (by decide) ?_
          refine ze_icmp_eq (tgt := 96) cd_L_orderOfDates_77 (by decide) (fun c8 => ?_) (fun c8 => ?_)
          · skip
            refine ze_aload_n 2 cd_L_orderOfDates_96 rfl rfl ?_
            refine ze_get zin_L (v := .ref (a + 6)) (ci := 1) rfl 6 (by decide) zm_115 rfl cd_L_orderOfDates_97 h.1 rfl ?_
            refine ze_iload_n 3 cd_L_orderOfDates_100 rfl rfl ?_
            refine ze_iald (j := i) cd_L_orderOfDates_101 (h.2 5 _ rfl) rfl (by omega) (by decide) ?_
            refine ze_aload_n 2 cd_L_orderOfDates_102 rfl rfl ?_
            refine ze_get zin_L (v := .ref (a + 6)) (ci := 1) rfl 6 (by decide) zm_115 rfl cd_L_orderOfDates_103 h.1 rfl ?_
            refine ze_iload_n 4 cd_L_orderOfDates_106 rfl rfl ?_
            refine ze_iald (j := j) cd_L_orderOfDates_107 (h.2 5 _ rfl) rfl (by omega) (by decide) ?_
            refine ze_icmp_eq (tgt := 127) cd_L_orderOfDates_108 (by decide) (fun c9 => ?_) (fun c9 => ?_)
            · skip
              refine ze_aload_n 2 cd_L_orderOfDates_127 rfl rfl ?_
              refine ze_get zin_L (v := .ref (a + 7)) (ci := 1) rfl 7 (by decide) zm_119 rfl cd_L_orderOfDates_128 h.1 rfl ?_
              refine ze_iload_n 3 cd_L_orderOfDates_131 rfl rfl ?_
              refine ze_iald (j := i) cd_L_orderOfDates_132 (h.2 6 _ rfl) rfl (by omega) (by decide) ?_
              refine ze_aload_n 2 cd_L_orderOfDates_133 rfl rfl ?_
              refine ze_get zin_L (v := .ref (a + 7)) (ci := 1) rfl 7 (by decide) zm_119 rfl cd_L_orderOfDates_134 h.1 rfl ?_
              refine ze_iload_n 4 cd_L_orderOfDates_137 rfl rfl ?_
              refine ze_iald (j := j) cd_L_orderOfDates_138 (h.2 6 _ rfl) rfl (by omega) (by decide) ?_
              refine ze_callSNp (rm' := zr_F_order) (As := [.int (R 6 i), .int (R 6 j)]) (rest := []) kc_F_order ⟨rfl, rfl⟩ zy_F_order_ok (host := "FindingAid") (by decide) zm_331 (by decide) (by decide) cd_L_orderOfDates_139 rfl rfl (Nat.le_of_ble_eq_true rfl) ?_
              refine ze_iret cd_L_orderOfDates_142 rfl (by decide) (by decide) (zPp_mk ?_)
              simp_all [zl_dates, nI]
            · skip
              refine ze_aload_n 2 cd_L_orderOfDates_111 rfl rfl ?_
              refine ze_get zin_L (v := .ref (a + 6)) (ci := 1) rfl 6 (by decide) zm_115 rfl cd_L_orderOfDates_112 h.1 rfl ?_
              refine ze_iload_n 3 cd_L_orderOfDates_115 rfl rfl ?_
              refine ze_iald (j := i) cd_L_orderOfDates_116 (h.2 5 _ rfl) rfl (by omega) (by decide) ?_
              refine ze_aload_n 2 cd_L_orderOfDates_117 rfl rfl ?_
              refine ze_get zin_L (v := .ref (a + 6)) (ci := 1) rfl 6 (by decide) zm_115 rfl cd_L_orderOfDates_118 h.1 rfl ?_
              refine ze_iload_n 4 cd_L_orderOfDates_121 rfl rfl ?_
              refine ze_iald (j := j) cd_L_orderOfDates_122 (h.2 5 _ rfl) rfl (by omega) (by decide) ?_
              refine ze_callSNp (rm' := zr_F_order) (As := [.int (R 5 i), .int (R 5 j)]) (rest := []) kc_F_order ⟨rfl, rfl⟩ zy_F_order_ok (host := "FindingAid") (by decide) zm_331 (by decide) (by decide) cd_L_orderOfDates_123 rfl rfl (Nat.le_of_ble_eq_true rfl) ?_
              refine ze_iret cd_L_orderOfDates_126 rfl (by decide) (by decide) (zPp_mk ?_)
              simp_all [zl_dates, nI]
          · skip
            refine ze_aload_n 2 cd_L_orderOfDates_80 rfl rfl ?_
            refine ze_get zin_L (v := .ref (a + 5)) (ci := 1) rfl 5 (by decide) zm_111 rfl cd_L_orderOfDates_81 h.1 rfl ?_
            refine ze_iload_n 3 cd_L_orderOfDates_84 rfl rfl ?_
            refine ze_iald (j := i) cd_L_orderOfDates_85 (h.2 4 _ rfl) rfl (by omega) (by decide) ?_
            refine ze_aload_n 2 cd_L_orderOfDates_86 rfl rfl ?_
            refine ze_get zin_L (v := .ref (a + 5)) (ci := 1) rfl 5 (by decide) zm_111 rfl cd_L_orderOfDates_87 h.1 rfl ?_
            refine ze_iload_n 4 cd_L_orderOfDates_90 rfl rfl ?_
            refine ze_iald (j := j) cd_L_orderOfDates_91 (h.2 4 _ rfl) rfl (by omega) (by decide) ?_
            refine ze_callSNp (rm' := zr_F_order) (As := [.int (R 4 i), .int (R 4 j)]) (rest := []) kc_F_order ⟨rfl, rfl⟩ zy_F_order_ok (host := "FindingAid") (by decide) zm_331 (by decide) (by decide) cd_L_orderOfDates_92 rfl rfl (Nat.le_of_ble_eq_true rfl) ?_
            refine ze_iret cd_L_orderOfDates_95 rfl (by decide) (by decide) (zPp_mk ?_)
            simp_all [zl_dates, nI]
        · skip
          have c7 := c7; rw [← nI_0] at c7
          have c7 : ¬ 0 = 0 := fun h9 => c7 (by rw [h9])
          refine ze_iload_n 1 cd_L_orderOfDates_42 rfl rfl ?_
          refine ze_if_eq (tgt := 50) cd_L_orderOfDates_43 (by decide) (fun c10 => ?_) (fun c10 => ?_)
          · skip
            have c10 := c10; rw [← nI_0] at c10
            have c10 : 0 = 0 := (nI_eq (by omega) (by omega)).mp c10
            refine ze_iconst (v := nI 0) cd_L_orderOfDates_50 (by decide) ?_
            refine ze_iload 0 cd_L_orderOfDates_51 rfl ?_
            refine ze_if_eq (tgt := 60) cd_L_orderOfDates_53 (by decide) (fun c11 => ?_) (fun c11 => ?_)
            · skip
              have c11 := c11; rw [← nI_0] at c11
              have c11 : 0 = 0 := (nI_eq (by omega) (by omega)).mp c11
              refine ze_iconst (v := nI 0) cd_L_orderOfDates_60 (by decide) ?_
              refine ze_callSNp (rm' := zr_F_order) (As := [.int (nI 0), .int (nI 0)]) (rest := []) kc_F_order ⟨rfl, rfl⟩ zy_F_order_ok (host := "FindingAid") (by decide) zm_331 (by decide) (by decide) cd_L_orderOfDates_61 rfl rfl (Nat.le_of_ble_eq_true rfl) ?_
              refine ze_iret cd_L_orderOfDates_64 rfl (by decide) (by decide) (zPp_mk ?_)
              simp_all [zl_dates, nI]
            · skip
              have c11 := c11; rw [← nI_0] at c11
              have c11 : ¬ 0 = 0 := fun h9 => c11 (by rw [h9])
              refine ze_iconst (v := nI 1) cd_L_orderOfDates_56 (by decide) ?_
              refine ze_goto (tgt := 61) cd_L_orderOfDates_57 (by decide) ?_
              refine ze_callSNp (rm' := zr_F_order) (As := [.int (nI 0), .int (nI 1)]) (rest := []) kc_F_order ⟨rfl, rfl⟩ zy_F_order_ok (host := "FindingAid") (by decide) zm_331 (by decide) (by decide) cd_L_orderOfDates_61 rfl rfl (Nat.le_of_ble_eq_true rfl) ?_
              refine ze_iret cd_L_orderOfDates_64 rfl (by decide) (by decide) (zPp_mk ?_)
              simp_all [zl_dates, nI]
          · skip
            have c10 := c10; rw [← nI_0] at c10
            have c10 : ¬ 0 = 0 := fun h9 => c10 (by rw [h9])
            refine ze_iconst (v := nI 1) cd_L_orderOfDates_46 (by decide) ?_
            refine ze_goto (tgt := 51) cd_L_orderOfDates_47 (by decide) ?_
            refine ze_iload 0 cd_L_orderOfDates_51 rfl ?_
            refine ze_if_eq (tgt := 60) cd_L_orderOfDates_53 (by decide) (fun c12 => ?_) (fun c12 => ?_)
            · skip
              have c12 := c12; rw [← nI_0] at c12
              have c12 : 0 = 0 := (nI_eq (by omega) (by omega)).mp c12
              refine ze_iconst (v := nI 0) cd_L_orderOfDates_60 (by decide) ?_
              refine ze_callSNp (rm' := zr_F_order) (As := [.int (nI 1), .int (nI 0)]) (rest := []) kc_F_order ⟨rfl, rfl⟩ zy_F_order_ok (host := "FindingAid") (by decide) zm_331 (by decide) (by decide) cd_L_orderOfDates_61 rfl rfl (Nat.le_of_ble_eq_true rfl) ?_
              refine ze_iret cd_L_orderOfDates_64 rfl (by decide) (by decide) (zPp_mk ?_)
              simp_all [zl_dates, nI]
            · skip
              have c12 := c12; rw [← nI_0] at c12
              have c12 : ¬ 0 = 0 := fun h9 => c12 (by rw [h9])
              refine ze_iconst (v := nI 1) cd_L_orderOfDates_56 (by decide) ?_
              refine ze_goto (tgt := 61) cd_L_orderOfDates_57 (by decide) ?_
              refine ze_callSNp (rm' := zr_F_order) (As := [.int (nI 1), .int (nI 1)]) (rest := []) kc_F_order ⟨rfl, rfl⟩ zy_F_order_ok (host := "FindingAid") (by decide) zm_331 (by decide) (by decide) cd_L_orderOfDates_61 rfl rfl (Nat.le_of_ble_eq_true rfl) ?_
              refine ze_iret cd_L_orderOfDates_64 rfl (by decide) (by decide) (zPp_mk ?_)
              simp_all [zl_dates, nI]
    · skip
      refine ze_iconst (v := nI 1) cd_L_orderOfDates_26 (by decide) ?_
      refine ze_goto (tgt := 31) cd_L_orderOfDates_27 (by decide) ?_
      refine ze_istore (lv' := [(4, .int (nI 1)), (3, .int (nI 0)), (0, .ref a), (1, .int (nI i)), (2, .int (nI j))]) cd_L_orderOfDates_31 (by decide) rfl ?_
      refine ze_iload_n 1 cd_L_orderOfDates_33 rfl rfl ?_
      refine ze_if_ne (tgt := 42) cd_L_orderOfDates_34 (by decide) (fun c13 => ?_) (fun c13 => ?_)
      · skip
        have c13 := c13; rw [← nI_0] at c13
        have c13 : ¬ 0 = 0 := fun h9 => c13 (by rw [h9])
        refine ze_iload_n 1 cd_L_orderOfDates_42 rfl rfl ?_
        refine ze_if_eq (tgt := 50) cd_L_orderOfDates_43 (by decide) (fun c14 => ?_) (fun c14 => ?_)
        · skip
          have c14 := c14; rw [← nI_0] at c14
          have c14 : 0 = 0 := (nI_eq (by omega) (by omega)).mp c14
          refine ze_iconst (v := nI 0) cd_L_orderOfDates_50 (by decide) ?_
          refine ze_iload 0 cd_L_orderOfDates_51 rfl ?_
          refine ze_if_eq (tgt := 60) cd_L_orderOfDates_53 (by decide) (fun c15 => ?_) (fun c15 => ?_)
          · skip
            have c15 := c15; rw [← nI_0] at c15
            have c15 : 1 = 0 := (nI_eq (by omega) (by omega)).mp c15
            refine ze_iconst (v := nI 0) cd_L_orderOfDates_60 (by decide) ?_
            refine ze_callSNp (rm' := zr_F_order) (As := [.int (nI 0), .int (nI 0)]) (rest := []) kc_F_order ⟨rfl, rfl⟩ zy_F_order_ok (host := "FindingAid") (by decide) zm_331 (by decide) (by decide) cd_L_orderOfDates_61 rfl rfl (Nat.le_of_ble_eq_true rfl) ?_
            refine ze_iret cd_L_orderOfDates_64 rfl (by decide) (by decide) (zPp_mk ?_)
            simp_all [zl_dates, nI]
          · skip
            have c15 := c15; rw [← nI_0] at c15
            have c15 : ¬ 1 = 0 := fun h9 => c15 (by rw [h9])
            refine ze_iconst (v := nI 1) cd_L_orderOfDates_56 (by decide) ?_
            refine ze_goto (tgt := 61) cd_L_orderOfDates_57 (by decide) ?_
            refine ze_callSNp (rm' := zr_F_order) (As := [.int (nI 0), .int (nI 1)]) (rest := []) kc_F_order ⟨rfl, rfl⟩ zy_F_order_ok (host := "FindingAid") (by decide) zm_331 (by decide) (by decide) cd_L_orderOfDates_61 rfl rfl (Nat.le_of_ble_eq_true rfl) ?_
            refine ze_iret cd_L_orderOfDates_64 rfl (by decide) (by decide) (zPp_mk ?_)
            simp_all [zl_dates, nI]
        · skip
          have c14 := c14; rw [← nI_0] at c14
          have c14 : ¬ 0 = 0 := fun h9 => c14 (by rw [h9])
          refine ze_iconst (v := nI 1) cd_L_orderOfDates_46 (by decide) ?_
          refine ze_goto (tgt := 51) cd_L_orderOfDates_47 (by decide) ?_
          refine ze_iload 0 cd_L_orderOfDates_51 rfl ?_
          refine ze_if_eq (tgt := 60) cd_L_orderOfDates_53 (by decide) (fun c16 => ?_) (fun c16 => ?_)
          · skip
            have c16 := c16; rw [← nI_0] at c16
            have c16 : 1 = 0 := (nI_eq (by omega) (by omega)).mp c16
            refine ze_iconst (v := nI 0) cd_L_orderOfDates_60 (by decide) ?_
            refine ze_callSNp (rm' := zr_F_order) (As := [.int (nI 1), .int (nI 0)]) (rest := []) kc_F_order ⟨rfl, rfl⟩ zy_F_order_ok (host := "FindingAid") (by decide) zm_331 (by decide) (by decide) cd_L_orderOfDates_61 rfl rfl (Nat.le_of_ble_eq_true rfl) ?_
            refine ze_iret cd_L_orderOfDates_64 rfl (by decide) (by decide) (zPp_mk ?_)
            simp_all [zl_dates, nI]
          · skip
            have c16 := c16; rw [← nI_0] at c16
            have c16 : ¬ 1 = 0 := fun h9 => c16 (by rw [h9])
            refine ze_iconst (v := nI 1) cd_L_orderOfDates_56 (by decide) ?_
            refine ze_goto (tgt := 61) cd_L_orderOfDates_57 (by decide) ?_
            refine ze_callSNp (rm' := zr_F_order) (As := [.int (nI 1), .int (nI 1)]) (rest := []) kc_F_order ⟨rfl, rfl⟩ zy_F_order_ok (host := "FindingAid") (by decide) zm_331 (by decide) (by decide) cd_L_orderOfDates_61 rfl rfl (Nat.le_of_ble_eq_true rfl) ?_
            refine ze_iret cd_L_orderOfDates_64 rfl (by decide) (by decide) (zPp_mk ?_)
            simp_all [zl_dates, nI]
      · skip
        have c13 := c13; rw [← nI_0] at c13
        have c13 : 0 = 0 := (nI_eq (by omega) (by omega)).mp c13
        refine ze_iload 0 cd_L_orderOfDates_37 rfl ?_
        refine ze_if_eq (tgt := 65) cd_L_orderOfDates_39 (by decide) (fun c17 => ?_) (fun c17 => ?_)
        · skip
          have c17 := c17; rw [← nI_0] at c17
          have c17 : 1 = 0 := (nI_eq (by omega) (by omega)).mp c17
          refine ze_aload_n 2 cd_L_orderOfDates_65 rfl rfl ?_
          refine ze_get zin_L (v := .ref (a + 5)) (ci := 1) rfl 5 (by decide) zm_111 rfl cd_L_orderOfDates_66 h.1 rfl ?_
          refine ze_iload_n 3 cd_L_orderOfDates_69 rfl rfl ?_
          refine ze_iald (j := i) cd_L_orderOfDates_70 (h.2 4 _ rfl) rfl (by omega) (by decide) ?_
          refine ze_aload_n 2 cd_L_orderOfDates_71 rfl rfl ?_
          refine ze_get zin_L (v := .ref (a + 5)) (ci := 1) rfl 5 (by decide) zm_111 rfl cd_L_orderOfDates_72 h.1 rfl ?_
          refine ze_iload_n 4 cd_L_orderOfDates_75 rfl rfl ?_
          refine ze_iald (j := j) cd_L_orderOfDates_76 (h.2 4 _ rfl) rfl (by omega) (by decide) ?_
          refine ze_icmp_eq (tgt := 96) cd_L_orderOfDates_77 (by decide) (fun c18 => ?_) (fun c18 => ?_)
          · skip
            refine ze_aload_n 2 cd_L_orderOfDates_96 rfl rfl ?_
            refine ze_get zin_L (v := .ref (a + 6)) (ci := 1) rfl 6 (by decide) zm_115 rfl cd_L_orderOfDates_97 h.1 rfl ?_
            refine ze_iload_n 3 cd_L_orderOfDates_100 rfl rfl ?_
            refine ze_iald (j := i) cd_L_orderOfDates_101 (h.2 5 _ rfl) rfl (by omega) (by decide) ?_
            refine ze_aload_n 2 cd_L_orderOfDates_102 rfl rfl ?_
            refine ze_get zin_L (v := .ref (a + 6)) (ci := 1) rfl 6 (by decide) zm_115 rfl cd_L_orderOfDates_103 h.1 rfl ?_
            refine ze_iload_n 4 cd_L_orderOfDates_106 rfl rfl ?_
            refine ze_iald (j := j) cd_L_orderOfDates_107 (h.2 5 _ rfl) rfl (by omega) (by decide) ?_
            refine ze_icmp_eq (tgt := 127) cd_L_orderOfDates_108 (by decide) (fun c19 => ?_) (fun c19 => ?_)
            · skip
              refine ze_aload_n 2 cd_L_orderOfDates_127 rfl rfl ?_
              refine ze_get zin_L (v := .ref (a + 7)) (ci := 1) rfl 7 (by decide) zm_119 rfl cd_L_orderOfDates_128 h.1 rfl ?_
              refine ze_iload_n 3 cd_L_orderOfDates_131 rfl rfl ?_
              refine ze_iald (j := i) cd_L_orderOfDates_132 (h.2 6 _ rfl) rfl (by omega) (by decide) ?_
              refine ze_aload_n 2 cd_L_orderOfDates_133 rfl rfl ?_
              refine ze_get zin_L (v := .ref (a + 7)) (ci := 1) rfl 7 (by decide) zm_119 rfl cd_L_orderOfDates_134 h.1 rfl ?_
              refine ze_iload_n 4 cd_L_orderOfDates_137 rfl rfl ?_
              refine ze_iald (j := j) cd_L_orderOfDates_138 (h.2 6 _ rfl) rfl (by omega) (by decide) ?_
              refine ze_callSNp (rm' := zr_F_order) (As := [.int (R 6 i), .int (R 6 j)]) (rest := []) kc_F_order ⟨rfl, rfl⟩ zy_F_order_ok (host := "FindingAid") (by decide) zm_331 (by decide) (by decide) cd_L_orderOfDates_139 rfl rfl (Nat.le_of_ble_eq_true rfl) ?_
              refine ze_iret cd_L_orderOfDates_142 rfl (by decide) (by decide) (zPp_mk ?_)
              simp_all [zl_dates, nI]
            · skip
              refine ze_aload_n 2 cd_L_orderOfDates_111 rfl rfl ?_
              refine ze_get zin_L (v := .ref (a + 6)) (ci := 1) rfl 6 (by decide) zm_115 rfl cd_L_orderOfDates_112 h.1 rfl ?_
              refine ze_iload_n 3 cd_L_orderOfDates_115 rfl rfl ?_
              refine ze_iald (j := i) cd_L_orderOfDates_116 (h.2 5 _ rfl) rfl (by omega) (by decide) ?_
              refine ze_aload_n 2 cd_L_orderOfDates_117 rfl rfl ?_
              refine ze_get zin_L (v := .ref (a + 6)) (ci := 1) rfl 6 (by decide) zm_115 rfl cd_L_orderOfDates_118 h.1 rfl ?_
              refine ze_iload_n 4 cd_L_orderOfDates_121 rfl rfl ?_
              refine ze_iald (j := j) cd_L_orderOfDates_122 (h.2 5 _ rfl) rfl (by omega) (by decide) ?_
              refine ze_callSNp (rm' := zr_F_order) (As := [.int (R 5 i), .int (R 5 j)]) (rest := []) kc_F_order ⟨rfl, rfl⟩ zy_F_order_ok (host := "FindingAid") (by decide) zm_331 (by decide) (by decide) cd_L_orderOfDates_123 rfl rfl (Nat.le_of_ble_eq_true rfl) ?_
              refine ze_iret cd_L_orderOfDates_126 rfl (by decide) (by decide) (zPp_mk ?_)
              simp_all [zl_dates, nI]
          · skip
            refine ze_aload_n 2 cd_L_orderOfDates_80 rfl rfl ?_
            refine ze_get zin_L (v := .ref (a + 5)) (ci := 1) rfl 5 (by decide) zm_111 rfl cd_L_orderOfDates_81 h.1 rfl ?_
            refine ze_iload_n 3 cd_L_orderOfDates_84 rfl rfl ?_
            refine ze_iald (j := i) cd_L_orderOfDates_85 (h.2 4 _ rfl) rfl (by omega) (by decide) ?_
            refine ze_aload_n 2 cd_L_orderOfDates_86 rfl rfl ?_
            refine ze_get zin_L (v := .ref (a + 5)) (ci := 1) rfl 5 (by decide) zm_111 rfl cd_L_orderOfDates_87 h.1 rfl ?_
            refine ze_iload_n 4 cd_L_orderOfDates_90 rfl rfl ?_
            refine ze_iald (j := j) cd_L_orderOfDates_91 (h.2 4 _ rfl) rfl (by omega) (by decide) ?_
            refine ze_callSNp (rm' := zr_F_order) (As := [.int (R 4 i), .int (R 4 j)]) (rest := []) kc_F_order ⟨rfl, rfl⟩ zy_F_order_ok (host := "FindingAid") (by decide) zm_331 (by decide) (by decide) cd_L_orderOfDates_92 rfl rfl (Nat.le_of_ble_eq_true rfl) ?_
            refine ze_iret cd_L_orderOfDates_95 rfl (by decide) (by decide) (zPp_mk ?_)
            simp_all [zl_dates, nI]
        · skip
          have c17 := c17; rw [← nI_0] at c17
          have c17 : ¬ 1 = 0 := fun h9 => c17 (by rw [h9])
          refine ze_iload_n 1 cd_L_orderOfDates_42 rfl rfl ?_
          refine ze_if_eq (tgt := 50) cd_L_orderOfDates_43 (by decide) (fun c20 => ?_) (fun c20 => ?_)
          · skip
            have c20 := c20; rw [← nI_0] at c20
            have c20 : 0 = 0 := (nI_eq (by omega) (by omega)).mp c20
            refine ze_iconst (v := nI 0) cd_L_orderOfDates_50 (by decide) ?_
            refine ze_iload 0 cd_L_orderOfDates_51 rfl ?_
            refine ze_if_eq (tgt := 60) cd_L_orderOfDates_53 (by decide) (fun c21 => ?_) (fun c21 => ?_)
            · skip
              have c21 := c21; rw [← nI_0] at c21
              have c21 : 1 = 0 := (nI_eq (by omega) (by omega)).mp c21
              refine ze_iconst (v := nI 0) cd_L_orderOfDates_60 (by decide) ?_
              refine ze_callSNp (rm' := zr_F_order) (As := [.int (nI 0), .int (nI 0)]) (rest := []) kc_F_order ⟨rfl, rfl⟩ zy_F_order_ok (host := "FindingAid") (by decide) zm_331 (by decide) (by decide) cd_L_orderOfDates_61 rfl rfl (Nat.le_of_ble_eq_true rfl) ?_
              refine ze_iret cd_L_orderOfDates_64 rfl (by decide) (by decide) (zPp_mk ?_)
              simp_all [zl_dates, nI]
            · skip
              have c21 := c21; rw [← nI_0] at c21
              have c21 : ¬ 1 = 0 := fun h9 => c21 (by rw [h9])
              refine ze_iconst (v := nI 1) cd_L_orderOfDates_56 (by decide) ?_
              refine ze_goto (tgt := 61) cd_L_orderOfDates_57 (by decide) ?_
              refine ze_callSNp (rm' := zr_F_order) (As := [.int (nI 0), .int (nI 1)]) (rest := []) kc_F_order ⟨rfl, rfl⟩ zy_F_order_ok (host := "FindingAid") (by decide) zm_331 (by decide) (by decide) cd_L_orderOfDates_61 rfl rfl (Nat.le_of_ble_eq_true rfl) ?_
              refine ze_iret cd_L_orderOfDates_64 rfl (by decide) (by decide) (zPp_mk ?_)
              simp_all [zl_dates, nI]
          · skip
            have c20 := c20; rw [← nI_0] at c20
            have c20 : ¬ 0 = 0 := fun h9 => c20 (by rw [h9])
            refine ze_iconst (v := nI 1) cd_L_orderOfDates_46 (by decide) ?_
            refine ze_goto (tgt := 51) cd_L_orderOfDates_47 (by decide) ?_
            refine ze_iload 0 cd_L_orderOfDates_51 rfl ?_
            refine ze_if_eq (tgt := 60) cd_L_orderOfDates_53 (by decide) (fun c22 => ?_) (fun c22 => ?_)
            · skip
              have c22 := c22; rw [← nI_0] at c22
              have c22 : 1 = 0 := (nI_eq (by omega) (by omega)).mp c22
              refine ze_iconst (v := nI 0) cd_L_orderOfDates_60 (by decide) ?_
              refine ze_callSNp (rm' := zr_F_order) (As := [.int (nI 1), .int (nI 0)]) (rest := []) kc_F_order ⟨rfl, rfl⟩ zy_F_order_ok (host := "FindingAid") (by decide) zm_331 (by decide) (by decide) cd_L_orderOfDates_61 rfl rfl (Nat.le_of_ble_eq_true rfl) ?_
              refine ze_iret cd_L_orderOfDates_64 rfl (by decide) (by decide) (zPp_mk ?_)
              simp_all [zl_dates, nI]
            · skip
              have c22 := c22; rw [← nI_0] at c22
              have c22 : ¬ 1 = 0 := fun h9 => c22 (by rw [h9])
              refine ze_iconst (v := nI 1) cd_L_orderOfDates_56 (by decide) ?_
              refine ze_goto (tgt := 61) cd_L_orderOfDates_57 (by decide) ?_
              refine ze_callSNp (rm' := zr_F_order) (As := [.int (nI 1), .int (nI 1)]) (rest := []) kc_F_order ⟨rfl, rfl⟩ zy_F_order_ok (host := "FindingAid") (by decide) zm_331 (by decide) (by decide) cd_L_orderOfDates_61 rfl rfl (Nat.le_of_ble_eq_true rfl) ?_
              refine ze_iret cd_L_orderOfDates_64 rfl (by decide) (by decide) (zPp_mk ?_)
              simp_all [zl_dates, nI]
  · skip
    refine ze_iconst (v := nI 1) cd_L_orderOfDates_10 (by decide) ?_
    refine ze_goto (tgt := 15) cd_L_orderOfDates_11 (by decide) ?_
    refine ze_istore_n (lv' := [(3, .int (nI 1)), (0, .ref a), (1, .int (nI i)), (2, .int (nI j))]) cd_L_orderOfDates_15 rfl (by decide) rfl ?_
    refine ze_aload_n 1 cd_L_orderOfDates_16 rfl rfl ?_
    refine ze_get zin_L (v := .ref (a + 5)) (ci := 1) rfl 5 (by decide) zm_111 rfl cd_L_orderOfDates_17 h.1 rfl ?_
    refine ze_iload_n 3 cd_L_orderOfDates_20 rfl rfl ?_
    refine ze_iald (j := j) cd_L_orderOfDates_21 (h.2 4 _ rfl) rfl (by omega) (by decide) ?_
    refine ze_iconst (v := (-1 : Int32)) cd_L_orderOfDates_22 (by decide) ?_
    refine ze_icmp_ne (tgt := 30) cd_L_orderOfDates_23 (by decide) (fun c23 => ?_) (fun c23 => ?_)
    · skip
      refine ze_iconst (v := nI 0) cd_L_orderOfDates_30 (by decide) ?_
      refine ze_istore (lv' := [(4, .int (nI 0)), (3, .int (nI 1)), (0, .ref a), (1, .int (nI i)), (2, .int (nI j))]) cd_L_orderOfDates_31 (by decide) rfl ?_
      refine ze_iload_n 1 cd_L_orderOfDates_33 rfl rfl ?_
      refine ze_if_ne (tgt := 42) cd_L_orderOfDates_34 (by decide) (fun c24 => ?_) (fun c24 => ?_)
      · skip
        have c24 := c24; rw [← nI_0] at c24
        have c24 : ¬ 1 = 0 := fun h9 => c24 (by rw [h9])
        refine ze_iload_n 1 cd_L_orderOfDates_42 rfl rfl ?_
        refine ze_if_eq (tgt := 50) cd_L_orderOfDates_43 (by decide) (fun c25 => ?_) (fun c25 => ?_)
        · skip
          have c25 := c25; rw [← nI_0] at c25
          have c25 : 1 = 0 := (nI_eq (by omega) (by omega)).mp c25
          refine ze_iconst (v := nI 0) cd_L_orderOfDates_50 (by decide) ?_
          refine ze_iload 0 cd_L_orderOfDates_51 rfl ?_
          refine ze_if_eq (tgt := 60) cd_L_orderOfDates_53 (by decide) (fun c26 => ?_) (fun c26 => ?_)
          · skip
            have c26 := c26; rw [← nI_0] at c26
            have c26 : 0 = 0 := (nI_eq (by omega) (by omega)).mp c26
            refine ze_iconst (v := nI 0) cd_L_orderOfDates_60 (by decide) ?_
            refine ze_callSNp (rm' := zr_F_order) (As := [.int (nI 0), .int (nI 0)]) (rest := []) kc_F_order ⟨rfl, rfl⟩ zy_F_order_ok (host := "FindingAid") (by decide) zm_331 (by decide) (by decide) cd_L_orderOfDates_61 rfl rfl (Nat.le_of_ble_eq_true rfl) ?_
            refine ze_iret cd_L_orderOfDates_64 rfl (by decide) (by decide) (zPp_mk ?_)
            simp_all [zl_dates, nI]
          · skip
            have c26 := c26; rw [← nI_0] at c26
            have c26 : ¬ 0 = 0 := fun h9 => c26 (by rw [h9])
            refine ze_iconst (v := nI 1) cd_L_orderOfDates_56 (by decide) ?_
            refine ze_goto (tgt := 61) cd_L_orderOfDates_57 (by decide) ?_
            refine ze_callSNp (rm' := zr_F_order) (As := [.int (nI 0), .int (nI 1)]) (rest := []) kc_F_order ⟨rfl, rfl⟩ zy_F_order_ok (host := "FindingAid") (by decide) zm_331 (by decide) (by decide) cd_L_orderOfDates_61 rfl rfl (Nat.le_of_ble_eq_true rfl) ?_
            refine ze_iret cd_L_orderOfDates_64 rfl (by decide) (by decide) (zPp_mk ?_)
            simp_all [zl_dates, nI]
        · skip
          have c25 := c25; rw [← nI_0] at c25
          have c25 : ¬ 1 = 0 := fun h9 => c25 (by rw [h9])
          refine ze_iconst (v := nI 1) cd_L_orderOfDates_46 (by decide) ?_
          refine ze_goto (tgt := 51) cd_L_orderOfDates_47 (by decide) ?_
          refine ze_iload 0 cd_L_orderOfDates_51 rfl ?_
          refine ze_if_eq (tgt := 60) cd_L_orderOfDates_53 (by decide) (fun c27 => ?_) (fun c27 => ?_)
          · skip
            have c27 := c27; rw [← nI_0] at c27
            have c27 : 0 = 0 := (nI_eq (by omega) (by omega)).mp c27
            refine ze_iconst (v := nI 0) cd_L_orderOfDates_60 (by decide) ?_
            refine ze_callSNp (rm' := zr_F_order) (As := [.int (nI 1), .int (nI 0)]) (rest := []) kc_F_order ⟨rfl, rfl⟩ zy_F_order_ok (host := "FindingAid") (by decide) zm_331 (by decide) (by decide) cd_L_orderOfDates_61 rfl rfl (Nat.le_of_ble_eq_true rfl) ?_
            refine ze_iret cd_L_orderOfDates_64 rfl (by decide) (by decide) (zPp_mk ?_)
            simp_all [zl_dates, nI]
          · skip
            have c27 := c27; rw [← nI_0] at c27
            have c27 : ¬ 0 = 0 := fun h9 => c27 (by rw [h9])
            refine ze_iconst (v := nI 1) cd_L_orderOfDates_56 (by decide) ?_
            refine ze_goto (tgt := 61) cd_L_orderOfDates_57 (by decide) ?_
            refine ze_callSNp (rm' := zr_F_order) (As := [.int (nI 1), .int (nI 1)]) (rest := []) kc_F_order ⟨rfl, rfl⟩ zy_F_order_ok (host := "FindingAid") (by decide) zm_331 (by decide) (by decide) cd_L_orderOfDates_61 rfl rfl (Nat.le_of_ble_eq_true rfl) ?_
            refine ze_iret cd_L_orderOfDates_64 rfl (by decide) (by decide) (zPp_mk ?_)
            simp_all [zl_dates, nI]
      · skip
        have c24 := c24; rw [← nI_0] at c24
        have c24 : 1 = 0 := (nI_eq (by omega) (by omega)).mp c24
        refine ze_iload 0 cd_L_orderOfDates_37 rfl ?_
        refine ze_if_eq (tgt := 65) cd_L_orderOfDates_39 (by decide) (fun c28 => ?_) (fun c28 => ?_)
        · skip
          have c28 := c28; rw [← nI_0] at c28
          have c28 : 0 = 0 := (nI_eq (by omega) (by omega)).mp c28
          refine ze_aload_n 2 cd_L_orderOfDates_65 rfl rfl ?_
          refine ze_get zin_L (v := .ref (a + 5)) (ci := 1) rfl 5 (by decide) zm_111 rfl cd_L_orderOfDates_66 h.1 rfl ?_
          refine ze_iload_n 3 cd_L_orderOfDates_69 rfl rfl ?_
          refine ze_iald (j := i) cd_L_orderOfDates_70 (h.2 4 _ rfl) rfl (by omega) (by decide) ?_
          refine ze_aload_n 2 cd_L_orderOfDates_71 rfl rfl ?_
          refine ze_get zin_L (v := .ref (a + 5)) (ci := 1) rfl 5 (by decide) zm_111 rfl cd_L_orderOfDates_72 h.1 rfl ?_
          refine ze_iload_n 4 cd_L_orderOfDates_75 rfl rfl ?_
          refine ze_iald (j := j) cd_L_orderOfDates_76 (h.2 4 _ rfl) rfl (by omega) (by decide) ?_
          refine ze_icmp_eq (tgt := 96) cd_L_orderOfDates_77 (by decide) (fun c29 => ?_) (fun c29 => ?_)
          · skip
            refine ze_aload_n 2 cd_L_orderOfDates_96 rfl rfl ?_
            refine ze_get zin_L (v := .ref (a + 6)) (ci := 1) rfl 6 (by decide) zm_115 rfl cd_L_orderOfDates_97 h.1 rfl ?_
            refine ze_iload_n 3 cd_L_orderOfDates_100 rfl rfl ?_
            refine ze_iald (j := i) cd_L_orderOfDates_101 (h.2 5 _ rfl) rfl (by omega) (by decide) ?_
            refine ze_aload_n 2 cd_L_orderOfDates_102 rfl rfl ?_
            refine ze_get zin_L (v := .ref (a + 6)) (ci := 1) rfl 6 (by decide) zm_115 rfl cd_L_orderOfDates_103 h.1 rfl ?_
            refine ze_iload_n 4 cd_L_orderOfDates_106 rfl rfl ?_
            refine ze_iald (j := j) cd_L_orderOfDates_107 (h.2 5 _ rfl) rfl (by omega) (by decide) ?_
            refine ze_icmp_eq (tgt := 127) cd_L_orderOfDates_108 (by decide) (fun c30 => ?_) (fun c30 => ?_)
            · skip
              refine ze_aload_n 2 cd_L_orderOfDates_127 rfl rfl ?_
              refine ze_get zin_L (v := .ref (a + 7)) (ci := 1) rfl 7 (by decide) zm_119 rfl cd_L_orderOfDates_128 h.1 rfl ?_
              refine ze_iload_n 3 cd_L_orderOfDates_131 rfl rfl ?_
              refine ze_iald (j := i) cd_L_orderOfDates_132 (h.2 6 _ rfl) rfl (by omega) (by decide) ?_
              refine ze_aload_n 2 cd_L_orderOfDates_133 rfl rfl ?_
              refine ze_get zin_L (v := .ref (a + 7)) (ci := 1) rfl 7 (by decide) zm_119 rfl cd_L_orderOfDates_134 h.1 rfl ?_
              refine ze_iload_n 4 cd_L_orderOfDates_137 rfl rfl ?_
              refine ze_iald (j := j) cd_L_orderOfDates_138 (h.2 6 _ rfl) rfl (by omega) (by decide) ?_
              refine ze_callSNp (rm' := zr_F_order) (As := [.int (R 6 i), .int (R 6 j)]) (rest := []) kc_F_order ⟨rfl, rfl⟩ zy_F_order_ok (host := "FindingAid") (by decide) zm_331 (by decide) (by decide) cd_L_orderOfDates_139 rfl rfl (Nat.le_of_ble_eq_true rfl) ?_
              refine ze_iret cd_L_orderOfDates_142 rfl (by decide) (by decide) (zPp_mk ?_)
              simp_all [zl_dates, nI]
            · skip
              refine ze_aload_n 2 cd_L_orderOfDates_111 rfl rfl ?_
              refine ze_get zin_L (v := .ref (a + 6)) (ci := 1) rfl 6 (by decide) zm_115 rfl cd_L_orderOfDates_112 h.1 rfl ?_
              refine ze_iload_n 3 cd_L_orderOfDates_115 rfl rfl ?_
              refine ze_iald (j := i) cd_L_orderOfDates_116 (h.2 5 _ rfl) rfl (by omega) (by decide) ?_
              refine ze_aload_n 2 cd_L_orderOfDates_117 rfl rfl ?_
              refine ze_get zin_L (v := .ref (a + 6)) (ci := 1) rfl 6 (by decide) zm_115 rfl cd_L_orderOfDates_118 h.1 rfl ?_
              refine ze_iload_n 4 cd_L_orderOfDates_121 rfl rfl ?_
              refine ze_iald (j := j) cd_L_orderOfDates_122 (h.2 5 _ rfl) rfl (by omega) (by decide) ?_
              refine ze_callSNp (rm' := zr_F_order) (As := [.int (R 5 i), .int (R 5 j)]) (rest := []) kc_F_order ⟨rfl, rfl⟩ zy_F_order_ok (host := "FindingAid") (by decide) zm_331 (by decide) (by decide) cd_L_orderOfDates_123 rfl rfl (Nat.le_of_ble_eq_true rfl) ?_
              refine ze_iret cd_L_orderOfDates_126 rfl (by decide) (by decide) (zPp_mk ?_)
              simp_all [zl_dates, nI]
          · skip
            refine ze_aload_n 2 cd_L_orderOfDates_80 rfl rfl ?_
            refine ze_get zin_L (v := .ref (a + 5)) (ci := 1) rfl 5 (by decide) zm_111 rfl cd_L_orderOfDates_81 h.1 rfl ?_
            refine ze_iload_n 3 cd_L_orderOfDates_84 rfl rfl ?_
            refine ze_iald (j := i) cd_L_orderOfDates_85 (h.2 4 _ rfl) rfl (by omega) (by decide) ?_
            refine ze_aload_n 2 cd_L_orderOfDates_86 rfl rfl ?_
            refine ze_get zin_L (v := .ref (a + 5)) (ci := 1) rfl 5 (by decide) zm_111 rfl cd_L_orderOfDates_87 h.1 rfl ?_
            refine ze_iload_n 4 cd_L_orderOfDates_90 rfl rfl ?_
            refine ze_iald (j := j) cd_L_orderOfDates_91 (h.2 4 _ rfl) rfl (by omega) (by decide) ?_
            refine ze_callSNp (rm' := zr_F_order) (As := [.int (R 4 i), .int (R 4 j)]) (rest := []) kc_F_order ⟨rfl, rfl⟩ zy_F_order_ok (host := "FindingAid") (by decide) zm_331 (by decide) (by decide) cd_L_orderOfDates_92 rfl rfl (Nat.le_of_ble_eq_true rfl) ?_
            refine ze_iret cd_L_orderOfDates_95 rfl (by decide) (by decide) (zPp_mk ?_)
            simp_all [zl_dates, nI]
        · skip
          have c28 := c28; rw [← nI_0] at c28
          have c28 : ¬ 0 = 0 := fun h9 => c28 (by rw [h9])
          refine ze_iload_n 1 cd_L_orderOfDates_42 rfl rfl ?_
          refine ze_if_eq (tgt := 50) cd_L_orderOfDates_43 (by decide) (fun c31 => ?_) (fun c31 => ?_)
          · skip
            have c31 := c31; rw [← nI_0] at c31
            have c31 : 1 = 0 := (nI_eq (by omega) (by omega)).mp c31
            refine ze_iconst (v := nI 0) cd_L_orderOfDates_50 (by decide) ?_
            refine ze_iload 0 cd_L_orderOfDates_51 rfl ?_
            refine ze_if_eq (tgt := 60) cd_L_orderOfDates_53 (by decide) (fun c32 => ?_) (fun c32 => ?_)
            · skip
              have c32 := c32; rw [← nI_0] at c32
              have c32 : 0 = 0 := (nI_eq (by omega) (by omega)).mp c32
              refine ze_iconst (v := nI 0) cd_L_orderOfDates_60 (by decide) ?_
              refine ze_callSNp (rm' := zr_F_order) (As := [.int (nI 0), .int (nI 0)]) (rest := []) kc_F_order ⟨rfl, rfl⟩ zy_F_order_ok (host := "FindingAid") (by decide) zm_331 (by decide) (by decide) cd_L_orderOfDates_61 rfl rfl (Nat.le_of_ble_eq_true rfl) ?_
              refine ze_iret cd_L_orderOfDates_64 rfl (by decide) (by decide) (zPp_mk ?_)
              simp_all [zl_dates, nI]
            · skip
              have c32 := c32; rw [← nI_0] at c32
              have c32 : ¬ 0 = 0 := fun h9 => c32 (by rw [h9])
              refine ze_iconst (v := nI 1) cd_L_orderOfDates_56 (by decide) ?_
              refine ze_goto (tgt := 61) cd_L_orderOfDates_57 (by decide) ?_
              refine ze_callSNp (rm' := zr_F_order) (As := [.int (nI 0), .int (nI 1)]) (rest := []) kc_F_order ⟨rfl, rfl⟩ zy_F_order_ok (host := "FindingAid") (by decide) zm_331 (by decide) (by decide) cd_L_orderOfDates_61 rfl rfl (Nat.le_of_ble_eq_true rfl) ?_
              refine ze_iret cd_L_orderOfDates_64 rfl (by decide) (by decide) (zPp_mk ?_)
              simp_all [zl_dates, nI]
          · skip
            have c31 := c31; rw [← nI_0] at c31
            have c31 : ¬ 1 = 0 := fun h9 => c31 (by rw [h9])
            refine ze_iconst (v := nI 1) cd_L_orderOfDates_46 (by decide) ?_
            refine ze_goto (tgt := 51) cd_L_orderOfDates_47 (by decide) ?_
            refine ze_iload 0 cd_L_orderOfDates_51 rfl ?_
            refine ze_if_eq (tgt := 60) cd_L_orderOfDates_53 (by decide) (fun c33 => ?_) (fun c33 => ?_)
            · skip
              have c33 := c33; rw [← nI_0] at c33
              have c33 : 0 = 0 := (nI_eq (by omega) (by omega)).mp c33
              refine ze_iconst (v := nI 0) cd_L_orderOfDates_60 (by decide) ?_
              refine ze_callSNp (rm' := zr_F_order) (As := [.int (nI 1), .int (nI 0)]) (rest := []) kc_F_order ⟨rfl, rfl⟩ zy_F_order_ok (host := "FindingAid") (by decide) zm_331 (by decide) (by decide) cd_L_orderOfDates_61 rfl rfl (Nat.le_of_ble_eq_true rfl) ?_
              refine ze_iret cd_L_orderOfDates_64 rfl (by decide) (by decide) (zPp_mk ?_)
              simp_all [zl_dates, nI]
            · skip
              have c33 := c33; rw [← nI_0] at c33
              have c33 : ¬ 0 = 0 := fun h9 => c33 (by rw [h9])
              refine ze_iconst (v := nI 1) cd_L_orderOfDates_56 (by decide) ?_
              refine ze_goto (tgt := 61) cd_L_orderOfDates_57 (by decide) ?_
              refine ze_callSNp (rm' := zr_F_order) (As := [.int (nI 1), .int (nI 1)]) (rest := []) kc_F_order ⟨rfl, rfl⟩ zy_F_order_ok (host := "FindingAid") (by decide) zm_331 (by decide) (by decide) cd_L_orderOfDates_61 rfl rfl (Nat.le_of_ble_eq_true rfl) ?_
              refine ze_iret cd_L_orderOfDates_64 rfl (by decide) (by decide) (zPp_mk ?_)
              simp_all [zl_dates, nI]
    · skip
      refine ze_iconst (v := nI 1) cd_L_orderOfDates_26 (by decide) ?_
      refine ze_goto (tgt := 31) cd_L_orderOfDates_27 (by decide) ?_
      refine ze_istore (lv' := [(4, .int (nI 1)), (3, .int (nI 1)), (0, .ref a), (1, .int (nI i)), (2, .int (nI j))]) cd_L_orderOfDates_31 (by decide) rfl ?_
      refine ze_iload_n 1 cd_L_orderOfDates_33 rfl rfl ?_
      refine ze_if_ne (tgt := 42) cd_L_orderOfDates_34 (by decide) (fun c34 => ?_) (fun c34 => ?_)
      · skip
        have c34 := c34; rw [← nI_0] at c34
        have c34 : ¬ 1 = 0 := fun h9 => c34 (by rw [h9])
        refine ze_iload_n 1 cd_L_orderOfDates_42 rfl rfl ?_
        refine ze_if_eq (tgt := 50) cd_L_orderOfDates_43 (by decide) (fun c35 => ?_) (fun c35 => ?_)
        · skip
          have c35 := c35; rw [← nI_0] at c35
          have c35 : 1 = 0 := (nI_eq (by omega) (by omega)).mp c35
          refine ze_iconst (v := nI 0) cd_L_orderOfDates_50 (by decide) ?_
          refine ze_iload 0 cd_L_orderOfDates_51 rfl ?_
          refine ze_if_eq (tgt := 60) cd_L_orderOfDates_53 (by decide) (fun c36 => ?_) (fun c36 => ?_)
          · skip
            have c36 := c36; rw [← nI_0] at c36
            have c36 : 1 = 0 := (nI_eq (by omega) (by omega)).mp c36
            refine ze_iconst (v := nI 0) cd_L_orderOfDates_60 (by decide) ?_
            refine ze_callSNp (rm' := zr_F_order) (As := [.int (nI 0), .int (nI 0)]) (rest := []) kc_F_order ⟨rfl, rfl⟩ zy_F_order_ok (host := "FindingAid") (by decide) zm_331 (by decide) (by decide) cd_L_orderOfDates_61 rfl rfl (Nat.le_of_ble_eq_true rfl) ?_
            refine ze_iret cd_L_orderOfDates_64 rfl (by decide) (by decide) (zPp_mk ?_)
            simp_all [zl_dates, nI]
          · skip
            have c36 := c36; rw [← nI_0] at c36
            have c36 : ¬ 1 = 0 := fun h9 => c36 (by rw [h9])
            refine ze_iconst (v := nI 1) cd_L_orderOfDates_56 (by decide) ?_
            refine ze_goto (tgt := 61) cd_L_orderOfDates_57 (by decide) ?_
            refine ze_callSNp (rm' := zr_F_order) (As := [.int (nI 0), .int (nI 1)]) (rest := []) kc_F_order ⟨rfl, rfl⟩ zy_F_order_ok (host := "FindingAid") (by decide) zm_331 (by decide) (by decide) cd_L_orderOfDates_61 rfl rfl (Nat.le_of_ble_eq_true rfl) ?_
            refine ze_iret cd_L_orderOfDates_64 rfl (by decide) (by decide) (zPp_mk ?_)
            simp_all [zl_dates, nI]
        · skip
          have c35 := c35; rw [← nI_0] at c35
          have c35 : ¬ 1 = 0 := fun h9 => c35 (by rw [h9])
          refine ze_iconst (v := nI 1) cd_L_orderOfDates_46 (by decide) ?_
          refine ze_goto (tgt := 51) cd_L_orderOfDates_47 (by decide) ?_
          refine ze_iload 0 cd_L_orderOfDates_51 rfl ?_
          refine ze_if_eq (tgt := 60) cd_L_orderOfDates_53 (by decide) (fun c37 => ?_) (fun c37 => ?_)
          · skip
            have c37 := c37; rw [← nI_0] at c37
            have c37 : 1 = 0 := (nI_eq (by omega) (by omega)).mp c37
            refine ze_iconst (v := nI 0) cd_L_orderOfDates_60 (by decide) ?_
            refine ze_callSNp (rm' := zr_F_order) (As := [.int (nI 1), .int (nI 0)]) (rest := []) kc_F_order ⟨rfl, rfl⟩ zy_F_order_ok (host := "FindingAid") (by decide) zm_331 (by decide) (by decide) cd_L_orderOfDates_61 rfl rfl (Nat.le_of_ble_eq_true rfl) ?_
            refine ze_iret cd_L_orderOfDates_64 rfl (by decide) (by decide) (zPp_mk ?_)
            simp_all [zl_dates, nI]
          · skip
            have c37 := c37; rw [← nI_0] at c37
            have c37 : ¬ 1 = 0 := fun h9 => c37 (by rw [h9])
            refine ze_iconst (v := nI 1) cd_L_orderOfDates_56 (by decide) ?_
            refine ze_goto (tgt := 61) cd_L_orderOfDates_57 (by decide) ?_
            refine ze_callSNp (rm' := zr_F_order) (As := [.int (nI 1), .int (nI 1)]) (rest := []) kc_F_order ⟨rfl, rfl⟩ zy_F_order_ok (host := "FindingAid") (by decide) zm_331 (by decide) (by decide) cd_L_orderOfDates_61 rfl rfl (Nat.le_of_ble_eq_true rfl) ?_
            refine ze_iret cd_L_orderOfDates_64 rfl (by decide) (by decide) (zPp_mk ?_)
            simp_all [zl_dates, nI]
      · skip
        have c34 := c34; rw [← nI_0] at c34
        have c34 : 1 = 0 := (nI_eq (by omega) (by omega)).mp c34
        refine ze_iload 0 cd_L_orderOfDates_37 rfl ?_
        refine ze_if_eq (tgt := 65) cd_L_orderOfDates_39 (by decide) (fun c38 => ?_) (fun c38 => ?_)
        · skip
          have c38 := c38; rw [← nI_0] at c38
          have c38 : 1 = 0 := (nI_eq (by omega) (by omega)).mp c38
          refine ze_aload_n 2 cd_L_orderOfDates_65 rfl rfl ?_
          refine ze_get zin_L (v := .ref (a + 5)) (ci := 1) rfl 5 (by decide) zm_111 rfl cd_L_orderOfDates_66 h.1 rfl ?_
          refine ze_iload_n 3 cd_L_orderOfDates_69 rfl rfl ?_
          refine ze_iald (j := i) cd_L_orderOfDates_70 (h.2 4 _ rfl) rfl (by omega) (by decide) ?_
          refine ze_aload_n 2 cd_L_orderOfDates_71 rfl rfl ?_
          refine ze_get zin_L (v := .ref (a + 5)) (ci := 1) rfl 5 (by decide) zm_111 rfl cd_L_orderOfDates_72 h.1 rfl ?_
          refine ze_iload_n 4 cd_L_orderOfDates_75 rfl rfl ?_
          refine ze_iald (j := j) cd_L_orderOfDates_76 (h.2 4 _ rfl) rfl (by omega) (by decide) ?_
          refine ze_icmp_eq (tgt := 96) cd_L_orderOfDates_77 (by decide) (fun c39 => ?_) (fun c39 => ?_)
          · skip
            refine ze_aload_n 2 cd_L_orderOfDates_96 rfl rfl ?_
            refine ze_get zin_L (v := .ref (a + 6)) (ci := 1) rfl 6 (by decide) zm_115 rfl cd_L_orderOfDates_97 h.1 rfl ?_
            refine ze_iload_n 3 cd_L_orderOfDates_100 rfl rfl ?_
            refine ze_iald (j := i) cd_L_orderOfDates_101 (h.2 5 _ rfl) rfl (by omega) (by decide) ?_
            refine ze_aload_n 2 cd_L_orderOfDates_102 rfl rfl ?_
            refine ze_get zin_L (v := .ref (a + 6)) (ci := 1) rfl 6 (by decide) zm_115 rfl cd_L_orderOfDates_103 h.1 rfl ?_
            refine ze_iload_n 4 cd_L_orderOfDates_106 rfl rfl ?_
            refine ze_iald (j := j) cd_L_orderOfDates_107 (h.2 5 _ rfl) rfl (by omega) (by decide) ?_
            refine ze_icmp_eq (tgt := 127) cd_L_orderOfDates_108 (by decide) (fun c40 => ?_) (fun c40 => ?_)
            · skip
              refine ze_aload_n 2 cd_L_orderOfDates_127 rfl rfl ?_
              refine ze_get zin_L (v := .ref (a + 7)) (ci := 1) rfl 7 (by decide) zm_119 rfl cd_L_orderOfDates_128 h.1 rfl ?_
              refine ze_iload_n 3 cd_L_orderOfDates_131 rfl rfl ?_
              refine ze_iald (j := i) cd_L_orderOfDates_132 (h.2 6 _ rfl) rfl (by omega) (by decide) ?_
              refine ze_aload_n 2 cd_L_orderOfDates_133 rfl rfl ?_
              refine ze_get zin_L (v := .ref (a + 7)) (ci := 1) rfl 7 (by decide) zm_119 rfl cd_L_orderOfDates_134 h.1 rfl ?_
              refine ze_iload_n 4 cd_L_orderOfDates_137 rfl rfl ?_
              refine ze_iald (j := j) cd_L_orderOfDates_138 (h.2 6 _ rfl) rfl (by omega) (by decide) ?_
              refine ze_callSNp (rm' := zr_F_order) (As := [.int (R 6 i), .int (R 6 j)]) (rest := []) kc_F_order ⟨rfl, rfl⟩ zy_F_order_ok (host := "FindingAid") (by decide) zm_331 (by decide) (by decide) cd_L_orderOfDates_139 rfl rfl (Nat.le_of_ble_eq_true rfl) ?_
              refine ze_iret cd_L_orderOfDates_142 rfl (by decide) (by decide) (zPp_mk ?_)
              simp_all [zl_dates, nI]
            · skip
              refine ze_aload_n 2 cd_L_orderOfDates_111 rfl rfl ?_
              refine ze_get zin_L (v := .ref (a + 6)) (ci := 1) rfl 6 (by decide) zm_115 rfl cd_L_orderOfDates_112 h.1 rfl ?_
              refine ze_iload_n 3 cd_L_orderOfDates_115 rfl rfl ?_
              refine ze_iald (j := i) cd_L_orderOfDates_116 (h.2 5 _ rfl) rfl (by omega) (by decide) ?_
              refine ze_aload_n 2 cd_L_orderOfDates_117 rfl rfl ?_
              refine ze_get zin_L (v := .ref (a + 6)) (ci := 1) rfl 6 (by decide) zm_115 rfl cd_L_orderOfDates_118 h.1 rfl ?_
              refine ze_iload_n 4 cd_L_orderOfDates_121 rfl rfl ?_
              refine ze_iald (j := j) cd_L_orderOfDates_122 (h.2 5 _ rfl) rfl (by omega) (by decide) ?_
              refine ze_callSNp (rm' := zr_F_order) (As := [.int (R 5 i), .int (R 5 j)]) (rest := []) kc_F_order ⟨rfl, rfl⟩ zy_F_order_ok (host := "FindingAid") (by decide) zm_331 (by decide) (by decide) cd_L_orderOfDates_123 rfl rfl (Nat.le_of_ble_eq_true rfl) ?_
              refine ze_iret cd_L_orderOfDates_126 rfl (by decide) (by decide) (zPp_mk ?_)
              simp_all [zl_dates, nI]
          · skip
            refine ze_aload_n 2 cd_L_orderOfDates_80 rfl rfl ?_
            refine ze_get zin_L (v := .ref (a + 5)) (ci := 1) rfl 5 (by decide) zm_111 rfl cd_L_orderOfDates_81 h.1 rfl ?_
            refine ze_iload_n 3 cd_L_orderOfDates_84 rfl rfl ?_
            refine ze_iald (j := i) cd_L_orderOfDates_85 (h.2 4 _ rfl) rfl (by omega) (by decide) ?_
            refine ze_aload_n 2 cd_L_orderOfDates_86 rfl rfl ?_
            refine ze_get zin_L (v := .ref (a + 5)) (ci := 1) rfl 5 (by decide) zm_111 rfl cd_L_orderOfDates_87 h.1 rfl ?_
            refine ze_iload_n 4 cd_L_orderOfDates_90 rfl rfl ?_
            refine ze_iald (j := j) cd_L_orderOfDates_91 (h.2 4 _ rfl) rfl (by omega) (by decide) ?_
            refine ze_callSNp (rm' := zr_F_order) (As := [.int (R 4 i), .int (R 4 j)]) (rest := []) kc_F_order ⟨rfl, rfl⟩ zy_F_order_ok (host := "FindingAid") (by decide) zm_331 (by decide) (by decide) cd_L_orderOfDates_92 rfl rfl (Nat.le_of_ble_eq_true rfl) ?_
            refine ze_iret cd_L_orderOfDates_95 rfl (by decide) (by decide) (zPp_mk ?_)
            simp_all [zl_dates, nI]
        · skip
          have c38 := c38; rw [← nI_0] at c38
          have c38 : ¬ 1 = 0 := fun h9 => c38 (by rw [h9])
          refine ze_iload_n 1 cd_L_orderOfDates_42 rfl rfl ?_
          refine ze_if_eq (tgt := 50) cd_L_orderOfDates_43 (by decide) (fun c41 => ?_) (fun c41 => ?_)
          · skip
            have c41 := c41; rw [← nI_0] at c41
            have c41 : 1 = 0 := (nI_eq (by omega) (by omega)).mp c41
            refine ze_iconst (v := nI 0) cd_L_orderOfDates_50 (by decide) ?_
            refine ze_iload 0 cd_L_orderOfDates_51 rfl ?_
            refine ze_if_eq (tgt := 60) cd_L_orderOfDates_53 (by decide) (fun c42 => ?_) (fun c42 => ?_)
            · skip
              have c42 := c42; rw [← nI_0] at c42
              have c42 : 1 = 0 := (nI_eq (by omega) (by omega)).mp c42
              refine ze_iconst (v := nI 0) cd_L_orderOfDates_60 (by decide) ?_
              refine ze_callSNp (rm' := zr_F_order) (As := [.int (nI 0), .int (nI 0)]) (rest := []) kc_F_order ⟨rfl, rfl⟩ zy_F_order_ok (host := "FindingAid") (by decide) zm_331 (by decide) (by decide) cd_L_orderOfDates_61 rfl rfl (Nat.le_of_ble_eq_true rfl) ?_
              refine ze_iret cd_L_orderOfDates_64 rfl (by decide) (by decide) (zPp_mk ?_)
              simp_all [zl_dates, nI]
            · skip
              have c42 := c42; rw [← nI_0] at c42
              have c42 : ¬ 1 = 0 := fun h9 => c42 (by rw [h9])
              refine ze_iconst (v := nI 1) cd_L_orderOfDates_56 (by decide) ?_
              refine ze_goto (tgt := 61) cd_L_orderOfDates_57 (by decide) ?_
              refine ze_callSNp (rm' := zr_F_order) (As := [.int (nI 0), .int (nI 1)]) (rest := []) kc_F_order ⟨rfl, rfl⟩ zy_F_order_ok (host := "FindingAid") (by decide) zm_331 (by decide) (by decide) cd_L_orderOfDates_61 rfl rfl (Nat.le_of_ble_eq_true rfl) ?_
              refine ze_iret cd_L_orderOfDates_64 rfl (by decide) (by decide) (zPp_mk ?_)
              simp_all [zl_dates, nI]
          · skip
            have c41 := c41; rw [← nI_0] at c41
            have c41 : ¬ 1 = 0 := fun h9 => c41 (by rw [h9])
            refine ze_iconst (v := nI 1) cd_L_orderOfDates_46 (by decide) ?_
            refine ze_goto (tgt := 51) cd_L_orderOfDates_47 (by decide) ?_
            refine ze_iload 0 cd_L_orderOfDates_51 rfl ?_
            refine ze_if_eq (tgt := 60) cd_L_orderOfDates_53 (by decide) (fun c43 => ?_) (fun c43 => ?_)
            · skip
              have c43 := c43; rw [← nI_0] at c43
              have c43 : 1 = 0 := (nI_eq (by omega) (by omega)).mp c43
              refine ze_iconst (v := nI 0) cd_L_orderOfDates_60 (by decide) ?_
              refine ze_callSNp (rm' := zr_F_order) (As := [.int (nI 1), .int (nI 0)]) (rest := []) kc_F_order ⟨rfl, rfl⟩ zy_F_order_ok (host := "FindingAid") (by decide) zm_331 (by decide) (by decide) cd_L_orderOfDates_61 rfl rfl (Nat.le_of_ble_eq_true rfl) ?_
              refine ze_iret cd_L_orderOfDates_64 rfl (by decide) (by decide) (zPp_mk ?_)
              simp_all [zl_dates, nI]
            · skip
              have c43 := c43; rw [← nI_0] at c43
              have c43 : ¬ 1 = 0 := fun h9 => c43 (by rw [h9])
              refine ze_iconst (v := nI 1) cd_L_orderOfDates_56 (by decide) ?_
              refine ze_goto (tgt := 61) cd_L_orderOfDates_57 (by decide) ?_
              refine ze_callSNp (rm' := zr_F_order) (As := [.int (nI 1), .int (nI 1)]) (rest := []) kc_F_order ⟨rfl, rfl⟩ zy_F_order_ok (host := "FindingAid") (by decide) zm_331 (by decide) (by decide) cd_L_orderOfDates_61 rfl rfl (Nat.le_of_ble_eq_true rfl) ?_
              refine ze_iret cd_L_orderOfDates_64 rfl (by decide) (by decide) (zPp_mk ?_)
              simp_all [zl_dates, nI]
abbrev zr_L_deeperUnder : Room := { frames := 0, cells := 0, slots := 0, locals := 0 }
set_option maxRecDepth 100000 in
set_option maxHeartbeats 4000000 in
theorem kc_L_deeperUnder {g : zx_G} {σ : zx_M} {sz : Nat} {a n : Nat} {R : Nat → Nat → Int32} {i u : Nat} (h : zl g σ a n R) (hi : i < 100) (hu : u < 100) : zM g cy_L_deeperUnder cb_L_deeperUnder 3 (Option.some Jvm.ClassFile.FieldType.int) zr_L_deeperUnder 0 0 [.ref a, .int (nI i), .int (nI u)] σ sz (zPp (R 3 u + 1 - R 3 i) σ sz) := by
  refine zM_of (lv := [(0, .ref a), (1, .int (nI i)), (2, .int (nI u))]) (ini := false) (by decide) rfl (by decide) (Nat.le_of_ble_eq_true rfl) rfl ?_
  refine ze_aload_n 0 cd_L_deeperUnder_0 rfl rfl ?_
  refine ze_get zin_L (v := .ref (a + 4)) (ci := 1) rfl 4 (by decide) zm_106 rfl cd_L_deeperUnder_1 h.1 rfl ?_
  refine ze_iload_n 2 cd_L_deeperUnder_4 rfl rfl ?_
  refine ze_iald (j := u) cd_L_deeperUnder_5 (h.2 3 _ rfl) rfl (by omega) (by decide) ?_
  refine ze_iconst (v := nI 1) cd_L_deeperUnder_6 (by decide) ?_
  refine ze_iadd cd_L_deeperUnder_7 ?_
  refine ze_aload_n 0 cd_L_deeperUnder_8 rfl rfl ?_
  refine ze_get zin_L (v := .ref (a + 4)) (ci := 1) rfl 4 (by decide) zm_106 rfl cd_L_deeperUnder_9 h.1 rfl ?_
  refine ze_iload_n 1 cd_L_deeperUnder_12 rfl rfl ?_
  refine ze_iald (j := i) cd_L_deeperUnder_13 (h.2 3 _ rfl) rfl (by omega) (by decide) ?_
  refine ze_isub cd_L_deeperUnder_14 ?_
  refine ze_iret cd_L_deeperUnder_15 rfl (by decide) (by decide) (zPp_mk ?_)
  rfl
abbrev zr_L_isBehind : Room := { frames := 0, cells := 0, slots := 0, locals := 0 }
set_option maxRecDepth 100000 in
set_option maxHeartbeats 4000000 in
theorem kc_L_isBehind {g : zx_G} {σ : zx_M} {sz : Nat} {a n : Nat} {R : Nat → Nat → Int32} {i j : Nat} (h : zl g σ a n R) (hi : i < 100) (hj : j < 100) : zM g cy_L_isBehind cb_L_isBehind 3 (Option.some Jvm.ClassFile.FieldType.boolean) zr_L_isBehind 0 0 [.ref a, .int (nI i), .int (nI j)] σ sz (zPp (zb (zl_beh R i j)) σ sz) := by
  refine zM_of (lv := [(0, .ref a), (1, .int (nI i)), (2, .int (nI j))]) (ini := false) (by decide) rfl (by decide) (Nat.le_of_ble_eq_true rfl) rfl ?_
  refine ze_aload_n 0 cd_L_isBehind_0 rfl rfl ?_
  refine ze_get zin_L (v := .ref (a + 2)) (ci := 1) rfl 2 (by decide) zm_98 rfl cd_L_isBehind_1 h.1 rfl ?_
  refine ze_iload_n 1 cd_L_isBehind_4 rfl rfl ?_
  refine ze_iald (j := i) cd_L_isBehind_5 (h.2 1 _ rfl) rfl (by omega) (by decide) ?_
  refine ze_aload_n 0 cd_L_isBehind_6 rfl rfl ?_
  refine ze_get zin_L (v := .ref (a + 2)) (ci := 1) rfl 2 (by decide) zm_98 rfl cd_L_isBehind_7 h.1 rfl ?_
  refine ze_iload_n 2 cd_L_isBehind_10 rfl rfl ?_
  refine ze_iald (j := j) cd_L_isBehind_11 (h.2 1 _ rfl) rfl (by omega) (by decide) ?_
  refine ze_icmp_eq (tgt := 36) cd_L_isBehind_12 (by decide) (fun c1 => ?_) (fun c1 => ?_)
  · skip
    refine ze_iload_n 1 cd_L_isBehind_36 rfl rfl ?_
    refine ze_iload_n 2 cd_L_isBehind_37 rfl rfl ?_
    refine ze_icmp_le (tgt := 45) cd_L_isBehind_38 (by decide) (fun c2 => ?_) (fun c2 => ?_)
    · skip
      have c2 : i ≤ j := (nI_leI (by omega) (by omega)).mp c2
      refine ze_iconst (v := nI 0) cd_L_isBehind_45 (by decide) ?_
      refine ze_zret cd_L_isBehind_46 rfl (by decide) (by decide) (by decide) (zPp_mk ?_)
      simp_all [zl_beh, zb, nI]
    · skip
      have c2 : ¬ i ≤ j := fun h9 => c2 ((nI_leI (by omega) (by omega)).mpr h9)
      refine ze_iconst (v := nI 1) cd_L_isBehind_41 (by decide) ?_
      refine ze_goto (tgt := 46) cd_L_isBehind_42 (by decide) ?_
      refine ze_zret cd_L_isBehind_46 rfl (by decide) (by decide) (by decide) (zPp_mk ?_)
      simp_all [zl_beh, zb, nI]
  · skip
    refine ze_aload_n 0 cd_L_isBehind_15 rfl rfl ?_
    refine ze_get zin_L (v := .ref (a + 2)) (ci := 1) rfl 2 (by decide) zm_98 rfl cd_L_isBehind_16 h.1 rfl ?_
    refine ze_iload_n 1 cd_L_isBehind_19 rfl rfl ?_
    refine ze_iald (j := i) cd_L_isBehind_20 (h.2 1 _ rfl) rfl (by omega) (by decide) ?_
    refine ze_aload_n 0 cd_L_isBehind_21 rfl rfl ?_
    refine ze_get zin_L (v := .ref (a + 2)) (ci := 1) rfl 2 (by decide) zm_98 rfl cd_L_isBehind_22 h.1 rfl ?_
    refine ze_iload_n 2 cd_L_isBehind_25 rfl rfl ?_
    refine ze_iald (j := j) cd_L_isBehind_26 (h.2 1 _ rfl) rfl (by omega) (by decide) ?_
    refine ze_icmp_le (tgt := 34) cd_L_isBehind_27 (by decide) (fun c3 => ?_) (fun c3 => ?_)
    · skip
      have c3 : ¬ (R 1 j) < (R 1 i) := Int32.not_lt.mpr c3
      refine ze_iconst (v := nI 0) cd_L_isBehind_34 (by decide) ?_
      refine ze_zret cd_L_isBehind_35 rfl (by decide) (by decide) (by decide) (zPp_mk ?_)
      simp_all [zl_beh, zb, nI]
    · skip
      have c3 : (R 1 j) < (R 1 i) := Int32.not_le.mp c3
      refine ze_iconst (v := nI 1) cd_L_isBehind_30 (by decide) ?_
      refine ze_goto (tgt := 35) cd_L_isBehind_31 (by decide) ?_
      refine ze_zret cd_L_isBehind_35 rfl (by decide) (by decide) (by decide) (zPp_mk ?_)
      simp_all [zl_beh, zb, nI]
end
section
theorem zn_1 : nI 1 = 1 := by decide
theorem zn_2 : nI 2 = 2 := by decide
theorem zn_3 : nI 3 = 3 := by decide
theorem zn_4 : nI 4 = 4 := by decide
theorem zn_8 : nI 8 = 8 := by decide
abbrev zr_L_latestOfDepth : Room := { frames := 0, cells := 0, slots := 0, locals := 0 }
set_option maxRecDepth 100000 in
set_option maxHeartbeats 4000000 in
theorem kc_L_latestOfDepth {g : zx_G} {σ : zx_M} {sz : Nat} {a n : Nat} {R : Nat → Nat → Int32} {k0 : Nat} {wd : Int32} (h : zl g σ a n R) (hk0 : k0 ≤ 100) : zM g cy_L_latestOfDepth cb_L_latestOfDepth 4 (Option.some Jvm.ClassFile.FieldType.int) zr_L_latestOfDepth 0 0 [.ref a, .int (zp k0), .int wd] σ sz (zPp (zl_lod (R 3) wd k0) σ sz) := by
  have loop : ∀ (kk : Nat), kk ≤ 100 → zl_lod (R 3) wd kk = zl_lod (R 3) wd k0 → zE g "FindingAid$Levels" cb_L_latestOfDepth 4 (Option.some Jvm.ClassFile.FieldType.int) false zr_L_latestOfDepth 0 0 (zPp (zl_lod (R 3) wd k0) σ sz) 2 [(3, .int (zp kk)), (0, .ref a), (1, .int (zp k0)), (2, .int wd)] [] σ sz 0 0 := by
    intro kk
    induction kk with
    | zero =>
      intro hk hE
      refine ze_iload_n 0 cd_L_latestOfDepth_2 rfl rfl ?_
      refine ze_if_lt (tgt := 24) cd_L_latestOfDepth_3 (by decide) (fun c2 => ?_) (fun c2 => ?_)
      · skip
        refine ze_iconst (v := (-1 : Int32)) cd_L_latestOfDepth_24 (by decide) ?_
        refine ze_iret cd_L_latestOfDepth_25 rfl (by decide) (by decide) (zPp_mk ?_)
        rw [← hE]; simp [zl_lod, zp, c2]
      · skip
        exact absurd (by decide) c2
    | succ kk ih =>
      intro hk hE
      refine ze_iload_n 0 cd_L_latestOfDepth_2 rfl rfl ?_
      refine ze_if_lt (tgt := 24) cd_L_latestOfDepth_3 (by decide) (fun c2 => ?_) (fun c2 => ?_)
      · skip
        have c2 := c2; rw [← nI_0] at c2
        have c2 : kk < 0 := (nI_ltI (by omega) (by omega)).mp c2
        exfalso; omega
      · skip
        have c2 := c2; rw [← nI_0] at c2
        have c2 : ¬ kk < 0 := fun h9 => c2 ((nI_ltI (by omega) (by omega)).mpr h9)
        refine ze_aload_n 1 cd_L_latestOfDepth_6 rfl rfl ?_
        refine ze_get zin_L (v := .ref (a + 4)) (ci := 1) rfl 4 (by decide) zm_106 rfl cd_L_latestOfDepth_7 h.1 rfl ?_
        refine ze_iload_n 0 cd_L_latestOfDepth_10 rfl rfl ?_
        refine ze_iald (j := kk) cd_L_latestOfDepth_11 (h.2 3 _ rfl) rfl (by omega) (by decide) ?_
        refine ze_iload_n 3 cd_L_latestOfDepth_12 rfl rfl ?_
        refine ze_icmp_ne (tgt := 18) cd_L_latestOfDepth_13 (by decide) (fun c3 => ?_) (fun c3 => ?_)
        · skip
          refine ze_iinc (v := zp kk) (lv' := [(3, .int (zp kk)), (0, .ref a), (1, .int (zp k0)), (2, .int wd)]) 0 cd_L_latestOfDepth_18 rfl (zp_add kk) (by decide) rfl ?_
          refine ze_goto (tgt := 2) cd_L_latestOfDepth_21 (by decide) ?_
          exact ih (by omega) (by rw [← hE]; simp [zl_lod, c2, c3])
        · skip
          refine ze_iload_n 0 cd_L_latestOfDepth_16 rfl rfl ?_
          refine ze_iret cd_L_latestOfDepth_17 rfl (by decide) (by decide) (zPp_mk ?_)
          rw [← hE]; simp [zl_lod, zp, c2, c3]
  refine zM_of (lv := [(0, .ref a), (1, .int (zp k0)), (2, .int wd)]) (ini := false) (by decide) rfl (by decide) (Nat.le_of_ble_eq_true rfl) rfl ?_
  refine ze_iload_n 1 cd_L_latestOfDepth_0 rfl rfl ?_
  refine ze_istore_n (lv' := [(3, .int (zp k0)), (0, .ref a), (1, .int (zp k0)), (2, .int wd)]) cd_L_latestOfDepth_1 rfl (by decide) rfl ?_
  exact loop k0 hk0 rfl
abbrev zr_L_repeatsNumber : Room := { frames := 0, cells := 0, slots := 0, locals := 0 }
set_option maxRecDepth 100000 in
set_option maxHeartbeats 4000000 in
theorem kc_L_repeatsNumber {g : zx_G} {σ : zx_M} {sz : Nat} {a n : Nat} {R : Nat → Nat → Int32} {j : Nat} (h : zl g σ a n R) (hj : j < 100) : zM g cy_L_repeatsNumber cb_L_repeatsNumber 3 (Option.some Jvm.ClassFile.FieldType.boolean) zr_L_repeatsNumber 0 0 [.ref a, .int (nI j)] σ sz (zPp (zb (zl_rep R j)) σ sz) := by
  have loop : ∀ (kk : Nat) (lo : Nat), lo + kk = j → zany (fun x => decide (R 2 x = R 2 j) && decide (R 1 x = R 1 j)) lo kk = zl_rep R j → zE g "FindingAid$Levels" cb_L_repeatsNumber 3 (Option.some Jvm.ClassFile.FieldType.boolean) false zr_L_repeatsNumber 0 0 (zPp (zb (zl_rep R j)) σ sz) 2 [(2, .int (nI lo)), (0, .ref a), (1, .int (nI j))] [] σ sz 0 0 := by
    intro kk
    induction kk with
    | zero =>
      intro lo hk hE
      refine ze_iload_n 0 cd_L_repeatsNumber_2 rfl rfl ?_
      refine ze_iload_n 2 cd_L_repeatsNumber_3 rfl rfl ?_
      refine ze_icmp_ge (tgt := 45) cd_L_repeatsNumber_4 (by decide) (fun c2 => ?_) (fun c2 => ?_)
      · skip
        have c2 : j ≤ lo := (nI_leI (by omega) (by omega)).mp c2
        refine ze_iconst (v := nI 0) cd_L_repeatsNumber_45 (by decide) ?_
        refine ze_zret cd_L_repeatsNumber_46 rfl (by decide) (by decide) (by decide) (zPp_mk ?_)
        rw [← hE]; simp [zany, zb, nI_0, zn_1, c2]
      · skip
        have c2 : ¬ j ≤ lo := fun h9 => c2 ((nI_leI (by omega) (by omega)).mpr h9)
        exfalso; omega
    | succ kk ih =>
      intro lo hk hE
      refine ze_iload_n 0 cd_L_repeatsNumber_2 rfl rfl ?_
      refine ze_iload_n 2 cd_L_repeatsNumber_3 rfl rfl ?_
      refine ze_icmp_ge (tgt := 45) cd_L_repeatsNumber_4 (by decide) (fun c4 => ?_) (fun c4 => ?_)
      · skip
        have c4 : j ≤ lo := (nI_leI (by omega) (by omega)).mp c4
        exfalso; omega
      · skip
        have c4 : ¬ j ≤ lo := fun h9 => c4 ((nI_leI (by omega) (by omega)).mpr h9)
        refine ze_aload_n 1 cd_L_repeatsNumber_7 rfl rfl ?_
        refine ze_get zin_L (v := .ref (a + 3)) (ci := 1) rfl 3 (by decide) zm_102 rfl cd_L_repeatsNumber_8 h.1 rfl ?_
        refine ze_iload_n 0 cd_L_repeatsNumber_11 rfl rfl ?_
        refine ze_iald (j := lo) cd_L_repeatsNumber_12 (h.2 2 _ rfl) rfl (by omega) (by decide) ?_
        refine ze_aload_n 1 cd_L_repeatsNumber_13 rfl rfl ?_
        refine ze_get zin_L (v := .ref (a + 3)) (ci := 1) rfl 3 (by decide) zm_102 rfl cd_L_repeatsNumber_14 h.1 rfl ?_
        refine ze_iload_n 2 cd_L_repeatsNumber_17 rfl rfl ?_
        refine ze_iald (j := j) cd_L_repeatsNumber_18 (h.2 2 _ rfl) rfl (by omega) (by decide) ?_
        refine ze_icmp_ne (tgt := 39) cd_L_repeatsNumber_19 (by decide) (fun c5 => ?_) (fun c5 => ?_)
        · skip
          refine ze_iinc (v := nI (lo + 1)) (lv' := [(2, .int (nI (lo + 1))), (0, .ref a), (1, .int (nI j))]) 0 cd_L_repeatsNumber_39 rfl (nI_add _ 1) (by decide) rfl ?_
          refine ze_goto (tgt := 2) cd_L_repeatsNumber_42 (by decide) ?_
          exact ih (lo + 1) (by omega) (by rw [← hE]; simp [zany, c4, c5])
        · skip
          refine ze_aload_n 1 cd_L_repeatsNumber_22 rfl rfl ?_
          refine ze_get zin_L (v := .ref (a + 2)) (ci := 1) rfl 2 (by decide) zm_98 rfl cd_L_repeatsNumber_23 h.1 rfl ?_
          refine ze_iload_n 0 cd_L_repeatsNumber_26 rfl rfl ?_
          refine ze_iald (j := lo) cd_L_repeatsNumber_27 (h.2 1 _ rfl) rfl (by omega) (by decide) ?_
          refine ze_aload_n 1 cd_L_repeatsNumber_28 rfl rfl ?_
          refine ze_get zin_L (v := .ref (a + 2)) (ci := 1) rfl 2 (by decide) zm_98 rfl cd_L_repeatsNumber_29 h.1 rfl ?_
          refine ze_iload_n 2 cd_L_repeatsNumber_32 rfl rfl ?_
          refine ze_iald (j := j) cd_L_repeatsNumber_33 (h.2 1 _ rfl) rfl (by omega) (by decide) ?_
          refine ze_icmp_ne (tgt := 39) cd_L_repeatsNumber_34 (by decide) (fun c6 => ?_) (fun c6 => ?_)
          · skip
            refine ze_iinc (v := nI (lo + 1)) (lv' := [(2, .int (nI (lo + 1))), (0, .ref a), (1, .int (nI j))]) 0 cd_L_repeatsNumber_39 rfl (nI_add _ 1) (by decide) rfl ?_
            refine ze_goto (tgt := 2) cd_L_repeatsNumber_42 (by decide) ?_
            exact ih (lo + 1) (by omega) (by rw [← hE]; simp [zany, c4, c5, c6])
          · skip
            refine ze_iconst (v := nI 1) cd_L_repeatsNumber_37 (by decide) ?_
            refine ze_zret cd_L_repeatsNumber_38 rfl (by decide) (by decide) (by decide) (zPp_mk ?_)
            rw [← hE]; simp [zany, zb, nI_0, zn_1, c4, c5, c6]
  refine zM_of (lv := [(0, .ref a), (1, .int (nI j))]) (ini := false) (by decide) rfl (by decide) (Nat.le_of_ble_eq_true rfl) rfl ?_
  refine ze_iconst (v := nI 0) cd_L_repeatsNumber_0 (by decide) ?_
  refine ze_istore_n (lv' := [(2, .int (nI 0)), (0, .ref a), (1, .int (nI j))]) cd_L_repeatsNumber_1 rfl (by decide) rfl ?_
  exact loop j 0 (by omega) rfl
abbrev zr_L_isWithin : Room := { frames := 1, cells := 0, slots := 0, locals := 21 }
set_option maxRecDepth 100000 in
set_option maxHeartbeats 4000000 in
theorem kc_L_isWithin {g : zx_G} {σ : zx_M} {sz : Nat} {a n : Nat} {R : Nat → Nat → Int32} {i top : Int32} (h : zl g σ a n R) (hn : n ≤ 100) : zM g cy_L_isWithin cb_L_isWithin 5 (Option.some Jvm.ClassFile.FieldType.boolean) zr_L_isWithin 0 0 [.ref a, .int i, .int top] σ sz (zPp (zb (zl_wi n (R 2) top 9 i)) σ sz) := by
  generalize hX0 : zl_wi n (R 2) top 9 i = X0
  have loop : ∀ (kk : Nat) (sp : Nat) (x : Int32), sp + kk = 9 → zl_wi n (R 2) top kk x = X0 → zE g "FindingAid$Levels" cb_L_isWithin 5 (Option.some Jvm.ClassFile.FieldType.boolean) false zr_L_isWithin 0 0 (zPp (zb (X0)) σ sz) 5 [(4, .int (nI sp)), (3, .int x), (0, .ref a), (1, .int i), (2, .int top)] [] σ sz 0 0 := by
    intro kk
    induction kk with
    | zero =>
      intro sp x hk hE
      refine ze_iload 0 cd_L_isWithin_5 rfl ?_
      refine ze_bipush (v := nI 8) cd_L_isWithin_7 (by decide) ?_
      refine ze_icmp_gt (tgt := 40) cd_L_isWithin_9 (by decide) (fun c2 => ?_) (fun c2 => ?_)
      · skip
        have c2 : 8 < sp := (nI_ltI (by omega) (by omega)).mp c2
        refine ze_iconst (v := nI 0) cd_L_isWithin_40 (by decide) ?_
        refine ze_zret cd_L_isWithin_41 rfl (by decide) (by decide) (by decide) (zPp_mk ?_)
        rw [← hE]; first | (simp [zl_wi, zb, nI_0, zn_1, c2]; done) | (simp only [zl_wi]; simp [zb, nI_0, zn_1, c2])
      · skip
        have c2 : ¬ 8 < sp := fun h9 => c2 ((nI_ltI (by omega) (by omega)).mpr h9)
        exfalso; omega
    | succ kk ih =>
      intro sp x hk hE
      refine ze_iload 0 cd_L_isWithin_5 rfl ?_
      refine ze_bipush (v := nI 8) cd_L_isWithin_7 (by decide) ?_
      refine ze_icmp_gt (tgt := 40) cd_L_isWithin_9 (by decide) (fun c4 => ?_) (fun c4 => ?_)
      · skip
        have c4 : 8 < sp := (nI_ltI (by omega) (by omega)).mp c4
        exfalso; omega
      · skip
        have c4 : ¬ 8 < sp := fun h9 => c4 ((nI_ltI (by omega) (by omega)).mpr h9)
        refine ze_aload_n 2 cd_L_isWithin_12 rfl rfl ?_
        refine ze_iload_n 1 cd_L_isWithin_13 rfl rfl ?_
        refine ze_callVp (rm' := zr_L_has) (b := a) (As := [.int x]) (rest := []) (kc_L_has h) ⟨rfl, rfl⟩ zy_L_has_ok zm_416 zm_311 zm_312 (ci := 1) rfl rfl (by decide) (by decide) cd_L_isWithin_14 h.1 rfl rfl (Nat.le_of_ble_eq_true rfl) ?_
        refine ze_if_eq (tgt := 40) cd_L_isWithin_17 (by decide) (fun c5 => ?_) (fun c5 => ?_)
        · skip
          have c5 : ((zi n x).isSome) = false := zb_f c5
          have c5 : zi n x = none := by simpa using c5
          refine ze_iconst (v := nI 0) cd_L_isWithin_40 (by decide) ?_
          refine ze_zret cd_L_isWithin_41 rfl (by decide) (by decide) (by decide) (zPp_mk ?_)
          rw [← hE]; first | (simp [zl_wi, zb, nI_0, zn_1, c4, c5]; done) | (simp only [zl_wi]; simp [zb, nI_0, zn_1, c4, c5])
        · skip
          have c5 : ((zi n x).isSome) = true := zb_t c5
          obtain ⟨q, hq⟩ := Option.isSome_iff_exists.mp c5
          obtain ⟨hqn, rfl⟩ := zi_some (by omega) hq
          refine ze_iload_n 1 cd_L_isWithin_20 rfl rfl ?_
          refine ze_iload_n 4 cd_L_isWithin_21 rfl rfl ?_
          refine ze_icmp_ne (tgt := 27) cd_L_isWithin_22 (by decide) (fun c6 => ?_) (fun c6 => ?_)
          · skip
            refine ze_aload_n 2 cd_L_isWithin_27 rfl rfl ?_
            refine ze_get zin_L (v := .ref (a + 3)) (ci := 1) rfl 3 (by decide) zm_102 rfl cd_L_isWithin_28 h.1 rfl ?_
            refine ze_iload_n 1 cd_L_isWithin_31 rfl rfl ?_
            refine ze_iald (j := q) cd_L_isWithin_32 (h.2 2 _ rfl) rfl (by omega) (by decide) ?_
            refine ze_istore_n (lv' := [(3, .int (R 2 q)), (4, .int (nI sp)), (0, .ref a), (1, .int i), (2, .int top)]) cd_L_isWithin_33 rfl (by decide) rfl ?_
            refine ze_iinc (v := nI (sp + 1)) (lv' := [(4, .int (nI (sp + 1))), (3, .int (R 2 q)), (0, .ref a), (1, .int i), (2, .int top)]) 1 cd_L_isWithin_34 rfl (nI_add _ 1) (by decide) rfl ?_
            refine ze_goto (tgt := 5) cd_L_isWithin_37 (by decide) ?_
            exact ih (sp + 1) _ (by omega) (by rw [← hE]; simp [zl_wi, c4, hq, c6])
          · skip
            refine ze_iconst (v := nI 1) cd_L_isWithin_25 (by decide) ?_
            refine ze_zret cd_L_isWithin_26 rfl (by decide) (by decide) (by decide) (zPp_mk ?_)
            rw [← hE]; first | (simp [zl_wi, zb, nI_0, zn_1, c4, hq, c6]; done) | (simp only [zl_wi, hq]; simp [zb, nI_0, zn_1, c4, hq, c6])
  refine zM_of (lv := [(0, .ref a), (1, .int i), (2, .int top)]) (ini := false) (by decide) rfl (by decide) (Nat.le_of_ble_eq_true rfl) rfl ?_
  refine ze_iload_n 1 cd_L_isWithin_0 rfl rfl ?_
  refine ze_istore_n (lv' := [(3, .int i), (0, .ref a), (1, .int i), (2, .int top)]) cd_L_isWithin_1 rfl (by decide) rfl ?_
  refine ze_iconst (v := nI 0) cd_L_isWithin_2 (by decide) ?_
  refine ze_istore (lv' := [(4, .int (nI 0)), (3, .int i), (0, .ref a), (1, .int i), (2, .int top)]) cd_L_isWithin_3 (by decide) rfl ?_
  exact loop 9 0 i (by omega) hX0
abbrev zr_L_deepestWithin : Room := { frames := 2, cells := 0, slots := 0, locals := 45 }
set_option maxRecDepth 100000 in
set_option maxHeartbeats 4000000 in
theorem kc_L_deepestWithin {g : zx_G} {σ : zx_M} {sz : Nat} {a n : Nat} {R : Nat → Nat → Int32} {top : Int32} (h : zl g σ a n R) (hn : n ≤ 100) : zM g cy_L_deepestWithin cb_L_deepestWithin 4 (Option.some Jvm.ClassFile.FieldType.int) zr_L_deepestWithin 0 0 [.ref a, .int top] σ sz (zPp (zl_dw n R top) σ sz) := by
  generalize hX0 : zl_dw n R top = X0
  have loop : ∀ (kk : Nat) (lo : Nat) (s : Int32), lo + kk = n → zfold (fun s x => if zl_wi n (R 2) top 9 (nI x) then (if s < R 3 x then R 3 x else s) else s) s lo kk = X0 → zE g "FindingAid$Levels" cb_L_deepestWithin 4 (Option.some Jvm.ClassFile.FieldType.int) false zr_L_deepestWithin 0 0 (zPp X0 σ sz) 4 [(3, .int (nI lo)), (2, .int s), (0, .ref a), (1, .int top)] [] σ sz 0 0 := by
    intro kk
    induction kk with
    | zero =>
      intro lo s hk hE
      refine ze_iload_n 0 cd_L_deepestWithin_4 rfl rfl ?_
      refine ze_aload_n 2 cd_L_deepestWithin_5 rfl rfl ?_
      refine ze_get zin_L (v := .int (nI n)) (ci := 1) rfl 0 (by decide) zm_88 rfl cd_L_deepestWithin_6 h.1 rfl ?_
      refine ze_icmp_ge (tgt := 38) cd_L_deepestWithin_9 (by decide) (fun c2 => ?_) (fun c2 => ?_)
      · skip
        have c2 : n ≤ lo := (nI_leI (by omega) (by omega)).mp c2
        refine ze_iload_n 1 cd_L_deepestWithin_38 rfl rfl ?_
        refine ze_iret cd_L_deepestWithin_39 rfl (by decide) (by decide) (zPp_mk ?_)
        rw [← hE]; rfl
      · skip
        have c2 : ¬ n ≤ lo := fun h9 => c2 ((nI_leI (by omega) (by omega)).mpr h9)
        exfalso; omega
    | succ kk ih =>
      intro lo s hk hE
      refine ze_iload_n 0 cd_L_deepestWithin_4 rfl rfl ?_
      refine ze_aload_n 2 cd_L_deepestWithin_5 rfl rfl ?_
      refine ze_get zin_L (v := .int (nI n)) (ci := 1) rfl 0 (by decide) zm_88 rfl cd_L_deepestWithin_6 h.1 rfl ?_
      refine ze_icmp_ge (tgt := 38) cd_L_deepestWithin_9 (by decide) (fun c4 => ?_) (fun c4 => ?_)
      · skip
        have c4 : n ≤ lo := (nI_leI (by omega) (by omega)).mp c4
        exfalso; omega
      · skip
        have c4 : ¬ n ≤ lo := fun h9 => c4 ((nI_leI (by omega) (by omega)).mpr h9)
        refine ze_aload_n 2 cd_L_deepestWithin_12 rfl rfl ?_
        refine ze_iload_n 0 cd_L_deepestWithin_13 rfl rfl ?_
        refine ze_iload_n 3 cd_L_deepestWithin_14 rfl rfl ?_
        refine ze_callVp (rm' := zr_L_isWithin) (b := a) (As := [.int (nI lo), .int top]) (rest := []) (kc_L_isWithin h (by omega)) ⟨rfl, rfl⟩ zy_L_isWithin_ok zm_412 zm_413 zm_414 (ci := 1) rfl rfl (by decide) (by decide) cd_L_deepestWithin_15 h.1 rfl rfl (Nat.le_of_ble_eq_true rfl) ?_
        refine ze_if_eq (tgt := 32) cd_L_deepestWithin_18 (by decide) (fun c5 => ?_) (fun c5 => ?_)
        · skip
          have c5 : (zl_wi n (R 2) top 9 (nI lo)) = false := zb_f c5
          refine ze_iinc (v := nI (lo + 1)) (lv' := [(3, .int (nI (lo + 1))), (2, .int s), (0, .ref a), (1, .int top)]) 0 cd_L_deepestWithin_32 rfl (nI_add _ 1) (by decide) rfl ?_
          refine ze_goto (tgt := 4) cd_L_deepestWithin_35 (by decide) ?_
          exact ih (lo + 1) _ (by omega) (by rw [← hE]; simp only [zfold, c4, c5]; rfl)
        · skip
          have c5 : (zl_wi n (R 2) top 9 (nI lo)) = true := zb_t c5
          refine ze_iload_n 1 cd_L_deepestWithin_21 rfl rfl ?_
          refine ze_aload_n 2 cd_L_deepestWithin_22 rfl rfl ?_
          refine ze_get zin_L (v := .ref (a + 4)) (ci := 1) rfl 4 (by decide) zm_106 rfl cd_L_deepestWithin_23 h.1 rfl ?_
          refine ze_iload_n 0 cd_L_deepestWithin_26 rfl rfl ?_
          refine ze_iald (j := lo) cd_L_deepestWithin_27 (h.2 3 _ rfl) rfl (by omega) (by decide) ?_
          refine ze_mmax zm_421 cd_L_deepestWithin_28 (by decide) (Nat.le_of_ble_eq_true rfl) (by decide) ?_
          refine ze_istore_n (lv' := [(2, .int (if s < (R 3 lo) then (R 3 lo) else s)), (3, .int (nI lo)), (0, .ref a), (1, .int top)]) cd_L_deepestWithin_31 rfl (by decide) rfl ?_
          refine ze_iinc (v := nI (lo + 1)) (lv' := [(3, .int (nI (lo + 1))), (2, .int (if s < (R 3 lo) then (R 3 lo) else s)), (0, .ref a), (1, .int top)]) 1 cd_L_deepestWithin_32 rfl (nI_add _ 1) (by decide) rfl ?_
          refine ze_goto (tgt := 4) cd_L_deepestWithin_35 (by decide) ?_
          exact ih (lo + 1) _ (by omega) (by rw [← hE]; simp only [zfold, c4, c5]; rfl)
  refine zM_of (lv := [(0, .ref a), (1, .int top)]) (ini := false) (by decide) rfl (by decide) (Nat.le_of_ble_eq_true rfl) rfl ?_
  refine ze_iconst (v := nI 0) cd_L_deepestWithin_0 (by decide) ?_
  refine ze_istore_n (lv' := [(2, .int (nI 0)), (0, .ref a), (1, .int top)]) cd_L_deepestWithin_1 rfl (by decide) rfl ?_
  refine ze_iconst (v := nI 0) cd_L_deepestWithin_2 (by decide) ?_
  refine ze_istore_n (lv' := [(3, .int (nI 0)), (2, .int (nI 0)), (0, .ref a), (1, .int top)]) cd_L_deepestWithin_3 rfl (by decide) rfl ?_
  exact loop n 0 0 (by omega) hX0
abbrev zr_L_mayHang : Room := { frames := 3, cells := 0, slots := 0, locals := 68 }
set_option maxRecDepth 100000 in
set_option maxHeartbeats 4000000 in
theorem kc_L_mayHang {g : zx_G} {σ : zx_M} {sz : Nat} {a n : Nat} {R : Nat → Nat → Int32} {i u : Nat} (h : zl g σ a n R) (hn : n ≤ 100) (hi : i < 100) (hu : u < 100) : zM g cy_L_mayHang cb_L_mayHang 3 (Option.some Jvm.ClassFile.FieldType.boolean) zr_L_mayHang 0 0 [.ref a, .int (nI i), .int (nI u)] σ sz (zPp (zb (zl_may n R i u)) σ sz) := by
  refine zM_of (lv := [(0, .ref a), (1, .int (nI i)), (2, .int (nI u))]) (ini := false) (by decide) rfl (by decide) (Nat.le_of_ble_eq_true rfl) rfl ?_
  refine ze_aload_n 0 cd_L_mayHang_0 rfl rfl ?_
  refine ze_iload_n 2 cd_L_mayHang_1 rfl rfl ?_
  refine ze_iload_n 1 cd_L_mayHang_2 rfl rfl ?_
  refine ze_callVp (rm' := zr_L_isWithin) (b := a) (As := [.int (nI u), .int (nI i)]) (rest := []) (kc_L_isWithin h (by omega)) ⟨rfl, rfl⟩ zy_L_isWithin_ok zm_412 zm_413 zm_414 (ci := 1) rfl rfl (by decide) (by decide) cd_L_mayHang_3 h.1 rfl rfl (Nat.le_of_ble_eq_true rfl) ?_
  refine ze_if_ne (tgt := 34) cd_L_mayHang_6 (by decide) (fun c1 => ?_) (fun c1 => ?_)
  · skip
    have c1 : (zl_wi n (R 2) (nI i) 9 (nI u)) = true := zb_t c1
    refine ze_iconst (v := nI 0) cd_L_mayHang_34 (by decide) ?_
    refine ze_zret cd_L_mayHang_35 rfl (by decide) (by decide) (by decide) (zPp_mk ?_)
    first | (simp [zl_may, zb, nI_0, zn_1, c1]; done) | (simp [zl_may, zb, nI_0, zn_1, zn_3, ← zn_3, ← zn_8, c1]; done)
  · skip
    have c1 : (zl_wi n (R 2) (nI i) 9 (nI u)) = false := zb_f c1
    refine ze_aload_n 0 cd_L_mayHang_9 rfl rfl ?_
    refine ze_get zin_L (v := .ref (a + 1)) (ci := 1) rfl 1 (by decide) zm_94 rfl cd_L_mayHang_10 h.1 rfl ?_
    refine ze_iload_n 2 cd_L_mayHang_13 rfl rfl ?_
    refine ze_iald (j := u) cd_L_mayHang_14 (h.2 0 _ rfl) rfl (by omega) (by decide) ?_
    refine ze_aload_n 0 cd_L_mayHang_15 rfl rfl ?_
    refine ze_get zin_L (v := .ref (a + 1)) (ci := 1) rfl 1 (by decide) zm_94 rfl cd_L_mayHang_16 h.1 rfl ?_
    refine ze_iload_n 1 cd_L_mayHang_19 rfl rfl ?_
    refine ze_iald (j := i) cd_L_mayHang_20 (h.2 0 _ rfl) rfl (by omega) (by decide) ?_
    refine ze_icmp_gt (tgt := 34) cd_L_mayHang_21 (by decide) (fun c2 => ?_) (fun c2 => ?_)
    · skip
      refine ze_iconst (v := nI 0) cd_L_mayHang_34 (by decide) ?_
      refine ze_zret cd_L_mayHang_35 rfl (by decide) (by decide) (by decide) (zPp_mk ?_)
      first | (simp [zl_may, zb, nI_0, zn_1, c1, c2]; done) | (simp [zl_may, zb, nI_0, zn_1, zn_3, ← zn_3, ← zn_8, c1, c2]; done)
    · skip
      refine ze_aload_n 0 cd_L_mayHang_24 rfl rfl ?_
      refine ze_get zin_L (v := .ref (a + 1)) (ci := 1) rfl 1 (by decide) zm_94 rfl cd_L_mayHang_25 h.1 rfl ?_
      refine ze_iload_n 2 cd_L_mayHang_28 rfl rfl ?_
      refine ze_iald (j := u) cd_L_mayHang_29 (h.2 0 _ rfl) rfl (by omega) (by decide) ?_
      refine ze_iconst (v := nI 3) cd_L_mayHang_30 (by decide) ?_
      refine ze_icmp_ne (tgt := 36) cd_L_mayHang_31 (by decide) (fun c3 => ?_) (fun c3 => ?_)
      · skip
        refine ze_aload_n 0 cd_L_mayHang_36 rfl rfl ?_
        refine ze_iload_n 1 cd_L_mayHang_37 rfl rfl ?_
        refine ze_callVp (rm' := zr_L_deepestWithin) (b := a) (As := [.int (nI i)]) (rest := []) (kc_L_deepestWithin h (by omega)) ⟨rfl, rfl⟩ zy_L_deepestWithin_ok zm_417 zm_419 zm_1 (ci := 1) rfl rfl (by decide) (by decide) cd_L_mayHang_38 h.1 rfl rfl (Nat.le_of_ble_eq_true rfl) ?_
        refine ze_aload_n 0 cd_L_mayHang_41 rfl rfl ?_
        refine ze_iload_n 1 cd_L_mayHang_42 rfl rfl ?_
        refine ze_iload_n 2 cd_L_mayHang_43 rfl rfl ?_
        refine ze_callVp (rm' := zr_L_deeperUnder) (b := a) (As := [.int (nI i), .int (nI u)]) (rest := [.int (zl_dw n R (nI i))]) (kc_L_deeperUnder h (by omega) (by omega)) ⟨rfl, rfl⟩ zy_L_deeperUnder_ok zm_424 zm_426 zm_2 (ci := 1) rfl rfl (by decide) (by decide) cd_L_mayHang_44 h.1 rfl rfl (Nat.le_of_ble_eq_true rfl) ?_
        refine ze_iadd cd_L_mayHang_47 ?_
        refine ze_bipush (v := nI 8) cd_L_mayHang_48 (by decide) ?_
        refine ze_icmp_gt (tgt := 57) cd_L_mayHang_50 (by decide) (fun c4 => ?_) (fun c4 => ?_)
        · skip
          refine ze_iconst (v := nI 0) cd_L_mayHang_57 (by decide) ?_
          refine ze_zret cd_L_mayHang_58 rfl (by decide) (by decide) (by decide) (zPp_mk ?_)
          first | (simp [zl_may, zb, nI_0, zn_1, c1, c2, c3, c4]; done) | (simp [zl_may, zb, nI_0, zn_1, zn_3, ← zn_3, ← zn_8, c1, c2, c3, c4]; done)
        · skip
          refine ze_iconst (v := nI 1) cd_L_mayHang_53 (by decide) ?_
          refine ze_goto (tgt := 58) cd_L_mayHang_54 (by decide) ?_
          refine ze_zret cd_L_mayHang_58 rfl (by decide) (by decide) (by decide) (zPp_mk ?_)
          first | (simp [zl_may, zb, nI_0, zn_1, c1, c2, c3, c4]; done) | (simp [zl_may, zb, nI_0, zn_1, zn_3, ← zn_3, ← zn_8, c1, c2, c3, c4]; done)
      · skip
        refine ze_iconst (v := nI 0) cd_L_mayHang_34 (by decide) ?_
        refine ze_zret cd_L_mayHang_35 rfl (by decide) (by decide) (by decide) (zPp_mk ?_)
        first | (simp [zl_may, zb, nI_0, zn_1, c1, c2, c3]; done) | (simp [zl_may, zb, nI_0, zn_1, zn_3, ← zn_3, ← zn_8, c1, c2, c3]; done)
end
section
def zall (p : Nat → Bool) : Nat → Nat → Bool
  | _, 0 => true
  | lo, k + 1 => if p lo then zall p (lo + 1) k else false
def zfind (p : Nat → Bool) : Nat → Nat → Int32
  | _, 0 => -1
  | lo, k + 1 => if p lo then nI lo else zfind p (lo + 1) k
def zl_path (n : Nat) (R : Nat → Nat → Int32) (m : Nat) (Q : Nat → Nat → Int32) : Nat → Int32 → Int32 → Bool
  | 0, x, y => (zi n x).isNone && (zi m y).isNone
  | k + 1, x, y => match zi n x, zi m y with
    | some p, some q => if R 1 p = Q 1 q then zl_path n R m Q k (R 2 p) (Q 2 q) else false
    | none, none => true
    | _, _ => false
def zl_fst (n : Nat) (R : Nat → Nat → Int32) (m : Nat) (Q : Nat → Nat → Int32) (j : Int32) : Int32 := zfind (fun x => zl_path n R m Q 9 (nI x) j) 0 n
def zl_tit (R : Nat → Nat → Int32) (i : Nat) (Q : Nat → Nat → Int32) (j t : Nat) : Bool := if R 9 i = Q 9 j then zall (fun k => decide (R 10 (i * 16 + k) = Q 10 (j * 16 + k))) 0 t else false
def zl_dif (R : Nat → Nat → Int32) (i : Nat) (Q : Nat → Nat → Int32) (j t : Nat) : Nat := (if zl_tit R i Q j t then 0 else 1) + (if R 4 i = Q 4 j ∧ R 5 i = Q 5 j ∧ R 6 i = Q 6 j then 0 else 2) + (if R 7 i = Q 7 j ∧ R 8 i = Q 8 j then 0 else 4)
def zl_ats (R : Nat → Nat → Int32) (j t : Nat) (c : Int32) : Nat → Nat → Int32 := if t < 16 then va_up (va_up R 10 (upd (R 10) (j * 16 + t) c)) 9 (upd (R 9) j (nI t + nI 1)) else R
def zl_bare (R : Nat → Nat → Int32) (i : Nat) (d : Int32) : Nat → Nat → Int32 := va_up (va_up (va_up (va_up (va_up (va_up (va_up (va_up R 3 (upd (R 3) i d)) 2 (upd (R 2) i (zl_lod (upd (R 3) i d) (d - nI 1) i))) 9 (upd (R 9) i (nI 0))) 4 (upd (R 4) i (-1))) 5 (upd (R 5) i (-1))) 6 (upd (R 6) i (nI 0))) 7 (upd (R 7) i (-1))) 8 (upd (R 8) i (-1))
def zl_hangD (n : Nat) (R : Nat → Nat → Int32) (i u : Nat) : Nat → Int32 := zfold (fun D x => if zl_wi n (R 2) (nI i) 9 (nI x) then upd D x (D x + (R 3 u + 1 - R 3 i)) else D) (R 3) 0 n
def zl_hang (n : Nat) (R : Nat → Nat → Int32) (i u : Nat) : Nat → Nat → Int32 := va_up (va_up R 3 (zl_hangD n R i u)) 2 (upd (R 2) i (nI u))
theorem va_up_id {α : Type} (f : Nat → α) (k : Nat) : va_up f k (f k) = f := by
  funext j
  by_cases h : j = k
  · subst h; rw [va_up_self]
  · rw [va_up_ne _ _ h]
abbrev zr_L_hasPathOf : Room := { frames := 1, cells := 0, slots := 0, locals := 21 }
set_option maxRecDepth 100000 in
set_option maxHeartbeats 4000000 in
theorem kc_L_hasPathOf {g : zx_G} {σ : zx_M} {sz : Nat} {a n : Nat} {R : Nat → Nat → Int32} {b m : Nat} {Q : Nat → Nat → Int32} {i j : Int32} (h : zl g σ a n R) (h2 : zl g σ b m Q) (hn : n ≤ 100) (hm : m ≤ 100) : zM g cy_L_hasPathOf cb_L_hasPathOf 7 (Option.some Jvm.ClassFile.FieldType.boolean) zr_L_hasPathOf 0 0 [.ref a, .int i, .ref b, .int j] σ sz (zPp (zb (zl_path n R m Q 9 i j)) σ sz) := by
  generalize hX0 : zl_path n R m Q 9 i j = X0
  have loop : ∀ (kk : Nat) (sp : Nat) (x y : Int32), sp + kk = 9 → zl_path n R m Q kk x y = X0 → zE g "FindingAid$Levels" cb_L_hasPathOf 7 (Option.some Jvm.ClassFile.FieldType.boolean) false zr_L_hasPathOf 0 0 (zPp (zb (X0)) σ sz) 9 [(6, .int (nI sp)), (5, .int y), (4, .int x), (0, .ref a), (1, .int i), (2, .ref b), (3, .int j)] [] σ sz 0 0 := by
    intro kk
    induction kk with
    | zero =>
      intro sp x y hk hE
      refine ze_iload 0 cd_L_hasPathOf_9 rfl ?_
      refine ze_bipush (v := nI 8) cd_L_hasPathOf_11 (by decide) ?_
      refine ze_icmp_gt (tgt := 77) cd_L_hasPathOf_13 (by decide) (fun c2 => ?_) (fun c2 => ?_)
      · skip
        have c2 : 8 < sp := (nI_ltI (by omega) (by omega)).mp c2
        refine ze_aload_n 3 cd_L_hasPathOf_77 rfl rfl ?_
        refine ze_iload 2 cd_L_hasPathOf_78 rfl ?_
        refine ze_callVp (rm' := zr_L_has) (b := a) (As := [.int x]) (rest := []) (kc_L_has h) ⟨rfl, rfl⟩ zy_L_has_ok zm_416 zm_311 zm_312 (ci := 1) rfl rfl (by decide) (by decide) cd_L_hasPathOf_80 h.1 rfl rfl (Nat.le_of_ble_eq_true rfl) ?_
        refine ze_if_ne (tgt := 99) cd_L_hasPathOf_83 (by decide) (fun c3 => ?_) (fun c3 => ?_)
        · skip
          have c3 : ((zi n x).isSome) = true := zb_t c3
          obtain ⟨q4, hq4⟩ := Option.isSome_iff_exists.mp c3
          refine ze_iconst (v := nI 0) cd_L_hasPathOf_99 (by decide) ?_
          refine ze_zret cd_L_hasPathOf_100 rfl (by decide) (by decide) (by decide) (zPp_mk ?_)
          rw [← hE]; first | (simp [zl_path, zb, nI_0, zn_1, c2, hq4]; done) | (simp only [zl_path, hq4]; simp_all [zb, nI_0, zn_1]; done)
        · skip
          have c3 : ((zi n x).isSome) = false := zb_f c3
          have c3 : zi n x = none := by simpa using c3
          refine ze_aload_n 5 cd_L_hasPathOf_86 rfl rfl ?_
          refine ze_iload 1 cd_L_hasPathOf_87 rfl ?_
          refine ze_callVp (rm' := zr_L_has) (b := b) (As := [.int y]) (rest := []) (kc_L_has h2) ⟨rfl, rfl⟩ zy_L_has_ok zm_416 zm_311 zm_312 (ci := 1) rfl rfl (by decide) (by decide) cd_L_hasPathOf_89 h2.1 rfl rfl (Nat.le_of_ble_eq_true rfl) ?_
          refine ze_if_ne (tgt := 99) cd_L_hasPathOf_92 (by decide) (fun c5 => ?_) (fun c5 => ?_)
          · skip
            have c5 : ((zi m y).isSome) = true := zb_t c5
            obtain ⟨q6, hq6⟩ := Option.isSome_iff_exists.mp c5
            refine ze_iconst (v := nI 0) cd_L_hasPathOf_99 (by decide) ?_
            refine ze_zret cd_L_hasPathOf_100 rfl (by decide) (by decide) (by decide) (zPp_mk ?_)
            rw [← hE]; first | (simp [zl_path, zb, nI_0, zn_1, c2, c3, hq6]; done) | (simp only [zl_path, hq6]; simp_all [zb, nI_0, zn_1]; done)
          · skip
            have c5 : ((zi m y).isSome) = false := zb_f c5
            have c5 : zi m y = none := by simpa using c5
            refine ze_iconst (v := nI 1) cd_L_hasPathOf_95 (by decide) ?_
            refine ze_goto (tgt := 100) cd_L_hasPathOf_96 (by decide) ?_
            refine ze_zret cd_L_hasPathOf_100 rfl (by decide) (by decide) (by decide) (zPp_mk ?_)
            rw [← hE]; first | (simp [zl_path, zb, nI_0, zn_1, c2, c3, c5]; done) | (simp only [zl_path]; simp_all [zb, nI_0, zn_1]; done)
      · skip
        have c2 : ¬ 8 < sp := fun h9 => c2 ((nI_ltI (by omega) (by omega)).mpr h9)
        exfalso; omega
    | succ kk ih =>
      intro sp x y hk hE
      refine ze_iload 0 cd_L_hasPathOf_9 rfl ?_
      refine ze_bipush (v := nI 8) cd_L_hasPathOf_11 (by decide) ?_
      refine ze_icmp_gt (tgt := 77) cd_L_hasPathOf_13 (by decide) (fun c8 => ?_) (fun c8 => ?_)
      · skip
        have c8 : 8 < sp := (nI_ltI (by omega) (by omega)).mp c8
        exfalso; omega
      · skip
        have c8 : ¬ 8 < sp := fun h9 => c8 ((nI_ltI (by omega) (by omega)).mpr h9)
        refine ze_aload_n 3 cd_L_hasPathOf_16 rfl rfl ?_
        refine ze_iload 2 cd_L_hasPathOf_17 rfl ?_
        refine ze_callVp (rm' := zr_L_has) (b := a) (As := [.int x]) (rest := []) (kc_L_has h) ⟨rfl, rfl⟩ zy_L_has_ok zm_416 zm_311 zm_312 (ci := 1) rfl rfl (by decide) (by decide) cd_L_hasPathOf_19 h.1 rfl rfl (Nat.le_of_ble_eq_true rfl) ?_
        refine ze_if_eq (tgt := 77) cd_L_hasPathOf_22 (by decide) (fun c9 => ?_) (fun c9 => ?_)
        · skip
          have c9 : ((zi n x).isSome) = false := zb_f c9
          have c9 : zi n x = none := by simpa using c9
          refine ze_aload_n 3 cd_L_hasPathOf_77 rfl rfl ?_
          refine ze_iload 2 cd_L_hasPathOf_78 rfl ?_
          refine ze_callVp (rm' := zr_L_has) (b := a) (As := [.int x]) (rest := []) (kc_L_has h) ⟨rfl, rfl⟩ zy_L_has_ok zm_416 zm_311 zm_312 (ci := 1) rfl rfl (by decide) (by decide) cd_L_hasPathOf_80 h.1 rfl rfl (Nat.le_of_ble_eq_true rfl) ?_
          refine ze_if_ne (tgt := 99) cd_L_hasPathOf_83 (by decide) (fun c10 => ?_) (fun c10 => ?_)
          · skip
            have c10 : ((zi n x).isSome) = true := zb_t c10
            obtain ⟨q11, hq11⟩ := Option.isSome_iff_exists.mp c10
            refine ze_iconst (v := nI 0) cd_L_hasPathOf_99 (by decide) ?_
            refine ze_zret cd_L_hasPathOf_100 rfl (by decide) (by decide) (by decide) (zPp_mk ?_)
            rw [← hE]; first | (simp [zl_path, zb, nI_0, zn_1, c8, c9, hq11]; done) | (simp only [zl_path, hq11]; simp_all [zb, nI_0, zn_1]; done)
          · skip
            have c10 : ((zi n x).isSome) = false := zb_f c10
            have c10 : zi n x = none := by simpa using c10
            refine ze_aload_n 5 cd_L_hasPathOf_86 rfl rfl ?_
            refine ze_iload 1 cd_L_hasPathOf_87 rfl ?_
            refine ze_callVp (rm' := zr_L_has) (b := b) (As := [.int y]) (rest := []) (kc_L_has h2) ⟨rfl, rfl⟩ zy_L_has_ok zm_416 zm_311 zm_312 (ci := 1) rfl rfl (by decide) (by decide) cd_L_hasPathOf_89 h2.1 rfl rfl (Nat.le_of_ble_eq_true rfl) ?_
            refine ze_if_ne (tgt := 99) cd_L_hasPathOf_92 (by decide) (fun c12 => ?_) (fun c12 => ?_)
            · skip
              have c12 : ((zi m y).isSome) = true := zb_t c12
              obtain ⟨q13, hq13⟩ := Option.isSome_iff_exists.mp c12
              refine ze_iconst (v := nI 0) cd_L_hasPathOf_99 (by decide) ?_
              refine ze_zret cd_L_hasPathOf_100 rfl (by decide) (by decide) (by decide) (zPp_mk ?_)
              rw [← hE]; first | (simp [zl_path, zb, nI_0, zn_1, c8, c9, c10, hq13]; done) | (simp only [zl_path, hq13]; simp_all [zb, nI_0, zn_1]; done)
            · skip
              have c12 : ((zi m y).isSome) = false := zb_f c12
              have c12 : zi m y = none := by simpa using c12
              refine ze_iconst (v := nI 1) cd_L_hasPathOf_95 (by decide) ?_
              refine ze_goto (tgt := 100) cd_L_hasPathOf_96 (by decide) ?_
              refine ze_zret cd_L_hasPathOf_100 rfl (by decide) (by decide) (by decide) (zPp_mk ?_)
              rw [← hE]; first | (simp [zl_path, zb, nI_0, zn_1, c8, c9, c10, c12]; done) | (simp only [zl_path]; simp_all [zb, nI_0, zn_1]; done)
        · skip
          have c9 : ((zi n x).isSome) = true := zb_t c9
          obtain ⟨p, hp⟩ := Option.isSome_iff_exists.mp c9
          obtain ⟨hpn, rfl⟩ := zi_some (by omega) hp
          refine ze_aload_n 5 cd_L_hasPathOf_25 rfl rfl ?_
          refine ze_iload 1 cd_L_hasPathOf_26 rfl ?_
          refine ze_callVp (rm' := zr_L_has) (b := b) (As := [.int y]) (rest := []) (kc_L_has h2) ⟨rfl, rfl⟩ zy_L_has_ok zm_416 zm_311 zm_312 (ci := 1) rfl rfl (by decide) (by decide) cd_L_hasPathOf_28 h2.1 rfl rfl (Nat.le_of_ble_eq_true rfl) ?_
          refine ze_if_eq (tgt := 77) cd_L_hasPathOf_31 (by decide) (fun c14 => ?_) (fun c14 => ?_)
          · skip
            have c14 : ((zi m y).isSome) = false := zb_f c14
            have c14 : zi m y = none := by simpa using c14
            refine ze_aload_n 3 cd_L_hasPathOf_77 rfl rfl ?_
            refine ze_iload 2 cd_L_hasPathOf_78 rfl ?_
            refine ze_callVp (rm' := zr_L_has) (b := a) (As := [.int (nI p)]) (rest := []) (kc_L_has h) ⟨rfl, rfl⟩ zy_L_has_ok zm_416 zm_311 zm_312 (ci := 1) rfl rfl (by decide) (by decide) cd_L_hasPathOf_80 h.1 rfl rfl (Nat.le_of_ble_eq_true rfl) ?_
            refine ze_if_ne (tgt := 99) cd_L_hasPathOf_83 (by decide) (fun c15 => ?_) (fun c15 => ?_)
            · skip
              have c15 : ((zi n (nI p)).isSome) = true := zb_t c15
              obtain ⟨q16, hq16⟩ := Option.isSome_iff_exists.mp c15
              refine ze_iconst (v := nI 0) cd_L_hasPathOf_99 (by decide) ?_
              refine ze_zret cd_L_hasPathOf_100 rfl (by decide) (by decide) (by decide) (zPp_mk ?_)
              rw [← hE]; first | (simp [zl_path, zb, nI_0, zn_1, c8, hp, c14, hq16]; done) | (simp only [zl_path, hp, hq16]; simp_all [zb, nI_0, zn_1]; done)
            · skip
              have c15 : ((zi n (nI p)).isSome) = false := zb_f c15
              have c15 : zi n (nI p) = none := by simpa using c15
              refine ze_aload_n 5 cd_L_hasPathOf_86 rfl rfl ?_
              refine ze_iload 1 cd_L_hasPathOf_87 rfl ?_
              refine ze_callVp (rm' := zr_L_has) (b := b) (As := [.int y]) (rest := []) (kc_L_has h2) ⟨rfl, rfl⟩ zy_L_has_ok zm_416 zm_311 zm_312 (ci := 1) rfl rfl (by decide) (by decide) cd_L_hasPathOf_89 h2.1 rfl rfl (Nat.le_of_ble_eq_true rfl) ?_
              refine ze_if_ne (tgt := 99) cd_L_hasPathOf_92 (by decide) (fun c17 => ?_) (fun c17 => ?_)
              · skip
                have c17 : ((zi m y).isSome) = true := zb_t c17
                obtain ⟨q18, hq18⟩ := Option.isSome_iff_exists.mp c17
                refine ze_iconst (v := nI 0) cd_L_hasPathOf_99 (by decide) ?_
                refine ze_zret cd_L_hasPathOf_100 rfl (by decide) (by decide) (by decide) (zPp_mk ?_)
                rw [← hE]; first | (simp [zl_path, zb, nI_0, zn_1, c8, hp, c14, c15, hq18]; done) | (simp only [zl_path, hp, hq18]; simp_all [zb, nI_0, zn_1]; done)
              · skip
                have c17 : ((zi m y).isSome) = false := zb_f c17
                have c17 : zi m y = none := by simpa using c17
                refine ze_iconst (v := nI 1) cd_L_hasPathOf_95 (by decide) ?_
                refine ze_goto (tgt := 100) cd_L_hasPathOf_96 (by decide) ?_
                refine ze_zret cd_L_hasPathOf_100 rfl (by decide) (by decide) (by decide) (zPp_mk ?_)
                rw [← hE]; first | (simp [zl_path, zb, nI_0, zn_1, c8, hp, c14, c15, c17]; done) | (simp only [zl_path, hp]; simp_all [zb, nI_0, zn_1]; done)
          · skip
            have c14 : ((zi m y).isSome) = true := zb_t c14
            obtain ⟨q, hq⟩ := Option.isSome_iff_exists.mp c14
            obtain ⟨hqn, rfl⟩ := zi_some (by omega) hq
            refine ze_aload_n 3 cd_L_hasPathOf_34 rfl rfl ?_
            refine ze_get zin_L (v := .ref (a + 2)) (ci := 1) rfl 2 (by decide) zm_98 rfl cd_L_hasPathOf_35 h.1 rfl ?_
            refine ze_iload 2 cd_L_hasPathOf_38 rfl ?_
            refine ze_iald (j := p) cd_L_hasPathOf_40 (h.2 1 _ rfl) rfl (by omega) (by decide) ?_
            refine ze_aload_n 5 cd_L_hasPathOf_41 rfl rfl ?_
            refine ze_get zin_L (v := .ref (b + 2)) (ci := 1) rfl 2 (by decide) zm_98 rfl cd_L_hasPathOf_42 h2.1 rfl ?_
            refine ze_iload 1 cd_L_hasPathOf_45 rfl ?_
            refine ze_iald (j := q) cd_L_hasPathOf_47 (h2.2 1 _ rfl) rfl (by omega) (by decide) ?_
            refine ze_icmp_eq (tgt := 53) cd_L_hasPathOf_48 (by decide) (fun c19 => ?_) (fun c19 => ?_)
            · skip
              refine ze_aload_n 3 cd_L_hasPathOf_53 rfl rfl ?_
              refine ze_get zin_L (v := .ref (a + 3)) (ci := 1) rfl 3 (by decide) zm_102 rfl cd_L_hasPathOf_54 h.1 rfl ?_
              refine ze_iload 2 cd_L_hasPathOf_57 rfl ?_
              refine ze_iald (j := p) cd_L_hasPathOf_59 (h.2 2 _ rfl) rfl (by omega) (by decide) ?_
              refine ze_istore (lv' := [(4, .int (R 2 p)), (6, .int (nI sp)), (5, .int (nI q)), (0, .ref a), (1, .int i), (2, .ref b), (3, .int j)]) cd_L_hasPathOf_60 (by decide) rfl ?_
              refine ze_aload_n 5 cd_L_hasPathOf_62 rfl rfl ?_
              refine ze_get zin_L (v := .ref (b + 3)) (ci := 1) rfl 3 (by decide) zm_102 rfl cd_L_hasPathOf_63 h2.1 rfl ?_
              refine ze_iload 2 cd_L_hasPathOf_66 rfl ?_
              refine ze_iald (j := q) cd_L_hasPathOf_68 (h2.2 2 _ rfl) rfl (by omega) (by decide) ?_
              refine ze_istore (lv' := [(5, .int (Q 2 q)), (4, .int (R 2 p)), (6, .int (nI sp)), (0, .ref a), (1, .int i), (2, .ref b), (3, .int j)]) cd_L_hasPathOf_69 (by decide) rfl ?_
              refine ze_iinc (v := nI (sp + 1)) (lv' := [(6, .int (nI (sp + 1))), (5, .int (Q 2 q)), (4, .int (R 2 p)), (0, .ref a), (1, .int i), (2, .ref b), (3, .int j)]) 2 cd_L_hasPathOf_71 rfl (nI_add _ 1) (by decide) rfl ?_
              refine ze_goto (tgt := 9) cd_L_hasPathOf_74 (by decide) ?_
              exact ih (sp + 1) _ _ (by omega) (by rw [← hE]; simp only [zl_path, hp, hq]; simp [c8, hp, hq, c19])
            · skip
              refine ze_iconst (v := nI 0) cd_L_hasPathOf_51 (by decide) ?_
              refine ze_zret cd_L_hasPathOf_52 rfl (by decide) (by decide) (by decide) (zPp_mk ?_)
              rw [← hE]; first | (simp [zl_path, zb, nI_0, zn_1, c8, hp, hq, c19]; done) | (simp only [zl_path, hp, hq]; simp_all [zb, nI_0, zn_1]; done)
  refine zM_of (lv := [(0, .ref a), (1, .int i), (2, .ref b), (3, .int j)]) (ini := false) (by decide) rfl (by decide) (Nat.le_of_ble_eq_true rfl) rfl ?_
  refine ze_iload_n 1 cd_L_hasPathOf_0 rfl rfl ?_
  refine ze_istore (lv' := [(4, .int i), (0, .ref a), (1, .int i), (2, .ref b), (3, .int j)]) cd_L_hasPathOf_1 (by decide) rfl ?_
  refine ze_iload_n 4 cd_L_hasPathOf_3 rfl rfl ?_
  refine ze_istore (lv' := [(5, .int j), (4, .int i), (0, .ref a), (1, .int i), (2, .ref b), (3, .int j)]) cd_L_hasPathOf_4 (by decide) rfl ?_
  refine ze_iconst (v := nI 0) cd_L_hasPathOf_6 (by decide) ?_
  refine ze_istore (lv' := [(6, .int (nI 0)), (5, .int j), (4, .int i), (0, .ref a), (1, .int i), (2, .ref b), (3, .int j)]) cd_L_hasPathOf_7 (by decide) rfl ?_
  exact loop 9 0 i j (by omega) hX0
abbrev zr_L_firstWithPathOf : Room := { frames := 2, cells := 0, slots := 0, locals := 47 }
set_option maxRecDepth 100000 in
set_option maxHeartbeats 4000000 in
theorem kc_L_firstWithPathOf {g : zx_G} {σ : zx_M} {sz : Nat} {a n : Nat} {R : Nat → Nat → Int32} {b m : Nat} {Q : Nat → Nat → Int32} {j : Int32} (h : zl g σ a n R) (h2 : zl g σ b m Q) (hn : n ≤ 100) (hm : m ≤ 100) : zM g cy_L_firstWithPathOf cb_L_firstWithPathOf 4 (Option.some Jvm.ClassFile.FieldType.int) zr_L_firstWithPathOf 0 0 [.ref a, .ref b, .int j] σ sz (zPp (zl_fst n R m Q j) σ sz) := by
  generalize hX0 : zl_fst n R m Q j = X0
  have loop : ∀ (kk : Nat) (lo : Nat), lo + kk = n → zfind (fun x => zl_path n R m Q 9 (nI x) j) lo kk = X0 → zE g "FindingAid$Levels" cb_L_firstWithPathOf 4 (Option.some Jvm.ClassFile.FieldType.int) false zr_L_firstWithPathOf 0 0 (zPp X0 σ sz) 2 [(3, .int (nI lo)), (0, .ref a), (1, .ref b), (2, .int j)] [] σ sz 0 0 := by
    intro kk
    induction kk with
    | zero =>
      intro lo hk hE
      refine ze_iload_n 0 cd_L_firstWithPathOf_2 rfl rfl ?_
      refine ze_aload_n 1 cd_L_firstWithPathOf_3 rfl rfl ?_
      refine ze_get zin_L (v := .int (nI n)) (ci := 1) rfl 0 (by decide) zm_88 rfl cd_L_firstWithPathOf_4 h.1 rfl ?_
      refine ze_icmp_ge (tgt := 28) cd_L_firstWithPathOf_7 (by decide) (fun c2 => ?_) (fun c2 => ?_)
      · skip
        have c2 : n ≤ lo := (nI_leI (by omega) (by omega)).mp c2
        refine ze_iconst (v := (-1 : Int32)) cd_L_firstWithPathOf_28 (by decide) ?_
        refine ze_iret cd_L_firstWithPathOf_29 rfl (by decide) (by decide) (zPp_mk ?_)
        rw [← hE]; first | rfl | (simp only [zfind, c2]; simp)
      · skip
        have c2 : ¬ n ≤ lo := fun h9 => c2 ((nI_leI (by omega) (by omega)).mpr h9)
        exfalso; omega
    | succ kk ih =>
      intro lo hk hE
      refine ze_iload_n 0 cd_L_firstWithPathOf_2 rfl rfl ?_
      refine ze_aload_n 1 cd_L_firstWithPathOf_3 rfl rfl ?_
      refine ze_get zin_L (v := .int (nI n)) (ci := 1) rfl 0 (by decide) zm_88 rfl cd_L_firstWithPathOf_4 h.1 rfl ?_
      refine ze_icmp_ge (tgt := 28) cd_L_firstWithPathOf_7 (by decide) (fun c4 => ?_) (fun c4 => ?_)
      · skip
        have c4 : n ≤ lo := (nI_leI (by omega) (by omega)).mp c4
        exfalso; omega
      · skip
        have c4 : ¬ n ≤ lo := fun h9 => c4 ((nI_leI (by omega) (by omega)).mpr h9)
        refine ze_aload_n 1 cd_L_firstWithPathOf_10 rfl rfl ?_
        refine ze_iload_n 0 cd_L_firstWithPathOf_11 rfl rfl ?_
        refine ze_aload_n 2 cd_L_firstWithPathOf_12 rfl rfl ?_
        refine ze_iload_n 3 cd_L_firstWithPathOf_13 rfl rfl ?_
        refine ze_callVp (rm' := zr_L_hasPathOf) (b := a) (As := [.int (nI lo), .ref b, .int j]) (rest := []) (kc_L_hasPathOf h h2 (by omega) (by omega)) ⟨rfl, rfl⟩ zy_L_hasPathOf_ok zm_700 zm_702 zm_25 (ci := 1) rfl rfl (by decide) (by decide) cd_L_firstWithPathOf_14 h.1 rfl rfl (Nat.le_of_ble_eq_true rfl) ?_
        refine ze_if_eq (tgt := 22) cd_L_firstWithPathOf_17 (by decide) (fun c5 => ?_) (fun c5 => ?_)
        · skip
          have c5 : (zl_path n R m Q 9 (nI lo) j) = false := zb_f c5
          refine ze_iinc (v := nI (lo + 1)) (lv' := [(3, .int (nI (lo + 1))), (0, .ref a), (1, .ref b), (2, .int j)]) 0 cd_L_firstWithPathOf_22 rfl (nI_add _ 1) (by decide) rfl ?_
          refine ze_goto (tgt := 2) cd_L_firstWithPathOf_25 (by decide) ?_
          exact ih (lo + 1) (by omega) (by rw [← hE]; simp only [zfind, c4, c5]; simp)
        · skip
          have c5 : (zl_path n R m Q 9 (nI lo) j) = true := zb_t c5
          refine ze_iload_n 0 cd_L_firstWithPathOf_20 rfl rfl ?_
          refine ze_iret cd_L_firstWithPathOf_21 rfl (by decide) (by decide) (zPp_mk ?_)
          rw [← hE]; first | rfl | (simp only [zfind, c4, c5]; simp)
  refine zM_of (lv := [(0, .ref a), (1, .ref b), (2, .int j)]) (ini := false) (by decide) rfl (by decide) (Nat.le_of_ble_eq_true rfl) rfl ?_
  refine ze_iconst (v := nI 0) cd_L_firstWithPathOf_0 (by decide) ?_
  refine ze_istore_n (lv' := [(3, .int (nI 0)), (0, .ref a), (1, .ref b), (2, .int j)]) cd_L_firstWithPathOf_1 rfl (by decide) rfl ?_
  exact loop n 0 (by omega) hX0
abbrev zr_L_hasTitleOf : Room := { frames := 1, cells := 0, slots := 0, locals := 22 }
set_option maxRecDepth 100000 in
set_option maxHeartbeats 4000000 in
theorem kc_L_hasTitleOf {g : zx_G} {σ : zx_M} {sz : Nat} {a n : Nat} {R : Nat → Nat → Int32} {b m : Nat} {Q : Nat → Nat → Int32} {i j t : Nat} (h : zl g σ a n R) (h2 : zl g σ b m Q) (hi : i < 100) (hj : j < 100) (ht : R 9 i = nI t) (ht2 : t ≤ 16) : zM g cy_L_hasTitleOf cb_L_hasTitleOf 5 (Option.some Jvm.ClassFile.FieldType.boolean) zr_L_hasTitleOf 0 0 [.ref a, .int (nI i), .ref b, .int (nI j)] σ sz (zPp (zb (zl_tit R i Q j t)) σ sz) := by
  generalize hX0 : zl_tit R i Q j t = X0
  have loop : ∀ (kk : Nat) (lo : Nat), lo + kk = t → R 9 i = Q 9 j → zall (fun k => decide (R 10 (i * 16 + k) = Q 10 (j * 16 + k))) lo kk = X0 → zE g "FindingAid$Levels" cb_L_hasTitleOf 5 (Option.some Jvm.ClassFile.FieldType.boolean) false zr_L_hasTitleOf 0 0 (zPp (zb (X0)) σ sz) 20 [(4, .int (nI lo)), (0, .ref a), (1, .int (nI i)), (2, .ref b), (3, .int (nI j))] [] σ sz 0 0 := by
    intro kk
    induction kk with
    | zero =>
      intro lo hk c0 hE
      refine ze_iload 0 cd_L_hasTitleOf_20 rfl ?_
      refine ze_aload_n 1 cd_L_hasTitleOf_22 rfl rfl ?_
      refine ze_get zin_L (v := .ref (a + 10)) (ci := 1) rfl 10 (by decide) zm_133 rfl cd_L_hasTitleOf_23 h.1 rfl ?_
      refine ze_iload_n 2 cd_L_hasTitleOf_26 rfl rfl ?_
      refine ze_iald (j := i) cd_L_hasTitleOf_27 (h.2 9 _ rfl) rfl (by omega) (by decide) ?_
      refine ze_top ht ?_
      refine ze_icmp_ge (tgt := 56) cd_L_hasTitleOf_28 (by decide) (fun c2 => ?_) (fun c2 => ?_)
      · skip
        have c2 : t ≤ lo := (nI_leI (by omega) (by omega)).mp c2
        refine ze_iconst (v := nI 1) cd_L_hasTitleOf_56 (by decide) ?_
        refine ze_zret cd_L_hasTitleOf_57 rfl (by decide) (by decide) (by decide) (zPp_mk ?_)
        first | (rw [← hE]; simp [zall, zb, nI_0, zn_1, c2]; done) | (rw [← hX0, zl_tit, if_neg (by rw [ht]; exact c1)]; rfl)
      · skip
        have c2 : ¬ t ≤ lo := fun h9 => c2 ((nI_leI (by omega) (by omega)).mpr h9)
        exfalso; omega
    | succ kk ih =>
      intro lo hk c0 hE
      refine ze_iload 0 cd_L_hasTitleOf_20 rfl ?_
      refine ze_aload_n 1 cd_L_hasTitleOf_22 rfl rfl ?_
      refine ze_get zin_L (v := .ref (a + 10)) (ci := 1) rfl 10 (by decide) zm_133 rfl cd_L_hasTitleOf_23 h.1 rfl ?_
      refine ze_iload_n 2 cd_L_hasTitleOf_26 rfl rfl ?_
      refine ze_iald (j := i) cd_L_hasTitleOf_27 (h.2 9 _ rfl) rfl (by omega) (by decide) ?_
      refine ze_top ht ?_
      refine ze_icmp_ge (tgt := 56) cd_L_hasTitleOf_28 (by decide) (fun c4 => ?_) (fun c4 => ?_)
      · skip
        have c4 : t ≤ lo := (nI_leI (by omega) (by omega)).mp c4
        exfalso; omega
      · skip
        have c4 : ¬ t ≤ lo := fun h9 => c4 ((nI_leI (by omega) (by omega)).mpr h9)
        refine ze_aload_n 1 cd_L_hasTitleOf_31 rfl rfl ?_
        refine ze_iload_n 2 cd_L_hasTitleOf_32 rfl rfl ?_
        refine ze_iload 0 cd_L_hasTitleOf_33 rfl ?_
        refine ze_callVp (rm' := zr_L_titleSign) (b := a) (As := [.int (nI i), .int (nI lo)]) (rest := []) (kc_L_titleSign h (by omega) (by omega)) ⟨rfl, rfl⟩ zy_L_titleSign_ok zm_468 zm_319 zm_320 (ci := 1) rfl rfl (by decide) (by decide) cd_L_hasTitleOf_35 h.1 rfl rfl (Nat.le_of_ble_eq_true rfl) ?_
        refine ze_aload_n 3 cd_L_hasTitleOf_38 rfl rfl ?_
        refine ze_iload_n 4 cd_L_hasTitleOf_39 rfl rfl ?_
        refine ze_iload 0 cd_L_hasTitleOf_40 rfl ?_
        refine ze_callVp (rm' := zr_L_titleSign) (b := b) (As := [.int (nI j), .int (nI lo)]) (rest := [.int (R 10 (i * 16 + lo))]) (kc_L_titleSign h2 (by omega) (by omega)) ⟨rfl, rfl⟩ zy_L_titleSign_ok zm_468 zm_319 zm_320 (ci := 1) rfl rfl (by decide) (by decide) cd_L_hasTitleOf_42 h2.1 rfl rfl (Nat.le_of_ble_eq_true rfl) ?_
        refine ze_icmp_eq (tgt := 50) cd_L_hasTitleOf_45 (by decide) (fun c5 => ?_) (fun c5 => ?_)
        · skip
          refine ze_iinc (v := nI (lo + 1)) (lv' := [(4, .int (nI (lo + 1))), (0, .ref a), (1, .int (nI i)), (2, .ref b), (3, .int (nI j))]) 0 cd_L_hasTitleOf_50 rfl (nI_add _ 1) (by decide) rfl ?_
          refine ze_goto (tgt := 20) cd_L_hasTitleOf_53 (by decide) ?_
          exact ih (lo + 1) (by omega) c0 (by rw [← hE]; simp [zall, c4, c5])
        · skip
          refine ze_iconst (v := nI 0) cd_L_hasTitleOf_48 (by decide) ?_
          refine ze_zret cd_L_hasTitleOf_49 rfl (by decide) (by decide) (by decide) (zPp_mk ?_)
          first | (rw [← hE]; simp [zall, zb, nI_0, zn_1, c4, c5]; done) | (rw [← hX0, zl_tit, if_neg (by rw [ht]; exact c1)]; rfl)
  refine zM_of (lv := [(0, .ref a), (1, .int (nI i)), (2, .ref b), (3, .int (nI j))]) (ini := false) (by decide) rfl (by decide) (Nat.le_of_ble_eq_true rfl) rfl ?_
  refine ze_aload_n 0 cd_L_hasTitleOf_0 rfl rfl ?_
  refine ze_get zin_L (v := .ref (a + 10)) (ci := 1) rfl 10 (by decide) zm_133 rfl cd_L_hasTitleOf_1 h.1 rfl ?_
  refine ze_iload_n 1 cd_L_hasTitleOf_4 rfl rfl ?_
  refine ze_iald (j := i) cd_L_hasTitleOf_5 (h.2 9 _ rfl) rfl (by omega) (by decide) ?_
  refine ze_top ht ?_
  refine ze_aload_n 2 cd_L_hasTitleOf_6 rfl rfl ?_
  refine ze_get zin_L (v := .ref (b + 10)) (ci := 1) rfl 10 (by decide) zm_133 rfl cd_L_hasTitleOf_7 h2.1 rfl ?_
  refine ze_iload_n 3 cd_L_hasTitleOf_10 rfl rfl ?_
  refine ze_iald (j := j) cd_L_hasTitleOf_11 (h2.2 9 _ rfl) rfl (by omega) (by decide) ?_
  refine ze_icmp_eq (tgt := 17) cd_L_hasTitleOf_12 (by decide) (fun c1 => ?_) (fun c1 => ?_)
  · skip
    refine ze_iconst (v := nI 0) cd_L_hasTitleOf_17 (by decide) ?_
    refine ze_istore (lv' := [(4, .int (nI 0)), (0, .ref a), (1, .int (nI i)), (2, .ref b), (3, .int (nI j))]) cd_L_hasTitleOf_18 (by decide) rfl ?_
    exact loop t 0 (by omega) (by rw [ht]; exact c1) (by rw [← hX0, zl_tit, if_pos (by rw [ht]; exact c1)])
  · skip
    refine ze_iconst (v := nI 0) cd_L_hasTitleOf_15 (by decide) ?_
    refine ze_zret cd_L_hasTitleOf_16 rfl (by decide) (by decide) (by decide) (zPp_mk ?_)
    first | (rw [← hE]; simp [zall, zb, nI_0, zn_1, c1]; done) | (rw [← hX0, zl_tit, if_neg (by rw [ht]; exact c1)]; rfl)
abbrev zr_L_differenceBits : Room := { frames := 2, cells := 0, slots := 0, locals := 46 }
set_option maxRecDepth 100000 in
set_option maxHeartbeats 4000000 in
theorem kc_L_differenceBits {g : zx_G} {σ : zx_M} {sz : Nat} {a n : Nat} {R : Nat → Nat → Int32} {b m : Nat} {Q : Nat → Nat → Int32} {i j t : Nat} (h : zl g σ a n R) (h2 : zl g σ b m Q) (hi : i < 100) (hj : j < 100) (ht : R 9 i = nI t) (ht2 : t ≤ 16) : zM g cy_L_differenceBits cb_L_differenceBits 5 (Option.some Jvm.ClassFile.FieldType.int) zr_L_differenceBits 0 0 [.ref a, .int (nI i), .ref b, .int (nI j)] σ sz (zPp (nI (zl_dif R i Q j t)) σ sz) := by
  refine zM_of (lv := [(0, .ref a), (1, .int (nI i)), (2, .ref b), (3, .int (nI j))]) (ini := false) (by decide) rfl (by decide) (Nat.le_of_ble_eq_true rfl) rfl ?_
  refine ze_iconst (v := nI 0) cd_L_differenceBits_0 (by decide) ?_
  refine ze_istore (lv' := [(4, .int (nI 0)), (0, .ref a), (1, .int (nI i)), (2, .ref b), (3, .int (nI j))]) cd_L_differenceBits_1 (by decide) rfl ?_
  refine ze_aload_n 1 cd_L_differenceBits_3 rfl rfl ?_
  refine ze_iload_n 2 cd_L_differenceBits_4 rfl rfl ?_
  refine ze_aload_n 3 cd_L_differenceBits_5 rfl rfl ?_
  refine ze_iload_n 4 cd_L_differenceBits_6 rfl rfl ?_
  refine ze_callVp (rm' := zr_L_hasTitleOf) (b := a) (As := [.int (nI i), .ref b, .int (nI j)]) (rest := []) (kc_L_hasTitleOf h h2 (by omega) (by omega) ht ht2) ⟨rfl, rfl⟩ zy_L_hasTitleOf_ok zm_708 zm_710 zm_26 (ci := 1) rfl rfl (by decide) (by decide) cd_L_differenceBits_7 h.1 rfl rfl (Nat.le_of_ble_eq_true rfl) ?_
  refine ze_if_ne (tgt := 19) cd_L_differenceBits_10 (by decide) (fun c1 => ?_) (fun c1 => ?_)
  · skip
    have c1 : (zl_tit R i Q j t) = true := zb_t c1
    refine ze_aload_n 1 cd_L_differenceBits_19 rfl rfl ?_
    refine ze_get zin_L (v := .ref (a + 5)) (ci := 1) rfl 5 (by decide) zm_111 rfl cd_L_differenceBits_20 h.1 rfl ?_
    refine ze_iload_n 2 cd_L_differenceBits_23 rfl rfl ?_
    refine ze_iald (j := i) cd_L_differenceBits_24 (h.2 4 _ rfl) rfl (by omega) (by decide) ?_
    refine ze_aload_n 3 cd_L_differenceBits_25 rfl rfl ?_
    refine ze_get zin_L (v := .ref (b + 5)) (ci := 1) rfl 5 (by decide) zm_111 rfl cd_L_differenceBits_26 h2.1 rfl ?_
    refine ze_iload_n 4 cd_L_differenceBits_29 rfl rfl ?_
    refine ze_iald (j := j) cd_L_differenceBits_30 (h2.2 4 _ rfl) rfl (by omega) (by decide) ?_
    refine ze_icmp_ne (tgt := 64) cd_L_differenceBits_31 (by decide) (fun c2 => ?_) (fun c2 => ?_)
    · skip
      refine ze_iload 0 cd_L_differenceBits_64 rfl ?_
      refine ze_iconst (v := nI 2) cd_L_differenceBits_66 (by decide) ?_
      refine ze_ior cd_L_differenceBits_67 ?_
      refine ze_top (by decide : nI 0 ||| nI 2 = nI 2) ?_
      refine ze_istore (lv' := [(4, .int (nI 2)), (0, .ref a), (1, .int (nI i)), (2, .ref b), (3, .int (nI j))]) cd_L_differenceBits_68 (by decide) rfl ?_
      refine ze_aload_n 1 cd_L_differenceBits_70 rfl rfl ?_
      refine ze_get zin_L (v := .ref (a + 8)) (ci := 1) rfl 8 (by decide) zm_123 rfl cd_L_differenceBits_71 h.1 rfl ?_
      refine ze_iload_n 2 cd_L_differenceBits_74 rfl rfl ?_
      refine ze_iald (j := i) cd_L_differenceBits_75 (h.2 7 _ rfl) rfl (by omega) (by decide) ?_
      refine ze_aload_n 3 cd_L_differenceBits_76 rfl rfl ?_
      refine ze_get zin_L (v := .ref (b + 8)) (ci := 1) rfl 8 (by decide) zm_123 rfl cd_L_differenceBits_77 h2.1 rfl ?_
      refine ze_iload_n 4 cd_L_differenceBits_80 rfl rfl ?_
      refine ze_iald (j := j) cd_L_differenceBits_81 (h2.2 7 _ rfl) rfl (by omega) (by decide) ?_
      refine ze_icmp_ne (tgt := 100) cd_L_differenceBits_82 (by decide) (fun c3 => ?_) (fun c3 => ?_)
      · skip
        refine ze_iload 0 cd_L_differenceBits_100 rfl ?_
        refine ze_iconst (v := nI 4) cd_L_differenceBits_102 (by decide) ?_
        refine ze_ior cd_L_differenceBits_103 ?_
        refine ze_top (by decide : nI 2 ||| nI 4 = nI 6) ?_
        refine ze_istore (lv' := [(4, .int (nI 6)), (0, .ref a), (1, .int (nI i)), (2, .ref b), (3, .int (nI j))]) cd_L_differenceBits_104 (by decide) rfl ?_
        refine ze_iload 0 cd_L_differenceBits_106 rfl ?_
        refine ze_iret cd_L_differenceBits_108 rfl (by decide) (by decide) (zPp_mk ?_)
        simp [zl_dif, c1, c2, c3]
      · skip
        refine ze_aload_n 1 cd_L_differenceBits_85 rfl rfl ?_
        refine ze_get zin_L (v := .ref (a + 9)) (ci := 1) rfl 9 (by decide) zm_128 rfl cd_L_differenceBits_86 h.1 rfl ?_
        refine ze_iload_n 2 cd_L_differenceBits_89 rfl rfl ?_
        refine ze_iald (j := i) cd_L_differenceBits_90 (h.2 8 _ rfl) rfl (by omega) (by decide) ?_
        refine ze_aload_n 3 cd_L_differenceBits_91 rfl rfl ?_
        refine ze_get zin_L (v := .ref (b + 9)) (ci := 1) rfl 9 (by decide) zm_128 rfl cd_L_differenceBits_92 h2.1 rfl ?_
        refine ze_iload_n 4 cd_L_differenceBits_95 rfl rfl ?_
        refine ze_iald (j := j) cd_L_differenceBits_96 (h2.2 8 _ rfl) rfl (by omega) (by decide) ?_
        refine ze_icmp_eq (tgt := 106) cd_L_differenceBits_97 (by decide) (fun c4 => ?_) (fun c4 => ?_)
        · skip
          refine ze_iload 0 cd_L_differenceBits_106 rfl ?_
          refine ze_iret cd_L_differenceBits_108 rfl (by decide) (by decide) (zPp_mk ?_)
          simp [zl_dif, c1, c2, c3, c4]
        · skip
          refine ze_iload 0 cd_L_differenceBits_100 rfl ?_
          refine ze_iconst (v := nI 4) cd_L_differenceBits_102 (by decide) ?_
          refine ze_ior cd_L_differenceBits_103 ?_
          refine ze_top (by decide : nI 2 ||| nI 4 = nI 6) ?_
          refine ze_istore (lv' := [(4, .int (nI 6)), (0, .ref a), (1, .int (nI i)), (2, .ref b), (3, .int (nI j))]) cd_L_differenceBits_104 (by decide) rfl ?_
          refine ze_iload 0 cd_L_differenceBits_106 rfl ?_
          refine ze_iret cd_L_differenceBits_108 rfl (by decide) (by decide) (zPp_mk ?_)
          simp [zl_dif, c1, c2, c3, c4]
    · skip
      refine ze_aload_n 1 cd_L_differenceBits_34 rfl rfl ?_
      refine ze_get zin_L (v := .ref (a + 6)) (ci := 1) rfl 6 (by decide) zm_115 rfl cd_L_differenceBits_35 h.1 rfl ?_
      refine ze_iload_n 2 cd_L_differenceBits_38 rfl rfl ?_
      refine ze_iald (j := i) cd_L_differenceBits_39 (h.2 5 _ rfl) rfl (by omega) (by decide) ?_
      refine ze_aload_n 3 cd_L_differenceBits_40 rfl rfl ?_
      refine ze_get zin_L (v := .ref (b + 6)) (ci := 1) rfl 6 (by decide) zm_115 rfl cd_L_differenceBits_41 h2.1 rfl ?_
      refine ze_iload_n 4 cd_L_differenceBits_44 rfl rfl ?_
      refine ze_iald (j := j) cd_L_differenceBits_45 (h2.2 5 _ rfl) rfl (by omega) (by decide) ?_
      refine ze_icmp_ne (tgt := 64) cd_L_differenceBits_46 (by decide) (fun c5 => ?_) (fun c5 => ?_)
      · skip
        refine ze_iload 0 cd_L_differenceBits_64 rfl ?_
        refine ze_iconst (v := nI 2) cd_L_differenceBits_66 (by decide) ?_
        refine ze_ior cd_L_differenceBits_67 ?_
        refine ze_top (by decide : nI 0 ||| nI 2 = nI 2) ?_
        refine ze_istore (lv' := [(4, .int (nI 2)), (0, .ref a), (1, .int (nI i)), (2, .ref b), (3, .int (nI j))]) cd_L_differenceBits_68 (by decide) rfl ?_
        refine ze_aload_n 1 cd_L_differenceBits_70 rfl rfl ?_
        refine ze_get zin_L (v := .ref (a + 8)) (ci := 1) rfl 8 (by decide) zm_123 rfl cd_L_differenceBits_71 h.1 rfl ?_
        refine ze_iload_n 2 cd_L_differenceBits_74 rfl rfl ?_
        refine ze_iald (j := i) cd_L_differenceBits_75 (h.2 7 _ rfl) rfl (by omega) (by decide) ?_
        refine ze_aload_n 3 cd_L_differenceBits_76 rfl rfl ?_
        refine ze_get zin_L (v := .ref (b + 8)) (ci := 1) rfl 8 (by decide) zm_123 rfl cd_L_differenceBits_77 h2.1 rfl ?_
        refine ze_iload_n 4 cd_L_differenceBits_80 rfl rfl ?_
        refine ze_iald (j := j) cd_L_differenceBits_81 (h2.2 7 _ rfl) rfl (by omega) (by decide) ?_
        refine ze_icmp_ne (tgt := 100) cd_L_differenceBits_82 (by decide) (fun c6 => ?_) (fun c6 => ?_)
        · skip
          refine ze_iload 0 cd_L_differenceBits_100 rfl ?_
          refine ze_iconst (v := nI 4) cd_L_differenceBits_102 (by decide) ?_
          refine ze_ior cd_L_differenceBits_103 ?_
          refine ze_top (by decide : nI 2 ||| nI 4 = nI 6) ?_
          refine ze_istore (lv' := [(4, .int (nI 6)), (0, .ref a), (1, .int (nI i)), (2, .ref b), (3, .int (nI j))]) cd_L_differenceBits_104 (by decide) rfl ?_
          refine ze_iload 0 cd_L_differenceBits_106 rfl ?_
          refine ze_iret cd_L_differenceBits_108 rfl (by decide) (by decide) (zPp_mk ?_)
          simp [zl_dif, c1, c2, c5, c6]
        · skip
          refine ze_aload_n 1 cd_L_differenceBits_85 rfl rfl ?_
          refine ze_get zin_L (v := .ref (a + 9)) (ci := 1) rfl 9 (by decide) zm_128 rfl cd_L_differenceBits_86 h.1 rfl ?_
          refine ze_iload_n 2 cd_L_differenceBits_89 rfl rfl ?_
          refine ze_iald (j := i) cd_L_differenceBits_90 (h.2 8 _ rfl) rfl (by omega) (by decide) ?_
          refine ze_aload_n 3 cd_L_differenceBits_91 rfl rfl ?_
          refine ze_get zin_L (v := .ref (b + 9)) (ci := 1) rfl 9 (by decide) zm_128 rfl cd_L_differenceBits_92 h2.1 rfl ?_
          refine ze_iload_n 4 cd_L_differenceBits_95 rfl rfl ?_
          refine ze_iald (j := j) cd_L_differenceBits_96 (h2.2 8 _ rfl) rfl (by omega) (by decide) ?_
          refine ze_icmp_eq (tgt := 106) cd_L_differenceBits_97 (by decide) (fun c7 => ?_) (fun c7 => ?_)
          · skip
            refine ze_iload 0 cd_L_differenceBits_106 rfl ?_
            refine ze_iret cd_L_differenceBits_108 rfl (by decide) (by decide) (zPp_mk ?_)
            simp [zl_dif, c1, c2, c5, c6, c7]
          · skip
            refine ze_iload 0 cd_L_differenceBits_100 rfl ?_
            refine ze_iconst (v := nI 4) cd_L_differenceBits_102 (by decide) ?_
            refine ze_ior cd_L_differenceBits_103 ?_
            refine ze_top (by decide : nI 2 ||| nI 4 = nI 6) ?_
            refine ze_istore (lv' := [(4, .int (nI 6)), (0, .ref a), (1, .int (nI i)), (2, .ref b), (3, .int (nI j))]) cd_L_differenceBits_104 (by decide) rfl ?_
            refine ze_iload 0 cd_L_differenceBits_106 rfl ?_
            refine ze_iret cd_L_differenceBits_108 rfl (by decide) (by decide) (zPp_mk ?_)
            simp [zl_dif, c1, c2, c5, c6, c7]
      · skip
        refine ze_aload_n 1 cd_L_differenceBits_49 rfl rfl ?_
        refine ze_get zin_L (v := .ref (a + 7)) (ci := 1) rfl 7 (by decide) zm_119 rfl cd_L_differenceBits_50 h.1 rfl ?_
        refine ze_iload_n 2 cd_L_differenceBits_53 rfl rfl ?_
        refine ze_iald (j := i) cd_L_differenceBits_54 (h.2 6 _ rfl) rfl (by omega) (by decide) ?_
        refine ze_aload_n 3 cd_L_differenceBits_55 rfl rfl ?_
        refine ze_get zin_L (v := .ref (b + 7)) (ci := 1) rfl 7 (by decide) zm_119 rfl cd_L_differenceBits_56 h2.1 rfl ?_
        refine ze_iload_n 4 cd_L_differenceBits_59 rfl rfl ?_
        refine ze_iald (j := j) cd_L_differenceBits_60 (h2.2 6 _ rfl) rfl (by omega) (by decide) ?_
        refine ze_icmp_eq (tgt := 70) cd_L_differenceBits_61 (by decide) (fun c8 => ?_) (fun c8 => ?_)
        · skip
          refine ze_aload_n 1 cd_L_differenceBits_70 rfl rfl ?_
          refine ze_get zin_L (v := .ref (a + 8)) (ci := 1) rfl 8 (by decide) zm_123 rfl cd_L_differenceBits_71 h.1 rfl ?_
          refine ze_iload_n 2 cd_L_differenceBits_74 rfl rfl ?_
          refine ze_iald (j := i) cd_L_differenceBits_75 (h.2 7 _ rfl) rfl (by omega) (by decide) ?_
          refine ze_aload_n 3 cd_L_differenceBits_76 rfl rfl ?_
          refine ze_get zin_L (v := .ref (b + 8)) (ci := 1) rfl 8 (by decide) zm_123 rfl cd_L_differenceBits_77 h2.1 rfl ?_
          refine ze_iload_n 4 cd_L_differenceBits_80 rfl rfl ?_
          refine ze_iald (j := j) cd_L_differenceBits_81 (h2.2 7 _ rfl) rfl (by omega) (by decide) ?_
          refine ze_icmp_ne (tgt := 100) cd_L_differenceBits_82 (by decide) (fun c9 => ?_) (fun c9 => ?_)
          · skip
            refine ze_iload 0 cd_L_differenceBits_100 rfl ?_
            refine ze_iconst (v := nI 4) cd_L_differenceBits_102 (by decide) ?_
            refine ze_ior cd_L_differenceBits_103 ?_
            refine ze_top (by decide : nI 0 ||| nI 4 = nI 4) ?_
            refine ze_istore (lv' := [(4, .int (nI 4)), (0, .ref a), (1, .int (nI i)), (2, .ref b), (3, .int (nI j))]) cd_L_differenceBits_104 (by decide) rfl ?_
            refine ze_iload 0 cd_L_differenceBits_106 rfl ?_
            refine ze_iret cd_L_differenceBits_108 rfl (by decide) (by decide) (zPp_mk ?_)
            simp [zl_dif, c1, c2, c5, c8, c9]
          · skip
            refine ze_aload_n 1 cd_L_differenceBits_85 rfl rfl ?_
            refine ze_get zin_L (v := .ref (a + 9)) (ci := 1) rfl 9 (by decide) zm_128 rfl cd_L_differenceBits_86 h.1 rfl ?_
            refine ze_iload_n 2 cd_L_differenceBits_89 rfl rfl ?_
            refine ze_iald (j := i) cd_L_differenceBits_90 (h.2 8 _ rfl) rfl (by omega) (by decide) ?_
            refine ze_aload_n 3 cd_L_differenceBits_91 rfl rfl ?_
            refine ze_get zin_L (v := .ref (b + 9)) (ci := 1) rfl 9 (by decide) zm_128 rfl cd_L_differenceBits_92 h2.1 rfl ?_
            refine ze_iload_n 4 cd_L_differenceBits_95 rfl rfl ?_
            refine ze_iald (j := j) cd_L_differenceBits_96 (h2.2 8 _ rfl) rfl (by omega) (by decide) ?_
            refine ze_icmp_eq (tgt := 106) cd_L_differenceBits_97 (by decide) (fun c10 => ?_) (fun c10 => ?_)
            · skip
              refine ze_iload 0 cd_L_differenceBits_106 rfl ?_
              refine ze_iret cd_L_differenceBits_108 rfl (by decide) (by decide) (zPp_mk ?_)
              simp [zl_dif, c1, c2, c5, c8, c9, c10]
            · skip
              refine ze_iload 0 cd_L_differenceBits_100 rfl ?_
              refine ze_iconst (v := nI 4) cd_L_differenceBits_102 (by decide) ?_
              refine ze_ior cd_L_differenceBits_103 ?_
              refine ze_top (by decide : nI 0 ||| nI 4 = nI 4) ?_
              refine ze_istore (lv' := [(4, .int (nI 4)), (0, .ref a), (1, .int (nI i)), (2, .ref b), (3, .int (nI j))]) cd_L_differenceBits_104 (by decide) rfl ?_
              refine ze_iload 0 cd_L_differenceBits_106 rfl ?_
              refine ze_iret cd_L_differenceBits_108 rfl (by decide) (by decide) (zPp_mk ?_)
              simp [zl_dif, c1, c2, c5, c8, c9, c10]
        · skip
          refine ze_iload 0 cd_L_differenceBits_64 rfl ?_
          refine ze_iconst (v := nI 2) cd_L_differenceBits_66 (by decide) ?_
          refine ze_ior cd_L_differenceBits_67 ?_
          refine ze_top (by decide : nI 0 ||| nI 2 = nI 2) ?_
          refine ze_istore (lv' := [(4, .int (nI 2)), (0, .ref a), (1, .int (nI i)), (2, .ref b), (3, .int (nI j))]) cd_L_differenceBits_68 (by decide) rfl ?_
          refine ze_aload_n 1 cd_L_differenceBits_70 rfl rfl ?_
          refine ze_get zin_L (v := .ref (a + 8)) (ci := 1) rfl 8 (by decide) zm_123 rfl cd_L_differenceBits_71 h.1 rfl ?_
          refine ze_iload_n 2 cd_L_differenceBits_74 rfl rfl ?_
          refine ze_iald (j := i) cd_L_differenceBits_75 (h.2 7 _ rfl) rfl (by omega) (by decide) ?_
          refine ze_aload_n 3 cd_L_differenceBits_76 rfl rfl ?_
          refine ze_get zin_L (v := .ref (b + 8)) (ci := 1) rfl 8 (by decide) zm_123 rfl cd_L_differenceBits_77 h2.1 rfl ?_
          refine ze_iload_n 4 cd_L_differenceBits_80 rfl rfl ?_
          refine ze_iald (j := j) cd_L_differenceBits_81 (h2.2 7 _ rfl) rfl (by omega) (by decide) ?_
          refine ze_icmp_ne (tgt := 100) cd_L_differenceBits_82 (by decide) (fun c11 => ?_) (fun c11 => ?_)
          · skip
            refine ze_iload 0 cd_L_differenceBits_100 rfl ?_
            refine ze_iconst (v := nI 4) cd_L_differenceBits_102 (by decide) ?_
            refine ze_ior cd_L_differenceBits_103 ?_
            refine ze_top (by decide : nI 2 ||| nI 4 = nI 6) ?_
            refine ze_istore (lv' := [(4, .int (nI 6)), (0, .ref a), (1, .int (nI i)), (2, .ref b), (3, .int (nI j))]) cd_L_differenceBits_104 (by decide) rfl ?_
            refine ze_iload 0 cd_L_differenceBits_106 rfl ?_
            refine ze_iret cd_L_differenceBits_108 rfl (by decide) (by decide) (zPp_mk ?_)
            simp [zl_dif, c1, c2, c5, c8, c11]
          · skip
            refine ze_aload_n 1 cd_L_differenceBits_85 rfl rfl ?_
            refine ze_get zin_L (v := .ref (a + 9)) (ci := 1) rfl 9 (by decide) zm_128 rfl cd_L_differenceBits_86 h.1 rfl ?_
            refine ze_iload_n 2 cd_L_differenceBits_89 rfl rfl ?_
            refine ze_iald (j := i) cd_L_differenceBits_90 (h.2 8 _ rfl) rfl (by omega) (by decide) ?_
            refine ze_aload_n 3 cd_L_differenceBits_91 rfl rfl ?_
            refine ze_get zin_L (v := .ref (b + 9)) (ci := 1) rfl 9 (by decide) zm_128 rfl cd_L_differenceBits_92 h2.1 rfl ?_
            refine ze_iload_n 4 cd_L_differenceBits_95 rfl rfl ?_
            refine ze_iald (j := j) cd_L_differenceBits_96 (h2.2 8 _ rfl) rfl (by omega) (by decide) ?_
            refine ze_icmp_eq (tgt := 106) cd_L_differenceBits_97 (by decide) (fun c12 => ?_) (fun c12 => ?_)
            · skip
              refine ze_iload 0 cd_L_differenceBits_106 rfl ?_
              refine ze_iret cd_L_differenceBits_108 rfl (by decide) (by decide) (zPp_mk ?_)
              simp [zl_dif, c1, c2, c5, c8, c11, c12]
            · skip
              refine ze_iload 0 cd_L_differenceBits_100 rfl ?_
              refine ze_iconst (v := nI 4) cd_L_differenceBits_102 (by decide) ?_
              refine ze_ior cd_L_differenceBits_103 ?_
              refine ze_top (by decide : nI 2 ||| nI 4 = nI 6) ?_
              refine ze_istore (lv' := [(4, .int (nI 6)), (0, .ref a), (1, .int (nI i)), (2, .ref b), (3, .int (nI j))]) cd_L_differenceBits_104 (by decide) rfl ?_
              refine ze_iload 0 cd_L_differenceBits_106 rfl ?_
              refine ze_iret cd_L_differenceBits_108 rfl (by decide) (by decide) (zPp_mk ?_)
              simp [zl_dif, c1, c2, c5, c8, c11, c12]
  · skip
    have c1 : (zl_tit R i Q j t) = false := zb_f c1
    refine ze_iload 0 cd_L_differenceBits_13 rfl ?_
    refine ze_iconst (v := nI 1) cd_L_differenceBits_15 (by decide) ?_
    refine ze_ior cd_L_differenceBits_16 ?_
    refine ze_top (by decide : nI 0 ||| nI 1 = nI 1) ?_
    refine ze_istore (lv' := [(4, .int (nI 1)), (0, .ref a), (1, .int (nI i)), (2, .ref b), (3, .int (nI j))]) cd_L_differenceBits_17 (by decide) rfl ?_
    refine ze_aload_n 1 cd_L_differenceBits_19 rfl rfl ?_
    refine ze_get zin_L (v := .ref (a + 5)) (ci := 1) rfl 5 (by decide) zm_111 rfl cd_L_differenceBits_20 h.1 rfl ?_
    refine ze_iload_n 2 cd_L_differenceBits_23 rfl rfl ?_
    refine ze_iald (j := i) cd_L_differenceBits_24 (h.2 4 _ rfl) rfl (by omega) (by decide) ?_
    refine ze_aload_n 3 cd_L_differenceBits_25 rfl rfl ?_
    refine ze_get zin_L (v := .ref (b + 5)) (ci := 1) rfl 5 (by decide) zm_111 rfl cd_L_differenceBits_26 h2.1 rfl ?_
    refine ze_iload_n 4 cd_L_differenceBits_29 rfl rfl ?_
    refine ze_iald (j := j) cd_L_differenceBits_30 (h2.2 4 _ rfl) rfl (by omega) (by decide) ?_
    refine ze_icmp_ne (tgt := 64) cd_L_differenceBits_31 (by decide) (fun c13 => ?_) (fun c13 => ?_)
    · skip
      refine ze_iload 0 cd_L_differenceBits_64 rfl ?_
      refine ze_iconst (v := nI 2) cd_L_differenceBits_66 (by decide) ?_
      refine ze_ior cd_L_differenceBits_67 ?_
      refine ze_top (by decide : nI 1 ||| nI 2 = nI 3) ?_
      refine ze_istore (lv' := [(4, .int (nI 3)), (0, .ref a), (1, .int (nI i)), (2, .ref b), (3, .int (nI j))]) cd_L_differenceBits_68 (by decide) rfl ?_
      refine ze_aload_n 1 cd_L_differenceBits_70 rfl rfl ?_
      refine ze_get zin_L (v := .ref (a + 8)) (ci := 1) rfl 8 (by decide) zm_123 rfl cd_L_differenceBits_71 h.1 rfl ?_
      refine ze_iload_n 2 cd_L_differenceBits_74 rfl rfl ?_
      refine ze_iald (j := i) cd_L_differenceBits_75 (h.2 7 _ rfl) rfl (by omega) (by decide) ?_
      refine ze_aload_n 3 cd_L_differenceBits_76 rfl rfl ?_
      refine ze_get zin_L (v := .ref (b + 8)) (ci := 1) rfl 8 (by decide) zm_123 rfl cd_L_differenceBits_77 h2.1 rfl ?_
      refine ze_iload_n 4 cd_L_differenceBits_80 rfl rfl ?_
      refine ze_iald (j := j) cd_L_differenceBits_81 (h2.2 7 _ rfl) rfl (by omega) (by decide) ?_
      refine ze_icmp_ne (tgt := 100) cd_L_differenceBits_82 (by decide) (fun c14 => ?_) (fun c14 => ?_)
      · skip
        refine ze_iload 0 cd_L_differenceBits_100 rfl ?_
        refine ze_iconst (v := nI 4) cd_L_differenceBits_102 (by decide) ?_
        refine ze_ior cd_L_differenceBits_103 ?_
        refine ze_top (by decide : nI 3 ||| nI 4 = nI 7) ?_
        refine ze_istore (lv' := [(4, .int (nI 7)), (0, .ref a), (1, .int (nI i)), (2, .ref b), (3, .int (nI j))]) cd_L_differenceBits_104 (by decide) rfl ?_
        refine ze_iload 0 cd_L_differenceBits_106 rfl ?_
        refine ze_iret cd_L_differenceBits_108 rfl (by decide) (by decide) (zPp_mk ?_)
        simp [zl_dif, c1, c13, c14]
      · skip
        refine ze_aload_n 1 cd_L_differenceBits_85 rfl rfl ?_
        refine ze_get zin_L (v := .ref (a + 9)) (ci := 1) rfl 9 (by decide) zm_128 rfl cd_L_differenceBits_86 h.1 rfl ?_
        refine ze_iload_n 2 cd_L_differenceBits_89 rfl rfl ?_
        refine ze_iald (j := i) cd_L_differenceBits_90 (h.2 8 _ rfl) rfl (by omega) (by decide) ?_
        refine ze_aload_n 3 cd_L_differenceBits_91 rfl rfl ?_
        refine ze_get zin_L (v := .ref (b + 9)) (ci := 1) rfl 9 (by decide) zm_128 rfl cd_L_differenceBits_92 h2.1 rfl ?_
        refine ze_iload_n 4 cd_L_differenceBits_95 rfl rfl ?_
        refine ze_iald (j := j) cd_L_differenceBits_96 (h2.2 8 _ rfl) rfl (by omega) (by decide) ?_
        refine ze_icmp_eq (tgt := 106) cd_L_differenceBits_97 (by decide) (fun c15 => ?_) (fun c15 => ?_)
        · skip
          refine ze_iload 0 cd_L_differenceBits_106 rfl ?_
          refine ze_iret cd_L_differenceBits_108 rfl (by decide) (by decide) (zPp_mk ?_)
          simp [zl_dif, c1, c13, c14, c15]
        · skip
          refine ze_iload 0 cd_L_differenceBits_100 rfl ?_
          refine ze_iconst (v := nI 4) cd_L_differenceBits_102 (by decide) ?_
          refine ze_ior cd_L_differenceBits_103 ?_
          refine ze_top (by decide : nI 3 ||| nI 4 = nI 7) ?_
          refine ze_istore (lv' := [(4, .int (nI 7)), (0, .ref a), (1, .int (nI i)), (2, .ref b), (3, .int (nI j))]) cd_L_differenceBits_104 (by decide) rfl ?_
          refine ze_iload 0 cd_L_differenceBits_106 rfl ?_
          refine ze_iret cd_L_differenceBits_108 rfl (by decide) (by decide) (zPp_mk ?_)
          simp [zl_dif, c1, c13, c14, c15]
    · skip
      refine ze_aload_n 1 cd_L_differenceBits_34 rfl rfl ?_
      refine ze_get zin_L (v := .ref (a + 6)) (ci := 1) rfl 6 (by decide) zm_115 rfl cd_L_differenceBits_35 h.1 rfl ?_
      refine ze_iload_n 2 cd_L_differenceBits_38 rfl rfl ?_
      refine ze_iald (j := i) cd_L_differenceBits_39 (h.2 5 _ rfl) rfl (by omega) (by decide) ?_
      refine ze_aload_n 3 cd_L_differenceBits_40 rfl rfl ?_
      refine ze_get zin_L (v := .ref (b + 6)) (ci := 1) rfl 6 (by decide) zm_115 rfl cd_L_differenceBits_41 h2.1 rfl ?_
      refine ze_iload_n 4 cd_L_differenceBits_44 rfl rfl ?_
      refine ze_iald (j := j) cd_L_differenceBits_45 (h2.2 5 _ rfl) rfl (by omega) (by decide) ?_
      refine ze_icmp_ne (tgt := 64) cd_L_differenceBits_46 (by decide) (fun c16 => ?_) (fun c16 => ?_)
      · skip
        refine ze_iload 0 cd_L_differenceBits_64 rfl ?_
        refine ze_iconst (v := nI 2) cd_L_differenceBits_66 (by decide) ?_
        refine ze_ior cd_L_differenceBits_67 ?_
        refine ze_top (by decide : nI 1 ||| nI 2 = nI 3) ?_
        refine ze_istore (lv' := [(4, .int (nI 3)), (0, .ref a), (1, .int (nI i)), (2, .ref b), (3, .int (nI j))]) cd_L_differenceBits_68 (by decide) rfl ?_
        refine ze_aload_n 1 cd_L_differenceBits_70 rfl rfl ?_
        refine ze_get zin_L (v := .ref (a + 8)) (ci := 1) rfl 8 (by decide) zm_123 rfl cd_L_differenceBits_71 h.1 rfl ?_
        refine ze_iload_n 2 cd_L_differenceBits_74 rfl rfl ?_
        refine ze_iald (j := i) cd_L_differenceBits_75 (h.2 7 _ rfl) rfl (by omega) (by decide) ?_
        refine ze_aload_n 3 cd_L_differenceBits_76 rfl rfl ?_
        refine ze_get zin_L (v := .ref (b + 8)) (ci := 1) rfl 8 (by decide) zm_123 rfl cd_L_differenceBits_77 h2.1 rfl ?_
        refine ze_iload_n 4 cd_L_differenceBits_80 rfl rfl ?_
        refine ze_iald (j := j) cd_L_differenceBits_81 (h2.2 7 _ rfl) rfl (by omega) (by decide) ?_
        refine ze_icmp_ne (tgt := 100) cd_L_differenceBits_82 (by decide) (fun c17 => ?_) (fun c17 => ?_)
        · skip
          refine ze_iload 0 cd_L_differenceBits_100 rfl ?_
          refine ze_iconst (v := nI 4) cd_L_differenceBits_102 (by decide) ?_
          refine ze_ior cd_L_differenceBits_103 ?_
          refine ze_top (by decide : nI 3 ||| nI 4 = nI 7) ?_
          refine ze_istore (lv' := [(4, .int (nI 7)), (0, .ref a), (1, .int (nI i)), (2, .ref b), (3, .int (nI j))]) cd_L_differenceBits_104 (by decide) rfl ?_
          refine ze_iload 0 cd_L_differenceBits_106 rfl ?_
          refine ze_iret cd_L_differenceBits_108 rfl (by decide) (by decide) (zPp_mk ?_)
          simp [zl_dif, c1, c13, c16, c17]
        · skip
          refine ze_aload_n 1 cd_L_differenceBits_85 rfl rfl ?_
          refine ze_get zin_L (v := .ref (a + 9)) (ci := 1) rfl 9 (by decide) zm_128 rfl cd_L_differenceBits_86 h.1 rfl ?_
          refine ze_iload_n 2 cd_L_differenceBits_89 rfl rfl ?_
          refine ze_iald (j := i) cd_L_differenceBits_90 (h.2 8 _ rfl) rfl (by omega) (by decide) ?_
          refine ze_aload_n 3 cd_L_differenceBits_91 rfl rfl ?_
          refine ze_get zin_L (v := .ref (b + 9)) (ci := 1) rfl 9 (by decide) zm_128 rfl cd_L_differenceBits_92 h2.1 rfl ?_
          refine ze_iload_n 4 cd_L_differenceBits_95 rfl rfl ?_
          refine ze_iald (j := j) cd_L_differenceBits_96 (h2.2 8 _ rfl) rfl (by omega) (by decide) ?_
          refine ze_icmp_eq (tgt := 106) cd_L_differenceBits_97 (by decide) (fun c18 => ?_) (fun c18 => ?_)
          · skip
            refine ze_iload 0 cd_L_differenceBits_106 rfl ?_
            refine ze_iret cd_L_differenceBits_108 rfl (by decide) (by decide) (zPp_mk ?_)
            simp [zl_dif, c1, c13, c16, c17, c18]
          · skip
            refine ze_iload 0 cd_L_differenceBits_100 rfl ?_
            refine ze_iconst (v := nI 4) cd_L_differenceBits_102 (by decide) ?_
            refine ze_ior cd_L_differenceBits_103 ?_
            refine ze_top (by decide : nI 3 ||| nI 4 = nI 7) ?_
            refine ze_istore (lv' := [(4, .int (nI 7)), (0, .ref a), (1, .int (nI i)), (2, .ref b), (3, .int (nI j))]) cd_L_differenceBits_104 (by decide) rfl ?_
            refine ze_iload 0 cd_L_differenceBits_106 rfl ?_
            refine ze_iret cd_L_differenceBits_108 rfl (by decide) (by decide) (zPp_mk ?_)
            simp [zl_dif, c1, c13, c16, c17, c18]
      · skip
        refine ze_aload_n 1 cd_L_differenceBits_49 rfl rfl ?_
        refine ze_get zin_L (v := .ref (a + 7)) (ci := 1) rfl 7 (by decide) zm_119 rfl cd_L_differenceBits_50 h.1 rfl ?_
        refine ze_iload_n 2 cd_L_differenceBits_53 rfl rfl ?_
        refine ze_iald (j := i) cd_L_differenceBits_54 (h.2 6 _ rfl) rfl (by omega) (by decide) ?_
        refine ze_aload_n 3 cd_L_differenceBits_55 rfl rfl ?_
        refine ze_get zin_L (v := .ref (b + 7)) (ci := 1) rfl 7 (by decide) zm_119 rfl cd_L_differenceBits_56 h2.1 rfl ?_
        refine ze_iload_n 4 cd_L_differenceBits_59 rfl rfl ?_
        refine ze_iald (j := j) cd_L_differenceBits_60 (h2.2 6 _ rfl) rfl (by omega) (by decide) ?_
        refine ze_icmp_eq (tgt := 70) cd_L_differenceBits_61 (by decide) (fun c19 => ?_) (fun c19 => ?_)
        · skip
          refine ze_aload_n 1 cd_L_differenceBits_70 rfl rfl ?_
          refine ze_get zin_L (v := .ref (a + 8)) (ci := 1) rfl 8 (by decide) zm_123 rfl cd_L_differenceBits_71 h.1 rfl ?_
          refine ze_iload_n 2 cd_L_differenceBits_74 rfl rfl ?_
          refine ze_iald (j := i) cd_L_differenceBits_75 (h.2 7 _ rfl) rfl (by omega) (by decide) ?_
          refine ze_aload_n 3 cd_L_differenceBits_76 rfl rfl ?_
          refine ze_get zin_L (v := .ref (b + 8)) (ci := 1) rfl 8 (by decide) zm_123 rfl cd_L_differenceBits_77 h2.1 rfl ?_
          refine ze_iload_n 4 cd_L_differenceBits_80 rfl rfl ?_
          refine ze_iald (j := j) cd_L_differenceBits_81 (h2.2 7 _ rfl) rfl (by omega) (by decide) ?_
          refine ze_icmp_ne (tgt := 100) cd_L_differenceBits_82 (by decide) (fun c20 => ?_) (fun c20 => ?_)
          · skip
            refine ze_iload 0 cd_L_differenceBits_100 rfl ?_
            refine ze_iconst (v := nI 4) cd_L_differenceBits_102 (by decide) ?_
            refine ze_ior cd_L_differenceBits_103 ?_
            refine ze_top (by decide : nI 1 ||| nI 4 = nI 5) ?_
            refine ze_istore (lv' := [(4, .int (nI 5)), (0, .ref a), (1, .int (nI i)), (2, .ref b), (3, .int (nI j))]) cd_L_differenceBits_104 (by decide) rfl ?_
            refine ze_iload 0 cd_L_differenceBits_106 rfl ?_
            refine ze_iret cd_L_differenceBits_108 rfl (by decide) (by decide) (zPp_mk ?_)
            simp [zl_dif, c1, c13, c16, c19, c20]
          · skip
            refine ze_aload_n 1 cd_L_differenceBits_85 rfl rfl ?_
            refine ze_get zin_L (v := .ref (a + 9)) (ci := 1) rfl 9 (by decide) zm_128 rfl cd_L_differenceBits_86 h.1 rfl ?_
            refine ze_iload_n 2 cd_L_differenceBits_89 rfl rfl ?_
            refine ze_iald (j := i) cd_L_differenceBits_90 (h.2 8 _ rfl) rfl (by omega) (by decide) ?_
            refine ze_aload_n 3 cd_L_differenceBits_91 rfl rfl ?_
            refine ze_get zin_L (v := .ref (b + 9)) (ci := 1) rfl 9 (by decide) zm_128 rfl cd_L_differenceBits_92 h2.1 rfl ?_
            refine ze_iload_n 4 cd_L_differenceBits_95 rfl rfl ?_
            refine ze_iald (j := j) cd_L_differenceBits_96 (h2.2 8 _ rfl) rfl (by omega) (by decide) ?_
            refine ze_icmp_eq (tgt := 106) cd_L_differenceBits_97 (by decide) (fun c21 => ?_) (fun c21 => ?_)
            · skip
              refine ze_iload 0 cd_L_differenceBits_106 rfl ?_
              refine ze_iret cd_L_differenceBits_108 rfl (by decide) (by decide) (zPp_mk ?_)
              simp [zl_dif, c1, c13, c16, c19, c20, c21]
            · skip
              refine ze_iload 0 cd_L_differenceBits_100 rfl ?_
              refine ze_iconst (v := nI 4) cd_L_differenceBits_102 (by decide) ?_
              refine ze_ior cd_L_differenceBits_103 ?_
              refine ze_top (by decide : nI 1 ||| nI 4 = nI 5) ?_
              refine ze_istore (lv' := [(4, .int (nI 5)), (0, .ref a), (1, .int (nI i)), (2, .ref b), (3, .int (nI j))]) cd_L_differenceBits_104 (by decide) rfl ?_
              refine ze_iload 0 cd_L_differenceBits_106 rfl ?_
              refine ze_iret cd_L_differenceBits_108 rfl (by decide) (by decide) (zPp_mk ?_)
              simp [zl_dif, c1, c13, c16, c19, c20, c21]
        · skip
          refine ze_iload 0 cd_L_differenceBits_64 rfl ?_
          refine ze_iconst (v := nI 2) cd_L_differenceBits_66 (by decide) ?_
          refine ze_ior cd_L_differenceBits_67 ?_
          refine ze_top (by decide : nI 1 ||| nI 2 = nI 3) ?_
          refine ze_istore (lv' := [(4, .int (nI 3)), (0, .ref a), (1, .int (nI i)), (2, .ref b), (3, .int (nI j))]) cd_L_differenceBits_68 (by decide) rfl ?_
          refine ze_aload_n 1 cd_L_differenceBits_70 rfl rfl ?_
          refine ze_get zin_L (v := .ref (a + 8)) (ci := 1) rfl 8 (by decide) zm_123 rfl cd_L_differenceBits_71 h.1 rfl ?_
          refine ze_iload_n 2 cd_L_differenceBits_74 rfl rfl ?_
          refine ze_iald (j := i) cd_L_differenceBits_75 (h.2 7 _ rfl) rfl (by omega) (by decide) ?_
          refine ze_aload_n 3 cd_L_differenceBits_76 rfl rfl ?_
          refine ze_get zin_L (v := .ref (b + 8)) (ci := 1) rfl 8 (by decide) zm_123 rfl cd_L_differenceBits_77 h2.1 rfl ?_
          refine ze_iload_n 4 cd_L_differenceBits_80 rfl rfl ?_
          refine ze_iald (j := j) cd_L_differenceBits_81 (h2.2 7 _ rfl) rfl (by omega) (by decide) ?_
          refine ze_icmp_ne (tgt := 100) cd_L_differenceBits_82 (by decide) (fun c22 => ?_) (fun c22 => ?_)
          · skip
            refine ze_iload 0 cd_L_differenceBits_100 rfl ?_
            refine ze_iconst (v := nI 4) cd_L_differenceBits_102 (by decide) ?_
            refine ze_ior cd_L_differenceBits_103 ?_
            refine ze_top (by decide : nI 3 ||| nI 4 = nI 7) ?_
            refine ze_istore (lv' := [(4, .int (nI 7)), (0, .ref a), (1, .int (nI i)), (2, .ref b), (3, .int (nI j))]) cd_L_differenceBits_104 (by decide) rfl ?_
            refine ze_iload 0 cd_L_differenceBits_106 rfl ?_
            refine ze_iret cd_L_differenceBits_108 rfl (by decide) (by decide) (zPp_mk ?_)
            simp [zl_dif, c1, c13, c16, c19, c22]
          · skip
            refine ze_aload_n 1 cd_L_differenceBits_85 rfl rfl ?_
            refine ze_get zin_L (v := .ref (a + 9)) (ci := 1) rfl 9 (by decide) zm_128 rfl cd_L_differenceBits_86 h.1 rfl ?_
            refine ze_iload_n 2 cd_L_differenceBits_89 rfl rfl ?_
            refine ze_iald (j := i) cd_L_differenceBits_90 (h.2 8 _ rfl) rfl (by omega) (by decide) ?_
            refine ze_aload_n 3 cd_L_differenceBits_91 rfl rfl ?_
            refine ze_get zin_L (v := .ref (b + 9)) (ci := 1) rfl 9 (by decide) zm_128 rfl cd_L_differenceBits_92 h2.1 rfl ?_
            refine ze_iload_n 4 cd_L_differenceBits_95 rfl rfl ?_
            refine ze_iald (j := j) cd_L_differenceBits_96 (h2.2 8 _ rfl) rfl (by omega) (by decide) ?_
            refine ze_icmp_eq (tgt := 106) cd_L_differenceBits_97 (by decide) (fun c23 => ?_) (fun c23 => ?_)
            · skip
              refine ze_iload 0 cd_L_differenceBits_106 rfl ?_
              refine ze_iret cd_L_differenceBits_108 rfl (by decide) (by decide) (zPp_mk ?_)
              simp [zl_dif, c1, c13, c16, c19, c22, c23]
            · skip
              refine ze_iload 0 cd_L_differenceBits_100 rfl ?_
              refine ze_iconst (v := nI 4) cd_L_differenceBits_102 (by decide) ?_
              refine ze_ior cd_L_differenceBits_103 ?_
              refine ze_top (by decide : nI 3 ||| nI 4 = nI 7) ?_
              refine ze_istore (lv' := [(4, .int (nI 7)), (0, .ref a), (1, .int (nI i)), (2, .ref b), (3, .int (nI j))]) cd_L_differenceBits_104 (by decide) rfl ?_
              refine ze_iload 0 cd_L_differenceBits_106 rfl ?_
              refine ze_iret cd_L_differenceBits_108 rfl (by decide) (by decide) (zPp_mk ?_)
              simp [zl_dif, c1, c13, c16, c19, c22, c23]
end
