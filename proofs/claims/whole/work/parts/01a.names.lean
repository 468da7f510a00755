-- ===== PART A: goes FIRST, ahead of the names: the tables' words, and 'selects' of the private methods out of them =====
/-- a private method of a class that the tables say can be made, by its rows of tables_1 -/
def lw_okq (q : MethodName × Nat) : Prop := (q.1.cls ≠ "java/lang/invoke/MethodHandle" ∧ q.1.cls ≠ "java/lang/invoke/VarHandle") ∧ Cond.instantiable q.1.cls q.2 ∈ tables_1 ∧ Cond.privateMethod q.1 ∈ tables_1 ∧ Cond.instanceMethod q.1 ∈ tables_1
theorem lw_p0 : lw_okq (⟨"ArchivistTricks", "shuffle", "(J)V"⟩, 11) := ⟨⟨by decide +kernel, by decide +kernel⟩, List.mem_of_getElem? (i := 16) (by decide +kernel), List.mem_of_getElem? (i := 90) (by decide +kernel), List.mem_of_getElem? (i := 91) (by decide +kernel)⟩
theorem lw_p1 : lw_okq (⟨"ArchivistTricks", "exchange", "(II)V"⟩, 11) := ⟨⟨by decide +kernel, by decide +kernel⟩, List.mem_of_getElem? (i := 16) (by decide +kernel), List.mem_of_getElem? (i := 96) (by decide +kernel), List.mem_of_getElem? (i := 97) (by decide +kernel)⟩
theorem lw_p2 : lw_okq (⟨"ArchivistTricks", "putTurnedUpLast", "()V"⟩, 11) := ⟨⟨by decide +kernel, by decide +kernel⟩, List.mem_of_getElem? (i := 16) (by decide +kernel), List.mem_of_getElem? (i := 100) (by decide +kernel), List.mem_of_getElem? (i := 101) (by decide +kernel)⟩
theorem lw_p3 : lw_okq (⟨"ArchivistTricks", "handFrom", "(I)J"⟩, 11) := ⟨⟨by decide +kernel, by decide +kernel⟩, List.mem_of_getElem? (i := 16) (by decide +kernel), List.mem_of_getElem? (i := 107) (by decide +kernel), List.mem_of_getElem? (i := 108) (by decide +kernel)⟩
theorem lw_p4 : lw_okq (⟨"ArchivistTricks", "reasonAgainst", "(I)I"⟩, 11) := ⟨⟨by decide +kernel, by decide +kernel⟩, List.mem_of_getElem? (i := 16) (by decide +kernel), List.mem_of_getElem? (i := 145) (by decide +kernel), List.mem_of_getElem? (i := 146) (by decide +kernel)⟩
theorem lw_p5 : lw_okq (⟨"ArchivistTricks", "moversHand", "()J"⟩, 11) := ⟨⟨by decide +kernel, by decide +kernel⟩, List.mem_of_getElem? (i := 16) (by decide +kernel), List.mem_of_getElem? (i := 149) (by decide +kernel), List.mem_of_getElem? (i := 150) (by decide +kernel)⟩
theorem lw_p6 : lw_okq (⟨"ArchivistTricks", "archivist", "(I)LArchivistTricks$Archivist;"⟩, 11) := ⟨⟨by decide +kernel, by decide +kernel⟩, List.mem_of_getElem? (i := 16) (by decide +kernel), List.mem_of_getElem? (i := 153) (by decide +kernel), List.mem_of_getElem? (i := 154) (by decide +kernel)⟩
theorem lw_p7 : lw_okq (⟨"java/lang/Throwable", "fillInStackTrace", "(I)Ljava/lang/Throwable;"⟩, 6) := ⟨⟨by decide +kernel, by decide +kernel⟩, List.mem_of_getElem? (i := 229) (by decide +kernel), List.mem_of_getElem? (i := 227) (by decide +kernel), List.mem_of_getElem? (i := 228) (by decide +kernel)⟩
theorem lw_p8 : lw_okq (⟨"ArchivistTricks", "finishTrick", "(I)I"⟩, 11) := ⟨⟨by decide +kernel, by decide +kernel⟩, List.mem_of_getElem? (i := 16) (by decide +kernel), List.mem_of_getElem? (i := 276) (by decide +kernel), List.mem_of_getElem? (i := 277) (by decide +kernel)⟩
theorem lw_p9 : lw_okq (⟨"ArchivistTricks", "takerBy", "(I)I"⟩, 11) := ⟨⟨by decide +kernel, by decide +kernel⟩, List.mem_of_getElem? (i := 16) (by decide +kernel), List.mem_of_getElem? (i := 280) (by decide +kernel), List.mem_of_getElem? (i := 281) (by decide +kernel)⟩
theorem lw_p10 : lw_okq (⟨"ArchivistTricks", "drawFor", "(LArchivistTricks$Archivist;)V"⟩, 11) := ⟨⟨by decide +kernel, by decide +kernel⟩, List.mem_of_getElem? (i := 16) (by decide +kernel), List.mem_of_getElem? (i := 294) (by decide +kernel), List.mem_of_getElem? (i := 295) (by decide +kernel)⟩
theorem lw_p11 : lw_okq (⟨"ArchivistTricks", "endGame", "()V"⟩, 11) := ⟨⟨by decide +kernel, by decide +kernel⟩, List.mem_of_getElem? (i := 16) (by decide +kernel), List.mem_of_getElem? (i := 298) (by decide +kernel), List.mem_of_getElem? (i := 299) (by decide +kernel)⟩
theorem lw_p12 : lw_okq (⟨"ArchivistTricks", "isEnding", "()Z"⟩, 11) := ⟨⟨by decide +kernel, by decide +kernel⟩, List.mem_of_getElem? (i := 16) (by decide +kernel), List.mem_of_getElem? (i := 402) (by decide +kernel), List.mem_of_getElem? (i := 403) (by decide +kernel)⟩
theorem lw_p13 : lw_okq (⟨"ArchivistTricks", "begunEnding", "()LArchivistTricks$Ending;"⟩, 11) := ⟨⟨by decide +kernel, by decide +kernel⟩, List.mem_of_getElem? (i := 16) (by decide +kernel), List.mem_of_getElem? (i := 407) (by decide +kernel), List.mem_of_getElem? (i := 408) (by decide +kernel)⟩
theorem lw_p14 : lw_okq (⟨"ArchivistTricks", "othersHand", "()J"⟩, 11) := ⟨⟨by decide +kernel, by decide +kernel⟩, List.mem_of_getElem? (i := 16) (by decide +kernel), List.mem_of_getElem? (i := 437) (by decide +kernel), List.mem_of_getElem? (i := 438) (by decide +kernel)⟩
theorem lw_p15 : lw_okq (⟨"ArchivistTricks", "glovesWorn", "()I"⟩, 11) := ⟨⟨by decide +kernel, by decide +kernel⟩, List.mem_of_getElem? (i := 16) (by decide +kernel), List.mem_of_getElem? (i := 441) (by decide +kernel), List.mem_of_getElem? (i := 442) (by decide +kernel)⟩
def lw_privs_1 : List (MethodName × Nat) := [(⟨"ArchivistTricks", "shuffle", "(J)V"⟩, 11), (⟨"ArchivistTricks", "exchange", "(II)V"⟩, 11), (⟨"ArchivistTricks", "putTurnedUpLast", "()V"⟩, 11), (⟨"ArchivistTricks", "handFrom", "(I)J"⟩, 11), (⟨"ArchivistTricks", "reasonAgainst", "(I)I"⟩, 11), (⟨"ArchivistTricks", "moversHand", "()J"⟩, 11), (⟨"ArchivistTricks", "archivist", "(I)LArchivistTricks$Archivist;"⟩, 11), (⟨"java/lang/Throwable", "fillInStackTrace", "(I)Ljava/lang/Throwable;"⟩, 6), (⟨"ArchivistTricks", "finishTrick", "(I)I"⟩, 11), (⟨"ArchivistTricks", "takerBy", "(I)I"⟩, 11), (⟨"ArchivistTricks", "drawFor", "(LArchivistTricks$Archivist;)V"⟩, 11), (⟨"ArchivistTricks", "endGame", "()V"⟩, 11), (⟨"ArchivistTricks", "isEnding", "()Z"⟩, 11), (⟨"ArchivistTricks", "begunEnding", "()LArchivistTricks$Ending;"⟩, 11), (⟨"ArchivistTricks", "othersHand", "()J"⟩, 11), (⟨"ArchivistTricks", "glovesWorn", "()I"⟩, 11)]
theorem lw_r1 : ∀ q ∈ lw_privs_1, lw_okq q := List.forall_mem_cons.mpr ⟨lw_p0, List.forall_mem_cons.mpr ⟨lw_p1, List.forall_mem_cons.mpr ⟨lw_p2, List.forall_mem_cons.mpr ⟨lw_p3, List.forall_mem_cons.mpr ⟨lw_p4, List.forall_mem_cons.mpr ⟨lw_p5, List.forall_mem_cons.mpr ⟨lw_p6, List.forall_mem_cons.mpr ⟨lw_p7, List.forall_mem_cons.mpr ⟨lw_p8, List.forall_mem_cons.mpr ⟨lw_p9, List.forall_mem_cons.mpr ⟨lw_p10, List.forall_mem_cons.mpr ⟨lw_p11, List.forall_mem_cons.mpr ⟨lw_p12, List.forall_mem_cons.mpr ⟨lw_p13, List.forall_mem_cons.mpr ⟨lw_p14, List.forall_mem_cons.mpr ⟨lw_p15, fun _ h => absurd h List.not_mem_nil⟩⟩⟩⟩⟩⟩⟩⟩⟩⟩⟩⟩⟩⟩⟩⟩
theorem lw_p16 : lw_okq (⟨"ArchivistTricks$Ending", "margin", "(JJIIII)I"⟩, 4) := ⟨⟨by decide +kernel, by decide +kernel⟩, List.mem_of_getElem? (i := 411) (by decide +kernel), List.mem_of_getElem? (i := 449) (by decide +kernel), List.mem_of_getElem? (i := 450) (by decide +kernel)⟩
theorem lw_p17 : lw_okq (⟨"ArchivistTricks$Ending", "mayPlay", "(JII)Z"⟩, 4) := ⟨⟨by decide +kernel, by decide +kernel⟩, List.mem_of_getElem? (i := 411) (by decide +kernel), List.mem_of_getElem? (i := 453) (by decide +kernel), List.mem_of_getElem? (i := 454) (by decide +kernel)⟩
theorem lw_p18 : lw_okq (⟨"ArchivistTricks$Ending", "marginBy", "(IJJIIII)I"⟩, 4) := ⟨⟨by decide +kernel, by decide +kernel⟩, List.mem_of_getElem? (i := 411) (by decide +kernel), List.mem_of_getElem? (i := 460) (by decide +kernel), List.mem_of_getElem? (i := 461) (by decide +kernel)⟩
theorem lw_p19 : lw_okq (⟨"ArchivistTricks$Ending", "rest", "(JJII)I"⟩, 4) := ⟨⟨by decide +kernel, by decide +kernel⟩, List.mem_of_getElem? (i := 411) (by decide +kernel), List.mem_of_getElem? (i := 471) (by decide +kernel), List.mem_of_getElem? (i := 472) (by decide +kernel)⟩
theorem lw_p20 : lw_okq (⟨"ArchivistTricks$Ending", "stateOf", "(JJI)I"⟩, 4) := ⟨⟨by decide +kernel, by decide +kernel⟩, List.mem_of_getElem? (i := 411) (by decide +kernel), List.mem_of_getElem? (i := 475) (by decide +kernel), List.mem_of_getElem? (i := 476) (by decide +kernel)⟩
theorem lw_p21 : lw_okq (⟨"ArchivistTricksModel", "why", "(I)I"⟩, 15) := ⟨⟨by decide +kernel, by decide +kernel⟩, List.mem_of_getElem? (i := 496) (by decide +kernel), List.mem_of_getElem? (i := 571) (by decide +kernel), List.mem_of_getElem? (i := 572) (by decide +kernel)⟩
theorem lw_p22 : lw_okq (⟨"ArchivistTricksModel", "hasDated", "(I)Z"⟩, 15) := ⟨⟨by decide +kernel, by decide +kernel⟩, List.mem_of_getElem? (i := 496) (by decide +kernel), List.mem_of_getElem? (i := 575) (by decide +kernel), List.mem_of_getElem? (i := 576) (by decide +kernel)⟩
theorem lw_p23 : lw_okq (⟨"ArchivistTricksModel", "hasOf", "(II)Z"⟩, 15) := ⟨⟨by decide +kernel, by decide +kernel⟩, List.mem_of_getElem? (i := 496) (by decide +kernel), List.mem_of_getElem? (i := 579) (by decide +kernel), List.mem_of_getElem? (i := 580) (by decide +kernel)⟩
theorem lw_p24 : lw_okq (⟨"ArchivistTricksModel", "inPile", "()I"⟩, 15) := ⟨⟨by decide +kernel, by decide +kernel⟩, List.mem_of_getElem? (i := 496) (by decide +kernel), List.mem_of_getElem? (i := 583) (by decide +kernel), List.mem_of_getElem? (i := 584) (by decide +kernel)⟩
theorem lw_p25 : lw_okq (⟨"ArchivistTricksModel", "isTrump", "(I)Z"⟩, 15) := ⟨⟨by decide +kernel, by decide +kernel⟩, List.mem_of_getElem? (i := 496) (by decide +kernel), List.mem_of_getElem? (i := 587) (by decide +kernel), List.mem_of_getElem? (i := 588) (by decide +kernel)⟩
theorem lw_p26 : lw_okq (⟨"ArchivistTricksModel", "ends", "(I)I"⟩, 15) := ⟨⟨by decide +kernel, by decide +kernel⟩, List.mem_of_getElem? (i := 496) (by decide +kernel), List.mem_of_getElem? (i := 591) (by decide +kernel), List.mem_of_getElem? (i := 592) (by decide +kernel)⟩
theorem lw_p27 : lw_okq (⟨"ArchivistTricksModel", "takes", "(II)Z"⟩, 15) := ⟨⟨by decide +kernel, by decide +kernel⟩, List.mem_of_getElem? (i := 496) (by decide +kernel), List.mem_of_getElem? (i := 595) (by decide +kernel), List.mem_of_getElem? (i := 596) (by decide +kernel)⟩
theorem lw_p28 : lw_okq (⟨"ArchivistTricksModel", "draws", "(I)V"⟩, 15) := ⟨⟨by decide +kernel, by decide +kernel⟩, List.mem_of_getElem? (i := 496) (by decide +kernel), List.mem_of_getElem? (i := 605) (by decide +kernel), List.mem_of_getElem? (i := 606) (by decide +kernel)⟩
theorem lw_p29 : lw_okq (⟨"ArchivistTricksModel", "howMany", "(I)I"⟩, 15) := ⟨⟨by decide +kernel, by decide +kernel⟩, List.mem_of_getElem? (i := 496) (by decide +kernel), List.mem_of_getElem? (i := 609) (by decide +kernel), List.mem_of_getElem? (i := 610) (by decide +kernel)⟩
theorem lw_p30 : lw_okq (⟨"ArchivistTricksModel", "of", "([II)I"⟩, 15) := ⟨⟨by decide +kernel, by decide +kernel⟩, List.mem_of_getElem? (i := 496) (by decide +kernel), List.mem_of_getElem? (i := 660) (by decide +kernel), List.mem_of_getElem? (i := 661) (by decide +kernel)⟩
theorem lw_p31 : lw_okq (⟨"ArchivistTricksModel", "bestPlace", "()I"⟩, 15) := ⟨⟨by decide +kernel, by decide +kernel⟩, List.mem_of_getElem? (i := 496) (by decide +kernel), List.mem_of_getElem? (i := 684) (by decide +kernel), List.mem_of_getElem? (i := 685) (by decide +kernel)⟩
def lw_privs_2 : List (MethodName × Nat) := [(⟨"ArchivistTricks$Ending", "margin", "(JJIIII)I"⟩, 4), (⟨"ArchivistTricks$Ending", "mayPlay", "(JII)Z"⟩, 4), (⟨"ArchivistTricks$Ending", "marginBy", "(IJJIIII)I"⟩, 4), (⟨"ArchivistTricks$Ending", "rest", "(JJII)I"⟩, 4), (⟨"ArchivistTricks$Ending", "stateOf", "(JJI)I"⟩, 4), (⟨"ArchivistTricksModel", "why", "(I)I"⟩, 15), (⟨"ArchivistTricksModel", "hasDated", "(I)Z"⟩, 15), (⟨"ArchivistTricksModel", "hasOf", "(II)Z"⟩, 15), (⟨"ArchivistTricksModel", "inPile", "()I"⟩, 15), (⟨"ArchivistTricksModel", "isTrump", "(I)Z"⟩, 15), (⟨"ArchivistTricksModel", "ends", "(I)I"⟩, 15), (⟨"ArchivistTricksModel", "takes", "(II)Z"⟩, 15), (⟨"ArchivistTricksModel", "draws", "(I)V"⟩, 15), (⟨"ArchivistTricksModel", "howMany", "(I)I"⟩, 15), (⟨"ArchivistTricksModel", "of", "([II)I"⟩, 15), (⟨"ArchivistTricksModel", "bestPlace", "()I"⟩, 15)]
theorem lw_r2 : ∀ q ∈ lw_privs_2, lw_okq q := List.forall_mem_cons.mpr ⟨lw_p16, List.forall_mem_cons.mpr ⟨lw_p17, List.forall_mem_cons.mpr ⟨lw_p18, List.forall_mem_cons.mpr ⟨lw_p19, List.forall_mem_cons.mpr ⟨lw_p20, List.forall_mem_cons.mpr ⟨lw_p21, List.forall_mem_cons.mpr ⟨lw_p22, List.forall_mem_cons.mpr ⟨lw_p23, List.forall_mem_cons.mpr ⟨lw_p24, List.forall_mem_cons.mpr ⟨lw_p25, List.forall_mem_cons.mpr ⟨lw_p26, List.forall_mem_cons.mpr ⟨lw_p27, List.forall_mem_cons.mpr ⟨lw_p28, List.forall_mem_cons.mpr ⟨lw_p29, List.forall_mem_cons.mpr ⟨lw_p30, List.forall_mem_cons.mpr ⟨lw_p31, fun _ h => absurd h List.not_mem_nil⟩⟩⟩⟩⟩⟩⟩⟩⟩⟩⟩⟩⟩⟩⟩⟩
theorem lw_p32 : lw_okq (⟨"ArchivistTricksModel", "laysTable", "()V"⟩, 15) := ⟨⟨by decide +kernel, by decide +kernel⟩, List.mem_of_getElem? (i := 496) (by decide +kernel), List.mem_of_getElem? (i := 688) (by decide +kernel), List.mem_of_getElem? (i := 689) (by decide +kernel)⟩
theorem lw_p33 : lw_okq (⟨"ArchivistTricksModel", "laysHands", "()V"⟩, 15) := ⟨⟨by decide +kernel, by decide +kernel⟩, List.mem_of_getElem? (i := 496) (by decide +kernel), List.mem_of_getElem? (i := 692) (by decide +kernel), List.mem_of_getElem? (i := 693) (by decide +kernel)⟩
theorem lw_p34 : lw_okq (⟨"ArchivistTricksModel", "mostOf", "(IIII)I"⟩, 15) := ⟨⟨by decide +kernel, by decide +kernel⟩, List.mem_of_getElem? (i := 496) (by decide +kernel), List.mem_of_getElem? (i := 699) (by decide +kernel), List.mem_of_getElem? (i := 700) (by decide +kernel)⟩
theorem lw_p35 : lw_okq (⟨"ArchivistTricksModel", "canLead", "(III)Z"⟩, 15) := ⟨⟨by decide +kernel, by decide +kernel⟩, List.mem_of_getElem? (i := 496) (by decide +kernel), List.mem_of_getElem? (i := 703) (by decide +kernel), List.mem_of_getElem? (i := 704) (by decide +kernel)⟩
theorem lw_p36 : lw_okq (⟨"ArchivistTricksModel", "isAmong", "(III)Z"⟩, 15) := ⟨⟨by decide +kernel, by decide +kernel⟩, List.mem_of_getElem? (i := 496) (by decide +kernel), List.mem_of_getElem? (i := 707) (by decide +kernel), List.mem_of_getElem? (i := 708) (by decide +kernel)⟩
theorem lw_p37 : lw_okq (⟨"ArchivistTricksModel", "leastBy", "(IIIII)I"⟩, 15) := ⟨⟨by decide +kernel, by decide +kernel⟩, List.mem_of_getElem? (i := 496) (by decide +kernel), List.mem_of_getElem? (i := 711) (by decide +kernel), List.mem_of_getElem? (i := 712) (by decide +kernel)⟩
theorem lw_p38 : lw_okq (⟨"ArchivistTricksModel", "canFollow", "(IIII)Z"⟩, 15) := ⟨⟨by decide +kernel, by decide +kernel⟩, List.mem_of_getElem? (i := 496) (by decide +kernel), List.mem_of_getElem? (i := 715) (by decide +kernel), List.mem_of_getElem? (i := 716) (by decide +kernel)⟩
theorem lw_p39 : lw_okq (⟨"ArchivistTricksModel", "behind", "(IIIIII)I"⟩, 15) := ⟨⟨by decide +kernel, by decide +kernel⟩, List.mem_of_getElem? (i := 496) (by decide +kernel), List.mem_of_getElem? (i := 719) (by decide +kernel), List.mem_of_getElem? (i := 720) (by decide +kernel)⟩
theorem lw_p40 : lw_okq (⟨"ArchivistTricksModel", "tableAt", "(III)I"⟩, 15) := ⟨⟨by decide +kernel, by decide +kernel⟩, List.mem_of_getElem? (i := 496) (by decide +kernel), List.mem_of_getElem? (i := 723) (by decide +kernel), List.mem_of_getElem? (i := 724) (by decide +kernel)⟩
theorem lw_p41 : lw_okq (⟨"ArchivistTricksModel", "byCard", "(I)I"⟩, 15) := ⟨⟨by decide +kernel, by decide +kernel⟩, List.mem_of_getElem? (i := 496) (by decide +kernel), List.mem_of_getElem? (i := 727) (by decide +kernel), List.mem_of_getElem? (i := 728) (by decide +kernel)⟩
theorem lw_p42 : lw_okq (⟨"ArchivistTricksModel", "wornNow", "()I"⟩, 15) := ⟨⟨by decide +kernel, by decide +kernel⟩, List.mem_of_getElem? (i := 496) (by decide +kernel), List.mem_of_getElem? (i := 731) (by decide +kernel), List.mem_of_getElem? (i := 732) (by decide +kernel)⟩
def lw_privs_3 : List (MethodName × Nat) := [(⟨"ArchivistTricksModel", "laysTable", "()V"⟩, 15), (⟨"ArchivistTricksModel", "laysHands", "()V"⟩, 15), (⟨"ArchivistTricksModel", "mostOf", "(IIII)I"⟩, 15), (⟨"ArchivistTricksModel", "canLead", "(III)Z"⟩, 15), (⟨"ArchivistTricksModel", "isAmong", "(III)Z"⟩, 15), (⟨"ArchivistTricksModel", "leastBy", "(IIIII)I"⟩, 15), (⟨"ArchivistTricksModel", "canFollow", "(IIII)Z"⟩, 15), (⟨"ArchivistTricksModel", "behind", "(IIIIII)I"⟩, 15), (⟨"ArchivistTricksModel", "tableAt", "(III)I"⟩, 15), (⟨"ArchivistTricksModel", "byCard", "(I)I"⟩, 15), (⟨"ArchivistTricksModel", "wornNow", "()I"⟩, 15)]
theorem lw_r3 : ∀ q ∈ lw_privs_3, lw_okq q := List.forall_mem_cons.mpr ⟨lw_p32, List.forall_mem_cons.mpr ⟨lw_p33, List.forall_mem_cons.mpr ⟨lw_p34, List.forall_mem_cons.mpr ⟨lw_p35, List.forall_mem_cons.mpr ⟨lw_p36, List.forall_mem_cons.mpr ⟨lw_p37, List.forall_mem_cons.mpr ⟨lw_p38, List.forall_mem_cons.mpr ⟨lw_p39, List.forall_mem_cons.mpr ⟨lw_p40, List.forall_mem_cons.mpr ⟨lw_p41, List.forall_mem_cons.mpr ⟨lw_p42, fun _ h => absurd h List.not_mem_nil⟩⟩⟩⟩⟩⟩⟩⟩⟩⟩⟩
def lw_privs : List (MethodName × Nat) := lw_privs_1 ++ (lw_privs_2 ++ (lw_privs_3))
def lw_tbl : List Cond := k2_sels lw_privs ++ tables_1
theorem lw_privs_ok : ∀ q ∈ lw_privs, lw_okq q := by
  show ∀ q ∈ lw_privs_1 ++ (lw_privs_2 ++ (lw_privs_3)), lw_okq q
  exact List.forall_mem_append.mpr ⟨lw_r1, List.forall_mem_append.mpr ⟨lw_r2, lw_r3⟩⟩

/-! ===== BEGIN words of one list among another's, by their places ===== -/
theorem goodIn_r {big : List Cond} (ws : List Cond) (ps : List Nat) (hp : ws = ps.filterMap (fun i => big[i]?)) (h : ws.all goodWord = true) : GoodIn big ws := by
  intro w hw
  have h1 := List.all_eq_true.mp h w hw
  rw [hp] at hw
  obtain ⟨i, -, hi⟩ := List.mem_filterMap.mp hw
  have hm : w ∈ big := by first | exact List.mem_of_getElem? hi | exact List.getElem?_mem hi
  exact ⟨hm, good_of_word h1⟩
theorem goodIn_app {big a b : List Cond} (ha : GoodIn big a) (hb : GoodIn big b) : GoodIn big (a ++ b) := fun w h => (List.mem_append.mp h).elim (ha w) (hb w)
theorem goodIn_ca {big a b : List Cond} {c : Cond} (ha : GoodIn big (c :: a)) (hb : GoodIn big b) : GoodIn big (c :: (a ++ b)) := fun w h => (List.mem_cons.mp h).elim (fun e => ha w (List.mem_cons.mpr (Or.inl e))) (fun h => (List.mem_append.mp h).elim (fun h => ha w (List.mem_cons.mpr (Or.inr h))) (hb w))
theorem goodIn_sub {big ws : List Cond} (hm : ∀ w ∈ ws, w ∈ big) (h : ws.all goodWord = true) : GoodIn big ws := fun w hw => ⟨hm w hw, good_of_word (List.all_eq_true.mp h w hw)⟩
/-! ===== END ===== -/

/-! ===== BEGIN exceptions that leave a method, and their catching by the caller (launches without stack traces) ===== -/
section VXA
/-! The laws vx_back, vx_callV, vx_callS, vx_callSW, vx_throw0, vx_throwS follow proofs of the library, with one case more: JvmDerived/Free/Laws.lean (Back.of_free), Shelf42/LK1.lean (callV, callS), Shelf/KitTraced.lean (throwNew0V, throwNewS). -/
/-- where a method has thrown q: the class by its name, the cell, what was written, the world -/
def vx_T (XC : String → State → State → Prop) (st : State) (q : Addr) (t : State) (mc ms : Nat) (free : Addr → Prop) : Prop :=
  ∃ (E : String) (ce : Cell) (L : List Loc), XC E st t ∧ t.heap[q]? = some ce ∧ ce.vm = .none ∧ st.vm.findClass E = some ce.cls ∧ st.WarmedH t.vm ∧ st.sameButNew ({ t with vm := st.vm } : State) L mc ms ∧ ∀ z ∈ L, free z.base
def vx_Q (Qc : Array Value → State → Outcome → State → Prop) (XC : String → State → State → Prop) (mc ms : Nat) (free : Addr → Prop) : Array Value → State → Outcome → State → Prop := fun a st o t =>
  (Qc a st o t ∧ ∃ L, FrameEnd st o t L mc ms ∧ ∀ q ∈ L, free q.base) ∨ ∃ q, o = .threw q ∧ vx_T XC st q t mc ms free
/-- a callee that returns or throws -/
def vx_Met (l : Launch) (y : MethodName) (ws : List Cond) (rm : Room) (Pc : Array Value → State → Prop) (Qc : Array Value → State → Outcome → State → Prop) (XC : String → State → State → Prop) (mc ms : Nat) (free : Addr → Prop) : Prop :=
  MetFree l y (headSpec ws rm) Pc (fun _ _ _ _ _ => True) (vx_Q Qc XC mc ms free)
def vx_Post (XC : String → State → State → Prop) (mc ms : Nat) (free : Addr → Prop) : Pt → Array Value → Addr → Pt → Prop := fun A a q B =>
  ∃ (g : JFrame) (mk : MethodId) (t : State) (L : List Loc) (E : String) (ce : Cell), B.U.heap = t.heap ∧ B.U.vm = t.vm ∧ XC E (A.U.calling g mk a) t ∧ t.heap[q]? = some ce ∧ ce.vm = .none ∧ A.U.vm.findClass E = some ce.cls ∧ B.locs = A.locs ++ L ∧ (∀ z ∈ L, free z.base) ∧ B.cells = A.cells + mc ∧ B.slots = A.slots + ms
def vx_Back (l : Launch) (R : Room) (p : Program) (e : Env) (below : List Frame) (s : State) (sargs : Array Value) (y : MethodName) (len W9 : Nat)
    (Pre : Pt → Array Value → Prop) (Post : Pt → Array Value → Option Value → Pt → Prop) (PostX : Pt → Array Value → Addr → Pt → Prop) : Prop :=
  ∀ (m : MethodId) (meth : Method) (c : Code) (A : Pt) (g : JFrame) (ig : Instr) (mk : MethodId) (a : Array Value),
    Stand p l e R s m sargs below meth c A.U A.locs A.cells A.slots → g.method = m → g.locals.size = c.maxLocals → decode c.code g.pc = .ok (ig, len) →
    2 * g.monitorRoom + (g.stack.map fun v => v.category).sum ≤ W9 → A.U.methodNamed? y = some mk → Pre A a →
    (∃ (v : Option Value) (B : Pt), Stand p l e R s m sargs below meth c B.U B.locs B.cells B.slots ∧ Post A a v B ∧
      Steps p.tables e below (doInvoke e (A.U.setTop g) [] mk a).1 (B.U.setTop { g with pc := g.pc + len, stack := v.toList ++ g.stack })) ∨
    (∃ (q : Addr) (B : Pt), Stand p l e R s m sargs below meth c B.U B.locs B.cells B.slots ∧ PostX A a q B ∧
      Steps p.tables e below (doInvoke e (A.U.setTop g) [] mk a).1 ((B.U.setTop g).pushFrame (.throwing q)))
section Payer
variable {l : Launch} {R : Room} {p : Program} {e : Env} {below : List Frame} {s : State} {sargs : Array Value} {y : MethodName} {len W9 : Nat}
theorem vx_back {ws : List Cond} {rm : Room} {Pc : Array Value → State → Prop} {Qc : Array Value → State → Outcome → State → Prop} {XC : String → State → State → Prop} {mc ms : Nat} {free : Addr → Prop} {bytes : ByteArray} {maxL : Nat} {ret : Option FieldType}
    (hM : vx_Met l y ws rm Pc Qc XC mc ms free) (hblind : FrameBlind Pc) (hrc : rm.cells = mc) (hrs : rm.slots = ms)
    (hframes : rm.frames + 1 ≤ R.frames) (hlocals : W9 + (maxL + 11) + rm.locals ≤ R.locals)
    (hws : ∀ w ∈ ws, ∀ a' U, s.WarmedH U.vm → w.before a' U = true) (hcode : Cond.code y bytes maxL ret ∈ ws) (hinit : ∀ a' U, s.WarmedH U.vm → (Cond.initialized y.cls).before a' U = true) :
    vx_Back l R p e below s sargs y len W9 (PreOf R mc ms Pc) (PostOf Qc mc ms free) (vx_Post XC mc ms free) := by
  intro m meth c A g ig mk a X hg hsize hdg hW hn hp
  have h1 : (headSpec ws rm).pre.before a A.U = true := atoms_intro fun w hw => hws w hw _ _ X.warmed
  have h2 : (Cond.code y bytes maxL ret).before a A.U = true := hws _ hcode _ _ X.warmed
  have h3 : (Cond.initialized y.cls).before a A.U = true := hinit _ _ X.warmed
  have h4 : A.cells + (headSpec ws rm).room.cells ≤ R.cells := by rw [show (headSpec ws rm).room.cells = mc from hrc]; exact hp.1
  have h5 : A.slots + (headSpec ws rm).room.slots ≤ R.slots := by rw [show (headSpec ws rm).room.slots = ms from hrs]; exact hp.2.1
  have hPc : Pc a (A.U.calling g mk a) := hblind _ _ _ _ hp.2.2
  obtain ⟨U, Ls, c0, s0⟩ := A
  dsimp only [Pt.U, Pt.locs, Pt.cells, Pt.slots] at h1 h2 h3 h4 h5 X hn hPc ⊢
  obtain ⟨methY, cY, hmY, hcY, -, hlY, -, -, -, -⟩ := Cond.code_spec hn h2
  obtain ⟨kY, hkY, -⟩ := className_of_methodNamed hn
  have hinitY : kY.init = .initialized := Cond.initialized_spec (findClass_of_methodNamed hn) hkY h3
  have h : At U g.method c below := by rw [hg]; exact X.here
  have hlocals9 : W9 + (maxL + 11) + (headSpec ws rm).room.locals ≤ R.locals := hlocals
  have happ : (headSpec ws rm).appliesLoose y e.platform (U.calling g mk a) = true :=
    Spec.appliesLoose_calling (g := g) h hdg hn hkY hinitY
      (X.room_calling (g := g) (R' := (headSpec ws rm).room) hsize hmY hcY hframes (by rw [hlY]; omega) h4 h5) h1
  obtain ⟨mid, hmid⟩ := h.above
  have hfr : (U.setTop g).frames = (.java g :: mid) ++ below := by rw [State.frames_setTop' g h.top, hmid]; rfl
  obtain ⟨o, s₂, hsteps, -, hend, hq⟩ := Steps.callFree hM p X.admits X.cas X.clock (acts := []) hfr happ hPc trivial
  have hq' : vx_Q Qc XC mc ms free a (U.calling g mk a) o s₂ := hq
  rw [State.frames_setTop' g h.top] at hend
  obtain ⟨g₀, hg0⟩ := Option.isSome_iff_exists.mp h.top
  obtain ⟨r, hr⟩ := State.topJava?_eq_some.mp hg0
  have hr' : (({ U with heap := s₂.heap, slotsUsed := s₂.slotsUsed } : State).setVm s₂.vm).frames = .java g₀ :: r := hr
  rcases hq' with ⟨hqc, L, hfe, hL⟩ | ⟨q, rfl, E, ce, L, hx, hce, hcv, hcl, hW₂, hsm, hL⟩
  · obtain ⟨⟨v, rfl⟩, hW₂, e2, q2, q3, q4, q5, q6⟩ := id hfe
    have e3 : s₂ = ({ (U.calling g mk a).setFrames s₂.frames with heap := s₂.heap, slotsUsed := s₂.slotsUsed } : State).setVm s₂.vm := by
      have : s₂ = ({ s₂ with vm := (U.calling g mk a).vm } : State).setVm s₂.vm := rfl
      rw [e2] at this
      exact this
    obtain ⟨c₂, i₂, len₂, hc₂, hd₂, hf₂⟩ := hend
    have hW' : U.WarmedH s₂.vm := hW₂
    have hcc : c₂ = c := by
      have h1 : s₂.code? g.method = U.code? g.method := by
        rw [State.code?_eq, State.code?_eq, hW'.alike.method?]
      exact Option.some.inj (hc₂.symm.trans (h1.trans h.code))
    subst hcc
    have hlen : len₂ = len := by rw [hdg] at hd₂; cases hd₂; rfl
    subst hlen
    have hs₂ : s₂ = (({ U with heap := s₂.heap, slotsUsed := s₂.slotsUsed } : State).setVm s₂.vm).setTop { g with pc := g.pc + len₂, stack := v.toList ++ g.stack } := by
      refine e3.trans ?_
      rw [hf₂, State.calling_eq h.top, State.setFrames_setFrames, State.setTop_of_frames _ hr', hr]
      rfl
    have hsame : U.sameButNew ({ U with heap := s₂.heap, slotsUsed := s₂.slotsUsed } : State) L mc ms := by
      refine ⟨?_, q2, q3, q4, q5, q6⟩
      obtain ⟨t, ht, -⟩ := State.frames_cons hr
      show ({ U with heap := s₂.heap, slotsUsed := s₂.slotsUsed } : State) = { U.setFrames U.frames with heap := s₂.heap, slotsUsed := s₂.slotsUsed }
      rw [State.setFrames_self ht]
    subst hg
    refine Or.inl ⟨v, ⟨(({ U with heap := s₂.heap, slotsUsed := s₂.slotsUsed } : State).setVm s₂.vm), Ls ++ L, c0 + mc, s0 + ms⟩,
      ⟨X.admits, X.cas, X.clock, X.frames, X.room, X.hears, X.method, X.code, (X.here.setHeapUsed s₂.heap s₂.slotsUsed).setVm hW'.alike, X.tail, State.WarmedH.trans X.warmed hW', X.limits, X.bytes, X.same.trans (hsame.setVm s.vm)⟩,
      ⟨g, mk, s₂, L, rfl, rfl, hqc, rfl, hL, rfl, rfl⟩, ?_⟩
    show Steps p.tables e below _ ((({ U with heap := s₂.heap, slotsUsed := s₂.slotsUsed } : State).setVm s₂.vm).setTop { g with pc := g.pc + len₂, stack := v.toList ++ g.stack })
    rw [← hs₂]
    exact hsteps
  · obtain ⟨e2, q2, q3, q4, q5, q6⟩ := id hsm
    have e3 : s₂ = ({ (U.calling g mk a).setFrames s₂.frames with heap := s₂.heap, slotsUsed := s₂.slotsUsed } : State).setVm s₂.vm := by
      have : s₂ = ({ s₂ with vm := (U.calling g mk a).vm } : State).setVm s₂.vm := rfl
      rw [e2] at this
      exact this
    have hf₂ : s₂.frames = .throwing q :: .java g :: U.frames.tail := hend
    have hW' : U.WarmedH s₂.vm := hW₂
    have hs₂ : s₂ = ((({ U with heap := s₂.heap, slotsUsed := s₂.slotsUsed } : State).setVm s₂.vm).setTop g).pushFrame (.throwing q) := by
      refine e3.trans ?_
      rw [hf₂, State.calling_eq h.top, State.setFrames_setFrames, State.pushFrame, State.frames_setTop _ hr', State.setTop_of_frames _ hr', State.setFrames_setFrames, hr]
      rfl
    have hsame : U.sameButNew ({ U with heap := s₂.heap, slotsUsed := s₂.slotsUsed } : State) L mc ms := by
      refine ⟨?_, q2, q3, q4, q5, q6⟩
      obtain ⟨t, ht, -⟩ := State.frames_cons hr
      show ({ U with heap := s₂.heap, slotsUsed := s₂.slotsUsed } : State) = { U.setFrames U.frames with heap := s₂.heap, slotsUsed := s₂.slotsUsed }
      rw [State.setFrames_self ht]
    subst hg
    refine Or.inr ⟨q, ⟨(({ U with heap := s₂.heap, slotsUsed := s₂.slotsUsed } : State).setVm s₂.vm), Ls ++ L, c0 + mc, s0 + ms⟩,
      ⟨X.admits, X.cas, X.clock, X.frames, X.room, X.hears, X.method, X.code, (X.here.setHeapUsed s₂.heap s₂.slotsUsed).setVm hW'.alike, X.tail, State.WarmedH.trans X.warmed hW', X.limits, X.bytes, X.same.trans (hsame.setVm s.vm)⟩,
      ⟨g, mk, s₂, L, E, ce, rfl, rfl, hx, hce, hcv, hcl, rfl, hL, rfl, rfl⟩, ?_⟩
    show Steps p.tables e below _ (((({ U with heap := s₂.heap, slotsUsed := s₂.slotsUsed } : State).setVm s₂.vm).setTop g).pushFrame (.throwing q))
    rw [← hs₂]
    exact hsteps
end Payer
section Calls
variable {p : Program} {l : Launch} {e : Env} {R : Room} {s : State} {m : MethodId} {args : Array Value} {below : List Frame} {meth : Method} {c : Code} {T : State} {locs : List Loc} {cells slots : Nat}
theorem vx_callV (X : Stand p l e R s m args below meth c T locs cells slots) (hexec : p.tables.exec = Jvm.exec) {own C : String} {index : Nat} {y : MethodName} {bytes : ByteArray} {maxL : Nat} {ret : Option FieldType}
    (hown : s.vm.findClass own = some m.cls) (hlink : (Cond.methodLink own index y).before args s = true) (hinst : (Cond.instanceMethod y).before args s = true) (hsel : (Cond.selects C y y).before args s = true)
    (hcode : (Cond.code y bytes maxL ret).before args s = true) (hy : y.cls ≠ "java/lang/invoke/MethodHandle" ∧ y.cls ≠ "java/lang/invoke/VarHandle")
    {W9 : Nat} {Pre : Pt → Array Value → Prop} {Post : Pt → Array Value → Option Value → Pt → Prop} {PostX : Pt → Array Value → Addr → Pt → Prop} (hK : vx_Back l R p e below s args y 3 W9 Pre Post PostX)
    {b : Addr} {cellB : Cell} (hcell : T.heap[b]? = some cellB) (hobj : cellB.vm.isStatics = false) (hcls : s.vm.findClass C = some cellB.cls)
    {g : JFrame} (hg : g.method = m) (hsize : g.locals.size = c.maxLocals) {argsL rest : List Value} (hlen : ∀ sig, parseMethodDescriptor y.desc = some sig → argsL.length = sig.parameters.length)
    (hstack : g.stack = argsL.reverse ++ .ref b :: rest) (hW : 2 * g.monitorRoom + (rest.map fun v => v.category).sum ≤ W9) (hdg : decode c.code g.pc = .ok (.invokevirtual index, 3))
    (hpre : ∀ vm₁, s.WarmedH vm₁ → Pre ⟨T.setVm vm₁, locs, cells, slots⟩ (Value.ref b :: argsL).toArray) :
    (∃ (v : Option Value) (vm₁ : Vm) (B : Pt), s.WarmedH vm₁ ∧ Stand p l e R s m args below meth c B.U B.locs B.cells B.slots ∧ Post ⟨T.setVm vm₁, locs, cells, slots⟩ (Value.ref b :: argsL).toArray v B ∧
      ∀ target, Steps p.tables e below (B.U.setTop { g with pc := g.pc + 3, stack := v.toList ++ rest }) target → Steps p.tables e below (T.setTop g) target) ∨
    (∃ (q : Addr) (vm₁ : Vm) (B : Pt), s.WarmedH vm₁ ∧ Stand p l e R s m args below meth c B.U B.locs B.cells B.slots ∧ PostX ⟨T.setVm vm₁, locs, cells, slots⟩ (Value.ref b :: argsL).toArray q B ∧
      Steps p.tables e below (T.setTop g) ((B.U.setTop { g with stack := rest }).pushFrame (.throwing q))) := by
  obtain ⟨mk, methM, hnamed, hmethM, hstM, habM⟩ := Cond.instanceMethod_spec hinst
  obtain ⟨methM', cM, hmethM', -, -, -, -, -, -, hsigM⟩ := Cond.code_spec hnamed hcode
  cases hmethM.symm.trans hmethM'
  obtain ⟨c2, r2, m2, q1, q2, q3, q4, kP, hkP, hkPi⟩ := Cond.selects_spec hsel
  cases hcls.symm.trans q1
  cases (State.methodFound?_of_named hnamed hy).symm.trans q2
  cases hnamed.symm.trans q3
  have hselP : selectMethod e.platform s.vm cellB.cls mk = .method mk := by rw [Launch.admits_selectMethod X.admits]; exact q4
  obtain ⟨vm₁, X₁, hstep₁⟩ := X.invokevirtual hexec hown hlink hnamed hmethM hstM hkP hkPi hy (a := b) (cell := cellB) hcell
    (fun z h => by rw [h] at hobj; cases hobj) hselP hmethM habM hkP hkPi (g := g) hg (argsL := argsL) (rest := rest) (hlen _ hsigM) hstack hdg
  rcases hK m meth c ⟨T.setVm vm₁, locs, cells, slots⟩ { g with stack := rest } (.invokevirtual index) mk (Value.ref b :: argsL).toArray X₁ hg hsize hdg hW (X₁.named hnamed) (hpre vm₁ X₁.warmed) with ⟨v, B, X', hpost, hsteps⟩ | ⟨q, B, X', hpost, hsteps⟩
  · exact Or.inl ⟨v, vm₁, B, X₁.warmed, X', hpost, fun target h => hstep₁ _ fun acts => by rw [doInvoke_state]; exact hsteps.trans h⟩
  · exact Or.inr ⟨q, vm₁, B, X₁.warmed, X', hpost, hstep₁ _ fun acts => by rw [doInvoke_state]; exact hsteps⟩
theorem vx_callS (X : Stand p l e R s m args below meth c T locs cells slots) (hexec : p.tables.exec = Jvm.exec) {own : String} {index : Nat} {y : MethodName} {bytes : ByteArray} {maxL : Nat} {ret : Option FieldType}
    (hown : s.vm.findClass own = some m.cls) (hlink : (Cond.methodLink own index y).before args s = true) (hstat : (Cond.static y).before args s = true) (hinit : (Cond.initialized y.cls).before args s = true)
    (hcode : (Cond.code y bytes maxL ret).before args s = true) (hy : y.cls ≠ "java/lang/invoke/MethodHandle" ∧ y.cls ≠ "java/lang/invoke/VarHandle")
    {W9 : Nat} {Pre : Pt → Array Value → Prop} {Post : Pt → Array Value → Option Value → Pt → Prop} {PostX : Pt → Array Value → Addr → Pt → Prop} (hK : vx_Back l R p e below s args y 3 W9 Pre Post PostX)
    {g : JFrame} (hg : g.method = m) (hsize : g.locals.size = c.maxLocals) {argsL rest : List Value} (hlen : ∀ sig, parseMethodDescriptor y.desc = some sig → argsL.length = sig.parameters.length)
    (hstack : g.stack = argsL.reverse ++ rest) (hW : 2 * g.monitorRoom + (rest.map fun v => v.category).sum ≤ W9) (hdg : decode c.code g.pc = .ok (.invokestatic index, 3))
    (hpre : ∀ vm₁, s.WarmedH vm₁ → Pre ⟨T.setVm vm₁, locs, cells, slots⟩ argsL.toArray) :
    (∃ (v : Option Value) (vm₁ : Vm) (B : Pt), s.WarmedH vm₁ ∧ Stand p l e R s m args below meth c B.U B.locs B.cells B.slots ∧ Post ⟨T.setVm vm₁, locs, cells, slots⟩ argsL.toArray v B ∧
      ∀ target, Steps p.tables e below (B.U.setTop { g with pc := g.pc + 3, stack := v.toList ++ rest }) target → Steps p.tables e below (T.setTop g) target) ∨
    (∃ (q : Addr) (vm₁ : Vm) (B : Pt), s.WarmedH vm₁ ∧ Stand p l e R s m args below meth c B.U B.locs B.cells B.slots ∧ PostX ⟨T.setVm vm₁, locs, cells, slots⟩ argsL.toArray q B ∧
      Steps p.tables e below (T.setTop g) ((B.U.setTop { g with stack := rest }).pushFrame (.throwing q))) := by
  obtain ⟨mk, hnamed⟩ := Cond.code_named hcode
  obtain ⟨methM, cM, hmethM, -, -, -, -, -, -, hsigM⟩ := Cond.code_spec hnamed hcode
  have hstatic : methM.isStatic = true := Cond.static_spec hnamed hmethM hstat
  obtain ⟨kP, hkP, -⟩ := className_of_methodNamed hnamed
  have hinitP : kP.init = .initialized := Cond.initialized_spec (findClass_of_methodNamed hnamed) hkP hinit
  obtain ⟨vm₁, X₁, hstep₁⟩ := X.invokestatic hexec hown hlink hnamed hmethM hstatic hkP hinitP hy (g := g) hg (argsL := argsL) (rest := rest) (hlen _ hsigM) hstack hdg
  rcases hK m meth c ⟨T.setVm vm₁, locs, cells, slots⟩ { g with stack := rest } (.invokestatic index) mk argsL.toArray X₁ hg hsize hdg hW (X₁.named hnamed) (hpre vm₁ X₁.warmed) with ⟨v, B, X', hpost, hsteps⟩ | ⟨q, B, X', hpost, hsteps⟩
  · exact Or.inl ⟨v, vm₁, B, X₁.warmed, X', hpost, fun target h => hstep₁ _ fun acts => by rw [doInvoke_state]; exact hsteps.trans h⟩
  · exact Or.inr ⟨q, vm₁, B, X₁.warmed, X', hpost, hstep₁ _ fun acts => by rw [doInvoke_state]; exact hsteps⟩
end Calls
theorem vx_cls {s : State} {T : State} {vm₁ : Vm} {E : String} {k : ClassId} (hW : s.WarmedH vm₁) (h : (T.setVm vm₁).vm.findClass E = some k) : s.vm.findClass E = some k := by
  have h1 : vm₁.findClass E = some k := h
  rw [hW.alike.findClass] at h1
  exact h1
/-- the method's frame g, with q thrown over it -/
def vx_W (p : Program) (l : Launch) (e : Env) (R : Room) (s : State) (m : MethodId) (args : Array Value) (below : List Frame) (meth : Method) (c : Code) (H : Heap) (locs : List Loc) (cells slots : Nat) (Q : State → Prop) (g : JFrame) (q : Addr) : Prop :=
  ∀ T : State, T.heap = H → Stand p l e R s m args below meth c T locs cells slots → ∃ t, Steps p.tables e below ((T.setTop g).pushFrame (.throwing q)) t ∧ Q t
def vx_Run (p : Program) (l : Launch) (e : Env) (R : Room) (s : State) (m : MethodId) (args : Array Value) (below : List Frame) (meth : Method) (c : Code) (H : Heap) (locs : List Loc) (cells slots mc ms : Nat) (g : JFrame) (rest : List Value) (Qa : State → Outcome → State → Prop) (XC : String → State → State → Prop) (free : Addr → Prop) : Prop :=
  ∀ T : State, T.heap = H → Stand p l e R s m args below meth c T locs cells slots →
    (∃ (v : Option Value) (st₀ t T' : State) (L : List Loc), st₀.heap = H ∧ Stand p l e R s m args below meth c T' (locs ++ L) (cells + mc) (slots + ms) ∧ (∀ q ∈ L, free q.base) ∧ T'.heap = t.heap ∧ T'.vm = t.vm ∧ Qa st₀ (.returned v) t ∧
      Goes p e below T g T' { g with pc := g.pc + 3, stack := v.toList ++ rest }) ∨
    (∃ (q : Addr) (st₀ t T' : State) (L : List Loc) (E : String) (ce : Cell), st₀.heap = H ∧ Stand p l e R s m args below meth c T' (locs ++ L) (cells + mc) (slots + ms) ∧ (∀ z ∈ L, free z.base) ∧ T'.heap = t.heap ∧ T'.vm = t.vm ∧ XC E st₀ t ∧ t.heap[q]? = some ce ∧ ce.vm = .none ∧ s.vm.findClass E = some ce.cls ∧
      Steps p.tables e below (T.setTop g) ((T'.setTop { g with stack := rest }).pushFrame (.throwing q)))
def vx_X {S : Type} (px : S → Prop) (B : String → S → State → Prop) (A : Nat → Prop) : String → State → State → Prop := fun E st t => ∃ u : S, px u ∧ B E u t ∧ va_F A st t
section Runs
variable {p : Program} {l : Launch} {e : Env} {R : Room} {s : State} {m : MethodId} {args : Array Value} {below : List Frame} {meth : Method} {c : Code} {H : Heap} {locs : List Loc} {cells slots : Nat}
variable {y : MethodName} {bytes cc : ByteArray} {maxL nL mc ms n index : Nat} {ret : Option FieldType} {ws : List Cond} {rm : Room} {Pc : Array Value → State → Prop} {Qc : Array Value → State → Outcome → State → Prop} {XC : String → State → State → Prop} {free : Addr → Prop} {Ts : List Cond} {own C : String} {b : Addr} {As rest : List Value} {g : JFrame}
theorem vx_callBack (cb : CallB R s args own index y bytes maxL ret ws rm mc ms n) (hM : vx_Met l y ws rm Pc Qc XC mc ms free) (hbl : FrameBlind Pc) : vx_Back l R p e below s args y 3 8 (PreOf R mc ms Pc) (PostOf Qc mc ms free) (vx_Post XC mc ms free) := by
  obtain ⟨hrc, hrs, hfr, hlo, hws, hcw, -, hini, -⟩ := cb
  exact vx_back (bytes := bytes) (maxL := maxL) (ret := ret) hM hbl hrc hrs hfr hlo hws hcw (fun a' U hW => word_at hW (Or.inl (by first | rfl | simp [Cond.onTables, Cond.keeps, Cond.steady])) hini)
theorem vx_runV (S : CallFix p m c cc nL s args Ts own) (hM : vx_Met l y ws rm Pc Qc XC mc ms free) (cw : CallW R s args own C index y bytes maxL ret ws rm mc ms n) (hp : PreV s H C b Pc As)
    (hg : g.method = m) (hn : As.length = n) (hsize : g.locals.size = nL) (hstack : g.stack = As.reverse ++ .ref b :: rest) (hW : 2 * g.monitorRoom + (rest.map fun v => v.category).sum ≤ 8) (hdg : decode cc g.pc = .ok (.invokevirtual index, 3)) (hf : cells + mc ≤ R.cells ∧ slots + ms ≤ R.slots) :
    vx_Run p l e R s m args below meth c H locs cells slots mc ms g rest (Qc (Value.ref b :: As).toArray) XC free := by
  have hK : vx_Back l R p e below s args y 3 8 (PreOf R mc ms Pc) (PostOf Qc mc ms free) (vx_Post XC mc ms free) := vx_callBack cw.1 hM hp.1
  obtain ⟨⟨-, -, -, -, -, -, hcode, -, hy, hlen, hl⟩, hin, hse⟩ := cw
  obtain ⟨hx, hb, hml, ho, -⟩ := S
  obtain ⟨-, ⟨cellB, hcB, hoB, hclB⟩, hPc⟩ := hp
  intro T hT X
  rcases vx_callV X hx (C := C) (bytes := bytes) (maxL := maxL) (ret := ret) ho hl hin hse hcode hy hK (by rw [hT]; exact hcB) hoB hclB hg (hsize.trans hml.symm) (argsL := As) (rest := rest) (fun sig h => hn.trans (hlen sig h)) hstack hW (by rw [hb]; exact hdg)
    (fun vm₁ hW₁ => ⟨hf.1, hf.2, hPc (T.setVm vm₁) hT hW₁⟩) with ⟨v, vm₁, ⟨U', l2, c2, s2⟩, hW₁, X', ⟨g', mk, t, L, e1, e2, hq, h1, hL, h2, h3⟩, st⟩ | ⟨q, vm₁, ⟨U', l2, c2, s2⟩, hW₁, X', ⟨g', mk, t, L, E, ce, e1, e2, hq, hce, hcv, hcl, h1, hL, h2, h3⟩, st⟩
  · dsimp only [Pt.U, Pt.locs, Pt.cells, Pt.slots] at X' e1 e2 h1 h2 h3 st
    subst h1; subst h2; subst h3
    exact Or.inl ⟨v, (T.setVm vm₁).calling g' mk (Value.ref b :: As).toArray, t, U', L, hT, X', hL, e1, e2, hq, st⟩
  · dsimp only [Pt.U, Pt.locs, Pt.cells, Pt.slots] at X' e1 e2 h1 h2 h3 st hcl
    subst h1; subst h2; subst h3
    exact Or.inr ⟨q, (T.setVm vm₁).calling g' mk (Value.ref b :: As).toArray, t, U', L, E, ce, hT, X', hL, e1, e2, hq, hce, hcv, vx_cls hW₁ hcl, st⟩
theorem vx_runS (S : CallFix p m c cc nL s args Ts own) (hM : vx_Met l y ws rm Pc Qc XC mc ms free) (cw : CallB R s args own index y bytes maxL ret ws rm mc ms n ∧ (Cond.static y).before args s = true) (hp : PreS s H Pc As)
    (hg : g.method = m) (hn : As.length = n) (hsize : g.locals.size = nL) (hstack : g.stack = As.reverse ++ rest) (hW : 2 * g.monitorRoom + (rest.map fun v => v.category).sum ≤ 8) (hdg : decode cc g.pc = .ok (.invokestatic index, 3)) (hf : cells + mc ≤ R.cells ∧ slots + ms ≤ R.slots) :
    vx_Run p l e R s m args below meth c H locs cells slots mc ms g rest (Qc As.toArray) XC free := by
  have hK : vx_Back l R p e below s args y 3 8 (PreOf R mc ms Pc) (PostOf Qc mc ms free) (vx_Post XC mc ms free) := vx_callBack cw.1 hM hp.1
  obtain ⟨⟨-, -, -, -, -, -, hcode, hini, hy, hlen, hl⟩, hstt⟩ := cw
  obtain ⟨hx, hb, hml, ho, -⟩ := S
  intro T hT X
  rcases vx_callS X hx (bytes := bytes) (maxL := maxL) (ret := ret) ho hl hstt hini hcode hy hK hg (hsize.trans hml.symm) (argsL := As) (rest := rest) (fun sig h => hn.trans (hlen sig h)) hstack hW (by rw [hb]; exact hdg)
    (fun vm₁ hW₁ => ⟨hf.1, hf.2, hp.2 (T.setVm vm₁) hT hW₁⟩) with ⟨v, vm₁, ⟨U', l2, c2, s2⟩, hW₁, X', ⟨g', mk, t, L, e1, e2, hq, h1, hL, h2, h3⟩, st⟩ | ⟨q, vm₁, ⟨U', l2, c2, s2⟩, hW₁, X', ⟨g', mk, t, L, E, ce, e1, e2, hq, hce, hcv, hcl, h1, hL, h2, h3⟩, st⟩
  · dsimp only [Pt.U, Pt.locs, Pt.cells, Pt.slots] at X' e1 e2 h1 h2 h3 st
    subst h1; subst h2; subst h3
    exact Or.inl ⟨v, (T.setVm vm₁).calling g' mk As.toArray, t, U', L, hT, X', hL, e1, e2, hq, st⟩
  · dsimp only [Pt.U, Pt.locs, Pt.cells, Pt.slots] at X' e1 e2 h1 h2 h3 st hcl
    subst h1; subst h2; subst h3
    exact Or.inr ⟨q, (T.setVm vm₁).calling g' mk As.toArray, t, U', L, E, ce, hT, X', hL, e1, e2, hq, hce, hcv, vx_cls hW₁ hcl, st⟩
end Runs
section Rows
variable {p : Program} {l : Launch} {e : Env} {R : Room} {s : State} {m : MethodId} {args : Array Value} {below : List Frame} {meth : Method} {c : Code} {H : Heap} {locs : List Loc} {cells slots : Nat} {Q : State → Prop}
variable {mc ms : Nat} {free : Addr → Prop} {A0 A1 : Nat → Prop} {H0 : Heap} {a : Array Value} {pc : Nat} {ls : Array Slot} {st0 rest : List Value}
theorem vx_keep {st₀ t T' : State} {L : List Loc} (h0 : st₀.heap = H) (e1 : T'.heap = t.heap) (hS : va_S A0 H0 H locs) (hA : ∀ q, q < H.size → A1 q → A0 q) (hf : ∀ q, free q → A0 q) (hL : ∀ q ∈ L, free q.base) (hF : va_F A1 st₀ t) :
    H.size ≤ T'.heap.size ∧ (∀ q : Nat, q < H.size → ¬ A1 q → T'.heap[q]? = H[q]?) ∧ va_S A0 H0 T'.heap (locs ++ L) := by
  obtain ⟨hz, hk⟩ := hF
  rw [h0] at hz hk
  exact ⟨by rw [e1]; exact hz, fun q h1 h2 => by rw [e1]; exact hk q h1 h2,
    ⟨Nat.le_trans hS.1 (by rw [e1]; exact hz), fun q h1 h2 => by rw [e1, hk q (Nat.lt_of_lt_of_le h1 hS.1) (fun z => h2 (hA q (Nat.lt_of_lt_of_le h1 hS.1) z))]; exact hS.2.1 q h1 h2, fun q hq => by
      rcases List.mem_append.mp hq with h | h
      · exact hS.2.2 q h
      · exact hf _ (hL q h)⟩⟩
theorem vx_calli {S SX : Type} {post : Int32 → S → Prop} {px : SX → Prop} {B : S → State → Prop} {BX : String → SX → State → Prop} {AX : Nat → Prop} (hr : vx_Run p l e R s m args below meth c H locs cells slots mc ms (F0 m pc ls st0) rest (va_Qi post B A1 a) (vx_X px BX AX) free) (hS : va_S A0 H0 H locs) (hA : ∀ q, q < H.size → A1 q → A0 q) (hf : ∀ q, free q → A0 q) (hAX : ∀ q, q < H.size → AX q → A0 q)
    (kx : ∀ (E : String) (ce : Cell) (q9 : Addr) (u : SX) (t : State) (H1 : Heap) (locs1 : List Loc), t.heap = H1 → s.vm.Alike t.vm → px u → BX E u t → H.size ≤ H1.size → (∀ q : Nat, q < H.size → ¬ AX q → H1[q]? = H[q]?) → va_S A0 H0 H1 locs1 → H1[q9]? = some ce → ce.vm = .none → s.vm.findClass E = some ce.cls → vx_W p l e R s m args below meth c H1 locs1 (cells + mc) (slots + ms) Q (F0 m pc ls rest) q9)
    (kk : ∀ (r : Int32) (u : S) (t : State) (H1 : Heap) (locs1 : List Loc), t.heap = H1 → s.vm.Alike t.vm → post r u → B u t → H.size ≤ H1.size → (∀ q : Nat, q < H.size → ¬ A1 q → H1[q]? = H[q]?) → va_S A0 H0 H1 locs1 → W p l e R s m args below meth c H1 locs1 (cells + mc) (slots + ms) Q (F0 m (pc + 3) ls (.int r :: rest))) : W p l e R s m args below meth c H locs cells slots Q (F0 m pc ls st0) := by
  intro T hT X
  rcases hr T hT X with ⟨v, st₀, t, T', L, h0, X', hL, e1, e2, ⟨⟨r, u, hv, hp, hb⟩, hF⟩, st⟩ | ⟨q, st₀, t, T', L, E, ce, h0, X', hL, e1, e2, ⟨u, hp, hb, hF⟩, hce, hcv, hcl, st⟩
  · cases hv
    obtain ⟨k1, k2, k3⟩ := vx_keep h0 e1 hS hA hf hL hF
    obtain ⟨t2, a1, b1⟩ := kk r u t T'.heap (locs ++ L) e1.symm (by rw [← e2]; exact X'.warmed.alike) hp hb k1 k2 k3 T' rfl X'
    exact ⟨t2, st t2 a1, b1⟩
  · obtain ⟨k1, k2, k3⟩ := vx_keep h0 e1 hS hAX hf hL hF
    obtain ⟨t2, a1, b1⟩ := kx E ce q u t T'.heap (locs ++ L) e1.symm (by rw [← e2]; exact X'.warmed.alike) hp hb k1 k2 k3 (by rw [e1]; exact hce) hcv hcl T' rfl X'
    exact ⟨t2, st.trans a1, b1⟩
theorem vx_calll {S SX : Type} {post : Int64 → S → Prop} {px : SX → Prop} {B : S → State → Prop} {BX : String → SX → State → Prop} {AX : Nat → Prop} (hr : vx_Run p l e R s m args below meth c H locs cells slots mc ms (F0 m pc ls st0) rest (va_Ql post B A1 a) (vx_X px BX AX) free) (hS : va_S A0 H0 H locs) (hA : ∀ q, q < H.size → A1 q → A0 q) (hf : ∀ q, free q → A0 q) (hAX : ∀ q, q < H.size → AX q → A0 q)
    (kx : ∀ (E : String) (ce : Cell) (q9 : Addr) (u : SX) (t : State) (H1 : Heap) (locs1 : List Loc), t.heap = H1 → s.vm.Alike t.vm → px u → BX E u t → H.size ≤ H1.size → (∀ q : Nat, q < H.size → ¬ AX q → H1[q]? = H[q]?) → va_S A0 H0 H1 locs1 → H1[q9]? = some ce → ce.vm = .none → s.vm.findClass E = some ce.cls → vx_W p l e R s m args below meth c H1 locs1 (cells + mc) (slots + ms) Q (F0 m pc ls rest) q9)
    (kk : ∀ (r : Int64) (u : S) (t : State) (H1 : Heap) (locs1 : List Loc), t.heap = H1 → s.vm.Alike t.vm → post r u → B u t → H.size ≤ H1.size → (∀ q : Nat, q < H.size → ¬ A1 q → H1[q]? = H[q]?) → va_S A0 H0 H1 locs1 → W p l e R s m args below meth c H1 locs1 (cells + mc) (slots + ms) Q (F0 m (pc + 3) ls (.long r :: rest))) : W p l e R s m args below meth c H locs cells slots Q (F0 m pc ls st0) := by
  intro T hT X
  rcases hr T hT X with ⟨v, st₀, t, T', L, h0, X', hL, e1, e2, ⟨⟨r, u, hv, hp, hb⟩, hF⟩, st⟩ | ⟨q, st₀, t, T', L, E, ce, h0, X', hL, e1, e2, ⟨u, hp, hb, hF⟩, hce, hcv, hcl, st⟩
  · cases hv
    obtain ⟨k1, k2, k3⟩ := vx_keep h0 e1 hS hA hf hL hF
    obtain ⟨t2, a1, b1⟩ := kk r u t T'.heap (locs ++ L) e1.symm (by rw [← e2]; exact X'.warmed.alike) hp hb k1 k2 k3 T' rfl X'
    exact ⟨t2, st t2 a1, b1⟩
  · obtain ⟨k1, k2, k3⟩ := vx_keep h0 e1 hS hAX hf hL hF
    obtain ⟨t2, a1, b1⟩ := kx E ce q u t T'.heap (locs ++ L) e1.symm (by rw [← e2]; exact X'.warmed.alike) hp hb k1 k2 k3 (by rw [e1]; exact hce) hcv hcl T' rfl X'
    exact ⟨t2, st.trans a1, b1⟩
theorem vx_callf {S SX : Type} {post : UInt32 → S → Prop} {px : SX → Prop} {B : S → State → Prop} {BX : String → SX → State → Prop} {AX : Nat → Prop} (hr : vx_Run p l e R s m args below meth c H locs cells slots mc ms (F0 m pc ls st0) rest (va_Qf post B A1 a) (vx_X px BX AX) free) (hS : va_S A0 H0 H locs) (hA : ∀ q, q < H.size → A1 q → A0 q) (hf : ∀ q, free q → A0 q) (hAX : ∀ q, q < H.size → AX q → A0 q)
    (kx : ∀ (E : String) (ce : Cell) (q9 : Addr) (u : SX) (t : State) (H1 : Heap) (locs1 : List Loc), t.heap = H1 → s.vm.Alike t.vm → px u → BX E u t → H.size ≤ H1.size → (∀ q : Nat, q < H.size → ¬ AX q → H1[q]? = H[q]?) → va_S A0 H0 H1 locs1 → H1[q9]? = some ce → ce.vm = .none → s.vm.findClass E = some ce.cls → vx_W p l e R s m args below meth c H1 locs1 (cells + mc) (slots + ms) Q (F0 m pc ls rest) q9)
    (kk : ∀ (r : UInt32) (u : S) (t : State) (H1 : Heap) (locs1 : List Loc), t.heap = H1 → s.vm.Alike t.vm → post r u → B u t → H.size ≤ H1.size → (∀ q : Nat, q < H.size → ¬ A1 q → H1[q]? = H[q]?) → va_S A0 H0 H1 locs1 → W p l e R s m args below meth c H1 locs1 (cells + mc) (slots + ms) Q (F0 m (pc + 3) ls (.float r :: rest))) : W p l e R s m args below meth c H locs cells slots Q (F0 m pc ls st0) := by
  intro T hT X
  rcases hr T hT X with ⟨v, st₀, t, T', L, h0, X', hL, e1, e2, ⟨⟨r, u, hv, hp, hb⟩, hF⟩, st⟩ | ⟨q, st₀, t, T', L, E, ce, h0, X', hL, e1, e2, ⟨u, hp, hb, hF⟩, hce, hcv, hcl, st⟩
  · cases hv
    obtain ⟨k1, k2, k3⟩ := vx_keep h0 e1 hS hA hf hL hF
    obtain ⟨t2, a1, b1⟩ := kk r u t T'.heap (locs ++ L) e1.symm (by rw [← e2]; exact X'.warmed.alike) hp hb k1 k2 k3 T' rfl X'
    exact ⟨t2, st t2 a1, b1⟩
  · obtain ⟨k1, k2, k3⟩ := vx_keep h0 e1 hS hAX hf hL hF
    obtain ⟨t2, a1, b1⟩ := kx E ce q u t T'.heap (locs ++ L) e1.symm (by rw [← e2]; exact X'.warmed.alike) hp hb k1 k2 k3 (by rw [e1]; exact hce) hcv hcl T' rfl X'
    exact ⟨t2, st.trans a1, b1⟩
theorem vx_calld {S SX : Type} {post : UInt64 → S → Prop} {px : SX → Prop} {B : S → State → Prop} {BX : String → SX → State → Prop} {AX : Nat → Prop} (hr : vx_Run p l e R s m args below meth c H locs cells slots mc ms (F0 m pc ls st0) rest (va_Qd post B A1 a) (vx_X px BX AX) free) (hS : va_S A0 H0 H locs) (hA : ∀ q, q < H.size → A1 q → A0 q) (hf : ∀ q, free q → A0 q) (hAX : ∀ q, q < H.size → AX q → A0 q)
    (kx : ∀ (E : String) (ce : Cell) (q9 : Addr) (u : SX) (t : State) (H1 : Heap) (locs1 : List Loc), t.heap = H1 → s.vm.Alike t.vm → px u → BX E u t → H.size ≤ H1.size → (∀ q : Nat, q < H.size → ¬ AX q → H1[q]? = H[q]?) → va_S A0 H0 H1 locs1 → H1[q9]? = some ce → ce.vm = .none → s.vm.findClass E = some ce.cls → vx_W p l e R s m args below meth c H1 locs1 (cells + mc) (slots + ms) Q (F0 m pc ls rest) q9)
    (kk : ∀ (r : UInt64) (u : S) (t : State) (H1 : Heap) (locs1 : List Loc), t.heap = H1 → s.vm.Alike t.vm → post r u → B u t → H.size ≤ H1.size → (∀ q : Nat, q < H.size → ¬ A1 q → H1[q]? = H[q]?) → va_S A0 H0 H1 locs1 → W p l e R s m args below meth c H1 locs1 (cells + mc) (slots + ms) Q (F0 m (pc + 3) ls (.double r :: rest))) : W p l e R s m args below meth c H locs cells slots Q (F0 m pc ls st0) := by
  intro T hT X
  rcases hr T hT X with ⟨v, st₀, t, T', L, h0, X', hL, e1, e2, ⟨⟨r, u, hv, hp, hb⟩, hF⟩, st⟩ | ⟨q, st₀, t, T', L, E, ce, h0, X', hL, e1, e2, ⟨u, hp, hb, hF⟩, hce, hcv, hcl, st⟩
  · cases hv
    obtain ⟨k1, k2, k3⟩ := vx_keep h0 e1 hS hA hf hL hF
    obtain ⟨t2, a1, b1⟩ := kk r u t T'.heap (locs ++ L) e1.symm (by rw [← e2]; exact X'.warmed.alike) hp hb k1 k2 k3 T' rfl X'
    exact ⟨t2, st t2 a1, b1⟩
  · obtain ⟨k1, k2, k3⟩ := vx_keep h0 e1 hS hAX hf hL hF
    obtain ⟨t2, a1, b1⟩ := kx E ce q u t T'.heap (locs ++ L) e1.symm (by rw [← e2]; exact X'.warmed.alike) hp hb k1 k2 k3 (by rw [e1]; exact hce) hcv hcl T' rfl X'
    exact ⟨t2, st.trans a1, b1⟩
theorem vx_callv {S SX : Type} {post : S → Prop} {px : SX → Prop} {B : S → State → Prop} {BX : String → SX → State → Prop} {AX : Nat → Prop} (hr : vx_Run p l e R s m args below meth c H locs cells slots mc ms (F0 m pc ls st0) rest (va_Qv post B A1 a) (vx_X px BX AX) free) (hS : va_S A0 H0 H locs) (hA : ∀ q, q < H.size → A1 q → A0 q) (hf : ∀ q, free q → A0 q) (hAX : ∀ q, q < H.size → AX q → A0 q)
    (kx : ∀ (E : String) (ce : Cell) (q9 : Addr) (u : SX) (t : State) (H1 : Heap) (locs1 : List Loc), t.heap = H1 → s.vm.Alike t.vm → px u → BX E u t → H.size ≤ H1.size → (∀ q : Nat, q < H.size → ¬ AX q → H1[q]? = H[q]?) → va_S A0 H0 H1 locs1 → H1[q9]? = some ce → ce.vm = .none → s.vm.findClass E = some ce.cls → vx_W p l e R s m args below meth c H1 locs1 (cells + mc) (slots + ms) Q (F0 m pc ls rest) q9)
    (kk : ∀ (u : S) (t : State) (H1 : Heap) (locs1 : List Loc), t.heap = H1 → s.vm.Alike t.vm → post u → B u t → H.size ≤ H1.size → (∀ q : Nat, q < H.size → ¬ A1 q → H1[q]? = H[q]?) → va_S A0 H0 H1 locs1 → W p l e R s m args below meth c H1 locs1 (cells + mc) (slots + ms) Q (F0 m (pc + 3) ls (rest))) : W p l e R s m args below meth c H locs cells slots Q (F0 m pc ls st0) := by
  intro T hT X
  rcases hr T hT X with ⟨v, st₀, t, T', L, h0, X', hL, e1, e2, ⟨⟨u, hv, hp, hb⟩, hF⟩, st⟩ | ⟨q, st₀, t, T', L, E, ce, h0, X', hL, e1, e2, ⟨u, hp, hb, hF⟩, hce, hcv, hcl, st⟩
  · cases hv
    obtain ⟨k1, k2, k3⟩ := vx_keep h0 e1 hS hA hf hL hF
    obtain ⟨t2, a1, b1⟩ := kk u t T'.heap (locs ++ L) e1.symm (by rw [← e2]; exact X'.warmed.alike) hp hb k1 k2 k3 T' rfl X'
    exact ⟨t2, st t2 a1, b1⟩
  · obtain ⟨k1, k2, k3⟩ := vx_keep h0 e1 hS hAX hf hL hF
    obtain ⟨t2, a1, b1⟩ := kx E ce q u t T'.heap (locs ++ L) e1.symm (by rw [← e2]; exact X'.warmed.alike) hp hb k1 k2 k3 (by rw [e1]; exact hce) hcv hcl T' rfl X'
    exact ⟨t2, st.trans a1, b1⟩
/-- caught by the row x of this method's table; the rows ahead don't take it -/
theorem vx_catch {own name : String} {E : String} {ce : Cell} {q : Addr} (hown : s.vm.findClass own = some m.cls) (pre : List ExceptionTableEntry) (x : ExceptionTableEntry) (suf : List ExceptionTableEntry) (hsplit : c.exceptionTable.toList = pre ++ x :: suf)
    (hpass : ∀ z ∈ pre, covers z pc = false ∨ (z.catchType ≠ 0 ∧ ∃ nm : String, (Cond.classLink own z.catchType nm).before args s = true ∧ va_Nc E nm s)) (hx : covers x pc = true) (h0 : x.catchType ≠ 0)
    (hlink : (Cond.classLink own x.catchType name).before args s = true) (hcast : (Cond.castable E name).before args s = true) (hcell : H[q]? = some ce) (hv : ce.vm = .none) (hcl : s.vm.findClass E = some ce.cls)
    (kk : W p l e R s m args below meth c H locs cells slots Q (F0 m x.handlerPc ls [.ref q])) : vx_W p l e R s m args below meth c H locs cells slots Q (F0 m pc ls rest) q := by
  intro T hT X
  have hpl : e.platform.magicAccessors = ({} : Platform).magicAccessors := by rw [X.admits.platform]
  obtain ⟨c3, c4, hc3, hc4, hasg⟩ := Cond.castable_spec hcast
  cases Option.some.inj (hc3.symm.trans hcl)
  obtain ⟨c5, hc5, hcl5⟩ := Cond.classLink_spec hown hlink e.platform hpl
  cases Option.some.inj (hc4.symm.trans hc5)
  obtain ⟨vm', X', st⟩ := X.thenCaughtThrough q (g := F0 m pc ls rest) rfl (Steps.refl _) (by rw [hT]; exact hcell) (by rw [hv]; rfl) (by obtain ⟨k9, h9, -⟩ := Vm.findClass_spec hcl; exact ⟨k9, h9⟩) pre x suf hsplit
    (fun z hz => by
      rcases hpass z hz with h | ⟨hz0, nm, hl1, hn1⟩
      · exact Or.inl h
      · obtain ⟨c6, hc6, hcl6⟩ := Cond.classLink_spec hown hl1 e.platform hpl
        obtain ⟨a8, b8, h1, h2, h3⟩ := hn1
        cases Option.some.inj (h1.symm.trans hcl)
        cases Option.some.inj (h2.symm.trans hc6)
        exact Or.inr ⟨hz0, _, hcl6, h3⟩) hx (Or.inr ⟨h0, c4, hcl5, hasg⟩)
  obtain ⟨t, a1, b1⟩ := kk (T.setVm vm') hT X'
  exact ⟨t, st.trans a1, b1⟩
end Rows
section Ends
variable {p : Program} {l : Launch} {e : Env} {R : Room} {s : State} {m : MethodId} {args : Array Value} {below : List Frame} {meth : Method} {c : Code} {H : Heap} {locs : List Loc} {cells slots : Nat} {Q : State → Prop}
variable {mc ms : Nat} {free : Addr → Prop} {A0 A1 : Nat → Prop} {H0 : Heap} {a : Array Value} {ls : Array Slot} {st0 rest : List Value}
variable {Qc : Array Value → State → Outcome → State → Prop} {XC : String → State → State → Prop}
/-- what a body that may throw owes at its end -/
def vx_MQ (below : List Frame) (Qc : Array Value → State → Outcome → State → Prop) (XC : String → State → State → Prop) (a : Array Value) (s : State) (mc ms : Nat) (free : Addr → Prop) : State → Prop := fun t =>
  ∃ o, t.status = .running ∧ Ended t below o ∧ vx_Q Qc XC mc ms free a s o t
theorem vx_ret {g : JFrame} {mc ms : Nat} (k : W p l e R s m args below meth c H locs cells slots (MQ below Qc args s mc ms free) g) : W p l e R s m args below meth c H locs cells slots (vx_MQ below Qc XC args s mc ms free) g := by
  intro T hT X
  obtain ⟨t, a1, o, b1, b2, b3, b4⟩ := k T hT X
  exact ⟨t, a1, o, b1, b2, Or.inl ⟨b3, b4⟩⟩
/-- not caught here: it goes on to the caller -/
theorem vx_widen {g : JFrame} {q : Addr} {k n : Nat} (h1 : cells ≤ k) (h2 : slots ≤ n) (kk : vx_W p l e R s m args below meth c H locs k n Q g q) : vx_W p l e R s m args below meth c H locs cells slots Q g q := fun T hT X => kk T hT (stand_widen X h1 h2)
theorem vx_out {pc : Nat} {E : String} {ce : Cell} {q : Addr} {mc ms : Nat} (hout : ∀ x ∈ c.exceptionTable.toList, covers x pc = false) (hlocks : meth.locks = false) (hcell : H[q]? = some ce) (hv : ce.vm = .none) (hcl : s.vm.findClass E = some ce.cls)
    (hx : ∀ t : State, t.heap = H → s.vm.Alike t.vm → XC E s t) (hf : ∀ z ∈ locs, free z.base) (hc : cells ≤ mc) (hs : slots ≤ ms) :
    vx_W p l e R s m args below meth c H locs cells slots (vx_MQ below Qc XC args s mc ms free) (F0 m pc ls rest) q := by
  intro T hT X
  obtain ⟨st1, hrun, hend, hW, hsm⟩ := X.leaveThrown q (g := F0 m pc ls rest) rfl rfl rfl hout hlocks
  have hcell9 : (T.setFrames (.throwing q :: below)).heap[q]? = some ce := by
    show T.heap[q]? = some ce
    rw [hT]; exact hcell
  exact ⟨_, st1, .threw q, hrun, hend, Or.inr ⟨q, rfl, E, ce, locs, hx _ hT hW.alike, hcell9, hv, hcl, hW, hsm.mono hc hs, hf⟩⟩
theorem vx_frame {U : State} {k n : Nat} (h : s.sameButNew ({ U with vm := s.vm } : State) locs k n) : s.heap.size ≤ U.heap.size ∧ ∀ q : Nat, q < s.heap.size → (∀ z ∈ locs, z.base ≠ q) → U.heap[q]? = s.heap[q]? := by
  obtain ⟨-, h2, -, -, -, h6⟩ := h
  refine ⟨h2, fun q hq hz => ?_⟩
  obtain ⟨c9, e1, e2, e3, e4⟩ := h6 q _ (Array.getElem?_eq_getElem hq)
  have hs : c9.slots = (s.heap[q]).slots := Array.ext_getElem? fun i => e4 i fun hm => hz _ hm rfl
  have h9 : c9 = s.heap[q] := by
    rw [hs] at e2
    exact e2
  have e5 : U.heap[q]? = some c9 := e1
  rw [e5, h9, Array.getElem?_eq_getElem hq]
/-- the words of a throw but the four that speak of the heap -/
def vx_no (w : Cond) : Bool := decide (w ≠ .isRef (.static Bundle.tN "UNASSIGNED_STACK" Bundle.steD)) && decide (w ≠ .isRef (.static Bundle.tN "SUPPRESSED_SENTINEL" Bundle.listD)) && decide (w ≠ .laysStatic Bundle.tN "UNASSIGNED_STACK" Bundle.steD) && decide (w ≠ .laysStatic Bundle.tN "SUPPRESSED_SENTINEL" Bundle.listD)
def vx_at0 (own : String) (ic : Nat) (X : String) (names : List String) : List Cond := (Bundle.ownAtoms0 own ic X names).filter vx_no
def vx_atS (own : String) (ic : Nat) (X : String) (names : List String) : List Cond := (Bundle.ownAtoms own ic X names).filter vx_no
/-- a word that the tables alone decide, or a good one -/
def vx_ot (w : Cond) : Bool := w.onTables || goodWord w
theorem vx_ot_at {args a' : Array Value} {s U : State} {w : Cond} (hW : s.WarmedH U.vm) (hvm : s.vm = U.vm) (hg : vx_ot w = true) (h : w.before args s = true) : w.before a' U = true := by
  simp only [vx_ot, Bool.or_eq_true] at hg
  rcases hg with hg | hg
  · exact va_tabs hg hvm h
  · exact word_at hW (good_of_word hg) h
/-- a list's words: the good ones out of the method's own list, the others by premises of their own -/
theorem vx_hat {args : Array Value} {s : State} {L B : List Cond} (h1 : ∀ w ∈ L.filter goodWord, w.before args s = true) (h2 : ∀ w ∈ L.filter (fun w => !goodWord w), w ∈ B) (h3 : ∀ w ∈ B, w.before args s = true) : ∀ w ∈ L, w.before args s = true := by
  intro w hw
  by_cases g : goodWord w = true
  · exact h1 w (List.mem_filter.mpr ⟨hw, g⟩)
  · refine h3 w (h2 w (List.mem_filter.mpr ⟨hw, ?_⟩))
    show (!goodWord w) = true
    cases hgw : goodWord w
    · rfl
    · exact absurd hgw g
theorem vx_c {args : Array Value} {s : State} {w : Cond} {B : List Cond} (h : w.before args s = true) (t : ∀ w ∈ B, w.before args s = true) : ∀ w' ∈ w :: B, w'.before args s = true := fun w' h' => (List.mem_cons.mp h').elim (fun e => by rw [e]; exact h) (t w')
theorem vx_n {args : Array Value} {s : State} : ∀ w ∈ ([] : List Cond), w.before args s = true := fun _ h => nomatch h
theorem vx_own {args : Array Value} {s : State} {L : List Cond} (h1 : ∀ w ∈ L.filter vx_no, w.before args s = true)
    (hU : (Cond.isRef (.static Bundle.tN "UNASSIGNED_STACK" Bundle.steD)).before args s = true) (hN : (Cond.isRef (.static Bundle.tN "SUPPRESSED_SENTINEL" Bundle.listD)).before args s = true)
    (lU : (Cond.laysStatic Bundle.tN "UNASSIGNED_STACK" Bundle.steD).before args s = true) (lN : (Cond.laysStatic Bundle.tN "SUPPRESSED_SENTINEL" Bundle.listD).before args s = true) : ∀ w ∈ L, w.before args s = true := by
  intro w hw
  by_cases e1 : w = .isRef (.static Bundle.tN "UNASSIGNED_STACK" Bundle.steD)
  · rw [e1]; exact hU
  · by_cases e2 : w = .isRef (.static Bundle.tN "SUPPRESSED_SENTINEL" Bundle.listD)
    · rw [e2]; exact hN
    · by_cases e3 : w = .laysStatic Bundle.tN "UNASSIGNED_STACK" Bundle.steD
      · rw [e3]; exact lU
      · by_cases e4 : w = .laysStatic Bundle.tN "SUPPRESSED_SENTINEL" Bundle.listD
        · rw [e4]; exact lN
        · exact h1 w (List.mem_filter.mpr ⟨hw, by unfold vx_no; rw [decide_eq_true e1, decide_eq_true e2, decide_eq_true e3, decide_eq_true e4]; rfl⟩)
/-- where a static field lies, its class's statics cell in H -/
def vx_L (C n d : String) (A : Nat → Prop) (U : State) (H : Heap) : Prop := ∃ (c : ClassId) (k : Class) (i : Nat) (f : Field) (a : Nat) (cell : Cell), U.vm.findClass C = some c ∧ U.fieldFound? C n d = some (c, k, i, f) ∧ f.isStatic = true ∧ k.statics = some a ∧ H[a]? = some cell ∧ cell.vm.isStatics = true ∧ cell.cls = c ∧ f.slot < cell.slots.size ∧ k.staticTypes[f.slot]? = some f.type ∧ ¬ A a
theorem vx_L.moved {C n d : String} {A : Nat → Prop} {u U : State} {H : Heap} (hvm : u.vm.Alike U.vm) (h : vx_L C n d A u H) : vx_L C n d A U H := by
  obtain ⟨c, k, i, f, a, cell, h1, h2, h3, h4, h5, h6, h7, h8, h9, h10⟩ := h
  obtain ⟨k', hi', he⟩ := State.fieldFound?_setVm hvm h2
  exact ⟨c, k', i, f, a, cell, by rw [hvm.findClass]; exact h1, hi', h3, by rw [he]; exact h4, h5, h6, h7, h8, by rw [he]; exact h9, h10⟩
theorem vx_L.kept {C n d : String} {A : Nat → Prop} {U : State} {H H1 : Heap} (h : vx_L C n d A U H) (hq : ∀ a : Nat, a < H.size → ¬ A a → H1[a]? = H[a]?) : vx_L C n d A U H1 := by
  obtain ⟨c, k, i, f, a, cell, h1, h2, h3, h4, h5, h6, h7, h8, h9, h10⟩ := h
  exact ⟨c, k, i, f, a, cell, h1, h2, h3, h4, by rw [hq a (Array.getElem?_eq_some_iff.mp h5).1 h10]; exact h5, h6, h7, h8, h9, h10⟩
theorem vx_L.narrow {C n d : String} {A B : Nat → Prop} {U : State} {H : Heap} (h : vx_L C n d A U H) (hAB : ∀ q, B q → A q) : vx_L C n d B U H := by
  obtain ⟨c, k, i, f, a, cell, h1, h2, h3, h4, h5, h6, h7, h8, h9, h10⟩ := h
  exact ⟨c, k, i, f, a, cell, h1, h2, h3, h4, h5, h6, h7, h8, h9, fun z => h10 (hAB _ z)⟩
theorem vx_L.word {C n d : String} {A : Nat → Prop} {s : State} {args : Array Value} (h : vx_L C n d A s s.heap) : (Cond.laysStatic C n d).before args s = true := by
  obtain ⟨c, k, i, f, a, cell, h1, h2, h3, h4, h5, h6, h7, h8, h9, -⟩ := h
  show (Cond.laysStatic C n d).holds args s none s [] = true
  exact Cond.laysStatic_of h1 h2 h3 h4 h5 h6 h7 h8 h9
/-- .. and what it holds: null or some reference -/
def vx_Zq (C n d : String) (A : Nat → Prop) (U : State) (H : Heap) : Prop := va_Zq C n d A U H ∧ vx_L C n d A U H
theorem vx_Zq.moved {C n d : String} {A : Nat → Prop} {u U : State} {H : Heap} (hvm : u.vm.Alike U.vm) (h : vx_Zq C n d A u H) : vx_Zq C n d A U H := ⟨va_Zq.moved hvm h.1, vx_L.moved hvm h.2⟩
theorem vx_Zq.kept {C n d : String} {A : Nat → Prop} {U : State} {H H1 : Heap} (h : vx_Zq C n d A U H) (hq : ∀ a : Nat, a < H.size → ¬ A a → H1[a]? = H[a]?) : vx_Zq C n d A U H1 := ⟨va_Zq.kept h.1 hq, vx_L.kept h.2 hq⟩
theorem vx_Zq.narrow {C n d : String} {A B : Nat → Prop} {U : State} {H : Heap} (h : vx_Zq C n d A U H) (hAB : ∀ q, B q → A q) : vx_Zq C n d B U H := ⟨va_Zq.narrow h.1 hAB, vx_L.narrow h.2 hAB⟩
theorem vx_Zqof {args : Array Value} {s : State} {C n d : String} {A : Nat → Prop} (hl : (Cond.laysStatic C n d).before args s = true) (hini : (Cond.initialized C).before args s = true) (h : (Cond.isRef (.static C n d)).before args s = true) (hA : ∀ a : Nat, a < s.heap.size → ¬ A a) : vx_Zq C n d A s s.heap := by
  refine ⟨va_Zqof hl hini h hA, ?_⟩
  obtain ⟨c, k, i, f, a, cell, h1, h2, h3, h4, h5, h6, h7, h8, h9⟩ := Cond.laysStatic_spec hl
  exact ⟨c, k, i, f, a, cell, h1, h2, h3, h4, h5, h6, h7, h8, h9, hA a (Array.getElem?_eq_some_iff.mp h5).1⟩
theorem vx_isRef {C n d : String} {v : Value} {A : Nat → Prop} {s : State} {args : Array Value} (h : va_Z C n d v A s s.heap) (hv : v.isRef = true) : (Cond.isRef (.static C n d)).before args s = true := by
  obtain ⟨cf, kf, fi, f, a, cell, h1, h2, h3, h4, h5, h6, h7, -⟩ := h
  have he : (Term.static C n d).eval args s none [] s = some v := by
    simp [Term.eval, State.fieldNamed?, h1, h2, h4, h5, h6, h7]
  simp only [Cond.before, Cond.holds, Cond.value, he]
  cases v <;> simp_all [Value.isRef]
theorem vx_isRefq {C n d : String} {A : Nat → Prop} {s : State} {args : Array Value} (h : va_Zq C n d A s s.heap) : (Cond.isRef (.static C n d)).before args s = true := by
  rcases h with h | ⟨t, h⟩
  · exact vx_isRef h rfl
  · exact vx_isRef h rfl
/-- the same frame, seen from here: as if the method were called anew in this heap -/
theorem vx_rebase {T : State} (X : Stand p l e R s m args below meth c T locs cells slots) {R' : Room} (hf : R'.frames ≤ R.frames) (hl : R'.locals ≤ R.locals) (hc : cells + R'.cells ≤ R.cells) (hs : slots + R'.slots ≤ R.slots) :
    Stand p l e R' ((T.setVm s.vm).setFrames (.invoking m args :: below)) m args below meth c T [] 0 0 := by
  have htop : (T.setVm s.vm).topJava?.isSome := X.here.top
  have hF : ((T.setVm s.vm).setFrames (.invoking m args :: below)).frames = .invoking m args :: below := State.frames_setFrames _ (State.cur_lt_of_top htop)
  obtain ⟨g₀, hg0⟩ := Option.isSome_iff_exists.mp htop
  obtain ⟨r, hr⟩ := State.topJava?_eq_some.mp hg0
  have hl9 : e.platform.stackLimits (T.setVm s.vm).me = e.platform.stackLimits s.me := X.limits
  have hb9 : (T.setVm s.vm).me.stackBytes = s.me.stackBytes := X.bytes
  refine ⟨X.admits, X.cas, X.clock, hF, ?_, X.hears, X.method, X.code, X.here, X.tail, X.warmed, ?_, ?_, ?_⟩
  · have h := X.room
    have hU : ((T.setVm s.vm).setFrames (.invoking m args :: below)).localsInUse = s.localsInUse := by
      rw [State.localsInUse_invoking hF (meth := meth) (c := c) X.method X.code, State.localsInUse_invoking X.frames X.method X.code]
    simp only [State.hasRoom, Bool.and_eq_true, decide_eq_true_eq] at h ⊢
    obtain ⟨⟨⟨⟨h1, h2, h3, h4, h5, h6⟩, h7⟩, h8⟩, h9⟩ := h
    rw [X.frames, List.length_cons] at h2 h3
    have q1 := X.heapSize
    have q2 := X.used
    simp only [hF, hU, List.length_cons, State.stackLimits_setFrames, State.stackBytes_setFrames, hl9, hb9]
    refine ⟨⟨⟨⟨by omega, by omega, by omega, by omega, by omega, h6⟩, ?_⟩, ?_⟩, X.book⟩
    · show T.heap.size + R'.cells ≤ e.platform.maxCells
      omega
    · show T.slotsUsed + R'.slots ≤ e.platform.maxSlots
      omega
  · rw [State.stackLimits_setFrames]; rfl
  · rw [State.stackBytes_setFrames]; rfl
  · refine ⟨?_, Nat.le_refl _, Nat.le_refl _, ?_, ?_, fun a c9 h9 => ⟨c9, h9, rfl, rfl, fun _ _ => rfl⟩⟩
    · obtain ⟨t, ht, -⟩ := State.frames_cons hr
      show T.setVm s.vm = { ((T.setVm s.vm).setFrames (.invoking m args :: below)).setFrames (T.setVm s.vm).frames with heap := T.heap, slotsUsed := T.slotsUsed }
      rw [State.setFrames_setFrames, State.setFrames_self ht]
      rfl
    · show T.slotsUsed = T.slotsUsed + ((T.heap.toList.drop T.heap.size).map (·.slots.size)).sum
      rw [List.drop_eq_nil_of_le (Nat.le_of_eq Array.length_toList)]
      rfl
    · show ((T.heap.toList.drop T.heap.size).map (·.slots.size)).sum ≤ 0
      rw [List.drop_eq_nil_of_le (Nat.le_of_eq Array.length_toList)]
      exact Nat.le_refl _
/-- 'throw new E()': new; dup; invokespecial; athrow -/
theorem vx_throw0 {cc : ByteArray} {pc : Nat} (hexec : p.tables.exec = Jvm.exec) (hb : c.code = cc) (hl : l.stackTraces = false) {own cls : String} {names : List String} {ik ic mc ms : Nat} {A : Nat → Prop}
    (hown : s.vm.findClass own = some m.cls) (hcls : Bundle.fit cls = true) (hnames : ∀ n ∈ names, Bundle.fit n = true)
    (hk : (Cond.classLink own ik cls).before args s = true) (hini : (Cond.initialized cls).before args s = true) (hat : ∀ w ∈ vx_at0 own ic cls names, w.before args s = true)
    (hgood : ∀ w ∈ Cond.classLink own ik cls :: Cond.initialized cls :: vx_at0 own ic cls names, vx_ot w = true)
    (hU : vx_Zq Bundle.tN "UNASSIGNED_STACK" Bundle.steD A s s.heap) (hN : vx_Zq Bundle.tN "SUPPRESSED_SENTINEL" Bundle.listD A s s.heap) (hS : va_S A s.heap H locs) (hsize : ls.size = c.maxLocals)
    (d0 : decode cc pc = .ok (.new ik, 3)) (d3 : decode cc (pc + 3) = .ok (.dup, 1)) (d4 : decode cc (pc + 4) = .ok (.invokespecial ic, 3)) (d7 : decode cc (pc + 7) = .ok (.athrow, 1))
    (hout : ∀ x ∈ c.exceptionTable.toList, covers x (pc + 7) = false)
    (hRframes : names.length + 3 < R.frames) (hRlocals : (rest.map fun v => v.category).sum + (13 * (names.length + 1) + 42) ≤ R.locals) (hRcells : cells + 1 ≤ R.cells) (hRslots : slots + 6 ≤ R.slots) (hlocks : meth.locks = false)
    (hx : ∀ t : State, s.vm.Alike t.vm → H.size ≤ t.heap.size → (∀ q : Nat, q < H.size → t.heap[q]? = H[q]?) → XC cls s t)
    (hf : ∀ z ∈ locs, free z.base) (hc : cells + 1 ≤ mc) (hs : slots + 6 ≤ ms) :
    W p l e R s m args below meth c H locs cells slots (vx_MQ below Qc XC args s mc ms free) (F0 m pc ls rest) := by
  intro T hT X
  have htr : e.platform.stackTraces = false := (show e.platform.stackTraces = l.stackTraces by rw [X.admits.platform]).trans hl
  have Y := vx_rebase X (R' := { frames := R.frames, locals := R.locals, cells := 1, slots := 6 }) (Nat.le_refl _) (Nat.le_refl _) hRcells hRslots
  obtain ⟨s', hA⟩ : ∃ z, z = (T.setVm s.vm).setFrames (.invoking m args :: below) := ⟨_, rfl⟩
  rw [← hA] at Y
  have hvm : s'.vm = s.vm := by rw [hA]; rfl
  have hhp : s'.heap = H := by rw [hA]; exact hT
  have hW0 : s.WarmedH s'.vm := by rw [hvm]; exact State.WarmedH.refl s
  have hat' : ∀ w ∈ vx_at0 own ic cls names, w.before args s' = true := fun w hw => vx_ot_at hW0 hvm.symm (hgood w (List.mem_cons_of_mem _ (List.mem_cons_of_mem _ hw))) (hat w hw)
  have hk' : (Cond.classLink own ik cls).before args s' = true := vx_ot_at hW0 hvm.symm (hgood _ List.mem_cons_self) hk
  have hini' : (Cond.initialized cls).before args s' = true := vx_ot_at hW0 hvm.symm (hgood _ (List.mem_cons_of_mem _ List.mem_cons_self)) hini
  have hU' : vx_Zq Bundle.tN "UNASSIGNED_STACK" Bundle.steD A s' s'.heap := by rw [hhp]; exact vx_Zq.moved hW0.alike (hU.kept hS.2.1)
  have hN' : vx_Zq Bundle.tN "SUPPRESSED_SENTINEL" Bundle.listD A s' s'.heap := by rw [hhp]; exact vx_Zq.moved hW0.alike (hN.kept hS.2.1)
  have h : ∀ w ∈ Bundle.ownAtoms0 own ic cls names, w.before args s' = true := vx_own hat' (vx_isRefq hU'.1) (vx_isRefq hN'.1) hU'.2.word hN'.2.word
  have hown' : s'.vm.findClass own = some m.cls := by rw [hvm]; exact hown
  have hins : (Cond.instantiable cls 6).before args s' = true := h _ (by simp [Bundle.ownAtoms0])
  obtain ⟨vm₁, cX, kX, hfX, hkX, -, -, X₁, st1⟩ := Y.newCold hexec (own := own) (C := cls) (index := ik) (n := 6) hown' hk' hins hini'
    (g := F0 m pc ls rest) rfl (by rw [hb]; exact d0) (Nat.le_refl _) (Nat.le_refl _)
  generalize hT1 : (T.setVm vm₁).pushCell { cls := cX, slots := kX.instanceTypes.map defaultValue, vm := .none } = T1 at X₁ st1
  have hcat : (Value.ref T.heap.size).category = 1 := rfl
  have hcellA : T1.heap[T.heap.size]? = some (freshCell cX kX) := by rw [← hT1]; exact State.heap_pushCell_size _ _
  have d3' : decode c.code (pc + 3) = .ok (.dup, 1) := by rw [hb]; exact d3
  obtain ⟨U, hsteps, hrun, hend, hW, hsame, ce, hce, hO⟩ := X₁.ctorThrow0 hexec htr (own := own) (cls := cls) (names := names) (ic := ic) hown' hcls hnames h (fun x hx => nomatch hx) hfX hkX hcellA (by rw [hhp, hT]; exact Nat.le_refl _)
    (g := { method := m, pc := pc + 4, locals := ls, stack := .ref T.heap.size :: .ref T.heap.size :: rest, locked := none }) rfl hsize rfl rfl (rest := rest) rfl
    (by rw [hb]; exact d4) (by rw [hb]; exact d7) hout hRframes (by simp only [List.map_cons, List.sum_cons, hcat]; omega) hlocks
  obtain ⟨f1, f2⟩ := vx_frame hsame
  rw [hhp] at f1 f2
  have hWs : s.WarmedH U.vm := State.WarmedH.trans hW0 hW
  have hcl : s.vm.findClass cls = some ce.cls := by
    have h9 := hO.cls
    rw [hvm] at h9
    exact h9
  have hall : s.sameButNew ({ U with vm := s.vm } : State) locs mc ms := by
    subst hA
    obtain ⟨e1, e2⟩ := hsame
    rw [State.setFrames_setFrames] at e1
    have h2 : (T.setVm s.vm).sameButNew ({ U with vm := s.vm } : State) [] (0 + 1) (0 + 6) := ⟨e1, e2⟩
    have h3 := X.same.trans h2
    rw [List.append_nil] at h3
    exact h3.mono hc hs
  refine ⟨U, ?_, .threw T.heap.size, hrun, hend, Or.inr ⟨T.heap.size, rfl, cls, ce, locs, hx U hWs.alike f1 (fun q hq => f2 q hq (fun z hz => nomatch hz)), hce, hO.vm, hcl, hWs, hall, hf⟩⟩
  refine st1 _ ?_
  show Steps p.tables e below (T1.setTop { method := m, pc := pc + 3, locals := ls, stack := .ref T.heap.size :: rest, locked := none }) _
  jvm_step X₁.here [X₁.here.top, hexec, d3', Value.category]
  exact hsteps
/-- 'throw new E("text")': new; dup; ldc; invokespecial; athrow -/
theorem vx_throwS {cc : ByteArray} {pc : Nat} (hexec : p.tables.exec = Jvm.exec) (hb : c.code = cc) (hl : l.stackTraces = false) {own cls text : String} {names : List String} {ik is ic mc ms sa : Nat} {A : Nat → Prop}
    (hown : s.vm.findClass own = some m.cls) (hcls : Bundle.fit cls = true) (hnames : ∀ n ∈ names, Bundle.fit n = true)
    (hk : (Cond.classLink own ik cls).before args s = true) (hini : (Cond.initialized cls).before args s = true) (hstr : vk_R own is text sa s) (hat : ∀ w ∈ vx_atS own ic cls names, w.before args s = true)
    (hgood : ∀ w ∈ Cond.classLink own ik cls :: Cond.initialized cls :: vx_atS own ic cls names, vx_ot w = true)
    (hU : vx_Zq Bundle.tN "UNASSIGNED_STACK" Bundle.steD A s s.heap) (hN : vx_Zq Bundle.tN "SUPPRESSED_SENTINEL" Bundle.listD A s s.heap) (hS : va_S A s.heap H locs) (hsize : ls.size = c.maxLocals)
    (d0 : decode cc pc = .ok (.new ik, 3)) (d3 : decode cc (pc + 3) = .ok (.dup, 1)) (d4 : decode cc (pc + 4) = .ok (.ldc is, 2)) (d6 : decode cc (pc + 6) = .ok (.invokespecial ic, 3)) (d9 : decode cc (pc + 9) = .ok (.athrow, 1))
    (hout : ∀ x ∈ c.exceptionTable.toList, covers x (pc + 9) = false)
    (hRframes : names.length + 3 < R.frames) (hRlocals : (rest.map fun v => v.category).sum + (13 * (names.length + 1) + 43) ≤ R.locals) (hRcells : cells + 1 ≤ R.cells) (hRslots : slots + 6 ≤ R.slots) (hlocks : meth.locks = false)
    (hx : ∀ t : State, s.vm.Alike t.vm → H.size ≤ t.heap.size → (∀ q : Nat, q < H.size → t.heap[q]? = H[q]?) → XC cls s t)
    (hf : ∀ z ∈ locs, free z.base) (hc : cells + 1 ≤ mc) (hs : slots + 6 ≤ ms) :
    W p l e R s m args below meth c H locs cells slots (vx_MQ below Qc XC args s mc ms free) (F0 m pc ls rest) := by
  intro T hT X
  have htr : e.platform.stackTraces = false := (show e.platform.stackTraces = l.stackTraces by rw [X.admits.platform]).trans hl
  have Y := vx_rebase X (R' := { frames := R.frames, locals := R.locals, cells := 1, slots := 6 }) (Nat.le_refl _) (Nat.le_refl _) hRcells hRslots
  obtain ⟨s', hA⟩ : ∃ z, z = (T.setVm s.vm).setFrames (.invoking m args :: below) := ⟨_, rfl⟩
  rw [← hA] at Y
  have hvm : s'.vm = s.vm := by rw [hA]; rfl
  have hhp : s'.heap = H := by rw [hA]; exact hT
  have hW0 : s.WarmedH s'.vm := by rw [hvm]; exact State.WarmedH.refl s
  have hat' : ∀ w ∈ vx_atS own ic cls names, w.before args s' = true := fun w hw => vx_ot_at hW0 hvm.symm (hgood w (List.mem_cons_of_mem _ (List.mem_cons_of_mem _ hw))) (hat w hw)
  have hk' : (Cond.classLink own ik cls).before args s' = true := vx_ot_at hW0 hvm.symm (hgood _ List.mem_cons_self) hk
  have hini' : (Cond.initialized cls).before args s' = true := vx_ot_at hW0 hvm.symm (hgood _ (List.mem_cons_of_mem _ List.mem_cons_self)) hini
  have hU' : vx_Zq Bundle.tN "UNASSIGNED_STACK" Bundle.steD A s' s'.heap := by rw [hhp]; exact vx_Zq.moved hW0.alike (hU.kept hS.2.1)
  have hN' : vx_Zq Bundle.tN "SUPPRESSED_SENTINEL" Bundle.listD A s' s'.heap := by rw [hhp]; exact vx_Zq.moved hW0.alike (hN.kept hS.2.1)
  have h : ∀ w ∈ Bundle.ownAtoms own ic cls names, w.before args s' = true := vx_own hat' (vx_isRefq hU'.1) (vx_isRefq hN'.1) hU'.2.word hN'.2.word
  have hown' : s'.vm.findClass own = some m.cls := by rw [hvm]; exact hown
  have hins : (Cond.instantiable cls 6).before args s' = true := h _ (by simp [Bundle.ownAtoms])
  obtain ⟨vm₁, cX, kX, hfX, hkX, -, -, X₁, st1⟩ := Y.newCold hexec (own := own) (C := cls) (index := ik) (n := 6) hown' hk' hins hini'
    (g := F0 m pc ls rest) rfl (by rw [hb]; exact d0) (Nat.le_refl _) (Nat.le_refl _)
  generalize hT1 : (T.setVm vm₁).pushCell { cls := cX, slots := kX.instanceTypes.map defaultValue, vm := .none } = T1 at X₁ st1
  have hcat : (Value.ref T.heap.size).category = 1 := rfl
  have hcellA : T1.heap[T.heap.size]? = some (freshCell cX kX) := by rw [← hT1]; exact State.heap_pushCell_size _ _
  have d3' : decode c.code (pc + 3) = .ok (.dup, 1) := by rw [hb]; exact d3
  have d4' : decode c.code (pc + 4) = .ok (.ldc is, 2) := by rw [hb]; exact d4
  have hstr' : vk_R own is text sa s' := vk_R.warm hW0 hstr
  obtain ⟨U, hsteps, hrun, hend, hW, hsame, ce, hce, hO⟩ := X₁.ctorThrowS hexec htr (own := own) (cls := cls) (names := names) (ic := ic) hown' hcls hnames h (fun x hx => nomatch hx) hfX hkX hcellA (by rw [hhp, hT]; exact Nat.le_refl _) (msg := .ref sa) rfl
    (g := { method := m, pc := pc + 6, locals := ls, stack := .ref sa :: .ref T.heap.size :: .ref T.heap.size :: rest, locked := none }) rfl hsize rfl rfl (rest := rest) rfl
    (by rw [hb]; exact d6) (by rw [hb]; exact d9) hout hRframes (by simp only [List.map_cons, List.sum_cons, hcat]; omega) hlocks
  obtain ⟨f1, f2⟩ := vx_frame hsame
  rw [hhp] at f1 f2
  have hWs : s.WarmedH U.vm := State.WarmedH.trans hW0 hW
  have hcl : s.vm.findClass cls = some ce.cls := by
    have h9 := hO.cls
    rw [hvm] at h9
    exact h9
  have hall : s.sameButNew ({ U with vm := s.vm } : State) locs mc ms := by
    subst hA
    obtain ⟨e1, e2⟩ := hsame
    rw [State.setFrames_setFrames] at e1
    have h2 : (T.setVm s.vm).sameButNew ({ U with vm := s.vm } : State) [] (0 + 1) (0 + 6) := ⟨e1, e2⟩
    have h3 := X.same.trans h2
    rw [List.append_nil] at h3
    exact h3.mono hc hs
  refine ⟨U, ?_, .threw T.heap.size, hrun, hend, Or.inr ⟨T.heap.size, rfl, cls, ce, locs, hx U hWs.alike f1 (fun q hq => f2 q hq (fun z hz => nomatch hz)), hce, hO.vm, hcl, hWs, hall, hf⟩⟩
  refine st1 _ ?_
  show Steps p.tables e below (T1.setTop { method := m, pc := pc + 3, locals := ls, stack := .ref T.heap.size :: rest, locked := none }) _
  jvm_step X₁.here [X₁.here.top, hexec, d3', Value.category]
  exact X₁.ldcString hexec (own := own) (text := text) (index := is) (a := sa) hown' hstr'.1 hstr'.2
    (g := { method := m, pc := pc + 4, locals := ls, stack := .ref T.heap.size :: .ref T.heap.size :: rest, locked := none }) rfl d4' _ hsteps
/-- 'throw new E("text")', the text by a wide index -/
theorem vx_throwSW {cc : ByteArray} {pc : Nat} (hexec : p.tables.exec = Jvm.exec) (hb : c.code = cc) (hl : l.stackTraces = false) {own cls text : String} {names : List String} {ik is ic mc ms sa : Nat} {A : Nat → Prop}
    (hown : s.vm.findClass own = some m.cls) (hcls : Bundle.fit cls = true) (hnames : ∀ n ∈ names, Bundle.fit n = true)
    (hk : (Cond.classLink own ik cls).before args s = true) (hini : (Cond.initialized cls).before args s = true) (hstr : vk_R own is text sa s) (hat : ∀ w ∈ vx_atS own ic cls names, w.before args s = true)
    (hgood : ∀ w ∈ Cond.classLink own ik cls :: Cond.initialized cls :: vx_atS own ic cls names, vx_ot w = true)
    (hU : vx_Zq Bundle.tN "UNASSIGNED_STACK" Bundle.steD A s s.heap) (hN : vx_Zq Bundle.tN "SUPPRESSED_SENTINEL" Bundle.listD A s s.heap) (hS : va_S A s.heap H locs) (hsize : ls.size = c.maxLocals)
    (d0 : decode cc pc = .ok (.new ik, 3)) (d3 : decode cc (pc + 3) = .ok (.dup, 1)) (d4 : decode cc (pc + 4) = .ok (.ldc_w is, 3)) (d7 : decode cc (pc + 7) = .ok (.invokespecial ic, 3)) (d10 : decode cc (pc + 10) = .ok (.athrow, 1))
    (hout : ∀ x ∈ c.exceptionTable.toList, covers x (pc + 10) = false)
    (hRframes : names.length + 3 < R.frames) (hRlocals : (rest.map fun v => v.category).sum + (13 * (names.length + 1) + 43) ≤ R.locals) (hRcells : cells + 1 ≤ R.cells) (hRslots : slots + 6 ≤ R.slots) (hlocks : meth.locks = false)
    (hx : ∀ t : State, s.vm.Alike t.vm → H.size ≤ t.heap.size → (∀ q : Nat, q < H.size → t.heap[q]? = H[q]?) → XC cls s t)
    (hf : ∀ z ∈ locs, free z.base) (hc : cells + 1 ≤ mc) (hs : slots + 6 ≤ ms) :
    W p l e R s m args below meth c H locs cells slots (vx_MQ below Qc XC args s mc ms free) (F0 m pc ls rest) := by
  intro T hT X
  have htr : e.platform.stackTraces = false := (show e.platform.stackTraces = l.stackTraces by rw [X.admits.platform]).trans hl
  have Y := vx_rebase X (R' := { frames := R.frames, locals := R.locals, cells := 1, slots := 6 }) (Nat.le_refl _) (Nat.le_refl _) hRcells hRslots
  obtain ⟨s', hA⟩ : ∃ z, z = (T.setVm s.vm).setFrames (.invoking m args :: below) := ⟨_, rfl⟩
  rw [← hA] at Y
  have hvm : s'.vm = s.vm := by rw [hA]; rfl
  have hhp : s'.heap = H := by rw [hA]; exact hT
  have hW0 : s.WarmedH s'.vm := by rw [hvm]; exact State.WarmedH.refl s
  have hat' : ∀ w ∈ vx_atS own ic cls names, w.before args s' = true := fun w hw => vx_ot_at hW0 hvm.symm (hgood w (List.mem_cons_of_mem _ (List.mem_cons_of_mem _ hw))) (hat w hw)
  have hk' : (Cond.classLink own ik cls).before args s' = true := vx_ot_at hW0 hvm.symm (hgood _ List.mem_cons_self) hk
  have hini' : (Cond.initialized cls).before args s' = true := vx_ot_at hW0 hvm.symm (hgood _ (List.mem_cons_of_mem _ List.mem_cons_self)) hini
  have hU' : vx_Zq Bundle.tN "UNASSIGNED_STACK" Bundle.steD A s' s'.heap := by rw [hhp]; exact vx_Zq.moved hW0.alike (hU.kept hS.2.1)
  have hN' : vx_Zq Bundle.tN "SUPPRESSED_SENTINEL" Bundle.listD A s' s'.heap := by rw [hhp]; exact vx_Zq.moved hW0.alike (hN.kept hS.2.1)
  have h : ∀ w ∈ Bundle.ownAtoms own ic cls names, w.before args s' = true := vx_own hat' (vx_isRefq hU'.1) (vx_isRefq hN'.1) hU'.2.word hN'.2.word
  have hown' : s'.vm.findClass own = some m.cls := by rw [hvm]; exact hown
  have hins : (Cond.instantiable cls 6).before args s' = true := h _ (by simp [Bundle.ownAtoms])
  obtain ⟨vm₁, cX, kX, hfX, hkX, -, -, X₁, st1⟩ := Y.newCold hexec (own := own) (C := cls) (index := ik) (n := 6) hown' hk' hins hini'
    (g := F0 m pc ls rest) rfl (by rw [hb]; exact d0) (Nat.le_refl _) (Nat.le_refl _)
  generalize hT1 : (T.setVm vm₁).pushCell { cls := cX, slots := kX.instanceTypes.map defaultValue, vm := .none } = T1 at X₁ st1
  have hcat : (Value.ref T.heap.size).category = 1 := rfl
  have hcellA : T1.heap[T.heap.size]? = some (freshCell cX kX) := by rw [← hT1]; exact State.heap_pushCell_size _ _
  have d3' : decode c.code (pc + 3) = .ok (.dup, 1) := by rw [hb]; exact d3
  have d4' : decode c.code (pc + 4) = .ok (.ldc_w is, 3) := by rw [hb]; exact d4
  have hstr' : vk_R own is text sa s' := vk_R.warm hW0 hstr
  obtain ⟨U, hsteps, hrun, hend, hW, hsame, ce, hce, hO⟩ := X₁.ctorThrowS hexec htr (own := own) (cls := cls) (names := names) (ic := ic) hown' hcls hnames h (fun x hx => nomatch hx) hfX hkX hcellA (by rw [hhp, hT]; exact Nat.le_refl _) (msg := .ref sa) rfl
    (g := { method := m, pc := pc + 7, locals := ls, stack := .ref sa :: .ref T.heap.size :: .ref T.heap.size :: rest, locked := none }) rfl hsize rfl rfl (rest := rest) rfl
    (by rw [hb]; exact d7) (by rw [hb]; exact d10) hout hRframes (by simp only [List.map_cons, List.sum_cons, hcat]; omega) hlocks
  obtain ⟨f1, f2⟩ := vx_frame hsame
  rw [hhp] at f1 f2
  have hWs : s.WarmedH U.vm := State.WarmedH.trans hW0 hW
  have hcl : s.vm.findClass cls = some ce.cls := by
    have h9 := hO.cls
    rw [hvm] at h9
    exact h9
  have hall : s.sameButNew ({ U with vm := s.vm } : State) locs mc ms := by
    subst hA
    obtain ⟨e1, e2⟩ := hsame
    rw [State.setFrames_setFrames] at e1
    have h2 : (T.setVm s.vm).sameButNew ({ U with vm := s.vm } : State) [] (0 + 1) (0 + 6) := ⟨e1, e2⟩
    have h3 := X.same.trans h2
    rw [List.append_nil] at h3
    exact h3.mono hc hs
  refine ⟨U, ?_, .threw T.heap.size, hrun, hend, Or.inr ⟨T.heap.size, rfl, cls, ce, locs, hx U hWs.alike f1 (fun q hq => f2 q hq (fun z hz => nomatch hz)), hce, hO.vm, hcl, hWs, hall, hf⟩⟩
  refine st1 _ ?_
  show Steps p.tables e below (T1.setTop { method := m, pc := pc + 3, locals := ls, stack := .ref T.heap.size :: rest, locked := none }) _
  jvm_step X₁.here [X₁.here.top, hexec, d3', Value.category]
  exact X₁.ldcStringW hexec (own := own) (text := text) (index := is) (a := sa) hown' hstr'.1 hstr'.2
    (g := { method := m, pc := pc + 4, locals := ls, stack := .ref T.heap.size :: .ref T.heap.size :: rest, locked := none }) rfl d4' _ hsteps
end Ends
section Bodies
variable {l : Launch}
theorem vx_ofW {y : MethodName} {ws ws' : List Cond} {rm : Room} {Pc : Array Value → State → Prop} {Qc : Array Value → State → Outcome → State → Prop} {XC : String → State → State → Prop} {mc ms : Nat} {free : Addr → Prop} {cc : ByteArray} {maxL : Nat} {ret : Option FieldType}
    (hy : plainName y.cls = true) (hw : ws = Cond.code y cc maxL ret :: ws')
    (body : ∀ p e s m args below meth c s₁, BodyLoose p l y (headSpec ws rm) cc maxL ret e s m args below meth c s₁ → c.maxLocals = maxL → (∀ x ∈ c.exceptionTable.toList, False) → Pc args s →
      W p l e (headSpec ws rm).room s m args below meth c s.heap [] 0 0 (vx_MQ below Qc XC args s mc ms free) (entryFrame m args maxL)) : vx_Met l y ws rm Pc Qc XC mc ms free := by
  refine MetFree.of_bodyS (code := cc) (maxLocals := maxL) (ret := ret) hy ?_ ?_
  · intro args s m h hn
    obtain ⟨meth, c, h1, h2, h3, h4, h5, h6, -, -⟩ := Cond.code_spec hn (atoms_spec (ws := ws) h _ (by rw [hw]; exact List.mem_cons_self))
    exact ⟨meth, c, h1, h2, h3, h4, h5, h6⟩
  · intro p e s m args below meth c s₁ B hml hP _
    have hh0 : s₁.heap = s.heap := by rw [B.state]; rfl
    have ht : ∀ x ∈ c.exceptionTable.toList, False := by
      obtain ⟨meth9, c9, h1, h2, -, -, -, -, h7, -⟩ := Cond.code_spec B.named (atoms_spec (ws := ws) B.pre _ (by rw [hw]; exact List.mem_cons_self))
      cases Option.some.inj (h1.symm.trans B.method)
      cases Option.some.inj (h2.symm.trans (Stand.of_body B).code)
      intro x hx
      rw [Array.isEmpty_iff.mp h7] at hx
      cases hx
    obtain ⟨t, a1, o, b1, b2, b3⟩ := body p e s m args below meth c s₁ B hml ht hP s₁ hh0 (Stand.of_body B)
    exact ⟨t, o, a1, b1, b2, b3⟩
/-- the table of a body with handlers -/
theorem vx_table {p : Program} {x y : MethodName} {S : Spec} {cc bytes : ByteArray} {maxL maxL' : Nat} {ret ret' : Option FieldType} {e : Env} {s s₁ : State} {m : MethodId} {args : Array Value} {below : List Frame} {meth : Method} {c : Code} {hh : List (Nat × Nat × Nat × Nat)}
    (B : BodyLoose p l y S cc maxL ret e s m args below meth c s₁) (h : (Cond.codeWith y bytes maxL' ret' hh).before args s = true) : c.exceptionTable.toList = tableOf hh := by
  obtain ⟨m9, meth9, c9, hn9, h1, h2, -, -, h6, -⟩ := Cond.codeWith_spec h
  cases Option.some.inj (hn9.symm.trans B.named)
  cases Option.some.inj (h1.symm.trans B.method)
  cases Option.some.inj (h2.symm.trans (Stand.of_body B).code)
  rw [← h6, table_eq]
end Bodies
end VXA
/-! ===== END ===== -/
/-! ===== BEGIN a static call of a method with an exception table ===== -/
section VXS
variable {p : Program} {l : Launch} {e : Env} {R : Room} {s : State} {m : MethodId} {args : Array Value} {below : List Frame} {meth : Method} {c : Code} {T : State} {H : Heap} {locs : List Loc} {cells slots : Nat}
abbrev vx_CSW (R : Room) (s : State) (args : Array Value) (own : String) (index : Nat) (y : MethodName) (bytes : ByteArray) (maxL : Nat) (ret : Option FieldType) (hh : List (Nat × Nat × Nat × Nat)) (ws : List Cond) (rm : Room) (mc ms n : Nat) : Prop :=
  (rm.cells = mc ∧ rm.slots = ms ∧ rm.frames + 1 ≤ R.frames ∧ 8 + (maxL + 11) + rm.locals ≤ R.locals ∧ (∀ w ∈ ws, ∀ (a' : Array Value) (U : State), s.WarmedH U.vm → w.before a' U = true) ∧ Cond.codeWith y bytes maxL ret hh ∈ ws) ∧
  (Cond.codeWith y bytes maxL ret hh).before args s = true ∧ (Cond.initialized y.cls).before args s = true ∧ (y.cls ≠ "java/lang/invoke/MethodHandle" ∧ y.cls ≠ "java/lang/invoke/VarHandle") ∧
  (∀ sig, parseMethodDescriptor y.desc = some sig → n = sig.parameters.length) ∧ (Cond.methodLink own index y).before args s = true ∧ (Cond.static y).before args s = true
theorem vx_cwSW {own : String} {index maxL mc ms : Nat} {y : MethodName} {bytes : ByteArray} {ret : Option FieldType} {hh : List (Nat × Nat × Nat × Nat)} {Ts ws ws' : List Cond} {rm : Room} (n : Nat) (ht : ∀ w ∈ Ts, w.before args s = true) (hT : GoodIn Ts (va_wsS own index y ws)) (hw : ws = Cond.codeWith y bytes maxL ret hh :: ws') (hrc : rm.cells = mc) (hrs : rm.slots = ms)
    (hd : y.cls ≠ "java/lang/invoke/MethodHandle" ∧ y.cls ≠ "java/lang/invoke/VarHandle" ∧ (parseMethodDescriptor y.desc).map (fun d => d.parameters.length) = some n) (hR : rm.frames + 1 ≤ R.frames ∧ 8 + (maxL + 11) + rm.locals ≤ R.locals) :
    vx_CSW R s args own index y bytes maxL ret hh ws rm mc ms n := by
  have ok : ∀ w ∈ va_wsS own index y ws, w.before args s = true := fun w h => ht w (hT w h).1
  have hG : GoodIn Ts ws := fun w h => hT w (by unfold va_wsS; exact List.mem_append_right _ h)
  have hc : Cond.codeWith y bytes maxL ret hh ∈ ws := by rw [hw]; exact List.mem_cons_self
  refine ⟨⟨hrc, hrs, hR.1, hR.2, pay_in ht hG, hc⟩, ht _ (hG _ hc).1, ok _ (by simp [va_wsS]), ⟨hd.1, hd.2.1⟩, fun sig h => ?_, ok _ (by simp [va_wsS]), ok _ (by simp [va_wsS])⟩
  have h2 := hd.2.2
  rw [h] at h2
  exact (Option.some.inj h2).symm
theorem vx_callSW (X : Stand p l e R s m args below meth c T locs cells slots) (hexec : p.tables.exec = Jvm.exec) {own : String} {index : Nat} {y : MethodName} {bytes : ByteArray} {maxL : Nat} {ret : Option FieldType} {hh : List (Nat × Nat × Nat × Nat)}
    (hown : s.vm.findClass own = some m.cls) (hlink : (Cond.methodLink own index y).before args s = true) (hstat : (Cond.static y).before args s = true) (hinit : (Cond.initialized y.cls).before args s = true)
    (hcode : (Cond.codeWith y bytes maxL ret hh).before args s = true) (hy : y.cls ≠ "java/lang/invoke/MethodHandle" ∧ y.cls ≠ "java/lang/invoke/VarHandle")
    {W9 : Nat} {Pre : Pt → Array Value → Prop} {Post : Pt → Array Value → Option Value → Pt → Prop} (hK : Back l R p e below s args y 3 W9 Pre Post)
    {g : JFrame} (hg : g.method = m) (hsize : g.locals.size = c.maxLocals) {argsL rest : List Value} (hlen : ∀ sig, parseMethodDescriptor y.desc = some sig → argsL.length = sig.parameters.length)
    (hstack : g.stack = argsL.reverse ++ rest) (hW : 2 * g.monitorRoom + (rest.map fun v => v.category).sum ≤ W9) (hdg : decode c.code g.pc = .ok (.invokestatic index, 3))
    (hpre : ∀ vm₁, s.WarmedH vm₁ → Pre ⟨T.setVm vm₁, locs, cells, slots⟩ argsL.toArray) :
    ∃ (v : Option Value) (vm₁ : Vm) (B : Pt), s.WarmedH vm₁ ∧ Stand p l e R s m args below meth c B.U B.locs B.cells B.slots ∧ Post ⟨T.setVm vm₁, locs, cells, slots⟩ argsL.toArray v B ∧
      ∀ target, Steps p.tables e below (B.U.setTop { g with pc := g.pc + 3, stack := v.toList ++ rest }) target → Steps p.tables e below (T.setTop g) target := by
  obtain ⟨mk, methM, cM, hnamed, hmethM, -, -, -, -, -, -, hsigM⟩ := Cond.codeWith_spec hcode
  have hstatic : methM.isStatic = true := Cond.static_spec hnamed hmethM hstat
  obtain ⟨kP, hkP, -⟩ := className_of_methodNamed hnamed
  have hinitP : kP.init = .initialized := Cond.initialized_spec (findClass_of_methodNamed hnamed) hkP hinit
  obtain ⟨vm₁, X₁, hstep₁⟩ := X.invokestatic hexec hown hlink hnamed hmethM hstatic hkP hinitP hy (g := g) hg (argsL := argsL) (rest := rest) (hlen _ hsigM) hstack hdg
  obtain ⟨v, B, X', hpost, hsteps⟩ := hK m meth c ⟨T.setVm vm₁, locs, cells, slots⟩ { g with stack := rest } (.invokestatic index) mk argsL.toArray X₁ hg hsize hdg hW (X₁.named hnamed) (hpre vm₁ X₁.warmed)
  exact ⟨v, vm₁, B, X₁.warmed, X', hpost, fun target h => hstep₁ _ fun acts => by rw [doInvoke_state]; exact hsteps.trans h⟩
theorem vx_runSW {y : MethodName} {bytes cc : ByteArray} {maxL nL mc ms n index : Nat} {ret : Option FieldType} {hh : List (Nat × Nat × Nat × Nat)} {ws : List Cond} {rm : Room} {Pc : Array Value → State → Prop} {Qc : Array Value → State → Outcome → State → Prop} {free : Addr → Prop} {Ts : List Cond} {own : String} {As rest : List Value} {g : JFrame}
    (S : CallFix p m c cc nL s args Ts own) (hM : Met l y ws rm Pc Qc mc ms free) (cw : vx_CSW R s args own index y bytes maxL ret hh ws rm mc ms n) (hp : PreS s H Pc As)
    (hg : g.method = m) (hn : As.length = n) (hsize : g.locals.size = nL) (hstack : g.stack = As.reverse ++ rest) (hW : 2 * g.monitorRoom + (rest.map fun v => v.category).sum ≤ 8) (hdg : decode cc g.pc = .ok (.invokestatic index, 3)) (hf : cells + mc ≤ R.cells ∧ slots + ms ≤ R.slots) :
    va_Run p l e R s m args below meth c H locs cells slots mc ms g rest (Qc As.toArray) (free) := by
  obtain ⟨⟨hrc, hrs, hfr, hlo, hws, hcw⟩, hcode, hini, hy, hlen, hl, hstt⟩ := cw
  have hK : Back l R p e below s args y 3 8 (PreOf R mc ms Pc) (PostOf Qc mc ms free) := va_backW (hh := hh) (bytes := bytes) (maxL := maxL) (ret := ret) hM hp.1 hrc hrs hfr hlo hws hcw (fun a' U hW => word_at hW (Or.inl (by first | rfl | simp [Cond.onTables, Cond.keeps, Cond.steady])) hini)
  obtain ⟨hx, hb, hml, ho, -⟩ := S
  intro T hT X
  obtain ⟨v, vm₁, ⟨U', l2, c2, s2⟩, hW₁, X', ⟨g', mk, t, L, e1, e2, hq, h1, hL, h2, h3⟩, st⟩ := vx_callSW X hx (hh := hh) (bytes := bytes) (maxL := maxL) (ret := ret) ho hl hstt hini hcode hy hK hg (hsize.trans hml.symm) (argsL := As) (rest := rest) (fun sig h => hn.trans (hlen sig h)) hstack hW (by rw [hb]; exact hdg)
    (fun vm₁ hW₁ => ⟨hf.1, hf.2, hp.2 (T.setVm vm₁) hT hW₁⟩)
  dsimp only [Pt.U, Pt.locs, Pt.cells, Pt.slots] at X' e1 e2 h1 h2 h3 st
  subst h1; subst h2; subst h3
  exact ⟨v, (T.setVm vm₁).calling g' mk As.toArray, t, U', L, hT, X', hL, e1, e2, hq, st⟩
/-- not caught here, past rows that name other classes: it goes on to the caller -/
theorem vx_outP {p : Program} {l : Launch} {e : Env} {R : Room} {s : State} {m : MethodId} {args : Array Value} {below : List Frame} {meth : Method} {c : Code} {H : Heap} {locs : List Loc} {cells slots : Nat} {free : Addr → Prop} {ls : Array Slot} {rest : List Value} {Qc : Array Value → State → Outcome → State → Prop} {XC : String → State → State → Prop}
    {pc : Nat} {own E : String} {ce : Cell} {q : Addr} {mc ms : Nat} (hown : s.vm.findClass own = some m.cls) (hlocks : meth.locks = false)
    (hpass : ∀ z ∈ c.exceptionTable.toList, covers z pc = false ∨ (z.catchType ≠ 0 ∧ ∃ nm : String, (Cond.classLink own z.catchType nm).before args s = true ∧ va_Nc E nm s)) (hcell : H[q]? = some ce) (hv : ce.vm = .none) (hcl : s.vm.findClass E = some ce.cls)
    (hx : ∀ t : State, t.heap = H → s.vm.Alike t.vm → XC E s t) (hf : ∀ z ∈ locs, free z.base) (hc : cells ≤ mc) (hs : slots ≤ ms) :
    vx_W p l e R s m args below meth c H locs cells slots (vx_MQ below Qc XC args s mc ms free) (F0 m pc ls rest) q := by
  intro T hT X
  have hpl : e.platform.magicAccessors = ({} : Platform).magicAccessors := by rw [X.admits.platform]
  obtain ⟨vm', hW', X', st⟩ := X.outThrough hlocks q (g := F0 m pc ls rest) rfl rfl rfl (cell := ce) (by rw [hT]; exact hcell) (by rw [hv]; rfl)
    (by obtain ⟨k9, h9, -⟩ := Vm.findClass_spec hcl; exact ⟨k9, h9⟩) (fun z hz => by
      rcases hpass z hz with h | ⟨hz0, nm, hl1, hn1⟩
      · exact Or.inl h
      · obtain ⟨c6, hc6, hcl6⟩ := Cond.classLink_spec hown hl1 e.platform hpl
        obtain ⟨a8, b8, h1, h2, h3⟩ := hn1
        cases Option.some.inj (h1.symm.trans hcl)
        cases Option.some.inj (h2.symm.trans hc6)
        exact Or.inr ⟨hz0, _, hcl6, h3⟩)
  obtain ⟨g₀, hfr⟩ := X'.frames_eq
  have hcell9 : ((T.setVm vm').setFrames (.throwing q :: below)).heap[q]? = some ce := by
    show T.heap[q]? = some ce
    rw [hT]; exact hcell
  have hend : Ended ((T.setVm vm').setFrames (.throwing q :: below)) below (.threw q) := State.frames_setFrames _ (State.cur_lt_of_frames hfr)
  refine ⟨(T.setVm vm').setFrames (.throwing q :: below), ?_, .threw q, X'.here.running, hend, Or.inr ⟨q, rfl, E, ce, locs, hx _ hT (X'.ends _).1.alike, hcell9, hv, hcl, (X'.ends _).1, (X'.ends _).2.mono hc hs, hf⟩⟩
  rw [X.pushThrowing_eq]
  exact st
/-- a thing of a world lies in the heap -/
theorem vx_lt {D : va_G} {cl : List vw_C} {ws : va_W} {H1 : Heap} (h : va_P D cl ws H1) {k : Nat} {q : Nat × va_E} (hk : ws[k]? = some q) : q.1 < H1.size := (h k q hk).lt
end VXS
/-! ===== END ===== -/
/-! ===== BEGIN methods with a table of their own: called by a name, returning or throwing ===== -/
section VXH
/-! vx_backW, vx_callVX, vx_callSX, vx_callVW, vx_runVW, vx_runVX, vx_runSX, vx_ofWH follow the same proofs as their sisters above (Free/Laws.lean, Shelf42/LK1.lean); vx_outP calls Shelf42/NT130.lean (outThrough). -/
section
variable {l : Launch} {R : Room} {p : Program} {e : Env} {below : List Frame} {s : State} {sargs : Array Value} {y : MethodName} {len W9 : Nat}
theorem vx_backW {ws : List Cond} {rm : Room} {Pc : Array Value → State → Prop} {Qc : Array Value → State → Outcome → State → Prop} {XC : String → State → State → Prop} {mc ms : Nat} {free : Addr → Prop} {bytes : ByteArray} {maxL : Nat} {ret : Option FieldType} {hh : List (Nat × Nat × Nat × Nat)}
    (hM : vx_Met l y ws rm Pc Qc XC mc ms free) (hblind : FrameBlind Pc) (hrc : rm.cells = mc) (hrs : rm.slots = ms)
    (hframes : rm.frames + 1 ≤ R.frames) (hlocals : W9 + (maxL + 11) + rm.locals ≤ R.locals)
    (hws : ∀ w ∈ ws, ∀ a' U, s.WarmedH U.vm → w.before a' U = true) (hcode : Cond.codeWith y bytes maxL ret hh ∈ ws) (hinit : ∀ a' U, s.WarmedH U.vm → (Cond.initialized y.cls).before a' U = true) :
    vx_Back l R p e below s sargs y len W9 (PreOf R mc ms Pc) (PostOf Qc mc ms free) (vx_Post XC mc ms free) := by
  intro m meth c A g ig mk a X hg hsize hdg hW hn hp
  have h1 : (headSpec ws rm).pre.before a A.U = true := atoms_intro fun w hw => hws w hw _ _ X.warmed
  have h2 : (Cond.codeWith y bytes maxL ret hh).before a A.U = true := hws _ hcode _ _ X.warmed
  have h3 : (Cond.initialized y.cls).before a A.U = true := hinit _ _ X.warmed
  have h4 : A.cells + (headSpec ws rm).room.cells ≤ R.cells := by rw [show (headSpec ws rm).room.cells = mc from hrc]; exact hp.1
  have h5 : A.slots + (headSpec ws rm).room.slots ≤ R.slots := by rw [show (headSpec ws rm).room.slots = ms from hrs]; exact hp.2.1
  have hPc : Pc a (A.U.calling g mk a) := hblind _ _ _ _ hp.2.2
  obtain ⟨U, Ls, c0, s0⟩ := A
  dsimp only [Pt.U, Pt.locs, Pt.cells, Pt.slots] at h1 h2 h3 h4 h5 X hn hPc ⊢
  obtain ⟨m9, methY, cY, hn9, hmY, hcY, -, hlY, -⟩ := Cond.codeWith_spec h2
  cases Option.some.inj (hn9.symm.trans hn)
  obtain ⟨kY, hkY, -⟩ := className_of_methodNamed hn
  have hinitY : kY.init = .initialized := Cond.initialized_spec (findClass_of_methodNamed hn) hkY h3
  have h : At U g.method c below := by rw [hg]; exact X.here
  have hlocals9 : W9 + (maxL + 11) + (headSpec ws rm).room.locals ≤ R.locals := hlocals
  have happ : (headSpec ws rm).appliesLoose y e.platform (U.calling g mk a) = true :=
    Spec.appliesLoose_calling (g := g) h hdg hn hkY hinitY
      (X.room_calling (g := g) (R' := (headSpec ws rm).room) hsize hmY hcY hframes (by rw [hlY]; omega) h4 h5) h1
  obtain ⟨mid, hmid⟩ := h.above
  have hfr : (U.setTop g).frames = (.java g :: mid) ++ below := by rw [State.frames_setTop' g h.top, hmid]; rfl
  obtain ⟨o, s₂, hsteps, -, hend, hq⟩ := Steps.callFree hM p X.admits X.cas X.clock (acts := []) hfr happ hPc trivial
  have hq' : vx_Q Qc XC mc ms free a (U.calling g mk a) o s₂ := hq
  rw [State.frames_setTop' g h.top] at hend
  obtain ⟨g₀, hg0⟩ := Option.isSome_iff_exists.mp h.top
  obtain ⟨r, hr⟩ := State.topJava?_eq_some.mp hg0
  have hr' : (({ U with heap := s₂.heap, slotsUsed := s₂.slotsUsed } : State).setVm s₂.vm).frames = .java g₀ :: r := hr
  rcases hq' with ⟨hqc, L, hfe, hL⟩ | ⟨q, rfl, E, ce, L, hx, hce, hcv, hcl, hW₂, hsm, hL⟩
  · obtain ⟨⟨v, rfl⟩, hW₂, e2, q2, q3, q4, q5, q6⟩ := id hfe
    have e3 : s₂ = ({ (U.calling g mk a).setFrames s₂.frames with heap := s₂.heap, slotsUsed := s₂.slotsUsed } : State).setVm s₂.vm := by
      have : s₂ = ({ s₂ with vm := (U.calling g mk a).vm } : State).setVm s₂.vm := rfl
      rw [e2] at this
      exact this
    obtain ⟨c₂, i₂, len₂, hc₂, hd₂, hf₂⟩ := hend
    have hW' : U.WarmedH s₂.vm := hW₂
    have hcc : c₂ = c := by
      have h1 : s₂.code? g.method = U.code? g.method := by
        rw [State.code?_eq, State.code?_eq, hW'.alike.method?]
      exact Option.some.inj (hc₂.symm.trans (h1.trans h.code))
    subst hcc
    have hlen : len₂ = len := by rw [hdg] at hd₂; cases hd₂; rfl
    subst hlen
    have hs₂ : s₂ = (({ U with heap := s₂.heap, slotsUsed := s₂.slotsUsed } : State).setVm s₂.vm).setTop { g with pc := g.pc + len₂, stack := v.toList ++ g.stack } := by
      refine e3.trans ?_
      rw [hf₂, State.calling_eq h.top, State.setFrames_setFrames, State.setTop_of_frames _ hr', hr]
      rfl
    have hsame : U.sameButNew ({ U with heap := s₂.heap, slotsUsed := s₂.slotsUsed } : State) L mc ms := by
      refine ⟨?_, q2, q3, q4, q5, q6⟩
      obtain ⟨t, ht, -⟩ := State.frames_cons hr
      show ({ U with heap := s₂.heap, slotsUsed := s₂.slotsUsed } : State) = { U.setFrames U.frames with heap := s₂.heap, slotsUsed := s₂.slotsUsed }
      rw [State.setFrames_self ht]
    subst hg
    refine Or.inl ⟨v, ⟨(({ U with heap := s₂.heap, slotsUsed := s₂.slotsUsed } : State).setVm s₂.vm), Ls ++ L, c0 + mc, s0 + ms⟩,
      ⟨X.admits, X.cas, X.clock, X.frames, X.room, X.hears, X.method, X.code, (X.here.setHeapUsed s₂.heap s₂.slotsUsed).setVm hW'.alike, X.tail, State.WarmedH.trans X.warmed hW', X.limits, X.bytes, X.same.trans (hsame.setVm s.vm)⟩,
      ⟨g, mk, s₂, L, rfl, rfl, hqc, rfl, hL, rfl, rfl⟩, ?_⟩
    show Steps p.tables e below _ ((({ U with heap := s₂.heap, slotsUsed := s₂.slotsUsed } : State).setVm s₂.vm).setTop { g with pc := g.pc + len₂, stack := v.toList ++ g.stack })
    rw [← hs₂]
    exact hsteps
  · obtain ⟨e2, q2, q3, q4, q5, q6⟩ := id hsm
    have e3 : s₂ = ({ (U.calling g mk a).setFrames s₂.frames with heap := s₂.heap, slotsUsed := s₂.slotsUsed } : State).setVm s₂.vm := by
      have : s₂ = ({ s₂ with vm := (U.calling g mk a).vm } : State).setVm s₂.vm := rfl
      rw [e2] at this
      exact this
    have hf₂ : s₂.frames = .throwing q :: .java g :: U.frames.tail := hend
    have hW' : U.WarmedH s₂.vm := hW₂
    have hs₂ : s₂ = ((({ U with heap := s₂.heap, slotsUsed := s₂.slotsUsed } : State).setVm s₂.vm).setTop g).pushFrame (.throwing q) := by
      refine e3.trans ?_
      rw [hf₂, State.calling_eq h.top, State.setFrames_setFrames, State.pushFrame, State.frames_setTop _ hr', State.setTop_of_frames _ hr', State.setFrames_setFrames, hr]
      rfl
    have hsame : U.sameButNew ({ U with heap := s₂.heap, slotsUsed := s₂.slotsUsed } : State) L mc ms := by
      refine ⟨?_, q2, q3, q4, q5, q6⟩
      obtain ⟨t, ht, -⟩ := State.frames_cons hr
      show ({ U with heap := s₂.heap, slotsUsed := s₂.slotsUsed } : State) = { U.setFrames U.frames with heap := s₂.heap, slotsUsed := s₂.slotsUsed }
      rw [State.setFrames_self ht]
    subst hg
    refine Or.inr ⟨q, ⟨(({ U with heap := s₂.heap, slotsUsed := s₂.slotsUsed } : State).setVm s₂.vm), Ls ++ L, c0 + mc, s0 + ms⟩,
      ⟨X.admits, X.cas, X.clock, X.frames, X.room, X.hears, X.method, X.code, (X.here.setHeapUsed s₂.heap s₂.slotsUsed).setVm hW'.alike, X.tail, State.WarmedH.trans X.warmed hW', X.limits, X.bytes, X.same.trans (hsame.setVm s.vm)⟩,
      ⟨g, mk, s₂, L, E, ce, rfl, rfl, hx, hce, hcv, hcl, rfl, hL, rfl, rfl⟩, ?_⟩
    show Steps p.tables e below _ (((({ U with heap := s₂.heap, slotsUsed := s₂.slotsUsed } : State).setVm s₂.vm).setTop g).pushFrame (.throwing q))
    rw [← hs₂]
    exact hsteps
end
variable {p : Program} {l : Launch} {e : Env} {R : Room} {s : State} {m : MethodId} {args : Array Value} {below : List Frame} {meth : Method} {c : Code} {T : State} {H : Heap} {locs : List Loc} {cells slots : Nat}
theorem vx_callVX (X : Stand p l e R s m args below meth c T locs cells slots) (hexec : p.tables.exec = Jvm.exec) {own C : String} {index : Nat} {y : MethodName} {bytes : ByteArray} {maxL : Nat} {ret : Option FieldType} {hh : List (Nat × Nat × Nat × Nat)}
    (hown : s.vm.findClass own = some m.cls) (hlink : (Cond.methodLink own index y).before args s = true) (hinst : (Cond.instanceMethod y).before args s = true) (hsel : (Cond.selects C y y).before args s = true)
    (hcode : (Cond.codeWith y bytes maxL ret hh).before args s = true) (hy : y.cls ≠ "java/lang/invoke/MethodHandle" ∧ y.cls ≠ "java/lang/invoke/VarHandle")
    {W9 : Nat} {Pre : Pt → Array Value → Prop} {Post : Pt → Array Value → Option Value → Pt → Prop} {PostX : Pt → Array Value → Addr → Pt → Prop} (hK : vx_Back l R p e below s args y 3 W9 Pre Post PostX)
    {b : Addr} {cellB : Cell} (hcell : T.heap[b]? = some cellB) (hobj : cellB.vm.isStatics = false) (hcls : s.vm.findClass C = some cellB.cls)
    {g : JFrame} (hg : g.method = m) (hsize : g.locals.size = c.maxLocals) {argsL rest : List Value} (hlen : ∀ sig, parseMethodDescriptor y.desc = some sig → argsL.length = sig.parameters.length)
    (hstack : g.stack = argsL.reverse ++ .ref b :: rest) (hW : 2 * g.monitorRoom + (rest.map fun v => v.category).sum ≤ W9) (hdg : decode c.code g.pc = .ok (.invokevirtual index, 3))
    (hpre : ∀ vm₁, s.WarmedH vm₁ → Pre ⟨T.setVm vm₁, locs, cells, slots⟩ (Value.ref b :: argsL).toArray) :
    (∃ (v : Option Value) (vm₁ : Vm) (B : Pt), s.WarmedH vm₁ ∧ Stand p l e R s m args below meth c B.U B.locs B.cells B.slots ∧ Post ⟨T.setVm vm₁, locs, cells, slots⟩ (Value.ref b :: argsL).toArray v B ∧
      ∀ target, Steps p.tables e below (B.U.setTop { g with pc := g.pc + 3, stack := v.toList ++ rest }) target → Steps p.tables e below (T.setTop g) target) ∨
    (∃ (q : Addr) (vm₁ : Vm) (B : Pt), s.WarmedH vm₁ ∧ Stand p l e R s m args below meth c B.U B.locs B.cells B.slots ∧ PostX ⟨T.setVm vm₁, locs, cells, slots⟩ (Value.ref b :: argsL).toArray q B ∧
      Steps p.tables e below (T.setTop g) ((B.U.setTop { g with stack := rest }).pushFrame (.throwing q))) := by
  obtain ⟨mk, methM, hnamed, hmethM, hstM, habM⟩ := Cond.instanceMethod_spec hinst
  obtain ⟨m8, methM', cM, hn8, hmethM', -, -, -, -, -, -, hsigM⟩ := Cond.codeWith_spec hcode
  cases Option.some.inj (hn8.symm.trans hnamed)
  cases hmethM.symm.trans hmethM'
  obtain ⟨c2, r2, m2, q1, q2, q3, q4, kP, hkP, hkPi⟩ := Cond.selects_spec hsel
  cases hcls.symm.trans q1
  cases (State.methodFound?_of_named hnamed hy).symm.trans q2
  cases hnamed.symm.trans q3
  have hselP : selectMethod e.platform s.vm cellB.cls mk = .method mk := by rw [Launch.admits_selectMethod X.admits]; exact q4
  obtain ⟨vm₁, X₁, hstep₁⟩ := X.invokevirtual hexec hown hlink hnamed hmethM hstM hkP hkPi hy (a := b) (cell := cellB) hcell
    (fun z h => by rw [h] at hobj; cases hobj) hselP hmethM habM hkP hkPi (g := g) hg (argsL := argsL) (rest := rest) (hlen _ hsigM) hstack hdg
  rcases hK m meth c ⟨T.setVm vm₁, locs, cells, slots⟩ { g with stack := rest } (.invokevirtual index) mk (Value.ref b :: argsL).toArray X₁ hg hsize hdg hW (X₁.named hnamed) (hpre vm₁ X₁.warmed) with ⟨v, B, X', hpost, hsteps⟩ | ⟨q, B, X', hpost, hsteps⟩
  · exact Or.inl ⟨v, vm₁, B, X₁.warmed, X', hpost, fun target h => hstep₁ _ fun acts => by rw [doInvoke_state]; exact hsteps.trans h⟩
  · exact Or.inr ⟨q, vm₁, B, X₁.warmed, X', hpost, hstep₁ _ fun acts => by rw [doInvoke_state]; exact hsteps⟩
theorem vx_callSX (X : Stand p l e R s m args below meth c T locs cells slots) (hexec : p.tables.exec = Jvm.exec) {own : String} {index : Nat} {y : MethodName} {bytes : ByteArray} {maxL : Nat} {ret : Option FieldType} {hh : List (Nat × Nat × Nat × Nat)}
    (hown : s.vm.findClass own = some m.cls) (hlink : (Cond.methodLink own index y).before args s = true) (hstat : (Cond.static y).before args s = true) (hinit : (Cond.initialized y.cls).before args s = true)
    (hcode : (Cond.codeWith y bytes maxL ret hh).before args s = true) (hy : y.cls ≠ "java/lang/invoke/MethodHandle" ∧ y.cls ≠ "java/lang/invoke/VarHandle")
    {W9 : Nat} {Pre : Pt → Array Value → Prop} {Post : Pt → Array Value → Option Value → Pt → Prop} {PostX : Pt → Array Value → Addr → Pt → Prop} (hK : vx_Back l R p e below s args y 3 W9 Pre Post PostX)
    {g : JFrame} (hg : g.method = m) (hsize : g.locals.size = c.maxLocals) {argsL rest : List Value} (hlen : ∀ sig, parseMethodDescriptor y.desc = some sig → argsL.length = sig.parameters.length)
    (hstack : g.stack = argsL.reverse ++ rest) (hW : 2 * g.monitorRoom + (rest.map fun v => v.category).sum ≤ W9) (hdg : decode c.code g.pc = .ok (.invokestatic index, 3))
    (hpre : ∀ vm₁, s.WarmedH vm₁ → Pre ⟨T.setVm vm₁, locs, cells, slots⟩ argsL.toArray) :
    (∃ (v : Option Value) (vm₁ : Vm) (B : Pt), s.WarmedH vm₁ ∧ Stand p l e R s m args below meth c B.U B.locs B.cells B.slots ∧ Post ⟨T.setVm vm₁, locs, cells, slots⟩ argsL.toArray v B ∧
      ∀ target, Steps p.tables e below (B.U.setTop { g with pc := g.pc + 3, stack := v.toList ++ rest }) target → Steps p.tables e below (T.setTop g) target) ∨
    (∃ (q : Addr) (vm₁ : Vm) (B : Pt), s.WarmedH vm₁ ∧ Stand p l e R s m args below meth c B.U B.locs B.cells B.slots ∧ PostX ⟨T.setVm vm₁, locs, cells, slots⟩ argsL.toArray q B ∧
      Steps p.tables e below (T.setTop g) ((B.U.setTop { g with stack := rest }).pushFrame (.throwing q))) := by
  obtain ⟨mk, methM, cM, hnamed, hmethM, -, -, -, -, -, -, hsigM⟩ := Cond.codeWith_spec hcode
  have hstatic : methM.isStatic = true := Cond.static_spec hnamed hmethM hstat
  obtain ⟨kP, hkP, -⟩ := className_of_methodNamed hnamed
  have hinitP : kP.init = .initialized := Cond.initialized_spec (findClass_of_methodNamed hnamed) hkP hinit
  obtain ⟨vm₁, X₁, hstep₁⟩ := X.invokestatic hexec hown hlink hnamed hmethM hstatic hkP hinitP hy (g := g) hg (argsL := argsL) (rest := rest) (hlen _ hsigM) hstack hdg
  rcases hK m meth c ⟨T.setVm vm₁, locs, cells, slots⟩ { g with stack := rest } (.invokestatic index) mk argsL.toArray X₁ hg hsize hdg hW (X₁.named hnamed) (hpre vm₁ X₁.warmed) with ⟨v, B, X', hpost, hsteps⟩ | ⟨q, B, X', hpost, hsteps⟩
  · exact Or.inl ⟨v, vm₁, B, X₁.warmed, X', hpost, fun target h => hstep₁ _ fun acts => by rw [doInvoke_state]; exact hsteps.trans h⟩
  · exact Or.inr ⟨q, vm₁, B, X₁.warmed, X', hpost, hstep₁ _ fun acts => by rw [doInvoke_state]; exact hsteps⟩
theorem vx_callVW (X : Stand p l e R s m args below meth c T locs cells slots) (hexec : p.tables.exec = Jvm.exec) {own C : String} {index : Nat} {y : MethodName} {bytes : ByteArray} {maxL : Nat} {ret : Option FieldType} {hh : List (Nat × Nat × Nat × Nat)}
    (hown : s.vm.findClass own = some m.cls) (hlink : (Cond.methodLink own index y).before args s = true) (hinst : (Cond.instanceMethod y).before args s = true) (hsel : (Cond.selects C y y).before args s = true)
    (hcode : (Cond.codeWith y bytes maxL ret hh).before args s = true) (hy : y.cls ≠ "java/lang/invoke/MethodHandle" ∧ y.cls ≠ "java/lang/invoke/VarHandle")
    {W9 : Nat} {Pre : Pt → Array Value → Prop} {Post : Pt → Array Value → Option Value → Pt → Prop} (hK : Back l R p e below s args y 3 W9 Pre Post)
    {b : Addr} {cellB : Cell} (hcell : T.heap[b]? = some cellB) (hobj : cellB.vm.isStatics = false) (hcls : s.vm.findClass C = some cellB.cls)
    {g : JFrame} (hg : g.method = m) (hsize : g.locals.size = c.maxLocals) {argsL rest : List Value} (hlen : ∀ sig, parseMethodDescriptor y.desc = some sig → argsL.length = sig.parameters.length)
    (hstack : g.stack = argsL.reverse ++ .ref b :: rest) (hW : 2 * g.monitorRoom + (rest.map fun v => v.category).sum ≤ W9) (hdg : decode c.code g.pc = .ok (.invokevirtual index, 3))
    (hpre : ∀ vm₁, s.WarmedH vm₁ → Pre ⟨T.setVm vm₁, locs, cells, slots⟩ (Value.ref b :: argsL).toArray) :
    ∃ (v : Option Value) (vm₁ : Vm) (B : Pt), s.WarmedH vm₁ ∧ Stand p l e R s m args below meth c B.U B.locs B.cells B.slots ∧ Post ⟨T.setVm vm₁, locs, cells, slots⟩ (Value.ref b :: argsL).toArray v B ∧
      ∀ target, Steps p.tables e below (B.U.setTop { g with pc := g.pc + 3, stack := v.toList ++ rest }) target → Steps p.tables e below (T.setTop g) target := by
  obtain ⟨mk, methM, hnamed, hmethM, hstM, habM⟩ := Cond.instanceMethod_spec hinst
  obtain ⟨m8, methM', cM, hn8, hmethM', -, -, -, -, -, -, hsigM⟩ := Cond.codeWith_spec hcode
  cases Option.some.inj (hn8.symm.trans hnamed)
  cases hmethM.symm.trans hmethM'
  obtain ⟨c2, r2, m2, q1, q2, q3, q4, kP, hkP, hkPi⟩ := Cond.selects_spec hsel
  cases hcls.symm.trans q1
  cases (State.methodFound?_of_named hnamed hy).symm.trans q2
  cases hnamed.symm.trans q3
  have hselP : selectMethod e.platform s.vm cellB.cls mk = .method mk := by rw [Launch.admits_selectMethod X.admits]; exact q4
  obtain ⟨vm₁, X₁, hstep₁⟩ := X.invokevirtual hexec hown hlink hnamed hmethM hstM hkP hkPi hy (a := b) (cell := cellB) hcell
    (fun z h => by rw [h] at hobj; cases hobj) hselP hmethM habM hkP hkPi (g := g) hg (argsL := argsL) (rest := rest) (hlen _ hsigM) hstack hdg
  obtain ⟨v, B, X', hpost, hsteps⟩ := hK m meth c ⟨T.setVm vm₁, locs, cells, slots⟩ { g with stack := rest } (.invokevirtual index) mk (Value.ref b :: argsL).toArray X₁ hg hsize hdg hW (X₁.named hnamed) (hpre vm₁ X₁.warmed)
  exact ⟨v, vm₁, B, X₁.warmed, X', hpost, fun target h => hstep₁ _ fun acts => by rw [doInvoke_state]; exact hsteps.trans h⟩
abbrev vx_CVW (R : Room) (s : State) (args : Array Value) (own C : String) (index : Nat) (y : MethodName) (bytes : ByteArray) (maxL : Nat) (ret : Option FieldType) (hh : List (Nat × Nat × Nat × Nat)) (ws : List Cond) (rm : Room) (mc ms n : Nat) : Prop :=
  (rm.cells = mc ∧ rm.slots = ms ∧ rm.frames + 1 ≤ R.frames ∧ 8 + (maxL + 11) + rm.locals ≤ R.locals ∧ (∀ w ∈ ws, ∀ (a' : Array Value) (U : State), s.WarmedH U.vm → w.before a' U = true) ∧ Cond.codeWith y bytes maxL ret hh ∈ ws) ∧
  (Cond.codeWith y bytes maxL ret hh).before args s = true ∧ (Cond.initialized y.cls).before args s = true ∧ (y.cls ≠ "java/lang/invoke/MethodHandle" ∧ y.cls ≠ "java/lang/invoke/VarHandle") ∧
  (∀ sig, parseMethodDescriptor y.desc = some sig → n = sig.parameters.length) ∧ (Cond.methodLink own index y).before args s = true ∧ (Cond.instanceMethod y).before args s = true ∧ (Cond.selects C y y).before args s = true
theorem vx_cwVW {own C : String} {index maxL mc ms : Nat} {y : MethodName} {bytes : ByteArray} {ret : Option FieldType} {hh : List (Nat × Nat × Nat × Nat)} {Ts ws ws' : List Cond} {rm : Room} (n : Nat) (ht : ∀ w ∈ Ts, w.before args s = true) (hT : GoodIn Ts (wsV own index C y ws)) (hw : ws = Cond.codeWith y bytes maxL ret hh :: ws') (hrc : rm.cells = mc) (hrs : rm.slots = ms)
    (hd : y.cls = C ∧ y.cls ≠ "java/lang/invoke/MethodHandle" ∧ y.cls ≠ "java/lang/invoke/VarHandle" ∧ (parseMethodDescriptor y.desc).map (fun d => d.parameters.length) = some n) (hR : rm.frames + 1 ≤ R.frames ∧ 8 + (maxL + 11) + rm.locals ≤ R.locals) :
    vx_CVW R s args own C index y bytes maxL ret hh ws rm mc ms n := by
  obtain ⟨hC, hd⟩ := hd
  subst hC
  have ok : ∀ w ∈ wsV own index y.cls y ws, w.before args s = true := fun w h => ht w (hT w h).1
  have hG : GoodIn Ts ws := fun w h => hT w (by unfold wsV; exact List.mem_append_right _ h)
  have hc : Cond.codeWith y bytes maxL ret hh ∈ ws := by rw [hw]; exact List.mem_cons_self
  refine ⟨⟨hrc, hrs, hR.1, hR.2, pay_in ht hG, hc⟩, ht _ (hG _ hc).1, ok _ (by simp [wsV]), ⟨hd.1, hd.2.1⟩, fun sig h => ?_, ok _ (by simp [wsV]), ok _ (by simp [wsV]), ok _ (by simp [wsV])⟩
  have h2 := hd.2.2
  rw [h] at h2
  exact (Option.some.inj h2).symm
theorem vx_runVW {y : MethodName} {bytes cc : ByteArray} {maxL nL mc ms n index : Nat} {ret : Option FieldType} {hh : List (Nat × Nat × Nat × Nat)} {ws : List Cond} {rm : Room} {Pc : Array Value → State → Prop} {Qc : Array Value → State → Outcome → State → Prop} {free : Addr → Prop} {Ts : List Cond} {own C : String} {b : Addr} {As rest : List Value} {g : JFrame}
    (S : CallFix p m c cc nL s args Ts own) (hM : Met l y ws rm Pc Qc mc ms free) (cw : vx_CVW R s args own C index y bytes maxL ret hh ws rm mc ms n) (hp : PreV s H C b Pc As)
    (hg : g.method = m) (hn : As.length = n) (hsize : g.locals.size = nL) (hstack : g.stack = As.reverse ++ .ref b :: rest) (hW : 2 * g.monitorRoom + (rest.map fun v => v.category).sum ≤ 8) (hdg : decode cc g.pc = .ok (.invokevirtual index, 3)) (hf : cells + mc ≤ R.cells ∧ slots + ms ≤ R.slots) :
    va_Run p l e R s m args below meth c H locs cells slots mc ms g rest (Qc (Value.ref b :: As).toArray) free := by
  obtain ⟨⟨hrc, hrs, hfr, hlo, hws, hcw⟩, hcode, hini, hy, hlen, hl, hin, hse⟩ := cw
  have hK : Back l R p e below s args y 3 8 (PreOf R mc ms Pc) (PostOf Qc mc ms free) := va_backW (hh := hh) (bytes := bytes) (maxL := maxL) (ret := ret) hM hp.1 hrc hrs hfr hlo hws hcw (fun a' U hW => word_at hW (Or.inl (by first | rfl | simp [Cond.onTables, Cond.keeps, Cond.steady])) hini)
  obtain ⟨hx, hb, hml, ho, -⟩ := S
  obtain ⟨-, ⟨cellB, hcB, hoB, hclB⟩, hPc⟩ := hp
  intro T hT X
  obtain ⟨v, vm₁, ⟨U', l2, c2, s2⟩, hW₁, X', ⟨g', mk, t, L, e1, e2, hq, h1, hL, h2, h3⟩, st⟩ := vx_callVW X hx (C := C) (hh := hh) (bytes := bytes) (maxL := maxL) (ret := ret) ho hl hin hse hcode hy hK (by rw [hT]; exact hcB) hoB hclB hg (hsize.trans hml.symm) (argsL := As) (rest := rest) (fun sig h => hn.trans (hlen sig h)) hstack hW (by rw [hb]; exact hdg)
    (fun vm₁ hW₁ => ⟨hf.1, hf.2, hPc (T.setVm vm₁) hT hW₁⟩)
  dsimp only [Pt.U, Pt.locs, Pt.cells, Pt.slots] at X' e1 e2 h1 h2 h3 st
  subst h1; subst h2; subst h3
  exact ⟨v, (T.setVm vm₁).calling g' mk (Value.ref b :: As).toArray, t, U', L, hT, X', hL, e1, e2, hq, st⟩
section
variable {y : MethodName} {bytes cc : ByteArray} {maxL nL mc ms n index : Nat} {ret : Option FieldType} {ws : List Cond} {rm : Room} {Pc : Array Value → State → Prop} {Qc : Array Value → State → Outcome → State → Prop} {XC : String → State → State → Prop} {free : Addr → Prop} {Ts : List Cond} {own C : String} {b : Addr} {As rest : List Value} {g : JFrame}
theorem vx_runVX {hh : List (Nat × Nat × Nat × Nat)} (S : CallFix p m c cc nL s args Ts own) (hM : vx_Met l y ws rm Pc Qc XC mc ms free) (cw : vx_CVW R s args own C index y bytes maxL ret hh ws rm mc ms n) (hp : PreV s H C b Pc As)
    (hg : g.method = m) (hn : As.length = n) (hsize : g.locals.size = nL) (hstack : g.stack = As.reverse ++ .ref b :: rest) (hW : 2 * g.monitorRoom + (rest.map fun v => v.category).sum ≤ 8) (hdg : decode cc g.pc = .ok (.invokevirtual index, 3)) (hf : cells + mc ≤ R.cells ∧ slots + ms ≤ R.slots) :
    vx_Run p l e R s m args below meth c H locs cells slots mc ms g rest (Qc (Value.ref b :: As).toArray) XC free := by
  obtain ⟨⟨hrc, hrs, hfr, hlo, hws, hcw⟩, hcode, hini, hy, hlen, hl, hin, hse⟩ := cw
  have hK : vx_Back l R p e below s args y 3 8 (PreOf R mc ms Pc) (PostOf Qc mc ms free) (vx_Post XC mc ms free) := vx_backW (hh := hh) (bytes := bytes) (maxL := maxL) (ret := ret) hM hp.1 hrc hrs hfr hlo hws hcw (fun a' U hW => word_at hW (Or.inl (by first | rfl | simp [Cond.onTables, Cond.keeps, Cond.steady])) hini)
  obtain ⟨hx, hb, hml, ho, -⟩ := S
  obtain ⟨-, ⟨cellB, hcB, hoB, hclB⟩, hPc⟩ := hp
  intro T hT X
  rcases vx_callVX X hx (C := C) (hh := hh) (bytes := bytes) (maxL := maxL) (ret := ret) ho hl hin hse hcode hy hK (by rw [hT]; exact hcB) hoB hclB hg (hsize.trans hml.symm) (argsL := As) (rest := rest) (fun sig h => hn.trans (hlen sig h)) hstack hW (by rw [hb]; exact hdg)
    (fun vm₁ hW₁ => ⟨hf.1, hf.2, hPc (T.setVm vm₁) hT hW₁⟩) with ⟨v, vm₁, ⟨U', l2, c2, s2⟩, hW₁, X', ⟨g', mk, t, L, e1, e2, hq, h1, hL, h2, h3⟩, st⟩ | ⟨q, vm₁, ⟨U', l2, c2, s2⟩, hW₁, X', ⟨g', mk, t, L, E, ce, e1, e2, hq, hce, hcv, hcl, h1, hL, h2, h3⟩, st⟩
  · dsimp only [Pt.U, Pt.locs, Pt.cells, Pt.slots] at X' e1 e2 h1 h2 h3 st
    subst h1; subst h2; subst h3
    exact Or.inl ⟨v, (T.setVm vm₁).calling g' mk (Value.ref b :: As).toArray, t, U', L, hT, X', hL, e1, e2, hq, st⟩
  · dsimp only [Pt.U, Pt.locs, Pt.cells, Pt.slots] at X' e1 e2 h1 h2 h3 st hcl
    subst h1; subst h2; subst h3
    exact Or.inr ⟨q, (T.setVm vm₁).calling g' mk (Value.ref b :: As).toArray, t, U', L, E, ce, hT, X', hL, e1, e2, hq, hce, hcv, vx_cls hW₁ hcl, st⟩
theorem vx_runSX {hh : List (Nat × Nat × Nat × Nat)} (S : CallFix p m c cc nL s args Ts own) (hM : vx_Met l y ws rm Pc Qc XC mc ms free) (cw : vx_CSW R s args own index y bytes maxL ret hh ws rm mc ms n) (hp : PreS s H Pc As)
    (hg : g.method = m) (hn : As.length = n) (hsize : g.locals.size = nL) (hstack : g.stack = As.reverse ++ rest) (hW : 2 * g.monitorRoom + (rest.map fun v => v.category).sum ≤ 8) (hdg : decode cc g.pc = .ok (.invokestatic index, 3)) (hf : cells + mc ≤ R.cells ∧ slots + ms ≤ R.slots) :
    vx_Run p l e R s m args below meth c H locs cells slots mc ms g rest (Qc As.toArray) XC free := by
  obtain ⟨⟨hrc, hrs, hfr, hlo, hws, hcw⟩, hcode, hini, hy, hlen, hl, hstt⟩ := cw
  have hK : vx_Back l R p e below s args y 3 8 (PreOf R mc ms Pc) (PostOf Qc mc ms free) (vx_Post XC mc ms free) := vx_backW (hh := hh) (bytes := bytes) (maxL := maxL) (ret := ret) hM hp.1 hrc hrs hfr hlo hws hcw (fun a' U hW => word_at hW (Or.inl (by first | rfl | simp [Cond.onTables, Cond.keeps, Cond.steady])) hini)
  obtain ⟨hx, hb, hml, ho, -⟩ := S
  intro T hT X
  rcases vx_callSX X hx (hh := hh) (bytes := bytes) (maxL := maxL) (ret := ret) ho hl hstt hini hcode hy hK hg (hsize.trans hml.symm) (argsL := As) (rest := rest) (fun sig h => hn.trans (hlen sig h)) hstack hW (by rw [hb]; exact hdg)
    (fun vm₁ hW₁ => ⟨hf.1, hf.2, hp.2 (T.setVm vm₁) hT hW₁⟩) with ⟨v, vm₁, ⟨U', l2, c2, s2⟩, hW₁, X', ⟨g', mk, t, L, e1, e2, hq, h1, hL, h2, h3⟩, st⟩ | ⟨q, vm₁, ⟨U', l2, c2, s2⟩, hW₁, X', ⟨g', mk, t, L, E, ce, e1, e2, hq, hce, hcv, hcl, h1, hL, h2, h3⟩, st⟩
  · dsimp only [Pt.U, Pt.locs, Pt.cells, Pt.slots] at X' e1 e2 h1 h2 h3 st
    subst h1; subst h2; subst h3
    exact Or.inl ⟨v, (T.setVm vm₁).calling g' mk As.toArray, t, U', L, hT, X', hL, e1, e2, hq, st⟩
  · dsimp only [Pt.U, Pt.locs, Pt.cells, Pt.slots] at X' e1 e2 h1 h2 h3 st hcl
    subst h1; subst h2; subst h3
    exact Or.inr ⟨q, (T.setVm vm₁).calling g' mk As.toArray, t, U', L, E, ce, hT, X', hL, e1, e2, hq, hce, hcv, vx_cls hW₁ hcl, st⟩
end
end VXH
theorem vx_ofWH {l : Launch} {y : MethodName} {ws ws' : List Cond} {rm : Room} {Pc : Array Value → State → Prop} {Qc : Array Value → State → Outcome → State → Prop} {XC : String → State → State → Prop} {mc ms : Nat} {free : Addr → Prop} {cc : ByteArray} {maxL : Nat} {ret : Option FieldType} {hh : List (Nat × Nat × Nat × Nat)}
    (hy : plainName y.cls = true) (hw : ws = Cond.codeWith y cc maxL ret hh :: ws')
    (body : ∀ p e s m args below meth c s₁, BodyLoose p l y (headSpec ws rm) cc maxL ret e s m args below meth c s₁ → c.maxLocals = maxL → Pc args s →
      W p l e (headSpec ws rm).room s m args below meth c s.heap [] 0 0 (vx_MQ below Qc XC args s mc ms free) (entryFrame m args maxL)) : vx_Met l y ws rm Pc Qc XC mc ms free := by
  refine MetFree.of_bodyS (code := cc) (maxLocals := maxL) (ret := ret) hy ?_ ?_
  · intro args s m h hn
    obtain ⟨m9, meth, c, hn9, h1, h2, h3, h4, -, h5, h6, -⟩ := Cond.codeWith_spec (atoms_spec (ws := ws) h _ (by rw [hw]; exact List.mem_cons_self))
    cases hn.symm.trans hn9
    exact ⟨meth, c, h1, h2, h3, h4, h5, h6⟩
  · intro p e s m args below meth c s₁ B hml hP _
    have hh0 : s₁.heap = s.heap := by rw [B.state]; rfl
    obtain ⟨t, a1, o, b1, b2, b3⟩ := body p e s m args below meth c s₁ B hml hP s₁ hh0 (Stand.of_body B)
    exact ⟨t, o, a1, b1, b2, b3⟩
/-! ===== END ===== -/

/-! ===== BEGIN printed: names, fields, word lists, decode rows ===== -/
def RX0 : String := "ArchivistTricks$Archivist"
def TX0 : u_T := fun k => match k with
  | 0 => ("ArchivistTricks$Archivist", "hand", "J", false)
  | 1 => ("ArchivistTricks$Archivist", "taken", "J", false)
  | 2 => ("ArchivistTricks$Archivist", "points", "I", false)
  | 3 => ("ArchivistTricks$Archivist", "tricks", "I", false)
  | _ => ("ArchivistTricks$Archivist", "gloves", "I", false)
def tyX0 : Nat → FieldType := fun k => match k with
  | 0 => .long
  | 1 => .long
  | 2 => .int
  | 3 => .int
  | _ => .int
abbrev wsX00 : List Cond := u_ws RX0 TX0 5
theorem nmX0 : ∀ a, a < 5 → ∀ b, b < 5 → a ≠ b → (TX0 a).2.1 ≠ (TX0 b).2.1 := by decide +kernel
theorem tyX0_ok : ∀ k, k < 5 → parseFieldDescriptor (TX0 k).2.2.1 = some (tyX0 k) := by decide +kernel
abbrev cX0_init : ByteArray := prog_2_method_1_code
def yX0_init : MethodName := ⟨RX0, "<init>", "()V"⟩
abbrev cX0_begin : ByteArray := prog_2_method_2_code
def yX0_begin : MethodName := ⟨RX0, "begin", "(J)V"⟩
abbrev cX0_loseWornGloves : ByteArray := prog_2_method_3_code
def yX0_loseWornGloves : MethodName := ⟨RX0, "loseWornGloves", "()V"⟩
def RX1 : String := "ArchivistTricks$Ending"
def TX1 : u_T := fun k => match k with
  | 0 => ("ArchivistTricks$Ending", "margins", "[I", true)
  | 1 => ("ArchivistTricks$Ending", "firstAll", "J", false)
  | 2 => ("ArchivistTricks$Ending", "secondAll", "J", false)
  | _ => ("ArchivistTricks$Ending", "trump", "I", false)
def tyX1 : Nat → FieldType := fun k => match k with
  | 0 => .array .int
  | 1 => .long
  | 2 => .long
  | _ => .int
abbrev wsX10 : List Cond := u_ws RX1 TX1 4
theorem nmX1 : ∀ a, a < 4 → ∀ b, b < 4 → a ≠ b → (TX1 a).2.1 ≠ (TX1 b).2.1 := by decide +kernel
theorem tyX1_ok : ∀ k, k < 4 → parseFieldDescriptor (TX1 k).2.2.1 = some (tyX1 k) := by decide +kernel
abbrev cX1_init : ByteArray := prog_3_method_1_code
def yX1_init : MethodName := ⟨RX1, "<init>", "()V"⟩
abbrev cX1_begin : ByteArray := prog_3_method_2_code
def yX1_begin : MethodName := ⟨RX1, "begin", "(JJI)V"⟩
abbrev cX1_bestMargin : ByteArray := prog_3_method_3_code
def yX1_bestMargin : MethodName := ⟨RX1, "bestMargin", "(JJIII)I"⟩
abbrev cX1_lowestBestCard : ByteArray := prog_3_method_4_code
def yX1_lowestBestCard : MethodName := ⟨RX1, "lowestBestCard", "(JJIII)I"⟩
abbrev cX1_margin : ByteArray := prog_3_method_5_code
def yX1_margin : MethodName := ⟨RX1, "margin", "(JJIIII)I"⟩
abbrev cX1_marginBy : ByteArray := prog_3_method_6_code
def yX1_marginBy : MethodName := ⟨RX1, "marginBy", "(IJJIIII)I"⟩
abbrev cX1_rest : ByteArray := prog_3_method_7_code
def yX1_rest : MethodName := ⟨RX1, "rest", "(JJII)I"⟩
abbrev cX1_mayPlay : ByteArray := prog_3_method_8_code
def yX1_mayPlay : MethodName := ⟨RX1, "mayPlay", "(JII)Z"⟩
abbrev cX1_stateOf : ByteArray := prog_3_method_9_code
def yX1_stateOf : MethodName := ⟨RX1, "stateOf", "(JJI)I"⟩
abbrev cX1_keptOf : ByteArray := prog_3_method_10_code
def yX1_keptOf : MethodName := ⟨RX1, "keptOf", "(JJ)I"⟩
abbrev cX1_trickWorth : ByteArray := prog_3_method_11_code
def yX1_trickWorth : MethodName := ⟨RX1, "trickWorth", "(IIII)I"⟩
def RX2 : String := "ArchivistTricks"
def TX2 : u_T := fun k => match k with
  | 0 => ("ArchivistTricks", "row", "[I", true)
  | 1 => ("ArchivistTricks", "first", "LArchivistTricks$Archivist;", true)
  | 2 => ("ArchivistTricks", "second", "LArchivistTricks$Archivist;", true)
  | 3 => ("ArchivistTricks", "drawn", "I", false)
  | 4 => ("ArchivistTricks", "trumpProvenance", "I", false)
  | 5 => ("ArchivistTricks", "ledCard", "I", false)
  | 6 => ("ArchivistTricks", "mover", "I", false)
  | 7 => ("ArchivistTricks", "firstWins", "I", false)
  | 8 => ("ArchivistTricks", "secondWins", "I", false)
  | 9 => ("ArchivistTricks", "ending", "LArchivistTricks$Ending;", false)
  | _ => ("ArchivistTricks", "endingBegun", "Z", false)
def tyX2 : Nat → FieldType := fun k => match k with
  | 0 => .array .int
  | 1 => .object "ArchivistTricks$Archivist"
  | 2 => .object "ArchivistTricks$Archivist"
  | 3 => .int
  | 4 => .int
  | 5 => .int
  | 6 => .int
  | 7 => .int
  | 8 => .int
  | 9 => .object "ArchivistTricks$Ending"
  | _ => .boolean
abbrev wsX20 : List Cond := u_ws RX2 TX2 11
theorem nmX2 : ∀ a, a < 11 → ∀ b, b < 11 → a ≠ b → (TX2 a).2.1 ≠ (TX2 b).2.1 := by decide +kernel
theorem tyX2_ok : ∀ k, k < 11 → parseFieldDescriptor (TX2 k).2.2.1 = some (tyX2 k) := by decide +kernel
abbrev cX2_init : ByteArray := prog_1_method_1_code
def yX2_init : MethodName := ⟨RX2, "<init>", "()V"⟩
abbrev cX2_deal : ByteArray := prog_1_method_2_code
def yX2_deal : MethodName := ⟨RX2, "deal", "(J)I"⟩
abbrev cX2_play : ByteArray := prog_1_method_3_code
def yX2_play : MethodName := ⟨RX2, "play", "(I)I"⟩
abbrev cX2_putOnGloves : ByteArray := prog_1_method_4_code
def yX2_putOnGloves : MethodName := ⟨RX2, "putOnGloves", "()I"⟩
abbrev cX2_whyNot : ByteArray := prog_1_method_5_code
def yX2_whyNot : MethodName := ⟨RX2, "whyNot", "(I)I"⟩
abbrev cX2_isPlaying : ByteArray := prog_1_method_6_code
def yX2_isPlaying : MethodName := ⟨RX2, "isPlaying", "()Z"⟩
abbrev cX2_turn : ByteArray := prog_1_method_7_code
def yX2_turn : MethodName := ⟨RX2, "turn", "()I"⟩
abbrev cX2_led : ByteArray := prog_1_method_8_code
def yX2_led : MethodName := ⟨RX2, "led", "()I"⟩
abbrev cX2_trumps : ByteArray := prog_1_method_9_code
def yX2_trumps : MethodName := ⟨RX2, "trumps", "()I"⟩
abbrev cX2_pile : ByteArray := prog_1_method_10_code
def yX2_pile : MethodName := ⟨RX2, "pile", "()I"⟩
abbrev cX2_cards : ByteArray := prog_1_method_11_code
def yX2_cards : MethodName := ⟨RX2, "cards", "(I)I"⟩
abbrev cX2_cardAt : ByteArray := prog_1_method_12_code
def yX2_cardAt : MethodName := ⟨RX2, "cardAt", "(II)I"⟩
abbrev cX2_placeOf : ByteArray := prog_1_method_13_code
def yX2_placeOf : MethodName := ⟨RX2, "placeOf", "(I)I"⟩
abbrev cX2_points : ByteArray := prog_1_method_14_code
def yX2_points : MethodName := ⟨RX2, "points", "(I)I"⟩
abbrev cX2_tricks : ByteArray := prog_1_method_15_code
def yX2_tricks : MethodName := ⟨RX2, "tricks", "(I)I"⟩
abbrev cX2_gloves : ByteArray := prog_1_method_16_code
def yX2_gloves : MethodName := ⟨RX2, "gloves", "(I)I"⟩
abbrev cX2_choices : ByteArray := prog_1_method_17_code
def yX2_choices : MethodName := ⟨RX2, "choices", "()I"⟩
abbrev cX2_wouldTake : ByteArray := prog_1_method_18_code
def yX2_wouldTake : MethodName := ⟨RX2, "wouldTake", "(I)I"⟩
abbrev cX2_best : ByteArray := prog_1_method_19_code
def yX2_best : MethodName := ⟨RX2, "best", "()I"⟩
abbrev cX2_bestCard : ByteArray := prog_1_method_20_code
def yX2_bestCard : MethodName := ⟨RX2, "bestCard", "()I"⟩
abbrev cX2_wonByFirst : ByteArray := prog_1_method_21_code
def yX2_wonByFirst : MethodName := ⟨RX2, "wonByFirst", "()I"⟩
abbrev cX2_wonBySecond : ByteArray := prog_1_method_22_code
def yX2_wonBySecond : MethodName := ⟨RX2, "wonBySecond", "()I"⟩
abbrev cX2_shuffle : ByteArray := prog_1_method_23_code
def yX2_shuffle : MethodName := ⟨RX2, "shuffle", "(J)V"⟩
abbrev cX2_exchange : ByteArray := prog_1_method_24_code
def yX2_exchange : MethodName := ⟨RX2, "exchange", "(II)V"⟩
abbrev cX2_putTurnedUpLast : ByteArray := prog_1_method_25_code
def yX2_putTurnedUpLast : MethodName := ⟨RX2, "putTurnedUpLast", "()V"⟩
abbrev cX2_handFrom : ByteArray := prog_1_method_26_code
def yX2_handFrom : MethodName := ⟨RX2, "handFrom", "(I)J"⟩
abbrev cX2_drawFor : ByteArray := prog_1_method_27_code
def yX2_drawFor : MethodName := ⟨RX2, "drawFor", "(LArchivistTricks$Archivist;)V"⟩
abbrev cX2_reasonAgainst : ByteArray := prog_1_method_28_code
def yX2_reasonAgainst : MethodName := ⟨RX2, "reasonAgainst", "(I)I"⟩
abbrev cX2_takerBy : ByteArray := prog_1_method_29_code
def yX2_takerBy : MethodName := ⟨RX2, "takerBy", "(I)I"⟩
abbrev cX2_finishTrick : ByteArray := prog_1_method_30_code
def yX2_finishTrick : MethodName := ⟨RX2, "finishTrick", "(I)I"⟩
abbrev cX2_endGame : ByteArray := prog_1_method_31_code
def yX2_endGame : MethodName := ⟨RX2, "endGame", "()V"⟩
abbrev cX2_archivist : ByteArray := prog_1_method_32_code
def yX2_archivist : MethodName := ⟨RX2, "archivist", "(I)LArchivistTricks$Archivist;"⟩
abbrev cX2_moversHand : ByteArray := prog_1_method_33_code
def yX2_moversHand : MethodName := ⟨RX2, "moversHand", "()J"⟩
abbrev cX2_othersHand : ByteArray := prog_1_method_34_code
def yX2_othersHand : MethodName := ⟨RX2, "othersHand", "()J"⟩
abbrev cX2_glovesWorn : ByteArray := prog_1_method_35_code
def yX2_glovesWorn : MethodName := ⟨RX2, "glovesWorn", "()I"⟩
abbrev cX2_isEnding : ByteArray := prog_1_method_36_code
def yX2_isEnding : MethodName := ⟨RX2, "isEnding", "()Z"⟩
abbrev cX2_begunEnding : ByteArray := prog_1_method_37_code
def yX2_begunEnding : MethodName := ⟨RX2, "begunEnding", "()LArchivistTricks$Ending;"⟩
abbrev cX2_isCard : ByteArray := prog_1_method_38_code
def yX2_isCard : MethodName := ⟨RX2, "isCard", "(I)Z"⟩
abbrev cX2_isArchivist : ByteArray := prog_1_method_39_code
def yX2_isArchivist : MethodName := ⟨RX2, "isArchivist", "(I)Z"⟩
abbrev cX2_isMildew : ByteArray := prog_1_method_40_code
def yX2_isMildew : MethodName := ⟨RX2, "isMildew", "(I)Z"⟩
abbrev cX2_bit : ByteArray := prog_1_method_41_code
def yX2_bit : MethodName := ⟨RX2, "bit", "(I)J"⟩
abbrev cX2_has : ByteArray := prog_1_method_42_code
def yX2_has : MethodName := ⟨RX2, "has", "(JI)Z"⟩
abbrev cX2_allOf : ByteArray := prog_1_method_43_code
def yX2_allOf : MethodName := ⟨RX2, "allOf", "(I)J"⟩
abbrev cX2_worth : ByteArray := prog_1_method_44_code
def yX2_worth : MethodName := ⟨RX2, "worth", "(IZ)I"⟩
abbrev cX2_beats : ByteArray := prog_1_method_45_code
def yX2_beats : MethodName := ⟨RX2, "beats", "(III)Z"⟩
abbrev cX2_reasonAgainstLeading : ByteArray := prog_1_method_46_code
def yX2_reasonAgainstLeading : MethodName := ⟨RX2, "reasonAgainstLeading", "(JI)I"⟩
abbrev cX2_reasonAgainstReplying : ByteArray := prog_1_method_47_code
def yX2_reasonAgainstReplying : MethodName := ⟨RX2, "reasonAgainstReplying", "(JIII)I"⟩
def RX3 : String := "ArchivistTricksModel"
def TX3 : u_T := fun k => match k with
  | 0 => ("ArchivistTricksModel", "place", "[I", true)
  | 1 => ("ArchivistTricksModel", "row", "[I", true)
  | 2 => ("ArchivistTricksModel", "drawn", "I", false)
  | 3 => ("ArchivistTricksModel", "isDealt", "Z", false)
  | 4 => ("ArchivistTricksModel", "isOn", "Z", false)
  | 5 => ("ArchivistTricksModel", "turn", "I", false)
  | 6 => ("ArchivistTricksModel", "ledCard", "I", false)
  | 7 => ("ArchivistTricksModel", "trumps", "I", false)
  | 8 => ("ArchivistTricksModel", "points", "[I", true)
  | 9 => ("ArchivistTricksModel", "tricks", "[I", true)
  | 10 => ("ArchivistTricksModel", "gloves", "[I", true)
  | 11 => ("ArchivistTricksModel", "wins", "[I", true)
  | 12 => ("ArchivistTricksModel", "thrown", "I", false)
  | 13 => ("ArchivistTricksModel", "held", "[I", true)
  | _ => ("ArchivistTricksModel", "worthOf", "[I", true)
def tyX3 : Nat → FieldType := fun k => match k with
  | 0 => .array .int
  | 1 => .array .int
  | 2 => .int
  | 3 => .boolean
  | 4 => .boolean
  | 5 => .int
  | 6 => .int
  | 7 => .int
  | 8 => .array .int
  | 9 => .array .int
  | 10 => .array .int
  | 11 => .array .int
  | 12 => .int
  | 13 => .array .int
  | _ => .array .int
abbrev wsX30 : List Cond := u_ws RX3 TX3 15
theorem nmX3 : ∀ a, a < 15 → ∀ b, b < 15 → a ≠ b → (TX3 a).2.1 ≠ (TX3 b).2.1 := by decide +kernel
theorem tyX3_ok : ∀ k, k < 15 → parseFieldDescriptor (TX3 k).2.2.1 = some (tyX3 k) := by decide +kernel
abbrev cX3_init : ByteArray := prog_5_method_1_code
def yX3_init : MethodName := ⟨RX3, "<init>", "()V"⟩
abbrev cX3_thrown : ByteArray := prog_5_method_2_code
def yX3_thrown : MethodName := ⟨RX3, "thrown", "()I"⟩
abbrev cX3_isCard : ByteArray := prog_5_method_3_code
def yX3_isCard : MethodName := ⟨RX3, "isCard", "(I)Z"⟩
abbrev cX3_isArchivist : ByteArray := prog_5_method_4_code
def yX3_isArchivist : MethodName := ⟨RX3, "isArchivist", "(I)Z"⟩
abbrev cX3_isMildew : ByteArray := prog_5_method_5_code
def yX3_isMildew : MethodName := ⟨RX3, "isMildew", "(I)Z"⟩
abbrev cX3_provenance : ByteArray := prog_5_method_6_code
def yX3_provenance : MethodName := ⟨RX3, "provenance", "(I)I"⟩
abbrev cX3_isTrump : ByteArray := prog_5_method_7_code
def yX3_isTrump : MethodName := ⟨RX3, "isTrump", "(I)Z"⟩
abbrev cX3_worth : ByteArray := prog_5_method_8_code
def yX3_worth : MethodName := ⟨RX3, "worth", "(I)I"⟩
abbrev cX3_worthTo : ByteArray := prog_5_method_9_code
def yX3_worthTo : MethodName := ⟨RX3, "worthTo", "(IZ)I"⟩
abbrev cX3_takes : ByteArray := prog_5_method_10_code
def yX3_takes : MethodName := ⟨RX3, "takes", "(II)Z"⟩
abbrev cX3_inPile : ByteArray := prog_5_method_11_code
def yX3_inPile : MethodName := ⟨RX3, "inPile", "()I"⟩
abbrev cX3_deal : ByteArray := prog_5_method_12_code
def yX3_deal : MethodName := ⟨RX3, "deal", "(J)I"⟩
abbrev cX3_howMany : ByteArray := prog_5_method_13_code
def yX3_howMany : MethodName := ⟨RX3, "howMany", "(I)I"⟩
abbrev cX3_hasOf : ByteArray := prog_5_method_14_code
def yX3_hasOf : MethodName := ⟨RX3, "hasOf", "(II)Z"⟩
abbrev cX3_hasDated : ByteArray := prog_5_method_15_code
def yX3_hasDated : MethodName := ⟨RX3, "hasDated", "(I)Z"⟩
abbrev cX3_why : ByteArray := prog_5_method_16_code
def yX3_why : MethodName := ⟨RX3, "why", "(I)I"⟩
abbrev cX3_draws : ByteArray := prog_5_method_17_code
def yX3_draws : MethodName := ⟨RX3, "draws", "(I)V"⟩
abbrev cX3_ends : ByteArray := prog_5_method_18_code
def yX3_ends : MethodName := ⟨RX3, "ends", "(I)I"⟩
abbrev cX3_play : ByteArray := prog_5_method_19_code
def yX3_play : MethodName := ⟨RX3, "play", "(I)I"⟩
abbrev cX3_putOnGloves : ByteArray := prog_5_method_20_code
def yX3_putOnGloves : MethodName := ⟨RX3, "putOnGloves", "()I"⟩
abbrev cX3_whyNot : ByteArray := prog_5_method_21_code
def yX3_whyNot : MethodName := ⟨RX3, "whyNot", "(I)I"⟩
abbrev cX3_isPlaying : ByteArray := prog_5_method_22_code
def yX3_isPlaying : MethodName := ⟨RX3, "isPlaying", "()Z"⟩
abbrev cX3_turn : ByteArray := prog_5_method_23_code
def yX3_turn : MethodName := ⟨RX3, "turn", "()I"⟩
abbrev cX3_led : ByteArray := prog_5_method_24_code
def yX3_led : MethodName := ⟨RX3, "led", "()I"⟩
abbrev cX3_trumps : ByteArray := prog_5_method_25_code
def yX3_trumps : MethodName := ⟨RX3, "trumps", "()I"⟩
abbrev cX3_pile : ByteArray := prog_5_method_26_code
def yX3_pile : MethodName := ⟨RX3, "pile", "()I"⟩
abbrev cX3_cards : ByteArray := prog_5_method_27_code
def yX3_cards : MethodName := ⟨RX3, "cards", "(I)I"⟩
abbrev cX3_cardAt : ByteArray := prog_5_method_28_code
def yX3_cardAt : MethodName := ⟨RX3, "cardAt", "(II)I"⟩
abbrev cX3_placeOf : ByteArray := prog_5_method_29_code
def yX3_placeOf : MethodName := ⟨RX3, "placeOf", "(I)I"⟩
abbrev cX3_of : ByteArray := prog_5_method_30_code
def yX3_of : MethodName := ⟨RX3, "of", "([II)I"⟩
abbrev cX3_points : ByteArray := prog_5_method_31_code
def yX3_points : MethodName := ⟨RX3, "points", "(I)I"⟩
abbrev cX3_tricks : ByteArray := prog_5_method_32_code
def yX3_tricks : MethodName := ⟨RX3, "tricks", "(I)I"⟩
abbrev cX3_gloves : ByteArray := prog_5_method_33_code
def yX3_gloves : MethodName := ⟨RX3, "gloves", "(I)I"⟩
abbrev cX3_choices : ByteArray := prog_5_method_34_code
def yX3_choices : MethodName := ⟨RX3, "choices", "()I"⟩
abbrev cX3_wouldTake : ByteArray := prog_5_method_35_code
def yX3_wouldTake : MethodName := ⟨RX3, "wouldTake", "(I)I"⟩
abbrev cX3_laysHands : ByteArray := prog_5_method_36_code
def yX3_laysHands : MethodName := ⟨RX3, "laysHands", "()V"⟩
abbrev cX3_many : ByteArray := prog_5_method_37_code
def yX3_many : MethodName := ⟨RX3, "many", "(I)I"⟩
abbrev cX3_isAmong : ByteArray := prog_5_method_38_code
def yX3_isAmong : MethodName := ⟨RX3, "isAmong", "(III)Z"⟩
abbrev cX3_canLead : ByteArray := prog_5_method_39_code
def yX3_canLead : MethodName := ⟨RX3, "canLead", "(III)Z"⟩
abbrev cX3_canFollow : ByteArray := prog_5_method_40_code
def yX3_canFollow : MethodName := ⟨RX3, "canFollow", "(IIII)Z"⟩
abbrev cX3_tableAt : ByteArray := prog_5_method_41_code
def yX3_tableAt : MethodName := ⟨RX3, "tableAt", "(III)I"⟩
abbrev cX3_behind : ByteArray := prog_5_method_42_code
def yX3_behind : MethodName := ⟨RX3, "behind", "(IIIIII)I"⟩
abbrev cX3_leastBy : ByteArray := prog_5_method_43_code
def yX3_leastBy : MethodName := ⟨RX3, "leastBy", "(IIIII)I"⟩
abbrev cX3_mostOf : ByteArray := prog_5_method_44_code
def yX3_mostOf : MethodName := ⟨RX3, "mostOf", "(IIII)I"⟩
abbrev cX3_laysTable : ByteArray := prog_5_method_45_code
def yX3_laysTable : MethodName := ⟨RX3, "laysTable", "()V"⟩
abbrev cX3_wornNow : ByteArray := prog_5_method_46_code
def yX3_wornNow : MethodName := ⟨RX3, "wornNow", "()I"⟩
abbrev cX3_byCard : ByteArray := prog_5_method_47_code
def yX3_byCard : MethodName := ⟨RX3, "byCard", "(I)I"⟩
abbrev cX3_bestPlace : ByteArray := prog_5_method_48_code
def yX3_bestPlace : MethodName := ⟨RX3, "bestPlace", "()I"⟩
abbrev cX3_best : ByteArray := prog_5_method_49_code
def yX3_best : MethodName := ⟨RX3, "best", "()I"⟩
abbrev cX3_bestCard : ByteArray := prog_5_method_50_code
def yX3_bestCard : MethodName := ⟨RX3, "bestCard", "()I"⟩
abbrev cX3_wonByFirst : ByteArray := prog_5_method_51_code
def yX3_wonByFirst : MethodName := ⟨RX3, "wonByFirst", "()I"⟩
abbrev cX3_wonBySecond : ByteArray := prog_5_method_52_code
def yX3_wonBySecond : MethodName := ⟨RX3, "wonBySecond", "()I"⟩
def RJx145de : String := "java/io/Serializable"
def TJx145de : u_T := fun k => match k with
  | _ => ("", "", "", false)
def tyJx145de : Nat → FieldType := fun k => match k with
  | _ => .int
abbrev wsJx145de0 : List Cond := u_ws RJx145de TJx145de 0
theorem nmJx145de : ∀ a, a < 0 → ∀ b, b < 0 → a ≠ b → (TJx145de a).2.1 ≠ (TJx145de b).2.1 := by decide +kernel
theorem tyJx145de_ok : ∀ k, k < 0 → parseFieldDescriptor (TJx145de k).2.2.1 = some (tyJx145de k) := by decide +kernel
def RJ13 : String := "java/lang/Long"
def TJ13 : u_T := fun k => match k with
  | _ => ("", "", "", false)
def tyJ13 : Nat → FieldType := fun k => match k with
  | _ => .int
abbrev wsJ130 : List Cond := u_ws RJ13 TJ13 0
theorem nmJ13 : ∀ a, a < 0 → ∀ b, b < 0 → a ≠ b → (TJ13 a).2.1 ≠ (TJ13 b).2.1 := by decide +kernel
theorem tyJ13_ok : ∀ k, k < 0 → parseFieldDescriptor (TJ13 k).2.2.1 = some (tyJ13 k) := by decide +kernel
abbrev cJ13_bitCount_95d88 : ByteArray := prog_10_method_50_code
def yJ13_bitCount_95d88 : MethodName := ⟨RJ13, "bitCount", "(J)I"⟩
def RJ9 : String := "java/lang/Math"
def TJ9 : u_T := fun k => match k with
  | _ => ("", "", "", false)
def tyJ9 : Nat → FieldType := fun k => match k with
  | _ => .int
abbrev wsJ90 : List Cond := u_ws RJ9 TJ9 0
theorem nmJ9 : ∀ a, a < 0 → ∀ b, b < 0 → a ≠ b → (TJ9 a).2.1 ≠ (TJ9 b).2.1 := by decide +kernel
theorem tyJ9_ok : ∀ k, k < 0 → parseFieldDescriptor (TJ9 k).2.2.1 = some (tyJ9 k) := by decide +kernel
abbrev cJ9_max_7cf53 : ByteArray := prog_11_method_65_code
def yJ9_max_7cf53 : MethodName := ⟨RJ9, "max", "(II)I"⟩
def RJ0 : String := "java/lang/String"
def TJ0 : u_T := fun k => match k with
  | _ => ("", "", "", false)
def tyJ0 : Nat → FieldType := fun k => match k with
  | _ => .int
abbrev wsJ00 : List Cond := u_ws RJ0 TJ0 0
theorem nmJ0 : ∀ a, a < 0 → ∀ b, b < 0 → a ≠ b → (TJ0 a).2.1 ≠ (TJ0 b).2.1 := by decide +kernel
theorem tyJ0_ok : ∀ k, k < 0 → parseFieldDescriptor (TJ0 k).2.2.1 = some (tyJ0 k) := by decide +kernel
def RJ10 : String := "java/lang/System"
def TJ10 : u_T := fun k => match k with
  | _ => ("", "", "", false)
def tyJ10 : Nat → FieldType := fun k => match k with
  | _ => .int
abbrev wsJ100 : List Cond := u_ws RJ10 TJ10 0
theorem nmJ10 : ∀ a, a < 0 → ∀ b, b < 0 → a ≠ b → (TJ10 a).2.1 ≠ (TJ10 b).2.1 := by decide +kernel
theorem tyJ10_ok : ∀ k, k < 0 → parseFieldDescriptor (TJ10 k).2.2.1 = some (tyJ10 k) := by decide +kernel
def RJ7 : String := "java/util/Arrays"
def TJ7 : u_T := fun k => match k with
  | _ => ("", "", "", false)
def tyJ7 : Nat → FieldType := fun k => match k with
  | _ => .int
abbrev wsJ70 : List Cond := u_ws RJ7 TJ7 0
theorem nmJ7 : ∀ a, a < 0 → ∀ b, b < 0 → a ≠ b → (TJ7 a).2.1 ≠ (TJ7 b).2.1 := by decide +kernel
theorem tyJ7_ok : ∀ k, k < 0 → parseFieldDescriptor (TJ7 k).2.2.1 = some (tyJ7 k) := by decide +kernel
abbrev cJ7_fill_53178 : ByteArray := prog_16_method_103_code
def yJ7_fill_53178 : MethodName := ⟨RJ7, "fill", "([II)V"⟩
def RL : String := "ArchivistTricksLaw"
abbrev cL_play : ByteArray := method_3_code
def yL_play : MethodName := ⟨RL, "play", "(LArchivistTricks;I[J)I"⟩
abbrev cL_putOnGloves : ByteArray := method_4_code
def yL_putOnGloves : MethodName := ⟨RL, "putOnGloves", "(LArchivistTricks;[J)I"⟩
abbrev cL_whyNot : ByteArray := method_5_code
def yL_whyNot : MethodName := ⟨RL, "whyNot", "(LArchivistTricks;I[J)I"⟩
abbrev cL_cards : ByteArray := method_6_code
def yL_cards : MethodName := ⟨RL, "cards", "(LArchivistTricks;I[J)I"⟩
abbrev cL_cardAt : ByteArray := method_7_code
def yL_cardAt : MethodName := ⟨RL, "cardAt", "(LArchivistTricks;II[J)I"⟩
abbrev cL_placeOf : ByteArray := method_8_code
def yL_placeOf : MethodName := ⟨RL, "placeOf", "(LArchivistTricks;I[J)I"⟩
abbrev cL_points : ByteArray := method_9_code
def yL_points : MethodName := ⟨RL, "points", "(LArchivistTricks;I[J)I"⟩
abbrev cL_tricks : ByteArray := method_10_code
def yL_tricks : MethodName := ⟨RL, "tricks", "(LArchivistTricks;I[J)I"⟩
abbrev cL_gloves : ByteArray := method_11_code
def yL_gloves : MethodName := ⟨RL, "gloves", "(LArchivistTricks;I[J)I"⟩
abbrev cL_wouldTake : ByteArray := method_12_code
def yL_wouldTake : MethodName := ⟨RL, "wouldTake", "(LArchivistTricks;I[J)I"⟩
abbrev cL_best : ByteArray := method_13_code
def yL_best : MethodName := ⟨RL, "best", "(LArchivistTricks;[J)I"⟩
abbrev cL_bestCard : ByteArray := method_14_code
def yL_bestCard : MethodName := ⟨RL, "bestCard", "(LArchivistTricks;[J)I"⟩
abbrev cL_law : ByteArray := code
def yL_law : MethodName := ⟨RL, "law", "([I)Z"⟩
def wsX0_init : List Cond := .code yX0_init cX0_init 1 none :: ([.methodLink RX0 3 objectInit, .instanceMethod objectInit, .code objectInit ⟨#[0xb1]⟩ 1 none, .fieldLink RX0 9 "ArchivistTricks$Archivist" "hand" "J", .fieldLink RX0 15 "ArchivistTricks$Archivist" "taken" "J", .fieldLink RX0 18 "ArchivistTricks$Archivist" "points" "I", .fieldLink RX0 22 "ArchivistTricks$Archivist" "tricks" "I", .fieldLink RX0 25 "ArchivistTricks$Archivist" "gloves" "I"] ++ wsX00)
def wsX0_begin : List Cond := .code yX0_begin cX0_begin 3 none :: ([.fieldLink RX0 9 "ArchivistTricks$Archivist" "hand" "J", .fieldLink RX0 15 "ArchivistTricks$Archivist" "taken" "J", .fieldLink RX0 18 "ArchivistTricks$Archivist" "points" "I", .fieldLink RX0 22 "ArchivistTricks$Archivist" "tricks" "I", .fieldLink RX0 25 "ArchivistTricks$Archivist" "gloves" "I"] ++ wsX00)
def wsX0_loseWornGloves : List Cond := .code yX0_loseWornGloves cX0_loseWornGloves 1 none :: ([.fieldLink RX0 25 "ArchivistTricks$Archivist" "gloves" "I"] ++ wsX00)
def wsX1_init : List Cond := .code yX1_init cX1_init 1 none :: ([.methodLink RX1 3 objectInit, .instanceMethod objectInit, .code objectInit ⟨#[0xb1]⟩ 1 none, .arrayClass .int, .fieldLink RX1 9 "ArchivistTricks$Ending" "margins" "[I", .fieldLink RX1 15 "ArchivistTricks$Ending" "firstAll" "J", .fieldLink RX1 19 "ArchivistTricks$Ending" "secondAll" "J", .fieldLink RX1 22 "ArchivistTricks$Ending" "trump" "I"] ++ wsX10)
def wsJ7_fill_53178 : List Cond := .code yJ7_fill_53178 cJ7_fill_53178 4 none :: ([])
def wsX1_begin : List Cond := .code yX1_begin cX1_begin 6 none :: ([.fieldLink RX1 15 "ArchivistTricks$Ending" "firstAll" "J", .fieldLink RX1 19 "ArchivistTricks$Ending" "secondAll" "J", .fieldLink RX1 22 "ArchivistTricks$Ending" "trump" "I", .fieldLink RX1 9 "ArchivistTricks$Ending" "margins" "[I", .methodLink RX1 26 yJ7_fill_53178, .static yJ7_fill_53178, .initialized RJ7, .code yJ7_fill_53178 cJ7_fill_53178 4 none] ++ wsX10)
def wsX2_has : List Cond := .code yX2_has cX2_has 3 (some .boolean) :: ([])
def wsX2_isMildew : List Cond := .code yX2_isMildew cX2_isMildew 1 (some .boolean) :: ([])
def wsX2_reasonAgainstLeading : List Cond := .code yX2_reasonAgainstLeading cX2_reasonAgainstLeading 3 (some .int) :: ([.constantLong RX2 220 (1099511627775), .methodLink RX2 64 yX2_isMildew, .static yX2_isMildew, .initialized RX2, .code yX2_isMildew cX2_isMildew 1 (some .boolean)])
def wsX2_allOf : List Cond := .code yX2_allOf cX2_allOf 1 (some .long) :: ([.constantLong RX2 218 (1023)])
def wsX2_reasonAgainstReplying : List Cond := .code yX2_reasonAgainstReplying cX2_reasonAgainstReplying 9 (some .int) :: ([.methodLink RX2 64 yX2_isMildew, .static yX2_isMildew, .initialized RX2, .code yX2_isMildew cX2_isMildew 1 (some .boolean), .methodLink RX2 222 yX2_allOf, .static yX2_allOf, .code yX2_allOf cX2_allOf 1 (some .long), .constantLong RX2 218 (1023), .methodLink RX2 124 yX2_has, .static yX2_has, .code yX2_has cX2_has 3 (some .boolean)])
def wsX1_mayPlay : List Cond := .code yX1_mayPlay cX1_mayPlay 6 (some .boolean) :: ([.fieldLink RX1 22 "ArchivistTricks$Ending" "trump" "I", .static yX2_has, .initialized RX2, .code yX2_has cX2_has 3 (some .boolean), .static yX2_reasonAgainstLeading, .code yX2_reasonAgainstLeading cX2_reasonAgainstLeading 3 (some .int), .constantLong RX2 220 (1099511627775), .methodLink RX2 64 yX2_isMildew, .static yX2_isMildew, .code yX2_isMildew cX2_isMildew 1 (some .boolean), .static yX2_reasonAgainstReplying, .code yX2_reasonAgainstReplying cX2_reasonAgainstReplying 9 (some .int), .methodLink RX2 222 yX2_allOf, .static yX2_allOf, .code yX2_allOf cX2_allOf 1 (some .long), .constantLong RX2 218 (1023), .methodLink RX2 124 yX2_has] ++ wsX10)
def wsX2_bit : List Cond := .code yX2_bit cX2_bit 1 (some .long) :: ([])
def wsX2_beats : List Cond := .code yX2_beats cX2_beats 3 (some .boolean) :: ([.methodLink RX2 64 yX2_isMildew, .static yX2_isMildew, .initialized RX2, .code yX2_isMildew cX2_isMildew 1 (some .boolean)])
def wsX2_worth : List Cond := .code yX2_worth cX2_worth 2 (some .int) :: ([.methodLink RX2 64 yX2_isMildew, .static yX2_isMildew, .initialized RX2, .code yX2_isMildew cX2_isMildew 1 (some .boolean)])
def wsX1_trickWorth : List Cond := .code yX1_trickWorth cX1_trickWorth 5 (some .int) :: ([.static yX2_worth, .initialized RX2, .code yX2_worth cX2_worth 2 (some .int), .methodLink RX2 64 yX2_isMildew, .static yX2_isMildew, .code yX2_isMildew cX2_isMildew 1 (some .boolean)])
def wsX1_keptOf : List Cond := .code yX1_keptOf cX1_keptOf 10 (some .int) :: ([.constantLong RX1 54 (-1)])
def wsX1_stateOf : List Cond := .code yX1_stateOf cX1_stateOf 8 (some .int) :: ([.fieldLink RX1 15 "ArchivistTricks$Ending" "firstAll" "J", .fieldLink RX1 19 "ArchivistTricks$Ending" "secondAll" "J", .methodLink RX1 84 yX1_keptOf, .static yX1_keptOf, .initialized RX1, .code yX1_keptOf cX1_keptOf 10 (some .int), .constantLong RX1 54 (-1)] ++ wsX10)
def wsX1_margin_r1 : List Cond := [Cond.methodLink RX1 44 Lib.Math.max.name, Cond.static Lib.Math.max.name, Cond.initialized "java/lang/Math", Cond.code Lib.Math.max.name Lib.Math.max.code 2 (some .int), Cond.methodLink RX1 36 yX1_mayPlay, Cond.instanceMethod yX1_mayPlay, Cond.selects RX1 yX1_mayPlay yX1_mayPlay, Cond.initialized RX1, Cond.code yX1_mayPlay cX1_mayPlay 6 (some .boolean), Cond.fieldLink RX1 22 "ArchivistTricks$Ending" "trump" "I", Cond.static yX2_has, Cond.initialized RX2, Cond.code yX2_has cX2_has 3 (some .boolean), Cond.static yX2_reasonAgainstLeading, Cond.code yX2_reasonAgainstLeading cX2_reasonAgainstLeading 3 (some .int), Cond.constantLong RX2 220 (1099511627775), Cond.methodLink RX2 64 yX2_isMildew, Cond.static yX2_isMildew, Cond.code yX2_isMildew cX2_isMildew 1 (some .boolean), Cond.static yX2_reasonAgainstReplying, Cond.code yX2_reasonAgainstReplying cX2_reasonAgainstReplying 9 (some .int), Cond.methodLink RX2 222 yX2_allOf, Cond.static yX2_allOf, Cond.code yX2_allOf cX2_allOf 1 (some .long)]
def wsX1_margin_r2 : List Cond := [Cond.constantLong RX2 218 (1023), Cond.methodLink RX2 124 yX2_has, Cond.methodLink RX1 40 yX1_marginBy, Cond.instanceMethod yX1_marginBy, Cond.selects RX1 yX1_marginBy yX1_marginBy, Cond.code yX1_marginBy cX1_marginBy 13 (some .int), Cond.constantLong RX1 54 (-1), Cond.static yX2_bit, Cond.code yX2_bit cX2_bit 1 (some .long), Cond.methodLink RX1 32 yX1_margin, Cond.instanceMethod yX1_margin, Cond.selects RX1 yX1_margin yX1_margin, Cond.static yX2_beats, Cond.code yX2_beats cX2_beats 3 (some .boolean), Cond.methodLink RX1 60 yX1_trickWorth, Cond.static yX1_trickWorth, Cond.code yX1_trickWorth cX1_trickWorth 5 (some .int), Cond.static yX2_worth, Cond.code yX2_worth cX2_worth 2 (some .int), Cond.methodLink RX1 64 yX1_rest, Cond.instanceMethod yX1_rest, Cond.selects RX1 yX1_rest yX1_rest, Cond.code yX1_rest cX1_rest 10 (some .int), Cond.fieldLink RX1 9 "ArchivistTricks$Ending" "margins" "[I"]
def wsX1_margin_r3 : List Cond := [Cond.methodLink RX1 68 yX1_stateOf, Cond.instanceMethod yX1_stateOf, Cond.selects RX1 yX1_stateOf yX1_stateOf, Cond.code yX1_stateOf cX1_stateOf 8 (some .int), Cond.fieldLink RX1 15 "ArchivistTricks$Ending" "firstAll" "J", Cond.fieldLink RX1 19 "ArchivistTricks$Ending" "secondAll" "J", Cond.methodLink RX1 84 yX1_keptOf, Cond.static yX1_keptOf, Cond.code yX1_keptOf cX1_keptOf 10 (some .int)]
def wsX1_margin : List Cond := .code yX1_margin cX1_margin 11 (some .int) :: ((wsX1_margin_r1 ++ (wsX1_margin_r2 ++ wsX1_margin_r3)) ++ wsX10)
def wsX1_marginBy_r1 : List Cond := [Cond.constantLong RX1 54 (-1), Cond.fieldLink RX1 22 "ArchivistTricks$Ending" "trump" "I", Cond.static yX2_bit, Cond.initialized RX2, Cond.code yX2_bit cX2_bit 1 (some .long), Cond.methodLink RX1 32 yX1_margin, Cond.instanceMethod yX1_margin, Cond.selects RX1 yX1_margin yX1_margin, Cond.initialized RX1, Cond.static yX2_beats, Cond.code yX2_beats cX2_beats 3 (some .boolean), Cond.methodLink RX2 64 yX2_isMildew, Cond.static yX2_isMildew, Cond.code yX2_isMildew cX2_isMildew 1 (some .boolean), Cond.methodLink RX1 60 yX1_trickWorth, Cond.static yX1_trickWorth, Cond.code yX1_trickWorth cX1_trickWorth 5 (some .int), Cond.static yX2_worth, Cond.code yX2_worth cX2_worth 2 (some .int), Cond.methodLink RX1 64 yX1_rest, Cond.instanceMethod yX1_rest, Cond.selects RX1 yX1_rest yX1_rest, Cond.code yX1_margin cX1_margin 11 (some .int), Cond.methodLink RX1 44 Lib.Math.max.name]
def wsX1_marginBy_r2 : List Cond := [Cond.static Lib.Math.max.name, Cond.initialized "java/lang/Math", Cond.code Lib.Math.max.name Lib.Math.max.code 2 (some .int), Cond.methodLink RX1 36 yX1_mayPlay, Cond.instanceMethod yX1_mayPlay, Cond.selects RX1 yX1_mayPlay yX1_mayPlay, Cond.code yX1_mayPlay cX1_mayPlay 6 (some .boolean), Cond.static yX2_has, Cond.code yX2_has cX2_has 3 (some .boolean), Cond.static yX2_reasonAgainstLeading, Cond.code yX2_reasonAgainstLeading cX2_reasonAgainstLeading 3 (some .int), Cond.constantLong RX2 220 (1099511627775), Cond.static yX2_reasonAgainstReplying, Cond.code yX2_reasonAgainstReplying cX2_reasonAgainstReplying 9 (some .int), Cond.methodLink RX2 222 yX2_allOf, Cond.static yX2_allOf, Cond.code yX2_allOf cX2_allOf 1 (some .long), Cond.constantLong RX2 218 (1023), Cond.methodLink RX2 124 yX2_has, Cond.methodLink RX1 40 yX1_marginBy, Cond.instanceMethod yX1_marginBy, Cond.selects RX1 yX1_marginBy yX1_marginBy, Cond.code yX1_rest cX1_rest 10 (some .int), Cond.fieldLink RX1 9 "ArchivistTricks$Ending" "margins" "[I"]
def wsX1_marginBy_r3 : List Cond := [Cond.methodLink RX1 68 yX1_stateOf, Cond.instanceMethod yX1_stateOf, Cond.selects RX1 yX1_stateOf yX1_stateOf, Cond.code yX1_stateOf cX1_stateOf 8 (some .int), Cond.fieldLink RX1 15 "ArchivistTricks$Ending" "firstAll" "J", Cond.fieldLink RX1 19 "ArchivistTricks$Ending" "secondAll" "J", Cond.methodLink RX1 84 yX1_keptOf, Cond.static yX1_keptOf, Cond.code yX1_keptOf cX1_keptOf 10 (some .int)]
def wsX1_marginBy : List Cond := .code yX1_marginBy cX1_marginBy 13 (some .int) :: ((wsX1_marginBy_r1 ++ (wsX1_marginBy_r2 ++ wsX1_marginBy_r3)) ++ wsX10)
def wsX1_rest_r1 : List Cond := [Cond.fieldLink RX1 9 "ArchivistTricks$Ending" "margins" "[I", Cond.methodLink RX1 68 yX1_stateOf, Cond.instanceMethod yX1_stateOf, Cond.selects RX1 yX1_stateOf yX1_stateOf, Cond.initialized RX1, Cond.code yX1_stateOf cX1_stateOf 8 (some .int), Cond.fieldLink RX1 15 "ArchivistTricks$Ending" "firstAll" "J", Cond.fieldLink RX1 19 "ArchivistTricks$Ending" "secondAll" "J", Cond.methodLink RX1 84 yX1_keptOf, Cond.static yX1_keptOf, Cond.code yX1_keptOf cX1_keptOf 10 (some .int), Cond.constantLong RX1 54 (-1), Cond.methodLink RX1 32 yX1_margin, Cond.instanceMethod yX1_margin, Cond.selects RX1 yX1_margin yX1_margin, Cond.code yX1_margin cX1_margin 11 (some .int), Cond.methodLink RX1 44 Lib.Math.max.name, Cond.static Lib.Math.max.name, Cond.initialized "java/lang/Math", Cond.code Lib.Math.max.name Lib.Math.max.code 2 (some .int), Cond.methodLink RX1 36 yX1_mayPlay, Cond.instanceMethod yX1_mayPlay, Cond.selects RX1 yX1_mayPlay yX1_mayPlay, Cond.code yX1_mayPlay cX1_mayPlay 6 (some .boolean)]
def wsX1_rest_r2 : List Cond := [Cond.fieldLink RX1 22 "ArchivistTricks$Ending" "trump" "I", Cond.static yX2_has, Cond.initialized RX2, Cond.code yX2_has cX2_has 3 (some .boolean), Cond.static yX2_reasonAgainstLeading, Cond.code yX2_reasonAgainstLeading cX2_reasonAgainstLeading 3 (some .int), Cond.constantLong RX2 220 (1099511627775), Cond.methodLink RX2 64 yX2_isMildew, Cond.static yX2_isMildew, Cond.code yX2_isMildew cX2_isMildew 1 (some .boolean), Cond.static yX2_reasonAgainstReplying, Cond.code yX2_reasonAgainstReplying cX2_reasonAgainstReplying 9 (some .int), Cond.methodLink RX2 222 yX2_allOf, Cond.static yX2_allOf, Cond.code yX2_allOf cX2_allOf 1 (some .long), Cond.constantLong RX2 218 (1023), Cond.methodLink RX2 124 yX2_has, Cond.methodLink RX1 40 yX1_marginBy, Cond.instanceMethod yX1_marginBy, Cond.selects RX1 yX1_marginBy yX1_marginBy, Cond.code yX1_marginBy cX1_marginBy 13 (some .int), Cond.static yX2_bit, Cond.code yX2_bit cX2_bit 1 (some .long), Cond.static yX2_beats]
def wsX1_rest_r3 : List Cond := [Cond.code yX2_beats cX2_beats 3 (some .boolean), Cond.methodLink RX1 60 yX1_trickWorth, Cond.static yX1_trickWorth, Cond.code yX1_trickWorth cX1_trickWorth 5 (some .int), Cond.static yX2_worth, Cond.code yX2_worth cX2_worth 2 (some .int), Cond.methodLink RX1 64 yX1_rest, Cond.instanceMethod yX1_rest, Cond.selects RX1 yX1_rest yX1_rest]
def wsX1_rest : List Cond := .code yX1_rest cX1_rest 10 (some .int) :: ((wsX1_rest_r1 ++ (wsX1_rest_r2 ++ wsX1_rest_r3)) ++ wsX10)
def wsX1_bestMargin_r1 : List Cond := [Cond.methodLink RX1 32 yX1_margin, Cond.instanceMethod yX1_margin, Cond.selects RX1 yX1_margin yX1_margin, Cond.initialized RX1, Cond.code yX1_margin cX1_margin 11 (some .int), Cond.methodLink RX1 44 Lib.Math.max.name, Cond.static Lib.Math.max.name, Cond.initialized "java/lang/Math", Cond.code Lib.Math.max.name Lib.Math.max.code 2 (some .int), Cond.methodLink RX1 36 yX1_mayPlay, Cond.instanceMethod yX1_mayPlay, Cond.selects RX1 yX1_mayPlay yX1_mayPlay, Cond.code yX1_mayPlay cX1_mayPlay 6 (some .boolean), Cond.fieldLink RX1 22 "ArchivistTricks$Ending" "trump" "I", Cond.static yX2_has, Cond.initialized RX2, Cond.code yX2_has cX2_has 3 (some .boolean), Cond.static yX2_reasonAgainstLeading, Cond.code yX2_reasonAgainstLeading cX2_reasonAgainstLeading 3 (some .int), Cond.constantLong RX2 220 (1099511627775), Cond.methodLink RX2 64 yX2_isMildew, Cond.static yX2_isMildew, Cond.code yX2_isMildew cX2_isMildew 1 (some .boolean), Cond.static yX2_reasonAgainstReplying]
def wsX1_bestMargin_r2 : List Cond := [Cond.code yX2_reasonAgainstReplying cX2_reasonAgainstReplying 9 (some .int), Cond.methodLink RX2 222 yX2_allOf, Cond.static yX2_allOf, Cond.code yX2_allOf cX2_allOf 1 (some .long), Cond.constantLong RX2 218 (1023), Cond.methodLink RX2 124 yX2_has, Cond.methodLink RX1 40 yX1_marginBy, Cond.instanceMethod yX1_marginBy, Cond.selects RX1 yX1_marginBy yX1_marginBy, Cond.code yX1_marginBy cX1_marginBy 13 (some .int), Cond.constantLong RX1 54 (-1), Cond.static yX2_bit, Cond.code yX2_bit cX2_bit 1 (some .long), Cond.static yX2_beats, Cond.code yX2_beats cX2_beats 3 (some .boolean), Cond.methodLink RX1 60 yX1_trickWorth, Cond.static yX1_trickWorth, Cond.code yX1_trickWorth cX1_trickWorth 5 (some .int), Cond.static yX2_worth, Cond.code yX2_worth cX2_worth 2 (some .int), Cond.methodLink RX1 64 yX1_rest, Cond.instanceMethod yX1_rest, Cond.selects RX1 yX1_rest yX1_rest, Cond.code yX1_rest cX1_rest 10 (some .int)]
def wsX1_bestMargin_r3 : List Cond := [Cond.fieldLink RX1 9 "ArchivistTricks$Ending" "margins" "[I", Cond.methodLink RX1 68 yX1_stateOf, Cond.instanceMethod yX1_stateOf, Cond.selects RX1 yX1_stateOf yX1_stateOf, Cond.code yX1_stateOf cX1_stateOf 8 (some .int), Cond.fieldLink RX1 15 "ArchivistTricks$Ending" "firstAll" "J", Cond.fieldLink RX1 19 "ArchivistTricks$Ending" "secondAll" "J", Cond.methodLink RX1 84 yX1_keptOf, Cond.static yX1_keptOf, Cond.code yX1_keptOf cX1_keptOf 10 (some .int)]
def wsX1_bestMargin : List Cond := .code yX1_bestMargin cX1_bestMargin 8 (some .int) :: ((wsX1_bestMargin_r1 ++ (wsX1_bestMargin_r2 ++ wsX1_bestMargin_r3)) ++ wsX10)
def wsX1_lowestBestCard_r1 : List Cond := [Cond.methodLink RX1 36 yX1_mayPlay, Cond.instanceMethod yX1_mayPlay, Cond.selects RX1 yX1_mayPlay yX1_mayPlay, Cond.initialized RX1, Cond.code yX1_mayPlay cX1_mayPlay 6 (some .boolean), Cond.fieldLink RX1 22 "ArchivistTricks$Ending" "trump" "I", Cond.static yX2_has, Cond.initialized RX2, Cond.code yX2_has cX2_has 3 (some .boolean), Cond.static yX2_reasonAgainstLeading, Cond.code yX2_reasonAgainstLeading cX2_reasonAgainstLeading 3 (some .int), Cond.constantLong RX2 220 (1099511627775), Cond.methodLink RX2 64 yX2_isMildew, Cond.static yX2_isMildew, Cond.code yX2_isMildew cX2_isMildew 1 (some .boolean), Cond.static yX2_reasonAgainstReplying, Cond.code yX2_reasonAgainstReplying cX2_reasonAgainstReplying 9 (some .int), Cond.methodLink RX2 222 yX2_allOf, Cond.static yX2_allOf, Cond.code yX2_allOf cX2_allOf 1 (some .long), Cond.constantLong RX2 218 (1023), Cond.methodLink RX2 124 yX2_has, Cond.methodLink RX1 40 yX1_marginBy, Cond.instanceMethod yX1_marginBy]
def wsX1_lowestBestCard_r2 : List Cond := [Cond.selects RX1 yX1_marginBy yX1_marginBy, Cond.code yX1_marginBy cX1_marginBy 13 (some .int), Cond.constantLong RX1 54 (-1), Cond.static yX2_bit, Cond.code yX2_bit cX2_bit 1 (some .long), Cond.methodLink RX1 32 yX1_margin, Cond.instanceMethod yX1_margin, Cond.selects RX1 yX1_margin yX1_margin, Cond.static yX2_beats, Cond.code yX2_beats cX2_beats 3 (some .boolean), Cond.methodLink RX1 60 yX1_trickWorth, Cond.static yX1_trickWorth, Cond.code yX1_trickWorth cX1_trickWorth 5 (some .int), Cond.static yX2_worth, Cond.code yX2_worth cX2_worth 2 (some .int), Cond.methodLink RX1 64 yX1_rest, Cond.instanceMethod yX1_rest, Cond.selects RX1 yX1_rest yX1_rest, Cond.code yX1_margin cX1_margin 11 (some .int), Cond.methodLink RX1 44 Lib.Math.max.name, Cond.static Lib.Math.max.name, Cond.initialized "java/lang/Math", Cond.code Lib.Math.max.name Lib.Math.max.code 2 (some .int), Cond.code yX1_rest cX1_rest 10 (some .int)]
def wsX1_lowestBestCard_r3 : List Cond := [Cond.fieldLink RX1 9 "ArchivistTricks$Ending" "margins" "[I", Cond.methodLink RX1 68 yX1_stateOf, Cond.instanceMethod yX1_stateOf, Cond.selects RX1 yX1_stateOf yX1_stateOf, Cond.code yX1_stateOf cX1_stateOf 8 (some .int), Cond.fieldLink RX1 15 "ArchivistTricks$Ending" "firstAll" "J", Cond.fieldLink RX1 19 "ArchivistTricks$Ending" "secondAll" "J", Cond.methodLink RX1 84 yX1_keptOf, Cond.static yX1_keptOf, Cond.code yX1_keptOf cX1_keptOf 10 (some .int)]
def wsX1_lowestBestCard : List Cond := .code yX1_lowestBestCard cX1_lowestBestCard 12 (some .int) :: ((wsX1_lowestBestCard_r1 ++ (wsX1_lowestBestCard_r2 ++ wsX1_lowestBestCard_r3)) ++ wsX10)
def wsX2_init_r1 : List Cond := [Cond.methodLink RX2 3 objectInit, Cond.instanceMethod objectInit, Cond.code objectInit ⟨#[0xb1]⟩ 1 none, Cond.arrayClass .int, Cond.fieldLink RX2 9 "ArchivistTricks" "row" "[I", Cond.classLink RX2 13 RX0, Cond.instantiable RX0 5, Cond.initialized RX0, Cond.fieldLink RX2 16 "ArchivistTricks" "first" "LArchivistTricks$Archivist;", Cond.fieldLink RX2 20 "ArchivistTricks" "second" "LArchivistTricks$Archivist;", Cond.fieldLink RX2 23 "ArchivistTricks" "drawn" "I", Cond.fieldLink RX2 27 "ArchivistTricks" "trumpProvenance" "I", Cond.fieldLink RX2 30 "ArchivistTricks" "ledCard" "I", Cond.fieldLink RX2 33 "ArchivistTricks" "mover" "I", Cond.fieldLink RX2 36 "ArchivistTricks" "firstWins" "I", Cond.fieldLink RX2 39 "ArchivistTricks" "secondWins" "I", Cond.fieldLink RX2 42 "ArchivistTricks" "ending" "LArchivistTricks$Ending;", Cond.fieldLink RX2 46 "ArchivistTricks" "endingBegun" "Z", Cond.instanceMethod yX0_init, Cond.code yX0_init cX0_init 1 none, Cond.methodLink RX0 3 objectInit, Cond.fieldLink RX0 9 "ArchivistTricks$Archivist" "hand" "J", Cond.fieldLink RX0 15 "ArchivistTricks$Archivist" "taken" "J", Cond.fieldLink RX0 18 "ArchivistTricks$Archivist" "points" "I"]
def wsX2_init_r2 : List Cond := [Cond.fieldLink RX0 22 "ArchivistTricks$Archivist" "tricks" "I", Cond.fieldLink RX0 25 "ArchivistTricks$Archivist" "gloves" "I"]
def wsX2_init : List Cond := .code yX2_init cX2_init 1 none :: ((wsX2_init_r1 ++ wsX2_init_r2) ++ wsX20 ++ wsX00)
def wsX2_exchange : List Cond := .code yX2_exchange cX2_exchange 4 none :: ([.fieldLink RX2 9 "ArchivistTricks" "row" "[I"] ++ wsX20)
def wsX2_shuffle : List Cond := .code yX2_shuffle cX2_shuffle 6 none :: ([.fieldLink RX2 9 "ArchivistTricks" "row" "[I", .constantLong RX2 174 (6364136223846793005), .constantLong RX2 176 (1442695040888963407), .methodLink RX2 178 yX2_exchange, .instanceMethod yX2_exchange, .selects RX2 yX2_exchange yX2_exchange, .initialized RX2, .code yX2_exchange cX2_exchange 4 none] ++ wsX20)
def wsX2_putTurnedUpLast : List Cond := .code yX2_putTurnedUpLast cX2_putTurnedUpLast 2 none :: ([.fieldLink RX2 9 "ArchivistTricks" "row" "[I", .methodLink RX2 182 arraycopyName, .native arraycopyName, .static arraycopyName, .initialized "java/lang/System"] ++ wsX20)
def wsX2_handFrom : List Cond := .code yX2_handFrom cX2_handFrom 5 (some .long) :: ([.fieldLink RX2 9 "ArchivistTricks" "row" "[I", .methodLink RX2 95 yX2_bit, .static yX2_bit, .initialized RX2, .code yX2_bit cX2_bit 1 (some .long)] ++ wsX20)
def wsX2_deal_r1 : List Cond := [Cond.fieldLink RX2 9 "ArchivistTricks" "row" "[I", Cond.fieldLink RX2 16 "ArchivistTricks" "first" "LArchivistTricks$Archivist;", Cond.fieldLink RX2 20 "ArchivistTricks" "second" "LArchivistTricks$Archivist;", Cond.fieldLink RX2 23 "ArchivistTricks" "drawn" "I", Cond.fieldLink RX2 27 "ArchivistTricks" "trumpProvenance" "I", Cond.fieldLink RX2 30 "ArchivistTricks" "ledCard" "I", Cond.fieldLink RX2 33 "ArchivistTricks" "mover" "I", Cond.fieldLink RX2 46 "ArchivistTricks" "endingBegun" "Z", Cond.methodLink RX2 50 yX2_shuffle, Cond.instanceMethod yX2_shuffle, Cond.selects RX2 yX2_shuffle yX2_shuffle, Cond.initialized RX2, Cond.code yX2_shuffle cX2_shuffle 6 none, Cond.constantLong RX2 174 (6364136223846793005), Cond.constantLong RX2 176 (1442695040888963407), Cond.methodLink RX2 178 yX2_exchange, Cond.instanceMethod yX2_exchange, Cond.selects RX2 yX2_exchange yX2_exchange, Cond.code yX2_exchange cX2_exchange 4 none, Cond.methodLink RX2 54 yX2_putTurnedUpLast, Cond.instanceMethod yX2_putTurnedUpLast, Cond.selects RX2 yX2_putTurnedUpLast yX2_putTurnedUpLast, Cond.code yX2_putTurnedUpLast cX2_putTurnedUpLast 2 none, Cond.methodLink RX2 182 arraycopyName]
def wsX2_deal_r2 : List Cond := [Cond.native arraycopyName, Cond.static arraycopyName, Cond.initialized "java/lang/System", Cond.methodLink RX2 57 yX2_handFrom, Cond.instanceMethod yX2_handFrom, Cond.selects RX2 yX2_handFrom yX2_handFrom, Cond.code yX2_handFrom cX2_handFrom 5 (some .long), Cond.methodLink RX2 95 yX2_bit, Cond.static yX2_bit, Cond.code yX2_bit cX2_bit 1 (some .long), Cond.methodLink RX2 61 yX0_begin, Cond.instanceMethod yX0_begin, Cond.selects RX0 yX0_begin yX0_begin, Cond.initialized RX0, Cond.code yX0_begin cX0_begin 3 none, Cond.fieldLink RX0 9 "ArchivistTricks$Archivist" "hand" "J", Cond.fieldLink RX0 15 "ArchivistTricks$Archivist" "taken" "J", Cond.fieldLink RX0 18 "ArchivistTricks$Archivist" "points" "I", Cond.fieldLink RX0 22 "ArchivistTricks$Archivist" "tricks" "I", Cond.fieldLink RX0 25 "ArchivistTricks$Archivist" "gloves" "I", Cond.methodLink RX2 64 yX2_isMildew, Cond.static yX2_isMildew, Cond.code yX2_isMildew cX2_isMildew 1 (some .boolean)]
def wsX2_deal : List Cond := .code yX2_deal cX2_deal 4 (some .int) :: ((wsX2_deal_r1 ++ wsX2_deal_r2) ++ wsX20 ++ wsX00)
def wsX2_isCard : List Cond := .code yX2_isCard cX2_isCard 1 (some .boolean) :: ([])
def wsX2_archivist : List Cond := .code yX2_archivist cX2_archivist 2 (some (.object "ArchivistTricks$Archivist")) :: ([.fieldLink RX2 16 "ArchivistTricks" "first" "LArchivistTricks$Archivist;", .fieldLink RX2 20 "ArchivistTricks" "second" "LArchivistTricks$Archivist;"] ++ wsX20)
def wsX2_moversHand : List Cond := .code yX2_moversHand cX2_moversHand 1 (some .long) :: ([.fieldLink RX2 33 "ArchivistTricks" "mover" "I", .fieldLink RX2 91 "ArchivistTricks$Archivist" "hand" "J", .methodLink RX2 87 yX2_archivist, .instanceMethod yX2_archivist, .selects RX2 yX2_archivist yX2_archivist, .initialized RX2, .code yX2_archivist cX2_archivist 2 (some (.object "ArchivistTricks$Archivist")), .fieldLink RX2 16 "ArchivistTricks" "first" "LArchivistTricks$Archivist;", .fieldLink RX2 20 "ArchivistTricks" "second" "LArchivistTricks$Archivist;"] ++ wsX20 ++ wsX00)
def wsX2_reasonAgainst_r1 : List Cond := [Cond.fieldLink RX2 33 "ArchivistTricks" "mover" "I", Cond.fieldLink RX2 30 "ArchivistTricks" "ledCard" "I", Cond.fieldLink RX2 23 "ArchivistTricks" "drawn" "I", Cond.fieldLink RX2 27 "ArchivistTricks" "trumpProvenance" "I", Cond.methodLink RX2 154 yX2_moversHand, Cond.instanceMethod yX2_moversHand, Cond.selects RX2 yX2_moversHand yX2_moversHand, Cond.initialized RX2, Cond.code yX2_moversHand cX2_moversHand 1 (some .long), Cond.fieldLink RX2 91 "ArchivistTricks$Archivist" "hand" "J", Cond.methodLink RX2 87 yX2_archivist, Cond.instanceMethod yX2_archivist, Cond.selects RX2 yX2_archivist yX2_archivist, Cond.code yX2_archivist cX2_archivist 2 (some (.object "ArchivistTricks$Archivist")), Cond.fieldLink RX2 16 "ArchivistTricks" "first" "LArchivistTricks$Archivist;", Cond.fieldLink RX2 20 "ArchivistTricks" "second" "LArchivistTricks$Archivist;", Cond.methodLink RX2 124 yX2_has, Cond.static yX2_has, Cond.code yX2_has cX2_has 3 (some .boolean), Cond.methodLink RX2 188 yX2_reasonAgainstLeading, Cond.static yX2_reasonAgainstLeading, Cond.code yX2_reasonAgainstLeading cX2_reasonAgainstLeading 3 (some .int), Cond.constantLong RX2 220 (1099511627775), Cond.methodLink RX2 64 yX2_isMildew]
def wsX2_reasonAgainst_r2 : List Cond := [Cond.static yX2_isMildew, Cond.code yX2_isMildew cX2_isMildew 1 (some .boolean), Cond.methodLink RX2 192 yX2_reasonAgainstReplying, Cond.static yX2_reasonAgainstReplying, Cond.code yX2_reasonAgainstReplying cX2_reasonAgainstReplying 9 (some .int), Cond.methodLink RX2 222 yX2_allOf, Cond.static yX2_allOf, Cond.code yX2_allOf cX2_allOf 1 (some .long), Cond.constantLong RX2 218 (1023)]
def wsX2_reasonAgainst : List Cond := .code yX2_reasonAgainst cX2_reasonAgainst 4 (some .int) :: ((wsX2_reasonAgainst_r1 ++ wsX2_reasonAgainst_r2) ++ wsX20 ++ wsX00)
def wsX2_takerBy : List Cond := .code yX2_takerBy cX2_takerBy 2 (some .int) :: ([.fieldLink RX2 30 "ArchivistTricks" "ledCard" "I", .fieldLink RX2 27 "ArchivistTricks" "trumpProvenance" "I", .fieldLink RX2 33 "ArchivistTricks" "mover" "I", .methodLink RX2 196 yX2_beats, .static yX2_beats, .initialized RX2, .code yX2_beats cX2_beats 3 (some .boolean), .methodLink RX2 64 yX2_isMildew, .static yX2_isMildew, .code yX2_isMildew cX2_isMildew 1 (some .boolean)] ++ wsX20)
def wsX2_drawFor : List Cond := .code yX2_drawFor cX2_drawFor 2 none :: ([.fieldLink RX2 23 "ArchivistTricks" "drawn" "I", .fieldLink RX2 91 "ArchivistTricks$Archivist" "hand" "J", .fieldLink RX2 9 "ArchivistTricks" "row" "[I", .methodLink RX2 95 yX2_bit, .static yX2_bit, .initialized RX2, .code yX2_bit cX2_bit 1 (some .long)] ++ wsX20 ++ wsX00)
def wsX2_endGame : List Cond := .code yX2_endGame cX2_endGame 1 none :: ([.fieldLink RX2 33 "ArchivistTricks" "mover" "I", .fieldLink RX2 16 "ArchivistTricks" "first" "LArchivistTricks$Archivist;", .fieldLink RX2 133 "ArchivistTricks$Archivist" "points" "I", .fieldLink RX2 20 "ArchivistTricks" "second" "LArchivistTricks$Archivist;", .fieldLink RX2 36 "ArchivistTricks" "firstWins" "I", .fieldLink RX2 39 "ArchivistTricks" "secondWins" "I"] ++ wsX20 ++ wsX00)
def wsX2_finishTrick_r1 : List Cond := [Cond.fieldLink RX2 105 "ArchivistTricks$Archivist" "gloves" "I", Cond.fieldLink RX2 133 "ArchivistTricks$Archivist" "points" "I", Cond.fieldLink RX2 30 "ArchivistTricks" "ledCard" "I", Cond.fieldLink RX2 136 "ArchivistTricks$Archivist" "tricks" "I", Cond.fieldLink RX2 130 "ArchivistTricks$Archivist" "taken" "J", Cond.fieldLink RX2 16 "ArchivistTricks" "first" "LArchivistTricks$Archivist;", Cond.fieldLink RX2 20 "ArchivistTricks" "second" "LArchivistTricks$Archivist;", Cond.fieldLink RX2 33 "ArchivistTricks" "mover" "I", Cond.fieldLink RX2 91 "ArchivistTricks$Archivist" "hand" "J", Cond.methodLink RX2 141 yX2_takerBy, Cond.instanceMethod yX2_takerBy, Cond.selects RX2 yX2_takerBy yX2_takerBy, Cond.initialized RX2, Cond.code yX2_takerBy cX2_takerBy 2 (some .int), Cond.fieldLink RX2 27 "ArchivistTricks" "trumpProvenance" "I", Cond.methodLink RX2 196 yX2_beats, Cond.static yX2_beats, Cond.code yX2_beats cX2_beats 3 (some .boolean), Cond.methodLink RX2 64 yX2_isMildew, Cond.static yX2_isMildew, Cond.code yX2_isMildew cX2_isMildew 1 (some .boolean), Cond.methodLink RX2 87 yX2_archivist, Cond.instanceMethod yX2_archivist, Cond.selects RX2 yX2_archivist yX2_archivist]
def wsX2_finishTrick_r2 : List Cond := [Cond.code yX2_archivist cX2_archivist 2 (some (.object "ArchivistTricks$Archivist")), Cond.methodLink RX2 200 yX2_worth, Cond.static yX2_worth, Cond.code yX2_worth cX2_worth 2 (some .int), Cond.methodLink RX2 95 yX2_bit, Cond.static yX2_bit, Cond.code yX2_bit cX2_bit 1 (some .long), Cond.methodLink RX2 204 yX0_loseWornGloves, Cond.instanceMethod yX0_loseWornGloves, Cond.selects RX0 yX0_loseWornGloves yX0_loseWornGloves, Cond.initialized RX0, Cond.code yX0_loseWornGloves cX0_loseWornGloves 1 none, Cond.fieldLink RX0 25 "ArchivistTricks$Archivist" "gloves" "I", Cond.methodLink RX2 207 yX2_drawFor, Cond.instanceMethod yX2_drawFor, Cond.selects RX2 yX2_drawFor yX2_drawFor, Cond.code yX2_drawFor cX2_drawFor 2 none, Cond.fieldLink RX2 23 "ArchivistTricks" "drawn" "I", Cond.fieldLink RX2 9 "ArchivistTricks" "row" "[I", Cond.methodLink RX2 211 yX2_endGame, Cond.instanceMethod yX2_endGame, Cond.selects RX2 yX2_endGame yX2_endGame, Cond.code yX2_endGame cX2_endGame 1 none, Cond.fieldLink RX2 36 "ArchivistTricks" "firstWins" "I"]
def wsX2_finishTrick_r3 : List Cond := [Cond.fieldLink RX2 39 "ArchivistTricks" "secondWins" "I"]
def wsX2_finishTrick : List Cond := .code yX2_finishTrick cX2_finishTrick 5 (some .int) :: ((wsX2_finishTrick_r1 ++ (wsX2_finishTrick_r2 ++ wsX2_finishTrick_r3)) ++ wsX00 ++ wsX20)
def wsX2_play_r1 : List Cond := [Cond.classLink RX2 71 "java/lang/IllegalArgumentException", Cond.initialized "java/lang/IllegalArgumentException", Cond.classLink RX2 82 "java/lang/IllegalStateException", Cond.initialized "java/lang/IllegalStateException", Cond.fieldLink RX2 33 "ArchivistTricks" "mover" "I", Cond.fieldLink RX2 91 "ArchivistTricks$Archivist" "hand" "J", Cond.constantLong RX2 98 (-1), Cond.fieldLink RX2 30 "ArchivistTricks" "ledCard" "I", Cond.methodLink RX2 68 yX2_isCard, Cond.static yX2_isCard, Cond.initialized RX2, Cond.code yX2_isCard cX2_isCard 1 (some .boolean), Cond.methodLink RX2 78 yX2_reasonAgainst, Cond.instanceMethod yX2_reasonAgainst, Cond.selects RX2 yX2_reasonAgainst yX2_reasonAgainst, Cond.code yX2_reasonAgainst cX2_reasonAgainst 4 (some .int), Cond.fieldLink RX2 23 "ArchivistTricks" "drawn" "I", Cond.fieldLink RX2 27 "ArchivistTricks" "trumpProvenance" "I", Cond.methodLink RX2 154 yX2_moversHand, Cond.instanceMethod yX2_moversHand, Cond.selects RX2 yX2_moversHand yX2_moversHand, Cond.code yX2_moversHand cX2_moversHand 1 (some .long), Cond.methodLink RX2 87 yX2_archivist, Cond.instanceMethod yX2_archivist]
def wsX2_play_r2 : List Cond := [Cond.selects RX2 yX2_archivist yX2_archivist, Cond.code yX2_archivist cX2_archivist 2 (some (.object "ArchivistTricks$Archivist")), Cond.fieldLink RX2 16 "ArchivistTricks" "first" "LArchivistTricks$Archivist;", Cond.fieldLink RX2 20 "ArchivistTricks" "second" "LArchivistTricks$Archivist;", Cond.methodLink RX2 124 yX2_has, Cond.static yX2_has, Cond.code yX2_has cX2_has 3 (some .boolean), Cond.methodLink RX2 188 yX2_reasonAgainstLeading, Cond.static yX2_reasonAgainstLeading, Cond.code yX2_reasonAgainstLeading cX2_reasonAgainstLeading 3 (some .int), Cond.constantLong RX2 220 (1099511627775), Cond.methodLink RX2 64 yX2_isMildew, Cond.static yX2_isMildew, Cond.code yX2_isMildew cX2_isMildew 1 (some .boolean), Cond.methodLink RX2 192 yX2_reasonAgainstReplying, Cond.static yX2_reasonAgainstReplying, Cond.code yX2_reasonAgainstReplying cX2_reasonAgainstReplying 9 (some .int), Cond.methodLink RX2 222 yX2_allOf, Cond.static yX2_allOf, Cond.code yX2_allOf cX2_allOf 1 (some .long), Cond.constantLong RX2 218 (1023), Cond.methodLink RX2 95 yX2_bit, Cond.static yX2_bit, Cond.code yX2_bit cX2_bit 1 (some .long)]
def wsX2_play_r3 : List Cond := [Cond.methodLink RX2 100 yX2_finishTrick, Cond.instanceMethod yX2_finishTrick, Cond.selects RX2 yX2_finishTrick yX2_finishTrick, Cond.code yX2_finishTrick cX2_finishTrick 5 (some .int), Cond.fieldLink RX2 105 "ArchivistTricks$Archivist" "gloves" "I", Cond.fieldLink RX2 133 "ArchivistTricks$Archivist" "points" "I", Cond.fieldLink RX2 136 "ArchivistTricks$Archivist" "tricks" "I", Cond.fieldLink RX2 130 "ArchivistTricks$Archivist" "taken" "J", Cond.methodLink RX2 141 yX2_takerBy, Cond.instanceMethod yX2_takerBy, Cond.selects RX2 yX2_takerBy yX2_takerBy, Cond.code yX2_takerBy cX2_takerBy 2 (some .int), Cond.methodLink RX2 196 yX2_beats, Cond.static yX2_beats, Cond.code yX2_beats cX2_beats 3 (some .boolean), Cond.methodLink RX2 200 yX2_worth, Cond.static yX2_worth, Cond.code yX2_worth cX2_worth 2 (some .int), Cond.methodLink RX2 204 yX0_loseWornGloves, Cond.instanceMethod yX0_loseWornGloves, Cond.selects RX0 yX0_loseWornGloves yX0_loseWornGloves, Cond.initialized RX0, Cond.code yX0_loseWornGloves cX0_loseWornGloves 1 none, Cond.fieldLink RX0 25 "ArchivistTricks$Archivist" "gloves" "I"]
def wsX2_play_r4 : List Cond := [Cond.methodLink RX2 207 yX2_drawFor, Cond.instanceMethod yX2_drawFor, Cond.selects RX2 yX2_drawFor yX2_drawFor, Cond.code yX2_drawFor cX2_drawFor 2 none, Cond.fieldLink RX2 9 "ArchivistTricks" "row" "[I", Cond.methodLink RX2 211 yX2_endGame, Cond.instanceMethod yX2_endGame, Cond.selects RX2 yX2_endGame yX2_endGame, Cond.code yX2_endGame cX2_endGame 1 none, Cond.fieldLink RX2 36 "ArchivistTricks" "firstWins" "I", Cond.fieldLink RX2 39 "ArchivistTricks" "secondWins" "I"]
def wsX2_play : List Cond := .code yX2_play cX2_play 3 (some .int) :: ((wsX2_play_r1 ++ (wsX2_play_r2 ++ (wsX2_play_r3 ++ wsX2_play_r4))) ++ wsX20 ++ wsX00 ++ (vx_atS RX2 75 "java/lang/IllegalArgumentException" ["java/lang/RuntimeException", "java/lang/Exception"]).filter goodWord ++ (vx_atS RX2 86 "java/lang/IllegalStateException" ["java/lang/RuntimeException", "java/lang/Exception"]).filter goodWord)
def wsX2_putOnGloves : List Cond := .code yX2_putOnGloves cX2_putOnGloves 2 (some .int) :: ([.classLink RX2 82 "java/lang/IllegalStateException", .initialized "java/lang/IllegalStateException", .fieldLink RX2 33 "ArchivistTricks" "mover" "I", .fieldLink RX2 105 "ArchivistTricks$Archivist" "gloves" "I", .methodLink RX2 87 yX2_archivist, .instanceMethod yX2_archivist, .selects RX2 yX2_archivist yX2_archivist, .initialized RX2, .code yX2_archivist cX2_archivist 2 (some (.object "ArchivistTricks$Archivist")), .fieldLink RX2 16 "ArchivistTricks" "first" "LArchivistTricks$Archivist;", .fieldLink RX2 20 "ArchivistTricks" "second" "LArchivistTricks$Archivist;"] ++ wsX20 ++ wsX00 ++ (vx_atS RX2 86 "java/lang/IllegalStateException" ["java/lang/RuntimeException", "java/lang/Exception"]).filter goodWord)
def wsX2_whyNot_r1 : List Cond := [Cond.classLink RX2 71 "java/lang/IllegalArgumentException", Cond.initialized "java/lang/IllegalArgumentException", Cond.methodLink RX2 68 yX2_isCard, Cond.static yX2_isCard, Cond.initialized RX2, Cond.code yX2_isCard cX2_isCard 1 (some .boolean), Cond.methodLink RX2 78 yX2_reasonAgainst, Cond.instanceMethod yX2_reasonAgainst, Cond.selects RX2 yX2_reasonAgainst yX2_reasonAgainst, Cond.code yX2_reasonAgainst cX2_reasonAgainst 4 (some .int), Cond.fieldLink RX2 33 "ArchivistTricks" "mover" "I", Cond.fieldLink RX2 30 "ArchivistTricks" "ledCard" "I", Cond.fieldLink RX2 23 "ArchivistTricks" "drawn" "I", Cond.fieldLink RX2 27 "ArchivistTricks" "trumpProvenance" "I", Cond.methodLink RX2 154 yX2_moversHand, Cond.instanceMethod yX2_moversHand, Cond.selects RX2 yX2_moversHand yX2_moversHand, Cond.code yX2_moversHand cX2_moversHand 1 (some .long), Cond.fieldLink RX2 91 "ArchivistTricks$Archivist" "hand" "J", Cond.methodLink RX2 87 yX2_archivist, Cond.instanceMethod yX2_archivist, Cond.selects RX2 yX2_archivist yX2_archivist, Cond.code yX2_archivist cX2_archivist 2 (some (.object "ArchivistTricks$Archivist")), Cond.fieldLink RX2 16 "ArchivistTricks" "first" "LArchivistTricks$Archivist;"]
def wsX2_whyNot_r2 : List Cond := [Cond.fieldLink RX2 20 "ArchivistTricks" "second" "LArchivistTricks$Archivist;", Cond.methodLink RX2 124 yX2_has, Cond.static yX2_has, Cond.code yX2_has cX2_has 3 (some .boolean), Cond.methodLink RX2 188 yX2_reasonAgainstLeading, Cond.static yX2_reasonAgainstLeading, Cond.code yX2_reasonAgainstLeading cX2_reasonAgainstLeading 3 (some .int), Cond.constantLong RX2 220 (1099511627775), Cond.methodLink RX2 64 yX2_isMildew, Cond.static yX2_isMildew, Cond.code yX2_isMildew cX2_isMildew 1 (some .boolean), Cond.methodLink RX2 192 yX2_reasonAgainstReplying, Cond.static yX2_reasonAgainstReplying, Cond.code yX2_reasonAgainstReplying cX2_reasonAgainstReplying 9 (some .int), Cond.methodLink RX2 222 yX2_allOf, Cond.static yX2_allOf, Cond.code yX2_allOf cX2_allOf 1 (some .long), Cond.constantLong RX2 218 (1023)]
def wsX2_whyNot : List Cond := .code yX2_whyNot cX2_whyNot 2 (some .int) :: ((wsX2_whyNot_r1 ++ wsX2_whyNot_r2) ++ wsX20 ++ wsX00 ++ (vx_atS RX2 75 "java/lang/IllegalArgumentException" ["java/lang/RuntimeException", "java/lang/Exception"]).filter goodWord)
def wsX2_isPlaying : List Cond := .code yX2_isPlaying cX2_isPlaying 1 (some .boolean) :: ([.fieldLink RX2 33 "ArchivistTricks" "mover" "I"] ++ wsX20)
def wsX2_turn : List Cond := .code yX2_turn cX2_turn 1 (some .int) :: ([.fieldLink RX2 33 "ArchivistTricks" "mover" "I"] ++ wsX20)
def wsX2_led : List Cond := .code yX2_led cX2_led 1 (some .int) :: ([.fieldLink RX2 30 "ArchivistTricks" "ledCard" "I"] ++ wsX20)
def wsX2_trumps : List Cond := .code yX2_trumps cX2_trumps 1 (some .int) :: ([.fieldLink RX2 27 "ArchivistTricks" "trumpProvenance" "I"] ++ wsX20)
def wsX2_pile : List Cond := .code yX2_pile cX2_pile 1 (some .int) :: ([.fieldLink RX2 23 "ArchivistTricks" "drawn" "I"] ++ wsX20)
def wsX2_isArchivist : List Cond := .code yX2_isArchivist cX2_isArchivist 1 (some .boolean) :: ([])
def wsJ13_bitCount_95d88 : List Cond := .code yJ13_bitCount_95d88 cJ13_bitCount_95d88 2 (some .int) :: ([.constantLong RJ13 314 (6148914691236517205), .constantLong RJ13 316 (3689348814741910323), .constantLong RJ13 318 (1085102592571150095)])
def wsX2_cards : List Cond := .code yX2_cards cX2_cards 2 (some .int) :: ([.classLink RX2 113 "java/lang/IndexOutOfBoundsException", .initialized "java/lang/IndexOutOfBoundsException", .fieldLink RX2 91 "ArchivistTricks$Archivist" "hand" "J", .methodLink RX2 110 yX2_isArchivist, .static yX2_isArchivist, .initialized RX2, .code yX2_isArchivist cX2_isArchivist 1 (some .boolean), .methodLink RX2 87 yX2_archivist, .instanceMethod yX2_archivist, .selects RX2 yX2_archivist yX2_archivist, .code yX2_archivist cX2_archivist 2 (some (.object "ArchivistTricks$Archivist")), .fieldLink RX2 16 "ArchivistTricks" "first" "LArchivistTricks$Archivist;", .fieldLink RX2 20 "ArchivistTricks" "second" "LArchivistTricks$Archivist;", .methodLink RX2 118 yJ13_bitCount_95d88, .static yJ13_bitCount_95d88, .initialized RJ13, .code yJ13_bitCount_95d88 cJ13_bitCount_95d88 2 (some .int), .constantLong RJ13 314 (6148914691236517205), .constantLong RJ13 316 (3689348814741910323), .constantLong RJ13 318 (1085102592571150095)] ++ wsX00 ++ wsX20 ++ (vx_atS RX2 117 "java/lang/IndexOutOfBoundsException" ["java/lang/RuntimeException", "java/lang/Exception"]).filter goodWord)
def wsX2_cardAt : List Cond := .code yX2_cardAt cX2_cardAt 7 (some .int) :: ([.classLink RX2 113 "java/lang/IndexOutOfBoundsException", .initialized "java/lang/IndexOutOfBoundsException", .fieldLink RX2 91 "ArchivistTricks$Archivist" "hand" "J", .methodLink RX2 110 yX2_isArchivist, .static yX2_isArchivist, .initialized RX2, .code yX2_isArchivist cX2_isArchivist 1 (some .boolean), .methodLink RX2 87 yX2_archivist, .instanceMethod yX2_archivist, .selects RX2 yX2_archivist yX2_archivist, .code yX2_archivist cX2_archivist 2 (some (.object "ArchivistTricks$Archivist")), .fieldLink RX2 16 "ArchivistTricks" "first" "LArchivistTricks$Archivist;", .fieldLink RX2 20 "ArchivistTricks" "second" "LArchivistTricks$Archivist;", .methodLink RX2 124 yX2_has, .static yX2_has, .code yX2_has cX2_has 3 (some .boolean)] ++ wsX00 ++ wsX20 ++ (vx_atS RX2 117 "java/lang/IndexOutOfBoundsException" ["java/lang/RuntimeException", "java/lang/Exception"]).filter goodWord)
def wsX2_placeOf : List Cond := .code yX2_placeOf cX2_placeOf 2 (some .int) :: ([.classLink RX2 71 "java/lang/IllegalArgumentException", .initialized "java/lang/IllegalArgumentException", .fieldLink RX2 27 "ArchivistTricks" "trumpProvenance" "I", .fieldLink RX2 16 "ArchivistTricks" "first" "LArchivistTricks$Archivist;", .fieldLink RX2 91 "ArchivistTricks$Archivist" "hand" "J", .fieldLink RX2 20 "ArchivistTricks" "second" "LArchivistTricks$Archivist;", .fieldLink RX2 130 "ArchivistTricks$Archivist" "taken" "J", .fieldLink RX2 30 "ArchivistTricks" "ledCard" "I", .methodLink RX2 68 yX2_isCard, .static yX2_isCard, .initialized RX2, .code yX2_isCard cX2_isCard 1 (some .boolean), .methodLink RX2 124 yX2_has, .static yX2_has, .code yX2_has cX2_has 3 (some .boolean)] ++ wsX20 ++ wsX00 ++ (vx_atS RX2 75 "java/lang/IllegalArgumentException" ["java/lang/RuntimeException", "java/lang/Exception"]).filter goodWord)
def wsX2_points : List Cond := .code yX2_points cX2_points 2 (some .int) :: ([.classLink RX2 113 "java/lang/IndexOutOfBoundsException", .initialized "java/lang/IndexOutOfBoundsException", .fieldLink RX2 133 "ArchivistTricks$Archivist" "points" "I", .methodLink RX2 110 yX2_isArchivist, .static yX2_isArchivist, .initialized RX2, .code yX2_isArchivist cX2_isArchivist 1 (some .boolean), .methodLink RX2 87 yX2_archivist, .instanceMethod yX2_archivist, .selects RX2 yX2_archivist yX2_archivist, .code yX2_archivist cX2_archivist 2 (some (.object "ArchivistTricks$Archivist")), .fieldLink RX2 16 "ArchivistTricks" "first" "LArchivistTricks$Archivist;", .fieldLink RX2 20 "ArchivistTricks" "second" "LArchivistTricks$Archivist;"] ++ wsX00 ++ wsX20 ++ (vx_atS RX2 117 "java/lang/IndexOutOfBoundsException" ["java/lang/RuntimeException", "java/lang/Exception"]).filter goodWord)
def wsX2_tricks : List Cond := .code yX2_tricks cX2_tricks 2 (some .int) :: ([.classLink RX2 113 "java/lang/IndexOutOfBoundsException", .initialized "java/lang/IndexOutOfBoundsException", .fieldLink RX2 136 "ArchivistTricks$Archivist" "tricks" "I", .methodLink RX2 110 yX2_isArchivist, .static yX2_isArchivist, .initialized RX2, .code yX2_isArchivist cX2_isArchivist 1 (some .boolean), .methodLink RX2 87 yX2_archivist, .instanceMethod yX2_archivist, .selects RX2 yX2_archivist yX2_archivist, .code yX2_archivist cX2_archivist 2 (some (.object "ArchivistTricks$Archivist")), .fieldLink RX2 16 "ArchivistTricks" "first" "LArchivistTricks$Archivist;", .fieldLink RX2 20 "ArchivistTricks" "second" "LArchivistTricks$Archivist;"] ++ wsX00 ++ wsX20 ++ (vx_atS RX2 117 "java/lang/IndexOutOfBoundsException" ["java/lang/RuntimeException", "java/lang/Exception"]).filter goodWord)
def wsX2_gloves : List Cond := .code yX2_gloves cX2_gloves 2 (some .int) :: ([.classLink RX2 113 "java/lang/IndexOutOfBoundsException", .initialized "java/lang/IndexOutOfBoundsException", .fieldLink RX2 105 "ArchivistTricks$Archivist" "gloves" "I", .methodLink RX2 110 yX2_isArchivist, .static yX2_isArchivist, .initialized RX2, .code yX2_isArchivist cX2_isArchivist 1 (some .boolean), .methodLink RX2 87 yX2_archivist, .instanceMethod yX2_archivist, .selects RX2 yX2_archivist yX2_archivist, .code yX2_archivist cX2_archivist 2 (some (.object "ArchivistTricks$Archivist")), .fieldLink RX2 16 "ArchivistTricks" "first" "LArchivistTricks$Archivist;", .fieldLink RX2 20 "ArchivistTricks" "second" "LArchivistTricks$Archivist;"] ++ wsX00 ++ wsX20 ++ (vx_atS RX2 117 "java/lang/IndexOutOfBoundsException" ["java/lang/RuntimeException", "java/lang/Exception"]).filter goodWord)
def wsX2_choices_r1 : List Cond := [Cond.methodLink RX2 78 yX2_reasonAgainst, Cond.instanceMethod yX2_reasonAgainst, Cond.selects RX2 yX2_reasonAgainst yX2_reasonAgainst, Cond.initialized RX2, Cond.code yX2_reasonAgainst cX2_reasonAgainst 4 (some .int), Cond.fieldLink RX2 33 "ArchivistTricks" "mover" "I", Cond.fieldLink RX2 30 "ArchivistTricks" "ledCard" "I", Cond.fieldLink RX2 23 "ArchivistTricks" "drawn" "I", Cond.fieldLink RX2 27 "ArchivistTricks" "trumpProvenance" "I", Cond.methodLink RX2 154 yX2_moversHand, Cond.instanceMethod yX2_moversHand, Cond.selects RX2 yX2_moversHand yX2_moversHand, Cond.code yX2_moversHand cX2_moversHand 1 (some .long), Cond.fieldLink RX2 91 "ArchivistTricks$Archivist" "hand" "J", Cond.methodLink RX2 87 yX2_archivist, Cond.instanceMethod yX2_archivist, Cond.selects RX2 yX2_archivist yX2_archivist, Cond.code yX2_archivist cX2_archivist 2 (some (.object "ArchivistTricks$Archivist")), Cond.fieldLink RX2 16 "ArchivistTricks" "first" "LArchivistTricks$Archivist;", Cond.fieldLink RX2 20 "ArchivistTricks" "second" "LArchivistTricks$Archivist;", Cond.methodLink RX2 124 yX2_has, Cond.static yX2_has, Cond.code yX2_has cX2_has 3 (some .boolean), Cond.methodLink RX2 188 yX2_reasonAgainstLeading]
def wsX2_choices_r2 : List Cond := [Cond.static yX2_reasonAgainstLeading, Cond.code yX2_reasonAgainstLeading cX2_reasonAgainstLeading 3 (some .int), Cond.constantLong RX2 220 (1099511627775), Cond.methodLink RX2 64 yX2_isMildew, Cond.static yX2_isMildew, Cond.code yX2_isMildew cX2_isMildew 1 (some .boolean), Cond.methodLink RX2 192 yX2_reasonAgainstReplying, Cond.static yX2_reasonAgainstReplying, Cond.code yX2_reasonAgainstReplying cX2_reasonAgainstReplying 9 (some .int), Cond.methodLink RX2 222 yX2_allOf, Cond.static yX2_allOf, Cond.code yX2_allOf cX2_allOf 1 (some .long), Cond.constantLong RX2 218 (1023)]
def wsX2_choices : List Cond := .code yX2_choices cX2_choices 3 (some .int) :: ((wsX2_choices_r1 ++ wsX2_choices_r2) ++ wsX20 ++ wsX00)
def wsX2_wouldTake : List Cond := .code yX2_wouldTake cX2_wouldTake 2 (some .int) :: ([.classLink RX2 71 "java/lang/IllegalArgumentException", .initialized "java/lang/IllegalArgumentException", .classLink RX2 82 "java/lang/IllegalStateException", .initialized "java/lang/IllegalStateException", .fieldLink RX2 30 "ArchivistTricks" "ledCard" "I", .methodLink RX2 68 yX2_isCard, .static yX2_isCard, .initialized RX2, .code yX2_isCard cX2_isCard 1 (some .boolean), .methodLink RX2 141 yX2_takerBy, .instanceMethod yX2_takerBy, .selects RX2 yX2_takerBy yX2_takerBy, .code yX2_takerBy cX2_takerBy 2 (some .int), .fieldLink RX2 27 "ArchivistTricks" "trumpProvenance" "I", .fieldLink RX2 33 "ArchivistTricks" "mover" "I", .methodLink RX2 196 yX2_beats, .static yX2_beats, .code yX2_beats cX2_beats 3 (some .boolean), .methodLink RX2 64 yX2_isMildew, .static yX2_isMildew, .code yX2_isMildew cX2_isMildew 1 (some .boolean)] ++ wsX20 ++ (vx_atS RX2 75 "java/lang/IllegalArgumentException" ["java/lang/RuntimeException", "java/lang/Exception"]).filter goodWord ++ (vx_atS RX2 86 "java/lang/IllegalStateException" ["java/lang/RuntimeException", "java/lang/Exception"]).filter goodWord)
def wsX2_isEnding : List Cond := .code yX2_isEnding cX2_isEnding 1 (some .boolean) :: ([.fieldLink RX2 33 "ArchivistTricks" "mover" "I", .fieldLink RX2 23 "ArchivistTricks" "drawn" "I"] ++ wsX20)
def wsX2_begunEnding_r1 : List Cond := [Cond.fieldLink RX2 42 "ArchivistTricks" "ending" "LArchivistTricks$Ending;", Cond.classLink RX2 166 RX1, Cond.instantiable RX1 4, Cond.initialized RX1, Cond.fieldLink RX2 46 "ArchivistTricks" "endingBegun" "Z", Cond.fieldLink RX2 16 "ArchivistTricks" "first" "LArchivistTricks$Archivist;", Cond.fieldLink RX2 91 "ArchivistTricks$Archivist" "hand" "J", Cond.fieldLink RX2 20 "ArchivistTricks" "second" "LArchivistTricks$Archivist;", Cond.fieldLink RX2 27 "ArchivistTricks" "trumpProvenance" "I", Cond.instanceMethod yX1_init, Cond.code yX1_init cX1_init 1 none, Cond.methodLink RX1 3 objectInit, Cond.instanceMethod objectInit, Cond.code objectInit ⟨#[0xb1]⟩ 1 none, Cond.arrayClass .int, Cond.fieldLink RX1 9 "ArchivistTricks$Ending" "margins" "[I", Cond.fieldLink RX1 15 "ArchivistTricks$Ending" "firstAll" "J", Cond.fieldLink RX1 19 "ArchivistTricks$Ending" "secondAll" "J", Cond.fieldLink RX1 22 "ArchivistTricks$Ending" "trump" "I", Cond.methodLink RX2 215 yX1_begin, Cond.instanceMethod yX1_begin, Cond.selects RX1 yX1_begin yX1_begin, Cond.code yX1_begin cX1_begin 6 none, Cond.methodLink RX1 26 yJ7_fill_53178]
def wsX2_begunEnding_r2 : List Cond := [Cond.static yJ7_fill_53178, Cond.initialized RJ7, Cond.code yJ7_fill_53178 cJ7_fill_53178 4 none]
def wsX2_begunEnding : List Cond := .code yX2_begunEnding cX2_begunEnding 1 (some (.object "ArchivistTricks$Ending")) :: ((wsX2_begunEnding_r1 ++ wsX2_begunEnding_r2) ++ wsX20 ++ wsX10 ++ wsX00)
def wsX2_othersHand : List Cond := .code yX2_othersHand cX2_othersHand 1 (some .long) :: ([.fieldLink RX2 33 "ArchivistTricks" "mover" "I", .fieldLink RX2 91 "ArchivistTricks$Archivist" "hand" "J", .methodLink RX2 87 yX2_archivist, .instanceMethod yX2_archivist, .selects RX2 yX2_archivist yX2_archivist, .initialized RX2, .code yX2_archivist cX2_archivist 2 (some (.object "ArchivistTricks$Archivist")), .fieldLink RX2 16 "ArchivistTricks" "first" "LArchivistTricks$Archivist;", .fieldLink RX2 20 "ArchivistTricks" "second" "LArchivistTricks$Archivist;"] ++ wsX20 ++ wsX00)
def wsX2_glovesWorn : List Cond := .code yX2_glovesWorn cX2_glovesWorn 1 (some .int) :: ([.fieldLink RX2 16 "ArchivistTricks" "first" "LArchivistTricks$Archivist;", .fieldLink RX2 105 "ArchivistTricks$Archivist" "gloves" "I", .fieldLink RX2 20 "ArchivistTricks" "second" "LArchivistTricks$Archivist;"] ++ wsX20 ++ wsX00)
def wsX2_best_r1 : List Cond := [Cond.classLink RX2 82 "java/lang/IllegalStateException", Cond.initialized "java/lang/IllegalStateException", Cond.fieldLink RX2 30 "ArchivistTricks" "ledCard" "I", Cond.fieldLink RX2 33 "ArchivistTricks" "mover" "I", Cond.methodLink RX2 144 yX2_isEnding, Cond.instanceMethod yX2_isEnding, Cond.selects RX2 yX2_isEnding yX2_isEnding, Cond.initialized RX2, Cond.code yX2_isEnding cX2_isEnding 1 (some .boolean), Cond.fieldLink RX2 23 "ArchivistTricks" "drawn" "I", Cond.methodLink RX2 150 yX2_begunEnding, Cond.instanceMethod yX2_begunEnding, Cond.selects RX2 yX2_begunEnding yX2_begunEnding, Cond.code yX2_begunEnding cX2_begunEnding 1 (some (.object "ArchivistTricks$Ending")), Cond.fieldLink RX2 42 "ArchivistTricks" "ending" "LArchivistTricks$Ending;", Cond.classLink RX2 166 RX1, Cond.instantiable RX1 4, Cond.initialized RX1, Cond.fieldLink RX2 46 "ArchivistTricks" "endingBegun" "Z", Cond.fieldLink RX2 16 "ArchivistTricks" "first" "LArchivistTricks$Archivist;", Cond.fieldLink RX2 91 "ArchivistTricks$Archivist" "hand" "J", Cond.fieldLink RX2 20 "ArchivistTricks" "second" "LArchivistTricks$Archivist;", Cond.fieldLink RX2 27 "ArchivistTricks" "trumpProvenance" "I", Cond.instanceMethod yX1_init]
def wsX2_best_r2 : List Cond := [Cond.code yX1_init cX1_init 1 none, Cond.methodLink RX1 3 objectInit, Cond.instanceMethod objectInit, Cond.code objectInit ⟨#[0xb1]⟩ 1 none, Cond.arrayClass .int, Cond.fieldLink RX1 9 "ArchivistTricks$Ending" "margins" "[I", Cond.fieldLink RX1 15 "ArchivistTricks$Ending" "firstAll" "J", Cond.fieldLink RX1 19 "ArchivistTricks$Ending" "secondAll" "J", Cond.fieldLink RX1 22 "ArchivistTricks$Ending" "trump" "I", Cond.methodLink RX2 215 yX1_begin, Cond.instanceMethod yX1_begin, Cond.selects RX1 yX1_begin yX1_begin, Cond.code yX1_begin cX1_begin 6 none, Cond.methodLink RX1 26 yJ7_fill_53178, Cond.static yJ7_fill_53178, Cond.initialized RJ7, Cond.code yJ7_fill_53178 cJ7_fill_53178 4 none, Cond.methodLink RX2 154 yX2_moversHand, Cond.instanceMethod yX2_moversHand, Cond.selects RX2 yX2_moversHand yX2_moversHand, Cond.code yX2_moversHand cX2_moversHand 1 (some .long), Cond.methodLink RX2 87 yX2_archivist, Cond.instanceMethod yX2_archivist, Cond.selects RX2 yX2_archivist yX2_archivist]
def wsX2_best_r3 : List Cond := [Cond.code yX2_archivist cX2_archivist 2 (some (.object "ArchivistTricks$Archivist")), Cond.methodLink RX2 158 yX2_othersHand, Cond.instanceMethod yX2_othersHand, Cond.selects RX2 yX2_othersHand yX2_othersHand, Cond.code yX2_othersHand cX2_othersHand 1 (some .long), Cond.methodLink RX2 161 yX2_glovesWorn, Cond.instanceMethod yX2_glovesWorn, Cond.selects RX2 yX2_glovesWorn yX2_glovesWorn, Cond.code yX2_glovesWorn cX2_glovesWorn 1 (some .int), Cond.fieldLink RX2 105 "ArchivistTricks$Archivist" "gloves" "I", Cond.methodLink RX2 165 yX1_bestMargin, Cond.instanceMethod yX1_bestMargin, Cond.selects RX1 yX1_bestMargin yX1_bestMargin, Cond.code yX1_bestMargin cX1_bestMargin 8 (some .int), Cond.methodLink RX1 32 yX1_margin, Cond.instanceMethod yX1_margin, Cond.selects RX1 yX1_margin yX1_margin, Cond.code yX1_margin cX1_margin 11 (some .int), Cond.methodLink RX1 44 Lib.Math.max.name, Cond.static Lib.Math.max.name, Cond.initialized "java/lang/Math", Cond.code Lib.Math.max.name Lib.Math.max.code 2 (some .int), Cond.methodLink RX1 36 yX1_mayPlay, Cond.instanceMethod yX1_mayPlay]
def wsX2_best_r4 : List Cond := [Cond.selects RX1 yX1_mayPlay yX1_mayPlay, Cond.code yX1_mayPlay cX1_mayPlay 6 (some .boolean), Cond.static yX2_has, Cond.code yX2_has cX2_has 3 (some .boolean), Cond.static yX2_reasonAgainstLeading, Cond.code yX2_reasonAgainstLeading cX2_reasonAgainstLeading 3 (some .int), Cond.constantLong RX2 220 (1099511627775), Cond.methodLink RX2 64 yX2_isMildew, Cond.static yX2_isMildew, Cond.code yX2_isMildew cX2_isMildew 1 (some .boolean), Cond.static yX2_reasonAgainstReplying, Cond.code yX2_reasonAgainstReplying cX2_reasonAgainstReplying 9 (some .int), Cond.methodLink RX2 222 yX2_allOf, Cond.static yX2_allOf, Cond.code yX2_allOf cX2_allOf 1 (some .long), Cond.constantLong RX2 218 (1023), Cond.methodLink RX2 124 yX2_has, Cond.methodLink RX1 40 yX1_marginBy, Cond.instanceMethod yX1_marginBy, Cond.selects RX1 yX1_marginBy yX1_marginBy, Cond.code yX1_marginBy cX1_marginBy 13 (some .int), Cond.constantLong RX1 54 (-1), Cond.static yX2_bit, Cond.code yX2_bit cX2_bit 1 (some .long)]
def wsX2_best_r5 : List Cond := [Cond.static yX2_beats, Cond.code yX2_beats cX2_beats 3 (some .boolean), Cond.methodLink RX1 60 yX1_trickWorth, Cond.static yX1_trickWorth, Cond.code yX1_trickWorth cX1_trickWorth 5 (some .int), Cond.static yX2_worth, Cond.code yX2_worth cX2_worth 2 (some .int), Cond.methodLink RX1 64 yX1_rest, Cond.instanceMethod yX1_rest, Cond.selects RX1 yX1_rest yX1_rest, Cond.code yX1_rest cX1_rest 10 (some .int), Cond.methodLink RX1 68 yX1_stateOf, Cond.instanceMethod yX1_stateOf, Cond.selects RX1 yX1_stateOf yX1_stateOf, Cond.code yX1_stateOf cX1_stateOf 8 (some .int), Cond.methodLink RX1 84 yX1_keptOf, Cond.static yX1_keptOf, Cond.code yX1_keptOf cX1_keptOf 10 (some .int)]
def wsX2_best : List Cond := .code yX2_best cX2_best 1 (some .int) :: ((wsX2_best_r1 ++ (wsX2_best_r2 ++ (wsX2_best_r3 ++ (wsX2_best_r4 ++ wsX2_best_r5)))) ++ wsX20 ++ wsX10 ++ wsX00 ++ (vx_atS RX2 86 "java/lang/IllegalStateException" ["java/lang/RuntimeException", "java/lang/Exception"]).filter goodWord)
def wsX2_bestCard_r1 : List Cond := [Cond.classLink RX2 82 "java/lang/IllegalStateException", Cond.initialized "java/lang/IllegalStateException", Cond.fieldLink RX2 30 "ArchivistTricks" "ledCard" "I", Cond.fieldLink RX2 33 "ArchivistTricks" "mover" "I", Cond.methodLink RX2 144 yX2_isEnding, Cond.instanceMethod yX2_isEnding, Cond.selects RX2 yX2_isEnding yX2_isEnding, Cond.initialized RX2, Cond.code yX2_isEnding cX2_isEnding 1 (some .boolean), Cond.fieldLink RX2 23 "ArchivistTricks" "drawn" "I", Cond.methodLink RX2 150 yX2_begunEnding, Cond.instanceMethod yX2_begunEnding, Cond.selects RX2 yX2_begunEnding yX2_begunEnding, Cond.code yX2_begunEnding cX2_begunEnding 1 (some (.object "ArchivistTricks$Ending")), Cond.fieldLink RX2 42 "ArchivistTricks" "ending" "LArchivistTricks$Ending;", Cond.classLink RX2 166 RX1, Cond.instantiable RX1 4, Cond.initialized RX1, Cond.fieldLink RX2 46 "ArchivistTricks" "endingBegun" "Z", Cond.fieldLink RX2 16 "ArchivistTricks" "first" "LArchivistTricks$Archivist;", Cond.fieldLink RX2 91 "ArchivistTricks$Archivist" "hand" "J", Cond.fieldLink RX2 20 "ArchivistTricks" "second" "LArchivistTricks$Archivist;", Cond.fieldLink RX2 27 "ArchivistTricks" "trumpProvenance" "I", Cond.instanceMethod yX1_init]
def wsX2_bestCard_r2 : List Cond := [Cond.code yX1_init cX1_init 1 none, Cond.methodLink RX1 3 objectInit, Cond.instanceMethod objectInit, Cond.code objectInit ⟨#[0xb1]⟩ 1 none, Cond.arrayClass .int, Cond.fieldLink RX1 9 "ArchivistTricks$Ending" "margins" "[I", Cond.fieldLink RX1 15 "ArchivistTricks$Ending" "firstAll" "J", Cond.fieldLink RX1 19 "ArchivistTricks$Ending" "secondAll" "J", Cond.fieldLink RX1 22 "ArchivistTricks$Ending" "trump" "I", Cond.methodLink RX2 215 yX1_begin, Cond.instanceMethod yX1_begin, Cond.selects RX1 yX1_begin yX1_begin, Cond.code yX1_begin cX1_begin 6 none, Cond.methodLink RX1 26 yJ7_fill_53178, Cond.static yJ7_fill_53178, Cond.initialized RJ7, Cond.code yJ7_fill_53178 cJ7_fill_53178 4 none, Cond.methodLink RX2 154 yX2_moversHand, Cond.instanceMethod yX2_moversHand, Cond.selects RX2 yX2_moversHand yX2_moversHand, Cond.code yX2_moversHand cX2_moversHand 1 (some .long), Cond.methodLink RX2 87 yX2_archivist, Cond.instanceMethod yX2_archivist, Cond.selects RX2 yX2_archivist yX2_archivist]
def wsX2_bestCard_r3 : List Cond := [Cond.code yX2_archivist cX2_archivist 2 (some (.object "ArchivistTricks$Archivist")), Cond.methodLink RX2 158 yX2_othersHand, Cond.instanceMethod yX2_othersHand, Cond.selects RX2 yX2_othersHand yX2_othersHand, Cond.code yX2_othersHand cX2_othersHand 1 (some .long), Cond.methodLink RX2 161 yX2_glovesWorn, Cond.instanceMethod yX2_glovesWorn, Cond.selects RX2 yX2_glovesWorn yX2_glovesWorn, Cond.code yX2_glovesWorn cX2_glovesWorn 1 (some .int), Cond.fieldLink RX2 105 "ArchivistTricks$Archivist" "gloves" "I", Cond.methodLink RX2 171 yX1_lowestBestCard, Cond.instanceMethod yX1_lowestBestCard, Cond.selects RX1 yX1_lowestBestCard yX1_lowestBestCard, Cond.code yX1_lowestBestCard cX1_lowestBestCard 12 (some .int), Cond.methodLink RX1 36 yX1_mayPlay, Cond.instanceMethod yX1_mayPlay, Cond.selects RX1 yX1_mayPlay yX1_mayPlay, Cond.code yX1_mayPlay cX1_mayPlay 6 (some .boolean), Cond.static yX2_has, Cond.code yX2_has cX2_has 3 (some .boolean), Cond.static yX2_reasonAgainstLeading, Cond.code yX2_reasonAgainstLeading cX2_reasonAgainstLeading 3 (some .int), Cond.constantLong RX2 220 (1099511627775), Cond.methodLink RX2 64 yX2_isMildew]
def wsX2_bestCard_r4 : List Cond := [Cond.static yX2_isMildew, Cond.code yX2_isMildew cX2_isMildew 1 (some .boolean), Cond.static yX2_reasonAgainstReplying, Cond.code yX2_reasonAgainstReplying cX2_reasonAgainstReplying 9 (some .int), Cond.methodLink RX2 222 yX2_allOf, Cond.static yX2_allOf, Cond.code yX2_allOf cX2_allOf 1 (some .long), Cond.constantLong RX2 218 (1023), Cond.methodLink RX2 124 yX2_has, Cond.methodLink RX1 40 yX1_marginBy, Cond.instanceMethod yX1_marginBy, Cond.selects RX1 yX1_marginBy yX1_marginBy, Cond.code yX1_marginBy cX1_marginBy 13 (some .int), Cond.constantLong RX1 54 (-1), Cond.static yX2_bit, Cond.code yX2_bit cX2_bit 1 (some .long), Cond.methodLink RX1 32 yX1_margin, Cond.instanceMethod yX1_margin, Cond.selects RX1 yX1_margin yX1_margin, Cond.static yX2_beats, Cond.code yX2_beats cX2_beats 3 (some .boolean), Cond.methodLink RX1 60 yX1_trickWorth, Cond.static yX1_trickWorth, Cond.code yX1_trickWorth cX1_trickWorth 5 (some .int)]
def wsX2_bestCard_r5 : List Cond := [Cond.static yX2_worth, Cond.code yX2_worth cX2_worth 2 (some .int), Cond.methodLink RX1 64 yX1_rest, Cond.instanceMethod yX1_rest, Cond.selects RX1 yX1_rest yX1_rest, Cond.code yX1_margin cX1_margin 11 (some .int), Cond.methodLink RX1 44 Lib.Math.max.name, Cond.static Lib.Math.max.name, Cond.initialized "java/lang/Math", Cond.code Lib.Math.max.name Lib.Math.max.code 2 (some .int), Cond.code yX1_rest cX1_rest 10 (some .int), Cond.methodLink RX1 68 yX1_stateOf, Cond.instanceMethod yX1_stateOf, Cond.selects RX1 yX1_stateOf yX1_stateOf, Cond.code yX1_stateOf cX1_stateOf 8 (some .int), Cond.methodLink RX1 84 yX1_keptOf, Cond.static yX1_keptOf, Cond.code yX1_keptOf cX1_keptOf 10 (some .int)]
def wsX2_bestCard : List Cond := .code yX2_bestCard cX2_bestCard 1 (some .int) :: ((wsX2_bestCard_r1 ++ (wsX2_bestCard_r2 ++ (wsX2_bestCard_r3 ++ (wsX2_bestCard_r4 ++ wsX2_bestCard_r5)))) ++ wsX20 ++ wsX10 ++ wsX00 ++ (vx_atS RX2 86 "java/lang/IllegalStateException" ["java/lang/RuntimeException", "java/lang/Exception"]).filter goodWord)
def wsX2_wonByFirst : List Cond := .code yX2_wonByFirst cX2_wonByFirst 1 (some .int) :: ([.fieldLink RX2 36 "ArchivistTricks" "firstWins" "I"] ++ wsX20)
def wsX2_wonBySecond : List Cond := .code yX2_wonBySecond cX2_wonBySecond 1 (some .int) :: ([.fieldLink RX2 39 "ArchivistTricks" "secondWins" "I"] ++ wsX20)
def wsX3_init : List Cond := .code yX3_init cX3_init 1 none :: ([.methodLink RX3 1 objectInit, .instanceMethod objectInit, .code objectInit ⟨#[0xb1]⟩ 1 none, .arrayClass .int, .fieldLink RX3 7 "ArchivistTricksModel" "place" "[I", .fieldLink RX3 13 "ArchivistTricksModel" "row" "[I", .fieldLink RX3 16 "ArchivistTricksModel" "ledCard" "I", .fieldLink RX3 20 "ArchivistTricksModel" "trumps" "I", .fieldLink RX3 23 "ArchivistTricksModel" "points" "[I", .fieldLink RX3 26 "ArchivistTricksModel" "tricks" "[I", .fieldLink RX3 29 "ArchivistTricksModel" "gloves" "[I", .fieldLink RX3 32 "ArchivistTricksModel" "wins" "[I", .fieldLink RX3 35 "ArchivistTricksModel" "held" "[I", .fieldLink RX3 38 "ArchivistTricksModel" "worthOf" "[I"] ++ wsX30)
def wsX3_thrown : List Cond := .code yX3_thrown cX3_thrown 1 (some .int) :: ([.fieldLink RX3 41 "ArchivistTricksModel" "thrown" "I"] ++ wsX30)
def wsX3_isCard : List Cond := .code yX3_isCard cX3_isCard 1 (some .boolean) :: ([])
def wsX3_isArchivist : List Cond := .code yX3_isArchivist cX3_isArchivist 1 (some .boolean) :: ([])
def wsX3_isMildew : List Cond := .code yX3_isMildew cX3_isMildew 1 (some .boolean) :: ([])
def wsX3_provenance : List Cond := .code yX3_provenance cX3_provenance 1 (some .int) :: ([])
def wsX3_isTrump : List Cond := .code yX3_isTrump cX3_isTrump 2 (some .boolean) :: ([.fieldLink RX3 20 "ArchivistTricksModel" "trumps" "I", .methodLink RX3 44 yX3_isMildew, .static yX3_isMildew, .initialized RX3, .code yX3_isMildew cX3_isMildew 1 (some .boolean), .methodLink RX3 48 yX3_provenance, .static yX3_provenance, .code yX3_provenance cX3_provenance 1 (some .int)] ++ wsX30)
def wsX3_worth : List Cond := .code yX3_worth cX3_worth 1 (some .int) :: ([.methodLink RX3 44 yX3_isMildew, .static yX3_isMildew, .initialized RX3, .code yX3_isMildew cX3_isMildew 1 (some .boolean)])
def wsX3_worthTo : List Cond := .code yX3_worthTo cX3_worthTo 2 (some .int) :: ([.methodLink RX3 44 yX3_isMildew, .static yX3_isMildew, .initialized RX3, .code yX3_isMildew cX3_isMildew 1 (some .boolean), .methodLink RX3 52 yX3_worth, .static yX3_worth, .code yX3_worth cX3_worth 1 (some .int)])
def wsX3_takes : List Cond := .code yX3_takes cX3_takes 3 (some .boolean) :: ([.methodLink RX3 44 yX3_isMildew, .static yX3_isMildew, .initialized RX3, .code yX3_isMildew cX3_isMildew 1 (some .boolean), .methodLink RX3 48 yX3_provenance, .static yX3_provenance, .code yX3_provenance cX3_provenance 1 (some .int), .methodLink RX3 55 yX3_isTrump, .instanceMethod yX3_isTrump, .selects RX3 yX3_isTrump yX3_isTrump, .code yX3_isTrump cX3_isTrump 2 (some .boolean), .fieldLink RX3 20 "ArchivistTricksModel" "trumps" "I"] ++ wsX30)
def wsX3_inPile : List Cond := .code yX3_inPile cX3_inPile 1 (some .int) :: ([.fieldLink RX3 58 "ArchivistTricksModel" "isDealt" "Z", .fieldLink RX3 62 "ArchivistTricksModel" "drawn" "I"] ++ wsX30)
def wsX3_deal : List Cond := .code yX3_deal cX3_deal 8 (some .int) :: ([.fieldLink RX3 41 "ArchivistTricksModel" "thrown" "I", .fieldLink RX3 13 "ArchivistTricksModel" "row" "[I", .constantLong RX3 65 (6364136223846793005), .constantLong RX3 67 (1442695040888963407), .fieldLink RX3 7 "ArchivistTricksModel" "place" "[I", .fieldLink RX3 20 "ArchivistTricksModel" "trumps" "I", .fieldLink RX3 23 "ArchivistTricksModel" "points" "[I", .fieldLink RX3 26 "ArchivistTricksModel" "tricks" "[I", .fieldLink RX3 29 "ArchivistTricksModel" "gloves" "[I", .fieldLink RX3 62 "ArchivistTricksModel" "drawn" "I", .fieldLink RX3 69 "ArchivistTricksModel" "turn" "I", .fieldLink RX3 16 "ArchivistTricksModel" "ledCard" "I", .fieldLink RX3 58 "ArchivistTricksModel" "isDealt" "Z", .fieldLink RX3 72 "ArchivistTricksModel" "isOn" "Z", .methodLink RX3 44 yX3_isMildew, .static yX3_isMildew, .initialized RX3, .code yX3_isMildew cX3_isMildew 1 (some .boolean), .methodLink RX3 48 yX3_provenance, .static yX3_provenance, .code yX3_provenance cX3_provenance 1 (some .int)] ++ wsX30)
def wsX3_howMany : List Cond := .code yX3_howMany cX3_howMany 4 (some .int) :: ([.fieldLink RX3 58 "ArchivistTricksModel" "isDealt" "Z", .fieldLink RX3 7 "ArchivistTricksModel" "place" "[I"] ++ wsX30)
def wsX3_hasOf : List Cond := .code yX3_hasOf cX3_hasOf 5 (some .boolean) :: ([.fieldLink RX3 7 "ArchivistTricksModel" "place" "[I", .methodLink RX3 48 yX3_provenance, .static yX3_provenance, .initialized RX3, .code yX3_provenance cX3_provenance 1 (some .int)] ++ wsX30)
def wsX3_hasDated : List Cond := .code yX3_hasDated cX3_hasDated 2 (some .boolean) :: ([.methodLink RX3 75 yX3_hasOf, .instanceMethod yX3_hasOf, .selects RX3 yX3_hasOf yX3_hasOf, .initialized RX3, .code yX3_hasOf cX3_hasOf 5 (some .boolean), .fieldLink RX3 7 "ArchivistTricksModel" "place" "[I", .methodLink RX3 48 yX3_provenance, .static yX3_provenance, .code yX3_provenance cX3_provenance 1 (some .int)] ++ wsX30)
def wsX3_why_r1 : List Cond := [Cond.fieldLink RX3 72 "ArchivistTricksModel" "isOn" "Z", Cond.fieldLink RX3 7 "ArchivistTricksModel" "place" "[I", Cond.fieldLink RX3 69 "ArchivistTricksModel" "turn" "I", Cond.fieldLink RX3 16 "ArchivistTricksModel" "ledCard" "I", Cond.fieldLink RX3 20 "ArchivistTricksModel" "trumps" "I", Cond.methodLink RX3 44 yX3_isMildew, Cond.static yX3_isMildew, Cond.initialized RX3, Cond.code yX3_isMildew cX3_isMildew 1 (some .boolean), Cond.methodLink RX3 79 yX3_hasDated, Cond.instanceMethod yX3_hasDated, Cond.selects RX3 yX3_hasDated yX3_hasDated, Cond.code yX3_hasDated cX3_hasDated 2 (some .boolean), Cond.methodLink RX3 75 yX3_hasOf, Cond.instanceMethod yX3_hasOf, Cond.selects RX3 yX3_hasOf yX3_hasOf, Cond.code yX3_hasOf cX3_hasOf 5 (some .boolean), Cond.methodLink RX3 48 yX3_provenance, Cond.static yX3_provenance, Cond.code yX3_provenance cX3_provenance 1 (some .int), Cond.methodLink RX3 82 yX3_inPile, Cond.instanceMethod yX3_inPile, Cond.selects RX3 yX3_inPile yX3_inPile, Cond.code yX3_inPile cX3_inPile 1 (some .int)]
def wsX3_why_r2 : List Cond := [Cond.fieldLink RX3 58 "ArchivistTricksModel" "isDealt" "Z", Cond.fieldLink RX3 62 "ArchivistTricksModel" "drawn" "I", Cond.methodLink RX3 55 yX3_isTrump, Cond.instanceMethod yX3_isTrump, Cond.selects RX3 yX3_isTrump yX3_isTrump, Cond.code yX3_isTrump cX3_isTrump 2 (some .boolean)]
def wsX3_why : List Cond := .code yX3_why cX3_why 2 (some .int) :: ((wsX3_why_r1 ++ wsX3_why_r2) ++ wsX30)
def wsX3_draws : List Cond := .code yX3_draws cX3_draws 2 none :: ([.fieldLink RX3 7 "ArchivistTricksModel" "place" "[I", .fieldLink RX3 13 "ArchivistTricksModel" "row" "[I", .fieldLink RX3 62 "ArchivistTricksModel" "drawn" "I", .methodLink RX3 82 yX3_inPile, .instanceMethod yX3_inPile, .selects RX3 yX3_inPile yX3_inPile, .initialized RX3, .code yX3_inPile cX3_inPile 1 (some .int), .fieldLink RX3 58 "ArchivistTricksModel" "isDealt" "Z"] ++ wsX30)
def wsX3_ends_r1 : List Cond := [Cond.fieldLink RX3 69 "ArchivistTricksModel" "turn" "I", Cond.fieldLink RX3 16 "ArchivistTricksModel" "ledCard" "I", Cond.fieldLink RX3 29 "ArchivistTricksModel" "gloves" "[I", Cond.fieldLink RX3 23 "ArchivistTricksModel" "points" "[I", Cond.fieldLink RX3 26 "ArchivistTricksModel" "tricks" "[I", Cond.fieldLink RX3 7 "ArchivistTricksModel" "place" "[I", Cond.fieldLink RX3 72 "ArchivistTricksModel" "isOn" "Z", Cond.fieldLink RX3 32 "ArchivistTricksModel" "wins" "[I", Cond.methodLink RX3 86 yX3_takes, Cond.instanceMethod yX3_takes, Cond.selects RX3 yX3_takes yX3_takes, Cond.initialized RX3, Cond.code yX3_takes cX3_takes 3 (some .boolean), Cond.methodLink RX3 44 yX3_isMildew, Cond.static yX3_isMildew, Cond.code yX3_isMildew cX3_isMildew 1 (some .boolean), Cond.methodLink RX3 48 yX3_provenance, Cond.static yX3_provenance, Cond.code yX3_provenance cX3_provenance 1 (some .int), Cond.methodLink RX3 55 yX3_isTrump, Cond.instanceMethod yX3_isTrump, Cond.selects RX3 yX3_isTrump yX3_isTrump, Cond.code yX3_isTrump cX3_isTrump 2 (some .boolean), Cond.fieldLink RX3 20 "ArchivistTricksModel" "trumps" "I"]
def wsX3_ends_r2 : List Cond := [Cond.methodLink RX3 89 yX3_worthTo, Cond.static yX3_worthTo, Cond.code yX3_worthTo cX3_worthTo 2 (some .int), Cond.methodLink RX3 52 yX3_worth, Cond.static yX3_worth, Cond.code yX3_worth cX3_worth 1 (some .int), Cond.methodLink RX3 93 yX3_draws, Cond.instanceMethod yX3_draws, Cond.selects RX3 yX3_draws yX3_draws, Cond.code yX3_draws cX3_draws 2 none, Cond.fieldLink RX3 13 "ArchivistTricksModel" "row" "[I", Cond.fieldLink RX3 62 "ArchivistTricksModel" "drawn" "I", Cond.methodLink RX3 82 yX3_inPile, Cond.instanceMethod yX3_inPile, Cond.selects RX3 yX3_inPile yX3_inPile, Cond.code yX3_inPile cX3_inPile 1 (some .int), Cond.fieldLink RX3 58 "ArchivistTricksModel" "isDealt" "Z", Cond.methodLink RX3 97 yX3_howMany, Cond.instanceMethod yX3_howMany, Cond.selects RX3 yX3_howMany yX3_howMany, Cond.code yX3_howMany cX3_howMany 4 (some .int)]
def wsX3_ends : List Cond := .code yX3_ends cX3_ends 6 (some .int) :: ((wsX3_ends_r1 ++ wsX3_ends_r2) ++ wsX30)
def wsX3_play_r1 : List Cond := [Cond.fieldLink RX3 41 "ArchivistTricksModel" "thrown" "I", Cond.fieldLink RX3 16 "ArchivistTricksModel" "ledCard" "I", Cond.fieldLink RX3 7 "ArchivistTricksModel" "place" "[I", Cond.fieldLink RX3 69 "ArchivistTricksModel" "turn" "I", Cond.methodLink RX3 100 yX3_isCard, Cond.static yX3_isCard, Cond.initialized RX3, Cond.code yX3_isCard cX3_isCard 1 (some .boolean), Cond.methodLink RX3 103 yX3_why, Cond.instanceMethod yX3_why, Cond.selects RX3 yX3_why yX3_why, Cond.code yX3_why cX3_why 2 (some .int), Cond.fieldLink RX3 72 "ArchivistTricksModel" "isOn" "Z", Cond.fieldLink RX3 20 "ArchivistTricksModel" "trumps" "I", Cond.methodLink RX3 44 yX3_isMildew, Cond.static yX3_isMildew, Cond.code yX3_isMildew cX3_isMildew 1 (some .boolean), Cond.methodLink RX3 79 yX3_hasDated, Cond.instanceMethod yX3_hasDated, Cond.selects RX3 yX3_hasDated yX3_hasDated, Cond.code yX3_hasDated cX3_hasDated 2 (some .boolean), Cond.methodLink RX3 75 yX3_hasOf, Cond.instanceMethod yX3_hasOf, Cond.selects RX3 yX3_hasOf yX3_hasOf]
def wsX3_play_r2 : List Cond := [Cond.code yX3_hasOf cX3_hasOf 5 (some .boolean), Cond.methodLink RX3 48 yX3_provenance, Cond.static yX3_provenance, Cond.code yX3_provenance cX3_provenance 1 (some .int), Cond.methodLink RX3 82 yX3_inPile, Cond.instanceMethod yX3_inPile, Cond.selects RX3 yX3_inPile yX3_inPile, Cond.code yX3_inPile cX3_inPile 1 (some .int), Cond.fieldLink RX3 58 "ArchivistTricksModel" "isDealt" "Z", Cond.fieldLink RX3 62 "ArchivistTricksModel" "drawn" "I", Cond.methodLink RX3 55 yX3_isTrump, Cond.instanceMethod yX3_isTrump, Cond.selects RX3 yX3_isTrump yX3_isTrump, Cond.code yX3_isTrump cX3_isTrump 2 (some .boolean), Cond.methodLink RX3 106 yX3_ends, Cond.instanceMethod yX3_ends, Cond.selects RX3 yX3_ends yX3_ends, Cond.code yX3_ends cX3_ends 6 (some .int), Cond.fieldLink RX3 29 "ArchivistTricksModel" "gloves" "[I", Cond.fieldLink RX3 23 "ArchivistTricksModel" "points" "[I", Cond.fieldLink RX3 26 "ArchivistTricksModel" "tricks" "[I", Cond.fieldLink RX3 32 "ArchivistTricksModel" "wins" "[I", Cond.methodLink RX3 86 yX3_takes, Cond.instanceMethod yX3_takes]
def wsX3_play_r3 : List Cond := [Cond.selects RX3 yX3_takes yX3_takes, Cond.code yX3_takes cX3_takes 3 (some .boolean), Cond.methodLink RX3 89 yX3_worthTo, Cond.static yX3_worthTo, Cond.code yX3_worthTo cX3_worthTo 2 (some .int), Cond.methodLink RX3 52 yX3_worth, Cond.static yX3_worth, Cond.code yX3_worth cX3_worth 1 (some .int), Cond.methodLink RX3 93 yX3_draws, Cond.instanceMethod yX3_draws, Cond.selects RX3 yX3_draws yX3_draws, Cond.code yX3_draws cX3_draws 2 none, Cond.fieldLink RX3 13 "ArchivistTricksModel" "row" "[I", Cond.methodLink RX3 97 yX3_howMany, Cond.instanceMethod yX3_howMany, Cond.selects RX3 yX3_howMany yX3_howMany, Cond.code yX3_howMany cX3_howMany 4 (some .int)]
def wsX3_play : List Cond := .code yX3_play cX3_play 2 (some .int) :: ((wsX3_play_r1 ++ (wsX3_play_r2 ++ wsX3_play_r3)) ++ wsX30)
def wsX3_putOnGloves : List Cond := .code yX3_putOnGloves cX3_putOnGloves 1 (some .int) :: ([.fieldLink RX3 72 "ArchivistTricksModel" "isOn" "Z", .fieldLink RX3 29 "ArchivistTricksModel" "gloves" "[I", .fieldLink RX3 69 "ArchivistTricksModel" "turn" "I", .fieldLink RX3 41 "ArchivistTricksModel" "thrown" "I"] ++ wsX30)
def wsX3_whyNot_r1 : List Cond := [Cond.fieldLink RX3 41 "ArchivistTricksModel" "thrown" "I", Cond.methodLink RX3 100 yX3_isCard, Cond.static yX3_isCard, Cond.initialized RX3, Cond.code yX3_isCard cX3_isCard 1 (some .boolean), Cond.methodLink RX3 103 yX3_why, Cond.instanceMethod yX3_why, Cond.selects RX3 yX3_why yX3_why, Cond.code yX3_why cX3_why 2 (some .int), Cond.fieldLink RX3 72 "ArchivistTricksModel" "isOn" "Z", Cond.fieldLink RX3 7 "ArchivistTricksModel" "place" "[I", Cond.fieldLink RX3 69 "ArchivistTricksModel" "turn" "I", Cond.fieldLink RX3 16 "ArchivistTricksModel" "ledCard" "I", Cond.fieldLink RX3 20 "ArchivistTricksModel" "trumps" "I", Cond.methodLink RX3 44 yX3_isMildew, Cond.static yX3_isMildew, Cond.code yX3_isMildew cX3_isMildew 1 (some .boolean), Cond.methodLink RX3 79 yX3_hasDated, Cond.instanceMethod yX3_hasDated, Cond.selects RX3 yX3_hasDated yX3_hasDated, Cond.code yX3_hasDated cX3_hasDated 2 (some .boolean), Cond.methodLink RX3 75 yX3_hasOf, Cond.instanceMethod yX3_hasOf, Cond.selects RX3 yX3_hasOf yX3_hasOf]
def wsX3_whyNot_r2 : List Cond := [Cond.code yX3_hasOf cX3_hasOf 5 (some .boolean), Cond.methodLink RX3 48 yX3_provenance, Cond.static yX3_provenance, Cond.code yX3_provenance cX3_provenance 1 (some .int), Cond.methodLink RX3 82 yX3_inPile, Cond.instanceMethod yX3_inPile, Cond.selects RX3 yX3_inPile yX3_inPile, Cond.code yX3_inPile cX3_inPile 1 (some .int), Cond.fieldLink RX3 58 "ArchivistTricksModel" "isDealt" "Z", Cond.fieldLink RX3 62 "ArchivistTricksModel" "drawn" "I", Cond.methodLink RX3 55 yX3_isTrump, Cond.instanceMethod yX3_isTrump, Cond.selects RX3 yX3_isTrump yX3_isTrump, Cond.code yX3_isTrump cX3_isTrump 2 (some .boolean)]
def wsX3_whyNot : List Cond := .code yX3_whyNot cX3_whyNot 2 (some .int) :: ((wsX3_whyNot_r1 ++ wsX3_whyNot_r2) ++ wsX30)
def wsX3_isPlaying : List Cond := .code yX3_isPlaying cX3_isPlaying 1 (some .boolean) :: ([.fieldLink RX3 41 "ArchivistTricksModel" "thrown" "I", .fieldLink RX3 72 "ArchivistTricksModel" "isOn" "Z"] ++ wsX30)
def wsX3_turn : List Cond := .code yX3_turn cX3_turn 1 (some .int) :: ([.fieldLink RX3 41 "ArchivistTricksModel" "thrown" "I", .fieldLink RX3 72 "ArchivistTricksModel" "isOn" "Z", .fieldLink RX3 69 "ArchivistTricksModel" "turn" "I"] ++ wsX30)
def wsX3_led : List Cond := .code yX3_led cX3_led 1 (some .int) :: ([.fieldLink RX3 41 "ArchivistTricksModel" "thrown" "I", .fieldLink RX3 16 "ArchivistTricksModel" "ledCard" "I"] ++ wsX30)
def wsX3_trumps : List Cond := .code yX3_trumps cX3_trumps 1 (some .int) :: ([.fieldLink RX3 41 "ArchivistTricksModel" "thrown" "I", .fieldLink RX3 20 "ArchivistTricksModel" "trumps" "I"] ++ wsX30)
def wsX3_pile : List Cond := .code yX3_pile cX3_pile 1 (some .int) :: ([.fieldLink RX3 41 "ArchivistTricksModel" "thrown" "I", .methodLink RX3 82 yX3_inPile, .instanceMethod yX3_inPile, .selects RX3 yX3_inPile yX3_inPile, .initialized RX3, .code yX3_inPile cX3_inPile 1 (some .int), .fieldLink RX3 58 "ArchivistTricksModel" "isDealt" "Z", .fieldLink RX3 62 "ArchivistTricksModel" "drawn" "I"] ++ wsX30)
def wsX3_cards : List Cond := .code yX3_cards cX3_cards 2 (some .int) :: ([.fieldLink RX3 41 "ArchivistTricksModel" "thrown" "I", .methodLink RX3 109 yX3_isArchivist, .static yX3_isArchivist, .initialized RX3, .code yX3_isArchivist cX3_isArchivist 1 (some .boolean), .methodLink RX3 97 yX3_howMany, .instanceMethod yX3_howMany, .selects RX3 yX3_howMany yX3_howMany, .code yX3_howMany cX3_howMany 4 (some .int), .fieldLink RX3 58 "ArchivistTricksModel" "isDealt" "Z", .fieldLink RX3 7 "ArchivistTricksModel" "place" "[I"] ++ wsX30)
def wsX3_cardAt : List Cond := .code yX3_cardAt cX3_cardAt 5 (some .int) :: ([.fieldLink RX3 41 "ArchivistTricksModel" "thrown" "I", .fieldLink RX3 58 "ArchivistTricksModel" "isDealt" "Z", .fieldLink RX3 7 "ArchivistTricksModel" "place" "[I", .methodLink RX3 109 yX3_isArchivist, .static yX3_isArchivist, .initialized RX3, .code yX3_isArchivist cX3_isArchivist 1 (some .boolean)] ++ wsX30)
def wsX3_placeOf : List Cond := .code yX3_placeOf cX3_placeOf 2 (some .int) :: ([.fieldLink RX3 41 "ArchivistTricksModel" "thrown" "I", .fieldLink RX3 58 "ArchivistTricksModel" "isDealt" "Z", .fieldLink RX3 7 "ArchivistTricksModel" "place" "[I", .methodLink RX3 100 yX3_isCard, .static yX3_isCard, .initialized RX3, .code yX3_isCard cX3_isCard 1 (some .boolean)] ++ wsX30)
def wsX3_of : List Cond := .code yX3_of cX3_of 3 (some .int) :: ([.fieldLink RX3 41 "ArchivistTricksModel" "thrown" "I", .methodLink RX3 109 yX3_isArchivist, .static yX3_isArchivist, .initialized RX3, .code yX3_isArchivist cX3_isArchivist 1 (some .boolean)] ++ wsX30)
def wsX3_points : List Cond := .code yX3_points cX3_points 2 (some .int) :: ([.fieldLink RX3 23 "ArchivistTricksModel" "points" "[I", .methodLink RX3 112 yX3_of, .instanceMethod yX3_of, .selects RX3 yX3_of yX3_of, .initialized RX3, .code yX3_of cX3_of 3 (some .int), .fieldLink RX3 41 "ArchivistTricksModel" "thrown" "I", .methodLink RX3 109 yX3_isArchivist, .static yX3_isArchivist, .code yX3_isArchivist cX3_isArchivist 1 (some .boolean)] ++ wsX30)
def wsX3_tricks : List Cond := .code yX3_tricks cX3_tricks 2 (some .int) :: ([.fieldLink RX3 26 "ArchivistTricksModel" "tricks" "[I", .methodLink RX3 112 yX3_of, .instanceMethod yX3_of, .selects RX3 yX3_of yX3_of, .initialized RX3, .code yX3_of cX3_of 3 (some .int), .fieldLink RX3 41 "ArchivistTricksModel" "thrown" "I", .methodLink RX3 109 yX3_isArchivist, .static yX3_isArchivist, .code yX3_isArchivist cX3_isArchivist 1 (some .boolean)] ++ wsX30)
def wsX3_gloves : List Cond := .code yX3_gloves cX3_gloves 2 (some .int) :: ([.fieldLink RX3 29 "ArchivistTricksModel" "gloves" "[I", .methodLink RX3 112 yX3_of, .instanceMethod yX3_of, .selects RX3 yX3_of yX3_of, .initialized RX3, .code yX3_of cX3_of 3 (some .int), .fieldLink RX3 41 "ArchivistTricksModel" "thrown" "I", .methodLink RX3 109 yX3_isArchivist, .static yX3_isArchivist, .code yX3_isArchivist cX3_isArchivist 1 (some .boolean)] ++ wsX30)
def wsX3_choices_r1 : List Cond := [Cond.fieldLink RX3 41 "ArchivistTricksModel" "thrown" "I", Cond.methodLink RX3 103 yX3_why, Cond.instanceMethod yX3_why, Cond.selects RX3 yX3_why yX3_why, Cond.initialized RX3, Cond.code yX3_why cX3_why 2 (some .int), Cond.fieldLink RX3 72 "ArchivistTricksModel" "isOn" "Z", Cond.fieldLink RX3 7 "ArchivistTricksModel" "place" "[I", Cond.fieldLink RX3 69 "ArchivistTricksModel" "turn" "I", Cond.fieldLink RX3 16 "ArchivistTricksModel" "ledCard" "I", Cond.fieldLink RX3 20 "ArchivistTricksModel" "trumps" "I", Cond.methodLink RX3 44 yX3_isMildew, Cond.static yX3_isMildew, Cond.code yX3_isMildew cX3_isMildew 1 (some .boolean), Cond.methodLink RX3 79 yX3_hasDated, Cond.instanceMethod yX3_hasDated, Cond.selects RX3 yX3_hasDated yX3_hasDated, Cond.code yX3_hasDated cX3_hasDated 2 (some .boolean), Cond.methodLink RX3 75 yX3_hasOf, Cond.instanceMethod yX3_hasOf, Cond.selects RX3 yX3_hasOf yX3_hasOf, Cond.code yX3_hasOf cX3_hasOf 5 (some .boolean), Cond.methodLink RX3 48 yX3_provenance, Cond.static yX3_provenance]
def wsX3_choices_r2 : List Cond := [Cond.code yX3_provenance cX3_provenance 1 (some .int), Cond.methodLink RX3 82 yX3_inPile, Cond.instanceMethod yX3_inPile, Cond.selects RX3 yX3_inPile yX3_inPile, Cond.code yX3_inPile cX3_inPile 1 (some .int), Cond.fieldLink RX3 58 "ArchivistTricksModel" "isDealt" "Z", Cond.fieldLink RX3 62 "ArchivistTricksModel" "drawn" "I", Cond.methodLink RX3 55 yX3_isTrump, Cond.instanceMethod yX3_isTrump, Cond.selects RX3 yX3_isTrump yX3_isTrump, Cond.code yX3_isTrump cX3_isTrump 2 (some .boolean)]
def wsX3_choices : List Cond := .code yX3_choices cX3_choices 3 (some .int) :: ((wsX3_choices_r1 ++ wsX3_choices_r2) ++ wsX30)
def wsX3_wouldTake : List Cond := .code yX3_wouldTake cX3_wouldTake 2 (some .int) :: ([.fieldLink RX3 16 "ArchivistTricksModel" "ledCard" "I", .fieldLink RX3 41 "ArchivistTricksModel" "thrown" "I", .fieldLink RX3 69 "ArchivistTricksModel" "turn" "I", .methodLink RX3 100 yX3_isCard, .static yX3_isCard, .initialized RX3, .code yX3_isCard cX3_isCard 1 (some .boolean), .methodLink RX3 86 yX3_takes, .instanceMethod yX3_takes, .selects RX3 yX3_takes yX3_takes, .code yX3_takes cX3_takes 3 (some .boolean), .methodLink RX3 44 yX3_isMildew, .static yX3_isMildew, .code yX3_isMildew cX3_isMildew 1 (some .boolean), .methodLink RX3 48 yX3_provenance, .static yX3_provenance, .code yX3_provenance cX3_provenance 1 (some .int), .methodLink RX3 55 yX3_isTrump, .instanceMethod yX3_isTrump, .selects RX3 yX3_isTrump yX3_isTrump, .code yX3_isTrump cX3_isTrump 2 (some .boolean), .fieldLink RX3 20 "ArchivistTricksModel" "trumps" "I"] ++ wsX30)
def wsX3_laysHands : List Cond := .code yX3_laysHands cX3_laysHands 4 none :: ([.fieldLink RX3 7 "ArchivistTricksModel" "place" "[I", .fieldLink RX3 35 "ArchivistTricksModel" "held" "[I"] ++ wsX30)
def wsX3_many : List Cond := .code yX3_many cX3_many 3 (some .int) :: ([])
def wsX3_isAmong : List Cond := .code yX3_isAmong cX3_isAmong 7 (some .boolean) :: ([.fieldLink RX3 35 "ArchivistTricksModel" "held" "[I", .methodLink RX3 44 yX3_isMildew, .static yX3_isMildew, .initialized RX3, .code yX3_isMildew cX3_isMildew 1 (some .boolean), .methodLink RX3 48 yX3_provenance, .static yX3_provenance, .code yX3_provenance cX3_provenance 1 (some .int)] ++ wsX30)
def wsX3_canLead : List Cond := .code yX3_canLead cX3_canLead 4 (some .boolean) :: ([.methodLink RX3 44 yX3_isMildew, .static yX3_isMildew, .initialized RX3, .code yX3_isMildew cX3_isMildew 1 (some .boolean), .methodLink RX3 116 yX3_isAmong, .instanceMethod yX3_isAmong, .selects RX3 yX3_isAmong yX3_isAmong, .code yX3_isAmong cX3_isAmong 7 (some .boolean), .fieldLink RX3 35 "ArchivistTricksModel" "held" "[I", .methodLink RX3 48 yX3_provenance, .static yX3_provenance, .code yX3_provenance cX3_provenance 1 (some .int)] ++ wsX30)
def wsX3_canFollow : List Cond := .code yX3_canFollow cX3_canFollow 5 (some .boolean) :: ([.fieldLink RX3 20 "ArchivistTricksModel" "trumps" "I", .methodLink RX3 44 yX3_isMildew, .static yX3_isMildew, .initialized RX3, .code yX3_isMildew cX3_isMildew 1 (some .boolean), .methodLink RX3 48 yX3_provenance, .static yX3_provenance, .code yX3_provenance cX3_provenance 1 (some .int), .methodLink RX3 116 yX3_isAmong, .instanceMethod yX3_isAmong, .selects RX3 yX3_isAmong yX3_isAmong, .code yX3_isAmong cX3_isAmong 7 (some .boolean), .fieldLink RX3 35 "ArchivistTricksModel" "held" "[I", .methodLink RX3 55 yX3_isTrump, .instanceMethod yX3_isTrump, .selects RX3 yX3_isTrump yX3_isTrump, .code yX3_isTrump cX3_isTrump 2 (some .boolean)] ++ wsX30)
def wsX3_tableAt : List Cond := .code yX3_tableAt cX3_tableAt 4 (some .int) :: ([.fieldLink RX3 38 "ArchivistTricksModel" "worthOf" "[I"] ++ wsX30)
def wsX3_behind_r1 : List Cond := [Cond.methodLink RX3 86 yX3_takes, Cond.instanceMethod yX3_takes, Cond.selects RX3 yX3_takes yX3_takes, Cond.initialized RX3, Cond.code yX3_takes cX3_takes 3 (some .boolean), Cond.methodLink RX3 44 yX3_isMildew, Cond.static yX3_isMildew, Cond.code yX3_isMildew cX3_isMildew 1 (some .boolean), Cond.methodLink RX3 48 yX3_provenance, Cond.static yX3_provenance, Cond.code yX3_provenance cX3_provenance 1 (some .int), Cond.methodLink RX3 55 yX3_isTrump, Cond.instanceMethod yX3_isTrump, Cond.selects RX3 yX3_isTrump yX3_isTrump, Cond.code yX3_isTrump cX3_isTrump 2 (some .boolean), Cond.fieldLink RX3 20 "ArchivistTricksModel" "trumps" "I", Cond.methodLink RX3 89 yX3_worthTo, Cond.static yX3_worthTo, Cond.code yX3_worthTo cX3_worthTo 2 (some .int), Cond.methodLink RX3 52 yX3_worth, Cond.static yX3_worth, Cond.code yX3_worth cX3_worth 1 (some .int), Cond.methodLink RX3 120 yX3_tableAt, Cond.instanceMethod yX3_tableAt]
def wsX3_behind_r2 : List Cond := [Cond.selects RX3 yX3_tableAt yX3_tableAt, Cond.code yX3_tableAt cX3_tableAt 4 (some .int), Cond.fieldLink RX3 38 "ArchivistTricksModel" "worthOf" "[I"]
def wsX3_behind : List Cond := .code yX3_behind cX3_behind 11 (some .int) :: ((wsX3_behind_r1 ++ wsX3_behind_r2) ++ wsX30)
def wsX3_leastBy_r1 : List Cond := [Cond.fieldLink RX3 35 "ArchivistTricksModel" "held" "[I", Cond.methodLink RX3 124 yX3_canFollow, Cond.instanceMethod yX3_canFollow, Cond.selects RX3 yX3_canFollow yX3_canFollow, Cond.initialized RX3, Cond.code yX3_canFollow cX3_canFollow 5 (some .boolean), Cond.fieldLink RX3 20 "ArchivistTricksModel" "trumps" "I", Cond.methodLink RX3 44 yX3_isMildew, Cond.static yX3_isMildew, Cond.code yX3_isMildew cX3_isMildew 1 (some .boolean), Cond.methodLink RX3 48 yX3_provenance, Cond.static yX3_provenance, Cond.code yX3_provenance cX3_provenance 1 (some .int), Cond.methodLink RX3 116 yX3_isAmong, Cond.instanceMethod yX3_isAmong, Cond.selects RX3 yX3_isAmong yX3_isAmong, Cond.code yX3_isAmong cX3_isAmong 7 (some .boolean), Cond.methodLink RX3 55 yX3_isTrump, Cond.instanceMethod yX3_isTrump, Cond.selects RX3 yX3_isTrump yX3_isTrump, Cond.code yX3_isTrump cX3_isTrump 2 (some .boolean), Cond.methodLink RX3 128 yX3_behind, Cond.instanceMethod yX3_behind, Cond.selects RX3 yX3_behind yX3_behind]
def wsX3_leastBy_r2 : List Cond := [Cond.code yX3_behind cX3_behind 11 (some .int), Cond.methodLink RX3 86 yX3_takes, Cond.instanceMethod yX3_takes, Cond.selects RX3 yX3_takes yX3_takes, Cond.code yX3_takes cX3_takes 3 (some .boolean), Cond.methodLink RX3 89 yX3_worthTo, Cond.static yX3_worthTo, Cond.code yX3_worthTo cX3_worthTo 2 (some .int), Cond.methodLink RX3 52 yX3_worth, Cond.static yX3_worth, Cond.code yX3_worth cX3_worth 1 (some .int), Cond.methodLink RX3 120 yX3_tableAt, Cond.instanceMethod yX3_tableAt, Cond.selects RX3 yX3_tableAt yX3_tableAt, Cond.code yX3_tableAt cX3_tableAt 4 (some .int), Cond.fieldLink RX3 38 "ArchivistTricksModel" "worthOf" "[I"]
def wsX3_leastBy : List Cond := .code yX3_leastBy cX3_leastBy 11 (some .int) :: ((wsX3_leastBy_r1 ++ wsX3_leastBy_r2) ++ wsX30)
def wsX3_mostOf_r1 : List Cond := [Cond.fieldLink RX3 35 "ArchivistTricksModel" "held" "[I", Cond.methodLink RX3 132 yX3_canLead, Cond.instanceMethod yX3_canLead, Cond.selects RX3 yX3_canLead yX3_canLead, Cond.initialized RX3, Cond.code yX3_canLead cX3_canLead 4 (some .boolean), Cond.methodLink RX3 44 yX3_isMildew, Cond.static yX3_isMildew, Cond.code yX3_isMildew cX3_isMildew 1 (some .boolean), Cond.methodLink RX3 116 yX3_isAmong, Cond.instanceMethod yX3_isAmong, Cond.selects RX3 yX3_isAmong yX3_isAmong, Cond.code yX3_isAmong cX3_isAmong 7 (some .boolean), Cond.methodLink RX3 48 yX3_provenance, Cond.static yX3_provenance, Cond.code yX3_provenance cX3_provenance 1 (some .int), Cond.methodLink RX3 135 yX3_leastBy, Cond.instanceMethod yX3_leastBy, Cond.selects RX3 yX3_leastBy yX3_leastBy, Cond.code yX3_leastBy cX3_leastBy 11 (some .int), Cond.methodLink RX3 124 yX3_canFollow, Cond.instanceMethod yX3_canFollow, Cond.selects RX3 yX3_canFollow yX3_canFollow, Cond.code yX3_canFollow cX3_canFollow 5 (some .boolean)]
def wsX3_mostOf_r2 : List Cond := [Cond.fieldLink RX3 20 "ArchivistTricksModel" "trumps" "I", Cond.methodLink RX3 55 yX3_isTrump, Cond.instanceMethod yX3_isTrump, Cond.selects RX3 yX3_isTrump yX3_isTrump, Cond.code yX3_isTrump cX3_isTrump 2 (some .boolean), Cond.methodLink RX3 128 yX3_behind, Cond.instanceMethod yX3_behind, Cond.selects RX3 yX3_behind yX3_behind, Cond.code yX3_behind cX3_behind 11 (some .int), Cond.methodLink RX3 86 yX3_takes, Cond.instanceMethod yX3_takes, Cond.selects RX3 yX3_takes yX3_takes, Cond.code yX3_takes cX3_takes 3 (some .boolean), Cond.methodLink RX3 89 yX3_worthTo, Cond.static yX3_worthTo, Cond.code yX3_worthTo cX3_worthTo 2 (some .int), Cond.methodLink RX3 52 yX3_worth, Cond.static yX3_worth, Cond.code yX3_worth cX3_worth 1 (some .int), Cond.methodLink RX3 120 yX3_tableAt, Cond.instanceMethod yX3_tableAt, Cond.selects RX3 yX3_tableAt yX3_tableAt, Cond.code yX3_tableAt cX3_tableAt 4 (some .int), Cond.fieldLink RX3 38 "ArchivistTricksModel" "worthOf" "[I"]
def wsX3_mostOf : List Cond := .code yX3_mostOf cX3_mostOf 8 (some .int) :: ((wsX3_mostOf_r1 ++ wsX3_mostOf_r2) ++ wsX30)
def wsX3_laysTable_r1 : List Cond := [Cond.fieldLink RX3 38 "ArchivistTricksModel" "worthOf" "[I", Cond.methodLink RX3 139 yX3_laysHands, Cond.instanceMethod yX3_laysHands, Cond.selects RX3 yX3_laysHands yX3_laysHands, Cond.initialized RX3, Cond.code yX3_laysHands cX3_laysHands 4 none, Cond.fieldLink RX3 7 "ArchivistTricksModel" "place" "[I", Cond.fieldLink RX3 35 "ArchivistTricksModel" "held" "[I", Cond.methodLink RX3 97 yX3_howMany, Cond.instanceMethod yX3_howMany, Cond.selects RX3 yX3_howMany yX3_howMany, Cond.code yX3_howMany cX3_howMany 4 (some .int), Cond.fieldLink RX3 58 "ArchivistTricksModel" "isDealt" "Z", Cond.methodLink RX3 142 yX3_many, Cond.static yX3_many, Cond.code yX3_many cX3_many 3 (some .int), Cond.methodLink RX3 145 yX3_mostOf, Cond.instanceMethod yX3_mostOf, Cond.selects RX3 yX3_mostOf yX3_mostOf, Cond.code yX3_mostOf cX3_mostOf 8 (some .int), Cond.methodLink RX3 132 yX3_canLead, Cond.instanceMethod yX3_canLead, Cond.selects RX3 yX3_canLead yX3_canLead, Cond.code yX3_canLead cX3_canLead 4 (some .boolean)]
def wsX3_laysTable_r2 : List Cond := [Cond.methodLink RX3 44 yX3_isMildew, Cond.static yX3_isMildew, Cond.code yX3_isMildew cX3_isMildew 1 (some .boolean), Cond.methodLink RX3 116 yX3_isAmong, Cond.instanceMethod yX3_isAmong, Cond.selects RX3 yX3_isAmong yX3_isAmong, Cond.code yX3_isAmong cX3_isAmong 7 (some .boolean), Cond.methodLink RX3 48 yX3_provenance, Cond.static yX3_provenance, Cond.code yX3_provenance cX3_provenance 1 (some .int), Cond.methodLink RX3 135 yX3_leastBy, Cond.instanceMethod yX3_leastBy, Cond.selects RX3 yX3_leastBy yX3_leastBy, Cond.code yX3_leastBy cX3_leastBy 11 (some .int), Cond.methodLink RX3 124 yX3_canFollow, Cond.instanceMethod yX3_canFollow, Cond.selects RX3 yX3_canFollow yX3_canFollow, Cond.code yX3_canFollow cX3_canFollow 5 (some .boolean), Cond.fieldLink RX3 20 "ArchivistTricksModel" "trumps" "I", Cond.methodLink RX3 55 yX3_isTrump, Cond.instanceMethod yX3_isTrump, Cond.selects RX3 yX3_isTrump yX3_isTrump, Cond.code yX3_isTrump cX3_isTrump 2 (some .boolean), Cond.methodLink RX3 128 yX3_behind]
def wsX3_laysTable_r3 : List Cond := [Cond.instanceMethod yX3_behind, Cond.selects RX3 yX3_behind yX3_behind, Cond.code yX3_behind cX3_behind 11 (some .int), Cond.methodLink RX3 86 yX3_takes, Cond.instanceMethod yX3_takes, Cond.selects RX3 yX3_takes yX3_takes, Cond.code yX3_takes cX3_takes 3 (some .boolean), Cond.methodLink RX3 89 yX3_worthTo, Cond.static yX3_worthTo, Cond.code yX3_worthTo cX3_worthTo 2 (some .int), Cond.methodLink RX3 52 yX3_worth, Cond.static yX3_worth, Cond.code yX3_worth cX3_worth 1 (some .int), Cond.methodLink RX3 120 yX3_tableAt, Cond.instanceMethod yX3_tableAt, Cond.selects RX3 yX3_tableAt yX3_tableAt, Cond.code yX3_tableAt cX3_tableAt 4 (some .int)]
def wsX3_laysTable : List Cond := .code yX3_laysTable cX3_laysTable 5 none :: ((wsX3_laysTable_r1 ++ (wsX3_laysTable_r2 ++ wsX3_laysTable_r3)) ++ wsX30)
def wsX3_wornNow : List Cond := .code yX3_wornNow cX3_wornNow 1 (some .int) :: ([.fieldLink RX3 29 "ArchivistTricksModel" "gloves" "[I"] ++ wsX30)
def wsX3_byCard_r1 : List Cond := [Cond.fieldLink RX3 69 "ArchivistTricksModel" "turn" "I", Cond.fieldLink RX3 16 "ArchivistTricksModel" "ledCard" "I", Cond.fieldLink RX3 35 "ArchivistTricksModel" "held" "[I", Cond.methodLink RX3 97 yX3_howMany, Cond.instanceMethod yX3_howMany, Cond.selects RX3 yX3_howMany yX3_howMany, Cond.initialized RX3, Cond.code yX3_howMany cX3_howMany 4 (some .int), Cond.fieldLink RX3 58 "ArchivistTricksModel" "isDealt" "Z", Cond.fieldLink RX3 7 "ArchivistTricksModel" "place" "[I", Cond.methodLink RX3 149 yX3_wornNow, Cond.instanceMethod yX3_wornNow, Cond.selects RX3 yX3_wornNow yX3_wornNow, Cond.code yX3_wornNow cX3_wornNow 1 (some .int), Cond.fieldLink RX3 29 "ArchivistTricksModel" "gloves" "[I", Cond.methodLink RX3 135 yX3_leastBy, Cond.instanceMethod yX3_leastBy, Cond.selects RX3 yX3_leastBy yX3_leastBy, Cond.code yX3_leastBy cX3_leastBy 11 (some .int), Cond.methodLink RX3 124 yX3_canFollow, Cond.instanceMethod yX3_canFollow, Cond.selects RX3 yX3_canFollow yX3_canFollow, Cond.code yX3_canFollow cX3_canFollow 5 (some .boolean), Cond.fieldLink RX3 20 "ArchivistTricksModel" "trumps" "I"]
def wsX3_byCard_r2 : List Cond := [Cond.methodLink RX3 44 yX3_isMildew, Cond.static yX3_isMildew, Cond.code yX3_isMildew cX3_isMildew 1 (some .boolean), Cond.methodLink RX3 48 yX3_provenance, Cond.static yX3_provenance, Cond.code yX3_provenance cX3_provenance 1 (some .int), Cond.methodLink RX3 116 yX3_isAmong, Cond.instanceMethod yX3_isAmong, Cond.selects RX3 yX3_isAmong yX3_isAmong, Cond.code yX3_isAmong cX3_isAmong 7 (some .boolean), Cond.methodLink RX3 55 yX3_isTrump, Cond.instanceMethod yX3_isTrump, Cond.selects RX3 yX3_isTrump yX3_isTrump, Cond.code yX3_isTrump cX3_isTrump 2 (some .boolean), Cond.methodLink RX3 128 yX3_behind, Cond.instanceMethod yX3_behind, Cond.selects RX3 yX3_behind yX3_behind, Cond.code yX3_behind cX3_behind 11 (some .int), Cond.methodLink RX3 86 yX3_takes, Cond.instanceMethod yX3_takes, Cond.selects RX3 yX3_takes yX3_takes, Cond.code yX3_takes cX3_takes 3 (some .boolean), Cond.methodLink RX3 89 yX3_worthTo, Cond.static yX3_worthTo]
def wsX3_byCard_r3 : List Cond := [Cond.code yX3_worthTo cX3_worthTo 2 (some .int), Cond.methodLink RX3 52 yX3_worth, Cond.static yX3_worth, Cond.code yX3_worth cX3_worth 1 (some .int), Cond.methodLink RX3 120 yX3_tableAt, Cond.instanceMethod yX3_tableAt, Cond.selects RX3 yX3_tableAt yX3_tableAt, Cond.code yX3_tableAt cX3_tableAt 4 (some .int), Cond.fieldLink RX3 38 "ArchivistTricksModel" "worthOf" "[I"]
def wsX3_byCard : List Cond := .code yX3_byCard cX3_byCard 4 (some .int) :: ((wsX3_byCard_r1 ++ (wsX3_byCard_r2 ++ wsX3_byCard_r3)) ++ wsX30)
def wsX3_bestPlace_r1 : List Cond := [Cond.fieldLink RX3 72 "ArchivistTricksModel" "isOn" "Z", Cond.fieldLink RX3 41 "ArchivistTricksModel" "thrown" "I", Cond.fieldLink RX3 69 "ArchivistTricksModel" "turn" "I", Cond.fieldLink RX3 35 "ArchivistTricksModel" "held" "[I", Cond.methodLink RX3 82 yX3_inPile, Cond.instanceMethod yX3_inPile, Cond.selects RX3 yX3_inPile yX3_inPile, Cond.initialized RX3, Cond.code yX3_inPile cX3_inPile 1 (some .int), Cond.fieldLink RX3 58 "ArchivistTricksModel" "isDealt" "Z", Cond.fieldLink RX3 62 "ArchivistTricksModel" "drawn" "I", Cond.methodLink RX3 152 yX3_laysTable, Cond.instanceMethod yX3_laysTable, Cond.selects RX3 yX3_laysTable yX3_laysTable, Cond.code yX3_laysTable cX3_laysTable 5 none, Cond.fieldLink RX3 38 "ArchivistTricksModel" "worthOf" "[I", Cond.methodLink RX3 139 yX3_laysHands, Cond.instanceMethod yX3_laysHands, Cond.selects RX3 yX3_laysHands yX3_laysHands, Cond.code yX3_laysHands cX3_laysHands 4 none, Cond.fieldLink RX3 7 "ArchivistTricksModel" "place" "[I", Cond.methodLink RX3 97 yX3_howMany, Cond.instanceMethod yX3_howMany, Cond.selects RX3 yX3_howMany yX3_howMany]
def wsX3_bestPlace_r2 : List Cond := [Cond.code yX3_howMany cX3_howMany 4 (some .int), Cond.methodLink RX3 142 yX3_many, Cond.static yX3_many, Cond.code yX3_many cX3_many 3 (some .int), Cond.methodLink RX3 145 yX3_mostOf, Cond.instanceMethod yX3_mostOf, Cond.selects RX3 yX3_mostOf yX3_mostOf, Cond.code yX3_mostOf cX3_mostOf 8 (some .int), Cond.methodLink RX3 132 yX3_canLead, Cond.instanceMethod yX3_canLead, Cond.selects RX3 yX3_canLead yX3_canLead, Cond.code yX3_canLead cX3_canLead 4 (some .boolean), Cond.methodLink RX3 44 yX3_isMildew, Cond.static yX3_isMildew, Cond.code yX3_isMildew cX3_isMildew 1 (some .boolean), Cond.methodLink RX3 116 yX3_isAmong, Cond.instanceMethod yX3_isAmong, Cond.selects RX3 yX3_isAmong yX3_isAmong, Cond.code yX3_isAmong cX3_isAmong 7 (some .boolean), Cond.methodLink RX3 48 yX3_provenance, Cond.static yX3_provenance, Cond.code yX3_provenance cX3_provenance 1 (some .int), Cond.methodLink RX3 135 yX3_leastBy, Cond.instanceMethod yX3_leastBy]
def wsX3_bestPlace_r3 : List Cond := [Cond.selects RX3 yX3_leastBy yX3_leastBy, Cond.code yX3_leastBy cX3_leastBy 11 (some .int), Cond.methodLink RX3 124 yX3_canFollow, Cond.instanceMethod yX3_canFollow, Cond.selects RX3 yX3_canFollow yX3_canFollow, Cond.code yX3_canFollow cX3_canFollow 5 (some .boolean), Cond.fieldLink RX3 20 "ArchivistTricksModel" "trumps" "I", Cond.methodLink RX3 55 yX3_isTrump, Cond.instanceMethod yX3_isTrump, Cond.selects RX3 yX3_isTrump yX3_isTrump, Cond.code yX3_isTrump cX3_isTrump 2 (some .boolean), Cond.methodLink RX3 128 yX3_behind, Cond.instanceMethod yX3_behind, Cond.selects RX3 yX3_behind yX3_behind, Cond.code yX3_behind cX3_behind 11 (some .int), Cond.methodLink RX3 86 yX3_takes, Cond.instanceMethod yX3_takes, Cond.selects RX3 yX3_takes yX3_takes, Cond.code yX3_takes cX3_takes 3 (some .boolean), Cond.methodLink RX3 89 yX3_worthTo, Cond.static yX3_worthTo, Cond.code yX3_worthTo cX3_worthTo 2 (some .int), Cond.methodLink RX3 52 yX3_worth, Cond.static yX3_worth]
def wsX3_bestPlace_r4 : List Cond := [Cond.code yX3_worth cX3_worth 1 (some .int), Cond.methodLink RX3 120 yX3_tableAt, Cond.instanceMethod yX3_tableAt, Cond.selects RX3 yX3_tableAt yX3_tableAt, Cond.code yX3_tableAt cX3_tableAt 4 (some .int), Cond.methodLink RX3 103 yX3_why, Cond.instanceMethod yX3_why, Cond.selects RX3 yX3_why yX3_why, Cond.code yX3_why cX3_why 2 (some .int), Cond.fieldLink RX3 16 "ArchivistTricksModel" "ledCard" "I", Cond.methodLink RX3 79 yX3_hasDated, Cond.instanceMethod yX3_hasDated, Cond.selects RX3 yX3_hasDated yX3_hasDated, Cond.code yX3_hasDated cX3_hasDated 2 (some .boolean), Cond.methodLink RX3 75 yX3_hasOf, Cond.instanceMethod yX3_hasOf, Cond.selects RX3 yX3_hasOf yX3_hasOf, Cond.code yX3_hasOf cX3_hasOf 5 (some .boolean), Cond.methodLink RX3 155 yX3_byCard, Cond.instanceMethod yX3_byCard, Cond.selects RX3 yX3_byCard yX3_byCard, Cond.code yX3_byCard cX3_byCard 4 (some .int), Cond.methodLink RX3 149 yX3_wornNow, Cond.instanceMethod yX3_wornNow]
def wsX3_bestPlace_r5 : List Cond := [Cond.selects RX3 yX3_wornNow yX3_wornNow, Cond.code yX3_wornNow cX3_wornNow 1 (some .int), Cond.fieldLink RX3 29 "ArchivistTricksModel" "gloves" "[I"]
def wsX3_bestPlace : List Cond := .code yX3_bestPlace cX3_bestPlace 6 (some .int) :: ((wsX3_bestPlace_r1 ++ (wsX3_bestPlace_r2 ++ (wsX3_bestPlace_r3 ++ (wsX3_bestPlace_r4 ++ wsX3_bestPlace_r5)))) ++ wsX30)
def wsX3_best_r1 : List Cond := [Cond.methodLink RX3 158 yX3_bestPlace, Cond.instanceMethod yX3_bestPlace, Cond.selects RX3 yX3_bestPlace yX3_bestPlace, Cond.initialized RX3, Cond.code yX3_bestPlace cX3_bestPlace 6 (some .int), Cond.fieldLink RX3 72 "ArchivistTricksModel" "isOn" "Z", Cond.fieldLink RX3 41 "ArchivistTricksModel" "thrown" "I", Cond.fieldLink RX3 69 "ArchivistTricksModel" "turn" "I", Cond.fieldLink RX3 35 "ArchivistTricksModel" "held" "[I", Cond.methodLink RX3 82 yX3_inPile, Cond.instanceMethod yX3_inPile, Cond.selects RX3 yX3_inPile yX3_inPile, Cond.code yX3_inPile cX3_inPile 1 (some .int), Cond.fieldLink RX3 58 "ArchivistTricksModel" "isDealt" "Z", Cond.fieldLink RX3 62 "ArchivistTricksModel" "drawn" "I", Cond.methodLink RX3 152 yX3_laysTable, Cond.instanceMethod yX3_laysTable, Cond.selects RX3 yX3_laysTable yX3_laysTable, Cond.code yX3_laysTable cX3_laysTable 5 none, Cond.fieldLink RX3 38 "ArchivistTricksModel" "worthOf" "[I", Cond.methodLink RX3 139 yX3_laysHands, Cond.instanceMethod yX3_laysHands, Cond.selects RX3 yX3_laysHands yX3_laysHands, Cond.code yX3_laysHands cX3_laysHands 4 none]
def wsX3_best_r2 : List Cond := [Cond.fieldLink RX3 7 "ArchivistTricksModel" "place" "[I", Cond.methodLink RX3 97 yX3_howMany, Cond.instanceMethod yX3_howMany, Cond.selects RX3 yX3_howMany yX3_howMany, Cond.code yX3_howMany cX3_howMany 4 (some .int), Cond.methodLink RX3 142 yX3_many, Cond.static yX3_many, Cond.code yX3_many cX3_many 3 (some .int), Cond.methodLink RX3 145 yX3_mostOf, Cond.instanceMethod yX3_mostOf, Cond.selects RX3 yX3_mostOf yX3_mostOf, Cond.code yX3_mostOf cX3_mostOf 8 (some .int), Cond.methodLink RX3 132 yX3_canLead, Cond.instanceMethod yX3_canLead, Cond.selects RX3 yX3_canLead yX3_canLead, Cond.code yX3_canLead cX3_canLead 4 (some .boolean), Cond.methodLink RX3 44 yX3_isMildew, Cond.static yX3_isMildew, Cond.code yX3_isMildew cX3_isMildew 1 (some .boolean), Cond.methodLink RX3 116 yX3_isAmong, Cond.instanceMethod yX3_isAmong, Cond.selects RX3 yX3_isAmong yX3_isAmong, Cond.code yX3_isAmong cX3_isAmong 7 (some .boolean), Cond.methodLink RX3 48 yX3_provenance]
def wsX3_best_r3 : List Cond := [Cond.static yX3_provenance, Cond.code yX3_provenance cX3_provenance 1 (some .int), Cond.methodLink RX3 135 yX3_leastBy, Cond.instanceMethod yX3_leastBy, Cond.selects RX3 yX3_leastBy yX3_leastBy, Cond.code yX3_leastBy cX3_leastBy 11 (some .int), Cond.methodLink RX3 124 yX3_canFollow, Cond.instanceMethod yX3_canFollow, Cond.selects RX3 yX3_canFollow yX3_canFollow, Cond.code yX3_canFollow cX3_canFollow 5 (some .boolean), Cond.fieldLink RX3 20 "ArchivistTricksModel" "trumps" "I", Cond.methodLink RX3 55 yX3_isTrump, Cond.instanceMethod yX3_isTrump, Cond.selects RX3 yX3_isTrump yX3_isTrump, Cond.code yX3_isTrump cX3_isTrump 2 (some .boolean), Cond.methodLink RX3 128 yX3_behind, Cond.instanceMethod yX3_behind, Cond.selects RX3 yX3_behind yX3_behind, Cond.code yX3_behind cX3_behind 11 (some .int), Cond.methodLink RX3 86 yX3_takes, Cond.instanceMethod yX3_takes, Cond.selects RX3 yX3_takes yX3_takes, Cond.code yX3_takes cX3_takes 3 (some .boolean), Cond.methodLink RX3 89 yX3_worthTo]
def wsX3_best_r4 : List Cond := [Cond.static yX3_worthTo, Cond.code yX3_worthTo cX3_worthTo 2 (some .int), Cond.methodLink RX3 52 yX3_worth, Cond.static yX3_worth, Cond.code yX3_worth cX3_worth 1 (some .int), Cond.methodLink RX3 120 yX3_tableAt, Cond.instanceMethod yX3_tableAt, Cond.selects RX3 yX3_tableAt yX3_tableAt, Cond.code yX3_tableAt cX3_tableAt 4 (some .int), Cond.methodLink RX3 103 yX3_why, Cond.instanceMethod yX3_why, Cond.selects RX3 yX3_why yX3_why, Cond.code yX3_why cX3_why 2 (some .int), Cond.fieldLink RX3 16 "ArchivistTricksModel" "ledCard" "I", Cond.methodLink RX3 79 yX3_hasDated, Cond.instanceMethod yX3_hasDated, Cond.selects RX3 yX3_hasDated yX3_hasDated, Cond.code yX3_hasDated cX3_hasDated 2 (some .boolean), Cond.methodLink RX3 75 yX3_hasOf, Cond.instanceMethod yX3_hasOf, Cond.selects RX3 yX3_hasOf yX3_hasOf, Cond.code yX3_hasOf cX3_hasOf 5 (some .boolean), Cond.methodLink RX3 155 yX3_byCard, Cond.instanceMethod yX3_byCard]
def wsX3_best_r5 : List Cond := [Cond.selects RX3 yX3_byCard yX3_byCard, Cond.code yX3_byCard cX3_byCard 4 (some .int), Cond.methodLink RX3 149 yX3_wornNow, Cond.instanceMethod yX3_wornNow, Cond.selects RX3 yX3_wornNow yX3_wornNow, Cond.code yX3_wornNow cX3_wornNow 1 (some .int), Cond.fieldLink RX3 29 "ArchivistTricksModel" "gloves" "[I"]
def wsX3_best : List Cond := .code yX3_best cX3_best 2 (some .int) :: ((wsX3_best_r1 ++ (wsX3_best_r2 ++ (wsX3_best_r3 ++ (wsX3_best_r4 ++ wsX3_best_r5)))) ++ wsX30)
def wsX3_bestCard_r1 : List Cond := [Cond.fieldLink RX3 35 "ArchivistTricksModel" "held" "[I", Cond.fieldLink RX3 69 "ArchivistTricksModel" "turn" "I", Cond.methodLink RX3 158 yX3_bestPlace, Cond.instanceMethod yX3_bestPlace, Cond.selects RX3 yX3_bestPlace yX3_bestPlace, Cond.initialized RX3, Cond.code yX3_bestPlace cX3_bestPlace 6 (some .int), Cond.fieldLink RX3 72 "ArchivistTricksModel" "isOn" "Z", Cond.fieldLink RX3 41 "ArchivistTricksModel" "thrown" "I", Cond.methodLink RX3 82 yX3_inPile, Cond.instanceMethod yX3_inPile, Cond.selects RX3 yX3_inPile yX3_inPile, Cond.code yX3_inPile cX3_inPile 1 (some .int), Cond.fieldLink RX3 58 "ArchivistTricksModel" "isDealt" "Z", Cond.fieldLink RX3 62 "ArchivistTricksModel" "drawn" "I", Cond.methodLink RX3 152 yX3_laysTable, Cond.instanceMethod yX3_laysTable, Cond.selects RX3 yX3_laysTable yX3_laysTable, Cond.code yX3_laysTable cX3_laysTable 5 none, Cond.fieldLink RX3 38 "ArchivistTricksModel" "worthOf" "[I", Cond.methodLink RX3 139 yX3_laysHands, Cond.instanceMethod yX3_laysHands, Cond.selects RX3 yX3_laysHands yX3_laysHands, Cond.code yX3_laysHands cX3_laysHands 4 none]
def wsX3_bestCard_r2 : List Cond := [Cond.fieldLink RX3 7 "ArchivistTricksModel" "place" "[I", Cond.methodLink RX3 97 yX3_howMany, Cond.instanceMethod yX3_howMany, Cond.selects RX3 yX3_howMany yX3_howMany, Cond.code yX3_howMany cX3_howMany 4 (some .int), Cond.methodLink RX3 142 yX3_many, Cond.static yX3_many, Cond.code yX3_many cX3_many 3 (some .int), Cond.methodLink RX3 145 yX3_mostOf, Cond.instanceMethod yX3_mostOf, Cond.selects RX3 yX3_mostOf yX3_mostOf, Cond.code yX3_mostOf cX3_mostOf 8 (some .int), Cond.methodLink RX3 132 yX3_canLead, Cond.instanceMethod yX3_canLead, Cond.selects RX3 yX3_canLead yX3_canLead, Cond.code yX3_canLead cX3_canLead 4 (some .boolean), Cond.methodLink RX3 44 yX3_isMildew, Cond.static yX3_isMildew, Cond.code yX3_isMildew cX3_isMildew 1 (some .boolean), Cond.methodLink RX3 116 yX3_isAmong, Cond.instanceMethod yX3_isAmong, Cond.selects RX3 yX3_isAmong yX3_isAmong, Cond.code yX3_isAmong cX3_isAmong 7 (some .boolean), Cond.methodLink RX3 48 yX3_provenance]
def wsX3_bestCard_r3 : List Cond := [Cond.static yX3_provenance, Cond.code yX3_provenance cX3_provenance 1 (some .int), Cond.methodLink RX3 135 yX3_leastBy, Cond.instanceMethod yX3_leastBy, Cond.selects RX3 yX3_leastBy yX3_leastBy, Cond.code yX3_leastBy cX3_leastBy 11 (some .int), Cond.methodLink RX3 124 yX3_canFollow, Cond.instanceMethod yX3_canFollow, Cond.selects RX3 yX3_canFollow yX3_canFollow, Cond.code yX3_canFollow cX3_canFollow 5 (some .boolean), Cond.fieldLink RX3 20 "ArchivistTricksModel" "trumps" "I", Cond.methodLink RX3 55 yX3_isTrump, Cond.instanceMethod yX3_isTrump, Cond.selects RX3 yX3_isTrump yX3_isTrump, Cond.code yX3_isTrump cX3_isTrump 2 (some .boolean), Cond.methodLink RX3 128 yX3_behind, Cond.instanceMethod yX3_behind, Cond.selects RX3 yX3_behind yX3_behind, Cond.code yX3_behind cX3_behind 11 (some .int), Cond.methodLink RX3 86 yX3_takes, Cond.instanceMethod yX3_takes, Cond.selects RX3 yX3_takes yX3_takes, Cond.code yX3_takes cX3_takes 3 (some .boolean), Cond.methodLink RX3 89 yX3_worthTo]
def wsX3_bestCard_r4 : List Cond := [Cond.static yX3_worthTo, Cond.code yX3_worthTo cX3_worthTo 2 (some .int), Cond.methodLink RX3 52 yX3_worth, Cond.static yX3_worth, Cond.code yX3_worth cX3_worth 1 (some .int), Cond.methodLink RX3 120 yX3_tableAt, Cond.instanceMethod yX3_tableAt, Cond.selects RX3 yX3_tableAt yX3_tableAt, Cond.code yX3_tableAt cX3_tableAt 4 (some .int), Cond.methodLink RX3 103 yX3_why, Cond.instanceMethod yX3_why, Cond.selects RX3 yX3_why yX3_why, Cond.code yX3_why cX3_why 2 (some .int), Cond.fieldLink RX3 16 "ArchivistTricksModel" "ledCard" "I", Cond.methodLink RX3 79 yX3_hasDated, Cond.instanceMethod yX3_hasDated, Cond.selects RX3 yX3_hasDated yX3_hasDated, Cond.code yX3_hasDated cX3_hasDated 2 (some .boolean), Cond.methodLink RX3 75 yX3_hasOf, Cond.instanceMethod yX3_hasOf, Cond.selects RX3 yX3_hasOf yX3_hasOf, Cond.code yX3_hasOf cX3_hasOf 5 (some .boolean), Cond.methodLink RX3 155 yX3_byCard, Cond.instanceMethod yX3_byCard]
def wsX3_bestCard_r5 : List Cond := [Cond.selects RX3 yX3_byCard yX3_byCard, Cond.code yX3_byCard cX3_byCard 4 (some .int), Cond.methodLink RX3 149 yX3_wornNow, Cond.instanceMethod yX3_wornNow, Cond.selects RX3 yX3_wornNow yX3_wornNow, Cond.code yX3_wornNow cX3_wornNow 1 (some .int), Cond.fieldLink RX3 29 "ArchivistTricksModel" "gloves" "[I"]
def wsX3_bestCard : List Cond := .code yX3_bestCard cX3_bestCard 2 (some .int) :: ((wsX3_bestCard_r1 ++ (wsX3_bestCard_r2 ++ (wsX3_bestCard_r3 ++ (wsX3_bestCard_r4 ++ wsX3_bestCard_r5)))) ++ wsX30)
def wsX3_wonByFirst : List Cond := .code yX3_wonByFirst cX3_wonByFirst 1 (some .int) :: ([.fieldLink RX3 41 "ArchivistTricksModel" "thrown" "I", .fieldLink RX3 32 "ArchivistTricksModel" "wins" "[I"] ++ wsX30)
def wsX3_wonBySecond : List Cond := .code yX3_wonBySecond cX3_wonBySecond 1 (some .int) :: ([.fieldLink RX3 41 "ArchivistTricksModel" "thrown" "I", .fieldLink RX3 32 "ArchivistTricksModel" "wins" "[I"] ++ wsX30)
def wsJ9_max_7cf53 : List Cond := .code yJ9_max_7cf53 cJ9_max_7cf53 2 (some .int) :: ([])
def wsL_play_r1 : List Cond := [Cond.classLink RL 13 "java/lang/IllegalArgumentException", Cond.classLink RL 15 "java/lang/IllegalStateException", Cond.methodLink RL 7 yX2_play, Cond.instanceMethod yX2_play, Cond.selects RX2 yX2_play yX2_play, Cond.initialized RX2, Cond.code yX2_play cX2_play 3 (some .int), Cond.classLink RX2 71 "java/lang/IllegalArgumentException", Cond.initialized "java/lang/IllegalArgumentException", Cond.classLink RX2 82 "java/lang/IllegalStateException", Cond.initialized "java/lang/IllegalStateException", Cond.fieldLink RX2 33 "ArchivistTricks" "mover" "I", Cond.fieldLink RX2 91 "ArchivistTricks$Archivist" "hand" "J", Cond.constantLong RX2 98 (-1), Cond.fieldLink RX2 30 "ArchivistTricks" "ledCard" "I", Cond.methodLink RX2 68 yX2_isCard, Cond.static yX2_isCard, Cond.code yX2_isCard cX2_isCard 1 (some .boolean), Cond.methodLink RX2 78 yX2_reasonAgainst, Cond.instanceMethod yX2_reasonAgainst, Cond.selects RX2 yX2_reasonAgainst yX2_reasonAgainst, Cond.code yX2_reasonAgainst cX2_reasonAgainst 4 (some .int), Cond.fieldLink RX2 23 "ArchivistTricks" "drawn" "I", Cond.fieldLink RX2 27 "ArchivistTricks" "trumpProvenance" "I"]
def wsL_play_r2 : List Cond := [Cond.methodLink RX2 154 yX2_moversHand, Cond.instanceMethod yX2_moversHand, Cond.selects RX2 yX2_moversHand yX2_moversHand, Cond.code yX2_moversHand cX2_moversHand 1 (some .long), Cond.methodLink RX2 87 yX2_archivist, Cond.instanceMethod yX2_archivist, Cond.selects RX2 yX2_archivist yX2_archivist, Cond.code yX2_archivist cX2_archivist 2 (some (.object "ArchivistTricks$Archivist")), Cond.fieldLink RX2 16 "ArchivistTricks" "first" "LArchivistTricks$Archivist;", Cond.fieldLink RX2 20 "ArchivistTricks" "second" "LArchivistTricks$Archivist;", Cond.methodLink RX2 124 yX2_has, Cond.static yX2_has, Cond.code yX2_has cX2_has 3 (some .boolean), Cond.methodLink RX2 188 yX2_reasonAgainstLeading, Cond.static yX2_reasonAgainstLeading, Cond.code yX2_reasonAgainstLeading cX2_reasonAgainstLeading 3 (some .int), Cond.constantLong RX2 220 (1099511627775), Cond.methodLink RX2 64 yX2_isMildew, Cond.static yX2_isMildew, Cond.code yX2_isMildew cX2_isMildew 1 (some .boolean), Cond.methodLink RX2 192 yX2_reasonAgainstReplying, Cond.static yX2_reasonAgainstReplying, Cond.code yX2_reasonAgainstReplying cX2_reasonAgainstReplying 9 (some .int), Cond.methodLink RX2 222 yX2_allOf]
def wsL_play_r3 : List Cond := [Cond.static yX2_allOf, Cond.code yX2_allOf cX2_allOf 1 (some .long), Cond.constantLong RX2 218 (1023), Cond.methodLink RX2 95 yX2_bit, Cond.static yX2_bit, Cond.code yX2_bit cX2_bit 1 (some .long), Cond.methodLink RX2 100 yX2_finishTrick, Cond.instanceMethod yX2_finishTrick, Cond.selects RX2 yX2_finishTrick yX2_finishTrick, Cond.code yX2_finishTrick cX2_finishTrick 5 (some .int), Cond.fieldLink RX2 105 "ArchivistTricks$Archivist" "gloves" "I", Cond.fieldLink RX2 133 "ArchivistTricks$Archivist" "points" "I", Cond.fieldLink RX2 136 "ArchivistTricks$Archivist" "tricks" "I", Cond.fieldLink RX2 130 "ArchivistTricks$Archivist" "taken" "J", Cond.methodLink RX2 141 yX2_takerBy, Cond.instanceMethod yX2_takerBy, Cond.selects RX2 yX2_takerBy yX2_takerBy, Cond.code yX2_takerBy cX2_takerBy 2 (some .int), Cond.methodLink RX2 196 yX2_beats, Cond.static yX2_beats, Cond.code yX2_beats cX2_beats 3 (some .boolean), Cond.methodLink RX2 200 yX2_worth, Cond.static yX2_worth, Cond.code yX2_worth cX2_worth 2 (some .int)]
def wsL_play_r4 : List Cond := [Cond.methodLink RX2 204 yX0_loseWornGloves, Cond.instanceMethod yX0_loseWornGloves, Cond.selects RX0 yX0_loseWornGloves yX0_loseWornGloves, Cond.initialized RX0, Cond.code yX0_loseWornGloves cX0_loseWornGloves 1 none, Cond.fieldLink RX0 25 "ArchivistTricks$Archivist" "gloves" "I", Cond.methodLink RX2 207 yX2_drawFor, Cond.instanceMethod yX2_drawFor, Cond.selects RX2 yX2_drawFor yX2_drawFor, Cond.code yX2_drawFor cX2_drawFor 2 none, Cond.fieldLink RX2 9 "ArchivistTricks" "row" "[I", Cond.methodLink RX2 211 yX2_endGame, Cond.instanceMethod yX2_endGame, Cond.selects RX2 yX2_endGame yX2_endGame, Cond.code yX2_endGame cX2_endGame 1 none, Cond.fieldLink RX2 36 "ArchivistTricks" "firstWins" "I", Cond.fieldLink RX2 39 "ArchivistTricks" "secondWins" "I"]
def wsL_play : List Cond := .codeWith yL_play cL_play 4 (some .int) [(0, 9, 12, 13), (0, 9, 15, 15)] :: ((wsL_play_r1 ++ (wsL_play_r2 ++ (wsL_play_r3 ++ wsL_play_r4))) ++ wsX20 ++ wsX00 ++ (vx_atS RX2 75 "java/lang/IllegalArgumentException" ["java/lang/RuntimeException", "java/lang/Exception"]).filter goodWord ++ (vx_atS RX2 86 "java/lang/IllegalStateException" ["java/lang/RuntimeException", "java/lang/Exception"]).filter goodWord)
def wsL_putOnGloves : List Cond := .codeWith yL_putOnGloves cL_putOnGloves 3 (some .int) [(0, 8, 11, 15)] :: ([.classLink RL 15 "java/lang/IllegalStateException", .methodLink RL 17 yX2_putOnGloves, .instanceMethod yX2_putOnGloves, .selects RX2 yX2_putOnGloves yX2_putOnGloves, .initialized RX2, .code yX2_putOnGloves cX2_putOnGloves 2 (some .int), .classLink RX2 82 "java/lang/IllegalStateException", .initialized "java/lang/IllegalStateException", .fieldLink RX2 33 "ArchivistTricks" "mover" "I", .fieldLink RX2 105 "ArchivistTricks$Archivist" "gloves" "I", .methodLink RX2 87 yX2_archivist, .instanceMethod yX2_archivist, .selects RX2 yX2_archivist yX2_archivist, .code yX2_archivist cX2_archivist 2 (some (.object "ArchivistTricks$Archivist")), .fieldLink RX2 16 "ArchivistTricks" "first" "LArchivistTricks$Archivist;", .fieldLink RX2 20 "ArchivistTricks" "second" "LArchivistTricks$Archivist;"] ++ wsX20 ++ wsX00 ++ (vx_atS RX2 86 "java/lang/IllegalStateException" ["java/lang/RuntimeException", "java/lang/Exception"]).filter goodWord)
def wsL_whyNot_r1 : List Cond := [Cond.classLink RL 13 "java/lang/IllegalArgumentException", Cond.methodLink RL 21 yX2_whyNot, Cond.instanceMethod yX2_whyNot, Cond.selects RX2 yX2_whyNot yX2_whyNot, Cond.initialized RX2, Cond.code yX2_whyNot cX2_whyNot 2 (some .int), Cond.classLink RX2 71 "java/lang/IllegalArgumentException", Cond.initialized "java/lang/IllegalArgumentException", Cond.methodLink RX2 68 yX2_isCard, Cond.static yX2_isCard, Cond.code yX2_isCard cX2_isCard 1 (some .boolean), Cond.methodLink RX2 78 yX2_reasonAgainst, Cond.instanceMethod yX2_reasonAgainst, Cond.selects RX2 yX2_reasonAgainst yX2_reasonAgainst, Cond.code yX2_reasonAgainst cX2_reasonAgainst 4 (some .int), Cond.fieldLink RX2 33 "ArchivistTricks" "mover" "I", Cond.fieldLink RX2 30 "ArchivistTricks" "ledCard" "I", Cond.fieldLink RX2 23 "ArchivistTricks" "drawn" "I", Cond.fieldLink RX2 27 "ArchivistTricks" "trumpProvenance" "I", Cond.methodLink RX2 154 yX2_moversHand, Cond.instanceMethod yX2_moversHand, Cond.selects RX2 yX2_moversHand yX2_moversHand, Cond.code yX2_moversHand cX2_moversHand 1 (some .long), Cond.fieldLink RX2 91 "ArchivistTricks$Archivist" "hand" "J"]
def wsL_whyNot_r2 : List Cond := [Cond.methodLink RX2 87 yX2_archivist, Cond.instanceMethod yX2_archivist, Cond.selects RX2 yX2_archivist yX2_archivist, Cond.code yX2_archivist cX2_archivist 2 (some (.object "ArchivistTricks$Archivist")), Cond.fieldLink RX2 16 "ArchivistTricks" "first" "LArchivistTricks$Archivist;", Cond.fieldLink RX2 20 "ArchivistTricks" "second" "LArchivistTricks$Archivist;", Cond.methodLink RX2 124 yX2_has, Cond.static yX2_has, Cond.code yX2_has cX2_has 3 (some .boolean), Cond.methodLink RX2 188 yX2_reasonAgainstLeading, Cond.static yX2_reasonAgainstLeading, Cond.code yX2_reasonAgainstLeading cX2_reasonAgainstLeading 3 (some .int), Cond.constantLong RX2 220 (1099511627775), Cond.methodLink RX2 64 yX2_isMildew, Cond.static yX2_isMildew, Cond.code yX2_isMildew cX2_isMildew 1 (some .boolean), Cond.methodLink RX2 192 yX2_reasonAgainstReplying, Cond.static yX2_reasonAgainstReplying, Cond.code yX2_reasonAgainstReplying cX2_reasonAgainstReplying 9 (some .int), Cond.methodLink RX2 222 yX2_allOf, Cond.static yX2_allOf, Cond.code yX2_allOf cX2_allOf 1 (some .long), Cond.constantLong RX2 218 (1023)]
def wsL_whyNot : List Cond := .codeWith yL_whyNot cL_whyNot 4 (some .int) [(0, 9, 12, 13)] :: ((wsL_whyNot_r1 ++ wsL_whyNot_r2) ++ wsX20 ++ wsX00 ++ (vx_atS RX2 75 "java/lang/IllegalArgumentException" ["java/lang/RuntimeException", "java/lang/Exception"]).filter goodWord)
def wsL_cards_r1 : List Cond := [Cond.classLink RL 27 "java/lang/IndexOutOfBoundsException", Cond.methodLink RL 24 yX2_cards, Cond.instanceMethod yX2_cards, Cond.selects RX2 yX2_cards yX2_cards, Cond.initialized RX2, Cond.code yX2_cards cX2_cards 2 (some .int), Cond.classLink RX2 113 "java/lang/IndexOutOfBoundsException", Cond.initialized "java/lang/IndexOutOfBoundsException", Cond.fieldLink RX2 91 "ArchivistTricks$Archivist" "hand" "J", Cond.methodLink RX2 110 yX2_isArchivist, Cond.static yX2_isArchivist, Cond.code yX2_isArchivist cX2_isArchivist 1 (some .boolean), Cond.methodLink RX2 87 yX2_archivist, Cond.instanceMethod yX2_archivist, Cond.selects RX2 yX2_archivist yX2_archivist, Cond.code yX2_archivist cX2_archivist 2 (some (.object "ArchivistTricks$Archivist")), Cond.fieldLink RX2 16 "ArchivistTricks" "first" "LArchivistTricks$Archivist;", Cond.fieldLink RX2 20 "ArchivistTricks" "second" "LArchivistTricks$Archivist;", Cond.methodLink RX2 118 yJ13_bitCount_95d88, Cond.static yJ13_bitCount_95d88, Cond.initialized RJ13, Cond.code yJ13_bitCount_95d88 cJ13_bitCount_95d88 2 (some .int), Cond.constantLong RJ13 314 (6148914691236517205), Cond.constantLong RJ13 316 (3689348814741910323)]
def wsL_cards_r2 : List Cond := [Cond.constantLong RJ13 318 (1085102592571150095)]
def wsL_cards : List Cond := .codeWith yL_cards cL_cards 4 (some .int) [(0, 9, 12, 27)] :: ((wsL_cards_r1 ++ wsL_cards_r2) ++ wsX00 ++ wsX20 ++ (vx_atS RX2 117 "java/lang/IndexOutOfBoundsException" ["java/lang/RuntimeException", "java/lang/Exception"]).filter goodWord)
def wsL_cardAt : List Cond := .codeWith yL_cardAt cL_cardAt 5 (some .int) [(0, 10, 13, 27)] :: ([.classLink RL 27 "java/lang/IndexOutOfBoundsException", .methodLink RL 29 yX2_cardAt, .instanceMethod yX2_cardAt, .selects RX2 yX2_cardAt yX2_cardAt, .initialized RX2, .code yX2_cardAt cX2_cardAt 7 (some .int), .classLink RX2 113 "java/lang/IndexOutOfBoundsException", .initialized "java/lang/IndexOutOfBoundsException", .fieldLink RX2 91 "ArchivistTricks$Archivist" "hand" "J", .methodLink RX2 110 yX2_isArchivist, .static yX2_isArchivist, .code yX2_isArchivist cX2_isArchivist 1 (some .boolean), .methodLink RX2 87 yX2_archivist, .instanceMethod yX2_archivist, .selects RX2 yX2_archivist yX2_archivist, .code yX2_archivist cX2_archivist 2 (some (.object "ArchivistTricks$Archivist")), .fieldLink RX2 16 "ArchivistTricks" "first" "LArchivistTricks$Archivist;", .fieldLink RX2 20 "ArchivistTricks" "second" "LArchivistTricks$Archivist;", .methodLink RX2 124 yX2_has, .static yX2_has, .code yX2_has cX2_has 3 (some .boolean)] ++ wsX00 ++ wsX20 ++ (vx_atS RX2 117 "java/lang/IndexOutOfBoundsException" ["java/lang/RuntimeException", "java/lang/Exception"]).filter goodWord)
def wsL_placeOf : List Cond := .codeWith yL_placeOf cL_placeOf 4 (some .int) [(0, 9, 12, 13)] :: ([.classLink RL 13 "java/lang/IllegalArgumentException", .methodLink RL 33 yX2_placeOf, .instanceMethod yX2_placeOf, .selects RX2 yX2_placeOf yX2_placeOf, .initialized RX2, .code yX2_placeOf cX2_placeOf 2 (some .int), .classLink RX2 71 "java/lang/IllegalArgumentException", .initialized "java/lang/IllegalArgumentException", .fieldLink RX2 27 "ArchivistTricks" "trumpProvenance" "I", .fieldLink RX2 16 "ArchivistTricks" "first" "LArchivistTricks$Archivist;", .fieldLink RX2 91 "ArchivistTricks$Archivist" "hand" "J", .fieldLink RX2 20 "ArchivistTricks" "second" "LArchivistTricks$Archivist;", .fieldLink RX2 130 "ArchivistTricks$Archivist" "taken" "J", .fieldLink RX2 30 "ArchivistTricks" "ledCard" "I", .methodLink RX2 68 yX2_isCard, .static yX2_isCard, .code yX2_isCard cX2_isCard 1 (some .boolean), .methodLink RX2 124 yX2_has, .static yX2_has, .code yX2_has cX2_has 3 (some .boolean)] ++ wsX20 ++ wsX00 ++ (vx_atS RX2 75 "java/lang/IllegalArgumentException" ["java/lang/RuntimeException", "java/lang/Exception"]).filter goodWord)
def wsL_points : List Cond := .codeWith yL_points cL_points 4 (some .int) [(0, 9, 12, 27)] :: ([.classLink RL 27 "java/lang/IndexOutOfBoundsException", .methodLink RL 36 yX2_points, .instanceMethod yX2_points, .selects RX2 yX2_points yX2_points, .initialized RX2, .code yX2_points cX2_points 2 (some .int), .classLink RX2 113 "java/lang/IndexOutOfBoundsException", .initialized "java/lang/IndexOutOfBoundsException", .fieldLink RX2 133 "ArchivistTricks$Archivist" "points" "I", .methodLink RX2 110 yX2_isArchivist, .static yX2_isArchivist, .code yX2_isArchivist cX2_isArchivist 1 (some .boolean), .methodLink RX2 87 yX2_archivist, .instanceMethod yX2_archivist, .selects RX2 yX2_archivist yX2_archivist, .code yX2_archivist cX2_archivist 2 (some (.object "ArchivistTricks$Archivist")), .fieldLink RX2 16 "ArchivistTricks" "first" "LArchivistTricks$Archivist;", .fieldLink RX2 20 "ArchivistTricks" "second" "LArchivistTricks$Archivist;"] ++ wsX00 ++ wsX20 ++ (vx_atS RX2 117 "java/lang/IndexOutOfBoundsException" ["java/lang/RuntimeException", "java/lang/Exception"]).filter goodWord)
def wsL_tricks : List Cond := .codeWith yL_tricks cL_tricks 4 (some .int) [(0, 9, 12, 27)] :: ([.classLink RL 27 "java/lang/IndexOutOfBoundsException", .methodLink RL 39 yX2_tricks, .instanceMethod yX2_tricks, .selects RX2 yX2_tricks yX2_tricks, .initialized RX2, .code yX2_tricks cX2_tricks 2 (some .int), .classLink RX2 113 "java/lang/IndexOutOfBoundsException", .initialized "java/lang/IndexOutOfBoundsException", .fieldLink RX2 136 "ArchivistTricks$Archivist" "tricks" "I", .methodLink RX2 110 yX2_isArchivist, .static yX2_isArchivist, .code yX2_isArchivist cX2_isArchivist 1 (some .boolean), .methodLink RX2 87 yX2_archivist, .instanceMethod yX2_archivist, .selects RX2 yX2_archivist yX2_archivist, .code yX2_archivist cX2_archivist 2 (some (.object "ArchivistTricks$Archivist")), .fieldLink RX2 16 "ArchivistTricks" "first" "LArchivistTricks$Archivist;", .fieldLink RX2 20 "ArchivistTricks" "second" "LArchivistTricks$Archivist;"] ++ wsX00 ++ wsX20 ++ (vx_atS RX2 117 "java/lang/IndexOutOfBoundsException" ["java/lang/RuntimeException", "java/lang/Exception"]).filter goodWord)
def wsL_gloves : List Cond := .codeWith yL_gloves cL_gloves 4 (some .int) [(0, 9, 12, 27)] :: ([.classLink RL 27 "java/lang/IndexOutOfBoundsException", .methodLink RL 42 yX2_gloves, .instanceMethod yX2_gloves, .selects RX2 yX2_gloves yX2_gloves, .initialized RX2, .code yX2_gloves cX2_gloves 2 (some .int), .classLink RX2 113 "java/lang/IndexOutOfBoundsException", .initialized "java/lang/IndexOutOfBoundsException", .fieldLink RX2 105 "ArchivistTricks$Archivist" "gloves" "I", .methodLink RX2 110 yX2_isArchivist, .static yX2_isArchivist, .code yX2_isArchivist cX2_isArchivist 1 (some .boolean), .methodLink RX2 87 yX2_archivist, .instanceMethod yX2_archivist, .selects RX2 yX2_archivist yX2_archivist, .code yX2_archivist cX2_archivist 2 (some (.object "ArchivistTricks$Archivist")), .fieldLink RX2 16 "ArchivistTricks" "first" "LArchivistTricks$Archivist;", .fieldLink RX2 20 "ArchivistTricks" "second" "LArchivistTricks$Archivist;"] ++ wsX00 ++ wsX20 ++ (vx_atS RX2 117 "java/lang/IndexOutOfBoundsException" ["java/lang/RuntimeException", "java/lang/Exception"]).filter goodWord)
def wsL_wouldTake_r1 : List Cond := [Cond.classLink RL 13 "java/lang/IllegalArgumentException", Cond.classLink RL 15 "java/lang/IllegalStateException", Cond.methodLink RL 45 yX2_wouldTake, Cond.instanceMethod yX2_wouldTake, Cond.selects RX2 yX2_wouldTake yX2_wouldTake, Cond.initialized RX2, Cond.code yX2_wouldTake cX2_wouldTake 2 (some .int), Cond.classLink RX2 71 "java/lang/IllegalArgumentException", Cond.initialized "java/lang/IllegalArgumentException", Cond.classLink RX2 82 "java/lang/IllegalStateException", Cond.initialized "java/lang/IllegalStateException", Cond.fieldLink RX2 30 "ArchivistTricks" "ledCard" "I", Cond.methodLink RX2 68 yX2_isCard, Cond.static yX2_isCard, Cond.code yX2_isCard cX2_isCard 1 (some .boolean), Cond.methodLink RX2 141 yX2_takerBy, Cond.instanceMethod yX2_takerBy, Cond.selects RX2 yX2_takerBy yX2_takerBy, Cond.code yX2_takerBy cX2_takerBy 2 (some .int), Cond.fieldLink RX2 27 "ArchivistTricks" "trumpProvenance" "I", Cond.fieldLink RX2 33 "ArchivistTricks" "mover" "I", Cond.methodLink RX2 196 yX2_beats, Cond.static yX2_beats, Cond.code yX2_beats cX2_beats 3 (some .boolean)]
def wsL_wouldTake_r2 : List Cond := [Cond.methodLink RX2 64 yX2_isMildew, Cond.static yX2_isMildew, Cond.code yX2_isMildew cX2_isMildew 1 (some .boolean)]
def wsL_wouldTake : List Cond := .codeWith yL_wouldTake cL_wouldTake 4 (some .int) [(0, 9, 12, 13), (0, 9, 15, 15)] :: ((wsL_wouldTake_r1 ++ wsL_wouldTake_r2) ++ wsX20 ++ (vx_atS RX2 75 "java/lang/IllegalArgumentException" ["java/lang/RuntimeException", "java/lang/Exception"]).filter goodWord ++ (vx_atS RX2 86 "java/lang/IllegalStateException" ["java/lang/RuntimeException", "java/lang/Exception"]).filter goodWord)
def wsL_best_r1 : List Cond := [Cond.classLink RL 15 "java/lang/IllegalStateException", Cond.methodLink RL 48 yX2_best, Cond.instanceMethod yX2_best, Cond.selects RX2 yX2_best yX2_best, Cond.initialized RX2, Cond.code yX2_best cX2_best 1 (some .int), Cond.classLink RX2 82 "java/lang/IllegalStateException", Cond.initialized "java/lang/IllegalStateException", Cond.fieldLink RX2 30 "ArchivistTricks" "ledCard" "I", Cond.fieldLink RX2 33 "ArchivistTricks" "mover" "I", Cond.methodLink RX2 144 yX2_isEnding, Cond.instanceMethod yX2_isEnding, Cond.selects RX2 yX2_isEnding yX2_isEnding, Cond.code yX2_isEnding cX2_isEnding 1 (some .boolean), Cond.fieldLink RX2 23 "ArchivistTricks" "drawn" "I", Cond.methodLink RX2 150 yX2_begunEnding, Cond.instanceMethod yX2_begunEnding, Cond.selects RX2 yX2_begunEnding yX2_begunEnding, Cond.code yX2_begunEnding cX2_begunEnding 1 (some (.object "ArchivistTricks$Ending")), Cond.fieldLink RX2 42 "ArchivistTricks" "ending" "LArchivistTricks$Ending;", Cond.classLink RX2 166 RX1, Cond.instantiable RX1 4, Cond.initialized RX1, Cond.fieldLink RX2 46 "ArchivistTricks" "endingBegun" "Z"]
def wsL_best_r2 : List Cond := [Cond.fieldLink RX2 16 "ArchivistTricks" "first" "LArchivistTricks$Archivist;", Cond.fieldLink RX2 91 "ArchivistTricks$Archivist" "hand" "J", Cond.fieldLink RX2 20 "ArchivistTricks" "second" "LArchivistTricks$Archivist;", Cond.fieldLink RX2 27 "ArchivistTricks" "trumpProvenance" "I", Cond.instanceMethod yX1_init, Cond.code yX1_init cX1_init 1 none, Cond.methodLink RX1 3 objectInit, Cond.instanceMethod objectInit, Cond.code objectInit ⟨#[0xb1]⟩ 1 none, Cond.arrayClass .int, Cond.fieldLink RX1 9 "ArchivistTricks$Ending" "margins" "[I", Cond.fieldLink RX1 15 "ArchivistTricks$Ending" "firstAll" "J", Cond.fieldLink RX1 19 "ArchivistTricks$Ending" "secondAll" "J", Cond.fieldLink RX1 22 "ArchivistTricks$Ending" "trump" "I", Cond.methodLink RX2 215 yX1_begin, Cond.instanceMethod yX1_begin, Cond.selects RX1 yX1_begin yX1_begin, Cond.code yX1_begin cX1_begin 6 none, Cond.methodLink RX1 26 yJ7_fill_53178, Cond.static yJ7_fill_53178, Cond.initialized RJ7, Cond.code yJ7_fill_53178 cJ7_fill_53178 4 none, Cond.methodLink RX2 154 yX2_moversHand, Cond.instanceMethod yX2_moversHand]
def wsL_best_r3 : List Cond := [Cond.selects RX2 yX2_moversHand yX2_moversHand, Cond.code yX2_moversHand cX2_moversHand 1 (some .long), Cond.methodLink RX2 87 yX2_archivist, Cond.instanceMethod yX2_archivist, Cond.selects RX2 yX2_archivist yX2_archivist, Cond.code yX2_archivist cX2_archivist 2 (some (.object "ArchivistTricks$Archivist")), Cond.methodLink RX2 158 yX2_othersHand, Cond.instanceMethod yX2_othersHand, Cond.selects RX2 yX2_othersHand yX2_othersHand, Cond.code yX2_othersHand cX2_othersHand 1 (some .long), Cond.methodLink RX2 161 yX2_glovesWorn, Cond.instanceMethod yX2_glovesWorn, Cond.selects RX2 yX2_glovesWorn yX2_glovesWorn, Cond.code yX2_glovesWorn cX2_glovesWorn 1 (some .int), Cond.fieldLink RX2 105 "ArchivistTricks$Archivist" "gloves" "I", Cond.methodLink RX2 165 yX1_bestMargin, Cond.instanceMethod yX1_bestMargin, Cond.selects RX1 yX1_bestMargin yX1_bestMargin, Cond.code yX1_bestMargin cX1_bestMargin 8 (some .int), Cond.methodLink RX1 32 yX1_margin, Cond.instanceMethod yX1_margin, Cond.selects RX1 yX1_margin yX1_margin, Cond.code yX1_margin cX1_margin 11 (some .int), Cond.methodLink RX1 44 Lib.Math.max.name]
def wsL_best_r4 : List Cond := [Cond.static Lib.Math.max.name, Cond.initialized "java/lang/Math", Cond.code Lib.Math.max.name Lib.Math.max.code 2 (some .int), Cond.methodLink RX1 36 yX1_mayPlay, Cond.instanceMethod yX1_mayPlay, Cond.selects RX1 yX1_mayPlay yX1_mayPlay, Cond.code yX1_mayPlay cX1_mayPlay 6 (some .boolean), Cond.static yX2_has, Cond.code yX2_has cX2_has 3 (some .boolean), Cond.static yX2_reasonAgainstLeading, Cond.code yX2_reasonAgainstLeading cX2_reasonAgainstLeading 3 (some .int), Cond.constantLong RX2 220 (1099511627775), Cond.methodLink RX2 64 yX2_isMildew, Cond.static yX2_isMildew, Cond.code yX2_isMildew cX2_isMildew 1 (some .boolean), Cond.static yX2_reasonAgainstReplying, Cond.code yX2_reasonAgainstReplying cX2_reasonAgainstReplying 9 (some .int), Cond.methodLink RX2 222 yX2_allOf, Cond.static yX2_allOf, Cond.code yX2_allOf cX2_allOf 1 (some .long), Cond.constantLong RX2 218 (1023), Cond.methodLink RX2 124 yX2_has, Cond.methodLink RX1 40 yX1_marginBy, Cond.instanceMethod yX1_marginBy]
def wsL_best_r5 : List Cond := [Cond.selects RX1 yX1_marginBy yX1_marginBy, Cond.code yX1_marginBy cX1_marginBy 13 (some .int), Cond.constantLong RX1 54 (-1), Cond.static yX2_bit, Cond.code yX2_bit cX2_bit 1 (some .long), Cond.static yX2_beats, Cond.code yX2_beats cX2_beats 3 (some .boolean), Cond.methodLink RX1 60 yX1_trickWorth, Cond.static yX1_trickWorth, Cond.code yX1_trickWorth cX1_trickWorth 5 (some .int), Cond.static yX2_worth, Cond.code yX2_worth cX2_worth 2 (some .int), Cond.methodLink RX1 64 yX1_rest, Cond.instanceMethod yX1_rest, Cond.selects RX1 yX1_rest yX1_rest, Cond.code yX1_rest cX1_rest 10 (some .int), Cond.methodLink RX1 68 yX1_stateOf, Cond.instanceMethod yX1_stateOf, Cond.selects RX1 yX1_stateOf yX1_stateOf, Cond.code yX1_stateOf cX1_stateOf 8 (some .int), Cond.methodLink RX1 84 yX1_keptOf, Cond.static yX1_keptOf, Cond.code yX1_keptOf cX1_keptOf 10 (some .int)]
def wsL_best : List Cond := .codeWith yL_best cL_best 3 (some .int) [(0, 8, 11, 15)] :: ((wsL_best_r1 ++ (wsL_best_r2 ++ (wsL_best_r3 ++ (wsL_best_r4 ++ wsL_best_r5)))) ++ wsX20 ++ wsX10 ++ wsX00 ++ (vx_atS RX2 86 "java/lang/IllegalStateException" ["java/lang/RuntimeException", "java/lang/Exception"]).filter goodWord)
def wsL_bestCard_r1 : List Cond := [Cond.classLink RL 15 "java/lang/IllegalStateException", Cond.methodLink RL 51 yX2_bestCard, Cond.instanceMethod yX2_bestCard, Cond.selects RX2 yX2_bestCard yX2_bestCard, Cond.initialized RX2, Cond.code yX2_bestCard cX2_bestCard 1 (some .int), Cond.classLink RX2 82 "java/lang/IllegalStateException", Cond.initialized "java/lang/IllegalStateException", Cond.fieldLink RX2 30 "ArchivistTricks" "ledCard" "I", Cond.fieldLink RX2 33 "ArchivistTricks" "mover" "I", Cond.methodLink RX2 144 yX2_isEnding, Cond.instanceMethod yX2_isEnding, Cond.selects RX2 yX2_isEnding yX2_isEnding, Cond.code yX2_isEnding cX2_isEnding 1 (some .boolean), Cond.fieldLink RX2 23 "ArchivistTricks" "drawn" "I", Cond.methodLink RX2 150 yX2_begunEnding, Cond.instanceMethod yX2_begunEnding, Cond.selects RX2 yX2_begunEnding yX2_begunEnding, Cond.code yX2_begunEnding cX2_begunEnding 1 (some (.object "ArchivistTricks$Ending")), Cond.fieldLink RX2 42 "ArchivistTricks" "ending" "LArchivistTricks$Ending;", Cond.classLink RX2 166 RX1, Cond.instantiable RX1 4, Cond.initialized RX1, Cond.fieldLink RX2 46 "ArchivistTricks" "endingBegun" "Z"]
def wsL_bestCard_r2 : List Cond := [Cond.fieldLink RX2 16 "ArchivistTricks" "first" "LArchivistTricks$Archivist;", Cond.fieldLink RX2 91 "ArchivistTricks$Archivist" "hand" "J", Cond.fieldLink RX2 20 "ArchivistTricks" "second" "LArchivistTricks$Archivist;", Cond.fieldLink RX2 27 "ArchivistTricks" "trumpProvenance" "I", Cond.instanceMethod yX1_init, Cond.code yX1_init cX1_init 1 none, Cond.methodLink RX1 3 objectInit, Cond.instanceMethod objectInit, Cond.code objectInit ⟨#[0xb1]⟩ 1 none, Cond.arrayClass .int, Cond.fieldLink RX1 9 "ArchivistTricks$Ending" "margins" "[I", Cond.fieldLink RX1 15 "ArchivistTricks$Ending" "firstAll" "J", Cond.fieldLink RX1 19 "ArchivistTricks$Ending" "secondAll" "J", Cond.fieldLink RX1 22 "ArchivistTricks$Ending" "trump" "I", Cond.methodLink RX2 215 yX1_begin, Cond.instanceMethod yX1_begin, Cond.selects RX1 yX1_begin yX1_begin, Cond.code yX1_begin cX1_begin 6 none, Cond.methodLink RX1 26 yJ7_fill_53178, Cond.static yJ7_fill_53178, Cond.initialized RJ7, Cond.code yJ7_fill_53178 cJ7_fill_53178 4 none, Cond.methodLink RX2 154 yX2_moversHand, Cond.instanceMethod yX2_moversHand]
def wsL_bestCard_r3 : List Cond := [Cond.selects RX2 yX2_moversHand yX2_moversHand, Cond.code yX2_moversHand cX2_moversHand 1 (some .long), Cond.methodLink RX2 87 yX2_archivist, Cond.instanceMethod yX2_archivist, Cond.selects RX2 yX2_archivist yX2_archivist, Cond.code yX2_archivist cX2_archivist 2 (some (.object "ArchivistTricks$Archivist")), Cond.methodLink RX2 158 yX2_othersHand, Cond.instanceMethod yX2_othersHand, Cond.selects RX2 yX2_othersHand yX2_othersHand, Cond.code yX2_othersHand cX2_othersHand 1 (some .long), Cond.methodLink RX2 161 yX2_glovesWorn, Cond.instanceMethod yX2_glovesWorn, Cond.selects RX2 yX2_glovesWorn yX2_glovesWorn, Cond.code yX2_glovesWorn cX2_glovesWorn 1 (some .int), Cond.fieldLink RX2 105 "ArchivistTricks$Archivist" "gloves" "I", Cond.methodLink RX2 171 yX1_lowestBestCard, Cond.instanceMethod yX1_lowestBestCard, Cond.selects RX1 yX1_lowestBestCard yX1_lowestBestCard, Cond.code yX1_lowestBestCard cX1_lowestBestCard 12 (some .int), Cond.methodLink RX1 36 yX1_mayPlay, Cond.instanceMethod yX1_mayPlay, Cond.selects RX1 yX1_mayPlay yX1_mayPlay, Cond.code yX1_mayPlay cX1_mayPlay 6 (some .boolean), Cond.static yX2_has]
def wsL_bestCard_r4 : List Cond := [Cond.code yX2_has cX2_has 3 (some .boolean), Cond.static yX2_reasonAgainstLeading, Cond.code yX2_reasonAgainstLeading cX2_reasonAgainstLeading 3 (some .int), Cond.constantLong RX2 220 (1099511627775), Cond.methodLink RX2 64 yX2_isMildew, Cond.static yX2_isMildew, Cond.code yX2_isMildew cX2_isMildew 1 (some .boolean), Cond.static yX2_reasonAgainstReplying, Cond.code yX2_reasonAgainstReplying cX2_reasonAgainstReplying 9 (some .int), Cond.methodLink RX2 222 yX2_allOf, Cond.static yX2_allOf, Cond.code yX2_allOf cX2_allOf 1 (some .long), Cond.constantLong RX2 218 (1023), Cond.methodLink RX2 124 yX2_has, Cond.methodLink RX1 40 yX1_marginBy, Cond.instanceMethod yX1_marginBy, Cond.selects RX1 yX1_marginBy yX1_marginBy, Cond.code yX1_marginBy cX1_marginBy 13 (some .int), Cond.constantLong RX1 54 (-1), Cond.static yX2_bit, Cond.code yX2_bit cX2_bit 1 (some .long), Cond.methodLink RX1 32 yX1_margin, Cond.instanceMethod yX1_margin, Cond.selects RX1 yX1_margin yX1_margin]
def wsL_bestCard_r5 : List Cond := [Cond.static yX2_beats, Cond.code yX2_beats cX2_beats 3 (some .boolean), Cond.methodLink RX1 60 yX1_trickWorth, Cond.static yX1_trickWorth, Cond.code yX1_trickWorth cX1_trickWorth 5 (some .int), Cond.static yX2_worth, Cond.code yX2_worth cX2_worth 2 (some .int), Cond.methodLink RX1 64 yX1_rest, Cond.instanceMethod yX1_rest, Cond.selects RX1 yX1_rest yX1_rest, Cond.code yX1_margin cX1_margin 11 (some .int), Cond.methodLink RX1 44 Lib.Math.max.name, Cond.static Lib.Math.max.name, Cond.initialized "java/lang/Math", Cond.code Lib.Math.max.name Lib.Math.max.code 2 (some .int), Cond.code yX1_rest cX1_rest 10 (some .int), Cond.methodLink RX1 68 yX1_stateOf, Cond.instanceMethod yX1_stateOf, Cond.selects RX1 yX1_stateOf yX1_stateOf, Cond.code yX1_stateOf cX1_stateOf 8 (some .int), Cond.methodLink RX1 84 yX1_keptOf, Cond.static yX1_keptOf, Cond.code yX1_keptOf cX1_keptOf 10 (some .int)]
def wsL_bestCard : List Cond := .codeWith yL_bestCard cL_bestCard 3 (some .int) [(0, 8, 11, 15)] :: ((wsL_bestCard_r1 ++ (wsL_bestCard_r2 ++ (wsL_bestCard_r3 ++ (wsL_bestCard_r4 ++ wsL_bestCard_r5)))) ++ wsX20 ++ wsX10 ++ wsX00 ++ (vx_atS RX2 86 "java/lang/IllegalStateException" ["java/lang/RuntimeException", "java/lang/Exception"]).filter goodWord)
def wsL_law0_r1 : List Cond := [Cond.classLink RL 8 RX2, Cond.instantiable RX2 11, Cond.initialized RX2, Cond.classLink RL 55 RX3, Cond.instantiable RX3 15, Cond.initialized RX3, Cond.arrayClass .long, Cond.constantLong RL 58 (4294967295), Cond.methodLink RL 54 yX2_init, Cond.instanceMethod yX2_init, Cond.code yX2_init cX2_init 1 none, Cond.methodLink RX2 3 objectInit, Cond.instanceMethod objectInit, Cond.code objectInit ⟨#[0xb1]⟩ 1 none, Cond.arrayClass .int, Cond.fieldLink RX2 9 "ArchivistTricks" "row" "[I", Cond.classLink RX2 13 RX0, Cond.instantiable RX0 5, Cond.initialized RX0, Cond.fieldLink RX2 16 "ArchivistTricks" "first" "LArchivistTricks$Archivist;", Cond.fieldLink RX2 20 "ArchivistTricks" "second" "LArchivistTricks$Archivist;", Cond.fieldLink RX2 23 "ArchivistTricks" "drawn" "I", Cond.fieldLink RX2 27 "ArchivistTricks" "trumpProvenance" "I", Cond.fieldLink RX2 30 "ArchivistTricks" "ledCard" "I"]
def wsL_law0_r2 : List Cond := [Cond.fieldLink RX2 33 "ArchivistTricks" "mover" "I", Cond.fieldLink RX2 36 "ArchivistTricks" "firstWins" "I", Cond.fieldLink RX2 39 "ArchivistTricks" "secondWins" "I", Cond.fieldLink RX2 42 "ArchivistTricks" "ending" "LArchivistTricks$Ending;", Cond.fieldLink RX2 46 "ArchivistTricks" "endingBegun" "Z", Cond.instanceMethod yX0_init, Cond.code yX0_init cX0_init 1 none, Cond.methodLink RX0 3 objectInit, Cond.fieldLink RX0 9 "ArchivistTricks$Archivist" "hand" "J", Cond.fieldLink RX0 15 "ArchivistTricks$Archivist" "taken" "J", Cond.fieldLink RX0 18 "ArchivistTricks$Archivist" "points" "I", Cond.fieldLink RX0 22 "ArchivistTricks$Archivist" "tricks" "I", Cond.fieldLink RX0 25 "ArchivistTricks$Archivist" "gloves" "I", Cond.methodLink RL 57 yX3_init, Cond.instanceMethod yX3_init, Cond.code yX3_init cX3_init 1 none, Cond.methodLink RX3 1 objectInit, Cond.fieldLink RX3 7 "ArchivistTricksModel" "place" "[I", Cond.fieldLink RX3 13 "ArchivistTricksModel" "row" "[I", Cond.fieldLink RX3 16 "ArchivistTricksModel" "ledCard" "I", Cond.fieldLink RX3 20 "ArchivistTricksModel" "trumps" "I", Cond.fieldLink RX3 23 "ArchivistTricksModel" "points" "[I", Cond.fieldLink RX3 26 "ArchivistTricksModel" "tricks" "[I", Cond.fieldLink RX3 29 "ArchivistTricksModel" "gloves" "[I"]
def wsL_law0_r3 : List Cond := [Cond.fieldLink RX3 32 "ArchivistTricksModel" "wins" "[I", Cond.fieldLink RX3 35 "ArchivistTricksModel" "held" "[I", Cond.fieldLink RX3 38 "ArchivistTricksModel" "worthOf" "[I", Cond.methodLink RL 60 yX2_deal, Cond.instanceMethod yX2_deal, Cond.selects RX2 yX2_deal yX2_deal, Cond.code yX2_deal cX2_deal 4 (some .int), Cond.methodLink RX2 50 yX2_shuffle, Cond.instanceMethod yX2_shuffle, Cond.selects RX2 yX2_shuffle yX2_shuffle, Cond.code yX2_shuffle cX2_shuffle 6 none, Cond.constantLong RX2 174 (6364136223846793005), Cond.constantLong RX2 176 (1442695040888963407), Cond.methodLink RX2 178 yX2_exchange, Cond.instanceMethod yX2_exchange, Cond.selects RX2 yX2_exchange yX2_exchange, Cond.code yX2_exchange cX2_exchange 4 none, Cond.methodLink RX2 54 yX2_putTurnedUpLast, Cond.instanceMethod yX2_putTurnedUpLast, Cond.selects RX2 yX2_putTurnedUpLast yX2_putTurnedUpLast, Cond.code yX2_putTurnedUpLast cX2_putTurnedUpLast 2 none, Cond.methodLink RX2 182 arraycopyName, Cond.native arraycopyName, Cond.static arraycopyName]
def wsL_law0_r4 : List Cond := [Cond.initialized "java/lang/System", Cond.methodLink RX2 57 yX2_handFrom, Cond.instanceMethod yX2_handFrom, Cond.selects RX2 yX2_handFrom yX2_handFrom, Cond.code yX2_handFrom cX2_handFrom 5 (some .long), Cond.methodLink RX2 95 yX2_bit, Cond.static yX2_bit, Cond.code yX2_bit cX2_bit 1 (some .long), Cond.methodLink RX2 61 yX0_begin, Cond.instanceMethod yX0_begin, Cond.selects RX0 yX0_begin yX0_begin, Cond.code yX0_begin cX0_begin 3 none, Cond.methodLink RX2 64 yX2_isMildew, Cond.static yX2_isMildew, Cond.code yX2_isMildew cX2_isMildew 1 (some .boolean), Cond.methodLink RL 64 yX3_deal, Cond.instanceMethod yX3_deal, Cond.selects RX3 yX3_deal yX3_deal, Cond.code yX3_deal cX3_deal 8 (some .int), Cond.fieldLink RX3 41 "ArchivistTricksModel" "thrown" "I", Cond.constantLong RX3 65 (6364136223846793005), Cond.constantLong RX3 67 (1442695040888963407), Cond.fieldLink RX3 62 "ArchivistTricksModel" "drawn" "I", Cond.fieldLink RX3 69 "ArchivistTricksModel" "turn" "I"]
def wsL_law0_r5 : List Cond := [Cond.fieldLink RX3 58 "ArchivistTricksModel" "isDealt" "Z", Cond.fieldLink RX3 72 "ArchivistTricksModel" "isOn" "Z", Cond.methodLink RX3 44 yX3_isMildew, Cond.static yX3_isMildew, Cond.code yX3_isMildew cX3_isMildew 1 (some .boolean), Cond.methodLink RX3 48 yX3_provenance, Cond.static yX3_provenance, Cond.code yX3_provenance cX3_provenance 1 (some .int), Cond.methodLink RL 65 yL_play, Cond.static yL_play, Cond.initialized RL, Cond.codeWith yL_play cL_play 4 (some .int) [(0, 9, 12, 13), (0, 9, 15, 15)], Cond.classLink RL 13 "java/lang/IllegalArgumentException", Cond.classLink RL 15 "java/lang/IllegalStateException", Cond.methodLink RL 7 yX2_play, Cond.instanceMethod yX2_play, Cond.selects RX2 yX2_play yX2_play, Cond.code yX2_play cX2_play 3 (some .int), Cond.classLink RX2 71 "java/lang/IllegalArgumentException", Cond.initialized "java/lang/IllegalArgumentException", Cond.classLink RX2 82 "java/lang/IllegalStateException", Cond.initialized "java/lang/IllegalStateException", Cond.fieldLink RX2 91 "ArchivistTricks$Archivist" "hand" "J", Cond.constantLong RX2 98 (-1)]
def wsL_law0_r6 : List Cond := [Cond.methodLink RX2 68 yX2_isCard, Cond.static yX2_isCard, Cond.code yX2_isCard cX2_isCard 1 (some .boolean), Cond.methodLink RX2 78 yX2_reasonAgainst, Cond.instanceMethod yX2_reasonAgainst, Cond.selects RX2 yX2_reasonAgainst yX2_reasonAgainst, Cond.code yX2_reasonAgainst cX2_reasonAgainst 4 (some .int), Cond.methodLink RX2 154 yX2_moversHand, Cond.instanceMethod yX2_moversHand, Cond.selects RX2 yX2_moversHand yX2_moversHand, Cond.code yX2_moversHand cX2_moversHand 1 (some .long), Cond.methodLink RX2 87 yX2_archivist, Cond.instanceMethod yX2_archivist, Cond.selects RX2 yX2_archivist yX2_archivist, Cond.code yX2_archivist cX2_archivist 2 (some (.object "ArchivistTricks$Archivist")), Cond.methodLink RX2 124 yX2_has, Cond.static yX2_has, Cond.code yX2_has cX2_has 3 (some .boolean), Cond.methodLink RX2 188 yX2_reasonAgainstLeading, Cond.static yX2_reasonAgainstLeading, Cond.code yX2_reasonAgainstLeading cX2_reasonAgainstLeading 3 (some .int), Cond.constantLong RX2 220 (1099511627775), Cond.methodLink RX2 192 yX2_reasonAgainstReplying, Cond.static yX2_reasonAgainstReplying]
def wsL_law0_r7 : List Cond := [Cond.code yX2_reasonAgainstReplying cX2_reasonAgainstReplying 9 (some .int), Cond.methodLink RX2 222 yX2_allOf, Cond.static yX2_allOf, Cond.code yX2_allOf cX2_allOf 1 (some .long), Cond.constantLong RX2 218 (1023), Cond.methodLink RX2 100 yX2_finishTrick, Cond.instanceMethod yX2_finishTrick, Cond.selects RX2 yX2_finishTrick yX2_finishTrick, Cond.code yX2_finishTrick cX2_finishTrick 5 (some .int), Cond.fieldLink RX2 105 "ArchivistTricks$Archivist" "gloves" "I", Cond.fieldLink RX2 133 "ArchivistTricks$Archivist" "points" "I", Cond.fieldLink RX2 136 "ArchivistTricks$Archivist" "tricks" "I", Cond.fieldLink RX2 130 "ArchivistTricks$Archivist" "taken" "J", Cond.methodLink RX2 141 yX2_takerBy, Cond.instanceMethod yX2_takerBy, Cond.selects RX2 yX2_takerBy yX2_takerBy, Cond.code yX2_takerBy cX2_takerBy 2 (some .int), Cond.methodLink RX2 196 yX2_beats, Cond.static yX2_beats, Cond.code yX2_beats cX2_beats 3 (some .boolean), Cond.methodLink RX2 200 yX2_worth, Cond.static yX2_worth, Cond.code yX2_worth cX2_worth 2 (some .int), Cond.methodLink RX2 204 yX0_loseWornGloves]
def wsL_law0_r8 : List Cond := [Cond.instanceMethod yX0_loseWornGloves, Cond.selects RX0 yX0_loseWornGloves yX0_loseWornGloves, Cond.code yX0_loseWornGloves cX0_loseWornGloves 1 none, Cond.methodLink RX2 207 yX2_drawFor, Cond.instanceMethod yX2_drawFor, Cond.selects RX2 yX2_drawFor yX2_drawFor, Cond.code yX2_drawFor cX2_drawFor 2 none, Cond.methodLink RX2 211 yX2_endGame, Cond.instanceMethod yX2_endGame, Cond.selects RX2 yX2_endGame yX2_endGame, Cond.code yX2_endGame cX2_endGame 1 none, Cond.methodLink RL 70 yX3_play, Cond.instanceMethod yX3_play, Cond.selects RX3 yX3_play yX3_play, Cond.code yX3_play cX3_play 2 (some .int), Cond.methodLink RX3 100 yX3_isCard, Cond.static yX3_isCard, Cond.code yX3_isCard cX3_isCard 1 (some .boolean), Cond.methodLink RX3 103 yX3_why, Cond.instanceMethod yX3_why, Cond.selects RX3 yX3_why yX3_why, Cond.code yX3_why cX3_why 2 (some .int), Cond.methodLink RX3 79 yX3_hasDated, Cond.instanceMethod yX3_hasDated]
def wsL_law0_r9 : List Cond := [Cond.selects RX3 yX3_hasDated yX3_hasDated, Cond.code yX3_hasDated cX3_hasDated 2 (some .boolean), Cond.methodLink RX3 75 yX3_hasOf, Cond.instanceMethod yX3_hasOf, Cond.selects RX3 yX3_hasOf yX3_hasOf, Cond.code yX3_hasOf cX3_hasOf 5 (some .boolean), Cond.methodLink RX3 82 yX3_inPile, Cond.instanceMethod yX3_inPile, Cond.selects RX3 yX3_inPile yX3_inPile, Cond.code yX3_inPile cX3_inPile 1 (some .int), Cond.methodLink RX3 55 yX3_isTrump, Cond.instanceMethod yX3_isTrump, Cond.selects RX3 yX3_isTrump yX3_isTrump, Cond.code yX3_isTrump cX3_isTrump 2 (some .boolean), Cond.methodLink RX3 106 yX3_ends, Cond.instanceMethod yX3_ends, Cond.selects RX3 yX3_ends yX3_ends, Cond.code yX3_ends cX3_ends 6 (some .int), Cond.methodLink RX3 86 yX3_takes, Cond.instanceMethod yX3_takes, Cond.selects RX3 yX3_takes yX3_takes, Cond.code yX3_takes cX3_takes 3 (some .boolean), Cond.methodLink RX3 89 yX3_worthTo, Cond.static yX3_worthTo]
def wsL_law0_r10 : List Cond := [Cond.code yX3_worthTo cX3_worthTo 2 (some .int), Cond.methodLink RX3 52 yX3_worth, Cond.static yX3_worth, Cond.code yX3_worth cX3_worth 1 (some .int), Cond.methodLink RX3 93 yX3_draws, Cond.instanceMethod yX3_draws, Cond.selects RX3 yX3_draws yX3_draws, Cond.code yX3_draws cX3_draws 2 none, Cond.methodLink RX3 97 yX3_howMany, Cond.instanceMethod yX3_howMany, Cond.selects RX3 yX3_howMany yX3_howMany, Cond.code yX3_howMany cX3_howMany 4 (some .int), Cond.methodLink RL 71 yX3_thrown, Cond.instanceMethod yX3_thrown, Cond.selects RX3 yX3_thrown yX3_thrown, Cond.code yX3_thrown cX3_thrown 1 (some .int), Cond.methodLink RL 74 yL_putOnGloves, Cond.static yL_putOnGloves, Cond.codeWith yL_putOnGloves cL_putOnGloves 3 (some .int) [(0, 8, 11, 15)], Cond.methodLink RL 17 yX2_putOnGloves, Cond.instanceMethod yX2_putOnGloves, Cond.selects RX2 yX2_putOnGloves yX2_putOnGloves, Cond.code yX2_putOnGloves cX2_putOnGloves 2 (some .int), Cond.methodLink RL 77 yX3_putOnGloves]
def wsL_law0_r11 : List Cond := [Cond.instanceMethod yX3_putOnGloves, Cond.selects RX3 yX3_putOnGloves yX3_putOnGloves, Cond.code yX3_putOnGloves cX3_putOnGloves 1 (some .int), Cond.methodLink RL 78 yL_whyNot, Cond.static yL_whyNot, Cond.codeWith yL_whyNot cL_whyNot 4 (some .int) [(0, 9, 12, 13)], Cond.methodLink RL 21 yX2_whyNot, Cond.instanceMethod yX2_whyNot, Cond.selects RX2 yX2_whyNot yX2_whyNot, Cond.code yX2_whyNot cX2_whyNot 2 (some .int), Cond.methodLink RL 80 yX3_whyNot, Cond.instanceMethod yX3_whyNot, Cond.selects RX3 yX3_whyNot yX3_whyNot, Cond.code yX3_whyNot cX3_whyNot 2 (some .int), Cond.methodLink RL 81 yX2_isPlaying, Cond.instanceMethod yX2_isPlaying, Cond.selects RX2 yX2_isPlaying yX2_isPlaying, Cond.code yX2_isPlaying cX2_isPlaying 1 (some .boolean), Cond.methodLink RL 85 yX3_isPlaying, Cond.instanceMethod yX3_isPlaying, Cond.selects RX3 yX3_isPlaying yX3_isPlaying, Cond.code yX3_isPlaying cX3_isPlaying 1 (some .boolean), Cond.methodLink RL 86 yX2_turn, Cond.instanceMethod yX2_turn]
def wsL_law0_r12 : List Cond := [Cond.selects RX2 yX2_turn yX2_turn, Cond.code yX2_turn cX2_turn 1 (some .int), Cond.methodLink RL 89 yX3_turn, Cond.instanceMethod yX3_turn, Cond.selects RX3 yX3_turn yX3_turn, Cond.code yX3_turn cX3_turn 1 (some .int), Cond.methodLink RL 90 yX2_led, Cond.instanceMethod yX2_led, Cond.selects RX2 yX2_led yX2_led, Cond.code yX2_led cX2_led 1 (some .int), Cond.methodLink RL 93 yX3_led, Cond.instanceMethod yX3_led, Cond.selects RX3 yX3_led yX3_led, Cond.code yX3_led cX3_led 1 (some .int), Cond.methodLink RL 94 yX2_trumps, Cond.instanceMethod yX2_trumps, Cond.selects RX2 yX2_trumps yX2_trumps, Cond.code yX2_trumps cX2_trumps 1 (some .int), Cond.methodLink RL 97 yX3_trumps, Cond.instanceMethod yX3_trumps, Cond.selects RX3 yX3_trumps yX3_trumps, Cond.code yX3_trumps cX3_trumps 1 (some .int), Cond.methodLink RL 98 yX2_pile, Cond.instanceMethod yX2_pile]
def wsL_law0_r13 : List Cond := [Cond.selects RX2 yX2_pile yX2_pile, Cond.code yX2_pile cX2_pile 1 (some .int), Cond.methodLink RL 101 yX3_pile, Cond.instanceMethod yX3_pile, Cond.selects RX3 yX3_pile yX3_pile, Cond.code yX3_pile cX3_pile 1 (some .int), Cond.methodLink RL 102 yL_cards, Cond.static yL_cards, Cond.codeWith yL_cards cL_cards 4 (some .int) [(0, 9, 12, 27)], Cond.classLink RL 27 "java/lang/IndexOutOfBoundsException", Cond.methodLink RL 24 yX2_cards, Cond.instanceMethod yX2_cards, Cond.selects RX2 yX2_cards yX2_cards, Cond.code yX2_cards cX2_cards 2 (some .int), Cond.classLink RX2 113 "java/lang/IndexOutOfBoundsException", Cond.initialized "java/lang/IndexOutOfBoundsException", Cond.methodLink RX2 110 yX2_isArchivist, Cond.static yX2_isArchivist, Cond.code yX2_isArchivist cX2_isArchivist 1 (some .boolean), Cond.methodLink RX2 118 yJ13_bitCount_95d88, Cond.static yJ13_bitCount_95d88, Cond.initialized RJ13, Cond.code yJ13_bitCount_95d88 cJ13_bitCount_95d88 2 (some .int), Cond.constantLong RJ13 314 (6148914691236517205)]
def wsL_law0_r14 : List Cond := [Cond.constantLong RJ13 316 (3689348814741910323), Cond.constantLong RJ13 318 (1085102592571150095), Cond.methodLink RL 104 yX3_cards, Cond.instanceMethod yX3_cards, Cond.selects RX3 yX3_cards yX3_cards, Cond.code yX3_cards cX3_cards 2 (some .int), Cond.methodLink RX3 109 yX3_isArchivist, Cond.static yX3_isArchivist, Cond.code yX3_isArchivist cX3_isArchivist 1 (some .boolean), Cond.methodLink RL 105 yL_cardAt, Cond.static yL_cardAt, Cond.codeWith yL_cardAt cL_cardAt 5 (some .int) [(0, 10, 13, 27)], Cond.methodLink RL 29 yX2_cardAt, Cond.instanceMethod yX2_cardAt, Cond.selects RX2 yX2_cardAt yX2_cardAt, Cond.code yX2_cardAt cX2_cardAt 7 (some .int), Cond.methodLink RL 108 yX3_cardAt, Cond.instanceMethod yX3_cardAt, Cond.selects RX3 yX3_cardAt yX3_cardAt, Cond.code yX3_cardAt cX3_cardAt 5 (some .int), Cond.methodLink RL 109 yL_placeOf, Cond.static yL_placeOf, Cond.codeWith yL_placeOf cL_placeOf 4 (some .int) [(0, 9, 12, 13)], Cond.methodLink RL 33 yX2_placeOf]
def wsL_law0_r15 : List Cond := [Cond.instanceMethod yX2_placeOf, Cond.selects RX2 yX2_placeOf yX2_placeOf, Cond.code yX2_placeOf cX2_placeOf 2 (some .int), Cond.methodLink RL 111 yX3_placeOf, Cond.instanceMethod yX3_placeOf, Cond.selects RX3 yX3_placeOf yX3_placeOf, Cond.code yX3_placeOf cX3_placeOf 2 (some .int), Cond.methodLink RL 112 yL_points, Cond.static yL_points, Cond.codeWith yL_points cL_points 4 (some .int) [(0, 9, 12, 27)], Cond.methodLink RL 36 yX2_points, Cond.instanceMethod yX2_points, Cond.selects RX2 yX2_points yX2_points, Cond.code yX2_points cX2_points 2 (some .int), Cond.methodLink RL 114 yX3_points, Cond.instanceMethod yX3_points, Cond.selects RX3 yX3_points yX3_points, Cond.code yX3_points cX3_points 2 (some .int), Cond.methodLink RX3 112 yX3_of, Cond.instanceMethod yX3_of, Cond.selects RX3 yX3_of yX3_of, Cond.code yX3_of cX3_of 3 (some .int), Cond.methodLink RL 115 yL_tricks, Cond.static yL_tricks]
def wsL_law0_r16 : List Cond := [Cond.codeWith yL_tricks cL_tricks 4 (some .int) [(0, 9, 12, 27)], Cond.methodLink RL 39 yX2_tricks, Cond.instanceMethod yX2_tricks, Cond.selects RX2 yX2_tricks yX2_tricks, Cond.code yX2_tricks cX2_tricks 2 (some .int), Cond.methodLink RL 117 yX3_tricks, Cond.instanceMethod yX3_tricks, Cond.selects RX3 yX3_tricks yX3_tricks, Cond.code yX3_tricks cX3_tricks 2 (some .int), Cond.methodLink RL 118 yL_gloves, Cond.static yL_gloves, Cond.codeWith yL_gloves cL_gloves 4 (some .int) [(0, 9, 12, 27)], Cond.methodLink RL 42 yX2_gloves, Cond.instanceMethod yX2_gloves, Cond.selects RX2 yX2_gloves yX2_gloves, Cond.code yX2_gloves cX2_gloves 2 (some .int), Cond.methodLink RL 120 yX3_gloves, Cond.instanceMethod yX3_gloves, Cond.selects RX3 yX3_gloves yX3_gloves, Cond.code yX3_gloves cX3_gloves 2 (some .int), Cond.methodLink RL 121 yX2_choices, Cond.instanceMethod yX2_choices, Cond.selects RX2 yX2_choices yX2_choices, Cond.code yX2_choices cX2_choices 3 (some .int)]
def wsL_law0_r17 : List Cond := [Cond.methodLink RL 124 yX3_choices, Cond.instanceMethod yX3_choices, Cond.selects RX3 yX3_choices yX3_choices, Cond.code yX3_choices cX3_choices 3 (some .int), Cond.methodLink RL 125 yL_wouldTake, Cond.static yL_wouldTake, Cond.codeWith yL_wouldTake cL_wouldTake 4 (some .int) [(0, 9, 12, 13), (0, 9, 15, 15)], Cond.methodLink RL 45 yX2_wouldTake, Cond.instanceMethod yX2_wouldTake, Cond.selects RX2 yX2_wouldTake yX2_wouldTake, Cond.code yX2_wouldTake cX2_wouldTake 2 (some .int), Cond.methodLink RL 127 yX3_wouldTake, Cond.instanceMethod yX3_wouldTake, Cond.selects RX3 yX3_wouldTake yX3_wouldTake, Cond.code yX3_wouldTake cX3_wouldTake 2 (some .int), Cond.methodLink RL 128 yL_best, Cond.static yL_best, Cond.codeWith yL_best cL_best 3 (some .int) [(0, 8, 11, 15)], Cond.methodLink RL 48 yX2_best, Cond.instanceMethod yX2_best, Cond.selects RX2 yX2_best yX2_best, Cond.code yX2_best cX2_best 1 (some .int), Cond.methodLink RX2 144 yX2_isEnding, Cond.instanceMethod yX2_isEnding]
def wsL_law0_r18 : List Cond := [Cond.selects RX2 yX2_isEnding yX2_isEnding, Cond.code yX2_isEnding cX2_isEnding 1 (some .boolean), Cond.methodLink RX2 150 yX2_begunEnding, Cond.instanceMethod yX2_begunEnding, Cond.selects RX2 yX2_begunEnding yX2_begunEnding, Cond.code yX2_begunEnding cX2_begunEnding 1 (some (.object "ArchivistTricks$Ending")), Cond.classLink RX2 166 RX1, Cond.instantiable RX1 4, Cond.initialized RX1, Cond.instanceMethod yX1_init, Cond.code yX1_init cX1_init 1 none, Cond.methodLink RX1 3 objectInit, Cond.fieldLink RX1 9 "ArchivistTricks$Ending" "margins" "[I", Cond.fieldLink RX1 15 "ArchivistTricks$Ending" "firstAll" "J", Cond.fieldLink RX1 19 "ArchivistTricks$Ending" "secondAll" "J", Cond.fieldLink RX1 22 "ArchivistTricks$Ending" "trump" "I", Cond.methodLink RX2 215 yX1_begin, Cond.instanceMethod yX1_begin, Cond.selects RX1 yX1_begin yX1_begin, Cond.code yX1_begin cX1_begin 6 none, Cond.methodLink RX1 26 yJ7_fill_53178, Cond.static yJ7_fill_53178, Cond.initialized RJ7, Cond.code yJ7_fill_53178 cJ7_fill_53178 4 none]
def wsL_law0_r19 : List Cond := [Cond.methodLink RX2 158 yX2_othersHand, Cond.instanceMethod yX2_othersHand, Cond.selects RX2 yX2_othersHand yX2_othersHand, Cond.code yX2_othersHand cX2_othersHand 1 (some .long), Cond.methodLink RX2 161 yX2_glovesWorn, Cond.instanceMethod yX2_glovesWorn, Cond.selects RX2 yX2_glovesWorn yX2_glovesWorn, Cond.code yX2_glovesWorn cX2_glovesWorn 1 (some .int), Cond.methodLink RX2 165 yX1_bestMargin, Cond.instanceMethod yX1_bestMargin, Cond.selects RX1 yX1_bestMargin yX1_bestMargin, Cond.code yX1_bestMargin cX1_bestMargin 8 (some .int), Cond.methodLink RX1 32 yX1_margin, Cond.instanceMethod yX1_margin, Cond.selects RX1 yX1_margin yX1_margin, Cond.code yX1_margin cX1_margin 11 (some .int), Cond.methodLink RX1 44 Lib.Math.max.name, Cond.static Lib.Math.max.name, Cond.initialized "java/lang/Math", Cond.code Lib.Math.max.name Lib.Math.max.code 2 (some .int), Cond.methodLink RX1 36 yX1_mayPlay, Cond.instanceMethod yX1_mayPlay, Cond.selects RX1 yX1_mayPlay yX1_mayPlay, Cond.code yX1_mayPlay cX1_mayPlay 6 (some .boolean)]
def wsL_law0_r20 : List Cond := [Cond.methodLink RX1 40 yX1_marginBy, Cond.instanceMethod yX1_marginBy, Cond.selects RX1 yX1_marginBy yX1_marginBy, Cond.code yX1_marginBy cX1_marginBy 13 (some .int), Cond.constantLong RX1 54 (-1), Cond.methodLink RX1 60 yX1_trickWorth, Cond.static yX1_trickWorth, Cond.code yX1_trickWorth cX1_trickWorth 5 (some .int), Cond.methodLink RX1 64 yX1_rest, Cond.instanceMethod yX1_rest, Cond.selects RX1 yX1_rest yX1_rest, Cond.code yX1_rest cX1_rest 10 (some .int), Cond.methodLink RX1 68 yX1_stateOf, Cond.instanceMethod yX1_stateOf, Cond.selects RX1 yX1_stateOf yX1_stateOf, Cond.code yX1_stateOf cX1_stateOf 8 (some .int), Cond.methodLink RX1 84 yX1_keptOf, Cond.static yX1_keptOf, Cond.code yX1_keptOf cX1_keptOf 10 (some .int), Cond.methodLink RL 130 yX3_best, Cond.instanceMethod yX3_best, Cond.selects RX3 yX3_best yX3_best, Cond.code yX3_best cX3_best 2 (some .int), Cond.methodLink RX3 158 yX3_bestPlace]
def wsL_law0_r21 : List Cond := [Cond.instanceMethod yX3_bestPlace, Cond.selects RX3 yX3_bestPlace yX3_bestPlace, Cond.code yX3_bestPlace cX3_bestPlace 6 (some .int), Cond.methodLink RX3 152 yX3_laysTable, Cond.instanceMethod yX3_laysTable, Cond.selects RX3 yX3_laysTable yX3_laysTable, Cond.code yX3_laysTable cX3_laysTable 5 none, Cond.methodLink RX3 139 yX3_laysHands, Cond.instanceMethod yX3_laysHands, Cond.selects RX3 yX3_laysHands yX3_laysHands, Cond.code yX3_laysHands cX3_laysHands 4 none, Cond.methodLink RX3 142 yX3_many, Cond.static yX3_many, Cond.code yX3_many cX3_many 3 (some .int), Cond.methodLink RX3 145 yX3_mostOf, Cond.instanceMethod yX3_mostOf, Cond.selects RX3 yX3_mostOf yX3_mostOf, Cond.code yX3_mostOf cX3_mostOf 8 (some .int), Cond.methodLink RX3 132 yX3_canLead, Cond.instanceMethod yX3_canLead, Cond.selects RX3 yX3_canLead yX3_canLead, Cond.code yX3_canLead cX3_canLead 4 (some .boolean), Cond.methodLink RX3 116 yX3_isAmong, Cond.instanceMethod yX3_isAmong]
def wsL_law0_r22 : List Cond := [Cond.selects RX3 yX3_isAmong yX3_isAmong, Cond.code yX3_isAmong cX3_isAmong 7 (some .boolean), Cond.methodLink RX3 135 yX3_leastBy, Cond.instanceMethod yX3_leastBy, Cond.selects RX3 yX3_leastBy yX3_leastBy, Cond.code yX3_leastBy cX3_leastBy 11 (some .int), Cond.methodLink RX3 124 yX3_canFollow, Cond.instanceMethod yX3_canFollow, Cond.selects RX3 yX3_canFollow yX3_canFollow, Cond.code yX3_canFollow cX3_canFollow 5 (some .boolean), Cond.methodLink RX3 128 yX3_behind, Cond.instanceMethod yX3_behind, Cond.selects RX3 yX3_behind yX3_behind, Cond.code yX3_behind cX3_behind 11 (some .int), Cond.methodLink RX3 120 yX3_tableAt, Cond.instanceMethod yX3_tableAt, Cond.selects RX3 yX3_tableAt yX3_tableAt, Cond.code yX3_tableAt cX3_tableAt 4 (some .int), Cond.methodLink RX3 155 yX3_byCard, Cond.instanceMethod yX3_byCard, Cond.selects RX3 yX3_byCard yX3_byCard, Cond.code yX3_byCard cX3_byCard 4 (some .int), Cond.methodLink RX3 149 yX3_wornNow, Cond.instanceMethod yX3_wornNow]
def wsL_law0_r23 : List Cond := [Cond.selects RX3 yX3_wornNow yX3_wornNow, Cond.code yX3_wornNow cX3_wornNow 1 (some .int), Cond.methodLink RL 131 yL_bestCard, Cond.static yL_bestCard, Cond.codeWith yL_bestCard cL_bestCard 3 (some .int) [(0, 8, 11, 15)], Cond.methodLink RL 51 yX2_bestCard, Cond.instanceMethod yX2_bestCard, Cond.selects RX2 yX2_bestCard yX2_bestCard, Cond.code yX2_bestCard cX2_bestCard 1 (some .int), Cond.methodLink RX2 171 yX1_lowestBestCard, Cond.instanceMethod yX1_lowestBestCard, Cond.selects RX1 yX1_lowestBestCard yX1_lowestBestCard, Cond.code yX1_lowestBestCard cX1_lowestBestCard 12 (some .int), Cond.methodLink RL 133 yX3_bestCard, Cond.instanceMethod yX3_bestCard, Cond.selects RX3 yX3_bestCard yX3_bestCard, Cond.code yX3_bestCard cX3_bestCard 2 (some .int), Cond.methodLink RL 134 yX2_wonByFirst, Cond.instanceMethod yX2_wonByFirst, Cond.selects RX2 yX2_wonByFirst yX2_wonByFirst, Cond.code yX2_wonByFirst cX2_wonByFirst 1 (some .int), Cond.methodLink RL 137 yX3_wonByFirst, Cond.instanceMethod yX3_wonByFirst, Cond.selects RX3 yX3_wonByFirst yX3_wonByFirst]
def wsL_law0_r24 : List Cond := [Cond.code yX3_wonByFirst cX3_wonByFirst 1 (some .int), Cond.methodLink RL 138 yX2_wonBySecond, Cond.instanceMethod yX2_wonBySecond, Cond.selects RX2 yX2_wonBySecond yX2_wonBySecond, Cond.code yX2_wonBySecond cX2_wonBySecond 1 (some .int), Cond.methodLink RL 141 yX3_wonBySecond, Cond.instanceMethod yX3_wonBySecond, Cond.selects RX3 yX3_wonBySecond yX3_wonBySecond, Cond.code yX3_wonBySecond cX3_wonBySecond 1 (some .int)]
def wsL_law0 : List Cond := (wsL_law0_r1 ++ (wsL_law0_r2 ++ (wsL_law0_r3 ++ (wsL_law0_r4 ++ (wsL_law0_r5 ++ (wsL_law0_r6 ++ (wsL_law0_r7 ++ (wsL_law0_r8 ++ (wsL_law0_r9 ++ (wsL_law0_r10 ++ (wsL_law0_r11 ++ (wsL_law0_r12 ++ (wsL_law0_r13 ++ (wsL_law0_r14 ++ (wsL_law0_r15 ++ (wsL_law0_r16 ++ (wsL_law0_r17 ++ (wsL_law0_r18 ++ (wsL_law0_r19 ++ (wsL_law0_r20 ++ (wsL_law0_r21 ++ (wsL_law0_r22 ++ (wsL_law0_r23 ++ wsL_law0_r24))))))))))))))))))))))) ++ wsX20 ++ wsX30 ++ wsX00 ++ wsX10 ++ ([] : List Cond)
def wsL_law : List Cond := wsL_law0 ++ (vx_atS RX2 75 "java/lang/IllegalArgumentException" ["java/lang/RuntimeException", "java/lang/Exception"]).filter goodWord ++ (vx_atS RX2 86 "java/lang/IllegalStateException" ["java/lang/RuntimeException", "java/lang/Exception"]).filter goodWord ++ (vx_atS RX2 117 "java/lang/IndexOutOfBoundsException" ["java/lang/RuntimeException", "java/lang/Exception"]).filter goodWord
abbrev vwCl : List vw_C := [(RX0, TX0, 5), (RX1, TX1, 4), (RX2, TX2, 11), (RX3, TX3, 15)]
