section
-- ===== PART A: goes FIRST, ahead of the names: the tables' words, and 'selects' of the private methods out of them =====
/-- a private method of a class that the tables say can be made, by its rows of tables_1 -/
def lw_okq (q : MethodName × Nat) : Prop := (q.1.cls ≠ "java/lang/invoke/MethodHandle" ∧ q.1.cls ≠ "java/lang/invoke/VarHandle") ∧ Cond.instantiable q.1.cls q.2 ∈ tables_1 ∧ Cond.privateMethod q.1 ∈ tables_1 ∧ Cond.instanceMethod q.1 ∈ tables_1
theorem lw_p0 : lw_okq (⟨"ArchivistTricks", "shuffle", "(J)V"⟩, 11) := ⟨⟨by decide +kernel, by decide +kernel⟩, List.mem_of_getElem? (i := 16) (by decide +kernel), List.mem_of_getElem? (i := 90) (by decide +kernel), List.mem_of_getElem? (i := 91) (by decide +kernel)⟩
theorem lw_p1 : lw_okq (⟨"ArchivistTricks", "putTurnedUpLast", "()V"⟩, 11) := ⟨⟨by decide +kernel, by decide +kernel⟩, List.mem_of_getElem? (i := 16) (by decide +kernel), List.mem_of_getElem? (i := 96) (by decide +kernel), List.mem_of_getElem? (i := 97) (by decide +kernel)⟩
theorem lw_p2 : lw_okq (⟨"ArchivistTricks", "handFrom", "(I)J"⟩, 11) := ⟨⟨by decide +kernel, by decide +kernel⟩, List.mem_of_getElem? (i := 16) (by decide +kernel), List.mem_of_getElem? (i := 103) (by decide +kernel), List.mem_of_getElem? (i := 104) (by decide +kernel)⟩
theorem lw_p3 : lw_okq (⟨"ArchivistTricks", "reasonAgainst", "(I)I"⟩, 11) := ⟨⟨by decide +kernel, by decide +kernel⟩, List.mem_of_getElem? (i := 16) (by decide +kernel), List.mem_of_getElem? (i := 141) (by decide +kernel), List.mem_of_getElem? (i := 142) (by decide +kernel)⟩
theorem lw_p4 : lw_okq (⟨"ArchivistTricks", "moversHand", "()J"⟩, 11) := ⟨⟨by decide +kernel, by decide +kernel⟩, List.mem_of_getElem? (i := 16) (by decide +kernel), List.mem_of_getElem? (i := 145) (by decide +kernel), List.mem_of_getElem? (i := 146) (by decide +kernel)⟩
theorem lw_p5 : lw_okq (⟨"ArchivistTricks", "archivist", "(I)LArchivistTricks$Archivist;"⟩, 11) := ⟨⟨by decide +kernel, by decide +kernel⟩, List.mem_of_getElem? (i := 16) (by decide +kernel), List.mem_of_getElem? (i := 149) (by decide +kernel), List.mem_of_getElem? (i := 150) (by decide +kernel)⟩
theorem lw_p6 : lw_okq (⟨"java/lang/Throwable", "fillInStackTrace", "(I)Ljava/lang/Throwable;"⟩, 6) := ⟨⟨by decide +kernel, by decide +kernel⟩, List.mem_of_getElem? (i := 225) (by decide +kernel), List.mem_of_getElem? (i := 223) (by decide +kernel), List.mem_of_getElem? (i := 224) (by decide +kernel)⟩
theorem lw_p7 : lw_okq (⟨"ArchivistTricks", "finishTrick", "(I)I"⟩, 11) := ⟨⟨by decide +kernel, by decide +kernel⟩, List.mem_of_getElem? (i := 16) (by decide +kernel), List.mem_of_getElem? (i := 272) (by decide +kernel), List.mem_of_getElem? (i := 273) (by decide +kernel)⟩
theorem lw_p8 : lw_okq (⟨"ArchivistTricks", "takerBy", "(I)I"⟩, 11) := ⟨⟨by decide +kernel, by decide +kernel⟩, List.mem_of_getElem? (i := 16) (by decide +kernel), List.mem_of_getElem? (i := 276) (by decide +kernel), List.mem_of_getElem? (i := 277) (by decide +kernel)⟩
theorem lw_p9 : lw_okq (⟨"ArchivistTricks", "drawFor", "(LArchivistTricks$Archivist;)V"⟩, 11) := ⟨⟨by decide +kernel, by decide +kernel⟩, List.mem_of_getElem? (i := 16) (by decide +kernel), List.mem_of_getElem? (i := 290) (by decide +kernel), List.mem_of_getElem? (i := 291) (by decide +kernel)⟩
theorem lw_p10 : lw_okq (⟨"ArchivistTricks", "endGame", "()V"⟩, 11) := ⟨⟨by decide +kernel, by decide +kernel⟩, List.mem_of_getElem? (i := 16) (by decide +kernel), List.mem_of_getElem? (i := 294) (by decide +kernel), List.mem_of_getElem? (i := 295) (by decide +kernel)⟩
theorem lw_p11 : lw_okq (⟨"ArchivistTricks", "isEnding", "()Z"⟩, 11) := ⟨⟨by decide +kernel, by decide +kernel⟩, List.mem_of_getElem? (i := 16) (by decide +kernel), List.mem_of_getElem? (i := 398) (by decide +kernel), List.mem_of_getElem? (i := 399) (by decide +kernel)⟩
theorem lw_p12 : lw_okq (⟨"ArchivistTricks", "begunEnding", "()LArchivistTricks$Ending;"⟩, 11) := ⟨⟨by decide +kernel, by decide +kernel⟩, List.mem_of_getElem? (i := 16) (by decide +kernel), List.mem_of_getElem? (i := 403) (by decide +kernel), List.mem_of_getElem? (i := 404) (by decide +kernel)⟩
theorem lw_p13 : lw_okq (⟨"ArchivistTricks", "othersHand", "()J"⟩, 11) := ⟨⟨by decide +kernel, by decide +kernel⟩, List.mem_of_getElem? (i := 16) (by decide +kernel), List.mem_of_getElem? (i := 433) (by decide +kernel), List.mem_of_getElem? (i := 434) (by decide +kernel)⟩
theorem lw_p14 : lw_okq (⟨"ArchivistTricks", "glovesWorn", "()I"⟩, 11) := ⟨⟨by decide +kernel, by decide +kernel⟩, List.mem_of_getElem? (i := 16) (by decide +kernel), List.mem_of_getElem? (i := 437) (by decide +kernel), List.mem_of_getElem? (i := 438) (by decide +kernel)⟩
theorem lw_p15 : lw_okq (⟨"ArchivistTricks$Ending", "margin", "(JJIIII)I"⟩, 4) := ⟨⟨by decide +kernel, by decide +kernel⟩, List.mem_of_getElem? (i := 407) (by decide +kernel), List.mem_of_getElem? (i := 445) (by decide +kernel), List.mem_of_getElem? (i := 446) (by decide +kernel)⟩
def lw_privs_1 : List (MethodName × Nat) := [(⟨"ArchivistTricks", "shuffle", "(J)V"⟩, 11), (⟨"ArchivistTricks", "putTurnedUpLast", "()V"⟩, 11), (⟨"ArchivistTricks", "handFrom", "(I)J"⟩, 11), (⟨"ArchivistTricks", "reasonAgainst", "(I)I"⟩, 11), (⟨"ArchivistTricks", "moversHand", "()J"⟩, 11), (⟨"ArchivistTricks", "archivist", "(I)LArchivistTricks$Archivist;"⟩, 11), (⟨"java/lang/Throwable", "fillInStackTrace", "(I)Ljava/lang/Throwable;"⟩, 6), (⟨"ArchivistTricks", "finishTrick", "(I)I"⟩, 11), (⟨"ArchivistTricks", "takerBy", "(I)I"⟩, 11), (⟨"ArchivistTricks", "drawFor", "(LArchivistTricks$Archivist;)V"⟩, 11), (⟨"ArchivistTricks", "endGame", "()V"⟩, 11), (⟨"ArchivistTricks", "isEnding", "()Z"⟩, 11), (⟨"ArchivistTricks", "begunEnding", "()LArchivistTricks$Ending;"⟩, 11), (⟨"ArchivistTricks", "othersHand", "()J"⟩, 11), (⟨"ArchivistTricks", "glovesWorn", "()I"⟩, 11), (⟨"ArchivistTricks$Ending", "margin", "(JJIIII)I"⟩, 4)]
theorem lw_r1 : ∀ q ∈ lw_privs_1, lw_okq q := List.forall_mem_cons.mpr ⟨lw_p0, List.forall_mem_cons.mpr ⟨lw_p1, List.forall_mem_cons.mpr ⟨lw_p2, List.forall_mem_cons.mpr ⟨lw_p3, List.forall_mem_cons.mpr ⟨lw_p4, List.forall_mem_cons.mpr ⟨lw_p5, List.forall_mem_cons.mpr ⟨lw_p6, List.forall_mem_cons.mpr ⟨lw_p7, List.forall_mem_cons.mpr ⟨lw_p8, List.forall_mem_cons.mpr ⟨lw_p9, List.forall_mem_cons.mpr ⟨lw_p10, List.forall_mem_cons.mpr ⟨lw_p11, List.forall_mem_cons.mpr ⟨lw_p12, List.forall_mem_cons.mpr ⟨lw_p13, List.forall_mem_cons.mpr ⟨lw_p14, List.forall_mem_cons.mpr ⟨lw_p15, fun _ h => absurd h List.not_mem_nil⟩⟩⟩⟩⟩⟩⟩⟩⟩⟩⟩⟩⟩⟩⟩⟩
theorem lw_p16 : lw_okq (⟨"ArchivistTricks$Ending", "mayPlay", "(JII)Z"⟩, 4) := ⟨⟨by decide +kernel, by decide +kernel⟩, List.mem_of_getElem? (i := 407) (by decide +kernel), List.mem_of_getElem? (i := 449) (by decide +kernel), List.mem_of_getElem? (i := 450) (by decide +kernel)⟩
theorem lw_p17 : lw_okq (⟨"ArchivistTricks$Ending", "marginBy", "(IJJIIII)I"⟩, 4) := ⟨⟨by decide +kernel, by decide +kernel⟩, List.mem_of_getElem? (i := 407) (by decide +kernel), List.mem_of_getElem? (i := 456) (by decide +kernel), List.mem_of_getElem? (i := 457) (by decide +kernel)⟩
theorem lw_p18 : lw_okq (⟨"ArchivistTricks$Ending", "rest", "(JJII)I"⟩, 4) := ⟨⟨by decide +kernel, by decide +kernel⟩, List.mem_of_getElem? (i := 407) (by decide +kernel), List.mem_of_getElem? (i := 467) (by decide +kernel), List.mem_of_getElem? (i := 468) (by decide +kernel)⟩
theorem lw_p19 : lw_okq (⟨"ArchivistTricks$Ending", "stateOf", "(JJI)I"⟩, 4) := ⟨⟨by decide +kernel, by decide +kernel⟩, List.mem_of_getElem? (i := 407) (by decide +kernel), List.mem_of_getElem? (i := 471) (by decide +kernel), List.mem_of_getElem? (i := 472) (by decide +kernel)⟩
theorem lw_p20 : lw_okq (⟨"ArchivistTricksModel", "why", "(I)I"⟩, 15) := ⟨⟨by decide +kernel, by decide +kernel⟩, List.mem_of_getElem? (i := 492) (by decide +kernel), List.mem_of_getElem? (i := 567) (by decide +kernel), List.mem_of_getElem? (i := 568) (by decide +kernel)⟩
theorem lw_p21 : lw_okq (⟨"ArchivistTricksModel", "hasDated", "(I)Z"⟩, 15) := ⟨⟨by decide +kernel, by decide +kernel⟩, List.mem_of_getElem? (i := 492) (by decide +kernel), List.mem_of_getElem? (i := 571) (by decide +kernel), List.mem_of_getElem? (i := 572) (by decide +kernel)⟩
theorem lw_p22 : lw_okq (⟨"ArchivistTricksModel", "hasOf", "(II)Z"⟩, 15) := ⟨⟨by decide +kernel, by decide +kernel⟩, List.mem_of_getElem? (i := 492) (by decide +kernel), List.mem_of_getElem? (i := 575) (by decide +kernel), List.mem_of_getElem? (i := 576) (by decide +kernel)⟩
theorem lw_p23 : lw_okq (⟨"ArchivistTricksModel", "inPile", "()I"⟩, 15) := ⟨⟨by decide +kernel, by decide +kernel⟩, List.mem_of_getElem? (i := 492) (by decide +kernel), List.mem_of_getElem? (i := 579) (by decide +kernel), List.mem_of_getElem? (i := 580) (by decide +kernel)⟩
theorem lw_p24 : lw_okq (⟨"ArchivistTricksModel", "isTrump", "(I)Z"⟩, 15) := ⟨⟨by decide +kernel, by decide +kernel⟩, List.mem_of_getElem? (i := 492) (by decide +kernel), List.mem_of_getElem? (i := 583) (by decide +kernel), List.mem_of_getElem? (i := 584) (by decide +kernel)⟩
theorem lw_p25 : lw_okq (⟨"ArchivistTricksModel", "ends", "(I)I"⟩, 15) := ⟨⟨by decide +kernel, by decide +kernel⟩, List.mem_of_getElem? (i := 492) (by decide +kernel), List.mem_of_getElem? (i := 587) (by decide +kernel), List.mem_of_getElem? (i := 588) (by decide +kernel)⟩
theorem lw_p26 : lw_okq (⟨"ArchivistTricksModel", "takes", "(II)Z"⟩, 15) := ⟨⟨by decide +kernel, by decide +kernel⟩, List.mem_of_getElem? (i := 492) (by decide +kernel), List.mem_of_getElem? (i := 591) (by decide +kernel), List.mem_of_getElem? (i := 592) (by decide +kernel)⟩
theorem lw_p27 : lw_okq (⟨"ArchivistTricksModel", "draws", "(I)V"⟩, 15) := ⟨⟨by decide +kernel, by decide +kernel⟩, List.mem_of_getElem? (i := 492) (by decide +kernel), List.mem_of_getElem? (i := 601) (by decide +kernel), List.mem_of_getElem? (i := 602) (by decide +kernel)⟩
theorem lw_p28 : lw_okq (⟨"ArchivistTricksModel", "howMany", "(I)I"⟩, 15) := ⟨⟨by decide +kernel, by decide +kernel⟩, List.mem_of_getElem? (i := 492) (by decide +kernel), List.mem_of_getElem? (i := 605) (by decide +kernel), List.mem_of_getElem? (i := 606) (by decide +kernel)⟩
theorem lw_p29 : lw_okq (⟨"ArchivistTricksModel", "of", "([II)I"⟩, 15) := ⟨⟨by decide +kernel, by decide +kernel⟩, List.mem_of_getElem? (i := 492) (by decide +kernel), List.mem_of_getElem? (i := 656) (by decide +kernel), List.mem_of_getElem? (i := 657) (by decide +kernel)⟩
theorem lw_p30 : lw_okq (⟨"ArchivistTricksModel", "bestPlace", "()I"⟩, 15) := ⟨⟨by decide +kernel, by decide +kernel⟩, List.mem_of_getElem? (i := 492) (by decide +kernel), List.mem_of_getElem? (i := 680) (by decide +kernel), List.mem_of_getElem? (i := 681) (by decide +kernel)⟩
theorem lw_p31 : lw_okq (⟨"ArchivistTricksModel", "laysTable", "()V"⟩, 15) := ⟨⟨by decide +kernel, by decide +kernel⟩, List.mem_of_getElem? (i := 492) (by decide +kernel), List.mem_of_getElem? (i := 684) (by decide +kernel), List.mem_of_getElem? (i := 685) (by decide +kernel)⟩
def lw_privs_2 : List (MethodName × Nat) := [(⟨"ArchivistTricks$Ending", "mayPlay", "(JII)Z"⟩, 4), (⟨"ArchivistTricks$Ending", "marginBy", "(IJJIIII)I"⟩, 4), (⟨"ArchivistTricks$Ending", "rest", "(JJII)I"⟩, 4), (⟨"ArchivistTricks$Ending", "stateOf", "(JJI)I"⟩, 4), (⟨"ArchivistTricksModel", "why", "(I)I"⟩, 15), (⟨"ArchivistTricksModel", "hasDated", "(I)Z"⟩, 15), (⟨"ArchivistTricksModel", "hasOf", "(II)Z"⟩, 15), (⟨"ArchivistTricksModel", "inPile", "()I"⟩, 15), (⟨"ArchivistTricksModel", "isTrump", "(I)Z"⟩, 15), (⟨"ArchivistTricksModel", "ends", "(I)I"⟩, 15), (⟨"ArchivistTricksModel", "takes", "(II)Z"⟩, 15), (⟨"ArchivistTricksModel", "draws", "(I)V"⟩, 15), (⟨"ArchivistTricksModel", "howMany", "(I)I"⟩, 15), (⟨"ArchivistTricksModel", "of", "([II)I"⟩, 15), (⟨"ArchivistTricksModel", "bestPlace", "()I"⟩, 15), (⟨"ArchivistTricksModel", "laysTable", "()V"⟩, 15)]
theorem lw_r2 : ∀ q ∈ lw_privs_2, lw_okq q := List.forall_mem_cons.mpr ⟨lw_p16, List.forall_mem_cons.mpr ⟨lw_p17, List.forall_mem_cons.mpr ⟨lw_p18, List.forall_mem_cons.mpr ⟨lw_p19, List.forall_mem_cons.mpr ⟨lw_p20, List.forall_mem_cons.mpr ⟨lw_p21, List.forall_mem_cons.mpr ⟨lw_p22, List.forall_mem_cons.mpr ⟨lw_p23, List.forall_mem_cons.mpr ⟨lw_p24, List.forall_mem_cons.mpr ⟨lw_p25, List.forall_mem_cons.mpr ⟨lw_p26, List.forall_mem_cons.mpr ⟨lw_p27, List.forall_mem_cons.mpr ⟨lw_p28, List.forall_mem_cons.mpr ⟨lw_p29, List.forall_mem_cons.mpr ⟨lw_p30, List.forall_mem_cons.mpr ⟨lw_p31, fun _ h => absurd h List.not_mem_nil⟩⟩⟩⟩⟩⟩⟩⟩⟩⟩⟩⟩⟩⟩⟩⟩
theorem lw_p32 : lw_okq (⟨"ArchivistTricksModel", "laysHands", "()V"⟩, 15) := ⟨⟨by decide +kernel, by decide +kernel⟩, List.mem_of_getElem? (i := 492) (by decide +kernel), List.mem_of_getElem? (i := 688) (by decide +kernel), List.mem_of_getElem? (i := 689) (by decide +kernel)⟩
theorem lw_p33 : lw_okq (⟨"ArchivistTricksModel", "mostOf", "(IIII)I"⟩, 15) := ⟨⟨by decide +kernel, by decide +kernel⟩, List.mem_of_getElem? (i := 492) (by decide +kernel), List.mem_of_getElem? (i := 695) (by decide +kernel), List.mem_of_getElem? (i := 696) (by decide +kernel)⟩
theorem lw_p34 : lw_okq (⟨"ArchivistTricksModel", "canLead", "(III)Z"⟩, 15) := ⟨⟨by decide +kernel, by decide +kernel⟩, List.mem_of_getElem? (i := 492) (by decide +kernel), List.mem_of_getElem? (i := 699) (by decide +kernel), List.mem_of_getElem? (i := 700) (by decide +kernel)⟩
theorem lw_p35 : lw_okq (⟨"ArchivistTricksModel", "isAmong", "(III)Z"⟩, 15) := ⟨⟨by decide +kernel, by decide +kernel⟩, List.mem_of_getElem? (i := 492) (by decide +kernel), List.mem_of_getElem? (i := 703) (by decide +kernel), List.mem_of_getElem? (i := 704) (by decide +kernel)⟩
theorem lw_p36 : lw_okq (⟨"ArchivistTricksModel", "leastBy", "(IIIII)I"⟩, 15) := ⟨⟨by decide +kernel, by decide +kernel⟩, List.mem_of_getElem? (i := 492) (by decide +kernel), List.mem_of_getElem? (i := 707) (by decide +kernel), List.mem_of_getElem? (i := 708) (by decide +kernel)⟩
theorem lw_p37 : lw_okq (⟨"ArchivistTricksModel", "canFollow", "(IIII)Z"⟩, 15) := ⟨⟨by decide +kernel, by decide +kernel⟩, List.mem_of_getElem? (i := 492) (by decide +kernel), List.mem_of_getElem? (i := 711) (by decide +kernel), List.mem_of_getElem? (i := 712) (by decide +kernel)⟩
theorem lw_p38 : lw_okq (⟨"ArchivistTricksModel", "behind", "(IIIIII)I"⟩, 15) := ⟨⟨by decide +kernel, by decide +kernel⟩, List.mem_of_getElem? (i := 492) (by decide +kernel), List.mem_of_getElem? (i := 715) (by decide +kernel), List.mem_of_getElem? (i := 716) (by decide +kernel)⟩
theorem lw_p39 : lw_okq (⟨"ArchivistTricksModel", "tableAt", "(III)I"⟩, 15) := ⟨⟨by decide +kernel, by decide +kernel⟩, List.mem_of_getElem? (i := 492) (by decide +kernel), List.mem_of_getElem? (i := 719) (by decide +kernel), List.mem_of_getElem? (i := 720) (by decide +kernel)⟩
theorem lw_p40 : lw_okq (⟨"ArchivistTricksModel", "byCard", "(I)I"⟩, 15) := ⟨⟨by decide +kernel, by decide +kernel⟩, List.mem_of_getElem? (i := 492) (by decide +kernel), List.mem_of_getElem? (i := 723) (by decide +kernel), List.mem_of_getElem? (i := 724) (by decide +kernel)⟩
theorem lw_p41 : lw_okq (⟨"ArchivistTricksModel", "wornNow", "()I"⟩, 15) := ⟨⟨by decide +kernel, by decide +kernel⟩, List.mem_of_getElem? (i := 492) (by decide +kernel), List.mem_of_getElem? (i := 727) (by decide +kernel), List.mem_of_getElem? (i := 728) (by decide +kernel)⟩
def lw_privs_3 : List (MethodName × Nat) := [(⟨"ArchivistTricksModel", "laysHands", "()V"⟩, 15), (⟨"ArchivistTricksModel", "mostOf", "(IIII)I"⟩, 15), (⟨"ArchivistTricksModel", "canLead", "(III)Z"⟩, 15), (⟨"ArchivistTricksModel", "isAmong", "(III)Z"⟩, 15), (⟨"ArchivistTricksModel", "leastBy", "(IIIII)I"⟩, 15), (⟨"ArchivistTricksModel", "canFollow", "(IIII)Z"⟩, 15), (⟨"ArchivistTricksModel", "behind", "(IIIIII)I"⟩, 15), (⟨"ArchivistTricksModel", "tableAt", "(III)I"⟩, 15), (⟨"ArchivistTricksModel", "byCard", "(I)I"⟩, 15), (⟨"ArchivistTricksModel", "wornNow", "()I"⟩, 15)]
theorem lw_r3 : ∀ q ∈ lw_privs_3, lw_okq q := List.forall_mem_cons.mpr ⟨lw_p32, List.forall_mem_cons.mpr ⟨lw_p33, List.forall_mem_cons.mpr ⟨lw_p34, List.forall_mem_cons.mpr ⟨lw_p35, List.forall_mem_cons.mpr ⟨lw_p36, List.forall_mem_cons.mpr ⟨lw_p37, List.forall_mem_cons.mpr ⟨lw_p38, List.forall_mem_cons.mpr ⟨lw_p39, List.forall_mem_cons.mpr ⟨lw_p40, List.forall_mem_cons.mpr ⟨lw_p41, fun _ h => absurd h List.not_mem_nil⟩⟩⟩⟩⟩⟩⟩⟩⟩⟩
def lw_privs : List (MethodName × Nat) := lw_privs_1 ++ (lw_privs_2 ++ (lw_privs_3))
def lw_tbl : List Cond := k2_sels lw_privs ++ tables_1
theorem lw_privs_ok : ∀ q ∈ lw_privs, lw_okq q := by
  show ∀ q ∈ lw_privs_1 ++ (lw_privs_2 ++ (lw_privs_3)), lw_okq q
  exact List.forall_mem_append.mpr ⟨lw_r1, List.forall_mem_append.mpr ⟨lw_r2, lw_r3⟩⟩

/-! ===== BEGIN words of one list among another's, by their places ===== -/
theorem goodIn_r {big : List Cond} (ws : List Cond) (ps : List Nat) (hp : ws = ps.filterMap (fun i => big[i]?)) (h : ws.all goodWord = true) : GoodIn big ws := by
  intro w hw
  have h1 := List.all_eq_true.mp h w hw
  rw [hp] at hw
  obtain ⟨i, -, hi⟩ := List.mem_filterMap.mp hw
  have hm : w ∈ big := by first | exact List.mem_of_getElem? hi | exact List.getElem?_mem hi
  exact ⟨hm, good_of_word h1⟩
theorem goodIn_app {big a b : List Cond} (ha : GoodIn big a) (hb : GoodIn big b) : GoodIn big (a ++ b) := fun w h => (List.mem_append.mp h).elim (ha w) (hb w)
theorem goodIn_ca {big a b : List Cond} {c : Cond} (ha : GoodIn big (c :: a)) (hb : GoodIn big b) : GoodIn big (c :: (a ++ b)) := fun w h => (List.mem_cons.mp h).elim (fun e => ha w (List.mem_cons.mpr (Or.inl e))) (fun h => (List.mem_append.mp h).elim (fun h => ha w (List.mem_cons.mpr (Or.inr h))) (hb w))
theorem goodIn_sub {big ws : List Cond} (hm : ∀ w ∈ ws, w ∈ big) (h : ws.all goodWord = true) : GoodIn big ws := fun w hw => ⟨hm w hw, good_of_word (List.all_eq_true.mp h w hw)⟩
/-! ===== END ===== -/

/-! ===== BEGIN exceptions that leave a method, and their catching by the caller (launches without stack traces) ===== -/
section VXA
/-! The laws vx_back, vx_callV, vx_callS, vx_callSW, vx_throw0, vx_throwS follow proofs of the library, with one case more: JvmDerived/Free/Laws.lean (Back.of_free), Shelf42/LK1.lean (callV, callS), Shelf/KitTraced.lean (throwNew0V, throwNewS). -/
/-- where a method has thrown q: the class by its name, the cell, what was written, the world -/
def vx_T (XC : String → State → State → Prop) (st : State) (q : Addr) (t : State) (mc ms : Nat) (free : Addr → Prop) : Prop :=
  ∃ (E : String) (ce : Cell) (L : List Loc), XC E st t ∧ t.heap[q]? = some ce ∧ ce.vm = .none ∧ st.vm.findClass E = some ce.cls ∧ st.WarmedH t.vm ∧ st.sameButNew ({ t with vm := st.vm } : State) L mc ms ∧ ∀ z ∈ L, free z.base
def vx_Q (Qc : Array Value → State → Outcome → State → Prop) (XC : String → State → State → Prop) (mc ms : Nat) (free : Addr → Prop) : Array Value → State → Outcome → State → Prop := fun a st o t =>
  (Qc a st o t ∧ ∃ L, FrameEnd st o t L mc ms ∧ ∀ q ∈ L, free q.base) ∨ ∃ q, o = .threw q ∧ vx_T XC st q t mc ms free
/-- a callee that returns or throws -/
def vx_Met (l : Launch) (y : MethodName) (ws : List Cond) (rm : Room) (Pc : Array Value → State → Prop) (Qc : Array Value → State → Outcome → State → Prop) (XC : String → State → State → Prop) (mc ms : Nat) (free : Addr → Prop) : Prop :=
  MetFree l y (headSpec ws rm) Pc (fun _ _ _ _ _ => True) (vx_Q Qc XC mc ms free)
def vx_Post (XC : String → State → State → Prop) (mc ms : Nat) (free : Addr → Prop) : Pt → Array Value → Addr → Pt → Prop := fun A a q B =>
  ∃ (g : JFrame) (mk : MethodId) (t : State) (L : List Loc) (E : String) (ce : Cell), B.U.heap = t.heap ∧ B.U.vm = t.vm ∧ XC E (A.U.calling g mk a) t ∧ t.heap[q]? = some ce ∧ ce.vm = .none ∧ A.U.vm.findClass E = some ce.cls ∧ B.locs = A.locs ++ L ∧ (∀ z ∈ L, free z.base) ∧ B.cells = A.cells + mc ∧ B.slots = A.slots + ms
def vx_Back (l : Launch) (R : Room) (p : Program) (e : Env) (below : List Frame) (s : State) (sargs : Array Value) (y : MethodName) (len W9 : Nat)
    (Pre : Pt → Array Value → Prop) (Post : Pt → Array Value → Option Value → Pt → Prop) (PostX : Pt → Array Value → Addr → Pt → Prop) : Prop :=
  ∀ (m : MethodId) (meth : Method) (c : Code) (A : Pt) (g : JFrame) (ig : Instr) (mk : MethodId) (a : Array Value),
    Stand p l e R s m sargs below meth c A.U A.locs A.cells A.slots → g.method = m → g.locals.size = c.maxLocals → decode c.code g.pc = .ok (ig, len) →
    2 * g.monitorRoom + (g.stack.map fun v => v.category).sum ≤ W9 → A.U.methodNamed? y = some mk → Pre A a →
    (∃ (v : Option Value) (B : Pt), Stand p l e R s m sargs below meth c B.U B.locs B.cells B.slots ∧ Post A a v B ∧
      Steps p.tables e below (doInvoke e (A.U.setTop g) [] mk a).1 (B.U.setTop { g with pc := g.pc + len, stack := v.toList ++ g.stack })) ∨
    (∃ (q : Addr) (B : Pt), Stand p l e R s m sargs below meth c B.U B.locs B.cells B.slots ∧ PostX A a q B ∧
      Steps p.tables e below (doInvoke e (A.U.setTop g) [] mk a).1 ((B.U.setTop g).pushFrame (.throwing q)))
section Payer
variable {l : Launch} {R : Room} {p : Program} {e : Env} {below : List Frame} {s : State} {sargs : Array Value} {y : MethodName} {len W9 : Nat}
theorem vx_back {ws : List Cond} {rm : Room} {Pc : Array Value → State → Prop} {Qc : Array Value → State → Outcome → State → Prop} {XC : String → State → State → Prop} {mc ms : Nat} {free : Addr → Prop} {bytes : ByteArray} {maxL : Nat} {ret : Option FieldType}
    (hM : vx_Met l y ws rm Pc Qc XC mc ms free) (hblind : FrameBlind Pc) (hrc : rm.cells = mc) (hrs : rm.slots = ms)
    (hframes : rm.frames + 1 ≤ R.frames) (hlocals : W9 + (maxL + 11) + rm.locals ≤ R.locals)
    (hws : ∀ w ∈ ws, ∀ a' U, s.WarmedH U.vm → w.before a' U = true) (hcode : Cond.code y bytes maxL ret ∈ ws) (hinit : ∀ a' U, s.WarmedH U.vm → (Cond.initialized y.cls).before a' U = true) :
    vx_Back l R p e below s sargs y len W9 (PreOf R mc ms Pc) (PostOf Qc mc ms free) (vx_Post XC mc ms free) := by
  intro m meth c A g ig mk a X hg hsize hdg hW hn hp
  have h1 : (headSpec ws rm).pre.before a A.U = true := atoms_intro fun w hw => hws w hw _ _ X.warmed
  have h2 : (Cond.code y bytes maxL ret).before a A.U = true := hws _ hcode _ _ X.warmed
  have h3 : (Cond.initialized y.cls).before a A.U = true := hinit _ _ X.warmed
  have h4 : A.cells + (headSpec ws rm).room.cells ≤ R.cells := by rw [show (headSpec ws rm).room.cells = mc from hrc]; exact hp.1
  have h5 : A.slots + (headSpec ws rm).room.slots ≤ R.slots := by rw [show (headSpec ws rm).room.slots = ms from hrs]; exact hp.2.1
  have hPc : Pc a (A.U.calling g mk a) := hblind _ _ _ _ hp.2.2
  obtain ⟨U, Ls, c0, s0⟩ := A
  dsimp only [Pt.U, Pt.locs, Pt.cells, Pt.slots] at h1 h2 h3 h4 h5 X hn hPc ⊢
  obtain ⟨methY, cY, hmY, hcY, -, hlY, -, -, -, -⟩ := Cond.code_spec hn h2
  obtain ⟨kY, hkY, -⟩ := className_of_methodNamed hn
  have hinitY : kY.init = .initialized := Cond.initialized_spec (findClass_of_methodNamed hn) hkY h3
  have h : At U g.method c below := by rw [hg]; exact X.here
  have hlocals9 : W9 + (maxL + 11) + (headSpec ws rm).room.locals ≤ R.locals := hlocals
  have happ : (headSpec ws rm).appliesLoose y e.platform (U.calling g mk a) = true :=
    Spec.appliesLoose_calling (g := g) h hdg hn hkY hinitY
      (X.room_calling (g := g) (R' := (headSpec ws rm).room) hsize hmY hcY hframes (by rw [hlY]; omega) h4 h5) h1
  obtain ⟨mid, hmid⟩ := h.above
  have hfr : (U.setTop g).frames = (.java g :: mid) ++ below := by rw [State.frames_setTop' g h.top, hmid]; rfl
  obtain ⟨o, s₂, hsteps, -, hend, hq⟩ := Steps.callFree hM p X.admits X.cas X.clock (acts := []) hfr happ hPc trivial
  have hq' : vx_Q Qc XC mc ms free a (U.calling g mk a) o s₂ := hq
  rw [State.frames_setTop' g h.top] at hend
  obtain ⟨g₀, hg0⟩ := Option.isSome_iff_exists.mp h.top
  obtain ⟨r, hr⟩ := State.topJava?_eq_some.mp hg0
  have hr' : (({ U with heap := s₂.heap, slotsUsed := s₂.slotsUsed } : State).setVm s₂.vm).frames = .java g₀ :: r := hr
  rcases hq' with ⟨hqc, L, hfe, hL⟩ | ⟨q, rfl, E, ce, L, hx, hce, hcv, hcl, hW₂, hsm, hL⟩
  · obtain ⟨⟨v, rfl⟩, hW₂, e2, q2, q3, q4, q5, q6⟩ := id hfe
    have e3 : s₂ = ({ (U.calling g mk a).setFrames s₂.frames with heap := s₂.heap, slotsUsed := s₂.slotsUsed } : State).setVm s₂.vm := by
      have : s₂ = ({ s₂ with vm := (U.calling g mk a).vm } : State).setVm s₂.vm := rfl
      rw [e2] at this
      exact this
    obtain ⟨c₂, i₂, len₂, hc₂, hd₂, hf₂⟩ := hend
    have hW' : U.WarmedH s₂.vm := hW₂
    have hcc : c₂ = c := by
      have h1 : s₂.code? g.method = U.code? g.method := by
        rw [State.code?_eq, State.code?_eq, hW'.alike.method?]
      exact Option.some.inj (hc₂.symm.trans (h1.trans h.code))
    subst hcc
    have hlen : len₂ = len := by rw [hdg] at hd₂; cases hd₂; rfl
    subst hlen
    have hs₂ : s₂ = (({ U with heap := s₂.heap, slotsUsed := s₂.slotsUsed } : State).setVm s₂.vm).setTop { g with pc := g.pc + len₂, stack := v.toList ++ g.stack } := by
      refine e3.trans ?_
      rw [hf₂, State.calling_eq h.top, State.setFrames_setFrames, State.setTop_of_frames _ hr', hr]
      rfl
    have hsame : U.sameButNew ({ U with heap := s₂.heap, slotsUsed := s₂.slotsUsed } : State) L mc ms := by
      refine ⟨?_, q2, q3, q4, q5, q6⟩
      obtain ⟨t, ht, -⟩ := State.frames_cons hr
      show ({ U with heap := s₂.heap, slotsUsed := s₂.slotsUsed } : State) = { U.setFrames U.frames with heap := s₂.heap, slotsUsed := s₂.slotsUsed }
      rw [State.setFrames_self ht]
    subst hg
    refine Or.inl ⟨v, ⟨(({ U with heap := s₂.heap, slotsUsed := s₂.slotsUsed } : State).setVm s₂.vm), Ls ++ L, c0 + mc, s0 + ms⟩,
      ⟨X.admits, X.cas, X.clock, X.frames, X.room, X.hears, X.method, X.code, (X.here.setHeapUsed s₂.heap s₂.slotsUsed).setVm hW'.alike, X.tail, State.WarmedH.trans X.warmed hW', X.limits, X.bytes, X.same.trans (hsame.setVm s.vm)⟩,
      ⟨g, mk, s₂, L, rfl, rfl, hqc, rfl, hL, rfl, rfl⟩, ?_⟩
    show Steps p.tables e below _ ((({ U with heap := s₂.heap, slotsUsed := s₂.slotsUsed } : State).setVm s₂.vm).setTop { g with pc := g.pc + len₂, stack := v.toList ++ g.stack })
    rw [← hs₂]
    exact hsteps
  · obtain ⟨e2, q2, q3, q4, q5, q6⟩ := id hsm
    have e3 : s₂ = ({ (U.calling g mk a).setFrames s₂.frames with heap := s₂.heap, slotsUsed := s₂.slotsUsed } : State).setVm s₂.vm := by
      have : s₂ = ({ s₂ with vm := (U.calling g mk a).vm } : State).setVm s₂.vm := rfl
      rw [e2] at this
      exact this
    have hf₂ : s₂.frames = .throwing q :: .java g :: U.frames.tail := hend
    have hW' : U.WarmedH s₂.vm := hW₂
    have hs₂ : s₂ = ((({ U with heap := s₂.heap, slotsUsed := s₂.slotsUsed } : State).setVm s₂.vm).setTop g).pushFrame (.throwing q) := by
      refine e3.trans ?_
      rw [hf₂, State.calling_eq h.top, State.setFrames_setFrames, State.pushFrame, State.frames_setTop _ hr', State.setTop_of_frames _ hr', State.setFrames_setFrames, hr]
      rfl
    have hsame : U.sameButNew ({ U with heap := s₂.heap, slotsUsed := s₂.slotsUsed } : State) L mc ms := by
      refine ⟨?_, q2, q3, q4, q5, q6⟩
      obtain ⟨t, ht, -⟩ := State.frames_cons hr
      show ({ U with heap := s₂.heap, slotsUsed := s₂.slotsUsed } : State) = { U.setFrames U.frames with heap := s₂.heap, slotsUsed := s₂.slotsUsed }
      rw [State.setFrames_self ht]
    subst hg
    refine Or.inr ⟨q, ⟨(({ U with heap := s₂.heap, slotsUsed := s₂.slotsUsed } : State).setVm s₂.vm), Ls ++ L, c0 + mc, s0 + ms⟩,
      ⟨X.admits, X.cas, X.clock, X.frames, X.room, X.hears, X.method, X.code, (X.here.setHeapUsed s₂.heap s₂.slotsUsed).setVm hW'.alike, X.tail, State.WarmedH.trans X.warmed hW', X.limits, X.bytes, X.same.trans (hsame.setVm s.vm)⟩,
      ⟨g, mk, s₂, L, E, ce, rfl, rfl, hx, hce, hcv, hcl, rfl, hL, rfl, rfl⟩, ?_⟩
    show Steps p.tables e below _ (((({ U with heap := s₂.heap, slotsUsed := s₂.slotsUsed } : State).setVm s₂.vm).setTop g).pushFrame (.throwing q))
    rw [← hs₂]
    exact hsteps
end Payer
section Calls
variable {p : Program} {l : Launch} {e : Env} {R : Room} {s : State} {m : MethodId} {args : Array Value} {below : List Frame} {meth : Method} {c : Code} {T : State} {locs : List Loc} {cells slots : Nat}
theorem vx_callV (X : Stand p l e R s m args below meth c T locs cells slots) (hexec : p.tables.exec = Jvm.exec) {own C : String} {index : Nat} {y : MethodName} {bytes : ByteArray} {maxL : Nat} {ret : Option FieldType}
    (hown : s.vm.findClass own = some m.cls) (hlink : (Cond.methodLink own index y).before args s = true) (hinst : (Cond.instanceMethod y).before args s = true) (hsel : (Cond.selects C y y).before args s = true)
    (hcode : (Cond.code y bytes maxL ret).before args s = true) (hy : y.cls ≠ "java/lang/invoke/MethodHandle" ∧ y.cls ≠ "java/lang/invoke/VarHandle")
    {W9 : Nat} {Pre : Pt → Array Value → Prop} {Post : Pt → Array Value → Option Value → Pt → Prop} {PostX : Pt → Array Value → Addr → Pt → Prop} (hK : vx_Back l R p e below s args y 3 W9 Pre Post PostX)
    {b : Addr} {cellB : Cell} (hcell : T.heap[b]? = some cellB) (hobj : cellB.vm.isStatics = false) (hcls : s.vm.findClass C = some cellB.cls)
    {g : JFrame} (hg : g.method = m) (hsize : g.locals.size = c.maxLocals) {argsL rest : List Value} (hlen : ∀ sig, parseMethodDescriptor y.desc = some sig → argsL.length = sig.parameters.length)
    (hstack : g.stack = argsL.reverse ++ .ref b :: rest) (hW : 2 * g.monitorRoom + (rest.map fun v => v.category).sum ≤ W9) (hdg : decode c.code g.pc = .ok (.invokevirtual index, 3))
    (hpre : ∀ vm₁, s.WarmedH vm₁ → Pre ⟨T.setVm vm₁, locs, cells, slots⟩ (Value.ref b :: argsL).toArray) :
    (∃ (v : Option Value) (vm₁ : Vm) (B : Pt), s.WarmedH vm₁ ∧ Stand p l e R s m args below meth c B.U B.locs B.cells B.slots ∧ Post ⟨T.setVm vm₁, locs, cells, slots⟩ (Value.ref b :: argsL).toArray v B ∧
      ∀ target, Steps p.tables e below (B.U.setTop { g with pc := g.pc + 3, stack := v.toList ++ rest }) target → Steps p.tables e below (T.setTop g) target) ∨
    (∃ (q : Addr) (vm₁ : Vm) (B : Pt), s.WarmedH vm₁ ∧ Stand p l e R s m args below meth c B.U B.locs B.cells B.slots ∧ PostX ⟨T.setVm vm₁, locs, cells, slots⟩ (Value.ref b :: argsL).toArray q B ∧
      Steps p.tables e below (T.setTop g) ((B.U.setTop { g with stack := rest }).pushFrame (.throwing q))) := by
  obtain ⟨mk, methM, hnamed, hmethM, hstM, habM⟩ := Cond.instanceMethod_spec hinst
  obtain ⟨methM', cM, hmethM', -, -, -, -, -, -, hsigM⟩ := Cond.code_spec hnamed hcode
  cases hmethM.symm.trans hmethM'
  obtain ⟨c2, r2, m2, q1, q2, q3, q4, kP, hkP, hkPi⟩ := Cond.selects_spec hsel
  cases hcls.symm.trans q1
  cases (State.methodFound?_of_named hnamed hy).symm.trans q2
  cases hnamed.symm.trans q3
  have hselP : selectMethod e.platform s.vm cellB.cls mk = .method mk := by rw [Launch.admits_selectMethod X.admits]; exact q4
  obtain ⟨vm₁, X₁, hstep₁⟩ := X.invokevirtual hexec hown hlink hnamed hmethM hstM hkP hkPi hy (a := b) (cell := cellB) hcell
    (fun z h => by rw [h] at hobj; cases hobj) hselP hmethM habM hkP hkPi (g := g) hg (argsL := argsL) (rest := rest) (hlen _ hsigM) hstack hdg
  rcases hK m meth c ⟨T.setVm vm₁, locs, cells, slots⟩ { g with stack := rest } (.invokevirtual index) mk (Value.ref b :: argsL).toArray X₁ hg hsize hdg hW (X₁.named hnamed) (hpre vm₁ X₁.warmed) with ⟨v, B, X', hpost, hsteps⟩ | ⟨q, B, X', hpost, hsteps⟩
  · exact Or.inl ⟨v, vm₁, B, X₁.warmed, X', hpost, fun target h => hstep₁ _ fun acts => by rw [doInvoke_state]; exact hsteps.trans h⟩
  · exact Or.inr ⟨q, vm₁, B, X₁.warmed, X', hpost, hstep₁ _ fun acts => by rw [doInvoke_state]; exact hsteps⟩
theorem vx_callS (X : Stand p l e R s m args below meth c T locs cells slots) (hexec : p.tables.exec = Jvm.exec) {own : String} {index : Nat} {y : MethodName} {bytes : ByteArray} {maxL : Nat} {ret : Option FieldType}
    (hown : s.vm.findClass own = some m.cls) (hlink : (Cond.methodLink own index y).before args s = true) (hstat : (Cond.static y).before args s = true) (hinit : (Cond.initialized y.cls).before args s = true)
    (hcode : (Cond.code y bytes maxL ret).before args s = true) (hy : y.cls ≠ "java/lang/invoke/MethodHandle" ∧ y.cls ≠ "java/lang/invoke/VarHandle")
    {W9 : Nat} {Pre : Pt → Array Value → Prop} {Post : Pt → Array Value → Option Value → Pt → Prop} {PostX : Pt → Array Value → Addr → Pt → Prop} (hK : vx_Back l R p e below s args y 3 W9 Pre Post PostX)
    {g : JFrame} (hg : g.method = m) (hsize : g.locals.size = c.maxLocals) {argsL rest : List Value} (hlen : ∀ sig, parseMethodDescriptor y.desc = some sig → argsL.length = sig.parameters.length)
    (hstack : g.stack = argsL.reverse ++ rest) (hW : 2 * g.monitorRoom + (rest.map fun v => v.category).sum ≤ W9) (hdg : decode c.code g.pc = .ok (.invokestatic index, 3))
    (hpre : ∀ vm₁, s.WarmedH vm₁ → Pre ⟨T.setVm vm₁, locs, cells, slots⟩ argsL.toArray) :
    (∃ (v : Option Value) (vm₁ : Vm) (B : Pt), s.WarmedH vm₁ ∧ Stand p l e R s m args below meth c B.U B.locs B.cells B.slots ∧ Post ⟨T.setVm vm₁, locs, cells, slots⟩ argsL.toArray v B ∧
      ∀ target, Steps p.tables e below (B.U.setTop { g with pc := g.pc + 3, stack := v.toList ++ rest }) target → Steps p.tables e below (T.setTop g) target) ∨
    (∃ (q : Addr) (vm₁ : Vm) (B : Pt), s.WarmedH vm₁ ∧ Stand p l e R s m args below meth c B.U B.locs B.cells B.slots ∧ PostX ⟨T.setVm vm₁, locs, cells, slots⟩ argsL.toArray q B ∧
      Steps p.tables e below (T.setTop g) ((B.U.setTop { g with stack := rest }).pushFrame (.throwing q))) := by
  obtain ⟨mk, hnamed⟩ := Cond.code_named hcode
  obtain ⟨methM, cM, hmethM, -, -, -, -, -, -, hsigM⟩ := Cond.code_spec hnamed hcode
  have hstatic : methM.isStatic = true := Cond.static_spec hnamed hmethM hstat
  obtain ⟨kP, hkP, -⟩ := className_of_methodNamed hnamed
  have hinitP : kP.init = .initialized := Cond.initialized_spec (findClass_of_methodNamed hnamed) hkP hinit
  obtain ⟨vm₁, X₁, hstep₁⟩ := X.invokestatic hexec hown hlink hnamed hmethM hstatic hkP hinitP hy (g := g) hg (argsL := argsL) (rest := rest) (hlen _ hsigM) hstack hdg
  rcases hK m meth c ⟨T.setVm vm₁, locs, cells, slots⟩ { g with stack := rest } (.invokestatic index) mk argsL.toArray X₁ hg hsize hdg hW (X₁.named hnamed) (hpre vm₁ X₁.warmed) with ⟨v, B, X', hpost, hsteps⟩ | ⟨q, B, X', hpost, hsteps⟩
  · exact Or.inl ⟨v, vm₁, B, X₁.warmed, X', hpost, fun target h => hstep₁ _ fun acts => by rw [doInvoke_state]; exact hsteps.trans h⟩
  · exact Or.inr ⟨q, vm₁, B, X₁.warmed, X', hpost, hstep₁ _ fun acts => by rw [doInvoke_state]; exact hsteps⟩
end Calls
theorem vx_cls {s : State} {T : State} {vm₁ : Vm} {E : String} {k : ClassId} (hW : s.WarmedH vm₁) (h : (T.setVm vm₁).vm.findClass E = some k) : s.vm.findClass E = some k := by
  have h1 : vm₁.findClass E = some k := h
  rw [hW.alike.findClass] at h1
  exact h1
/-- the method's frame g, with q thrown over it -/
def vx_W (p : Program) (l : Launch) (e : Env) (R : Room) (s : State) (m : MethodId) (args : Array Value) (below : List Frame) (meth : Method) (c : Code) (H : Heap) (locs : List Loc) (cells slots : Nat) (Q : State → Prop) (g : JFrame) (q : Addr) : Prop :=
  ∀ T : State, T.heap = H → Stand p l e R s m args below meth c T locs cells slots → ∃ t, Steps p.tables e below ((T.setTop g).pushFrame (.throwing q)) t ∧ Q t
def vx_Run (p : Program) (l : Launch) (e : Env) (R : Room) (s : State) (m : MethodId) (args : Array Value) (below : List Frame) (meth : Method) (c : Code) (H : Heap) (locs : List Loc) (cells slots mc ms : Nat) (g : JFrame) (rest : List Value) (Qa : State → Outcome → State → Prop) (XC : String → State → State → Prop) (free : Addr → Prop) : Prop :=
  ∀ T : State, T.heap = H → Stand p l e R s m args below meth c T locs cells slots →
    (∃ (v : Option Value) (st₀ t T' : State) (L : List Loc), st₀.heap = H ∧ Stand p l e R s m args below meth c T' (locs ++ L) (cells + mc) (slots + ms) ∧ (∀ q ∈ L, free q.base) ∧ T'.heap = t.heap ∧ T'.vm = t.vm ∧ Qa st₀ (.returned v) t ∧
      Goes p e below T g T' { g with pc := g.pc + 3, stack := v.toList ++ rest }) ∨
    (∃ (q : Addr) (st₀ t T' : State) (L : List Loc) (E : String) (ce : Cell), st₀.heap = H ∧ Stand p l e R s m args below meth c T' (locs ++ L) (cells + mc) (slots + ms) ∧ (∀ z ∈ L, free z.base) ∧ T'.heap = t.heap ∧ T'.vm = t.vm ∧ XC E st₀ t ∧ t.heap[q]? = some ce ∧ ce.vm = .none ∧ s.vm.findClass E = some ce.cls ∧
      Steps p.tables e below (T.setTop g) ((T'.setTop { g with stack := rest }).pushFrame (.throwing q)))
def vx_X {S : Type} (px : S → Prop) (B : String → S → State → Prop) (A : Nat → Prop) : String → State → State → Prop := fun E st t => ∃ u : S, px u ∧ B E u t ∧ va_F A st t
section Runs
variable {p : Program} {l : Launch} {e : Env} {R : Room} {s : State} {m : MethodId} {args : Array Value} {below : List Frame} {meth : Method} {c : Code} {H : Heap} {locs : List Loc} {cells slots : Nat}
variable {y : MethodName} {bytes cc : ByteArray} {maxL nL mc ms n index : Nat} {ret : Option FieldType} {ws : List Cond} {rm : Room} {Pc : Array Value → State → Prop} {Qc : Array Value → State → Outcome → State → Prop} {XC : String → State → State → Prop} {free : Addr → Prop} {Ts : List Cond} {own C : String} {b : Addr} {As rest : List Value} {g : JFrame}
theorem vx_callBack (cb : CallB R s args own index y bytes maxL ret ws rm mc ms n) (hM : vx_Met l y ws rm Pc Qc XC mc ms free) (hbl : FrameBlind Pc) : vx_Back l R p e below s args y 3 8 (PreOf R mc ms Pc) (PostOf Qc mc ms free) (vx_Post XC mc ms free) := by
  obtain ⟨hrc, hrs, hfr, hlo, hws, hcw, -, hini, -⟩ := cb
  exact vx_back (bytes := bytes) (maxL := maxL) (ret := ret) hM hbl hrc hrs hfr hlo hws hcw (fun a' U hW => word_at hW (Or.inl (by first | rfl | simp [Cond.onTables, Cond.keeps, Cond.steady])) hini)
theorem vx_runV (S : CallFix p m c cc nL s args Ts own) (hM : vx_Met l y ws rm Pc Qc XC mc ms free) (cw : CallW R s args own C index y bytes maxL ret ws rm mc ms n) (hp : PreV s H C b Pc As)
    (hg : g.method = m) (hn : As.length = n) (hsize : g.locals.size = nL) (hstack : g.stack = As.reverse ++ .ref b :: rest) (hW : 2 * g.monitorRoom + (rest.map fun v => v.category).sum ≤ 8) (hdg : decode cc g.pc = .ok (.invokevirtual index, 3)) (hf : cells + mc ≤ R.cells ∧ slots + ms ≤ R.slots) :
    vx_Run p l e R s m args below meth c H locs cells slots mc ms g rest (Qc (Value.ref b :: As).toArray) XC free := by
  have hK : vx_Back l R p e below s args y 3 8 (PreOf R mc ms Pc) (PostOf Qc mc ms free) (vx_Post XC mc ms free) := vx_callBack cw.1 hM hp.1
  obtain ⟨⟨-, -, -, -, -, -, hcode, -, hy, hlen, hl⟩, hin, hse⟩ := cw
  obtain ⟨hx, hb, hml, ho, -⟩ := S
  obtain ⟨-, ⟨cellB, hcB, hoB, hclB⟩, hPc⟩ := hp
  intro T hT X
  rcases vx_callV X hx (C := C) (bytes := bytes) (maxL := maxL) (ret := ret) ho hl hin hse hcode hy hK (by rw [hT]; exact hcB) hoB hclB hg (hsize.trans hml.symm) (argsL := As) (rest := rest) (fun sig h => hn.trans (hlen sig h)) hstack hW (by rw [hb]; exact hdg)
    (fun vm₁ hW₁ => ⟨hf.1, hf.2, hPc (T.setVm vm₁) hT hW₁⟩) with ⟨v, vm₁, ⟨U', l2, c2, s2⟩, hW₁, X', ⟨g', mk, t, L, e1, e2, hq, h1, hL, h2, h3⟩, st⟩ | ⟨q, vm₁, ⟨U', l2, c2, s2⟩, hW₁, X', ⟨g', mk, t, L, E, ce, e1, e2, hq, hce, hcv, hcl, h1, hL, h2, h3⟩, st⟩
  · dsimp only [Pt.U, Pt.locs, Pt.cells, Pt.slots] at X' e1 e2 h1 h2 h3 st
    subst h1; subst h2; subst h3
    exact Or.inl ⟨v, (T.setVm vm₁).calling g' mk (Value.ref b :: As).toArray, t, U', L, hT, X', hL, e1, e2, hq, st⟩
  · dsimp only [Pt.U, Pt.locs, Pt.cells, Pt.slots] at X' e1 e2 h1 h2 h3 st hcl
    subst h1; subst h2; subst h3
    exact Or.inr ⟨q, (T.setVm vm₁).calling g' mk (Value.ref b :: As).toArray, t, U', L, E, ce, hT, X', hL, e1, e2, hq, hce, hcv, vx_cls hW₁ hcl, st⟩
theorem vx_runS (S : CallFix p m c cc nL s args Ts own) (hM : vx_Met l y ws rm Pc Qc XC mc ms free) (cw : CallB R s args own index y bytes maxL ret ws rm mc ms n ∧ (Cond.static y).before args s = true) (hp : PreS s H Pc As)
    (hg : g.method = m) (hn : As.length = n) (hsize : g.locals.size = nL) (hstack : g.stack = As.reverse ++ rest) (hW : 2 * g.monitorRoom + (rest.map fun v => v.category).sum ≤ 8) (hdg : decode cc g.pc = .ok (.invokestatic index, 3)) (hf : cells + mc ≤ R.cells ∧ slots + ms ≤ R.slots) :
    vx_Run p l e R s m args below meth c H locs cells slots mc ms g rest (Qc As.toArray) XC free := by
  have hK : vx_Back l R p e below s args y 3 8 (PreOf R mc ms Pc) (PostOf Qc mc ms free) (vx_Post XC mc ms free) := vx_callBack cw.1 hM hp.1
  obtain ⟨⟨-, -, -, -, -, -, hcode, hini, hy, hlen, hl⟩, hstt⟩ := cw
  obtain ⟨hx, hb, hml, ho, -⟩ := S
  intro T hT X
  rcases vx_callS X hx (bytes := bytes) (maxL := maxL) (ret := ret) ho hl hstt hini hcode hy hK hg (hsize.trans hml.symm) (argsL := As) (rest := rest) (fun sig h => hn.trans (hlen sig h)) hstack hW (by rw [hb]; exact hdg)
    (fun vm₁ hW₁ => ⟨hf.1, hf.2, hp.2 (T.setVm vm₁) hT hW₁⟩) with ⟨v, vm₁, ⟨U', l2, c2, s2⟩, hW₁, X', ⟨g', mk, t, L, e1, e2, hq, h1, hL, h2, h3⟩, st⟩ | ⟨q, vm₁, ⟨U', l2, c2, s2⟩, hW₁, X', ⟨g', mk, t, L, E, ce, e1, e2, hq, hce, hcv, hcl, h1, hL, h2, h3⟩, st⟩
  · dsimp only [Pt.U, Pt.locs, Pt.cells, Pt.slots] at X' e1 e2 h1 h2 h3 st
    subst h1; subst h2; subst h3
    exact Or.inl ⟨v, (T.setVm vm₁).calling g' mk As.toArray, t, U', L, hT, X', hL, e1, e2, hq, st⟩
  · dsimp only [Pt.U, Pt.locs, Pt.cells, Pt.slots] at X' e1 e2 h1 h2 h3 st hcl
    subst h1; subst h2; subst h3
    exact Or.inr ⟨q, (T.setVm vm₁).calling g' mk As.toArray, t, U', L, E, ce, hT, X', hL, e1, e2, hq, hce, hcv, vx_cls hW₁ hcl, st⟩
end Runs
section Rows
variable {p : Program} {l : Launch} {e : Env} {R : Room} {s : State} {m : MethodId} {args : Array Value} {below : List Frame} {meth : Method} {c : Code} {H : Heap} {locs : List Loc} {cells slots : Nat} {Q : State → Prop}
variable {mc ms : Nat} {free : Addr → Prop} {A0 A1 : Nat → Prop} {H0 : Heap} {a : Array Value} {pc : Nat} {ls : Array Slot} {st0 rest : List Value}
theorem vx_keep {st₀ t T' : State} {L : List Loc} (h0 : st₀.heap = H) (e1 : T'.heap = t.heap) (hS : va_S A0 H0 H locs) (hA : ∀ q, q < H.size → A1 q → A0 q) (hf : ∀ q, free q → A0 q) (hL : ∀ q ∈ L, free q.base) (hF : va_F A1 st₀ t) :
    H.size ≤ T'.heap.size ∧ (∀ q : Nat, q < H.size → ¬ A1 q → T'.heap[q]? = H[q]?) ∧ va_S A0 H0 T'.heap (locs ++ L) := by
  obtain ⟨hz, hk⟩ := hF
  rw [h0] at hz hk
  exact ⟨by rw [e1]; exact hz, fun q h1 h2 => by rw [e1]; exact hk q h1 h2,
    ⟨Nat.le_trans hS.1 (by rw [e1]; exact hz), fun q h1 h2 => by rw [e1, hk q (Nat.lt_of_lt_of_le h1 hS.1) (fun z => h2 (hA q (Nat.lt_of_lt_of_le h1 hS.1) z))]; exact hS.2.1 q h1 h2, fun q hq => by
      rcases List.mem_append.mp hq with h | h
      · exact hS.2.2 q h
      · exact hf _ (hL q h)⟩⟩
theorem vx_calli {S SX : Type} {post : Int32 → S → Prop} {px : SX → Prop} {B : S → State → Prop} {BX : String → SX → State → Prop} {AX : Nat → Prop} (hr : vx_Run p l e R s m args below meth c H locs cells slots mc ms (F0 m pc ls st0) rest (va_Qi post B A1 a) (vx_X px BX AX) free) (hS : va_S A0 H0 H locs) (hA : ∀ q, q < H.size → A1 q → A0 q) (hf : ∀ q, free q → A0 q) (hAX : ∀ q, q < H.size → AX q → A0 q)
    (kx : ∀ (E : String) (ce : Cell) (q9 : Addr) (u : SX) (t : State) (H1 : Heap) (locs1 : List Loc), t.heap = H1 → s.vm.Alike t.vm → px u → BX E u t → H.size ≤ H1.size → (∀ q : Nat, q < H.size → ¬ AX q → H1[q]? = H[q]?) → va_S A0 H0 H1 locs1 → H1[q9]? = some ce → ce.vm = .none → s.vm.findClass E = some ce.cls → vx_W p l e R s m args below meth c H1 locs1 (cells + mc) (slots + ms) Q (F0 m pc ls rest) q9)
    (kk : ∀ (r : Int32) (u : S) (t : State) (H1 : Heap) (locs1 : List Loc), t.heap = H1 → s.vm.Alike t.vm → post r u → B u t → H.size ≤ H1.size → (∀ q : Nat, q < H.size → ¬ A1 q → H1[q]? = H[q]?) → va_S A0 H0 H1 locs1 → W p l e R s m args below meth c H1 locs1 (cells + mc) (slots + ms) Q (F0 m (pc + 3) ls (.int r :: rest))) : W p l e R s m args below meth c H locs cells slots Q (F0 m pc ls st0) := by
  intro T hT X
  rcases hr T hT X with ⟨v, st₀, t, T', L, h0, X', hL, e1, e2, ⟨⟨r, u, hv, hp, hb⟩, hF⟩, st⟩ | ⟨q, st₀, t, T', L, E, ce, h0, X', hL, e1, e2, ⟨u, hp, hb, hF⟩, hce, hcv, hcl, st⟩
  · cases hv
    obtain ⟨k1, k2, k3⟩ := vx_keep h0 e1 hS hA hf hL hF
    obtain ⟨t2, a1, b1⟩ := kk r u t T'.heap (locs ++ L) e1.symm (by rw [← e2]; exact X'.warmed.alike) hp hb k1 k2 k3 T' rfl X'
    exact ⟨t2, st t2 a1, b1⟩
  · obtain ⟨k1, k2, k3⟩ := vx_keep h0 e1 hS hAX hf hL hF
    obtain ⟨t2, a1, b1⟩ := kx E ce q u t T'.heap (locs ++ L) e1.symm (by rw [← e2]; exact X'.warmed.alike) hp hb k1 k2 k3 (by rw [e1]; exact hce) hcv hcl T' rfl X'
    exact ⟨t2, st.trans a1, b1⟩
theorem vx_calll {S SX : Type} {post : Int64 → S → Prop} {px : SX → Prop} {B : S → State → Prop} {BX : String → SX → State → Prop} {AX : Nat → Prop} (hr : vx_Run p l e R s m args below meth c H locs cells slots mc ms (F0 m pc ls st0) rest (va_Ql post B A1 a) (vx_X px BX AX) free) (hS : va_S A0 H0 H locs) (hA : ∀ q, q < H.size → A1 q → A0 q) (hf : ∀ q, free q → A0 q) (hAX : ∀ q, q < H.size → AX q → A0 q)
    (kx : ∀ (E : String) (ce : Cell) (q9 : Addr) (u : SX) (t : State) (H1 : Heap) (locs1 : List Loc), t.heap = H1 → s.vm.Alike t.vm → px u → BX E u t → H.size ≤ H1.size → (∀ q : Nat, q < H.size → ¬ AX q → H1[q]? = H[q]?) → va_S A0 H0 H1 locs1 → H1[q9]? = some ce → ce.vm = .none → s.vm.findClass E = some ce.cls → vx_W p l e R s m args below meth c H1 locs1 (cells + mc) (slots + ms) Q (F0 m pc ls rest) q9)
    (kk : ∀ (r : Int64) (u : S) (t : State) (H1 : Heap) (locs1 : List Loc), t.heap = H1 → s.vm.Alike t.vm → post r u → B u t → H.size ≤ H1.size → (∀ q : Nat, q < H.size → ¬ A1 q → H1[q]? = H[q]?) → va_S A0 H0 H1 locs1 → W p l e R s m args below meth c H1 locs1 (cells + mc) (slots + ms) Q (F0 m (pc + 3) ls (.long r :: rest))) : W p l e R s m args below meth c H locs cells slots Q (F0 m pc ls st0) := by
  intro T hT X
  rcases hr T hT X with ⟨v, st₀, t, T', L, h0, X', hL, e1, e2, ⟨⟨r, u, hv, hp, hb⟩, hF⟩, st⟩ | ⟨q, st₀, t, T', L, E, ce, h0, X', hL, e1, e2, ⟨u, hp, hb, hF⟩, hce, hcv, hcl, st⟩
  · cases hv
    obtain ⟨k1, k2, k3⟩ := vx_keep h0 e1 hS hA hf hL hF
    obtain ⟨t2, a1, b1⟩ := kk r u t T'.heap (locs ++ L) e1.symm (by rw [← e2]; exact X'.warmed.alike) hp hb k1 k2 k3 T' rfl X'
    exact ⟨t2, st t2 a1, b1⟩
  · obtain ⟨k1, k2, k3⟩ := vx_keep h0 e1 hS hAX hf hL hF
    obtain ⟨t2, a1, b1⟩ := kx E ce q u t T'.heap (locs ++ L) e1.symm (by rw [← e2]; exact X'.warmed.alike) hp hb k1 k2 k3 (by rw [e1]; exact hce) hcv hcl T' rfl X'
    exact ⟨t2, st.trans a1, b1⟩
theorem vx_callf {S SX : Type} {post : UInt32 → S → Prop} {px : SX → Prop} {B : S → State → Prop} {BX : String → SX → State → Prop} {AX : Nat → Prop} (hr : vx_Run p l e R s m args below meth c H locs cells slots mc ms (F0 m pc ls st0) rest (va_Qf post B A1 a) (vx_X px BX AX) free) (hS : va_S A0 H0 H locs) (hA : ∀ q, q < H.size → A1 q → A0 q) (hf : ∀ q, free q → A0 q) (hAX : ∀ q, q < H.size → AX q → A0 q)
    (kx : ∀ (E : String) (ce : Cell) (q9 : Addr) (u : SX) (t : State) (H1 : Heap) (locs1 : List Loc), t.heap = H1 → s.vm.Alike t.vm → px u → BX E u t → H.size ≤ H1.size → (∀ q : Nat, q < H.size → ¬ AX q → H1[q]? = H[q]?) → va_S A0 H0 H1 locs1 → H1[q9]? = some ce → ce.vm = .none → s.vm.findClass E = some ce.cls → vx_W p l e R s m args below meth c H1 locs1 (cells + mc) (slots + ms) Q (F0 m pc ls rest) q9)
    (kk : ∀ (r : UInt32) (u : S) (t : State) (H1 : Heap) (locs1 : List Loc), t.heap = H1 → s.vm.Alike t.vm → post r u → B u t → H.size ≤ H1.size → (∀ q : Nat, q < H.size → ¬ A1 q → H1[q]? = H[q]?) → va_S A0 H0 H1 locs1 → W p l e R s m args below meth c H1 locs1 (cells + mc) (slots + ms) Q (F0 m (pc + 3) ls (.float r :: rest))) : W p l e R s m args below meth c H locs cells slots Q (F0 m pc ls st0) := by
  intro T hT X
  rcases hr T hT X with ⟨v, st₀, t, T', L, h0, X', hL, e1, e2, ⟨⟨r, u, hv, hp, hb⟩, hF⟩, st⟩ | ⟨q, st₀, t, T', L, E, ce, h0, X', hL, e1, e2, ⟨u, hp, hb, hF⟩, hce, hcv, hcl, st⟩
  · cases hv
    obtain ⟨k1, k2, k3⟩ := vx_keep h0 e1 hS hA hf hL hF
    obtain ⟨t2, a1, b1⟩ := kk r u t T'.heap (locs ++ L) e1.symm (by rw [← e2]; exact X'.warmed.alike) hp hb k1 k2 k3 T' rfl X'
    exact ⟨t2, st t2 a1, b1⟩
  · obtain ⟨k1, k2, k3⟩ := vx_keep h0 e1 hS hAX hf hL hF
    obtain ⟨t2, a1, b1⟩ := kx E ce q u t T'.heap (locs ++ L) e1.symm (by rw [← e2]; exact X'.warmed.alike) hp hb k1 k2 k3 (by rw [e1]; exact hce) hcv hcl T' rfl X'
    exact ⟨t2, st.trans a1, b1⟩
theorem vx_calld {S SX : Type} {post : UInt64 → S → Prop} {px : SX → Prop} {B : S → State → Prop} {BX : String → SX → State → Prop} {AX : Nat → Prop} (hr : vx_Run p l e R s m args below meth c H locs cells slots mc ms (F0 m pc ls st0) rest (va_Qd post B A1 a) (vx_X px BX AX) free) (hS : va_S A0 H0 H locs) (hA : ∀ q, q < H.size → A1 q → A0 q) (hf : ∀ q, free q → A0 q) (hAX : ∀ q, q < H.size → AX q → A0 q)
    (kx : ∀ (E : String) (ce : Cell) (q9 : Addr) (u : SX) (t : State) (H1 : Heap) (locs1 : List Loc), t.heap = H1 → s.vm.Alike t.vm → px u → BX E u t → H.size ≤ H1.size → (∀ q : Nat, q < H.size → ¬ AX q → H1[q]? = H[q]?) → va_S A0 H0 H1 locs1 → H1[q9]? = some ce → ce.vm = .none → s.vm.findClass E = some ce.cls → vx_W p l e R s m args below meth c H1 locs1 (cells + mc) (slots + ms) Q (F0 m pc ls rest) q9)
    (kk : ∀ (r : UInt64) (u : S) (t : State) (H1 : Heap) (locs1 : List Loc), t.heap = H1 → s.vm.Alike t.vm → post r u → B u t → H.size ≤ H1.size → (∀ q : Nat, q < H.size → ¬ A1 q → H1[q]? = H[q]?) → va_S A0 H0 H1 locs1 → W p l e R s m args below meth c H1 locs1 (cells + mc) (slots + ms) Q (F0 m (pc + 3) ls (.double r :: rest))) : W p l e R s m args below meth c H locs cells slots Q (F0 m pc ls st0) := by
  intro T hT X
  rcases hr T hT X with ⟨v, st₀, t, T', L, h0, X', hL, e1, e2, ⟨⟨r, u, hv, hp, hb⟩, hF⟩, st⟩ | ⟨q, st₀, t, T', L, E, ce, h0, X', hL, e1, e2, ⟨u, hp, hb, hF⟩, hce, hcv, hcl, st⟩
  · cases hv
    obtain ⟨k1, k2, k3⟩ := vx_keep h0 e1 hS hA hf hL hF
    obtain ⟨t2, a1, b1⟩ := kk r u t T'.heap (locs ++ L) e1.symm (by rw [← e2]; exact X'.warmed.alike) hp hb k1 k2 k3 T' rfl X'
    exact ⟨t2, st t2 a1, b1⟩
  · obtain ⟨k1, k2, k3⟩ := vx_keep h0 e1 hS hAX hf hL hF
    obtain ⟨t2, a1, b1⟩ := kx E ce q u t T'.heap (locs ++ L) e1.symm (by rw [← e2]; exact X'.warmed.alike) hp hb k1 k2 k3 (by rw [e1]; exact hce) hcv hcl T' rfl X'
    exact ⟨t2, st.trans a1, b1⟩
theorem vx_callv {S SX : Type} {post : S → Prop} {px : SX → Prop} {B : S → State → Prop} {BX : String → SX → State → Prop} {AX : Nat → Prop} (hr : vx_Run p l e R s m args below meth c H locs cells slots mc ms (F0 m pc ls st0) rest (va_Qv post B A1 a) (vx_X px BX AX) free) (hS : va_S A0 H0 H locs) (hA : ∀ q, q < H.size → A1 q → A0 q) (hf : ∀ q, free q → A0 q) (hAX : ∀ q, q < H.size → AX q → A0 q)
    (kx : ∀ (E : String) (ce : Cell) (q9 : Addr) (u : SX) (t : State) (H1 : Heap) (locs1 : List Loc), t.heap = H1 → s.vm.Alike t.vm → px u → BX E u t → H.size ≤ H1.size → (∀ q : Nat, q < H.size → ¬ AX q → H1[q]? = H[q]?) → va_S A0 H0 H1 locs1 → H1[q9]? = some ce → ce.vm = .none → s.vm.findClass E = some ce.cls → vx_W p l e R s m args below meth c H1 locs1 (cells + mc) (slots + ms) Q (F0 m pc ls rest) q9)
    (kk : ∀ (u : S) (t : State) (H1 : Heap) (locs1 : List Loc), t.heap = H1 → s.vm.Alike t.vm → post u → B u t → H.size ≤ H1.size → (∀ q : Nat, q < H.size → ¬ A1 q → H1[q]? = H[q]?) → va_S A0 H0 H1 locs1 → W p l e R s m args below meth c H1 locs1 (cells + mc) (slots + ms) Q (F0 m (pc + 3) ls (rest))) : W p l e R s m args below meth c H locs cells slots Q (F0 m pc ls st0) := by
  intro T hT X
  rcases hr T hT X with ⟨v, st₀, t, T', L, h0, X', hL, e1, e2, ⟨⟨u, hv, hp, hb⟩, hF⟩, st⟩ | ⟨q, st₀, t, T', L, E, ce, h0, X', hL, e1, e2, ⟨u, hp, hb, hF⟩, hce, hcv, hcl, st⟩
  · cases hv
    obtain ⟨k1, k2, k3⟩ := vx_keep h0 e1 hS hA hf hL hF
    obtain ⟨t2, a1, b1⟩ := kk u t T'.heap (locs ++ L) e1.symm (by rw [← e2]; exact X'.warmed.alike) hp hb k1 k2 k3 T' rfl X'
    exact ⟨t2, st t2 a1, b1⟩
  · obtain ⟨k1, k2, k3⟩ := vx_keep h0 e1 hS hAX hf hL hF
    obtain ⟨t2, a1, b1⟩ := kx E ce q u t T'.heap (locs ++ L) e1.symm (by rw [← e2]; exact X'.warmed.alike) hp hb k1 k2 k3 (by rw [e1]; exact hce) hcv hcl T' rfl X'
    exact ⟨t2, st.trans a1, b1⟩
/-- caught by the row x of this method's table; the rows ahead don't take it -/
theorem vx_catch {own name : String} {E : String} {ce : Cell} {q : Addr} (hown : s.vm.findClass own = some m.cls) (pre : List ExceptionTableEntry) (x : ExceptionTableEntry) (suf : List ExceptionTableEntry) (hsplit : c.exceptionTable.toList = pre ++ x :: suf)
    (hpass : ∀ z ∈ pre, covers z pc = false ∨ (z.catchType ≠ 0 ∧ ∃ nm : String, (Cond.classLink own z.catchType nm).before args s = true ∧ va_Nc E nm s)) (hx : covers x pc = true) (h0 : x.catchType ≠ 0)
    (hlink : (Cond.classLink own x.catchType name).before args s = true) (hcast : (Cond.castable E name).before args s = true) (hcell : H[q]? = some ce) (hv : ce.vm = .none) (hcl : s.vm.findClass E = some ce.cls)
    (kk : W p l e R s m args below meth c H locs cells slots Q (F0 m x.handlerPc ls [.ref q])) : vx_W p l e R s m args below meth c H locs cells slots Q (F0 m pc ls rest) q := by
  intro T hT X
  have hpl : e.platform.magicAccessors = ({} : Platform).magicAccessors := by rw [X.admits.platform]
  obtain ⟨c3, c4, hc3, hc4, hasg⟩ := Cond.castable_spec hcast
  cases Option.some.inj (hc3.symm.trans hcl)
  obtain ⟨c5, hc5, hcl5⟩ := Cond.classLink_spec hown hlink e.platform hpl
  cases Option.some.inj (hc4.symm.trans hc5)
  obtain ⟨vm', X', st⟩ := X.thenCaughtThrough q (g := F0 m pc ls rest) rfl (Steps.refl _) (by rw [hT]; exact hcell) (by rw [hv]; rfl) (by obtain ⟨k9, h9, -⟩ := Vm.findClass_spec hcl; exact ⟨k9, h9⟩) pre x suf hsplit
    (fun z hz => by
      rcases hpass z hz with h | ⟨hz0, nm, hl1, hn1⟩
      · exact Or.inl h
      · obtain ⟨c6, hc6, hcl6⟩ := Cond.classLink_spec hown hl1 e.platform hpl
        obtain ⟨a8, b8, h1, h2, h3⟩ := hn1
        cases Option.some.inj (h1.symm.trans hcl)
        cases Option.some.inj (h2.symm.trans hc6)
        exact Or.inr ⟨hz0, _, hcl6, h3⟩) hx (Or.inr ⟨h0, c4, hcl5, hasg⟩)
  obtain ⟨t, a1, b1⟩ := kk (T.setVm vm') hT X'
  exact ⟨t, st.trans a1, b1⟩
end Rows
section Ends
variable {p : Program} {l : Launch} {e : Env} {R : Room} {s : State} {m : MethodId} {args : Array Value} {below : List Frame} {meth : Method} {c : Code} {H : Heap} {locs : List Loc} {cells slots : Nat} {Q : State → Prop}
variable {mc ms : Nat} {free : Addr → Prop} {A0 A1 : Nat → Prop} {H0 : Heap} {a : Array Value} {ls : Array Slot} {st0 rest : List Value}
variable {Qc : Array Value → State → Outcome → State → Prop} {XC : String → State → State → Prop}
/-- what a body that may throw owes at its end -/
def vx_MQ (below : List Frame) (Qc : Array Value → State → Outcome → State → Prop) (XC : String → State → State → Prop) (a : Array Value) (s : State) (mc ms : Nat) (free : Addr → Prop) : State → Prop := fun t =>
  ∃ o, t.status = .running ∧ Ended t below o ∧ vx_Q Qc XC mc ms free a s o t
theorem vx_ret {g : JFrame} {mc ms : Nat} (k : W p l e R s m args below meth c H locs cells slots (MQ below Qc args s mc ms free) g) : W p l e R s m args below meth c H locs cells slots (vx_MQ below Qc XC args s mc ms free) g := by
  intro T hT X
  obtain ⟨t, a1, o, b1, b2, b3, b4⟩ := k T hT X
  exact ⟨t, a1, o, b1, b2, Or.inl ⟨b3, b4⟩⟩
/-- not caught here: it goes on to the caller -/
theorem vx_widen {g : JFrame} {q : Addr} {k n : Nat} (h1 : cells ≤ k) (h2 : slots ≤ n) (kk : vx_W p l e R s m args below meth c H locs k n Q g q) : vx_W p l e R s m args below meth c H locs cells slots Q g q := fun T hT X => kk T hT (stand_widen X h1 h2)
theorem vx_out {pc : Nat} {E : String} {ce : Cell} {q : Addr} {mc ms : Nat} (hout : ∀ x ∈ c.exceptionTable.toList, covers x pc = false) (hlocks : meth.locks = false) (hcell : H[q]? = some ce) (hv : ce.vm = .none) (hcl : s.vm.findClass E = some ce.cls)
    (hx : ∀ t : State, t.heap = H → s.vm.Alike t.vm → XC E s t) (hf : ∀ z ∈ locs, free z.base) (hc : cells ≤ mc) (hs : slots ≤ ms) :
    vx_W p l e R s m args below meth c H locs cells slots (vx_MQ below Qc XC args s mc ms free) (F0 m pc ls rest) q := by
  intro T hT X
  obtain ⟨st1, hrun, hend, hW, hsm⟩ := X.leaveThrown q (g := F0 m pc ls rest) rfl rfl rfl hout hlocks
  have hcell9 : (T.setFrames (.throwing q :: below)).heap[q]? = some ce := by
    show T.heap[q]? = some ce
    rw [hT]; exact hcell
  exact ⟨_, st1, .threw q, hrun, hend, Or.inr ⟨q, rfl, E, ce, locs, hx _ hT hW.alike, hcell9, hv, hcl, hW, hsm.mono hc hs, hf⟩⟩
theorem vx_frame {U : State} {k n : Nat} (h : s.sameButNew ({ U with vm := s.vm } : State) locs k n) : s.heap.size ≤ U.heap.size ∧ ∀ q : Nat, q < s.heap.size → (∀ z ∈ locs, z.base ≠ q) → U.heap[q]? = s.heap[q]? := by
  obtain ⟨-, h2, -, -, -, h6⟩ := h
  refine ⟨h2, fun q hq hz => ?_⟩
  obtain ⟨c9, e1, e2, e3, e4⟩ := h6 q _ (Array.getElem?_eq_getElem hq)
  have hs : c9.slots = (s.heap[q]).slots := Array.ext_getElem? fun i => e4 i fun hm => hz _ hm rfl
  have h9 : c9 = s.heap[q] := by
    rw [hs] at e2
    exact e2
  have e5 : U.heap[q]? = some c9 := e1
  rw [e5, h9, Array.getElem?_eq_getElem hq]
/-- the words of a throw but the four that speak of the heap -/
def vx_no (w : Cond) : Bool := decide (w ≠ .isRef (.static Bundle.tN "UNASSIGNED_STACK" Bundle.steD)) && decide (w ≠ .isRef (.static Bundle.tN "SUPPRESSED_SENTINEL" Bundle.listD)) && decide (w ≠ .laysStatic Bundle.tN "UNASSIGNED_STACK" Bundle.steD) && decide (w ≠ .laysStatic Bundle.tN "SUPPRESSED_SENTINEL" Bundle.listD)
def vx_at0 (own : String) (ic : Nat) (X : String) (names : List String) : List Cond := (Bundle.ownAtoms0 own ic X names).filter vx_no
def vx_atS (own : String) (ic : Nat) (X : String) (names : List String) : List Cond := (Bundle.ownAtoms own ic X names).filter vx_no
/-- a word that the tables alone decide, or a good one -/
def vx_ot (w : Cond) : Bool := w.onTables || goodWord w
theorem vx_ot_at {args a' : Array Value} {s U : State} {w : Cond} (hW : s.WarmedH U.vm) (hvm : s.vm = U.vm) (hg : vx_ot w = true) (h : w.before args s = true) : w.before a' U = true := by
  simp only [vx_ot, Bool.or_eq_true] at hg
  rcases hg with hg | hg
  · exact va_tabs hg hvm h
  · exact word_at hW (good_of_word hg) h
/-- a list's words: the good ones out of the method's own list, the others by premises of their own -/
theorem vx_hat {args : Array Value} {s : State} {L B : List Cond} (h1 : ∀ w ∈ L.filter goodWord, w.before args s = true) (h2 : ∀ w ∈ L.filter (fun w => !goodWord w), w ∈ B) (h3 : ∀ w ∈ B, w.before args s = true) : ∀ w ∈ L, w.before args s = true := by
  intro w hw
  by_cases g : goodWord w = true
  · exact h1 w (List.mem_filter.mpr ⟨hw, g⟩)
  · refine h3 w (h2 w (List.mem_filter.mpr ⟨hw, ?_⟩))
    show (!goodWord w) = true
    cases hgw : goodWord w
    · rfl
    · exact absurd hgw g
theorem vx_c {args : Array Value} {s : State} {w : Cond} {B : List Cond} (h : w.before args s = true) (t : ∀ w ∈ B, w.before args s = true) : ∀ w' ∈ w :: B, w'.before args s = true := fun w' h' => (List.mem_cons.mp h').elim (fun e => by rw [e]; exact h) (t w')
theorem vx_n {args : Array Value} {s : State} : ∀ w ∈ ([] : List Cond), w.before args s = true := fun _ h => nomatch h
theorem vx_own {args : Array Value} {s : State} {L : List Cond} (h1 : ∀ w ∈ L.filter vx_no, w.before args s = true)
    (hU : (Cond.isRef (.static Bundle.tN "UNASSIGNED_STACK" Bundle.steD)).before args s = true) (hN : (Cond.isRef (.static Bundle.tN "SUPPRESSED_SENTINEL" Bundle.listD)).before args s = true)
    (lU : (Cond.laysStatic Bundle.tN "UNASSIGNED_STACK" Bundle.steD).before args s = true) (lN : (Cond.laysStatic Bundle.tN "SUPPRESSED_SENTINEL" Bundle.listD).before args s = true) : ∀ w ∈ L, w.before args s = true := by
  intro w hw
  by_cases e1 : w = .isRef (.static Bundle.tN "UNASSIGNED_STACK" Bundle.steD)
  · rw [e1]; exact hU
  · by_cases e2 : w = .isRef (.static Bundle.tN "SUPPRESSED_SENTINEL" Bundle.listD)
    · rw [e2]; exact hN
    · by_cases e3 : w = .laysStatic Bundle.tN "UNASSIGNED_STACK" Bundle.steD
      · rw [e3]; exact lU
      · by_cases e4 : w = .laysStatic Bundle.tN "SUPPRESSED_SENTINEL" Bundle.listD
        · rw [e4]; exact lN
        · exact h1 w (List.mem_filter.mpr ⟨hw, by unfold vx_no; rw [decide_eq_true e1, decide_eq_true e2, decide_eq_true e3, decide_eq_true e4]; rfl⟩)
/-- where a static field lies, its class's statics cell in H -/
def vx_L (C n d : String) (A : Nat → Prop) (U : State) (H : Heap) : Prop := ∃ (c : ClassId) (k : Class) (i : Nat) (f : Field) (a : Nat) (cell : Cell), U.vm.findClass C = some c ∧ U.fieldFound? C n d = some (c, k, i, f) ∧ f.isStatic = true ∧ k.statics = some a ∧ H[a]? = some cell ∧ cell.vm.isStatics = true ∧ cell.cls = c ∧ f.slot < cell.slots.size ∧ k.staticTypes[f.slot]? = some f.type ∧ ¬ A a
theorem vx_L.moved {C n d : String} {A : Nat → Prop} {u U : State} {H : Heap} (hvm : u.vm.Alike U.vm) (h : vx_L C n d A u H) : vx_L C n d A U H := by
  obtain ⟨c, k, i, f, a, cell, h1, h2, h3, h4, h5, h6, h7, h8, h9, h10⟩ := h
  obtain ⟨k', hi', he⟩ := State.fieldFound?_setVm hvm h2
  exact ⟨c, k', i, f, a, cell, by rw [hvm.findClass]; exact h1, hi', h3, by rw [he]; exact h4, h5, h6, h7, h8, by rw [he]; exact h9, h10⟩
theorem vx_L.kept {C n d : String} {A : Nat → Prop} {U : State} {H H1 : Heap} (h : vx_L C n d A U H) (hq : ∀ a : Nat, a < H.size → ¬ A a → H1[a]? = H[a]?) : vx_L C n d A U H1 := by
  obtain ⟨c, k, i, f, a, cell, h1, h2, h3, h4, h5, h6, h7, h8, h9, h10⟩ := h
  exact ⟨c, k, i, f, a, cell, h1, h2, h3, h4, by rw [hq a (Array.getElem?_eq_some_iff.mp h5).1 h10]; exact h5, h6, h7, h8, h9, h10⟩
theorem vx_L.narrow {C n d : String} {A B : Nat → Prop} {U : State} {H : Heap} (h : vx_L C n d A U H) (hAB : ∀ q, B q → A q) : vx_L C n d B U H := by
  obtain ⟨c, k, i, f, a, cell, h1, h2, h3, h4, h5, h6, h7, h8, h9, h10⟩ := h
  exact ⟨c, k, i, f, a, cell, h1, h2, h3, h4, h5, h6, h7, h8, h9, fun z => h10 (hAB _ z)⟩
theorem vx_L.word {C n d : String} {A : Nat → Prop} {s : State} {args : Array Value} (h : vx_L C n d A s s.heap) : (Cond.laysStatic C n d).before args s = true := by
  obtain ⟨c, k, i, f, a, cell, h1, h2, h3, h4, h5, h6, h7, h8, h9, -⟩ := h
  show (Cond.laysStatic C n d).holds args s none s [] = true
  exact Cond.laysStatic_of h1 h2 h3 h4 h5 h6 h7 h8 h9
/-- .. and what it holds: null or some reference -/
def vx_Zq (C n d : String) (A : Nat → Prop) (U : State) (H : Heap) : Prop := va_Zq C n d A U H ∧ vx_L C n d A U H
theorem vx_Zq.moved {C n d : String} {A : Nat → Prop} {u U : State} {H : Heap} (hvm : u.vm.Alike U.vm) (h : vx_Zq C n d A u H) : vx_Zq C n d A U H := ⟨va_Zq.moved hvm h.1, vx_L.moved hvm h.2⟩
theorem vx_Zq.kept {C n d : String} {A : Nat → Prop} {U : State} {H H1 : Heap} (h : vx_Zq C n d A U H) (hq : ∀ a : Nat, a < H.size → ¬ A a → H1[a]? = H[a]?) : vx_Zq C n d A U H1 := ⟨va_Zq.kept h.1 hq, vx_L.kept h.2 hq⟩
theorem vx_Zq.narrow {C n d : String} {A B : Nat → Prop} {U : State} {H : Heap} (h : vx_Zq C n d A U H) (hAB : ∀ q, B q → A q) : vx_Zq C n d B U H := ⟨va_Zq.narrow h.1 hAB, vx_L.narrow h.2 hAB⟩
theorem vx_Zqof {args : Array Value} {s : State} {C n d : String} {A : Nat → Prop} (hl : (Cond.laysStatic C n d).before args s = true) (hini : (Cond.initialized C).before args s = true) (h : (Cond.isRef (.static C n d)).before args s = true) (hA : ∀ a : Nat, a < s.heap.size → ¬ A a) : vx_Zq C n d A s s.heap := by
  refine ⟨va_Zqof hl hini h hA, ?_⟩
  obtain ⟨c, k, i, f, a, cell, h1, h2, h3, h4, h5, h6, h7, h8, h9⟩ := Cond.laysStatic_spec hl
  exact ⟨c, k, i, f, a, cell, h1, h2, h3, h4, h5, h6, h7, h8, h9, hA a (Array.getElem?_eq_some_iff.mp h5).1⟩
theorem vx_isRef {C n d : String} {v : Value} {A : Nat → Prop} {s : State} {args : Array Value} (h : va_Z C n d v A s s.heap) (hv : v.isRef = true) : (Cond.isRef (.static C n d)).before args s = true := by
  obtain ⟨cf, kf, fi, f, a, cell, h1, h2, h3, h4, h5, h6, h7, -⟩ := h
  have he : (Term.static C n d).eval args s none [] s = some v := by
    simp [Term.eval, State.fieldNamed?, h1, h2, h4, h5, h6, h7]
  simp only [Cond.before, Cond.holds, Cond.value, he]
  cases v <;> simp_all [Value.isRef]
theorem vx_isRefq {C n d : String} {A : Nat → Prop} {s : State} {args : Array Value} (h : va_Zq C n d A s s.heap) : (Cond.isRef (.static C n d)).before args s = true := by
  rcases h with h | ⟨t, h⟩
  · exact vx_isRef h rfl
  · exact vx_isRef h rfl
/-- the same frame, seen from here: as if the method were called anew in this heap -/
theorem vx_rebase {T : State} (X : Stand p l e R s m args below meth c T locs cells slots) {R' : Room} (hf : R'.frames ≤ R.frames) (hl : R'.locals ≤ R.locals) (hc : cells + R'.cells ≤ R.cells) (hs : slots + R'.slots ≤ R.slots) :
    Stand p l e R' ((T.setVm s.vm).setFrames (.invoking m args :: below)) m args below meth c T [] 0 0 := by
  have htop : (T.setVm s.vm).topJava?.isSome := X.here.top
  have hF : ((T.setVm s.vm).setFrames (.invoking m args :: below)).frames = .invoking m args :: below := State.frames_setFrames _ (State.cur_lt_of_top htop)
  obtain ⟨g₀, hg0⟩ := Option.isSome_iff_exists.mp htop
  obtain ⟨r, hr⟩ := State.topJava?_eq_some.mp hg0
  have hl9 : e.platform.stackLimits (T.setVm s.vm).me = e.platform.stackLimits s.me := X.limits
  have hb9 : (T.setVm s.vm).me.stackBytes = s.me.stackBytes := X.bytes
  refine ⟨X.admits, X.cas, X.clock, hF, ?_, X.hears, X.method, X.code, X.here, X.tail, X.warmed, ?_, ?_, ?_⟩
  · have h := X.room
    have hU : ((T.setVm s.vm).setFrames (.invoking m args :: below)).localsInUse = s.localsInUse := by
      rw [State.localsInUse_invoking hF (meth := meth) (c := c) X.method X.code, State.localsInUse_invoking X.frames X.method X.code]
    simp only [State.hasRoom, Bool.and_eq_true, decide_eq_true_eq] at h ⊢
    obtain ⟨⟨⟨⟨h1, h2, h3, h4, h5, h6⟩, h7⟩, h8⟩, h9⟩ := h
    rw [X.frames, List.length_cons] at h2 h3
    have q1 := X.heapSize
    have q2 := X.used
    simp only [hF, hU, List.length_cons, State.stackLimits_setFrames, State.stackBytes_setFrames, hl9, hb9]
    refine ⟨⟨⟨⟨by omega, by omega, by omega, by omega, by omega, h6⟩, ?_⟩, ?_⟩, X.book⟩
    · show T.heap.size + R'.cells ≤ e.platform.maxCells
      omega
    · show T.slotsUsed + R'.slots ≤ e.platform.maxSlots
      omega
  · rw [State.stackLimits_setFrames]; rfl
  · rw [State.stackBytes_setFrames]; rfl
  · refine ⟨?_, Nat.le_refl _, Nat.le_refl _, ?_, ?_, fun a c9 h9 => ⟨c9, h9, rfl, rfl, fun _ _ => rfl⟩⟩
    · obtain ⟨t, ht, -⟩ := State.frames_cons hr
      show T.setVm s.vm = { ((T.setVm s.vm).setFrames (.invoking m args :: below)).setFrames (T.setVm s.vm).frames with heap := T.heap, slotsUsed := T.slotsUsed }
      rw [State.setFrames_setFrames, State.setFrames_self ht]
      rfl
    · show T.slotsUsed = T.slotsUsed + ((T.heap.toList.drop T.heap.size).map (·.slots.size)).sum
      rw [List.drop_eq_nil_of_le (Nat.le_of_eq Array.length_toList)]
      rfl
    · show ((T.heap.toList.drop T.heap.size).map (·.slots.size)).sum ≤ 0
      rw [List.drop_eq_nil_of_le (Nat.le_of_eq Array.length_toList)]
      exact Nat.le_refl _
/-- 'throw new E()': new; dup; invokespecial; athrow -/
theorem vx_throw0 {cc : ByteArray} {pc : Nat} (hexec : p.tables.exec = Jvm.exec) (hb : c.code = cc) (hl : l.stackTraces = false) {own cls : String} {names : List String} {ik ic mc ms : Nat} {A : Nat → Prop}
    (hown : s.vm.findClass own = some m.cls) (hcls : Bundle.fit cls = true) (hnames : ∀ n ∈ names, Bundle.fit n = true)
    (hk : (Cond.classLink own ik cls).before args s = true) (hini : (Cond.initialized cls).before args s = true) (hat : ∀ w ∈ vx_at0 own ic cls names, w.before args s = true)
    (hgood : ∀ w ∈ Cond.classLink own ik cls :: Cond.initialized cls :: vx_at0 own ic cls names, vx_ot w = true)
    (hU : vx_Zq Bundle.tN "UNASSIGNED_STACK" Bundle.steD A s s.heap) (hN : vx_Zq Bundle.tN "SUPPRESSED_SENTINEL" Bundle.listD A s s.heap) (hS : va_S A s.heap H locs) (hsize : ls.size = c.maxLocals)
    (d0 : decode cc pc = .ok (.new ik, 3)) (d3 : decode cc (pc + 3) = .ok (.dup, 1)) (d4 : decode cc (pc + 4) = .ok (.invokespecial ic, 3)) (d7 : decode cc (pc + 7) = .ok (.athrow, 1))
    (hout : ∀ x ∈ c.exceptionTable.toList, covers x (pc + 7) = false)
    (hRframes : names.length + 3 < R.frames) (hRlocals : (rest.map fun v => v.category).sum + (13 * (names.length + 1) + 42) ≤ R.locals) (hRcells : cells + 1 ≤ R.cells) (hRslots : slots + 6 ≤ R.slots) (hlocks : meth.locks = false)
    (hx : ∀ t : State, s.vm.Alike t.vm → H.size ≤ t.heap.size → (∀ q : Nat, q < H.size → t.heap[q]? = H[q]?) → XC cls s t)
    (hf : ∀ z ∈ locs, free z.base) (hc : cells + 1 ≤ mc) (hs : slots + 6 ≤ ms) :
    W p l e R s m args below meth c H locs cells slots (vx_MQ below Qc XC args s mc ms free) (F0 m pc ls rest) := by
  intro T hT X
  have htr : e.platform.stackTraces = false := (show e.platform.stackTraces = l.stackTraces by rw [X.admits.platform]).trans hl
  have Y := vx_rebase X (R' := { frames := R.frames, locals := R.locals, cells := 1, slots := 6 }) (Nat.le_refl _) (Nat.le_refl _) hRcells hRslots
  obtain ⟨s', hA⟩ : ∃ z, z = (T.setVm s.vm).setFrames (.invoking m args :: below) := ⟨_, rfl⟩
  rw [← hA] at Y
  have hvm : s'.vm = s.vm := by rw [hA]; rfl
  have hhp : s'.heap = H := by rw [hA]; exact hT
  have hW0 : s.WarmedH s'.vm := by rw [hvm]; exact State.WarmedH.refl s
  have hat' : ∀ w ∈ vx_at0 own ic cls names, w.before args s' = true := fun w hw => vx_ot_at hW0 hvm.symm (hgood w (List.mem_cons_of_mem _ (List.mem_cons_of_mem _ hw))) (hat w hw)
  have hk' : (Cond.classLink own ik cls).before args s' = true := vx_ot_at hW0 hvm.symm (hgood _ List.mem_cons_self) hk
  have hini' : (Cond.initialized cls).before args s' = true := vx_ot_at hW0 hvm.symm (hgood _ (List.mem_cons_of_mem _ List.mem_cons_self)) hini
  have hU' : vx_Zq Bundle.tN "UNASSIGNED_STACK" Bundle.steD A s' s'.heap := by rw [hhp]; exact vx_Zq.moved hW0.alike (hU.kept hS.2.1)
  have hN' : vx_Zq Bundle.tN "SUPPRESSED_SENTINEL" Bundle.listD A s' s'.heap := by rw [hhp]; exact vx_Zq.moved hW0.alike (hN.kept hS.2.1)
  have h : ∀ w ∈ Bundle.ownAtoms0 own ic cls names, w.before args s' = true := vx_own hat' (vx_isRefq hU'.1) (vx_isRefq hN'.1) hU'.2.word hN'.2.word
  have hown' : s'.vm.findClass own = some m.cls := by rw [hvm]; exact hown
  have hins : (Cond.instantiable cls 6).before args s' = true := h _ (by simp [Bundle.ownAtoms0])
  obtain ⟨vm₁, cX, kX, hfX, hkX, -, -, X₁, st1⟩ := Y.newCold hexec (own := own) (C := cls) (index := ik) (n := 6) hown' hk' hins hini'
    (g := F0 m pc ls rest) rfl (by rw [hb]; exact d0) (Nat.le_refl _) (Nat.le_refl _)
  generalize hT1 : (T.setVm vm₁).pushCell { cls := cX, slots := kX.instanceTypes.map defaultValue, vm := .none } = T1 at X₁ st1
  have hcat : (Value.ref T.heap.size).category = 1 := rfl
  have hcellA : T1.heap[T.heap.size]? = some (freshCell cX kX) := by rw [← hT1]; exact State.heap_pushCell_size _ _
  have d3' : decode c.code (pc + 3) = .ok (.dup, 1) := by rw [hb]; exact d3
  obtain ⟨U, hsteps, hrun, hend, hW, hsame, ce, hce, hO⟩ := X₁.ctorThrow0 hexec htr (own := own) (cls := cls) (names := names) (ic := ic) hown' hcls hnames h (fun x hx => nomatch hx) hfX hkX hcellA (by rw [hhp, hT]; exact Nat.le_refl _)
    (g := { method := m, pc := pc + 4, locals := ls, stack := .ref T.heap.size :: .ref T.heap.size :: rest, locked := none }) rfl hsize rfl rfl (rest := rest) rfl
    (by rw [hb]; exact d4) (by rw [hb]; exact d7) hout hRframes (by simp only [List.map_cons, List.sum_cons, hcat]; omega) hlocks
  obtain ⟨f1, f2⟩ := vx_frame hsame
  rw [hhp] at f1 f2
  have hWs : s.WarmedH U.vm := State.WarmedH.trans hW0 hW
  have hcl : s.vm.findClass cls = some ce.cls := by
    have h9 := hO.cls
    rw [hvm] at h9
    exact h9
  have hall : s.sameButNew ({ U with vm := s.vm } : State) locs mc ms := by
    subst hA
    obtain ⟨e1, e2⟩ := hsame
    rw [State.setFrames_setFrames] at e1
    have h2 : (T.setVm s.vm).sameButNew ({ U with vm := s.vm } : State) [] (0 + 1) (0 + 6) := ⟨e1, e2⟩
    have h3 := X.same.trans h2
    rw [List.append_nil] at h3
    exact h3.mono hc hs
  refine ⟨U, ?_, .threw T.heap.size, hrun, hend, Or.inr ⟨T.heap.size, rfl, cls, ce, locs, hx U hWs.alike f1 (fun q hq => f2 q hq (fun z hz => nomatch hz)), hce, hO.vm, hcl, hWs, hall, hf⟩⟩
  refine st1 _ ?_
  show Steps p.tables e below (T1.setTop { method := m, pc := pc + 3, locals := ls, stack := .ref T.heap.size :: rest, locked := none }) _
  jvm_step X₁.here [X₁.here.top, hexec, d3', Value.category]
  exact hsteps
/-- 'throw new E("text")': new; dup; ldc; invokespecial; athrow -/
theorem vx_throwS {cc : ByteArray} {pc : Nat} (hexec : p.tables.exec = Jvm.exec) (hb : c.code = cc) (hl : l.stackTraces = false) {own cls text : String} {names : List String} {ik is ic mc ms sa : Nat} {A : Nat → Prop}
    (hown : s.vm.findClass own = some m.cls) (hcls : Bundle.fit cls = true) (hnames : ∀ n ∈ names, Bundle.fit n = true)
    (hk : (Cond.classLink own ik cls).before args s = true) (hini : (Cond.initialized cls).before args s = true) (hstr : vk_R own is text sa s) (hat : ∀ w ∈ vx_atS own ic cls names, w.before args s = true)
    (hgood : ∀ w ∈ Cond.classLink own ik cls :: Cond.initialized cls :: vx_atS own ic cls names, vx_ot w = true)
    (hU : vx_Zq Bundle.tN "UNASSIGNED_STACK" Bundle.steD A s s.heap) (hN : vx_Zq Bundle.tN "SUPPRESSED_SENTINEL" Bundle.listD A s s.heap) (hS : va_S A s.heap H locs) (hsize : ls.size = c.maxLocals)
    (d0 : decode cc pc = .ok (.new ik, 3)) (d3 : decode cc (pc + 3) = .ok (.dup, 1)) (d4 : decode cc (pc + 4) = .ok (.ldc is, 2)) (d6 : decode cc (pc + 6) = .ok (.invokespecial ic, 3)) (d9 : decode cc (pc + 9) = .ok (.athrow, 1))
    (hout : ∀ x ∈ c.exceptionTable.toList, covers x (pc + 9) = false)
    (hRframes : names.length + 3 < R.frames) (hRlocals : (rest.map fun v => v.category).sum + (13 * (names.length + 1) + 43) ≤ R.locals) (hRcells : cells + 1 ≤ R.cells) (hRslots : slots + 6 ≤ R.slots) (hlocks : meth.locks = false)
    (hx : ∀ t : State, s.vm.Alike t.vm → H.size ≤ t.heap.size → (∀ q : Nat, q < H.size → t.heap[q]? = H[q]?) → XC cls s t)
    (hf : ∀ z ∈ locs, free z.base) (hc : cells + 1 ≤ mc) (hs : slots + 6 ≤ ms) :
    W p l e R s m args below meth c H locs cells slots (vx_MQ below Qc XC args s mc ms free) (F0 m pc ls rest) := by
  intro T hT X
  have htr : e.platform.stackTraces = false := (show e.platform.stackTraces = l.stackTraces by rw [X.admits.platform]).trans hl
  have Y := vx_rebase X (R' := { frames := R.frames, locals := R.locals, cells := 1, slots := 6 }) (Nat.le_refl _) (Nat.le_refl _) hRcells hRslots
  obtain ⟨s', hA⟩ : ∃ z, z = (T.setVm s.vm).setFrames (.invoking m args :: below) := ⟨_, rfl⟩
  rw [← hA] at Y
  have hvm : s'.vm = s.vm := by rw [hA]; rfl
  have hhp : s'.heap = H := by rw [hA]; exact hT
  have hW0 : s.WarmedH s'.vm := by rw [hvm]; exact State.WarmedH.refl s
  have hat' : ∀ w ∈ vx_atS own ic cls names, w.before args s' = true := fun w hw => vx_ot_at hW0 hvm.symm (hgood w (List.mem_cons_of_mem _ (List.mem_cons_of_mem _ hw))) (hat w hw)
  have hk' : (Cond.classLink own ik cls).before args s' = true := vx_ot_at hW0 hvm.symm (hgood _ List.mem_cons_self) hk
  have hini' : (Cond.initialized cls).before args s' = true := vx_ot_at hW0 hvm.symm (hgood _ (List.mem_cons_of_mem _ List.mem_cons_self)) hini
  have hU' : vx_Zq Bundle.tN "UNASSIGNED_STACK" Bundle.steD A s' s'.heap := by rw [hhp]; exact vx_Zq.moved hW0.alike (hU.kept hS.2.1)
  have hN' : vx_Zq Bundle.tN "SUPPRESSED_SENTINEL" Bundle.listD A s' s'.heap := by rw [hhp]; exact vx_Zq.moved hW0.alike (hN.kept hS.2.1)
  have h : ∀ w ∈ Bundle.ownAtoms own ic cls names, w.before args s' = true := vx_own hat' (vx_isRefq hU'.1) (vx_isRefq hN'.1) hU'.2.word hN'.2.word
  have hown' : s'.vm.findClass own = some m.cls := by rw [hvm]; exact hown
  have hins : (Cond.instantiable cls 6).before args s' = true := h _ (by simp [Bundle.ownAtoms])
  obtain ⟨vm₁, cX, kX, hfX, hkX, -, -, X₁, st1⟩ := Y.newCold hexec (own := own) (C := cls) (index := ik) (n := 6) hown' hk' hins hini'
    (g := F0 m pc ls rest) rfl (by rw [hb]; exact d0) (Nat.le_refl _) (Nat.le_refl _)
  generalize hT1 : (T.setVm vm₁).pushCell { cls := cX, slots := kX.instanceTypes.map defaultValue, vm := .none } = T1 at X₁ st1
  have hcat : (Value.ref T.heap.size).category = 1 := rfl
  have hcellA : T1.heap[T.heap.size]? = some (freshCell cX kX) := by rw [← hT1]; exact State.heap_pushCell_size _ _
  have d3' : decode c.code (pc + 3) = .ok (.dup, 1) := by rw [hb]; exact d3
  have d4' : decode c.code (pc + 4) = .ok (.ldc is, 2) := by rw [hb]; exact d4
  have hstr' : vk_R own is text sa s' := vk_R.warm hW0 hstr
  obtain ⟨U, hsteps, hrun, hend, hW, hsame, ce, hce, hO⟩ := X₁.ctorThrowS hexec htr (own := own) (cls := cls) (names := names) (ic := ic) hown' hcls hnames h (fun x hx => nomatch hx) hfX hkX hcellA (by rw [hhp, hT]; exact Nat.le_refl _) (msg := .ref sa) rfl
    (g := { method := m, pc := pc + 6, locals := ls, stack := .ref sa :: .ref T.heap.size :: .ref T.heap.size :: rest, locked := none }) rfl hsize rfl rfl (rest := rest) rfl
    (by rw [hb]; exact d6) (by rw [hb]; exact d9) hout hRframes (by simp only [List.map_cons, List.sum_cons, hcat]; omega) hlocks
  obtain ⟨f1, f2⟩ := vx_frame hsame
  rw [hhp] at f1 f2
  have hWs : s.WarmedH U.vm := State.WarmedH.trans hW0 hW
  have hcl : s.vm.findClass cls = some ce.cls := by
    have h9 := hO.cls
    rw [hvm] at h9
    exact h9
  have hall : s.sameButNew ({ U with vm := s.vm } : State) locs mc ms := by
    subst hA
    obtain ⟨e1, e2⟩ := hsame
    rw [State.setFrames_setFrames] at e1
    have h2 : (T.setVm s.vm).sameButNew ({ U with vm := s.vm } : State) [] (0 + 1) (0 + 6) := ⟨e1, e2⟩
    have h3 := X.same.trans h2
    rw [List.append_nil] at h3
    exact h3.mono hc hs
  refine ⟨U, ?_, .threw T.heap.size, hrun, hend, Or.inr ⟨T.heap.size, rfl, cls, ce, locs, hx U hWs.alike f1 (fun q hq => f2 q hq (fun z hz => nomatch hz)), hce, hO.vm, hcl, hWs, hall, hf⟩⟩
  refine st1 _ ?_
  show Steps p.tables e below (T1.setTop { method := m, pc := pc + 3, locals := ls, stack := .ref T.heap.size :: rest, locked := none }) _
  jvm_step X₁.here [X₁.here.top, hexec, d3', Value.category]
  exact X₁.ldcString hexec (own := own) (text := text) (index := is) (a := sa) hown' hstr'.1 hstr'.2
    (g := { method := m, pc := pc + 4, locals := ls, stack := .ref T.heap.size :: .ref T.heap.size :: rest, locked := none }) rfl d4' _ hsteps
/-- 'throw new E("text")', the text by a wide index -/
theorem vx_throwSW {cc : ByteArray} {pc : Nat} (hexec : p.tables.exec = Jvm.exec) (hb : c.code = cc) (hl : l.stackTraces = false) {own cls text : String} {names : List String} {ik is ic mc ms sa : Nat} {A : Nat → Prop}
    (hown : s.vm.findClass own = some m.cls) (hcls : Bundle.fit cls = true) (hnames : ∀ n ∈ names, Bundle.fit n = true)
    (hk : (Cond.classLink own ik cls).before args s = true) (hini : (Cond.initialized cls).before args s = true) (hstr : vk_R own is text sa s) (hat : ∀ w ∈ vx_atS own ic cls names, w.before args s = true)
    (hgood : ∀ w ∈ Cond.classLink own ik cls :: Cond.initialized cls :: vx_atS own ic cls names, vx_ot w = true)
    (hU : vx_Zq Bundle.tN "UNASSIGNED_STACK" Bundle.steD A s s.heap) (hN : vx_Zq Bundle.tN "SUPPRESSED_SENTINEL" Bundle.listD A s s.heap) (hS : va_S A s.heap H locs) (hsize : ls.size = c.maxLocals)
    (d0 : decode cc pc = .ok (.new ik, 3)) (d3 : decode cc (pc + 3) = .ok (.dup, 1)) (d4 : decode cc (pc + 4) = .ok (.ldc_w is, 3)) (d7 : decode cc (pc + 7) = .ok (.invokespecial ic, 3)) (d10 : decode cc (pc + 10) = .ok (.athrow, 1))
    (hout : ∀ x ∈ c.exceptionTable.toList, covers x (pc + 10) = false)
    (hRframes : names.length + 3 < R.frames) (hRlocals : (rest.map fun v => v.category).sum + (13 * (names.length + 1) + 43) ≤ R.locals) (hRcells : cells + 1 ≤ R.cells) (hRslots : slots + 6 ≤ R.slots) (hlocks : meth.locks = false)
    (hx : ∀ t : State, s.vm.Alike t.vm → H.size ≤ t.heap.size → (∀ q : Nat, q < H.size → t.heap[q]? = H[q]?) → XC cls s t)
    (hf : ∀ z ∈ locs, free z.base) (hc : cells + 1 ≤ mc) (hs : slots + 6 ≤ ms) :
    W p l e R s m args below meth c H locs cells slots (vx_MQ below Qc XC args s mc ms free) (F0 m pc ls rest) := by
  intro T hT X
  have htr : e.platform.stackTraces = false := (show e.platform.stackTraces = l.stackTraces by rw [X.admits.platform]).trans hl
  have Y := vx_rebase X (R' := { frames := R.frames, locals := R.locals, cells := 1, slots := 6 }) (Nat.le_refl _) (Nat.le_refl _) hRcells hRslots
  obtain ⟨s', hA⟩ : ∃ z, z = (T.setVm s.vm).setFrames (.invoking m args :: below) := ⟨_, rfl⟩
  rw [← hA] at Y
  have hvm : s'.vm = s.vm := by rw [hA]; rfl
  have hhp : s'.heap = H := by rw [hA]; exact hT
  have hW0 : s.WarmedH s'.vm := by rw [hvm]; exact State.WarmedH.refl s
  have hat' : ∀ w ∈ vx_atS own ic cls names, w.before args s' = true := fun w hw => vx_ot_at hW0 hvm.symm (hgood w (List.mem_cons_of_mem _ (List.mem_cons_of_mem _ hw))) (hat w hw)
  have hk' : (Cond.classLink own ik cls).before args s' = true := vx_ot_at hW0 hvm.symm (hgood _ List.mem_cons_self) hk
  have hini' : (Cond.initialized cls).before args s' = true := vx_ot_at hW0 hvm.symm (hgood _ (List.mem_cons_of_mem _ List.mem_cons_self)) hini
  have hU' : vx_Zq Bundle.tN "UNASSIGNED_STACK" Bundle.steD A s' s'.heap := by rw [hhp]; exact vx_Zq.moved hW0.alike (hU.kept hS.2.1)
  have hN' : vx_Zq Bundle.tN "SUPPRESSED_SENTINEL" Bundle.listD A s' s'.heap := by rw [hhp]; exact vx_Zq.moved hW0.alike (hN.kept hS.2.1)
  have h : ∀ w ∈ Bundle.ownAtoms own ic cls names, w.before args s' = true := vx_own hat' (vx_isRefq hU'.1) (vx_isRefq hN'.1) hU'.2.word hN'.2.word
  have hown' : s'.vm.findClass own = some m.cls := by rw [hvm]; exact hown
  have hins : (Cond.instantiable cls 6).before args s' = true := h _ (by simp [Bundle.ownAtoms])
  obtain ⟨vm₁, cX, kX, hfX, hkX, -, -, X₁, st1⟩ := Y.newCold hexec (own := own) (C := cls) (index := ik) (n := 6) hown' hk' hins hini'
    (g := F0 m pc ls rest) rfl (by rw [hb]; exact d0) (Nat.le_refl _) (Nat.le_refl _)
  generalize hT1 : (T.setVm vm₁).pushCell { cls := cX, slots := kX.instanceTypes.map defaultValue, vm := .none } = T1 at X₁ st1
  have hcat : (Value.ref T.heap.size).category = 1 := rfl
  have hcellA : T1.heap[T.heap.size]? = some (freshCell cX kX) := by rw [← hT1]; exact State.heap_pushCell_size _ _
  have d3' : decode c.code (pc + 3) = .ok (.dup, 1) := by rw [hb]; exact d3
  have d4' : decode c.code (pc + 4) = .ok (.ldc_w is, 3) := by rw [hb]; exact d4
  have hstr' : vk_R own is text sa s' := vk_R.warm hW0 hstr
  obtain ⟨U, hsteps, hrun, hend, hW, hsame, ce, hce, hO⟩ := X₁.ctorThrowS hexec htr (own := own) (cls := cls) (names := names) (ic := ic) hown' hcls hnames h (fun x hx => nomatch hx) hfX hkX hcellA (by rw [hhp, hT]; exact Nat.le_refl _) (msg := .ref sa) rfl
    (g := { method := m, pc := pc + 7, locals := ls, stack := .ref sa :: .ref T.heap.size :: .ref T.heap.size :: rest, locked := none }) rfl hsize rfl rfl (rest := rest) rfl
    (by rw [hb]; exact d7) (by rw [hb]; exact d10) hout hRframes (by simp only [List.map_cons, List.sum_cons, hcat]; omega) hlocks
  obtain ⟨f1, f2⟩ := vx_frame hsame
  rw [hhp] at f1 f2
  have hWs : s.WarmedH U.vm := State.WarmedH.trans hW0 hW
  have hcl : s.vm.findClass cls = some ce.cls := by
    have h9 := hO.cls
    rw [hvm] at h9
    exact h9
  have hall : s.sameButNew ({ U with vm := s.vm } : State) locs mc ms := by
    subst hA
    obtain ⟨e1, e2⟩ := hsame
    rw [State.setFrames_setFrames] at e1
    have h2 : (T.setVm s.vm).sameButNew ({ U with vm := s.vm } : State) [] (0 + 1) (0 + 6) := ⟨e1, e2⟩
    have h3 := X.same.trans h2
    rw [List.append_nil] at h3
    exact h3.mono hc hs
  refine ⟨U, ?_, .threw T.heap.size, hrun, hend, Or.inr ⟨T.heap.size, rfl, cls, ce, locs, hx U hWs.alike f1 (fun q hq => f2 q hq (fun z hz => nomatch hz)), hce, hO.vm, hcl, hWs, hall, hf⟩⟩
  refine st1 _ ?_
  show Steps p.tables e below (T1.setTop { method := m, pc := pc + 3, locals := ls, stack := .ref T.heap.size :: rest, locked := none }) _
  jvm_step X₁.here [X₁.here.top, hexec, d3', Value.category]
  exact X₁.ldcStringW hexec (own := own) (text := text) (index := is) (a := sa) hown' hstr'.1 hstr'.2
    (g := { method := m, pc := pc + 4, locals := ls, stack := .ref T.heap.size :: .ref T.heap.size :: rest, locked := none }) rfl d4' _ hsteps
end Ends
section Bodies
variable {l : Launch}
theorem vx_ofW {y : MethodName} {ws ws' : List Cond} {rm : Room} {Pc : Array Value → State → Prop} {Qc : Array Value → State → Outcome → State → Prop} {XC : String → State → State → Prop} {mc ms : Nat} {free : Addr → Prop} {cc : ByteArray} {maxL : Nat} {ret : Option FieldType}
    (hy : plainName y.cls = true) (hw : ws = Cond.code y cc maxL ret :: ws')
    (body : ∀ p e s m args below meth c s₁, BodyLoose p l y (headSpec ws rm) cc maxL ret e s m args below meth c s₁ → c.maxLocals = maxL → (∀ x ∈ c.exceptionTable.toList, False) → Pc args s →
      W p l e (headSpec ws rm).room s m args below meth c s.heap [] 0 0 (vx_MQ below Qc XC args s mc ms free) (entryFrame m args maxL)) : vx_Met l y ws rm Pc Qc XC mc ms free := by
  refine MetFree.of_bodyS (code := cc) (maxLocals := maxL) (ret := ret) hy ?_ ?_
  · intro args s m h hn
    obtain ⟨meth, c, h1, h2, h3, h4, h5, h6, -, -⟩ := Cond.code_spec hn (atoms_spec (ws := ws) h _ (by rw [hw]; exact List.mem_cons_self))
    exact ⟨meth, c, h1, h2, h3, h4, h5, h6⟩
  · intro p e s m args below meth c s₁ B hml hP _
    have hh0 : s₁.heap = s.heap := by rw [B.state]; rfl
    have ht : ∀ x ∈ c.exceptionTable.toList, False := by
      obtain ⟨meth9, c9, h1, h2, -, -, -, -, h7, -⟩ := Cond.code_spec B.named (atoms_spec (ws := ws) B.pre _ (by rw [hw]; exact List.mem_cons_self))
      cases Option.some.inj (h1.symm.trans B.method)
      cases Option.some.inj (h2.symm.trans (Stand.of_body B).code)
      intro x hx
      rw [Array.isEmpty_iff.mp h7] at hx
      cases hx
    obtain ⟨t, a1, o, b1, b2, b3⟩ := body p e s m args below meth c s₁ B hml ht hP s₁ hh0 (Stand.of_body B)
    exact ⟨t, o, a1, b1, b2, b3⟩
/-- the table of a body with handlers -/
theorem vx_table {p : Program} {x y : MethodName} {S : Spec} {cc bytes : ByteArray} {maxL maxL' : Nat} {ret ret' : Option FieldType} {e : Env} {s s₁ : State} {m : MethodId} {args : Array Value} {below : List Frame} {meth : Method} {c : Code} {hh : List (Nat × Nat × Nat × Nat)}
    (B : BodyLoose p l y S cc maxL ret e s m args below meth c s₁) (h : (Cond.codeWith y bytes maxL' ret' hh).before args s = true) : c.exceptionTable.toList = tableOf hh := by
  obtain ⟨m9, meth9, c9, hn9, h1, h2, -, -, h6, -⟩ := Cond.codeWith_spec h
  cases Option.some.inj (hn9.symm.trans B.named)
  cases Option.some.inj (h1.symm.trans B.method)
  cases Option.some.inj (h2.symm.trans (Stand.of_body B).code)
  rw [← h6, table_eq]
end Bodies
end VXA
/-! ===== END ===== -/
/-! ===== BEGIN a static call of a method with an exception table ===== -/
section VXS
variable {p : Program} {l : Launch} {e : Env} {R : Room} {s : State} {m : MethodId} {args : Array Value} {below : List Frame} {meth : Method} {c : Code} {T : State} {H : Heap} {locs : List Loc} {cells slots : Nat}
abbrev vx_CSW (R : Room) (s : State) (args : Array Value) (own : String) (index : Nat) (y : MethodName) (bytes : ByteArray) (maxL : Nat) (ret : Option FieldType) (hh : List (Nat × Nat × Nat × Nat)) (ws : List Cond) (rm : Room) (mc ms n : Nat) : Prop :=
  (rm.cells = mc ∧ rm.slots = ms ∧ rm.frames + 1 ≤ R.frames ∧ 8 + (maxL + 11) + rm.locals ≤ R.locals ∧ (∀ w ∈ ws, ∀ (a' : Array Value) (U : State), s.WarmedH U.vm → w.before a' U = true) ∧ Cond.codeWith y bytes maxL ret hh ∈ ws) ∧
  (Cond.codeWith y bytes maxL ret hh).before args s = true ∧ (Cond.initialized y.cls).before args s = true ∧ (y.cls ≠ "java/lang/invoke/MethodHandle" ∧ y.cls ≠ "java/lang/invoke/VarHandle") ∧
  (∀ sig, parseMethodDescriptor y.desc = some sig → n = sig.parameters.length) ∧ (Cond.methodLink own index y).before args s = true ∧ (Cond.static y).before args s = true
theorem vx_cwSW {own : String} {index maxL mc ms : Nat} {y : MethodName} {bytes : ByteArray} {ret : Option FieldType} {hh : List (Nat × Nat × Nat × Nat)} {Ts ws ws' : List Cond} {rm : Room} (n : Nat) (ht : ∀ w ∈ Ts, w.before args s = true) (hT : GoodIn Ts (va_wsS own index y ws)) (hw : ws = Cond.codeWith y bytes maxL ret hh :: ws') (hrc : rm.cells = mc) (hrs : rm.slots = ms)
    (hd : y.cls ≠ "java/lang/invoke/MethodHandle" ∧ y.cls ≠ "java/lang/invoke/VarHandle" ∧ (parseMethodDescriptor y.desc).map (fun d => d.parameters.length) = some n) (hR : rm.frames + 1 ≤ R.frames ∧ 8 + (maxL + 11) + rm.locals ≤ R.locals) :
    vx_CSW R s args own index y bytes maxL ret hh ws rm mc ms n := by
  have ok : ∀ w ∈ va_wsS own index y ws, w.before args s = true := fun w h => ht w (hT w h).1
  have hG : GoodIn Ts ws := fun w h => hT w (by unfold va_wsS; exact List.mem_append_right _ h)
  have hc : Cond.codeWith y bytes maxL ret hh ∈ ws := by rw [hw]; exact List.mem_cons_self
  refine ⟨⟨hrc, hrs, hR.1, hR.2, pay_in ht hG, hc⟩, ht _ (hG _ hc).1, ok _ (by simp [va_wsS]), ⟨hd.1, hd.2.1⟩, fun sig h => ?_, ok _ (by simp [va_wsS]), ok _ (by simp [va_wsS])⟩
  have h2 := hd.2.2
  rw [h] at h2
  exact (Option.some.inj h2).symm
theorem vx_callSW (X : Stand p l e R s m args below meth c T locs cells slots) (hexec : p.tables.exec = Jvm.exec) {own : String} {index : Nat} {y : MethodName} {bytes : ByteArray} {maxL : Nat} {ret : Option FieldType} {hh : List (Nat × Nat × Nat × Nat)}
    (hown : s.vm.findClass own = some m.cls) (hlink : (Cond.methodLink own index y).before args s = true) (hstat : (Cond.static y).before args s = true) (hinit : (Cond.initialized y.cls).before args s = true)
    (hcode : (Cond.codeWith y bytes maxL ret hh).before args s = true) (hy : y.cls ≠ "java/lang/invoke/MethodHandle" ∧ y.cls ≠ "java/lang/invoke/VarHandle")
    {W9 : Nat} {Pre : Pt → Array Value → Prop} {Post : Pt → Array Value → Option Value → Pt → Prop} (hK : Back l R p e below s args y 3 W9 Pre Post)
    {g : JFrame} (hg : g.method = m) (hsize : g.locals.size = c.maxLocals) {argsL rest : List Value} (hlen : ∀ sig, parseMethodDescriptor y.desc = some sig → argsL.length = sig.parameters.length)
    (hstack : g.stack = argsL.reverse ++ rest) (hW : 2 * g.monitorRoom + (rest.map fun v => v.category).sum ≤ W9) (hdg : decode c.code g.pc = .ok (.invokestatic index, 3))
    (hpre : ∀ vm₁, s.WarmedH vm₁ → Pre ⟨T.setVm vm₁, locs, cells, slots⟩ argsL.toArray) :
    ∃ (v : Option Value) (vm₁ : Vm) (B : Pt), s.WarmedH vm₁ ∧ Stand p l e R s m args below meth c B.U B.locs B.cells B.slots ∧ Post ⟨T.setVm vm₁, locs, cells, slots⟩ argsL.toArray v B ∧
      ∀ target, Steps p.tables e below (B.U.setTop { g with pc := g.pc + 3, stack := v.toList ++ rest }) target → Steps p.tables e below (T.setTop g) target := by
  obtain ⟨mk, methM, cM, hnamed, hmethM, -, -, -, -, -, -, hsigM⟩ := Cond.codeWith_spec hcode
  have hstatic : methM.isStatic = true := Cond.static_spec hnamed hmethM hstat
  obtain ⟨kP, hkP, -⟩ := className_of_methodNamed hnamed
  have hinitP : kP.init = .initialized := Cond.initialized_spec (findClass_of_methodNamed hnamed) hkP hinit
  obtain ⟨vm₁, X₁, hstep₁⟩ := X.invokestatic hexec hown hlink hnamed hmethM hstatic hkP hinitP hy (g := g) hg (argsL := argsL) (rest := rest) (hlen _ hsigM) hstack hdg
  obtain ⟨v, B, X', hpost, hsteps⟩ := hK m meth c ⟨T.setVm vm₁, locs, cells, slots⟩ { g with stack := rest } (.invokestatic index) mk argsL.toArray X₁ hg hsize hdg hW (X₁.named hnamed) (hpre vm₁ X₁.warmed)
  exact ⟨v, vm₁, B, X₁.warmed, X', hpost, fun target h => hstep₁ _ fun acts => by rw [doInvoke_state]; exact hsteps.trans h⟩
theorem vx_runSW {y : MethodName} {bytes cc : ByteArray} {maxL nL mc ms n index : Nat} {ret : Option FieldType} {hh : List (Nat × Nat × Nat × Nat)} {ws : List Cond} {rm : Room} {Pc : Array Value → State → Prop} {Qc : Array Value → State → Outcome → State → Prop} {free : Addr → Prop} {Ts : List Cond} {own : String} {As rest : List Value} {g : JFrame}
    (S : CallFix p m c cc nL s args Ts own) (hM : Met l y ws rm Pc Qc mc ms free) (cw : vx_CSW R s args own index y bytes maxL ret hh ws rm mc ms n) (hp : PreS s H Pc As)
    (hg : g.method = m) (hn : As.length = n) (hsize : g.locals.size = nL) (hstack : g.stack = As.reverse ++ rest) (hW : 2 * g.monitorRoom + (rest.map fun v => v.category).sum ≤ 8) (hdg : decode cc g.pc = .ok (.invokestatic index, 3)) (hf : cells + mc ≤ R.cells ∧ slots + ms ≤ R.slots) :
    va_Run p l e R s m args below meth c H locs cells slots mc ms g rest (Qc As.toArray) (free) := by
  obtain ⟨⟨hrc, hrs, hfr, hlo, hws, hcw⟩, hcode, hini, hy, hlen, hl, hstt⟩ := cw
  have hK : Back l R p e below s args y 3 8 (PreOf R mc ms Pc) (PostOf Qc mc ms free) := va_backW (hh := hh) (bytes := bytes) (maxL := maxL) (ret := ret) hM hp.1 hrc hrs hfr hlo hws hcw (fun a' U hW => word_at hW (Or.inl (by first | rfl | simp [Cond.onTables, Cond.keeps, Cond.steady])) hini)
  obtain ⟨hx, hb, hml, ho, -⟩ := S
  intro T hT X
  obtain ⟨v, vm₁, ⟨U', l2, c2, s2⟩, hW₁, X', ⟨g', mk, t, L, e1, e2, hq, h1, hL, h2, h3⟩, st⟩ := vx_callSW X hx (hh := hh) (bytes := bytes) (maxL := maxL) (ret := ret) ho hl hstt hini hcode hy hK hg (hsize.trans hml.symm) (argsL := As) (rest := rest) (fun sig h => hn.trans (hlen sig h)) hstack hW (by rw [hb]; exact hdg)
    (fun vm₁ hW₁ => ⟨hf.1, hf.2, hp.2 (T.setVm vm₁) hT hW₁⟩)
  dsimp only [Pt.U, Pt.locs, Pt.cells, Pt.slots] at X' e1 e2 h1 h2 h3 st
  subst h1; subst h2; subst h3
  exact ⟨v, (T.setVm vm₁).calling g' mk As.toArray, t, U', L, hT, X', hL, e1, e2, hq, st⟩
/-- not caught here, past rows that name other classes: it goes on to the caller -/
theorem vx_outP {p : Program} {l : Launch} {e : Env} {R : Room} {s : State} {m : MethodId} {args : Array Value} {below : List Frame} {meth : Method} {c : Code} {H : Heap} {locs : List Loc} {cells slots : Nat} {free : Addr → Prop} {ls : Array Slot} {rest : List Value} {Qc : Array Value → State → Outcome → State → Prop} {XC : String → State → State → Prop}
    {pc : Nat} {own E : String} {ce : Cell} {q : Addr} {mc ms : Nat} (hown : s.vm.findClass own = some m.cls) (hlocks : meth.locks = false)
    (hpass : ∀ z ∈ c.exceptionTable.toList, covers z pc = false ∨ (z.catchType ≠ 0 ∧ ∃ nm : String, (Cond.classLink own z.catchType nm).before args s = true ∧ va_Nc E nm s)) (hcell : H[q]? = some ce) (hv : ce.vm = .none) (hcl : s.vm.findClass E = some ce.cls)
    (hx : ∀ t : State, t.heap = H → s.vm.Alike t.vm → XC E s t) (hf : ∀ z ∈ locs, free z.base) (hc : cells ≤ mc) (hs : slots ≤ ms) :
    vx_W p l e R s m args below meth c H locs cells slots (vx_MQ below Qc XC args s mc ms free) (F0 m pc ls rest) q := by
  intro T hT X
  have hpl : e.platform.magicAccessors = ({} : Platform).magicAccessors := by rw [X.admits.platform]
  obtain ⟨vm', hW', X', st⟩ := X.outThrough hlocks q (g := F0 m pc ls rest) rfl rfl rfl (cell := ce) (by rw [hT]; exact hcell) (by rw [hv]; rfl)
    (by obtain ⟨k9, h9, -⟩ := Vm.findClass_spec hcl; exact ⟨k9, h9⟩) (fun z hz => by
      rcases hpass z hz with h | ⟨hz0, nm, hl1, hn1⟩
      · exact Or.inl h
      · obtain ⟨c6, hc6, hcl6⟩ := Cond.classLink_spec hown hl1 e.platform hpl
        obtain ⟨a8, b8, h1, h2, h3⟩ := hn1
        cases Option.some.inj (h1.symm.trans hcl)
        cases Option.some.inj (h2.symm.trans hc6)
        exact Or.inr ⟨hz0, _, hcl6, h3⟩)
  obtain ⟨g₀, hfr⟩ := X'.frames_eq
  have hcell9 : ((T.setVm vm').setFrames (.throwing q :: below)).heap[q]? = some ce := by
    show T.heap[q]? = some ce
    rw [hT]; exact hcell
  have hend : Ended ((T.setVm vm').setFrames (.throwing q :: below)) below (.threw q) := State.frames_setFrames _ (State.cur_lt_of_frames hfr)
  refine ⟨(T.setVm vm').setFrames (.throwing q :: below), ?_, .threw q, X'.here.running, hend, Or.inr ⟨q, rfl, E, ce, locs, hx _ hT (X'.ends _).1.alike, hcell9, hv, hcl, (X'.ends _).1, (X'.ends _).2.mono hc hs, hf⟩⟩
  rw [X.pushThrowing_eq]
  exact st
/-- a thing of a world lies in the heap -/
theorem vx_lt {D : va_G} {cl : List vw_C} {ws : va_W} {H1 : Heap} (h : va_P D cl ws H1) {k : Nat} {q : Nat × va_E} (hk : ws[k]? = some q) : q.1 < H1.size := (h k q hk).lt
end VXS
/-! ===== END ===== -/
/-! ===== BEGIN methods with a table of their own: called by a name, returning or throwing ===== -/
section VXH
/-! vx_backW, vx_callVX, vx_callSX, vx_callVW, vx_runVW, vx_runVX, vx_runSX, vx_ofWH follow the same proofs as their sisters above (Free/Laws.lean, Shelf42/LK1.lean); vx_outP calls Shelf42/NT130.lean (outThrough). -/
section
variable {l : Launch} {R : Room} {p : Program} {e : Env} {below : List Frame} {s : State} {sargs : Array Value} {y : MethodName} {len W9 : Nat}
theorem vx_backW {ws : List Cond} {rm : Room} {Pc : Array Value → State → Prop} {Qc : Array Value → State → Outcome → State → Prop} {XC : String → State → State → Prop} {mc ms : Nat} {free : Addr → Prop} {bytes : ByteArray} {maxL : Nat} {ret : Option FieldType} {hh : List (Nat × Nat × Nat × Nat)}
    (hM : vx_Met l y ws rm Pc Qc XC mc ms free) (hblind : FrameBlind Pc) (hrc : rm.cells = mc) (hrs : rm.slots = ms)
    (hframes : rm.frames + 1 ≤ R.frames) (hlocals : W9 + (maxL + 11) + rm.locals ≤ R.locals)
    (hws : ∀ w ∈ ws, ∀ a' U, s.WarmedH U.vm → w.before a' U = true) (hcode : Cond.codeWith y bytes maxL ret hh ∈ ws) (hinit : ∀ a' U, s.WarmedH U.vm → (Cond.initialized y.cls).before a' U = true) :
    vx_Back l R p e below s sargs y len W9 (PreOf R mc ms Pc) (PostOf Qc mc ms free) (vx_Post XC mc ms free) := by
  intro m meth c A g ig mk a X hg hsize hdg hW hn hp
  have h1 : (headSpec ws rm).pre.before a A.U = true := atoms_intro fun w hw => hws w hw _ _ X.warmed
  have h2 : (Cond.codeWith y bytes maxL ret hh).before a A.U = true := hws _ hcode _ _ X.warmed
  have h3 : (Cond.initialized y.cls).before a A.U = true := hinit _ _ X.warmed
  have h4 : A.cells + (headSpec ws rm).room.cells ≤ R.cells := by rw [show (headSpec ws rm).room.cells = mc from hrc]; exact hp.1
  have h5 : A.slots + (headSpec ws rm).room.slots ≤ R.slots := by rw [show (headSpec ws rm).room.slots = ms from hrs]; exact hp.2.1
  have hPc : Pc a (A.U.calling g mk a) := hblind _ _ _ _ hp.2.2
  obtain ⟨U, Ls, c0, s0⟩ := A
  dsimp only [Pt.U, Pt.locs, Pt.cells, Pt.slots] at h1 h2 h3 h4 h5 X hn hPc ⊢
  obtain ⟨m9, methY, cY, hn9, hmY, hcY, -, hlY, -⟩ := Cond.codeWith_spec h2
  cases Option.some.inj (hn9.symm.trans hn)
  obtain ⟨kY, hkY, -⟩ := className_of_methodNamed hn
  have hinitY : kY.init = .initialized := Cond.initialized_spec (findClass_of_methodNamed hn) hkY h3
  have h : At U g.method c below := by rw [hg]; exact X.here
  have hlocals9 : W9 + (maxL + 11) + (headSpec ws rm).room.locals ≤ R.locals := hlocals
  have happ : (headSpec ws rm).appliesLoose y e.platform (U.calling g mk a) = true :=
    Spec.appliesLoose_calling (g := g) h hdg hn hkY hinitY
      (X.room_calling (g := g) (R' := (headSpec ws rm).room) hsize hmY hcY hframes (by rw [hlY]; omega) h4 h5) h1
  obtain ⟨mid, hmid⟩ := h.above
  have hfr : (U.setTop g).frames = (.java g :: mid) ++ below := by rw [State.frames_setTop' g h.top, hmid]; rfl
  obtain ⟨o, s₂, hsteps, -, hend, hq⟩ := Steps.callFree hM p X.admits X.cas X.clock (acts := []) hfr happ hPc trivial
  have hq' : vx_Q Qc XC mc ms free a (U.calling g mk a) o s₂ := hq
  rw [State.frames_setTop' g h.top] at hend
  obtain ⟨g₀, hg0⟩ := Option.isSome_iff_exists.mp h.top
  obtain ⟨r, hr⟩ := State.topJava?_eq_some.mp hg0
  have hr' : (({ U with heap := s₂.heap, slotsUsed := s₂.slotsUsed } : State).setVm s₂.vm).frames = .java g₀ :: r := hr
  rcases hq' with ⟨hqc, L, hfe, hL⟩ | ⟨q, rfl, E, ce, L, hx, hce, hcv, hcl, hW₂, hsm, hL⟩
  · obtain ⟨⟨v, rfl⟩, hW₂, e2, q2, q3, q4, q5, q6⟩ := id hfe
    have e3 : s₂ = ({ (U.calling g mk a).setFrames s₂.frames with heap := s₂.heap, slotsUsed := s₂.slotsUsed } : State).setVm s₂.vm := by
      have : s₂ = ({ s₂ with vm := (U.calling g mk a).vm } : State).setVm s₂.vm := rfl
      rw [e2] at this
      exact this
    obtain ⟨c₂, i₂, len₂, hc₂, hd₂, hf₂⟩ := hend
    have hW' : U.WarmedH s₂.vm := hW₂
    have hcc : c₂ = c := by
      have h1 : s₂.code? g.method = U.code? g.method := by
        rw [State.code?_eq, State.code?_eq, hW'.alike.method?]
      exact Option.some.inj (hc₂.symm.trans (h1.trans h.code))
    subst hcc
    have hlen : len₂ = len := by rw [hdg] at hd₂; cases hd₂; rfl
    subst hlen
    have hs₂ : s₂ = (({ U with heap := s₂.heap, slotsUsed := s₂.slotsUsed } : State).setVm s₂.vm).setTop { g with pc := g.pc + len₂, stack := v.toList ++ g.stack } := by
      refine e3.trans ?_
      rw [hf₂, State.calling_eq h.top, State.setFrames_setFrames, State.setTop_of_frames _ hr', hr]
      rfl
    have hsame : U.sameButNew ({ U with heap := s₂.heap, slotsUsed := s₂.slotsUsed } : State) L mc ms := by
      refine ⟨?_, q2, q3, q4, q5, q6⟩
      obtain ⟨t, ht, -⟩ := State.frames_cons hr
      show ({ U with heap := s₂.heap, slotsUsed := s₂.slotsUsed } : State) = { U.setFrames U.frames with heap := s₂.heap, slotsUsed := s₂.slotsUsed }
      rw [State.setFrames_self ht]
    subst hg
    refine Or.inl ⟨v, ⟨(({ U with heap := s₂.heap, slotsUsed := s₂.slotsUsed } : State).setVm s₂.vm), Ls ++ L, c0 + mc, s0 + ms⟩,
      ⟨X.admits, X.cas, X.clock, X.frames, X.room, X.hears, X.method, X.code, (X.here.setHeapUsed s₂.heap s₂.slotsUsed).setVm hW'.alike, X.tail, State.WarmedH.trans X.warmed hW', X.limits, X.bytes, X.same.trans (hsame.setVm s.vm)⟩,
      ⟨g, mk, s₂, L, rfl, rfl, hqc, rfl, hL, rfl, rfl⟩, ?_⟩
    show Steps p.tables e below _ ((({ U with heap := s₂.heap, slotsUsed := s₂.slotsUsed } : State).setVm s₂.vm).setTop { g with pc := g.pc + len₂, stack := v.toList ++ g.stack })
    rw [← hs₂]
    exact hsteps
  · obtain ⟨e2, q2, q3, q4, q5, q6⟩ := id hsm
    have e3 : s₂ = ({ (U.calling g mk a).setFrames s₂.frames with heap := s₂.heap, slotsUsed := s₂.slotsUsed } : State).setVm s₂.vm := by
      have : s₂ = ({ s₂ with vm := (U.calling g mk a).vm } : State).setVm s₂.vm := rfl
      rw [e2] at this
      exact this
    have hf₂ : s₂.frames = .throwing q :: .java g :: U.frames.tail := hend
    have hW' : U.WarmedH s₂.vm := hW₂
    have hs₂ : s₂ = ((({ U with heap := s₂.heap, slotsUsed := s₂.slotsUsed } : State).setVm s₂.vm).setTop g).pushFrame (.throwing q) := by
      refine e3.trans ?_
      rw [hf₂, State.calling_eq h.top, State.setFrames_setFrames, State.pushFrame, State.frames_setTop _ hr', State.setTop_of_frames _ hr', State.setFrames_setFrames, hr]
      rfl
    have hsame : U.sameButNew ({ U with heap := s₂.heap, slotsUsed := s₂.slotsUsed } : State) L mc ms := by
      refine ⟨?_, q2, q3, q4, q5, q6⟩
      obtain ⟨t, ht, -⟩ := State.frames_cons hr
      show ({ U with heap := s₂.heap, slotsUsed := s₂.slotsUsed } : State) = { U.setFrames U.frames with heap := s₂.heap, slotsUsed := s₂.slotsUsed }
      rw [State.setFrames_self ht]
    subst hg
    refine Or.inr ⟨q, ⟨(({ U with heap := s₂.heap, slotsUsed := s₂.slotsUsed } : State).setVm s₂.vm), Ls ++ L, c0 + mc, s0 + ms⟩,
      ⟨X.admits, X.cas, X.clock, X.frames, X.room, X.hears, X.method, X.code, (X.here.setHeapUsed s₂.heap s₂.slotsUsed).setVm hW'.alike, X.tail, State.WarmedH.trans X.warmed hW', X.limits, X.bytes, X.same.trans (hsame.setVm s.vm)⟩,
      ⟨g, mk, s₂, L, E, ce, rfl, rfl, hx, hce, hcv, hcl, rfl, hL, rfl, rfl⟩, ?_⟩
    show Steps p.tables e below _ (((({ U with heap := s₂.heap, slotsUsed := s₂.slotsUsed } : State).setVm s₂.vm).setTop g).pushFrame (.throwing q))
    rw [← hs₂]
    exact hsteps
end
variable {p : Program} {l : Launch} {e : Env} {R : Room} {s : State} {m : MethodId} {args : Array Value} {below : List Frame} {meth : Method} {c : Code} {T : State} {H : Heap} {locs : List Loc} {cells slots : Nat}
theorem vx_callVX (X : Stand p l e R s m args below meth c T locs cells slots) (hexec : p.tables.exec = Jvm.exec) {own C : String} {index : Nat} {y : MethodName} {bytes : ByteArray} {maxL : Nat} {ret : Option FieldType} {hh : List (Nat × Nat × Nat × Nat)}
    (hown : s.vm.findClass own = some m.cls) (hlink : (Cond.methodLink own index y).before args s = true) (hinst : (Cond.instanceMethod y).before args s = true) (hsel : (Cond.selects C y y).before args s = true)
    (hcode : (Cond.codeWith y bytes maxL ret hh).before args s = true) (hy : y.cls ≠ "java/lang/invoke/MethodHandle" ∧ y.cls ≠ "java/lang/invoke/VarHandle")
    {W9 : Nat} {Pre : Pt → Array Value → Prop} {Post : Pt → Array Value → Option Value → Pt → Prop} {PostX : Pt → Array Value → Addr → Pt → Prop} (hK : vx_Back l R p e below s args y 3 W9 Pre Post PostX)
    {b : Addr} {cellB : Cell} (hcell : T.heap[b]? = some cellB) (hobj : cellB.vm.isStatics = false) (hcls : s.vm.findClass C = some cellB.cls)
    {g : JFrame} (hg : g.method = m) (hsize : g.locals.size = c.maxLocals) {argsL rest : List Value} (hlen : ∀ sig, parseMethodDescriptor y.desc = some sig → argsL.length = sig.parameters.length)
    (hstack : g.stack = argsL.reverse ++ .ref b :: rest) (hW : 2 * g.monitorRoom + (rest.map fun v => v.category).sum ≤ W9) (hdg : decode c.code g.pc = .ok (.invokevirtual index, 3))
    (hpre : ∀ vm₁, s.WarmedH vm₁ → Pre ⟨T.setVm vm₁, locs, cells, slots⟩ (Value.ref b :: argsL).toArray) :
    (∃ (v : Option Value) (vm₁ : Vm) (B : Pt), s.WarmedH vm₁ ∧ Stand p l e R s m args below meth c B.U B.locs B.cells B.slots ∧ Post ⟨T.setVm vm₁, locs, cells, slots⟩ (Value.ref b :: argsL).toArray v B ∧
      ∀ target, Steps p.tables e below (B.U.setTop { g with pc := g.pc + 3, stack := v.toList ++ rest }) target → Steps p.tables e below (T.setTop g) target) ∨
    (∃ (q : Addr) (vm₁ : Vm) (B : Pt), s.WarmedH vm₁ ∧ Stand p l e R s m args below meth c B.U B.locs B.cells B.slots ∧ PostX ⟨T.setVm vm₁, locs, cells, slots⟩ (Value.ref b :: argsL).toArray q B ∧
      Steps p.tables e below (T.setTop g) ((B.U.setTop { g with stack := rest }).pushFrame (.throwing q))) := by
  obtain ⟨mk, methM, hnamed, hmethM, hstM, habM⟩ := Cond.instanceMethod_spec hinst
  obtain ⟨m8, methM', cM, hn8, hmethM', -, -, -, -, -, -, hsigM⟩ := Cond.codeWith_spec hcode
  cases Option.some.inj (hn8.symm.trans hnamed)
  cases hmethM.symm.trans hmethM'
  obtain ⟨c2, r2, m2, q1, q2, q3, q4, kP, hkP, hkPi⟩ := Cond.selects_spec hsel
  cases hcls.symm.trans q1
  cases (State.methodFound?_of_named hnamed hy).symm.trans q2
  cases hnamed.symm.trans q3
  have hselP : selectMethod e.platform s.vm cellB.cls mk = .method mk := by rw [Launch.admits_selectMethod X.admits]; exact q4
  obtain ⟨vm₁, X₁, hstep₁⟩ := X.invokevirtual hexec hown hlink hnamed hmethM hstM hkP hkPi hy (a := b) (cell := cellB) hcell
    (fun z h => by rw [h] at hobj; cases hobj) hselP hmethM habM hkP hkPi (g := g) hg (argsL := argsL) (rest := rest) (hlen _ hsigM) hstack hdg
  rcases hK m meth c ⟨T.setVm vm₁, locs, cells, slots⟩ { g with stack := rest } (.invokevirtual index) mk (Value.ref b :: argsL).toArray X₁ hg hsize hdg hW (X₁.named hnamed) (hpre vm₁ X₁.warmed) with ⟨v, B, X', hpost, hsteps⟩ | ⟨q, B, X', hpost, hsteps⟩
  · exact Or.inl ⟨v, vm₁, B, X₁.warmed, X', hpost, fun target h => hstep₁ _ fun acts => by rw [doInvoke_state]; exact hsteps.trans h⟩
  · exact Or.inr ⟨q, vm₁, B, X₁.warmed, X', hpost, hstep₁ _ fun acts => by rw [doInvoke_state]; exact hsteps⟩
theorem vx_callSX (X : Stand p l e R s m args below meth c T locs cells slots) (hexec : p.tables.exec = Jvm.exec) {own : String} {index : Nat} {y : MethodName} {bytes : ByteArray} {maxL : Nat} {ret : Option FieldType} {hh : List (Nat × Nat × Nat × Nat)}
    (hown : s.vm.findClass own = some m.cls) (hlink : (Cond.methodLink own index y).before args s = true) (hstat : (Cond.static y).before args s = true) (hinit : (Cond.initialized y.cls).before args s = true)
    (hcode : (Cond.codeWith y bytes maxL ret hh).before args s = true) (hy : y.cls ≠ "java/lang/invoke/MethodHandle" ∧ y.cls ≠ "java/lang/invoke/VarHandle")
    {W9 : Nat} {Pre : Pt → Array Value → Prop} {Post : Pt → Array Value → Option Value → Pt → Prop} {PostX : Pt → Array Value → Addr → Pt → Prop} (hK : vx_Back l R p e below s args y 3 W9 Pre Post PostX)
    {g : JFrame} (hg : g.method = m) (hsize : g.locals.size = c.maxLocals) {argsL rest : List Value} (hlen : ∀ sig, parseMethodDescriptor y.desc = some sig → argsL.length = sig.parameters.length)
    (hstack : g.stack = argsL.reverse ++ rest) (hW : 2 * g.monitorRoom + (rest.map fun v => v.category).sum ≤ W9) (hdg : decode c.code g.pc = .ok (.invokestatic index, 3))
    (hpre : ∀ vm₁, s.WarmedH vm₁ → Pre ⟨T.setVm vm₁, locs, cells, slots⟩ argsL.toArray) :
    (∃ (v : Option Value) (vm₁ : Vm) (B : Pt), s.WarmedH vm₁ ∧ Stand p l e R s m args below meth c B.U B.locs B.cells B.slots ∧ Post ⟨T.setVm vm₁, locs, cells, slots⟩ argsL.toArray v B ∧
      ∀ target, Steps p.tables e below (B.U.setTop { g with pc := g.pc + 3, stack := v.toList ++ rest }) target → Steps p.tables e below (T.setTop g) target) ∨
    (∃ (q : Addr) (vm₁ : Vm) (B : Pt), s.WarmedH vm₁ ∧ Stand p l e R s m args below meth c B.U B.locs B.cells B.slots ∧ PostX ⟨T.setVm vm₁, locs, cells, slots⟩ argsL.toArray q B ∧
      Steps p.tables e below (T.setTop g) ((B.U.setTop { g with stack := rest }).pushFrame (.throwing q))) := by
  obtain ⟨mk, methM, cM, hnamed, hmethM, -, -, -, -, -, -, hsigM⟩ := Cond.codeWith_spec hcode
  have hstatic : methM.isStatic = true := Cond.static_spec hnamed hmethM hstat
  obtain ⟨kP, hkP, -⟩ := className_of_methodNamed hnamed
  have hinitP : kP.init = .initialized := Cond.initialized_spec (findClass_of_methodNamed hnamed) hkP hinit
  obtain ⟨vm₁, X₁, hstep₁⟩ := X.invokestatic hexec hown hlink hnamed hmethM hstatic hkP hinitP hy (g := g) hg (argsL := argsL) (rest := rest) (hlen _ hsigM) hstack hdg
  rcases hK m meth c ⟨T.setVm vm₁, locs, cells, slots⟩ { g with stack := rest } (.invokestatic index) mk argsL.toArray X₁ hg hsize hdg hW (X₁.named hnamed) (hpre vm₁ X₁.warmed) with ⟨v, B, X', hpost, hsteps⟩ | ⟨q, B, X', hpost, hsteps⟩
  · exact Or.inl ⟨v, vm₁, B, X₁.warmed, X', hpost, fun target h => hstep₁ _ fun acts => by rw [doInvoke_state]; exact hsteps.trans h⟩
  · exact Or.inr ⟨q, vm₁, B, X₁.warmed, X', hpost, hstep₁ _ fun acts => by rw [doInvoke_state]; exact hsteps⟩
theorem vx_callVW (X : Stand p l e R s m args below meth c T locs cells slots) (hexec : p.tables.exec = Jvm.exec) {own C : String} {index : Nat} {y : MethodName} {bytes : ByteArray} {maxL : Nat} {ret : Option FieldType} {hh : List (Nat × Nat × Nat × Nat)}
    (hown : s.vm.findClass own = some m.cls) (hlink : (Cond.methodLink own index y).before args s = true) (hinst : (Cond.instanceMethod y).before args s = true) (hsel : (Cond.selects C y y).before args s = true)
    (hcode : (Cond.codeWith y bytes maxL ret hh).before args s = true) (hy : y.cls ≠ "java/lang/invoke/MethodHandle" ∧ y.cls ≠ "java/lang/invoke/VarHandle")
    {W9 : Nat} {Pre : Pt → Array Value → Prop} {Post : Pt → Array Value → Option Value → Pt → Prop} (hK : Back l R p e below s args y 3 W9 Pre Post)
    {b : Addr} {cellB : Cell} (hcell : T.heap[b]? = some cellB) (hobj : cellB.vm.isStatics = false) (hcls : s.vm.findClass C = some cellB.cls)
    {g : JFrame} (hg : g.method = m) (hsize : g.locals.size = c.maxLocals) {argsL rest : List Value} (hlen : ∀ sig, parseMethodDescriptor y.desc = some sig → argsL.length = sig.parameters.length)
    (hstack : g.stack = argsL.reverse ++ .ref b :: rest) (hW : 2 * g.monitorRoom + (rest.map fun v => v.category).sum ≤ W9) (hdg : decode c.code g.pc = .ok (.invokevirtual index, 3))
    (hpre : ∀ vm₁, s.WarmedH vm₁ → Pre ⟨T.setVm vm₁, locs, cells, slots⟩ (Value.ref b :: argsL).toArray) :
    ∃ (v : Option Value) (vm₁ : Vm) (B : Pt), s.WarmedH vm₁ ∧ Stand p l e R s m args below meth c B.U B.locs B.cells B.slots ∧ Post ⟨T.setVm vm₁, locs, cells, slots⟩ (Value.ref b :: argsL).toArray v B ∧
      ∀ target, Steps p.tables e below (B.U.setTop { g with pc := g.pc + 3, stack := v.toList ++ rest }) target → Steps p.tables e below (T.setTop g) target := by
  obtain ⟨mk, methM, hnamed, hmethM, hstM, habM⟩ := Cond.instanceMethod_spec hinst
  obtain ⟨m8, methM', cM, hn8, hmethM', -, -, -, -, -, -, hsigM⟩ := Cond.codeWith_spec hcode
  cases Option.some.inj (hn8.symm.trans hnamed)
  cases hmethM.symm.trans hmethM'
  obtain ⟨c2, r2, m2, q1, q2, q3, q4, kP, hkP, hkPi⟩ := Cond.selects_spec hsel
  cases hcls.symm.trans q1
  cases (State.methodFound?_of_named hnamed hy).symm.trans q2
  cases hnamed.symm.trans q3
  have hselP : selectMethod e.platform s.vm cellB.cls mk = .method mk := by rw [Launch.admits_selectMethod X.admits]; exact q4
  obtain ⟨vm₁, X₁, hstep₁⟩ := X.invokevirtual hexec hown hlink hnamed hmethM hstM hkP hkPi hy (a := b) (cell := cellB) hcell
    (fun z h => by rw [h] at hobj; cases hobj) hselP hmethM habM hkP hkPi (g := g) hg (argsL := argsL) (rest := rest) (hlen _ hsigM) hstack hdg
  obtain ⟨v, B, X', hpost, hsteps⟩ := hK m meth c ⟨T.setVm vm₁, locs, cells, slots⟩ { g with stack := rest } (.invokevirtual index) mk (Value.ref b :: argsL).toArray X₁ hg hsize hdg hW (X₁.named hnamed) (hpre vm₁ X₁.warmed)
  exact ⟨v, vm₁, B, X₁.warmed, X', hpost, fun target h => hstep₁ _ fun acts => by rw [doInvoke_state]; exact hsteps.trans h⟩
abbrev vx_CVW (R : Room) (s : State) (args : Array Value) (own C : String) (index : Nat) (y : MethodName) (bytes : ByteArray) (maxL : Nat) (ret : Option FieldType) (hh : List (Nat × Nat × Nat × Nat)) (ws : List Cond) (rm : Room) (mc ms n : Nat) : Prop :=
  (rm.cells = mc ∧ rm.slots = ms ∧ rm.frames + 1 ≤ R.frames ∧ 8 + (maxL + 11) + rm.locals ≤ R.locals ∧ (∀ w ∈ ws, ∀ (a' : Array Value) (U : State), s.WarmedH U.vm → w.before a' U = true) ∧ Cond.codeWith y bytes maxL ret hh ∈ ws) ∧
  (Cond.codeWith y bytes maxL ret hh).before args s = true ∧ (Cond.initialized y.cls).before args s = true ∧ (y.cls ≠ "java/lang/invoke/MethodHandle" ∧ y.cls ≠ "java/lang/invoke/VarHandle") ∧
  (∀ sig, parseMethodDescriptor y.desc = some sig → n = sig.parameters.length) ∧ (Cond.methodLink own index y).before args s = true ∧ (Cond.instanceMethod y).before args s = true ∧ (Cond.selects C y y).before args s = true
theorem vx_cwVW {own C : String} {index maxL mc ms : Nat} {y : MethodName} {bytes : ByteArray} {ret : Option FieldType} {hh : List (Nat × Nat × Nat × Nat)} {Ts ws ws' : List Cond} {rm : Room} (n : Nat) (ht : ∀ w ∈ Ts, w.before args s = true) (hT : GoodIn Ts (wsV own index C y ws)) (hw : ws = Cond.codeWith y bytes maxL ret hh :: ws') (hrc : rm.cells = mc) (hrs : rm.slots = ms)
    (hd : y.cls = C ∧ y.cls ≠ "java/lang/invoke/MethodHandle" ∧ y.cls ≠ "java/lang/invoke/VarHandle" ∧ (parseMethodDescriptor y.desc).map (fun d => d.parameters.length) = some n) (hR : rm.frames + 1 ≤ R.frames ∧ 8 + (maxL + 11) + rm.locals ≤ R.locals) :
    vx_CVW R s args own C index y bytes maxL ret hh ws rm mc ms n := by
  obtain ⟨hC, hd⟩ := hd
  subst hC
  have ok : ∀ w ∈ wsV own index y.cls y ws, w.before args s = true := fun w h => ht w (hT w h).1
  have hG : GoodIn Ts ws := fun w h => hT w (by unfold wsV; exact List.mem_append_right _ h)
  have hc : Cond.codeWith y bytes maxL ret hh ∈ ws := by rw [hw]; exact List.mem_cons_self
  refine ⟨⟨hrc, hrs, hR.1, hR.2, pay_in ht hG, hc⟩, ht _ (hG _ hc).1, ok _ (by simp [wsV]), ⟨hd.1, hd.2.1⟩, fun sig h => ?_, ok _ (by simp [wsV]), ok _ (by simp [wsV]), ok _ (by simp [wsV])⟩
  have h2 := hd.2.2
  rw [h] at h2
  exact (Option.some.inj h2).symm
theorem vx_runVW {y : MethodName} {bytes cc : ByteArray} {maxL nL mc ms n index : Nat} {ret : Option FieldType} {hh : List (Nat × Nat × Nat × Nat)} {ws : List Cond} {rm : Room} {Pc : Array Value → State → Prop} {Qc : Array Value → State → Outcome → State → Prop} {free : Addr → Prop} {Ts : List Cond} {own C : String} {b : Addr} {As rest : List Value} {g : JFrame}
    (S : CallFix p m c cc nL s args Ts own) (hM : Met l y ws rm Pc Qc mc ms free) (cw : vx_CVW R s args own C index y bytes maxL ret hh ws rm mc ms n) (hp : PreV s H C b Pc As)
    (hg : g.method = m) (hn : As.length = n) (hsize : g.locals.size = nL) (hstack : g.stack = As.reverse ++ .ref b :: rest) (hW : 2 * g.monitorRoom + (rest.map fun v => v.category).sum ≤ 8) (hdg : decode cc g.pc = .ok (.invokevirtual index, 3)) (hf : cells + mc ≤ R.cells ∧ slots + ms ≤ R.slots) :
    va_Run p l e R s m args below meth c H locs cells slots mc ms g rest (Qc (Value.ref b :: As).toArray) free := by
  obtain ⟨⟨hrc, hrs, hfr, hlo, hws, hcw⟩, hcode, hini, hy, hlen, hl, hin, hse⟩ := cw
  have hK : Back l R p e below s args y 3 8 (PreOf R mc ms Pc) (PostOf Qc mc ms free) := va_backW (hh := hh) (bytes := bytes) (maxL := maxL) (ret := ret) hM hp.1 hrc hrs hfr hlo hws hcw (fun a' U hW => word_at hW (Or.inl (by first | rfl | simp [Cond.onTables, Cond.keeps, Cond.steady])) hini)
  obtain ⟨hx, hb, hml, ho, -⟩ := S
  obtain ⟨-, ⟨cellB, hcB, hoB, hclB⟩, hPc⟩ := hp
  intro T hT X
  obtain ⟨v, vm₁, ⟨U', l2, c2, s2⟩, hW₁, X', ⟨g', mk, t, L, e1, e2, hq, h1, hL, h2, h3⟩, st⟩ := vx_callVW X hx (C := C) (hh := hh) (bytes := bytes) (maxL := maxL) (ret := ret) ho hl hin hse hcode hy hK (by rw [hT]; exact hcB) hoB hclB hg (hsize.trans hml.symm) (argsL := As) (rest := rest) (fun sig h => hn.trans (hlen sig h)) hstack hW (by rw [hb]; exact hdg)
    (fun vm₁ hW₁ => ⟨hf.1, hf.2, hPc (T.setVm vm₁) hT hW₁⟩)
  dsimp only [Pt.U, Pt.locs, Pt.cells, Pt.slots] at X' e1 e2 h1 h2 h3 st
  subst h1; subst h2; subst h3
  exact ⟨v, (T.setVm vm₁).calling g' mk (Value.ref b :: As).toArray, t, U', L, hT, X', hL, e1, e2, hq, st⟩
section
variable {y : MethodName} {bytes cc : ByteArray} {maxL nL mc ms n index : Nat} {ret : Option FieldType} {ws : List Cond} {rm : Room} {Pc : Array Value → State → Prop} {Qc : Array Value → State → Outcome → State → Prop} {XC : String → State → State → Prop} {free : Addr → Prop} {Ts : List Cond} {own C : String} {b : Addr} {As rest : List Value} {g : JFrame}
theorem vx_runVX {hh : List (Nat × Nat × Nat × Nat)} (S : CallFix p m c cc nL s args Ts own) (hM : vx_Met l y ws rm Pc Qc XC mc ms free) (cw : vx_CVW R s args own C index y bytes maxL ret hh ws rm mc ms n) (hp : PreV s H C b Pc As)
    (hg : g.method = m) (hn : As.length = n) (hsize : g.locals.size = nL) (hstack : g.stack = As.reverse ++ .ref b :: rest) (hW : 2 * g.monitorRoom + (rest.map fun v => v.category).sum ≤ 8) (hdg : decode cc g.pc = .ok (.invokevirtual index, 3)) (hf : cells + mc ≤ R.cells ∧ slots + ms ≤ R.slots) :
    vx_Run p l e R s m args below meth c H locs cells slots mc ms g rest (Qc (Value.ref b :: As).toArray) XC free := by
  obtain ⟨⟨hrc, hrs, hfr, hlo, hws, hcw⟩, hcode, hini, hy, hlen, hl, hin, hse⟩ := cw
  have hK : vx_Back l R p e below s args y 3 8 (PreOf R mc ms Pc) (PostOf Qc mc ms free) (vx_Post XC mc ms free) := vx_backW (hh := hh) (bytes := bytes) (maxL := maxL) (ret := ret) hM hp.1 hrc hrs hfr hlo hws hcw (fun a' U hW => word_at hW (Or.inl (by first | rfl | simp [Cond.onTables, Cond.keeps, Cond.steady])) hini)
  obtain ⟨hx, hb, hml, ho, -⟩ := S
  obtain ⟨-, ⟨cellB, hcB, hoB, hclB⟩, hPc⟩ := hp
  intro T hT X
  rcases vx_callVX X hx (C := C) (hh := hh) (bytes := bytes) (maxL := maxL) (ret := ret) ho hl hin hse hcode hy hK (by rw [hT]; exact hcB) hoB hclB hg (hsize.trans hml.symm) (argsL := As) (rest := rest) (fun sig h => hn.trans (hlen sig h)) hstack hW (by rw [hb]; exact hdg)
    (fun vm₁ hW₁ => ⟨hf.1, hf.2, hPc (T.setVm vm₁) hT hW₁⟩) with ⟨v, vm₁, ⟨U', l2, c2, s2⟩, hW₁, X', ⟨g', mk, t, L, e1, e2, hq, h1, hL, h2, h3⟩, st⟩ | ⟨q, vm₁, ⟨U', l2, c2, s2⟩, hW₁, X', ⟨g', mk, t, L, E, ce, e1, e2, hq, hce, hcv, hcl, h1, hL, h2, h3⟩, st⟩
  · dsimp only [Pt.U, Pt.locs, Pt.cells, Pt.slots] at X' e1 e2 h1 h2 h3 st
    subst h1; subst h2; subst h3
    exact Or.inl ⟨v, (T.setVm vm₁).calling g' mk (Value.ref b :: As).toArray, t, U', L, hT, X', hL, e1, e2, hq, st⟩
  · dsimp only [Pt.U, Pt.locs, Pt.cells, Pt.slots] at X' e1 e2 h1 h2 h3 st hcl
    subst h1; subst h2; subst h3
    exact Or.inr ⟨q, (T.setVm vm₁).calling g' mk (Value.ref b :: As).toArray, t, U', L, E, ce, hT, X', hL, e1, e2, hq, hce, hcv, vx_cls hW₁ hcl, st⟩
theorem vx_runSX {hh : List (Nat × Nat × Nat × Nat)} (S : CallFix p m c cc nL s args Ts own) (hM : vx_Met l y ws rm Pc Qc XC mc ms free) (cw : vx_CSW R s args own index y bytes maxL ret hh ws rm mc ms n) (hp : PreS s H Pc As)
    (hg : g.method = m) (hn : As.length = n) (hsize : g.locals.size = nL) (hstack : g.stack = As.reverse ++ rest) (hW : 2 * g.monitorRoom + (rest.map fun v => v.category).sum ≤ 8) (hdg : decode cc g.pc = .ok (.invokestatic index, 3)) (hf : cells + mc ≤ R.cells ∧ slots + ms ≤ R.slots) :
    vx_Run p l e R s m args below meth c H locs cells slots mc ms g rest (Qc As.toArray) XC free := by
  obtain ⟨⟨hrc, hrs, hfr, hlo, hws, hcw⟩, hcode, hini, hy, hlen, hl, hstt⟩ := cw
  have hK : vx_Back l R p e below s args y 3 8 (PreOf R mc ms Pc) (PostOf Qc mc ms free) (vx_Post XC mc ms free) := vx_backW (hh := hh) (bytes := bytes) (maxL := maxL) (ret := ret) hM hp.1 hrc hrs hfr hlo hws hcw (fun a' U hW => word_at hW (Or.inl (by first | rfl | simp [Cond.onTables, Cond.keeps, Cond.steady])) hini)
  obtain ⟨hx, hb, hml, ho, -⟩ := S
  intro T hT X
  rcases vx_callSX X hx (hh := hh) (bytes := bytes) (maxL := maxL) (ret := ret) ho hl hstt hini hcode hy hK hg (hsize.trans hml.symm) (argsL := As) (rest := rest) (fun sig h => hn.trans (hlen sig h)) hstack hW (by rw [hb]; exact hdg)
    (fun vm₁ hW₁ => ⟨hf.1, hf.2, hp.2 (T.setVm vm₁) hT hW₁⟩) with ⟨v, vm₁, ⟨U', l2, c2, s2⟩, hW₁, X', ⟨g', mk, t, L, e1, e2, hq, h1, hL, h2, h3⟩, st⟩ | ⟨q, vm₁, ⟨U', l2, c2, s2⟩, hW₁, X', ⟨g', mk, t, L, E, ce, e1, e2, hq, hce, hcv, hcl, h1, hL, h2, h3⟩, st⟩
  · dsimp only [Pt.U, Pt.locs, Pt.cells, Pt.slots] at X' e1 e2 h1 h2 h3 st
    subst h1; subst h2; subst h3
    exact Or.inl ⟨v, (T.setVm vm₁).calling g' mk As.toArray, t, U', L, hT, X', hL, e1, e2, hq, st⟩
  · dsimp only [Pt.U, Pt.locs, Pt.cells, Pt.slots] at X' e1 e2 h1 h2 h3 st hcl
    subst h1; subst h2; subst h3
    exact Or.inr ⟨q, (T.setVm vm₁).calling g' mk As.toArray, t, U', L, E, ce, hT, X', hL, e1, e2, hq, hce, hcv, vx_cls hW₁ hcl, st⟩
end
end VXH
theorem vx_ofWH {l : Launch} {y : MethodName} {ws ws' : List Cond} {rm : Room} {Pc : Array Value → State → Prop} {Qc : Array Value → State → Outcome → State → Prop} {XC : String → State → State → Prop} {mc ms : Nat} {free : Addr → Prop} {cc : ByteArray} {maxL : Nat} {ret : Option FieldType} {hh : List (Nat × Nat × Nat × Nat)}
    (hy : plainName y.cls = true) (hw : ws = Cond.codeWith y cc maxL ret hh :: ws')
    (body : ∀ p e s m args below meth c s₁, BodyLoose p l y (headSpec ws rm) cc maxL ret e s m args below meth c s₁ → c.maxLocals = maxL → Pc args s →
      W p l e (headSpec ws rm).room s m args below meth c s.heap [] 0 0 (vx_MQ below Qc XC args s mc ms free) (entryFrame m args maxL)) : vx_Met l y ws rm Pc Qc XC mc ms free := by
  refine MetFree.of_bodyS (code := cc) (maxLocals := maxL) (ret := ret) hy ?_ ?_
  · intro args s m h hn
    obtain ⟨m9, meth, c, hn9, h1, h2, h3, h4, -, h5, h6, -⟩ := Cond.codeWith_spec (atoms_spec (ws := ws) h _ (by rw [hw]; exact List.mem_cons_self))
    cases hn.symm.trans hn9
    exact ⟨meth, c, h1, h2, h3, h4, h5, h6⟩
  · intro p e s m args below meth c s₁ B hml hP _
    have hh0 : s₁.heap = s.heap := by rw [B.state]; rfl
    obtain ⟨t, a1, o, b1, b2, b3⟩ := body p e s m args below meth c s₁ B hml hP s₁ hh0 (Stand.of_body B)
    exact ⟨t, o, a1, b1, b2, b3⟩
/-! ===== END ===== -/

/-! ===== BEGIN printed: names, fields, word lists, decode rows ===== -/
def RX0 : String := "ArchivistTricks$Archivist"
def TX0 : u_T := fun k => match k with
  | 0 => ("ArchivistTricks$Archivist", "hand", "J", false)
  | 1 => ("ArchivistTricks$Archivist", "taken", "J", false)
  | 2 => ("ArchivistTricks$Archivist", "points", "I", false)
  | 3 => ("ArchivistTricks$Archivist", "tricks", "I", false)
  | _ => ("ArchivistTricks$Archivist", "gloves", "I", false)
def tyX0 : Nat → FieldType := fun k => match k with
  | 0 => .long
  | 1 => .long
  | 2 => .int
  | 3 => .int
  | _ => .int
abbrev wsX00 : List Cond := u_ws RX0 TX0 5
theorem nmX0 : ∀ a, a < 5 → ∀ b, b < 5 → a ≠ b → (TX0 a).2.1 ≠ (TX0 b).2.1 := by decide +kernel
theorem tyX0_ok : ∀ k, k < 5 → parseFieldDescriptor (TX0 k).2.2.1 = some (tyX0 k) := by decide +kernel
abbrev cX0_init : ByteArray := prog_2_method_1_code
def yX0_init : MethodName := ⟨RX0, "<init>", "()V"⟩
abbrev cX0_begin : ByteArray := prog_2_method_2_code
def yX0_begin : MethodName := ⟨RX0, "begin", "(J)V"⟩
abbrev cX0_loseWornGloves : ByteArray := prog_2_method_3_code
def yX0_loseWornGloves : MethodName := ⟨RX0, "loseWornGloves", "()V"⟩
def RX1 : String := "ArchivistTricks$Ending"
def TX1 : u_T := fun k => match k with
  | 0 => ("ArchivistTricks$Ending", "margins", "[I", true)
  | 1 => ("ArchivistTricks$Ending", "firstAll", "J", false)
  | 2 => ("ArchivistTricks$Ending", "secondAll", "J", false)
  | _ => ("ArchivistTricks$Ending", "trump", "I", false)
def tyX1 : Nat → FieldType := fun k => match k with
  | 0 => .array .int
  | 1 => .long
  | 2 => .long
  | _ => .int
abbrev wsX10 : List Cond := u_ws RX1 TX1 4
theorem nmX1 : ∀ a, a < 4 → ∀ b, b < 4 → a ≠ b → (TX1 a).2.1 ≠ (TX1 b).2.1 := by decide +kernel
theorem tyX1_ok : ∀ k, k < 4 → parseFieldDescriptor (TX1 k).2.2.1 = some (tyX1 k) := by decide +kernel
abbrev cX1_init : ByteArray := prog_3_method_1_code
def yX1_init : MethodName := ⟨RX1, "<init>", "()V"⟩
abbrev cX1_begin : ByteArray := prog_3_method_2_code
def yX1_begin : MethodName := ⟨RX1, "begin", "(JJI)V"⟩
abbrev cX1_bestMargin : ByteArray := prog_3_method_3_code
def yX1_bestMargin : MethodName := ⟨RX1, "bestMargin", "(JJIII)I"⟩
abbrev cX1_lowestBestCard : ByteArray := prog_3_method_4_code
def yX1_lowestBestCard : MethodName := ⟨RX1, "lowestBestCard", "(JJIII)I"⟩
abbrev cX1_margin : ByteArray := prog_3_method_5_code
def yX1_margin : MethodName := ⟨RX1, "margin", "(JJIIII)I"⟩
abbrev cX1_marginBy : ByteArray := prog_3_method_6_code
def yX1_marginBy : MethodName := ⟨RX1, "marginBy", "(IJJIIII)I"⟩
abbrev cX1_rest : ByteArray := prog_3_method_7_code
def yX1_rest : MethodName := ⟨RX1, "rest", "(JJII)I"⟩
abbrev cX1_mayPlay : ByteArray := prog_3_method_8_code
def yX1_mayPlay : MethodName := ⟨RX1, "mayPlay", "(JII)Z"⟩
abbrev cX1_stateOf : ByteArray := prog_3_method_9_code
def yX1_stateOf : MethodName := ⟨RX1, "stateOf", "(JJI)I"⟩
abbrev cX1_keptOf : ByteArray := prog_3_method_10_code
def yX1_keptOf : MethodName := ⟨RX1, "keptOf", "(JJ)I"⟩
abbrev cX1_trickWorth : ByteArray := prog_3_method_11_code
def yX1_trickWorth : MethodName := ⟨RX1, "trickWorth", "(IIII)I"⟩
def RX2 : String := "ArchivistTricks"
def TX2 : u_T := fun k => match k with
  | 0 => ("ArchivistTricks", "row", "[I", true)
  | 1 => ("ArchivistTricks", "first", "LArchivistTricks$Archivist;", true)
  | 2 => ("ArchivistTricks", "second", "LArchivistTricks$Archivist;", true)
  | 3 => ("ArchivistTricks", "drawn", "I", false)
  | 4 => ("ArchivistTricks", "trumpProvenance", "I", false)
  | 5 => ("ArchivistTricks", "ledCard", "I", false)
  | 6 => ("ArchivistTricks", "mover", "I", false)
  | 7 => ("ArchivistTricks", "firstWins", "I", false)
  | 8 => ("ArchivistTricks", "secondWins", "I", false)
  | 9 => ("ArchivistTricks", "ending", "LArchivistTricks$Ending;", false)
  | _ => ("ArchivistTricks", "endingBegun", "Z", false)
def tyX2 : Nat → FieldType := fun k => match k with
  | 0 => .array .int
  | 1 => .object "ArchivistTricks$Archivist"
  | 2 => .object "ArchivistTricks$Archivist"
  | 3 => .int
  | 4 => .int
  | 5 => .int
  | 6 => .int
  | 7 => .int
  | 8 => .int
  | 9 => .object "ArchivistTricks$Ending"
  | _ => .boolean
abbrev wsX20 : List Cond := u_ws RX2 TX2 11
theorem nmX2 : ∀ a, a < 11 → ∀ b, b < 11 → a ≠ b → (TX2 a).2.1 ≠ (TX2 b).2.1 := by decide +kernel
theorem tyX2_ok : ∀ k, k < 11 → parseFieldDescriptor (TX2 k).2.2.1 = some (tyX2 k) := by decide +kernel
abbrev cX2_init : ByteArray := prog_1_method_1_code
def yX2_init : MethodName := ⟨RX2, "<init>", "()V"⟩
abbrev cX2_deal : ByteArray := prog_1_method_2_code
def yX2_deal : MethodName := ⟨RX2, "deal", "(J)I"⟩
abbrev cX2_play : ByteArray := prog_1_method_3_code
def yX2_play : MethodName := ⟨RX2, "play", "(I)I"⟩
abbrev cX2_putOnGloves : ByteArray := prog_1_method_4_code
def yX2_putOnGloves : MethodName := ⟨RX2, "putOnGloves", "()I"⟩
abbrev cX2_whyNot : ByteArray := prog_1_method_5_code
def yX2_whyNot : MethodName := ⟨RX2, "whyNot", "(I)I"⟩
abbrev cX2_isPlaying : ByteArray := prog_1_method_6_code
def yX2_isPlaying : MethodName := ⟨RX2, "isPlaying", "()Z"⟩
abbrev cX2_turn : ByteArray := prog_1_method_7_code
def yX2_turn : MethodName := ⟨RX2, "turn", "()I"⟩
abbrev cX2_led : ByteArray := prog_1_method_8_code
def yX2_led : MethodName := ⟨RX2, "led", "()I"⟩
abbrev cX2_trumps : ByteArray := prog_1_method_9_code
def yX2_trumps : MethodName := ⟨RX2, "trumps", "()I"⟩
abbrev cX2_pile : ByteArray := prog_1_method_10_code
def yX2_pile : MethodName := ⟨RX2, "pile", "()I"⟩
abbrev cX2_cards : ByteArray := prog_1_method_11_code
def yX2_cards : MethodName := ⟨RX2, "cards", "(I)I"⟩
abbrev cX2_cardAt : ByteArray := prog_1_method_12_code
def yX2_cardAt : MethodName := ⟨RX2, "cardAt", "(II)I"⟩
abbrev cX2_placeOf : ByteArray := prog_1_method_13_code
def yX2_placeOf : MethodName := ⟨RX2, "placeOf", "(I)I"⟩
abbrev cX2_points : ByteArray := prog_1_method_14_code
def yX2_points : MethodName := ⟨RX2, "points", "(I)I"⟩
abbrev cX2_tricks : ByteArray := prog_1_method_15_code
def yX2_tricks : MethodName := ⟨RX2, "tricks", "(I)I"⟩
abbrev cX2_gloves : ByteArray := prog_1_method_16_code
def yX2_gloves : MethodName := ⟨RX2, "gloves", "(I)I"⟩
abbrev cX2_choices : ByteArray := prog_1_method_17_code
def yX2_choices : MethodName := ⟨RX2, "choices", "()I"⟩
abbrev cX2_wouldTake : ByteArray := prog_1_method_18_code
def yX2_wouldTake : MethodName := ⟨RX2, "wouldTake", "(I)I"⟩
abbrev cX2_best : ByteArray := prog_1_method_19_code
def yX2_best : MethodName := ⟨RX2, "best", "()I"⟩
abbrev cX2_bestCard : ByteArray := prog_1_method_20_code
def yX2_bestCard : MethodName := ⟨RX2, "bestCard", "()I"⟩
abbrev cX2_wonByFirst : ByteArray := prog_1_method_21_code
def yX2_wonByFirst : MethodName := ⟨RX2, "wonByFirst", "()I"⟩
abbrev cX2_wonBySecond : ByteArray := prog_1_method_22_code
def yX2_wonBySecond : MethodName := ⟨RX2, "wonBySecond", "()I"⟩
abbrev cX2_shuffle : ByteArray := prog_1_method_23_code
def yX2_shuffle : MethodName := ⟨RX2, "shuffle", "(J)V"⟩
abbrev cX2_putTurnedUpLast : ByteArray := prog_1_method_24_code
def yX2_putTurnedUpLast : MethodName := ⟨RX2, "putTurnedUpLast", "()V"⟩
abbrev cX2_handFrom : ByteArray := prog_1_method_25_code
def yX2_handFrom : MethodName := ⟨RX2, "handFrom", "(I)J"⟩
abbrev cX2_drawFor : ByteArray := prog_1_method_26_code
def yX2_drawFor : MethodName := ⟨RX2, "drawFor", "(LArchivistTricks$Archivist;)V"⟩
abbrev cX2_reasonAgainst : ByteArray := prog_1_method_27_code
def yX2_reasonAgainst : MethodName := ⟨RX2, "reasonAgainst", "(I)I"⟩
abbrev cX2_takerBy : ByteArray := prog_1_method_28_code
def yX2_takerBy : MethodName := ⟨RX2, "takerBy", "(I)I"⟩
abbrev cX2_finishTrick : ByteArray := prog_1_method_29_code
def yX2_finishTrick : MethodName := ⟨RX2, "finishTrick", "(I)I"⟩
abbrev cX2_endGame : ByteArray := prog_1_method_30_code
def yX2_endGame : MethodName := ⟨RX2, "endGame", "()V"⟩
abbrev cX2_archivist : ByteArray := prog_1_method_31_code
def yX2_archivist : MethodName := ⟨RX2, "archivist", "(I)LArchivistTricks$Archivist;"⟩
abbrev cX2_moversHand : ByteArray := prog_1_method_32_code
def yX2_moversHand : MethodName := ⟨RX2, "moversHand", "()J"⟩
abbrev cX2_othersHand : ByteArray := prog_1_method_33_code
def yX2_othersHand : MethodName := ⟨RX2, "othersHand", "()J"⟩
abbrev cX2_glovesWorn : ByteArray := prog_1_method_34_code
def yX2_glovesWorn : MethodName := ⟨RX2, "glovesWorn", "()I"⟩
abbrev cX2_isEnding : ByteArray := prog_1_method_35_code
def yX2_isEnding : MethodName := ⟨RX2, "isEnding", "()Z"⟩
abbrev cX2_begunEnding : ByteArray := prog_1_method_36_code
def yX2_begunEnding : MethodName := ⟨RX2, "begunEnding", "()LArchivistTricks$Ending;"⟩
abbrev cX2_isCard : ByteArray := prog_1_method_37_code
def yX2_isCard : MethodName := ⟨RX2, "isCard", "(I)Z"⟩
abbrev cX2_isArchivist : ByteArray := prog_1_method_38_code
def yX2_isArchivist : MethodName := ⟨RX2, "isArchivist", "(I)Z"⟩
abbrev cX2_isMildew : ByteArray := prog_1_method_39_code
def yX2_isMildew : MethodName := ⟨RX2, "isMildew", "(I)Z"⟩
abbrev cX2_bit : ByteArray := prog_1_method_40_code
def yX2_bit : MethodName := ⟨RX2, "bit", "(I)J"⟩
abbrev cX2_has : ByteArray := prog_1_method_41_code
def yX2_has : MethodName := ⟨RX2, "has", "(JI)Z"⟩
abbrev cX2_allOf : ByteArray := prog_1_method_42_code
def yX2_allOf : MethodName := ⟨RX2, "allOf", "(I)J"⟩
abbrev cX2_worth : ByteArray := prog_1_method_43_code
def yX2_worth : MethodName := ⟨RX2, "worth", "(IZ)I"⟩
abbrev cX2_beats : ByteArray := prog_1_method_44_code
def yX2_beats : MethodName := ⟨RX2, "beats", "(III)Z"⟩
abbrev cX2_reasonAgainstLeading : ByteArray := prog_1_method_45_code
def yX2_reasonAgainstLeading : MethodName := ⟨RX2, "reasonAgainstLeading", "(JI)I"⟩
abbrev cX2_reasonAgainstReplying : ByteArray := prog_1_method_46_code
def yX2_reasonAgainstReplying : MethodName := ⟨RX2, "reasonAgainstReplying", "(JIII)I"⟩
def RX3 : String := "ArchivistTricksModel"
def TX3 : u_T := fun k => match k with
  | 0 => ("ArchivistTricksModel", "place", "[I", true)
  | 1 => ("ArchivistTricksModel", "row", "[I", true)
  | 2 => ("ArchivistTricksModel", "drawn", "I", false)
  | 3 => ("ArchivistTricksModel", "isDealt", "Z", false)
  | 4 => ("ArchivistTricksModel", "isOn", "Z", false)
  | 5 => ("ArchivistTricksModel", "turn", "I", false)
  | 6 => ("ArchivistTricksModel", "ledCard", "I", false)
  | 7 => ("ArchivistTricksModel", "trumps", "I", false)
  | 8 => ("ArchivistTricksModel", "points", "[I", true)
  | 9 => ("ArchivistTricksModel", "tricks", "[I", true)
  | 10 => ("ArchivistTricksModel", "gloves", "[I", true)
  | 11 => ("ArchivistTricksModel", "wins", "[I", true)
  | 12 => ("ArchivistTricksModel", "thrown", "I", false)
  | 13 => ("ArchivistTricksModel", "held", "[I", true)
  | _ => ("ArchivistTricksModel", "worthOf", "[I", true)
def tyX3 : Nat → FieldType := fun k => match k with
  | 0 => .array .int
  | 1 => .array .int
  | 2 => .int
  | 3 => .boolean
  | 4 => .boolean
  | 5 => .int
  | 6 => .int
  | 7 => .int
  | 8 => .array .int
  | 9 => .array .int
  | 10 => .array .int
  | 11 => .array .int
  | 12 => .int
  | 13 => .array .int
  | _ => .array .int
abbrev wsX30 : List Cond := u_ws RX3 TX3 15
theorem nmX3 : ∀ a, a < 15 → ∀ b, b < 15 → a ≠ b → (TX3 a).2.1 ≠ (TX3 b).2.1 := by decide +kernel
theorem tyX3_ok : ∀ k, k < 15 → parseFieldDescriptor (TX3 k).2.2.1 = some (tyX3 k) := by decide +kernel
abbrev cX3_init : ByteArray := prog_5_method_1_code
def yX3_init : MethodName := ⟨RX3, "<init>", "()V"⟩
abbrev cX3_thrown : ByteArray := prog_5_method_2_code
def yX3_thrown : MethodName := ⟨RX3, "thrown", "()I"⟩
abbrev cX3_isCard : ByteArray := prog_5_method_3_code
def yX3_isCard : MethodName := ⟨RX3, "isCard", "(I)Z"⟩
abbrev cX3_isArchivist : ByteArray := prog_5_method_4_code
def yX3_isArchivist : MethodName := ⟨RX3, "isArchivist", "(I)Z"⟩
abbrev cX3_isMildew : ByteArray := prog_5_method_5_code
def yX3_isMildew : MethodName := ⟨RX3, "isMildew", "(I)Z"⟩
abbrev cX3_provenance : ByteArray := prog_5_method_6_code
def yX3_provenance : MethodName := ⟨RX3, "provenance", "(I)I"⟩
abbrev cX3_isTrump : ByteArray := prog_5_method_7_code
def yX3_isTrump : MethodName := ⟨RX3, "isTrump", "(I)Z"⟩
abbrev cX3_worth : ByteArray := prog_5_method_8_code
def yX3_worth : MethodName := ⟨RX3, "worth", "(I)I"⟩
abbrev cX3_worthTo : ByteArray := prog_5_method_9_code
def yX3_worthTo : MethodName := ⟨RX3, "worthTo", "(IZ)I"⟩
abbrev cX3_takes : ByteArray := prog_5_method_10_code
def yX3_takes : MethodName := ⟨RX3, "takes", "(II)Z"⟩
abbrev cX3_inPile : ByteArray := prog_5_method_11_code
def yX3_inPile : MethodName := ⟨RX3, "inPile", "()I"⟩
abbrev cX3_deal : ByteArray := prog_5_method_12_code
def yX3_deal : MethodName := ⟨RX3, "deal", "(J)I"⟩
abbrev cX3_howMany : ByteArray := prog_5_method_13_code
def yX3_howMany : MethodName := ⟨RX3, "howMany", "(I)I"⟩
abbrev cX3_hasOf : ByteArray := prog_5_method_14_code
def yX3_hasOf : MethodName := ⟨RX3, "hasOf", "(II)Z"⟩
abbrev cX3_hasDated : ByteArray := prog_5_method_15_code
def yX3_hasDated : MethodName := ⟨RX3, "hasDated", "(I)Z"⟩
abbrev cX3_why : ByteArray := prog_5_method_16_code
def yX3_why : MethodName := ⟨RX3, "why", "(I)I"⟩
abbrev cX3_draws : ByteArray := prog_5_method_17_code
def yX3_draws : MethodName := ⟨RX3, "draws", "(I)V"⟩
abbrev cX3_ends : ByteArray := prog_5_method_18_code
def yX3_ends : MethodName := ⟨RX3, "ends", "(I)I"⟩
abbrev cX3_play : ByteArray := prog_5_method_19_code
def yX3_play : MethodName := ⟨RX3, "play", "(I)I"⟩
abbrev cX3_putOnGloves : ByteArray := prog_5_method_20_code
def yX3_putOnGloves : MethodName := ⟨RX3, "putOnGloves", "()I"⟩
abbrev cX3_whyNot : ByteArray := prog_5_method_21_code
def yX3_whyNot : MethodName := ⟨RX3, "whyNot", "(I)I"⟩
abbrev cX3_isPlaying : ByteArray := prog_5_method_22_code
def yX3_isPlaying : MethodName := ⟨RX3, "isPlaying", "()Z"⟩
abbrev cX3_turn : ByteArray := prog_5_method_23_code
def yX3_turn : MethodName := ⟨RX3, "turn", "()I"⟩
abbrev cX3_led : ByteArray := prog_5_method_24_code
def yX3_led : MethodName := ⟨RX3, "led", "()I"⟩
abbrev cX3_trumps : ByteArray := prog_5_method_25_code
def yX3_trumps : MethodName := ⟨RX3, "trumps", "()I"⟩
abbrev cX3_pile : ByteArray := prog_5_method_26_code
def yX3_pile : MethodName := ⟨RX3, "pile", "()I"⟩
abbrev cX3_cards : ByteArray := prog_5_method_27_code
def yX3_cards : MethodName := ⟨RX3, "cards", "(I)I"⟩
abbrev cX3_cardAt : ByteArray := prog_5_method_28_code
def yX3_cardAt : MethodName := ⟨RX3, "cardAt", "(II)I"⟩
abbrev cX3_placeOf : ByteArray := prog_5_method_29_code
def yX3_placeOf : MethodName := ⟨RX3, "placeOf", "(I)I"⟩
abbrev cX3_of : ByteArray := prog_5_method_30_code
def yX3_of : MethodName := ⟨RX3, "of", "([II)I"⟩
abbrev cX3_points : ByteArray := prog_5_method_31_code
def yX3_points : MethodName := ⟨RX3, "points", "(I)I"⟩
abbrev cX3_tricks : ByteArray := prog_5_method_32_code
def yX3_tricks : MethodName := ⟨RX3, "tricks", "(I)I"⟩
abbrev cX3_gloves : ByteArray := prog_5_method_33_code
def yX3_gloves : MethodName := ⟨RX3, "gloves", "(I)I"⟩
abbrev cX3_choices : ByteArray := prog_5_method_34_code
def yX3_choices : MethodName := ⟨RX3, "choices", "()I"⟩
abbrev cX3_wouldTake : ByteArray := prog_5_method_35_code
def yX3_wouldTake : MethodName := ⟨RX3, "wouldTake", "(I)I"⟩
abbrev cX3_laysHands : ByteArray := prog_5_method_36_code
def yX3_laysHands : MethodName := ⟨RX3, "laysHands", "()V"⟩
abbrev cX3_many : ByteArray := prog_5_method_37_code
def yX3_many : MethodName := ⟨RX3, "many", "(I)I"⟩
abbrev cX3_isAmong : ByteArray := prog_5_method_38_code
def yX3_isAmong : MethodName := ⟨RX3, "isAmong", "(III)Z"⟩
abbrev cX3_canLead : ByteArray := prog_5_method_39_code
def yX3_canLead : MethodName := ⟨RX3, "canLead", "(III)Z"⟩
abbrev cX3_canFollow : ByteArray := prog_5_method_40_code
def yX3_canFollow : MethodName := ⟨RX3, "canFollow", "(IIII)Z"⟩
abbrev cX3_tableAt : ByteArray := prog_5_method_41_code
def yX3_tableAt : MethodName := ⟨RX3, "tableAt", "(III)I"⟩
abbrev cX3_behind : ByteArray := prog_5_method_42_code
def yX3_behind : MethodName := ⟨RX3, "behind", "(IIIIII)I"⟩
abbrev cX3_leastBy : ByteArray := prog_5_method_43_code
def yX3_leastBy : MethodName := ⟨RX3, "leastBy", "(IIIII)I"⟩
abbrev cX3_mostOf : ByteArray := prog_5_method_44_code
def yX3_mostOf : MethodName := ⟨RX3, "mostOf", "(IIII)I"⟩
abbrev cX3_laysTable : ByteArray := prog_5_method_45_code
def yX3_laysTable : MethodName := ⟨RX3, "laysTable", "()V"⟩
abbrev cX3_wornNow : ByteArray := prog_5_method_46_code
def yX3_wornNow : MethodName := ⟨RX3, "wornNow", "()I"⟩
abbrev cX3_byCard : ByteArray := prog_5_method_47_code
def yX3_byCard : MethodName := ⟨RX3, "byCard", "(I)I"⟩
abbrev cX3_bestPlace : ByteArray := prog_5_method_48_code
def yX3_bestPlace : MethodName := ⟨RX3, "bestPlace", "()I"⟩
abbrev cX3_best : ByteArray := prog_5_method_49_code
def yX3_best : MethodName := ⟨RX3, "best", "()I"⟩
abbrev cX3_bestCard : ByteArray := prog_5_method_50_code
def yX3_bestCard : MethodName := ⟨RX3, "bestCard", "()I"⟩
abbrev cX3_wonByFirst : ByteArray := prog_5_method_51_code
def yX3_wonByFirst : MethodName := ⟨RX3, "wonByFirst", "()I"⟩
abbrev cX3_wonBySecond : ByteArray := prog_5_method_52_code
def yX3_wonBySecond : MethodName := ⟨RX3, "wonBySecond", "()I"⟩
def RJx145de : String := "java/io/Serializable"
def TJx145de : u_T := fun k => match k with
  | _ => ("", "", "", false)
def tyJx145de : Nat → FieldType := fun k => match k with
  | _ => .int
abbrev wsJx145de0 : List Cond := u_ws RJx145de TJx145de 0
theorem nmJx145de : ∀ a, a < 0 → ∀ b, b < 0 → a ≠ b → (TJx145de a).2.1 ≠ (TJx145de b).2.1 := by decide +kernel
theorem tyJx145de_ok : ∀ k, k < 0 → parseFieldDescriptor (TJx145de k).2.2.1 = some (tyJx145de k) := by decide +kernel
def RJ13 : String := "java/lang/Long"
def TJ13 : u_T := fun k => match k with
  | _ => ("", "", "", false)
def tyJ13 : Nat → FieldType := fun k => match k with
  | _ => .int
abbrev wsJ130 : List Cond := u_ws RJ13 TJ13 0
theorem nmJ13 : ∀ a, a < 0 → ∀ b, b < 0 → a ≠ b → (TJ13 a).2.1 ≠ (TJ13 b).2.1 := by decide +kernel
theorem tyJ13_ok : ∀ k, k < 0 → parseFieldDescriptor (TJ13 k).2.2.1 = some (tyJ13 k) := by decide +kernel
abbrev cJ13_bitCount_95d88 : ByteArray := prog_10_method_50_code
def yJ13_bitCount_95d88 : MethodName := ⟨RJ13, "bitCount", "(J)I"⟩
def RJ9 : String := "java/lang/Math"
def TJ9 : u_T := fun k => match k with
  | _ => ("", "", "", false)
def tyJ9 : Nat → FieldType := fun k => match k with
  | _ => .int
abbrev wsJ90 : List Cond := u_ws RJ9 TJ9 0
theorem nmJ9 : ∀ a, a < 0 → ∀ b, b < 0 → a ≠ b → (TJ9 a).2.1 ≠ (TJ9 b).2.1 := by decide +kernel
theorem tyJ9_ok : ∀ k, k < 0 → parseFieldDescriptor (TJ9 k).2.2.1 = some (tyJ9 k) := by decide +kernel
abbrev cJ9_max_7cf53 : ByteArray := prog_11_method_65_code
def yJ9_max_7cf53 : MethodName := ⟨RJ9, "max", "(II)I"⟩
def RJ0 : String := "java/lang/String"
def TJ0 : u_T := fun k => match k with
  | _ => ("", "", "", false)
def tyJ0 : Nat → FieldType := fun k => match k with
  | _ => .int
abbrev wsJ00 : List Cond := u_ws RJ0 TJ0 0
theorem nmJ0 : ∀ a, a < 0 → ∀ b, b < 0 → a ≠ b → (TJ0 a).2.1 ≠ (TJ0 b).2.1 := by decide +kernel
theorem tyJ0_ok : ∀ k, k < 0 → parseFieldDescriptor (TJ0 k).2.2.1 = some (tyJ0 k) := by decide +kernel
def RJ10 : String := "java/lang/System"
def TJ10 : u_T := fun k => match k with
  | _ => ("", "", "", false)
def tyJ10 : Nat → FieldType := fun k => match k with
  | _ => .int
abbrev wsJ100 : List Cond := u_ws RJ10 TJ10 0
theorem nmJ10 : ∀ a, a < 0 → ∀ b, b < 0 → a ≠ b → (TJ10 a).2.1 ≠ (TJ10 b).2.1 := by decide +kernel
theorem tyJ10_ok : ∀ k, k < 0 → parseFieldDescriptor (TJ10 k).2.2.1 = some (tyJ10 k) := by decide +kernel
def RJ7 : String := "java/util/Arrays"
def TJ7 : u_T := fun k => match k with
  | _ => ("", "", "", false)
def tyJ7 : Nat → FieldType := fun k => match k with
  | _ => .int
abbrev wsJ70 : List Cond := u_ws RJ7 TJ7 0
theorem nmJ7 : ∀ a, a < 0 → ∀ b, b < 0 → a ≠ b → (TJ7 a).2.1 ≠ (TJ7 b).2.1 := by decide +kernel
theorem tyJ7_ok : ∀ k, k < 0 → parseFieldDescriptor (TJ7 k).2.2.1 = some (tyJ7 k) := by decide +kernel
abbrev cJ7_fill_53178 : ByteArray := prog_16_method_103_code
def yJ7_fill_53178 : MethodName := ⟨RJ7, "fill", "([II)V"⟩
def RL : String := "ArchivistTricksLaw"
abbrev cL_play : ByteArray := method_3_code
def yL_play : MethodName := ⟨RL, "play", "(LArchivistTricks;I[J)I"⟩
abbrev cL_putOnGloves : ByteArray := method_4_code
def yL_putOnGloves : MethodName := ⟨RL, "putOnGloves", "(LArchivistTricks;[J)I"⟩
abbrev cL_whyNot : ByteArray := method_5_code
def yL_whyNot : MethodName := ⟨RL, "whyNot", "(LArchivistTricks;I[J)I"⟩
abbrev cL_cards : ByteArray := method_6_code
def yL_cards : MethodName := ⟨RL, "cards", "(LArchivistTricks;I[J)I"⟩
abbrev cL_cardAt : ByteArray := method_7_code
def yL_cardAt : MethodName := ⟨RL, "cardAt", "(LArchivistTricks;II[J)I"⟩
abbrev cL_placeOf : ByteArray := method_8_code
def yL_placeOf : MethodName := ⟨RL, "placeOf", "(LArchivistTricks;I[J)I"⟩
abbrev cL_points : ByteArray := method_9_code
def yL_points : MethodName := ⟨RL, "points", "(LArchivistTricks;I[J)I"⟩
abbrev cL_tricks : ByteArray := method_10_code
def yL_tricks : MethodName := ⟨RL, "tricks", "(LArchivistTricks;I[J)I"⟩
abbrev cL_gloves : ByteArray := method_11_code
def yL_gloves : MethodName := ⟨RL, "gloves", "(LArchivistTricks;I[J)I"⟩
abbrev cL_wouldTake : ByteArray := method_12_code
def yL_wouldTake : MethodName := ⟨RL, "wouldTake", "(LArchivistTricks;I[J)I"⟩
abbrev cL_best : ByteArray := method_13_code
def yL_best : MethodName := ⟨RL, "best", "(LArchivistTricks;[J)I"⟩
abbrev cL_bestCard : ByteArray := method_14_code
def yL_bestCard : MethodName := ⟨RL, "bestCard", "(LArchivistTricks;[J)I"⟩
abbrev cL_law : ByteArray := code
def yL_law : MethodName := ⟨RL, "law", "([I)Z"⟩
def wsX0_init : List Cond := .code yX0_init cX0_init 1 none :: ([.methodLink RX0 3 objectInit, .instanceMethod objectInit, .code objectInit ⟨#[0xb1]⟩ 1 none, .fieldLink RX0 9 "ArchivistTricks$Archivist" "hand" "J", .fieldLink RX0 15 "ArchivistTricks$Archivist" "taken" "J", .fieldLink RX0 18 "ArchivistTricks$Archivist" "points" "I", .fieldLink RX0 22 "ArchivistTricks$Archivist" "tricks" "I", .fieldLink RX0 25 "ArchivistTricks$Archivist" "gloves" "I"] ++ wsX00)
def wsX0_begin : List Cond := .code yX0_begin cX0_begin 3 none :: ([.fieldLink RX0 9 "ArchivistTricks$Archivist" "hand" "J", .fieldLink RX0 15 "ArchivistTricks$Archivist" "taken" "J", .fieldLink RX0 18 "ArchivistTricks$Archivist" "points" "I", .fieldLink RX0 22 "ArchivistTricks$Archivist" "tricks" "I", .fieldLink RX0 25 "ArchivistTricks$Archivist" "gloves" "I"] ++ wsX00)
def wsX0_loseWornGloves : List Cond := .code yX0_loseWornGloves cX0_loseWornGloves 1 none :: ([.fieldLink RX0 25 "ArchivistTricks$Archivist" "gloves" "I"] ++ wsX00)
def wsX1_init : List Cond := .code yX1_init cX1_init 1 none :: ([.methodLink RX1 3 objectInit, .instanceMethod objectInit, .code objectInit ⟨#[0xb1]⟩ 1 none, .arrayClass .int, .fieldLink RX1 9 "ArchivistTricks$Ending" "margins" "[I", .fieldLink RX1 15 "ArchivistTricks$Ending" "firstAll" "J", .fieldLink RX1 19 "ArchivistTricks$Ending" "secondAll" "J", .fieldLink RX1 22 "ArchivistTricks$Ending" "trump" "I"] ++ wsX10)
def wsJ7_fill_53178 : List Cond := .code yJ7_fill_53178 cJ7_fill_53178 4 none :: ([])
def wsX1_begin : List Cond := .code yX1_begin cX1_begin 6 none :: ([.fieldLink RX1 15 "ArchivistTricks$Ending" "firstAll" "J", .fieldLink RX1 19 "ArchivistTricks$Ending" "secondAll" "J", .fieldLink RX1 22 "ArchivistTricks$Ending" "trump" "I", .fieldLink RX1 9 "ArchivistTricks$Ending" "margins" "[I", .methodLink RX1 26 yJ7_fill_53178, .static yJ7_fill_53178, .initialized RJ7, .code yJ7_fill_53178 cJ7_fill_53178 4 none] ++ wsX10)
def wsX2_bit : List Cond := .code yX2_bit cX2_bit 1 (some .long) :: ([])
def wsX2_has : List Cond := .code yX2_has cX2_has 3 (some .boolean) :: ([.methodLink RX2 95 yX2_bit, .static yX2_bit, .initialized RX2, .code yX2_bit cX2_bit 1 (some .long)])
def wsX2_isMildew : List Cond := .code yX2_isMildew cX2_isMildew 1 (some .boolean) :: ([])
def wsX2_reasonAgainstLeading : List Cond := .code yX2_reasonAgainstLeading cX2_reasonAgainstLeading 3 (some .int) :: ([.constantLong RX2 216 (1099511627775), .methodLink RX2 64 yX2_isMildew, .static yX2_isMildew, .initialized RX2, .code yX2_isMildew cX2_isMildew 1 (some .boolean)])
def wsX2_allOf : List Cond := .code yX2_allOf cX2_allOf 1 (some .long) :: ([.constantLong RX2 214 (1023)])
def wsX2_reasonAgainstReplying : List Cond := .code yX2_reasonAgainstReplying cX2_reasonAgainstReplying 9 (some .int) :: ([.methodLink RX2 64 yX2_isMildew, .static yX2_isMildew, .initialized RX2, .code yX2_isMildew cX2_isMildew 1 (some .boolean), .methodLink RX2 218 yX2_allOf, .static yX2_allOf, .code yX2_allOf cX2_allOf 1 (some .long), .constantLong RX2 214 (1023), .methodLink RX2 124 yX2_has, .static yX2_has, .code yX2_has cX2_has 3 (some .boolean), .methodLink RX2 95 yX2_bit, .static yX2_bit, .code yX2_bit cX2_bit 1 (some .long)])
def wsX1_mayPlay : List Cond := .code yX1_mayPlay cX1_mayPlay 6 (some .boolean) :: ([.fieldLink RX1 22 "ArchivistTricks$Ending" "trump" "I", .static yX2_has, .initialized RX2, .code yX2_has cX2_has 3 (some .boolean), .methodLink RX2 95 yX2_bit, .static yX2_bit, .code yX2_bit cX2_bit 1 (some .long), .static yX2_reasonAgainstLeading, .code yX2_reasonAgainstLeading cX2_reasonAgainstLeading 3 (some .int), .constantLong RX2 216 (1099511627775), .methodLink RX2 64 yX2_isMildew, .static yX2_isMildew, .code yX2_isMildew cX2_isMildew 1 (some .boolean), .static yX2_reasonAgainstReplying, .code yX2_reasonAgainstReplying cX2_reasonAgainstReplying 9 (some .int), .methodLink RX2 218 yX2_allOf, .static yX2_allOf, .code yX2_allOf cX2_allOf 1 (some .long), .constantLong RX2 214 (1023), .methodLink RX2 124 yX2_has] ++ wsX10)
def wsX2_beats : List Cond := .code yX2_beats cX2_beats 3 (some .boolean) :: ([.methodLink RX2 64 yX2_isMildew, .static yX2_isMildew, .initialized RX2, .code yX2_isMildew cX2_isMildew 1 (some .boolean)])
def wsX2_worth : List Cond := .code yX2_worth cX2_worth 2 (some .int) :: ([.methodLink RX2 64 yX2_isMildew, .static yX2_isMildew, .initialized RX2, .code yX2_isMildew cX2_isMildew 1 (some .boolean)])
def wsX1_trickWorth : List Cond := .code yX1_trickWorth cX1_trickWorth 5 (some .int) :: ([.static yX2_worth, .initialized RX2, .code yX2_worth cX2_worth 2 (some .int), .methodLink RX2 64 yX2_isMildew, .static yX2_isMildew, .code yX2_isMildew cX2_isMildew 1 (some .boolean)])
def wsX1_keptOf : List Cond := .code yX1_keptOf cX1_keptOf 10 (some .int) :: ([.constantLong RX1 54 (-1)])
def wsX1_stateOf : List Cond := .code yX1_stateOf cX1_stateOf 8 (some .int) :: ([.fieldLink RX1 15 "ArchivistTricks$Ending" "firstAll" "J", .fieldLink RX1 19 "ArchivistTricks$Ending" "secondAll" "J", .methodLink RX1 84 yX1_keptOf, .static yX1_keptOf, .initialized RX1, .code yX1_keptOf cX1_keptOf 10 (some .int), .constantLong RX1 54 (-1)] ++ wsX10)
def wsX1_margin_r1 : List Cond := [Cond.methodLink RX1 44 Lib.Math.max.name, Cond.static Lib.Math.max.name, Cond.initialized "java/lang/Math", Cond.code Lib.Math.max.name Lib.Math.max.code 2 (some .int), Cond.methodLink RX1 36 yX1_mayPlay, Cond.instanceMethod yX1_mayPlay, Cond.selects RX1 yX1_mayPlay yX1_mayPlay, Cond.initialized RX1, Cond.code yX1_mayPlay cX1_mayPlay 6 (some .boolean), Cond.fieldLink RX1 22 "ArchivistTricks$Ending" "trump" "I", Cond.static yX2_has, Cond.initialized RX2, Cond.code yX2_has cX2_has 3 (some .boolean), Cond.methodLink RX2 95 yX2_bit, Cond.static yX2_bit, Cond.code yX2_bit cX2_bit 1 (some .long), Cond.static yX2_reasonAgainstLeading, Cond.code yX2_reasonAgainstLeading cX2_reasonAgainstLeading 3 (some .int), Cond.constantLong RX2 216 (1099511627775), Cond.methodLink RX2 64 yX2_isMildew, Cond.static yX2_isMildew, Cond.code yX2_isMildew cX2_isMildew 1 (some .boolean), Cond.static yX2_reasonAgainstReplying, Cond.code yX2_reasonAgainstReplying cX2_reasonAgainstReplying 9 (some .int)]
def wsX1_margin_r2 : List Cond := [Cond.methodLink RX2 218 yX2_allOf, Cond.static yX2_allOf, Cond.code yX2_allOf cX2_allOf 1 (some .long), Cond.constantLong RX2 214 (1023), Cond.methodLink RX2 124 yX2_has, Cond.methodLink RX1 40 yX1_marginBy, Cond.instanceMethod yX1_marginBy, Cond.selects RX1 yX1_marginBy yX1_marginBy, Cond.code yX1_marginBy cX1_marginBy 13 (some .int), Cond.constantLong RX1 54 (-1), Cond.methodLink RX1 32 yX1_margin, Cond.instanceMethod yX1_margin, Cond.selects RX1 yX1_margin yX1_margin, Cond.static yX2_beats, Cond.code yX2_beats cX2_beats 3 (some .boolean), Cond.methodLink RX1 60 yX1_trickWorth, Cond.static yX1_trickWorth, Cond.code yX1_trickWorth cX1_trickWorth 5 (some .int), Cond.static yX2_worth, Cond.code yX2_worth cX2_worth 2 (some .int), Cond.methodLink RX1 64 yX1_rest, Cond.instanceMethod yX1_rest, Cond.selects RX1 yX1_rest yX1_rest, Cond.code yX1_rest cX1_rest 10 (some .int)]
def wsX1_margin_r3 : List Cond := [Cond.fieldLink RX1 9 "ArchivistTricks$Ending" "margins" "[I", Cond.methodLink RX1 68 yX1_stateOf, Cond.instanceMethod yX1_stateOf, Cond.selects RX1 yX1_stateOf yX1_stateOf, Cond.code yX1_stateOf cX1_stateOf 8 (some .int), Cond.fieldLink RX1 15 "ArchivistTricks$Ending" "firstAll" "J", Cond.fieldLink RX1 19 "ArchivistTricks$Ending" "secondAll" "J", Cond.methodLink RX1 84 yX1_keptOf, Cond.static yX1_keptOf, Cond.code yX1_keptOf cX1_keptOf 10 (some .int)]
def wsX1_margin : List Cond := .code yX1_margin cX1_margin 11 (some .int) :: ((wsX1_margin_r1 ++ (wsX1_margin_r2 ++ wsX1_margin_r3)) ++ wsX10)
def wsX1_marginBy_r1 : List Cond := [Cond.constantLong RX1 54 (-1), Cond.fieldLink RX1 22 "ArchivistTricks$Ending" "trump" "I", Cond.static yX2_bit, Cond.initialized RX2, Cond.code yX2_bit cX2_bit 1 (some .long), Cond.methodLink RX1 32 yX1_margin, Cond.instanceMethod yX1_margin, Cond.selects RX1 yX1_margin yX1_margin, Cond.initialized RX1, Cond.static yX2_beats, Cond.code yX2_beats cX2_beats 3 (some .boolean), Cond.methodLink RX2 64 yX2_isMildew, Cond.static yX2_isMildew, Cond.code yX2_isMildew cX2_isMildew 1 (some .boolean), Cond.methodLink RX1 60 yX1_trickWorth, Cond.static yX1_trickWorth, Cond.code yX1_trickWorth cX1_trickWorth 5 (some .int), Cond.static yX2_worth, Cond.code yX2_worth cX2_worth 2 (some .int), Cond.methodLink RX1 64 yX1_rest, Cond.instanceMethod yX1_rest, Cond.selects RX1 yX1_rest yX1_rest, Cond.code yX1_margin cX1_margin 11 (some .int), Cond.methodLink RX1 44 Lib.Math.max.name]
def wsX1_marginBy_r2 : List Cond := [Cond.static Lib.Math.max.name, Cond.initialized "java/lang/Math", Cond.code Lib.Math.max.name Lib.Math.max.code 2 (some .int), Cond.methodLink RX1 36 yX1_mayPlay, Cond.instanceMethod yX1_mayPlay, Cond.selects RX1 yX1_mayPlay yX1_mayPlay, Cond.code yX1_mayPlay cX1_mayPlay 6 (some .boolean), Cond.static yX2_has, Cond.code yX2_has cX2_has 3 (some .boolean), Cond.methodLink RX2 95 yX2_bit, Cond.static yX2_reasonAgainstLeading, Cond.code yX2_reasonAgainstLeading cX2_reasonAgainstLeading 3 (some .int), Cond.constantLong RX2 216 (1099511627775), Cond.static yX2_reasonAgainstReplying, Cond.code yX2_reasonAgainstReplying cX2_reasonAgainstReplying 9 (some .int), Cond.methodLink RX2 218 yX2_allOf, Cond.static yX2_allOf, Cond.code yX2_allOf cX2_allOf 1 (some .long), Cond.constantLong RX2 214 (1023), Cond.methodLink RX2 124 yX2_has, Cond.methodLink RX1 40 yX1_marginBy, Cond.instanceMethod yX1_marginBy, Cond.selects RX1 yX1_marginBy yX1_marginBy, Cond.code yX1_rest cX1_rest 10 (some .int)]
def wsX1_marginBy_r3 : List Cond := [Cond.fieldLink RX1 9 "ArchivistTricks$Ending" "margins" "[I", Cond.methodLink RX1 68 yX1_stateOf, Cond.instanceMethod yX1_stateOf, Cond.selects RX1 yX1_stateOf yX1_stateOf, Cond.code yX1_stateOf cX1_stateOf 8 (some .int), Cond.fieldLink RX1 15 "ArchivistTricks$Ending" "firstAll" "J", Cond.fieldLink RX1 19 "ArchivistTricks$Ending" "secondAll" "J", Cond.methodLink RX1 84 yX1_keptOf, Cond.static yX1_keptOf, Cond.code yX1_keptOf cX1_keptOf 10 (some .int)]
def wsX1_marginBy : List Cond := .code yX1_marginBy cX1_marginBy 13 (some .int) :: ((wsX1_marginBy_r1 ++ (wsX1_marginBy_r2 ++ wsX1_marginBy_r3)) ++ wsX10)
def wsX1_rest_r1 : List Cond := [Cond.fieldLink RX1 9 "ArchivistTricks$Ending" "margins" "[I", Cond.methodLink RX1 68 yX1_stateOf, Cond.instanceMethod yX1_stateOf, Cond.selects RX1 yX1_stateOf yX1_stateOf, Cond.initialized RX1, Cond.code yX1_stateOf cX1_stateOf 8 (some .int), Cond.fieldLink RX1 15 "ArchivistTricks$Ending" "firstAll" "J", Cond.fieldLink RX1 19 "ArchivistTricks$Ending" "secondAll" "J", Cond.methodLink RX1 84 yX1_keptOf, Cond.static yX1_keptOf, Cond.code yX1_keptOf cX1_keptOf 10 (some .int), Cond.constantLong RX1 54 (-1), Cond.methodLink RX1 32 yX1_margin, Cond.instanceMethod yX1_margin, Cond.selects RX1 yX1_margin yX1_margin, Cond.code yX1_margin cX1_margin 11 (some .int), Cond.methodLink RX1 44 Lib.Math.max.name, Cond.static Lib.Math.max.name, Cond.initialized "java/lang/Math", Cond.code Lib.Math.max.name Lib.Math.max.code 2 (some .int), Cond.methodLink RX1 36 yX1_mayPlay, Cond.instanceMethod yX1_mayPlay, Cond.selects RX1 yX1_mayPlay yX1_mayPlay, Cond.code yX1_mayPlay cX1_mayPlay 6 (some .boolean)]
def wsX1_rest_r2 : List Cond := [Cond.fieldLink RX1 22 "ArchivistTricks$Ending" "trump" "I", Cond.static yX2_has, Cond.initialized RX2, Cond.code yX2_has cX2_has 3 (some .boolean), Cond.methodLink RX2 95 yX2_bit, Cond.static yX2_bit, Cond.code yX2_bit cX2_bit 1 (some .long), Cond.static yX2_reasonAgainstLeading, Cond.code yX2_reasonAgainstLeading cX2_reasonAgainstLeading 3 (some .int), Cond.constantLong RX2 216 (1099511627775), Cond.methodLink RX2 64 yX2_isMildew, Cond.static yX2_isMildew, Cond.code yX2_isMildew cX2_isMildew 1 (some .boolean), Cond.static yX2_reasonAgainstReplying, Cond.code yX2_reasonAgainstReplying cX2_reasonAgainstReplying 9 (some .int), Cond.methodLink RX2 218 yX2_allOf, Cond.static yX2_allOf, Cond.code yX2_allOf cX2_allOf 1 (some .long), Cond.constantLong RX2 214 (1023), Cond.methodLink RX2 124 yX2_has, Cond.methodLink RX1 40 yX1_marginBy, Cond.instanceMethod yX1_marginBy, Cond.selects RX1 yX1_marginBy yX1_marginBy, Cond.code yX1_marginBy cX1_marginBy 13 (some .int)]
def wsX1_rest_r3 : List Cond := [Cond.static yX2_beats, Cond.code yX2_beats cX2_beats 3 (some .boolean), Cond.methodLink RX1 60 yX1_trickWorth, Cond.static yX1_trickWorth, Cond.code yX1_trickWorth cX1_trickWorth 5 (some .int), Cond.static yX2_worth, Cond.code yX2_worth cX2_worth 2 (some .int), Cond.methodLink RX1 64 yX1_rest, Cond.instanceMethod yX1_rest, Cond.selects RX1 yX1_rest yX1_rest]
def wsX1_rest : List Cond := .code yX1_rest cX1_rest 10 (some .int) :: ((wsX1_rest_r1 ++ (wsX1_rest_r2 ++ wsX1_rest_r3)) ++ wsX10)
def wsX1_bestMargin_r1 : List Cond := [Cond.methodLink RX1 32 yX1_margin, Cond.instanceMethod yX1_margin, Cond.selects RX1 yX1_margin yX1_margin, Cond.initialized RX1, Cond.code yX1_margin cX1_margin 11 (some .int), Cond.methodLink RX1 44 Lib.Math.max.name, Cond.static Lib.Math.max.name, Cond.initialized "java/lang/Math", Cond.code Lib.Math.max.name Lib.Math.max.code 2 (some .int), Cond.methodLink RX1 36 yX1_mayPlay, Cond.instanceMethod yX1_mayPlay, Cond.selects RX1 yX1_mayPlay yX1_mayPlay, Cond.code yX1_mayPlay cX1_mayPlay 6 (some .boolean), Cond.fieldLink RX1 22 "ArchivistTricks$Ending" "trump" "I", Cond.static yX2_has, Cond.initialized RX2, Cond.code yX2_has cX2_has 3 (some .boolean), Cond.methodLink RX2 95 yX2_bit, Cond.static yX2_bit, Cond.code yX2_bit cX2_bit 1 (some .long), Cond.static yX2_reasonAgainstLeading, Cond.code yX2_reasonAgainstLeading cX2_reasonAgainstLeading 3 (some .int), Cond.constantLong RX2 216 (1099511627775), Cond.methodLink RX2 64 yX2_isMildew]
def wsX1_bestMargin_r2 : List Cond := [Cond.static yX2_isMildew, Cond.code yX2_isMildew cX2_isMildew 1 (some .boolean), Cond.static yX2_reasonAgainstReplying, Cond.code yX2_reasonAgainstReplying cX2_reasonAgainstReplying 9 (some .int), Cond.methodLink RX2 218 yX2_allOf, Cond.static yX2_allOf, Cond.code yX2_allOf cX2_allOf 1 (some .long), Cond.constantLong RX2 214 (1023), Cond.methodLink RX2 124 yX2_has, Cond.methodLink RX1 40 yX1_marginBy, Cond.instanceMethod yX1_marginBy, Cond.selects RX1 yX1_marginBy yX1_marginBy, Cond.code yX1_marginBy cX1_marginBy 13 (some .int), Cond.constantLong RX1 54 (-1), Cond.static yX2_beats, Cond.code yX2_beats cX2_beats 3 (some .boolean), Cond.methodLink RX1 60 yX1_trickWorth, Cond.static yX1_trickWorth, Cond.code yX1_trickWorth cX1_trickWorth 5 (some .int), Cond.static yX2_worth, Cond.code yX2_worth cX2_worth 2 (some .int), Cond.methodLink RX1 64 yX1_rest, Cond.instanceMethod yX1_rest, Cond.selects RX1 yX1_rest yX1_rest]
def wsX1_bestMargin_r3 : List Cond := [Cond.code yX1_rest cX1_rest 10 (some .int), Cond.fieldLink RX1 9 "ArchivistTricks$Ending" "margins" "[I", Cond.methodLink RX1 68 yX1_stateOf, Cond.instanceMethod yX1_stateOf, Cond.selects RX1 yX1_stateOf yX1_stateOf, Cond.code yX1_stateOf cX1_stateOf 8 (some .int), Cond.fieldLink RX1 15 "ArchivistTricks$Ending" "firstAll" "J", Cond.fieldLink RX1 19 "ArchivistTricks$Ending" "secondAll" "J", Cond.methodLink RX1 84 yX1_keptOf, Cond.static yX1_keptOf, Cond.code yX1_keptOf cX1_keptOf 10 (some .int)]
def wsX1_bestMargin : List Cond := .code yX1_bestMargin cX1_bestMargin 8 (some .int) :: ((wsX1_bestMargin_r1 ++ (wsX1_bestMargin_r2 ++ wsX1_bestMargin_r3)) ++ wsX10)
def wsX1_lowestBestCard_r1 : List Cond := [Cond.methodLink RX1 36 yX1_mayPlay, Cond.instanceMethod yX1_mayPlay, Cond.selects RX1 yX1_mayPlay yX1_mayPlay, Cond.initialized RX1, Cond.code yX1_mayPlay cX1_mayPlay 6 (some .boolean), Cond.fieldLink RX1 22 "ArchivistTricks$Ending" "trump" "I", Cond.static yX2_has, Cond.initialized RX2, Cond.code yX2_has cX2_has 3 (some .boolean), Cond.methodLink RX2 95 yX2_bit, Cond.static yX2_bit, Cond.code yX2_bit cX2_bit 1 (some .long), Cond.static yX2_reasonAgainstLeading, Cond.code yX2_reasonAgainstLeading cX2_reasonAgainstLeading 3 (some .int), Cond.constantLong RX2 216 (1099511627775), Cond.methodLink RX2 64 yX2_isMildew, Cond.static yX2_isMildew, Cond.code yX2_isMildew cX2_isMildew 1 (some .boolean), Cond.static yX2_reasonAgainstReplying, Cond.code yX2_reasonAgainstReplying cX2_reasonAgainstReplying 9 (some .int), Cond.methodLink RX2 218 yX2_allOf, Cond.static yX2_allOf, Cond.code yX2_allOf cX2_allOf 1 (some .long), Cond.constantLong RX2 214 (1023)]
def wsX1_lowestBestCard_r2 : List Cond := [Cond.methodLink RX2 124 yX2_has, Cond.methodLink RX1 40 yX1_marginBy, Cond.instanceMethod yX1_marginBy, Cond.selects RX1 yX1_marginBy yX1_marginBy, Cond.code yX1_marginBy cX1_marginBy 13 (some .int), Cond.constantLong RX1 54 (-1), Cond.methodLink RX1 32 yX1_margin, Cond.instanceMethod yX1_margin, Cond.selects RX1 yX1_margin yX1_margin, Cond.static yX2_beats, Cond.code yX2_beats cX2_beats 3 (some .boolean), Cond.methodLink RX1 60 yX1_trickWorth, Cond.static yX1_trickWorth, Cond.code yX1_trickWorth cX1_trickWorth 5 (some .int), Cond.static yX2_worth, Cond.code yX2_worth cX2_worth 2 (some .int), Cond.methodLink RX1 64 yX1_rest, Cond.instanceMethod yX1_rest, Cond.selects RX1 yX1_rest yX1_rest, Cond.code yX1_margin cX1_margin 11 (some .int), Cond.methodLink RX1 44 Lib.Math.max.name, Cond.static Lib.Math.max.name, Cond.initialized "java/lang/Math", Cond.code Lib.Math.max.name Lib.Math.max.code 2 (some .int)]
def wsX1_lowestBestCard_r3 : List Cond := [Cond.code yX1_rest cX1_rest 10 (some .int), Cond.fieldLink RX1 9 "ArchivistTricks$Ending" "margins" "[I", Cond.methodLink RX1 68 yX1_stateOf, Cond.instanceMethod yX1_stateOf, Cond.selects RX1 yX1_stateOf yX1_stateOf, Cond.code yX1_stateOf cX1_stateOf 8 (some .int), Cond.fieldLink RX1 15 "ArchivistTricks$Ending" "firstAll" "J", Cond.fieldLink RX1 19 "ArchivistTricks$Ending" "secondAll" "J", Cond.methodLink RX1 84 yX1_keptOf, Cond.static yX1_keptOf, Cond.code yX1_keptOf cX1_keptOf 10 (some .int)]
def wsX1_lowestBestCard : List Cond := .code yX1_lowestBestCard cX1_lowestBestCard 12 (some .int) :: ((wsX1_lowestBestCard_r1 ++ (wsX1_lowestBestCard_r2 ++ wsX1_lowestBestCard_r3)) ++ wsX10)
def wsX2_init_r1 : List Cond := [Cond.methodLink RX2 3 objectInit, Cond.instanceMethod objectInit, Cond.code objectInit ⟨#[0xb1]⟩ 1 none, Cond.arrayClass .int, Cond.fieldLink RX2 9 "ArchivistTricks" "row" "[I", Cond.classLink RX2 13 RX0, Cond.instantiable RX0 5, Cond.initialized RX0, Cond.fieldLink RX2 16 "ArchivistTricks" "first" "LArchivistTricks$Archivist;", Cond.fieldLink RX2 20 "ArchivistTricks" "second" "LArchivistTricks$Archivist;", Cond.fieldLink RX2 23 "ArchivistTricks" "drawn" "I", Cond.fieldLink RX2 27 "ArchivistTricks" "trumpProvenance" "I", Cond.fieldLink RX2 30 "ArchivistTricks" "ledCard" "I", Cond.fieldLink RX2 33 "ArchivistTricks" "mover" "I", Cond.fieldLink RX2 36 "ArchivistTricks" "firstWins" "I", Cond.fieldLink RX2 39 "ArchivistTricks" "secondWins" "I", Cond.fieldLink RX2 42 "ArchivistTricks" "ending" "LArchivistTricks$Ending;", Cond.fieldLink RX2 46 "ArchivistTricks" "endingBegun" "Z", Cond.instanceMethod yX0_init, Cond.code yX0_init cX0_init 1 none, Cond.methodLink RX0 3 objectInit, Cond.fieldLink RX0 9 "ArchivistTricks$Archivist" "hand" "J", Cond.fieldLink RX0 15 "ArchivistTricks$Archivist" "taken" "J", Cond.fieldLink RX0 18 "ArchivistTricks$Archivist" "points" "I"]
def wsX2_init_r2 : List Cond := [Cond.fieldLink RX0 22 "ArchivistTricks$Archivist" "tricks" "I", Cond.fieldLink RX0 25 "ArchivistTricks$Archivist" "gloves" "I"]
def wsX2_init : List Cond := .code yX2_init cX2_init 1 none :: ((wsX2_init_r1 ++ wsX2_init_r2) ++ wsX20 ++ wsX00)
def wsX2_shuffle : List Cond := .code yX2_shuffle cX2_shuffle 8 none :: ([.fieldLink RX2 9 "ArchivistTricks" "row" "[I", .constantLong RX2 174 (6364136223846793005), .constantLong RX2 176 (1442695040888963407)] ++ wsX20)
def wsX2_putTurnedUpLast : List Cond := .code yX2_putTurnedUpLast cX2_putTurnedUpLast 2 none :: ([.fieldLink RX2 9 "ArchivistTricks" "row" "[I", .methodLink RX2 178 arraycopyName, .native arraycopyName, .static arraycopyName, .initialized "java/lang/System"] ++ wsX20)
def wsX2_handFrom : List Cond := .code yX2_handFrom cX2_handFrom 5 (some .long) :: ([.fieldLink RX2 9 "ArchivistTricks" "row" "[I", .methodLink RX2 95 yX2_bit, .static yX2_bit, .initialized RX2, .code yX2_bit cX2_bit 1 (some .long)] ++ wsX20)
def wsX2_deal_r1 : List Cond := [Cond.fieldLink RX2 9 "ArchivistTricks" "row" "[I", Cond.fieldLink RX2 16 "ArchivistTricks" "first" "LArchivistTricks$Archivist;", Cond.fieldLink RX2 20 "ArchivistTricks" "second" "LArchivistTricks$Archivist;", Cond.fieldLink RX2 23 "ArchivistTricks" "drawn" "I", Cond.fieldLink RX2 27 "ArchivistTricks" "trumpProvenance" "I", Cond.fieldLink RX2 30 "ArchivistTricks" "ledCard" "I", Cond.fieldLink RX2 33 "ArchivistTricks" "mover" "I", Cond.fieldLink RX2 46 "ArchivistTricks" "endingBegun" "Z", Cond.methodLink RX2 50 yX2_shuffle, Cond.instanceMethod yX2_shuffle, Cond.selects RX2 yX2_shuffle yX2_shuffle, Cond.initialized RX2, Cond.code yX2_shuffle cX2_shuffle 8 none, Cond.constantLong RX2 174 (6364136223846793005), Cond.constantLong RX2 176 (1442695040888963407), Cond.methodLink RX2 54 yX2_putTurnedUpLast, Cond.instanceMethod yX2_putTurnedUpLast, Cond.selects RX2 yX2_putTurnedUpLast yX2_putTurnedUpLast, Cond.code yX2_putTurnedUpLast cX2_putTurnedUpLast 2 none, Cond.methodLink RX2 178 arraycopyName, Cond.native arraycopyName, Cond.static arraycopyName, Cond.initialized "java/lang/System", Cond.methodLink RX2 57 yX2_handFrom]
def wsX2_deal_r2 : List Cond := [Cond.instanceMethod yX2_handFrom, Cond.selects RX2 yX2_handFrom yX2_handFrom, Cond.code yX2_handFrom cX2_handFrom 5 (some .long), Cond.methodLink RX2 95 yX2_bit, Cond.static yX2_bit, Cond.code yX2_bit cX2_bit 1 (some .long), Cond.methodLink RX2 61 yX0_begin, Cond.instanceMethod yX0_begin, Cond.selects RX0 yX0_begin yX0_begin, Cond.initialized RX0, Cond.code yX0_begin cX0_begin 3 none, Cond.fieldLink RX0 9 "ArchivistTricks$Archivist" "hand" "J", Cond.fieldLink RX0 15 "ArchivistTricks$Archivist" "taken" "J", Cond.fieldLink RX0 18 "ArchivistTricks$Archivist" "points" "I", Cond.fieldLink RX0 22 "ArchivistTricks$Archivist" "tricks" "I", Cond.fieldLink RX0 25 "ArchivistTricks$Archivist" "gloves" "I", Cond.methodLink RX2 64 yX2_isMildew, Cond.static yX2_isMildew, Cond.code yX2_isMildew cX2_isMildew 1 (some .boolean)]
def wsX2_deal : List Cond := .code yX2_deal cX2_deal 4 (some .int) :: ((wsX2_deal_r1 ++ wsX2_deal_r2) ++ wsX20 ++ wsX00)
def wsX2_isCard : List Cond := .code yX2_isCard cX2_isCard 1 (some .boolean) :: ([])
def wsX2_archivist : List Cond := .code yX2_archivist cX2_archivist 2 (some (.object "ArchivistTricks$Archivist")) :: ([.fieldLink RX2 16 "ArchivistTricks" "first" "LArchivistTricks$Archivist;", .fieldLink RX2 20 "ArchivistTricks" "second" "LArchivistTricks$Archivist;"] ++ wsX20)
def wsX2_moversHand : List Cond := .code yX2_moversHand cX2_moversHand 1 (some .long) :: ([.fieldLink RX2 33 "ArchivistTricks" "mover" "I", .fieldLink RX2 91 "ArchivistTricks$Archivist" "hand" "J", .methodLink RX2 87 yX2_archivist, .instanceMethod yX2_archivist, .selects RX2 yX2_archivist yX2_archivist, .initialized RX2, .code yX2_archivist cX2_archivist 2 (some (.object "ArchivistTricks$Archivist")), .fieldLink RX2 16 "ArchivistTricks" "first" "LArchivistTricks$Archivist;", .fieldLink RX2 20 "ArchivistTricks" "second" "LArchivistTricks$Archivist;"] ++ wsX20 ++ wsX00)
def wsX2_reasonAgainst_r1 : List Cond := [Cond.fieldLink RX2 33 "ArchivistTricks" "mover" "I", Cond.fieldLink RX2 30 "ArchivistTricks" "ledCard" "I", Cond.fieldLink RX2 23 "ArchivistTricks" "drawn" "I", Cond.fieldLink RX2 27 "ArchivistTricks" "trumpProvenance" "I", Cond.methodLink RX2 154 yX2_moversHand, Cond.instanceMethod yX2_moversHand, Cond.selects RX2 yX2_moversHand yX2_moversHand, Cond.initialized RX2, Cond.code yX2_moversHand cX2_moversHand 1 (some .long), Cond.fieldLink RX2 91 "ArchivistTricks$Archivist" "hand" "J", Cond.methodLink RX2 87 yX2_archivist, Cond.instanceMethod yX2_archivist, Cond.selects RX2 yX2_archivist yX2_archivist, Cond.code yX2_archivist cX2_archivist 2 (some (.object "ArchivistTricks$Archivist")), Cond.fieldLink RX2 16 "ArchivistTricks" "first" "LArchivistTricks$Archivist;", Cond.fieldLink RX2 20 "ArchivistTricks" "second" "LArchivistTricks$Archivist;", Cond.methodLink RX2 124 yX2_has, Cond.static yX2_has, Cond.code yX2_has cX2_has 3 (some .boolean), Cond.methodLink RX2 95 yX2_bit, Cond.static yX2_bit, Cond.code yX2_bit cX2_bit 1 (some .long), Cond.methodLink RX2 184 yX2_reasonAgainstLeading, Cond.static yX2_reasonAgainstLeading]
def wsX2_reasonAgainst_r2 : List Cond := [Cond.code yX2_reasonAgainstLeading cX2_reasonAgainstLeading 3 (some .int), Cond.constantLong RX2 216 (1099511627775), Cond.methodLink RX2 64 yX2_isMildew, Cond.static yX2_isMildew, Cond.code yX2_isMildew cX2_isMildew 1 (some .boolean), Cond.methodLink RX2 188 yX2_reasonAgainstReplying, Cond.static yX2_reasonAgainstReplying, Cond.code yX2_reasonAgainstReplying cX2_reasonAgainstReplying 9 (some .int), Cond.methodLink RX2 218 yX2_allOf, Cond.static yX2_allOf, Cond.code yX2_allOf cX2_allOf 1 (some .long), Cond.constantLong RX2 214 (1023)]
def wsX2_reasonAgainst : List Cond := .code yX2_reasonAgainst cX2_reasonAgainst 4 (some .int) :: ((wsX2_reasonAgainst_r1 ++ wsX2_reasonAgainst_r2) ++ wsX20 ++ wsX00)
def wsX2_takerBy : List Cond := .code yX2_takerBy cX2_takerBy 2 (some .int) :: ([.fieldLink RX2 30 "ArchivistTricks" "ledCard" "I", .fieldLink RX2 27 "ArchivistTricks" "trumpProvenance" "I", .fieldLink RX2 33 "ArchivistTricks" "mover" "I", .methodLink RX2 192 yX2_beats, .static yX2_beats, .initialized RX2, .code yX2_beats cX2_beats 3 (some .boolean), .methodLink RX2 64 yX2_isMildew, .static yX2_isMildew, .code yX2_isMildew cX2_isMildew 1 (some .boolean)] ++ wsX20)
def wsX2_drawFor : List Cond := .code yX2_drawFor cX2_drawFor 2 none :: ([.fieldLink RX2 23 "ArchivistTricks" "drawn" "I", .fieldLink RX2 91 "ArchivistTricks$Archivist" "hand" "J", .fieldLink RX2 9 "ArchivistTricks" "row" "[I", .methodLink RX2 95 yX2_bit, .static yX2_bit, .initialized RX2, .code yX2_bit cX2_bit 1 (some .long)] ++ wsX20 ++ wsX00)
def wsX2_endGame : List Cond := .code yX2_endGame cX2_endGame 1 none :: ([.fieldLink RX2 33 "ArchivistTricks" "mover" "I", .fieldLink RX2 16 "ArchivistTricks" "first" "LArchivistTricks$Archivist;", .fieldLink RX2 133 "ArchivistTricks$Archivist" "points" "I", .fieldLink RX2 20 "ArchivistTricks" "second" "LArchivistTricks$Archivist;", .fieldLink RX2 36 "ArchivistTricks" "firstWins" "I", .fieldLink RX2 39 "ArchivistTricks" "secondWins" "I"] ++ wsX20 ++ wsX00)
def wsX2_finishTrick_r1 : List Cond := [Cond.fieldLink RX2 105 "ArchivistTricks$Archivist" "gloves" "I", Cond.fieldLink RX2 133 "ArchivistTricks$Archivist" "points" "I", Cond.fieldLink RX2 30 "ArchivistTricks" "ledCard" "I", Cond.fieldLink RX2 136 "ArchivistTricks$Archivist" "tricks" "I", Cond.fieldLink RX2 130 "ArchivistTricks$Archivist" "taken" "J", Cond.fieldLink RX2 16 "ArchivistTricks" "first" "LArchivistTricks$Archivist;", Cond.fieldLink RX2 20 "ArchivistTricks" "second" "LArchivistTricks$Archivist;", Cond.fieldLink RX2 33 "ArchivistTricks" "mover" "I", Cond.fieldLink RX2 91 "ArchivistTricks$Archivist" "hand" "J", Cond.methodLink RX2 141 yX2_takerBy, Cond.instanceMethod yX2_takerBy, Cond.selects RX2 yX2_takerBy yX2_takerBy, Cond.initialized RX2, Cond.code yX2_takerBy cX2_takerBy 2 (some .int), Cond.fieldLink RX2 27 "ArchivistTricks" "trumpProvenance" "I", Cond.methodLink RX2 192 yX2_beats, Cond.static yX2_beats, Cond.code yX2_beats cX2_beats 3 (some .boolean), Cond.methodLink RX2 64 yX2_isMildew, Cond.static yX2_isMildew, Cond.code yX2_isMildew cX2_isMildew 1 (some .boolean), Cond.methodLink RX2 87 yX2_archivist, Cond.instanceMethod yX2_archivist, Cond.selects RX2 yX2_archivist yX2_archivist]
def wsX2_finishTrick_r2 : List Cond := [Cond.code yX2_archivist cX2_archivist 2 (some (.object "ArchivistTricks$Archivist")), Cond.methodLink RX2 196 yX2_worth, Cond.static yX2_worth, Cond.code yX2_worth cX2_worth 2 (some .int), Cond.methodLink RX2 95 yX2_bit, Cond.static yX2_bit, Cond.code yX2_bit cX2_bit 1 (some .long), Cond.methodLink RX2 200 yX0_loseWornGloves, Cond.instanceMethod yX0_loseWornGloves, Cond.selects RX0 yX0_loseWornGloves yX0_loseWornGloves, Cond.initialized RX0, Cond.code yX0_loseWornGloves cX0_loseWornGloves 1 none, Cond.fieldLink RX0 25 "ArchivistTricks$Archivist" "gloves" "I", Cond.methodLink RX2 203 yX2_drawFor, Cond.instanceMethod yX2_drawFor, Cond.selects RX2 yX2_drawFor yX2_drawFor, Cond.code yX2_drawFor cX2_drawFor 2 none, Cond.fieldLink RX2 23 "ArchivistTricks" "drawn" "I", Cond.fieldLink RX2 9 "ArchivistTricks" "row" "[I", Cond.methodLink RX2 207 yX2_endGame, Cond.instanceMethod yX2_endGame, Cond.selects RX2 yX2_endGame yX2_endGame, Cond.code yX2_endGame cX2_endGame 1 none, Cond.fieldLink RX2 36 "ArchivistTricks" "firstWins" "I"]
def wsX2_finishTrick_r3 : List Cond := [Cond.fieldLink RX2 39 "ArchivistTricks" "secondWins" "I"]
def wsX2_finishTrick : List Cond := .code yX2_finishTrick cX2_finishTrick 5 (some .int) :: ((wsX2_finishTrick_r1 ++ (wsX2_finishTrick_r2 ++ wsX2_finishTrick_r3)) ++ wsX00 ++ wsX20)
def wsX2_play_r1 : List Cond := [Cond.classLink RX2 71 "java/lang/IllegalArgumentException", Cond.initialized "java/lang/IllegalArgumentException", Cond.classLink RX2 82 "java/lang/IllegalStateException", Cond.initialized "java/lang/IllegalStateException", Cond.fieldLink RX2 33 "ArchivistTricks" "mover" "I", Cond.fieldLink RX2 91 "ArchivistTricks$Archivist" "hand" "J", Cond.constantLong RX2 98 (-1), Cond.fieldLink RX2 30 "ArchivistTricks" "ledCard" "I", Cond.methodLink RX2 68 yX2_isCard, Cond.static yX2_isCard, Cond.initialized RX2, Cond.code yX2_isCard cX2_isCard 1 (some .boolean), Cond.methodLink RX2 78 yX2_reasonAgainst, Cond.instanceMethod yX2_reasonAgainst, Cond.selects RX2 yX2_reasonAgainst yX2_reasonAgainst, Cond.code yX2_reasonAgainst cX2_reasonAgainst 4 (some .int), Cond.fieldLink RX2 23 "ArchivistTricks" "drawn" "I", Cond.fieldLink RX2 27 "ArchivistTricks" "trumpProvenance" "I", Cond.methodLink RX2 154 yX2_moversHand, Cond.instanceMethod yX2_moversHand, Cond.selects RX2 yX2_moversHand yX2_moversHand, Cond.code yX2_moversHand cX2_moversHand 1 (some .long), Cond.methodLink RX2 87 yX2_archivist, Cond.instanceMethod yX2_archivist]
def wsX2_play_r2 : List Cond := [Cond.selects RX2 yX2_archivist yX2_archivist, Cond.code yX2_archivist cX2_archivist 2 (some (.object "ArchivistTricks$Archivist")), Cond.fieldLink RX2 16 "ArchivistTricks" "first" "LArchivistTricks$Archivist;", Cond.fieldLink RX2 20 "ArchivistTricks" "second" "LArchivistTricks$Archivist;", Cond.methodLink RX2 124 yX2_has, Cond.static yX2_has, Cond.code yX2_has cX2_has 3 (some .boolean), Cond.methodLink RX2 95 yX2_bit, Cond.static yX2_bit, Cond.code yX2_bit cX2_bit 1 (some .long), Cond.methodLink RX2 184 yX2_reasonAgainstLeading, Cond.static yX2_reasonAgainstLeading, Cond.code yX2_reasonAgainstLeading cX2_reasonAgainstLeading 3 (some .int), Cond.constantLong RX2 216 (1099511627775), Cond.methodLink RX2 64 yX2_isMildew, Cond.static yX2_isMildew, Cond.code yX2_isMildew cX2_isMildew 1 (some .boolean), Cond.methodLink RX2 188 yX2_reasonAgainstReplying, Cond.static yX2_reasonAgainstReplying, Cond.code yX2_reasonAgainstReplying cX2_reasonAgainstReplying 9 (some .int), Cond.methodLink RX2 218 yX2_allOf, Cond.static yX2_allOf, Cond.code yX2_allOf cX2_allOf 1 (some .long), Cond.constantLong RX2 214 (1023)]
def wsX2_play_r3 : List Cond := [Cond.methodLink RX2 100 yX2_finishTrick, Cond.instanceMethod yX2_finishTrick, Cond.selects RX2 yX2_finishTrick yX2_finishTrick, Cond.code yX2_finishTrick cX2_finishTrick 5 (some .int), Cond.fieldLink RX2 105 "ArchivistTricks$Archivist" "gloves" "I", Cond.fieldLink RX2 133 "ArchivistTricks$Archivist" "points" "I", Cond.fieldLink RX2 136 "ArchivistTricks$Archivist" "tricks" "I", Cond.fieldLink RX2 130 "ArchivistTricks$Archivist" "taken" "J", Cond.methodLink RX2 141 yX2_takerBy, Cond.instanceMethod yX2_takerBy, Cond.selects RX2 yX2_takerBy yX2_takerBy, Cond.code yX2_takerBy cX2_takerBy 2 (some .int), Cond.methodLink RX2 192 yX2_beats, Cond.static yX2_beats, Cond.code yX2_beats cX2_beats 3 (some .boolean), Cond.methodLink RX2 196 yX2_worth, Cond.static yX2_worth, Cond.code yX2_worth cX2_worth 2 (some .int), Cond.methodLink RX2 200 yX0_loseWornGloves, Cond.instanceMethod yX0_loseWornGloves, Cond.selects RX0 yX0_loseWornGloves yX0_loseWornGloves, Cond.initialized RX0, Cond.code yX0_loseWornGloves cX0_loseWornGloves 1 none, Cond.fieldLink RX0 25 "ArchivistTricks$Archivist" "gloves" "I"]
def wsX2_play_r4 : List Cond := [Cond.methodLink RX2 203 yX2_drawFor, Cond.instanceMethod yX2_drawFor, Cond.selects RX2 yX2_drawFor yX2_drawFor, Cond.code yX2_drawFor cX2_drawFor 2 none, Cond.fieldLink RX2 9 "ArchivistTricks" "row" "[I", Cond.methodLink RX2 207 yX2_endGame, Cond.instanceMethod yX2_endGame, Cond.selects RX2 yX2_endGame yX2_endGame, Cond.code yX2_endGame cX2_endGame 1 none, Cond.fieldLink RX2 36 "ArchivistTricks" "firstWins" "I", Cond.fieldLink RX2 39 "ArchivistTricks" "secondWins" "I"]
def wsX2_play : List Cond := .code yX2_play cX2_play 3 (some .int) :: ((wsX2_play_r1 ++ (wsX2_play_r2 ++ (wsX2_play_r3 ++ wsX2_play_r4))) ++ wsX20 ++ wsX00 ++ (vx_atS RX2 75 "java/lang/IllegalArgumentException" ["java/lang/RuntimeException", "java/lang/Exception"]).filter goodWord ++ (vx_atS RX2 86 "java/lang/IllegalStateException" ["java/lang/RuntimeException", "java/lang/Exception"]).filter goodWord)
def wsX2_putOnGloves : List Cond := .code yX2_putOnGloves cX2_putOnGloves 2 (some .int) :: ([.classLink RX2 82 "java/lang/IllegalStateException", .initialized "java/lang/IllegalStateException", .fieldLink RX2 33 "ArchivistTricks" "mover" "I", .fieldLink RX2 105 "ArchivistTricks$Archivist" "gloves" "I", .methodLink RX2 87 yX2_archivist, .instanceMethod yX2_archivist, .selects RX2 yX2_archivist yX2_archivist, .initialized RX2, .code yX2_archivist cX2_archivist 2 (some (.object "ArchivistTricks$Archivist")), .fieldLink RX2 16 "ArchivistTricks" "first" "LArchivistTricks$Archivist;", .fieldLink RX2 20 "ArchivistTricks" "second" "LArchivistTricks$Archivist;"] ++ wsX20 ++ wsX00 ++ (vx_atS RX2 86 "java/lang/IllegalStateException" ["java/lang/RuntimeException", "java/lang/Exception"]).filter goodWord)
def wsX2_whyNot_r1 : List Cond := [Cond.classLink RX2 71 "java/lang/IllegalArgumentException", Cond.initialized "java/lang/IllegalArgumentException", Cond.methodLink RX2 68 yX2_isCard, Cond.static yX2_isCard, Cond.initialized RX2, Cond.code yX2_isCard cX2_isCard 1 (some .boolean), Cond.methodLink RX2 78 yX2_reasonAgainst, Cond.instanceMethod yX2_reasonAgainst, Cond.selects RX2 yX2_reasonAgainst yX2_reasonAgainst, Cond.code yX2_reasonAgainst cX2_reasonAgainst 4 (some .int), Cond.fieldLink RX2 33 "ArchivistTricks" "mover" "I", Cond.fieldLink RX2 30 "ArchivistTricks" "ledCard" "I", Cond.fieldLink RX2 23 "ArchivistTricks" "drawn" "I", Cond.fieldLink RX2 27 "ArchivistTricks" "trumpProvenance" "I", Cond.methodLink RX2 154 yX2_moversHand, Cond.instanceMethod yX2_moversHand, Cond.selects RX2 yX2_moversHand yX2_moversHand, Cond.code yX2_moversHand cX2_moversHand 1 (some .long), Cond.fieldLink RX2 91 "ArchivistTricks$Archivist" "hand" "J", Cond.methodLink RX2 87 yX2_archivist, Cond.instanceMethod yX2_archivist, Cond.selects RX2 yX2_archivist yX2_archivist, Cond.code yX2_archivist cX2_archivist 2 (some (.object "ArchivistTricks$Archivist")), Cond.fieldLink RX2 16 "ArchivistTricks" "first" "LArchivistTricks$Archivist;"]
def wsX2_whyNot_r2 : List Cond := [Cond.fieldLink RX2 20 "ArchivistTricks" "second" "LArchivistTricks$Archivist;", Cond.methodLink RX2 124 yX2_has, Cond.static yX2_has, Cond.code yX2_has cX2_has 3 (some .boolean), Cond.methodLink RX2 95 yX2_bit, Cond.static yX2_bit, Cond.code yX2_bit cX2_bit 1 (some .long), Cond.methodLink RX2 184 yX2_reasonAgainstLeading, Cond.static yX2_reasonAgainstLeading, Cond.code yX2_reasonAgainstLeading cX2_reasonAgainstLeading 3 (some .int), Cond.constantLong RX2 216 (1099511627775), Cond.methodLink RX2 64 yX2_isMildew, Cond.static yX2_isMildew, Cond.code yX2_isMildew cX2_isMildew 1 (some .boolean), Cond.methodLink RX2 188 yX2_reasonAgainstReplying, Cond.static yX2_reasonAgainstReplying, Cond.code yX2_reasonAgainstReplying cX2_reasonAgainstReplying 9 (some .int), Cond.methodLink RX2 218 yX2_allOf, Cond.static yX2_allOf, Cond.code yX2_allOf cX2_allOf 1 (some .long), Cond.constantLong RX2 214 (1023)]
def wsX2_whyNot : List Cond := .code yX2_whyNot cX2_whyNot 2 (some .int) :: ((wsX2_whyNot_r1 ++ wsX2_whyNot_r2) ++ wsX20 ++ wsX00 ++ (vx_atS RX2 75 "java/lang/IllegalArgumentException" ["java/lang/RuntimeException", "java/lang/Exception"]).filter goodWord)
def wsX2_isPlaying : List Cond := .code yX2_isPlaying cX2_isPlaying 1 (some .boolean) :: ([.fieldLink RX2 33 "ArchivistTricks" "mover" "I"] ++ wsX20)
def wsX2_turn : List Cond := .code yX2_turn cX2_turn 1 (some .int) :: ([.fieldLink RX2 33 "ArchivistTricks" "mover" "I"] ++ wsX20)
def wsX2_led : List Cond := .code yX2_led cX2_led 1 (some .int) :: ([.fieldLink RX2 30 "ArchivistTricks" "ledCard" "I"] ++ wsX20)
def wsX2_trumps : List Cond := .code yX2_trumps cX2_trumps 1 (some .int) :: ([.fieldLink RX2 27 "ArchivistTricks" "trumpProvenance" "I"] ++ wsX20)
def wsX2_pile : List Cond := .code yX2_pile cX2_pile 1 (some .int) :: ([.fieldLink RX2 23 "ArchivistTricks" "drawn" "I"] ++ wsX20)
def wsX2_isArchivist : List Cond := .code yX2_isArchivist cX2_isArchivist 1 (some .boolean) :: ([])
def wsJ13_bitCount_95d88 : List Cond := .code yJ13_bitCount_95d88 cJ13_bitCount_95d88 2 (some .int) :: ([.constantLong RJ13 314 (6148914691236517205), .constantLong RJ13 316 (3689348814741910323), .constantLong RJ13 318 (1085102592571150095)])
def wsX2_cards : List Cond := .code yX2_cards cX2_cards 2 (some .int) :: ([.classLink RX2 113 "java/lang/IndexOutOfBoundsException", .initialized "java/lang/IndexOutOfBoundsException", .fieldLink RX2 91 "ArchivistTricks$Archivist" "hand" "J", .methodLink RX2 110 yX2_isArchivist, .static yX2_isArchivist, .initialized RX2, .code yX2_isArchivist cX2_isArchivist 1 (some .boolean), .methodLink RX2 87 yX2_archivist, .instanceMethod yX2_archivist, .selects RX2 yX2_archivist yX2_archivist, .code yX2_archivist cX2_archivist 2 (some (.object "ArchivistTricks$Archivist")), .fieldLink RX2 16 "ArchivistTricks" "first" "LArchivistTricks$Archivist;", .fieldLink RX2 20 "ArchivistTricks" "second" "LArchivistTricks$Archivist;", .methodLink RX2 118 yJ13_bitCount_95d88, .static yJ13_bitCount_95d88, .initialized RJ13, .code yJ13_bitCount_95d88 cJ13_bitCount_95d88 2 (some .int), .constantLong RJ13 314 (6148914691236517205), .constantLong RJ13 316 (3689348814741910323), .constantLong RJ13 318 (1085102592571150095)] ++ wsX00 ++ wsX20 ++ (vx_atS RX2 117 "java/lang/IndexOutOfBoundsException" ["java/lang/RuntimeException", "java/lang/Exception"]).filter goodWord)
def wsX2_cardAt : List Cond := .code yX2_cardAt cX2_cardAt 7 (some .int) :: ([.classLink RX2 113 "java/lang/IndexOutOfBoundsException", .initialized "java/lang/IndexOutOfBoundsException", .fieldLink RX2 91 "ArchivistTricks$Archivist" "hand" "J", .methodLink RX2 110 yX2_isArchivist, .static yX2_isArchivist, .initialized RX2, .code yX2_isArchivist cX2_isArchivist 1 (some .boolean), .methodLink RX2 87 yX2_archivist, .instanceMethod yX2_archivist, .selects RX2 yX2_archivist yX2_archivist, .code yX2_archivist cX2_archivist 2 (some (.object "ArchivistTricks$Archivist")), .fieldLink RX2 16 "ArchivistTricks" "first" "LArchivistTricks$Archivist;", .fieldLink RX2 20 "ArchivistTricks" "second" "LArchivistTricks$Archivist;", .methodLink RX2 124 yX2_has, .static yX2_has, .code yX2_has cX2_has 3 (some .boolean), .methodLink RX2 95 yX2_bit, .static yX2_bit, .code yX2_bit cX2_bit 1 (some .long)] ++ wsX00 ++ wsX20 ++ (vx_atS RX2 117 "java/lang/IndexOutOfBoundsException" ["java/lang/RuntimeException", "java/lang/Exception"]).filter goodWord)
def wsX2_placeOf : List Cond := .code yX2_placeOf cX2_placeOf 2 (some .int) :: ([.classLink RX2 71 "java/lang/IllegalArgumentException", .initialized "java/lang/IllegalArgumentException", .fieldLink RX2 27 "ArchivistTricks" "trumpProvenance" "I", .fieldLink RX2 16 "ArchivistTricks" "first" "LArchivistTricks$Archivist;", .fieldLink RX2 91 "ArchivistTricks$Archivist" "hand" "J", .fieldLink RX2 20 "ArchivistTricks" "second" "LArchivistTricks$Archivist;", .fieldLink RX2 130 "ArchivistTricks$Archivist" "taken" "J", .fieldLink RX2 30 "ArchivistTricks" "ledCard" "I", .methodLink RX2 68 yX2_isCard, .static yX2_isCard, .initialized RX2, .code yX2_isCard cX2_isCard 1 (some .boolean), .methodLink RX2 124 yX2_has, .static yX2_has, .code yX2_has cX2_has 3 (some .boolean), .methodLink RX2 95 yX2_bit, .static yX2_bit, .code yX2_bit cX2_bit 1 (some .long)] ++ wsX20 ++ wsX00 ++ (vx_atS RX2 75 "java/lang/IllegalArgumentException" ["java/lang/RuntimeException", "java/lang/Exception"]).filter goodWord)
def wsX2_points : List Cond := .code yX2_points cX2_points 2 (some .int) :: ([.classLink RX2 113 "java/lang/IndexOutOfBoundsException", .initialized "java/lang/IndexOutOfBoundsException", .fieldLink RX2 133 "ArchivistTricks$Archivist" "points" "I", .methodLink RX2 110 yX2_isArchivist, .static yX2_isArchivist, .initialized RX2, .code yX2_isArchivist cX2_isArchivist 1 (some .boolean), .methodLink RX2 87 yX2_archivist, .instanceMethod yX2_archivist, .selects RX2 yX2_archivist yX2_archivist, .code yX2_archivist cX2_archivist 2 (some (.object "ArchivistTricks$Archivist")), .fieldLink RX2 16 "ArchivistTricks" "first" "LArchivistTricks$Archivist;", .fieldLink RX2 20 "ArchivistTricks" "second" "LArchivistTricks$Archivist;"] ++ wsX00 ++ wsX20 ++ (vx_atS RX2 117 "java/lang/IndexOutOfBoundsException" ["java/lang/RuntimeException", "java/lang/Exception"]).filter goodWord)
def wsX2_tricks : List Cond := .code yX2_tricks cX2_tricks 2 (some .int) :: ([.classLink RX2 113 "java/lang/IndexOutOfBoundsException", .initialized "java/lang/IndexOutOfBoundsException", .fieldLink RX2 136 "ArchivistTricks$Archivist" "tricks" "I", .methodLink RX2 110 yX2_isArchivist, .static yX2_isArchivist, .initialized RX2, .code yX2_isArchivist cX2_isArchivist 1 (some .boolean), .methodLink RX2 87 yX2_archivist, .instanceMethod yX2_archivist, .selects RX2 yX2_archivist yX2_archivist, .code yX2_archivist cX2_archivist 2 (some (.object "ArchivistTricks$Archivist")), .fieldLink RX2 16 "ArchivistTricks" "first" "LArchivistTricks$Archivist;", .fieldLink RX2 20 "ArchivistTricks" "second" "LArchivistTricks$Archivist;"] ++ wsX00 ++ wsX20 ++ (vx_atS RX2 117 "java/lang/IndexOutOfBoundsException" ["java/lang/RuntimeException", "java/lang/Exception"]).filter goodWord)
def wsX2_gloves : List Cond := .code yX2_gloves cX2_gloves 2 (some .int) :: ([.classLink RX2 113 "java/lang/IndexOutOfBoundsException", .initialized "java/lang/IndexOutOfBoundsException", .fieldLink RX2 105 "ArchivistTricks$Archivist" "gloves" "I", .methodLink RX2 110 yX2_isArchivist, .static yX2_isArchivist, .initialized RX2, .code yX2_isArchivist cX2_isArchivist 1 (some .boolean), .methodLink RX2 87 yX2_archivist, .instanceMethod yX2_archivist, .selects RX2 yX2_archivist yX2_archivist, .code yX2_archivist cX2_archivist 2 (some (.object "ArchivistTricks$Archivist")), .fieldLink RX2 16 "ArchivistTricks" "first" "LArchivistTricks$Archivist;", .fieldLink RX2 20 "ArchivistTricks" "second" "LArchivistTricks$Archivist;"] ++ wsX00 ++ wsX20 ++ (vx_atS RX2 117 "java/lang/IndexOutOfBoundsException" ["java/lang/RuntimeException", "java/lang/Exception"]).filter goodWord)
def wsX2_choices_r1 : List Cond := [Cond.methodLink RX2 78 yX2_reasonAgainst, Cond.instanceMethod yX2_reasonAgainst, Cond.selects RX2 yX2_reasonAgainst yX2_reasonAgainst, Cond.initialized RX2, Cond.code yX2_reasonAgainst cX2_reasonAgainst 4 (some .int), Cond.fieldLink RX2 33 "ArchivistTricks" "mover" "I", Cond.fieldLink RX2 30 "ArchivistTricks" "ledCard" "I", Cond.fieldLink RX2 23 "ArchivistTricks" "drawn" "I", Cond.fieldLink RX2 27 "ArchivistTricks" "trumpProvenance" "I", Cond.methodLink RX2 154 yX2_moversHand, Cond.instanceMethod yX2_moversHand, Cond.selects RX2 yX2_moversHand yX2_moversHand, Cond.code yX2_moversHand cX2_moversHand 1 (some .long), Cond.fieldLink RX2 91 "ArchivistTricks$Archivist" "hand" "J", Cond.methodLink RX2 87 yX2_archivist, Cond.instanceMethod yX2_archivist, Cond.selects RX2 yX2_archivist yX2_archivist, Cond.code yX2_archivist cX2_archivist 2 (some (.object "ArchivistTricks$Archivist")), Cond.fieldLink RX2 16 "ArchivistTricks" "first" "LArchivistTricks$Archivist;", Cond.fieldLink RX2 20 "ArchivistTricks" "second" "LArchivistTricks$Archivist;", Cond.methodLink RX2 124 yX2_has, Cond.static yX2_has, Cond.code yX2_has cX2_has 3 (some .boolean), Cond.methodLink RX2 95 yX2_bit]
def wsX2_choices_r2 : List Cond := [Cond.static yX2_bit, Cond.code yX2_bit cX2_bit 1 (some .long), Cond.methodLink RX2 184 yX2_reasonAgainstLeading, Cond.static yX2_reasonAgainstLeading, Cond.code yX2_reasonAgainstLeading cX2_reasonAgainstLeading 3 (some .int), Cond.constantLong RX2 216 (1099511627775), Cond.methodLink RX2 64 yX2_isMildew, Cond.static yX2_isMildew, Cond.code yX2_isMildew cX2_isMildew 1 (some .boolean), Cond.methodLink RX2 188 yX2_reasonAgainstReplying, Cond.static yX2_reasonAgainstReplying, Cond.code yX2_reasonAgainstReplying cX2_reasonAgainstReplying 9 (some .int), Cond.methodLink RX2 218 yX2_allOf, Cond.static yX2_allOf, Cond.code yX2_allOf cX2_allOf 1 (some .long), Cond.constantLong RX2 214 (1023)]
def wsX2_choices : List Cond := .code yX2_choices cX2_choices 3 (some .int) :: ((wsX2_choices_r1 ++ wsX2_choices_r2) ++ wsX20 ++ wsX00)
def wsX2_wouldTake : List Cond := .code yX2_wouldTake cX2_wouldTake 2 (some .int) :: ([.classLink RX2 71 "java/lang/IllegalArgumentException", .initialized "java/lang/IllegalArgumentException", .classLink RX2 82 "java/lang/IllegalStateException", .initialized "java/lang/IllegalStateException", .fieldLink RX2 30 "ArchivistTricks" "ledCard" "I", .methodLink RX2 68 yX2_isCard, .static yX2_isCard, .initialized RX2, .code yX2_isCard cX2_isCard 1 (some .boolean), .methodLink RX2 141 yX2_takerBy, .instanceMethod yX2_takerBy, .selects RX2 yX2_takerBy yX2_takerBy, .code yX2_takerBy cX2_takerBy 2 (some .int), .fieldLink RX2 27 "ArchivistTricks" "trumpProvenance" "I", .fieldLink RX2 33 "ArchivistTricks" "mover" "I", .methodLink RX2 192 yX2_beats, .static yX2_beats, .code yX2_beats cX2_beats 3 (some .boolean), .methodLink RX2 64 yX2_isMildew, .static yX2_isMildew, .code yX2_isMildew cX2_isMildew 1 (some .boolean)] ++ wsX20 ++ (vx_atS RX2 75 "java/lang/IllegalArgumentException" ["java/lang/RuntimeException", "java/lang/Exception"]).filter goodWord ++ (vx_atS RX2 86 "java/lang/IllegalStateException" ["java/lang/RuntimeException", "java/lang/Exception"]).filter goodWord)
def wsX2_isEnding : List Cond := .code yX2_isEnding cX2_isEnding 1 (some .boolean) :: ([.fieldLink RX2 33 "ArchivistTricks" "mover" "I", .fieldLink RX2 23 "ArchivistTricks" "drawn" "I"] ++ wsX20)
def wsX2_begunEnding_r1 : List Cond := [Cond.fieldLink RX2 42 "ArchivistTricks" "ending" "LArchivistTricks$Ending;", Cond.classLink RX2 166 RX1, Cond.instantiable RX1 4, Cond.initialized RX1, Cond.fieldLink RX2 46 "ArchivistTricks" "endingBegun" "Z", Cond.fieldLink RX2 16 "ArchivistTricks" "first" "LArchivistTricks$Archivist;", Cond.fieldLink RX2 91 "ArchivistTricks$Archivist" "hand" "J", Cond.fieldLink RX2 20 "ArchivistTricks" "second" "LArchivistTricks$Archivist;", Cond.fieldLink RX2 27 "ArchivistTricks" "trumpProvenance" "I", Cond.instanceMethod yX1_init, Cond.code yX1_init cX1_init 1 none, Cond.methodLink RX1 3 objectInit, Cond.instanceMethod objectInit, Cond.code objectInit ⟨#[0xb1]⟩ 1 none, Cond.arrayClass .int, Cond.fieldLink RX1 9 "ArchivistTricks$Ending" "margins" "[I", Cond.fieldLink RX1 15 "ArchivistTricks$Ending" "firstAll" "J", Cond.fieldLink RX1 19 "ArchivistTricks$Ending" "secondAll" "J", Cond.fieldLink RX1 22 "ArchivistTricks$Ending" "trump" "I", Cond.methodLink RX2 211 yX1_begin, Cond.instanceMethod yX1_begin, Cond.selects RX1 yX1_begin yX1_begin, Cond.code yX1_begin cX1_begin 6 none, Cond.methodLink RX1 26 yJ7_fill_53178]
def wsX2_begunEnding_r2 : List Cond := [Cond.static yJ7_fill_53178, Cond.initialized RJ7, Cond.code yJ7_fill_53178 cJ7_fill_53178 4 none]
def wsX2_begunEnding : List Cond := .code yX2_begunEnding cX2_begunEnding 1 (some (.object "ArchivistTricks$Ending")) :: ((wsX2_begunEnding_r1 ++ wsX2_begunEnding_r2) ++ wsX20 ++ wsX10 ++ wsX00)
def wsX2_othersHand : List Cond := .code yX2_othersHand cX2_othersHand 1 (some .long) :: ([.fieldLink RX2 33 "ArchivistTricks" "mover" "I", .fieldLink RX2 91 "ArchivistTricks$Archivist" "hand" "J", .methodLink RX2 87 yX2_archivist, .instanceMethod yX2_archivist, .selects RX2 yX2_archivist yX2_archivist, .initialized RX2, .code yX2_archivist cX2_archivist 2 (some (.object "ArchivistTricks$Archivist")), .fieldLink RX2 16 "ArchivistTricks" "first" "LArchivistTricks$Archivist;", .fieldLink RX2 20 "ArchivistTricks" "second" "LArchivistTricks$Archivist;"] ++ wsX20 ++ wsX00)
def wsX2_glovesWorn : List Cond := .code yX2_glovesWorn cX2_glovesWorn 1 (some .int) :: ([.fieldLink RX2 16 "ArchivistTricks" "first" "LArchivistTricks$Archivist;", .fieldLink RX2 105 "ArchivistTricks$Archivist" "gloves" "I", .fieldLink RX2 20 "ArchivistTricks" "second" "LArchivistTricks$Archivist;"] ++ wsX20 ++ wsX00)
def wsX2_best_r1 : List Cond := [Cond.classLink RX2 82 "java/lang/IllegalStateException", Cond.initialized "java/lang/IllegalStateException", Cond.fieldLink RX2 30 "ArchivistTricks" "ledCard" "I", Cond.fieldLink RX2 33 "ArchivistTricks" "mover" "I", Cond.methodLink RX2 144 yX2_isEnding, Cond.instanceMethod yX2_isEnding, Cond.selects RX2 yX2_isEnding yX2_isEnding, Cond.initialized RX2, Cond.code yX2_isEnding cX2_isEnding 1 (some .boolean), Cond.fieldLink RX2 23 "ArchivistTricks" "drawn" "I", Cond.methodLink RX2 150 yX2_begunEnding, Cond.instanceMethod yX2_begunEnding, Cond.selects RX2 yX2_begunEnding yX2_begunEnding, Cond.code yX2_begunEnding cX2_begunEnding 1 (some (.object "ArchivistTricks$Ending")), Cond.fieldLink RX2 42 "ArchivistTricks" "ending" "LArchivistTricks$Ending;", Cond.classLink RX2 166 RX1, Cond.instantiable RX1 4, Cond.initialized RX1, Cond.fieldLink RX2 46 "ArchivistTricks" "endingBegun" "Z", Cond.fieldLink RX2 16 "ArchivistTricks" "first" "LArchivistTricks$Archivist;", Cond.fieldLink RX2 91 "ArchivistTricks$Archivist" "hand" "J", Cond.fieldLink RX2 20 "ArchivistTricks" "second" "LArchivistTricks$Archivist;", Cond.fieldLink RX2 27 "ArchivistTricks" "trumpProvenance" "I", Cond.instanceMethod yX1_init]
def wsX2_best_r2 : List Cond := [Cond.code yX1_init cX1_init 1 none, Cond.methodLink RX1 3 objectInit, Cond.instanceMethod objectInit, Cond.code objectInit ⟨#[0xb1]⟩ 1 none, Cond.arrayClass .int, Cond.fieldLink RX1 9 "ArchivistTricks$Ending" "margins" "[I", Cond.fieldLink RX1 15 "ArchivistTricks$Ending" "firstAll" "J", Cond.fieldLink RX1 19 "ArchivistTricks$Ending" "secondAll" "J", Cond.fieldLink RX1 22 "ArchivistTricks$Ending" "trump" "I", Cond.methodLink RX2 211 yX1_begin, Cond.instanceMethod yX1_begin, Cond.selects RX1 yX1_begin yX1_begin, Cond.code yX1_begin cX1_begin 6 none, Cond.methodLink RX1 26 yJ7_fill_53178, Cond.static yJ7_fill_53178, Cond.initialized RJ7, Cond.code yJ7_fill_53178 cJ7_fill_53178 4 none, Cond.methodLink RX2 154 yX2_moversHand, Cond.instanceMethod yX2_moversHand, Cond.selects RX2 yX2_moversHand yX2_moversHand, Cond.code yX2_moversHand cX2_moversHand 1 (some .long), Cond.methodLink RX2 87 yX2_archivist, Cond.instanceMethod yX2_archivist, Cond.selects RX2 yX2_archivist yX2_archivist]
def wsX2_best_r3 : List Cond := [Cond.code yX2_archivist cX2_archivist 2 (some (.object "ArchivistTricks$Archivist")), Cond.methodLink RX2 158 yX2_othersHand, Cond.instanceMethod yX2_othersHand, Cond.selects RX2 yX2_othersHand yX2_othersHand, Cond.code yX2_othersHand cX2_othersHand 1 (some .long), Cond.methodLink RX2 161 yX2_glovesWorn, Cond.instanceMethod yX2_glovesWorn, Cond.selects RX2 yX2_glovesWorn yX2_glovesWorn, Cond.code yX2_glovesWorn cX2_glovesWorn 1 (some .int), Cond.fieldLink RX2 105 "ArchivistTricks$Archivist" "gloves" "I", Cond.methodLink RX2 165 yX1_bestMargin, Cond.instanceMethod yX1_bestMargin, Cond.selects RX1 yX1_bestMargin yX1_bestMargin, Cond.code yX1_bestMargin cX1_bestMargin 8 (some .int), Cond.methodLink RX1 32 yX1_margin, Cond.instanceMethod yX1_margin, Cond.selects RX1 yX1_margin yX1_margin, Cond.code yX1_margin cX1_margin 11 (some .int), Cond.methodLink RX1 44 Lib.Math.max.name, Cond.static Lib.Math.max.name, Cond.initialized "java/lang/Math", Cond.code Lib.Math.max.name Lib.Math.max.code 2 (some .int), Cond.methodLink RX1 36 yX1_mayPlay, Cond.instanceMethod yX1_mayPlay]
def wsX2_best_r4 : List Cond := [Cond.selects RX1 yX1_mayPlay yX1_mayPlay, Cond.code yX1_mayPlay cX1_mayPlay 6 (some .boolean), Cond.static yX2_has, Cond.code yX2_has cX2_has 3 (some .boolean), Cond.methodLink RX2 95 yX2_bit, Cond.static yX2_bit, Cond.code yX2_bit cX2_bit 1 (some .long), Cond.static yX2_reasonAgainstLeading, Cond.code yX2_reasonAgainstLeading cX2_reasonAgainstLeading 3 (some .int), Cond.constantLong RX2 216 (1099511627775), Cond.methodLink RX2 64 yX2_isMildew, Cond.static yX2_isMildew, Cond.code yX2_isMildew cX2_isMildew 1 (some .boolean), Cond.static yX2_reasonAgainstReplying, Cond.code yX2_reasonAgainstReplying cX2_reasonAgainstReplying 9 (some .int), Cond.methodLink RX2 218 yX2_allOf, Cond.static yX2_allOf, Cond.code yX2_allOf cX2_allOf 1 (some .long), Cond.constantLong RX2 214 (1023), Cond.methodLink RX2 124 yX2_has, Cond.methodLink RX1 40 yX1_marginBy, Cond.instanceMethod yX1_marginBy, Cond.selects RX1 yX1_marginBy yX1_marginBy, Cond.code yX1_marginBy cX1_marginBy 13 (some .int)]
def wsX2_best_r5 : List Cond := [Cond.constantLong RX1 54 (-1), Cond.static yX2_beats, Cond.code yX2_beats cX2_beats 3 (some .boolean), Cond.methodLink RX1 60 yX1_trickWorth, Cond.static yX1_trickWorth, Cond.code yX1_trickWorth cX1_trickWorth 5 (some .int), Cond.static yX2_worth, Cond.code yX2_worth cX2_worth 2 (some .int), Cond.methodLink RX1 64 yX1_rest, Cond.instanceMethod yX1_rest, Cond.selects RX1 yX1_rest yX1_rest, Cond.code yX1_rest cX1_rest 10 (some .int), Cond.methodLink RX1 68 yX1_stateOf, Cond.instanceMethod yX1_stateOf, Cond.selects RX1 yX1_stateOf yX1_stateOf, Cond.code yX1_stateOf cX1_stateOf 8 (some .int), Cond.methodLink RX1 84 yX1_keptOf, Cond.static yX1_keptOf, Cond.code yX1_keptOf cX1_keptOf 10 (some .int)]
def wsX2_best : List Cond := .code yX2_best cX2_best 1 (some .int) :: ((wsX2_best_r1 ++ (wsX2_best_r2 ++ (wsX2_best_r3 ++ (wsX2_best_r4 ++ wsX2_best_r5)))) ++ wsX20 ++ wsX10 ++ wsX00 ++ (vx_atS RX2 86 "java/lang/IllegalStateException" ["java/lang/RuntimeException", "java/lang/Exception"]).filter goodWord)
def wsX2_bestCard_r1 : List Cond := [Cond.classLink RX2 82 "java/lang/IllegalStateException", Cond.initialized "java/lang/IllegalStateException", Cond.fieldLink RX2 30 "ArchivistTricks" "ledCard" "I", Cond.fieldLink RX2 33 "ArchivistTricks" "mover" "I", Cond.methodLink RX2 144 yX2_isEnding, Cond.instanceMethod yX2_isEnding, Cond.selects RX2 yX2_isEnding yX2_isEnding, Cond.initialized RX2, Cond.code yX2_isEnding cX2_isEnding 1 (some .boolean), Cond.fieldLink RX2 23 "ArchivistTricks" "drawn" "I", Cond.methodLink RX2 150 yX2_begunEnding, Cond.instanceMethod yX2_begunEnding, Cond.selects RX2 yX2_begunEnding yX2_begunEnding, Cond.code yX2_begunEnding cX2_begunEnding 1 (some (.object "ArchivistTricks$Ending")), Cond.fieldLink RX2 42 "ArchivistTricks" "ending" "LArchivistTricks$Ending;", Cond.classLink RX2 166 RX1, Cond.instantiable RX1 4, Cond.initialized RX1, Cond.fieldLink RX2 46 "ArchivistTricks" "endingBegun" "Z", Cond.fieldLink RX2 16 "ArchivistTricks" "first" "LArchivistTricks$Archivist;", Cond.fieldLink RX2 91 "ArchivistTricks$Archivist" "hand" "J", Cond.fieldLink RX2 20 "ArchivistTricks" "second" "LArchivistTricks$Archivist;", Cond.fieldLink RX2 27 "ArchivistTricks" "trumpProvenance" "I", Cond.instanceMethod yX1_init]
def wsX2_bestCard_r2 : List Cond := [Cond.code yX1_init cX1_init 1 none, Cond.methodLink RX1 3 objectInit, Cond.instanceMethod objectInit, Cond.code objectInit ⟨#[0xb1]⟩ 1 none, Cond.arrayClass .int, Cond.fieldLink RX1 9 "ArchivistTricks$Ending" "margins" "[I", Cond.fieldLink RX1 15 "ArchivistTricks$Ending" "firstAll" "J", Cond.fieldLink RX1 19 "ArchivistTricks$Ending" "secondAll" "J", Cond.fieldLink RX1 22 "ArchivistTricks$Ending" "trump" "I", Cond.methodLink RX2 211 yX1_begin, Cond.instanceMethod yX1_begin, Cond.selects RX1 yX1_begin yX1_begin, Cond.code yX1_begin cX1_begin 6 none, Cond.methodLink RX1 26 yJ7_fill_53178, Cond.static yJ7_fill_53178, Cond.initialized RJ7, Cond.code yJ7_fill_53178 cJ7_fill_53178 4 none, Cond.methodLink RX2 154 yX2_moversHand, Cond.instanceMethod yX2_moversHand, Cond.selects RX2 yX2_moversHand yX2_moversHand, Cond.code yX2_moversHand cX2_moversHand 1 (some .long), Cond.methodLink RX2 87 yX2_archivist, Cond.instanceMethod yX2_archivist, Cond.selects RX2 yX2_archivist yX2_archivist]
def wsX2_bestCard_r3 : List Cond := [Cond.code yX2_archivist cX2_archivist 2 (some (.object "ArchivistTricks$Archivist")), Cond.methodLink RX2 158 yX2_othersHand, Cond.instanceMethod yX2_othersHand, Cond.selects RX2 yX2_othersHand yX2_othersHand, Cond.code yX2_othersHand cX2_othersHand 1 (some .long), Cond.methodLink RX2 161 yX2_glovesWorn, Cond.instanceMethod yX2_glovesWorn, Cond.selects RX2 yX2_glovesWorn yX2_glovesWorn, Cond.code yX2_glovesWorn cX2_glovesWorn 1 (some .int), Cond.fieldLink RX2 105 "ArchivistTricks$Archivist" "gloves" "I", Cond.methodLink RX2 171 yX1_lowestBestCard, Cond.instanceMethod yX1_lowestBestCard, Cond.selects RX1 yX1_lowestBestCard yX1_lowestBestCard, Cond.code yX1_lowestBestCard cX1_lowestBestCard 12 (some .int), Cond.methodLink RX1 36 yX1_mayPlay, Cond.instanceMethod yX1_mayPlay, Cond.selects RX1 yX1_mayPlay yX1_mayPlay, Cond.code yX1_mayPlay cX1_mayPlay 6 (some .boolean), Cond.static yX2_has, Cond.code yX2_has cX2_has 3 (some .boolean), Cond.methodLink RX2 95 yX2_bit, Cond.static yX2_bit, Cond.code yX2_bit cX2_bit 1 (some .long), Cond.static yX2_reasonAgainstLeading]
def wsX2_bestCard_r4 : List Cond := [Cond.code yX2_reasonAgainstLeading cX2_reasonAgainstLeading 3 (some .int), Cond.constantLong RX2 216 (1099511627775), Cond.methodLink RX2 64 yX2_isMildew, Cond.static yX2_isMildew, Cond.code yX2_isMildew cX2_isMildew 1 (some .boolean), Cond.static yX2_reasonAgainstReplying, Cond.code yX2_reasonAgainstReplying cX2_reasonAgainstReplying 9 (some .int), Cond.methodLink RX2 218 yX2_allOf, Cond.static yX2_allOf, Cond.code yX2_allOf cX2_allOf 1 (some .long), Cond.constantLong RX2 214 (1023), Cond.methodLink RX2 124 yX2_has, Cond.methodLink RX1 40 yX1_marginBy, Cond.instanceMethod yX1_marginBy, Cond.selects RX1 yX1_marginBy yX1_marginBy, Cond.code yX1_marginBy cX1_marginBy 13 (some .int), Cond.constantLong RX1 54 (-1), Cond.methodLink RX1 32 yX1_margin, Cond.instanceMethod yX1_margin, Cond.selects RX1 yX1_margin yX1_margin, Cond.static yX2_beats, Cond.code yX2_beats cX2_beats 3 (some .boolean), Cond.methodLink RX1 60 yX1_trickWorth, Cond.static yX1_trickWorth]
def wsX2_bestCard_r5 : List Cond := [Cond.code yX1_trickWorth cX1_trickWorth 5 (some .int), Cond.static yX2_worth, Cond.code yX2_worth cX2_worth 2 (some .int), Cond.methodLink RX1 64 yX1_rest, Cond.instanceMethod yX1_rest, Cond.selects RX1 yX1_rest yX1_rest, Cond.code yX1_margin cX1_margin 11 (some .int), Cond.methodLink RX1 44 Lib.Math.max.name, Cond.static Lib.Math.max.name, Cond.initialized "java/lang/Math", Cond.code Lib.Math.max.name Lib.Math.max.code 2 (some .int), Cond.code yX1_rest cX1_rest 10 (some .int), Cond.methodLink RX1 68 yX1_stateOf, Cond.instanceMethod yX1_stateOf, Cond.selects RX1 yX1_stateOf yX1_stateOf, Cond.code yX1_stateOf cX1_stateOf 8 (some .int), Cond.methodLink RX1 84 yX1_keptOf, Cond.static yX1_keptOf, Cond.code yX1_keptOf cX1_keptOf 10 (some .int)]
def wsX2_bestCard : List Cond := .code yX2_bestCard cX2_bestCard 1 (some .int) :: ((wsX2_bestCard_r1 ++ (wsX2_bestCard_r2 ++ (wsX2_bestCard_r3 ++ (wsX2_bestCard_r4 ++ wsX2_bestCard_r5)))) ++ wsX20 ++ wsX10 ++ wsX00 ++ (vx_atS RX2 86 "java/lang/IllegalStateException" ["java/lang/RuntimeException", "java/lang/Exception"]).filter goodWord)
def wsX2_wonByFirst : List Cond := .code yX2_wonByFirst cX2_wonByFirst 1 (some .int) :: ([.fieldLink RX2 36 "ArchivistTricks" "firstWins" "I"] ++ wsX20)
def wsX2_wonBySecond : List Cond := .code yX2_wonBySecond cX2_wonBySecond 1 (some .int) :: ([.fieldLink RX2 39 "ArchivistTricks" "secondWins" "I"] ++ wsX20)
def wsX3_init : List Cond := .code yX3_init cX3_init 1 none :: ([.methodLink RX3 1 objectInit, .instanceMethod objectInit, .code objectInit ⟨#[0xb1]⟩ 1 none, .arrayClass .int, .fieldLink RX3 7 "ArchivistTricksModel" "place" "[I", .fieldLink RX3 13 "ArchivistTricksModel" "row" "[I", .fieldLink RX3 16 "ArchivistTricksModel" "ledCard" "I", .fieldLink RX3 20 "ArchivistTricksModel" "trumps" "I", .fieldLink RX3 23 "ArchivistTricksModel" "points" "[I", .fieldLink RX3 26 "ArchivistTricksModel" "tricks" "[I", .fieldLink RX3 29 "ArchivistTricksModel" "gloves" "[I", .fieldLink RX3 32 "ArchivistTricksModel" "wins" "[I", .fieldLink RX3 35 "ArchivistTricksModel" "held" "[I", .fieldLink RX3 38 "ArchivistTricksModel" "worthOf" "[I"] ++ wsX30)
def wsX3_thrown : List Cond := .code yX3_thrown cX3_thrown 1 (some .int) :: ([.fieldLink RX3 41 "ArchivistTricksModel" "thrown" "I"] ++ wsX30)
def wsX3_isCard : List Cond := .code yX3_isCard cX3_isCard 1 (some .boolean) :: ([])
def wsX3_isArchivist : List Cond := .code yX3_isArchivist cX3_isArchivist 1 (some .boolean) :: ([])
def wsX3_isMildew : List Cond := .code yX3_isMildew cX3_isMildew 1 (some .boolean) :: ([])
def wsX3_provenance : List Cond := .code yX3_provenance cX3_provenance 1 (some .int) :: ([])
def wsX3_isTrump : List Cond := .code yX3_isTrump cX3_isTrump 2 (some .boolean) :: ([.fieldLink RX3 20 "ArchivistTricksModel" "trumps" "I", .methodLink RX3 44 yX3_isMildew, .static yX3_isMildew, .initialized RX3, .code yX3_isMildew cX3_isMildew 1 (some .boolean), .methodLink RX3 48 yX3_provenance, .static yX3_provenance, .code yX3_provenance cX3_provenance 1 (some .int)] ++ wsX30)
def wsX3_worth : List Cond := .code yX3_worth cX3_worth 1 (some .int) :: ([.methodLink RX3 44 yX3_isMildew, .static yX3_isMildew, .initialized RX3, .code yX3_isMildew cX3_isMildew 1 (some .boolean)])
def wsX3_worthTo : List Cond := .code yX3_worthTo cX3_worthTo 2 (some .int) :: ([.methodLink RX3 44 yX3_isMildew, .static yX3_isMildew, .initialized RX3, .code yX3_isMildew cX3_isMildew 1 (some .boolean), .methodLink RX3 52 yX3_worth, .static yX3_worth, .code yX3_worth cX3_worth 1 (some .int)])
def wsX3_takes : List Cond := .code yX3_takes cX3_takes 3 (some .boolean) :: ([.methodLink RX3 44 yX3_isMildew, .static yX3_isMildew, .initialized RX3, .code yX3_isMildew cX3_isMildew 1 (some .boolean), .methodLink RX3 48 yX3_provenance, .static yX3_provenance, .code yX3_provenance cX3_provenance 1 (some .int), .methodLink RX3 55 yX3_isTrump, .instanceMethod yX3_isTrump, .selects RX3 yX3_isTrump yX3_isTrump, .code yX3_isTrump cX3_isTrump 2 (some .boolean), .fieldLink RX3 20 "ArchivistTricksModel" "trumps" "I"] ++ wsX30)
def wsX3_inPile : List Cond := .code yX3_inPile cX3_inPile 1 (some .int) :: ([.fieldLink RX3 58 "ArchivistTricksModel" "isDealt" "Z", .fieldLink RX3 62 "ArchivistTricksModel" "drawn" "I"] ++ wsX30)
def wsX3_deal : List Cond := .code yX3_deal cX3_deal 8 (some .int) :: ([.fieldLink RX3 41 "ArchivistTricksModel" "thrown" "I", .fieldLink RX3 13 "ArchivistTricksModel" "row" "[I", .constantLong RX3 65 (6364136223846793005), .constantLong RX3 67 (1442695040888963407), .fieldLink RX3 7 "ArchivistTricksModel" "place" "[I", .fieldLink RX3 20 "ArchivistTricksModel" "trumps" "I", .fieldLink RX3 23 "ArchivistTricksModel" "points" "[I", .fieldLink RX3 26 "ArchivistTricksModel" "tricks" "[I", .fieldLink RX3 29 "ArchivistTricksModel" "gloves" "[I", .fieldLink RX3 62 "ArchivistTricksModel" "drawn" "I", .fieldLink RX3 69 "ArchivistTricksModel" "turn" "I", .fieldLink RX3 16 "ArchivistTricksModel" "ledCard" "I", .fieldLink RX3 58 "ArchivistTricksModel" "isDealt" "Z", .fieldLink RX3 72 "ArchivistTricksModel" "isOn" "Z", .methodLink RX3 44 yX3_isMildew, .static yX3_isMildew, .initialized RX3, .code yX3_isMildew cX3_isMildew 1 (some .boolean), .methodLink RX3 48 yX3_provenance, .static yX3_provenance, .code yX3_provenance cX3_provenance 1 (some .int)] ++ wsX30)
def wsX3_howMany : List Cond := .code yX3_howMany cX3_howMany 4 (some .int) :: ([.fieldLink RX3 58 "ArchivistTricksModel" "isDealt" "Z", .fieldLink RX3 7 "ArchivistTricksModel" "place" "[I"] ++ wsX30)
def wsX3_hasOf : List Cond := .code yX3_hasOf cX3_hasOf 5 (some .boolean) :: ([.fieldLink RX3 7 "ArchivistTricksModel" "place" "[I", .methodLink RX3 48 yX3_provenance, .static yX3_provenance, .initialized RX3, .code yX3_provenance cX3_provenance 1 (some .int)] ++ wsX30)
def wsX3_hasDated : List Cond := .code yX3_hasDated cX3_hasDated 2 (some .boolean) :: ([.methodLink RX3 75 yX3_hasOf, .instanceMethod yX3_hasOf, .selects RX3 yX3_hasOf yX3_hasOf, .initialized RX3, .code yX3_hasOf cX3_hasOf 5 (some .boolean), .fieldLink RX3 7 "ArchivistTricksModel" "place" "[I", .methodLink RX3 48 yX3_provenance, .static yX3_provenance, .code yX3_provenance cX3_provenance 1 (some .int)] ++ wsX30)
def wsX3_why_r1 : List Cond := [Cond.fieldLink RX3 72 "ArchivistTricksModel" "isOn" "Z", Cond.fieldLink RX3 7 "ArchivistTricksModel" "place" "[I", Cond.fieldLink RX3 69 "ArchivistTricksModel" "turn" "I", Cond.fieldLink RX3 16 "ArchivistTricksModel" "ledCard" "I", Cond.fieldLink RX3 20 "ArchivistTricksModel" "trumps" "I", Cond.methodLink RX3 44 yX3_isMildew, Cond.static yX3_isMildew, Cond.initialized RX3, Cond.code yX3_isMildew cX3_isMildew 1 (some .boolean), Cond.methodLink RX3 79 yX3_hasDated, Cond.instanceMethod yX3_hasDated, Cond.selects RX3 yX3_hasDated yX3_hasDated, Cond.code yX3_hasDated cX3_hasDated 2 (some .boolean), Cond.methodLink RX3 75 yX3_hasOf, Cond.instanceMethod yX3_hasOf, Cond.selects RX3 yX3_hasOf yX3_hasOf, Cond.code yX3_hasOf cX3_hasOf 5 (some .boolean), Cond.methodLink RX3 48 yX3_provenance, Cond.static yX3_provenance, Cond.code yX3_provenance cX3_provenance 1 (some .int), Cond.methodLink RX3 82 yX3_inPile, Cond.instanceMethod yX3_inPile, Cond.selects RX3 yX3_inPile yX3_inPile, Cond.code yX3_inPile cX3_inPile 1 (some .int)]
def wsX3_why_r2 : List Cond := [Cond.fieldLink RX3 58 "ArchivistTricksModel" "isDealt" "Z", Cond.fieldLink RX3 62 "ArchivistTricksModel" "drawn" "I", Cond.methodLink RX3 55 yX3_isTrump, Cond.instanceMethod yX3_isTrump, Cond.selects RX3 yX3_isTrump yX3_isTrump, Cond.code yX3_isTrump cX3_isTrump 2 (some .boolean)]
def wsX3_why : List Cond := .code yX3_why cX3_why 2 (some .int) :: ((wsX3_why_r1 ++ wsX3_why_r2) ++ wsX30)
def wsX3_draws : List Cond := .code yX3_draws cX3_draws 2 none :: ([.fieldLink RX3 7 "ArchivistTricksModel" "place" "[I", .fieldLink RX3 13 "ArchivistTricksModel" "row" "[I", .fieldLink RX3 62 "ArchivistTricksModel" "drawn" "I", .methodLink RX3 82 yX3_inPile, .instanceMethod yX3_inPile, .selects RX3 yX3_inPile yX3_inPile, .initialized RX3, .code yX3_inPile cX3_inPile 1 (some .int), .fieldLink RX3 58 "ArchivistTricksModel" "isDealt" "Z"] ++ wsX30)
def wsX3_ends_r1 : List Cond := [Cond.fieldLink RX3 69 "ArchivistTricksModel" "turn" "I", Cond.fieldLink RX3 16 "ArchivistTricksModel" "ledCard" "I", Cond.fieldLink RX3 29 "ArchivistTricksModel" "gloves" "[I", Cond.fieldLink RX3 23 "ArchivistTricksModel" "points" "[I", Cond.fieldLink RX3 26 "ArchivistTricksModel" "tricks" "[I", Cond.fieldLink RX3 7 "ArchivistTricksModel" "place" "[I", Cond.fieldLink RX3 72 "ArchivistTricksModel" "isOn" "Z", Cond.fieldLink RX3 32 "ArchivistTricksModel" "wins" "[I", Cond.methodLink RX3 86 yX3_takes, Cond.instanceMethod yX3_takes, Cond.selects RX3 yX3_takes yX3_takes, Cond.initialized RX3, Cond.code yX3_takes cX3_takes 3 (some .boolean), Cond.methodLink RX3 44 yX3_isMildew, Cond.static yX3_isMildew, Cond.code yX3_isMildew cX3_isMildew 1 (some .boolean), Cond.methodLink RX3 48 yX3_provenance, Cond.static yX3_provenance, Cond.code yX3_provenance cX3_provenance 1 (some .int), Cond.methodLink RX3 55 yX3_isTrump, Cond.instanceMethod yX3_isTrump, Cond.selects RX3 yX3_isTrump yX3_isTrump, Cond.code yX3_isTrump cX3_isTrump 2 (some .boolean), Cond.fieldLink RX3 20 "ArchivistTricksModel" "trumps" "I"]
def wsX3_ends_r2 : List Cond := [Cond.methodLink RX3 89 yX3_worthTo, Cond.static yX3_worthTo, Cond.code yX3_worthTo cX3_worthTo 2 (some .int), Cond.methodLink RX3 52 yX3_worth, Cond.static yX3_worth, Cond.code yX3_worth cX3_worth 1 (some .int), Cond.methodLink RX3 93 yX3_draws, Cond.instanceMethod yX3_draws, Cond.selects RX3 yX3_draws yX3_draws, Cond.code yX3_draws cX3_draws 2 none, Cond.fieldLink RX3 13 "ArchivistTricksModel" "row" "[I", Cond.fieldLink RX3 62 "ArchivistTricksModel" "drawn" "I", Cond.methodLink RX3 82 yX3_inPile, Cond.instanceMethod yX3_inPile, Cond.selects RX3 yX3_inPile yX3_inPile, Cond.code yX3_inPile cX3_inPile 1 (some .int), Cond.fieldLink RX3 58 "ArchivistTricksModel" "isDealt" "Z", Cond.methodLink RX3 97 yX3_howMany, Cond.instanceMethod yX3_howMany, Cond.selects RX3 yX3_howMany yX3_howMany, Cond.code yX3_howMany cX3_howMany 4 (some .int)]
def wsX3_ends : List Cond := .code yX3_ends cX3_ends 6 (some .int) :: ((wsX3_ends_r1 ++ wsX3_ends_r2) ++ wsX30)
def wsX3_play_r1 : List Cond := [Cond.fieldLink RX3 41 "ArchivistTricksModel" "thrown" "I", Cond.fieldLink RX3 16 "ArchivistTricksModel" "ledCard" "I", Cond.fieldLink RX3 7 "ArchivistTricksModel" "place" "[I", Cond.fieldLink RX3 69 "ArchivistTricksModel" "turn" "I", Cond.methodLink RX3 100 yX3_isCard, Cond.static yX3_isCard, Cond.initialized RX3, Cond.code yX3_isCard cX3_isCard 1 (some .boolean), Cond.methodLink RX3 103 yX3_why, Cond.instanceMethod yX3_why, Cond.selects RX3 yX3_why yX3_why, Cond.code yX3_why cX3_why 2 (some .int), Cond.fieldLink RX3 72 "ArchivistTricksModel" "isOn" "Z", Cond.fieldLink RX3 20 "ArchivistTricksModel" "trumps" "I", Cond.methodLink RX3 44 yX3_isMildew, Cond.static yX3_isMildew, Cond.code yX3_isMildew cX3_isMildew 1 (some .boolean), Cond.methodLink RX3 79 yX3_hasDated, Cond.instanceMethod yX3_hasDated, Cond.selects RX3 yX3_hasDated yX3_hasDated, Cond.code yX3_hasDated cX3_hasDated 2 (some .boolean), Cond.methodLink RX3 75 yX3_hasOf, Cond.instanceMethod yX3_hasOf, Cond.selects RX3 yX3_hasOf yX3_hasOf]
def wsX3_play_r2 : List Cond := [Cond.code yX3_hasOf cX3_hasOf 5 (some .boolean), Cond.methodLink RX3 48 yX3_provenance, Cond.static yX3_provenance, Cond.code yX3_provenance cX3_provenance 1 (some .int), Cond.methodLink RX3 82 yX3_inPile, Cond.instanceMethod yX3_inPile, Cond.selects RX3 yX3_inPile yX3_inPile, Cond.code yX3_inPile cX3_inPile 1 (some .int), Cond.fieldLink RX3 58 "ArchivistTricksModel" "isDealt" "Z", Cond.fieldLink RX3 62 "ArchivistTricksModel" "drawn" "I", Cond.methodLink RX3 55 yX3_isTrump, Cond.instanceMethod yX3_isTrump, Cond.selects RX3 yX3_isTrump yX3_isTrump, Cond.code yX3_isTrump cX3_isTrump 2 (some .boolean), Cond.methodLink RX3 106 yX3_ends, Cond.instanceMethod yX3_ends, Cond.selects RX3 yX3_ends yX3_ends, Cond.code yX3_ends cX3_ends 6 (some .int), Cond.fieldLink RX3 29 "ArchivistTricksModel" "gloves" "[I", Cond.fieldLink RX3 23 "ArchivistTricksModel" "points" "[I", Cond.fieldLink RX3 26 "ArchivistTricksModel" "tricks" "[I", Cond.fieldLink RX3 32 "ArchivistTricksModel" "wins" "[I", Cond.methodLink RX3 86 yX3_takes, Cond.instanceMethod yX3_takes]
def wsX3_play_r3 : List Cond := [Cond.selects RX3 yX3_takes yX3_takes, Cond.code yX3_takes cX3_takes 3 (some .boolean), Cond.methodLink RX3 89 yX3_worthTo, Cond.static yX3_worthTo, Cond.code yX3_worthTo cX3_worthTo 2 (some .int), Cond.methodLink RX3 52 yX3_worth, Cond.static yX3_worth, Cond.code yX3_worth cX3_worth 1 (some .int), Cond.methodLink RX3 93 yX3_draws, Cond.instanceMethod yX3_draws, Cond.selects RX3 yX3_draws yX3_draws, Cond.code yX3_draws cX3_draws 2 none, Cond.fieldLink RX3 13 "ArchivistTricksModel" "row" "[I", Cond.methodLink RX3 97 yX3_howMany, Cond.instanceMethod yX3_howMany, Cond.selects RX3 yX3_howMany yX3_howMany, Cond.code yX3_howMany cX3_howMany 4 (some .int)]
def wsX3_play : List Cond := .code yX3_play cX3_play 2 (some .int) :: ((wsX3_play_r1 ++ (wsX3_play_r2 ++ wsX3_play_r3)) ++ wsX30)
def wsX3_putOnGloves : List Cond := .code yX3_putOnGloves cX3_putOnGloves 1 (some .int) :: ([.fieldLink RX3 72 "ArchivistTricksModel" "isOn" "Z", .fieldLink RX3 29 "ArchivistTricksModel" "gloves" "[I", .fieldLink RX3 69 "ArchivistTricksModel" "turn" "I", .fieldLink RX3 41 "ArchivistTricksModel" "thrown" "I"] ++ wsX30)
def wsX3_whyNot_r1 : List Cond := [Cond.fieldLink RX3 41 "ArchivistTricksModel" "thrown" "I", Cond.methodLink RX3 100 yX3_isCard, Cond.static yX3_isCard, Cond.initialized RX3, Cond.code yX3_isCard cX3_isCard 1 (some .boolean), Cond.methodLink RX3 103 yX3_why, Cond.instanceMethod yX3_why, Cond.selects RX3 yX3_why yX3_why, Cond.code yX3_why cX3_why 2 (some .int), Cond.fieldLink RX3 72 "ArchivistTricksModel" "isOn" "Z", Cond.fieldLink RX3 7 "ArchivistTricksModel" "place" "[I", Cond.fieldLink RX3 69 "ArchivistTricksModel" "turn" "I", Cond.fieldLink RX3 16 "ArchivistTricksModel" "ledCard" "I", Cond.fieldLink RX3 20 "ArchivistTricksModel" "trumps" "I", Cond.methodLink RX3 44 yX3_isMildew, Cond.static yX3_isMildew, Cond.code yX3_isMildew cX3_isMildew 1 (some .boolean), Cond.methodLink RX3 79 yX3_hasDated, Cond.instanceMethod yX3_hasDated, Cond.selects RX3 yX3_hasDated yX3_hasDated, Cond.code yX3_hasDated cX3_hasDated 2 (some .boolean), Cond.methodLink RX3 75 yX3_hasOf, Cond.instanceMethod yX3_hasOf, Cond.selects RX3 yX3_hasOf yX3_hasOf]
def wsX3_whyNot_r2 : List Cond := [Cond.code yX3_hasOf cX3_hasOf 5 (some .boolean), Cond.methodLink RX3 48 yX3_provenance, Cond.static yX3_provenance, Cond.code yX3_provenance cX3_provenance 1 (some .int), Cond.methodLink RX3 82 yX3_inPile, Cond.instanceMethod yX3_inPile, Cond.selects RX3 yX3_inPile yX3_inPile, Cond.code yX3_inPile cX3_inPile 1 (some .int), Cond.fieldLink RX3 58 "ArchivistTricksModel" "isDealt" "Z", Cond.fieldLink RX3 62 "ArchivistTricksModel" "drawn" "I", Cond.methodLink RX3 55 yX3_isTrump, Cond.instanceMethod yX3_isTrump, Cond.selects RX3 yX3_isTrump yX3_isTrump, Cond.code yX3_isTrump cX3_isTrump 2 (some .boolean)]
def wsX3_whyNot : List Cond := .code yX3_whyNot cX3_whyNot 2 (some .int) :: ((wsX3_whyNot_r1 ++ wsX3_whyNot_r2) ++ wsX30)
def wsX3_isPlaying : List Cond := .code yX3_isPlaying cX3_isPlaying 1 (some .boolean) :: ([.fieldLink RX3 41 "ArchivistTricksModel" "thrown" "I", .fieldLink RX3 72 "ArchivistTricksModel" "isOn" "Z"] ++ wsX30)
def wsX3_turn : List Cond := .code yX3_turn cX3_turn 1 (some .int) :: ([.fieldLink RX3 41 "ArchivistTricksModel" "thrown" "I", .fieldLink RX3 72 "ArchivistTricksModel" "isOn" "Z", .fieldLink RX3 69 "ArchivistTricksModel" "turn" "I"] ++ wsX30)
def wsX3_led : List Cond := .code yX3_led cX3_led 1 (some .int) :: ([.fieldLink RX3 41 "ArchivistTricksModel" "thrown" "I", .fieldLink RX3 16 "ArchivistTricksModel" "ledCard" "I"] ++ wsX30)
def wsX3_trumps : List Cond := .code yX3_trumps cX3_trumps 1 (some .int) :: ([.fieldLink RX3 41 "ArchivistTricksModel" "thrown" "I", .fieldLink RX3 20 "ArchivistTricksModel" "trumps" "I"] ++ wsX30)
def wsX3_pile : List Cond := .code yX3_pile cX3_pile 1 (some .int) :: ([.fieldLink RX3 41 "ArchivistTricksModel" "thrown" "I", .methodLink RX3 82 yX3_inPile, .instanceMethod yX3_inPile, .selects RX3 yX3_inPile yX3_inPile, .initialized RX3, .code yX3_inPile cX3_inPile 1 (some .int), .fieldLink RX3 58 "ArchivistTricksModel" "isDealt" "Z", .fieldLink RX3 62 "ArchivistTricksModel" "drawn" "I"] ++ wsX30)
def wsX3_cards : List Cond := .code yX3_cards cX3_cards 2 (some .int) :: ([.fieldLink RX3 41 "ArchivistTricksModel" "thrown" "I", .methodLink RX3 109 yX3_isArchivist, .static yX3_isArchivist, .initialized RX3, .code yX3_isArchivist cX3_isArchivist 1 (some .boolean), .methodLink RX3 97 yX3_howMany, .instanceMethod yX3_howMany, .selects RX3 yX3_howMany yX3_howMany, .code yX3_howMany cX3_howMany 4 (some .int), .fieldLink RX3 58 "ArchivistTricksModel" "isDealt" "Z", .fieldLink RX3 7 "ArchivistTricksModel" "place" "[I"] ++ wsX30)
def wsX3_cardAt : List Cond := .code yX3_cardAt cX3_cardAt 5 (some .int) :: ([.fieldLink RX3 41 "ArchivistTricksModel" "thrown" "I", .fieldLink RX3 58 "ArchivistTricksModel" "isDealt" "Z", .fieldLink RX3 7 "ArchivistTricksModel" "place" "[I", .methodLink RX3 109 yX3_isArchivist, .static yX3_isArchivist, .initialized RX3, .code yX3_isArchivist cX3_isArchivist 1 (some .boolean)] ++ wsX30)
def wsX3_placeOf : List Cond := .code yX3_placeOf cX3_placeOf 2 (some .int) :: ([.fieldLink RX3 41 "ArchivistTricksModel" "thrown" "I", .fieldLink RX3 58 "ArchivistTricksModel" "isDealt" "Z", .fieldLink RX3 7 "ArchivistTricksModel" "place" "[I", .methodLink RX3 100 yX3_isCard, .static yX3_isCard, .initialized RX3, .code yX3_isCard cX3_isCard 1 (some .boolean)] ++ wsX30)
def wsX3_of : List Cond := .code yX3_of cX3_of 3 (some .int) :: ([.fieldLink RX3 41 "ArchivistTricksModel" "thrown" "I", .methodLink RX3 109 yX3_isArchivist, .static yX3_isArchivist, .initialized RX3, .code yX3_isArchivist cX3_isArchivist 1 (some .boolean)] ++ wsX30)
def wsX3_points : List Cond := .code yX3_points cX3_points 2 (some .int) :: ([.fieldLink RX3 23 "ArchivistTricksModel" "points" "[I", .methodLink RX3 112 yX3_of, .instanceMethod yX3_of, .selects RX3 yX3_of yX3_of, .initialized RX3, .code yX3_of cX3_of 3 (some .int), .fieldLink RX3 41 "ArchivistTricksModel" "thrown" "I", .methodLink RX3 109 yX3_isArchivist, .static yX3_isArchivist, .code yX3_isArchivist cX3_isArchivist 1 (some .boolean)] ++ wsX30)
def wsX3_tricks : List Cond := .code yX3_tricks cX3_tricks 2 (some .int) :: ([.fieldLink RX3 26 "ArchivistTricksModel" "tricks" "[I", .methodLink RX3 112 yX3_of, .instanceMethod yX3_of, .selects RX3 yX3_of yX3_of, .initialized RX3, .code yX3_of cX3_of 3 (some .int), .fieldLink RX3 41 "ArchivistTricksModel" "thrown" "I", .methodLink RX3 109 yX3_isArchivist, .static yX3_isArchivist, .code yX3_isArchivist cX3_isArchivist 1 (some .boolean)] ++ wsX30)
def wsX3_gloves : List Cond := .code yX3_gloves cX3_gloves 2 (some .int) :: ([.fieldLink RX3 29 "ArchivistTricksModel" "gloves" "[I", .methodLink RX3 112 yX3_of, .instanceMethod yX3_of, .selects RX3 yX3_of yX3_of, .initialized RX3, .code yX3_of cX3_of 3 (some .int), .fieldLink RX3 41 "ArchivistTricksModel" "thrown" "I", .methodLink RX3 109 yX3_isArchivist, .static yX3_isArchivist, .code yX3_isArchivist cX3_isArchivist 1 (some .boolean)] ++ wsX30)
def wsX3_choices_r1 : List Cond := [Cond.fieldLink RX3 41 "ArchivistTricksModel" "thrown" "I", Cond.methodLink RX3 103 yX3_why, Cond.instanceMethod yX3_why, Cond.selects RX3 yX3_why yX3_why, Cond.initialized RX3, Cond.code yX3_why cX3_why 2 (some .int), Cond.fieldLink RX3 72 "ArchivistTricksModel" "isOn" "Z", Cond.fieldLink RX3 7 "ArchivistTricksModel" "place" "[I", Cond.fieldLink RX3 69 "ArchivistTricksModel" "turn" "I", Cond.fieldLink RX3 16 "ArchivistTricksModel" "ledCard" "I", Cond.fieldLink RX3 20 "ArchivistTricksModel" "trumps" "I", Cond.methodLink RX3 44 yX3_isMildew, Cond.static yX3_isMildew, Cond.code yX3_isMildew cX3_isMildew 1 (some .boolean), Cond.methodLink RX3 79 yX3_hasDated, Cond.instanceMethod yX3_hasDated, Cond.selects RX3 yX3_hasDated yX3_hasDated, Cond.code yX3_hasDated cX3_hasDated 2 (some .boolean), Cond.methodLink RX3 75 yX3_hasOf, Cond.instanceMethod yX3_hasOf, Cond.selects RX3 yX3_hasOf yX3_hasOf, Cond.code yX3_hasOf cX3_hasOf 5 (some .boolean), Cond.methodLink RX3 48 yX3_provenance, Cond.static yX3_provenance]
def wsX3_choices_r2 : List Cond := [Cond.code yX3_provenance cX3_provenance 1 (some .int), Cond.methodLink RX3 82 yX3_inPile, Cond.instanceMethod yX3_inPile, Cond.selects RX3 yX3_inPile yX3_inPile, Cond.code yX3_inPile cX3_inPile 1 (some .int), Cond.fieldLink RX3 58 "ArchivistTricksModel" "isDealt" "Z", Cond.fieldLink RX3 62 "ArchivistTricksModel" "drawn" "I", Cond.methodLink RX3 55 yX3_isTrump, Cond.instanceMethod yX3_isTrump, Cond.selects RX3 yX3_isTrump yX3_isTrump, Cond.code yX3_isTrump cX3_isTrump 2 (some .boolean)]
def wsX3_choices : List Cond := .code yX3_choices cX3_choices 3 (some .int) :: ((wsX3_choices_r1 ++ wsX3_choices_r2) ++ wsX30)
def wsX3_wouldTake : List Cond := .code yX3_wouldTake cX3_wouldTake 2 (some .int) :: ([.fieldLink RX3 16 "ArchivistTricksModel" "ledCard" "I", .fieldLink RX3 41 "ArchivistTricksModel" "thrown" "I", .fieldLink RX3 69 "ArchivistTricksModel" "turn" "I", .methodLink RX3 100 yX3_isCard, .static yX3_isCard, .initialized RX3, .code yX3_isCard cX3_isCard 1 (some .boolean), .methodLink RX3 86 yX3_takes, .instanceMethod yX3_takes, .selects RX3 yX3_takes yX3_takes, .code yX3_takes cX3_takes 3 (some .boolean), .methodLink RX3 44 yX3_isMildew, .static yX3_isMildew, .code yX3_isMildew cX3_isMildew 1 (some .boolean), .methodLink RX3 48 yX3_provenance, .static yX3_provenance, .code yX3_provenance cX3_provenance 1 (some .int), .methodLink RX3 55 yX3_isTrump, .instanceMethod yX3_isTrump, .selects RX3 yX3_isTrump yX3_isTrump, .code yX3_isTrump cX3_isTrump 2 (some .boolean), .fieldLink RX3 20 "ArchivistTricksModel" "trumps" "I"] ++ wsX30)
def wsX3_laysHands : List Cond := .code yX3_laysHands cX3_laysHands 4 none :: ([.fieldLink RX3 7 "ArchivistTricksModel" "place" "[I", .fieldLink RX3 35 "ArchivistTricksModel" "held" "[I"] ++ wsX30)
def wsX3_many : List Cond := .code yX3_many cX3_many 3 (some .int) :: ([])
def wsX3_isAmong : List Cond := .code yX3_isAmong cX3_isAmong 7 (some .boolean) :: ([.fieldLink RX3 35 "ArchivistTricksModel" "held" "[I", .methodLink RX3 44 yX3_isMildew, .static yX3_isMildew, .initialized RX3, .code yX3_isMildew cX3_isMildew 1 (some .boolean), .methodLink RX3 48 yX3_provenance, .static yX3_provenance, .code yX3_provenance cX3_provenance 1 (some .int)] ++ wsX30)
def wsX3_canLead : List Cond := .code yX3_canLead cX3_canLead 4 (some .boolean) :: ([.methodLink RX3 44 yX3_isMildew, .static yX3_isMildew, .initialized RX3, .code yX3_isMildew cX3_isMildew 1 (some .boolean), .methodLink RX3 116 yX3_isAmong, .instanceMethod yX3_isAmong, .selects RX3 yX3_isAmong yX3_isAmong, .code yX3_isAmong cX3_isAmong 7 (some .boolean), .fieldLink RX3 35 "ArchivistTricksModel" "held" "[I", .methodLink RX3 48 yX3_provenance, .static yX3_provenance, .code yX3_provenance cX3_provenance 1 (some .int)] ++ wsX30)
def wsX3_canFollow : List Cond := .code yX3_canFollow cX3_canFollow 5 (some .boolean) :: ([.fieldLink RX3 20 "ArchivistTricksModel" "trumps" "I", .methodLink RX3 44 yX3_isMildew, .static yX3_isMildew, .initialized RX3, .code yX3_isMildew cX3_isMildew 1 (some .boolean), .methodLink RX3 48 yX3_provenance, .static yX3_provenance, .code yX3_provenance cX3_provenance 1 (some .int), .methodLink RX3 116 yX3_isAmong, .instanceMethod yX3_isAmong, .selects RX3 yX3_isAmong yX3_isAmong, .code yX3_isAmong cX3_isAmong 7 (some .boolean), .fieldLink RX3 35 "ArchivistTricksModel" "held" "[I", .methodLink RX3 55 yX3_isTrump, .instanceMethod yX3_isTrump, .selects RX3 yX3_isTrump yX3_isTrump, .code yX3_isTrump cX3_isTrump 2 (some .boolean)] ++ wsX30)
def wsX3_tableAt : List Cond := .code yX3_tableAt cX3_tableAt 4 (some .int) :: ([.fieldLink RX3 38 "ArchivistTricksModel" "worthOf" "[I"] ++ wsX30)
def wsX3_behind_r1 : List Cond := [Cond.methodLink RX3 86 yX3_takes, Cond.instanceMethod yX3_takes, Cond.selects RX3 yX3_takes yX3_takes, Cond.initialized RX3, Cond.code yX3_takes cX3_takes 3 (some .boolean), Cond.methodLink RX3 44 yX3_isMildew, Cond.static yX3_isMildew, Cond.code yX3_isMildew cX3_isMildew 1 (some .boolean), Cond.methodLink RX3 48 yX3_provenance, Cond.static yX3_provenance, Cond.code yX3_provenance cX3_provenance 1 (some .int), Cond.methodLink RX3 55 yX3_isTrump, Cond.instanceMethod yX3_isTrump, Cond.selects RX3 yX3_isTrump yX3_isTrump, Cond.code yX3_isTrump cX3_isTrump 2 (some .boolean), Cond.fieldLink RX3 20 "ArchivistTricksModel" "trumps" "I", Cond.methodLink RX3 89 yX3_worthTo, Cond.static yX3_worthTo, Cond.code yX3_worthTo cX3_worthTo 2 (some .int), Cond.methodLink RX3 52 yX3_worth, Cond.static yX3_worth, Cond.code yX3_worth cX3_worth 1 (some .int), Cond.methodLink RX3 120 yX3_tableAt, Cond.instanceMethod yX3_tableAt]
def wsX3_behind_r2 : List Cond := [Cond.selects RX3 yX3_tableAt yX3_tableAt, Cond.code yX3_tableAt cX3_tableAt 4 (some .int), Cond.fieldLink RX3 38 "ArchivistTricksModel" "worthOf" "[I"]
def wsX3_behind : List Cond := .code yX3_behind cX3_behind 11 (some .int) :: ((wsX3_behind_r1 ++ wsX3_behind_r2) ++ wsX30)
def wsX3_leastBy_r1 : List Cond := [Cond.fieldLink RX3 35 "ArchivistTricksModel" "held" "[I", Cond.methodLink RX3 124 yX3_canFollow, Cond.instanceMethod yX3_canFollow, Cond.selects RX3 yX3_canFollow yX3_canFollow, Cond.initialized RX3, Cond.code yX3_canFollow cX3_canFollow 5 (some .boolean), Cond.fieldLink RX3 20 "ArchivistTricksModel" "trumps" "I", Cond.methodLink RX3 44 yX3_isMildew, Cond.static yX3_isMildew, Cond.code yX3_isMildew cX3_isMildew 1 (some .boolean), Cond.methodLink RX3 48 yX3_provenance, Cond.static yX3_provenance, Cond.code yX3_provenance cX3_provenance 1 (some .int), Cond.methodLink RX3 116 yX3_isAmong, Cond.instanceMethod yX3_isAmong, Cond.selects RX3 yX3_isAmong yX3_isAmong, Cond.code yX3_isAmong cX3_isAmong 7 (some .boolean), Cond.methodLink RX3 55 yX3_isTrump, Cond.instanceMethod yX3_isTrump, Cond.selects RX3 yX3_isTrump yX3_isTrump, Cond.code yX3_isTrump cX3_isTrump 2 (some .boolean), Cond.methodLink RX3 128 yX3_behind, Cond.instanceMethod yX3_behind, Cond.selects RX3 yX3_behind yX3_behind]
def wsX3_leastBy_r2 : List Cond := [Cond.code yX3_behind cX3_behind 11 (some .int), Cond.methodLink RX3 86 yX3_takes, Cond.instanceMethod yX3_takes, Cond.selects RX3 yX3_takes yX3_takes, Cond.code yX3_takes cX3_takes 3 (some .boolean), Cond.methodLink RX3 89 yX3_worthTo, Cond.static yX3_worthTo, Cond.code yX3_worthTo cX3_worthTo 2 (some .int), Cond.methodLink RX3 52 yX3_worth, Cond.static yX3_worth, Cond.code yX3_worth cX3_worth 1 (some .int), Cond.methodLink RX3 120 yX3_tableAt, Cond.instanceMethod yX3_tableAt, Cond.selects RX3 yX3_tableAt yX3_tableAt, Cond.code yX3_tableAt cX3_tableAt 4 (some .int), Cond.fieldLink RX3 38 "ArchivistTricksModel" "worthOf" "[I"]
def wsX3_leastBy : List Cond := .code yX3_leastBy cX3_leastBy 11 (some .int) :: ((wsX3_leastBy_r1 ++ wsX3_leastBy_r2) ++ wsX30)
def wsX3_mostOf_r1 : List Cond := [Cond.fieldLink RX3 35 "ArchivistTricksModel" "held" "[I", Cond.methodLink RX3 132 yX3_canLead, Cond.instanceMethod yX3_canLead, Cond.selects RX3 yX3_canLead yX3_canLead, Cond.initialized RX3, Cond.code yX3_canLead cX3_canLead 4 (some .boolean), Cond.methodLink RX3 44 yX3_isMildew, Cond.static yX3_isMildew, Cond.code yX3_isMildew cX3_isMildew 1 (some .boolean), Cond.methodLink RX3 116 yX3_isAmong, Cond.instanceMethod yX3_isAmong, Cond.selects RX3 yX3_isAmong yX3_isAmong, Cond.code yX3_isAmong cX3_isAmong 7 (some .boolean), Cond.methodLink RX3 48 yX3_provenance, Cond.static yX3_provenance, Cond.code yX3_provenance cX3_provenance 1 (some .int), Cond.methodLink RX3 135 yX3_leastBy, Cond.instanceMethod yX3_leastBy, Cond.selects RX3 yX3_leastBy yX3_leastBy, Cond.code yX3_leastBy cX3_leastBy 11 (some .int), Cond.methodLink RX3 124 yX3_canFollow, Cond.instanceMethod yX3_canFollow, Cond.selects RX3 yX3_canFollow yX3_canFollow, Cond.code yX3_canFollow cX3_canFollow 5 (some .boolean)]
def wsX3_mostOf_r2 : List Cond := [Cond.fieldLink RX3 20 "ArchivistTricksModel" "trumps" "I", Cond.methodLink RX3 55 yX3_isTrump, Cond.instanceMethod yX3_isTrump, Cond.selects RX3 yX3_isTrump yX3_isTrump, Cond.code yX3_isTrump cX3_isTrump 2 (some .boolean), Cond.methodLink RX3 128 yX3_behind, Cond.instanceMethod yX3_behind, Cond.selects RX3 yX3_behind yX3_behind, Cond.code yX3_behind cX3_behind 11 (some .int), Cond.methodLink RX3 86 yX3_takes, Cond.instanceMethod yX3_takes, Cond.selects RX3 yX3_takes yX3_takes, Cond.code yX3_takes cX3_takes 3 (some .boolean), Cond.methodLink RX3 89 yX3_worthTo, Cond.static yX3_worthTo, Cond.code yX3_worthTo cX3_worthTo 2 (some .int), Cond.methodLink RX3 52 yX3_worth, Cond.static yX3_worth, Cond.code yX3_worth cX3_worth 1 (some .int), Cond.methodLink RX3 120 yX3_tableAt, Cond.instanceMethod yX3_tableAt, Cond.selects RX3 yX3_tableAt yX3_tableAt, Cond.code yX3_tableAt cX3_tableAt 4 (some .int), Cond.fieldLink RX3 38 "ArchivistTricksModel" "worthOf" "[I"]
def wsX3_mostOf : List Cond := .code yX3_mostOf cX3_mostOf 8 (some .int) :: ((wsX3_mostOf_r1 ++ wsX3_mostOf_r2) ++ wsX30)
def wsX3_laysTable_r1 : List Cond := [Cond.fieldLink RX3 38 "ArchivistTricksModel" "worthOf" "[I", Cond.methodLink RX3 139 yX3_laysHands, Cond.instanceMethod yX3_laysHands, Cond.selects RX3 yX3_laysHands yX3_laysHands, Cond.initialized RX3, Cond.code yX3_laysHands cX3_laysHands 4 none, Cond.fieldLink RX3 7 "ArchivistTricksModel" "place" "[I", Cond.fieldLink RX3 35 "ArchivistTricksModel" "held" "[I", Cond.methodLink RX3 97 yX3_howMany, Cond.instanceMethod yX3_howMany, Cond.selects RX3 yX3_howMany yX3_howMany, Cond.code yX3_howMany cX3_howMany 4 (some .int), Cond.fieldLink RX3 58 "ArchivistTricksModel" "isDealt" "Z", Cond.methodLink RX3 142 yX3_many, Cond.static yX3_many, Cond.code yX3_many cX3_many 3 (some .int), Cond.methodLink RX3 145 yX3_mostOf, Cond.instanceMethod yX3_mostOf, Cond.selects RX3 yX3_mostOf yX3_mostOf, Cond.code yX3_mostOf cX3_mostOf 8 (some .int), Cond.methodLink RX3 132 yX3_canLead, Cond.instanceMethod yX3_canLead, Cond.selects RX3 yX3_canLead yX3_canLead, Cond.code yX3_canLead cX3_canLead 4 (some .boolean)]
def wsX3_laysTable_r2 : List Cond := [Cond.methodLink RX3 44 yX3_isMildew, Cond.static yX3_isMildew, Cond.code yX3_isMildew cX3_isMildew 1 (some .boolean), Cond.methodLink RX3 116 yX3_isAmong, Cond.instanceMethod yX3_isAmong, Cond.selects RX3 yX3_isAmong yX3_isAmong, Cond.code yX3_isAmong cX3_isAmong 7 (some .boolean), Cond.methodLink RX3 48 yX3_provenance, Cond.static yX3_provenance, Cond.code yX3_provenance cX3_provenance 1 (some .int), Cond.methodLink RX3 135 yX3_leastBy, Cond.instanceMethod yX3_leastBy, Cond.selects RX3 yX3_leastBy yX3_leastBy, Cond.code yX3_leastBy cX3_leastBy 11 (some .int), Cond.methodLink RX3 124 yX3_canFollow, Cond.instanceMethod yX3_canFollow, Cond.selects RX3 yX3_canFollow yX3_canFollow, Cond.code yX3_canFollow cX3_canFollow 5 (some .boolean), Cond.fieldLink RX3 20 "ArchivistTricksModel" "trumps" "I", Cond.methodLink RX3 55 yX3_isTrump, Cond.instanceMethod yX3_isTrump, Cond.selects RX3 yX3_isTrump yX3_isTrump, Cond.code yX3_isTrump cX3_isTrump 2 (some .boolean), Cond.methodLink RX3 128 yX3_behind]
def wsX3_laysTable_r3 : List Cond := [Cond.instanceMethod yX3_behind, Cond.selects RX3 yX3_behind yX3_behind, Cond.code yX3_behind cX3_behind 11 (some .int), Cond.methodLink RX3 86 yX3_takes, Cond.instanceMethod yX3_takes, Cond.selects RX3 yX3_takes yX3_takes, Cond.code yX3_takes cX3_takes 3 (some .boolean), Cond.methodLink RX3 89 yX3_worthTo, Cond.static yX3_worthTo, Cond.code yX3_worthTo cX3_worthTo 2 (some .int), Cond.methodLink RX3 52 yX3_worth, Cond.static yX3_worth, Cond.code yX3_worth cX3_worth 1 (some .int), Cond.methodLink RX3 120 yX3_tableAt, Cond.instanceMethod yX3_tableAt, Cond.selects RX3 yX3_tableAt yX3_tableAt, Cond.code yX3_tableAt cX3_tableAt 4 (some .int)]
def wsX3_laysTable : List Cond := .code yX3_laysTable cX3_laysTable 5 none :: ((wsX3_laysTable_r1 ++ (wsX3_laysTable_r2 ++ wsX3_laysTable_r3)) ++ wsX30)
def wsX3_wornNow : List Cond := .code yX3_wornNow cX3_wornNow 1 (some .int) :: ([.fieldLink RX3 29 "ArchivistTricksModel" "gloves" "[I"] ++ wsX30)
def wsX3_byCard_r1 : List Cond := [Cond.fieldLink RX3 69 "ArchivistTricksModel" "turn" "I", Cond.fieldLink RX3 16 "ArchivistTricksModel" "ledCard" "I", Cond.fieldLink RX3 35 "ArchivistTricksModel" "held" "[I", Cond.methodLink RX3 97 yX3_howMany, Cond.instanceMethod yX3_howMany, Cond.selects RX3 yX3_howMany yX3_howMany, Cond.initialized RX3, Cond.code yX3_howMany cX3_howMany 4 (some .int), Cond.fieldLink RX3 58 "ArchivistTricksModel" "isDealt" "Z", Cond.fieldLink RX3 7 "ArchivistTricksModel" "place" "[I", Cond.methodLink RX3 149 yX3_wornNow, Cond.instanceMethod yX3_wornNow, Cond.selects RX3 yX3_wornNow yX3_wornNow, Cond.code yX3_wornNow cX3_wornNow 1 (some .int), Cond.fieldLink RX3 29 "ArchivistTricksModel" "gloves" "[I", Cond.methodLink RX3 135 yX3_leastBy, Cond.instanceMethod yX3_leastBy, Cond.selects RX3 yX3_leastBy yX3_leastBy, Cond.code yX3_leastBy cX3_leastBy 11 (some .int), Cond.methodLink RX3 124 yX3_canFollow, Cond.instanceMethod yX3_canFollow, Cond.selects RX3 yX3_canFollow yX3_canFollow, Cond.code yX3_canFollow cX3_canFollow 5 (some .boolean), Cond.fieldLink RX3 20 "ArchivistTricksModel" "trumps" "I"]
def wsX3_byCard_r2 : List Cond := [Cond.methodLink RX3 44 yX3_isMildew, Cond.static yX3_isMildew, Cond.code yX3_isMildew cX3_isMildew 1 (some .boolean), Cond.methodLink RX3 48 yX3_provenance, Cond.static yX3_provenance, Cond.code yX3_provenance cX3_provenance 1 (some .int), Cond.methodLink RX3 116 yX3_isAmong, Cond.instanceMethod yX3_isAmong, Cond.selects RX3 yX3_isAmong yX3_isAmong, Cond.code yX3_isAmong cX3_isAmong 7 (some .boolean), Cond.methodLink RX3 55 yX3_isTrump, Cond.instanceMethod yX3_isTrump, Cond.selects RX3 yX3_isTrump yX3_isTrump, Cond.code yX3_isTrump cX3_isTrump 2 (some .boolean), Cond.methodLink RX3 128 yX3_behind, Cond.instanceMethod yX3_behind, Cond.selects RX3 yX3_behind yX3_behind, Cond.code yX3_behind cX3_behind 11 (some .int), Cond.methodLink RX3 86 yX3_takes, Cond.instanceMethod yX3_takes, Cond.selects RX3 yX3_takes yX3_takes, Cond.code yX3_takes cX3_takes 3 (some .boolean), Cond.methodLink RX3 89 yX3_worthTo, Cond.static yX3_worthTo]
def wsX3_byCard_r3 : List Cond := [Cond.code yX3_worthTo cX3_worthTo 2 (some .int), Cond.methodLink RX3 52 yX3_worth, Cond.static yX3_worth, Cond.code yX3_worth cX3_worth 1 (some .int), Cond.methodLink RX3 120 yX3_tableAt, Cond.instanceMethod yX3_tableAt, Cond.selects RX3 yX3_tableAt yX3_tableAt, Cond.code yX3_tableAt cX3_tableAt 4 (some .int), Cond.fieldLink RX3 38 "ArchivistTricksModel" "worthOf" "[I"]
def wsX3_byCard : List Cond := .code yX3_byCard cX3_byCard 4 (some .int) :: ((wsX3_byCard_r1 ++ (wsX3_byCard_r2 ++ wsX3_byCard_r3)) ++ wsX30)
def wsX3_bestPlace_r1 : List Cond := [Cond.fieldLink RX3 72 "ArchivistTricksModel" "isOn" "Z", Cond.fieldLink RX3 41 "ArchivistTricksModel" "thrown" "I", Cond.fieldLink RX3 69 "ArchivistTricksModel" "turn" "I", Cond.fieldLink RX3 35 "ArchivistTricksModel" "held" "[I", Cond.methodLink RX3 82 yX3_inPile, Cond.instanceMethod yX3_inPile, Cond.selects RX3 yX3_inPile yX3_inPile, Cond.initialized RX3, Cond.code yX3_inPile cX3_inPile 1 (some .int), Cond.fieldLink RX3 58 "ArchivistTricksModel" "isDealt" "Z", Cond.fieldLink RX3 62 "ArchivistTricksModel" "drawn" "I", Cond.methodLink RX3 152 yX3_laysTable, Cond.instanceMethod yX3_laysTable, Cond.selects RX3 yX3_laysTable yX3_laysTable, Cond.code yX3_laysTable cX3_laysTable 5 none, Cond.fieldLink RX3 38 "ArchivistTricksModel" "worthOf" "[I", Cond.methodLink RX3 139 yX3_laysHands, Cond.instanceMethod yX3_laysHands, Cond.selects RX3 yX3_laysHands yX3_laysHands, Cond.code yX3_laysHands cX3_laysHands 4 none, Cond.fieldLink RX3 7 "ArchivistTricksModel" "place" "[I", Cond.methodLink RX3 97 yX3_howMany, Cond.instanceMethod yX3_howMany, Cond.selects RX3 yX3_howMany yX3_howMany]
def wsX3_bestPlace_r2 : List Cond := [Cond.code yX3_howMany cX3_howMany 4 (some .int), Cond.methodLink RX3 142 yX3_many, Cond.static yX3_many, Cond.code yX3_many cX3_many 3 (some .int), Cond.methodLink RX3 145 yX3_mostOf, Cond.instanceMethod yX3_mostOf, Cond.selects RX3 yX3_mostOf yX3_mostOf, Cond.code yX3_mostOf cX3_mostOf 8 (some .int), Cond.methodLink RX3 132 yX3_canLead, Cond.instanceMethod yX3_canLead, Cond.selects RX3 yX3_canLead yX3_canLead, Cond.code yX3_canLead cX3_canLead 4 (some .boolean), Cond.methodLink RX3 44 yX3_isMildew, Cond.static yX3_isMildew, Cond.code yX3_isMildew cX3_isMildew 1 (some .boolean), Cond.methodLink RX3 116 yX3_isAmong, Cond.instanceMethod yX3_isAmong, Cond.selects RX3 yX3_isAmong yX3_isAmong, Cond.code yX3_isAmong cX3_isAmong 7 (some .boolean), Cond.methodLink RX3 48 yX3_provenance, Cond.static yX3_provenance, Cond.code yX3_provenance cX3_provenance 1 (some .int), Cond.methodLink RX3 135 yX3_leastBy, Cond.instanceMethod yX3_leastBy]
def wsX3_bestPlace_r3 : List Cond := [Cond.selects RX3 yX3_leastBy yX3_leastBy, Cond.code yX3_leastBy cX3_leastBy 11 (some .int), Cond.methodLink RX3 124 yX3_canFollow, Cond.instanceMethod yX3_canFollow, Cond.selects RX3 yX3_canFollow yX3_canFollow, Cond.code yX3_canFollow cX3_canFollow 5 (some .boolean), Cond.fieldLink RX3 20 "ArchivistTricksModel" "trumps" "I", Cond.methodLink RX3 55 yX3_isTrump, Cond.instanceMethod yX3_isTrump, Cond.selects RX3 yX3_isTrump yX3_isTrump, Cond.code yX3_isTrump cX3_isTrump 2 (some .boolean), Cond.methodLink RX3 128 yX3_behind, Cond.instanceMethod yX3_behind, Cond.selects RX3 yX3_behind yX3_behind, Cond.code yX3_behind cX3_behind 11 (some .int), Cond.methodLink RX3 86 yX3_takes, Cond.instanceMethod yX3_takes, Cond.selects RX3 yX3_takes yX3_takes, Cond.code yX3_takes cX3_takes 3 (some .boolean), Cond.methodLink RX3 89 yX3_worthTo, Cond.static yX3_worthTo, Cond.code yX3_worthTo cX3_worthTo 2 (some .int), Cond.methodLink RX3 52 yX3_worth, Cond.static yX3_worth]
def wsX3_bestPlace_r4 : List Cond := [Cond.code yX3_worth cX3_worth 1 (some .int), Cond.methodLink RX3 120 yX3_tableAt, Cond.instanceMethod yX3_tableAt, Cond.selects RX3 yX3_tableAt yX3_tableAt, Cond.code yX3_tableAt cX3_tableAt 4 (some .int), Cond.methodLink RX3 103 yX3_why, Cond.instanceMethod yX3_why, Cond.selects RX3 yX3_why yX3_why, Cond.code yX3_why cX3_why 2 (some .int), Cond.fieldLink RX3 16 "ArchivistTricksModel" "ledCard" "I", Cond.methodLink RX3 79 yX3_hasDated, Cond.instanceMethod yX3_hasDated, Cond.selects RX3 yX3_hasDated yX3_hasDated, Cond.code yX3_hasDated cX3_hasDated 2 (some .boolean), Cond.methodLink RX3 75 yX3_hasOf, Cond.instanceMethod yX3_hasOf, Cond.selects RX3 yX3_hasOf yX3_hasOf, Cond.code yX3_hasOf cX3_hasOf 5 (some .boolean), Cond.methodLink RX3 155 yX3_byCard, Cond.instanceMethod yX3_byCard, Cond.selects RX3 yX3_byCard yX3_byCard, Cond.code yX3_byCard cX3_byCard 4 (some .int), Cond.methodLink RX3 149 yX3_wornNow, Cond.instanceMethod yX3_wornNow]
def wsX3_bestPlace_r5 : List Cond := [Cond.selects RX3 yX3_wornNow yX3_wornNow, Cond.code yX3_wornNow cX3_wornNow 1 (some .int), Cond.fieldLink RX3 29 "ArchivistTricksModel" "gloves" "[I"]
def wsX3_bestPlace : List Cond := .code yX3_bestPlace cX3_bestPlace 6 (some .int) :: ((wsX3_bestPlace_r1 ++ (wsX3_bestPlace_r2 ++ (wsX3_bestPlace_r3 ++ (wsX3_bestPlace_r4 ++ wsX3_bestPlace_r5)))) ++ wsX30)
def wsX3_best_r1 : List Cond := [Cond.methodLink RX3 158 yX3_bestPlace, Cond.instanceMethod yX3_bestPlace, Cond.selects RX3 yX3_bestPlace yX3_bestPlace, Cond.initialized RX3, Cond.code yX3_bestPlace cX3_bestPlace 6 (some .int), Cond.fieldLink RX3 72 "ArchivistTricksModel" "isOn" "Z", Cond.fieldLink RX3 41 "ArchivistTricksModel" "thrown" "I", Cond.fieldLink RX3 69 "ArchivistTricksModel" "turn" "I", Cond.fieldLink RX3 35 "ArchivistTricksModel" "held" "[I", Cond.methodLink RX3 82 yX3_inPile, Cond.instanceMethod yX3_inPile, Cond.selects RX3 yX3_inPile yX3_inPile, Cond.code yX3_inPile cX3_inPile 1 (some .int), Cond.fieldLink RX3 58 "ArchivistTricksModel" "isDealt" "Z", Cond.fieldLink RX3 62 "ArchivistTricksModel" "drawn" "I", Cond.methodLink RX3 152 yX3_laysTable, Cond.instanceMethod yX3_laysTable, Cond.selects RX3 yX3_laysTable yX3_laysTable, Cond.code yX3_laysTable cX3_laysTable 5 none, Cond.fieldLink RX3 38 "ArchivistTricksModel" "worthOf" "[I", Cond.methodLink RX3 139 yX3_laysHands, Cond.instanceMethod yX3_laysHands, Cond.selects RX3 yX3_laysHands yX3_laysHands, Cond.code yX3_laysHands cX3_laysHands 4 none]
def wsX3_best_r2 : List Cond := [Cond.fieldLink RX3 7 "ArchivistTricksModel" "place" "[I", Cond.methodLink RX3 97 yX3_howMany, Cond.instanceMethod yX3_howMany, Cond.selects RX3 yX3_howMany yX3_howMany, Cond.code yX3_howMany cX3_howMany 4 (some .int), Cond.methodLink RX3 142 yX3_many, Cond.static yX3_many, Cond.code yX3_many cX3_many 3 (some .int), Cond.methodLink RX3 145 yX3_mostOf, Cond.instanceMethod yX3_mostOf, Cond.selects RX3 yX3_mostOf yX3_mostOf, Cond.code yX3_mostOf cX3_mostOf 8 (some .int), Cond.methodLink RX3 132 yX3_canLead, Cond.instanceMethod yX3_canLead, Cond.selects RX3 yX3_canLead yX3_canLead, Cond.code yX3_canLead cX3_canLead 4 (some .boolean), Cond.methodLink RX3 44 yX3_isMildew, Cond.static yX3_isMildew, Cond.code yX3_isMildew cX3_isMildew 1 (some .boolean), Cond.methodLink RX3 116 yX3_isAmong, Cond.instanceMethod yX3_isAmong, Cond.selects RX3 yX3_isAmong yX3_isAmong, Cond.code yX3_isAmong cX3_isAmong 7 (some .boolean), Cond.methodLink RX3 48 yX3_provenance]
def wsX3_best_r3 : List Cond := [Cond.static yX3_provenance, Cond.code yX3_provenance cX3_provenance 1 (some .int), Cond.methodLink RX3 135 yX3_leastBy, Cond.instanceMethod yX3_leastBy, Cond.selects RX3 yX3_leastBy yX3_leastBy, Cond.code yX3_leastBy cX3_leastBy 11 (some .int), Cond.methodLink RX3 124 yX3_canFollow, Cond.instanceMethod yX3_canFollow, Cond.selects RX3 yX3_canFollow yX3_canFollow, Cond.code yX3_canFollow cX3_canFollow 5 (some .boolean), Cond.fieldLink RX3 20 "ArchivistTricksModel" "trumps" "I", Cond.methodLink RX3 55 yX3_isTrump, Cond.instanceMethod yX3_isTrump, Cond.selects RX3 yX3_isTrump yX3_isTrump, Cond.code yX3_isTrump cX3_isTrump 2 (some .boolean), Cond.methodLink RX3 128 yX3_behind, Cond.instanceMethod yX3_behind, Cond.selects RX3 yX3_behind yX3_behind, Cond.code yX3_behind cX3_behind 11 (some .int), Cond.methodLink RX3 86 yX3_takes, Cond.instanceMethod yX3_takes, Cond.selects RX3 yX3_takes yX3_takes, Cond.code yX3_takes cX3_takes 3 (some .boolean), Cond.methodLink RX3 89 yX3_worthTo]
def wsX3_best_r4 : List Cond := [Cond.static yX3_worthTo, Cond.code yX3_worthTo cX3_worthTo 2 (some .int), Cond.methodLink RX3 52 yX3_worth, Cond.static yX3_worth, Cond.code yX3_worth cX3_worth 1 (some .int), Cond.methodLink RX3 120 yX3_tableAt, Cond.instanceMethod yX3_tableAt, Cond.selects RX3 yX3_tableAt yX3_tableAt, Cond.code yX3_tableAt cX3_tableAt 4 (some .int), Cond.methodLink RX3 103 yX3_why, Cond.instanceMethod yX3_why, Cond.selects RX3 yX3_why yX3_why, Cond.code yX3_why cX3_why 2 (some .int), Cond.fieldLink RX3 16 "ArchivistTricksModel" "ledCard" "I", Cond.methodLink RX3 79 yX3_hasDated, Cond.instanceMethod yX3_hasDated, Cond.selects RX3 yX3_hasDated yX3_hasDated, Cond.code yX3_hasDated cX3_hasDated 2 (some .boolean), Cond.methodLink RX3 75 yX3_hasOf, Cond.instanceMethod yX3_hasOf, Cond.selects RX3 yX3_hasOf yX3_hasOf, Cond.code yX3_hasOf cX3_hasOf 5 (some .boolean), Cond.methodLink RX3 155 yX3_byCard, Cond.instanceMethod yX3_byCard]
def wsX3_best_r5 : List Cond := [Cond.selects RX3 yX3_byCard yX3_byCard, Cond.code yX3_byCard cX3_byCard 4 (some .int), Cond.methodLink RX3 149 yX3_wornNow, Cond.instanceMethod yX3_wornNow, Cond.selects RX3 yX3_wornNow yX3_wornNow, Cond.code yX3_wornNow cX3_wornNow 1 (some .int), Cond.fieldLink RX3 29 "ArchivistTricksModel" "gloves" "[I"]
def wsX3_best : List Cond := .code yX3_best cX3_best 2 (some .int) :: ((wsX3_best_r1 ++ (wsX3_best_r2 ++ (wsX3_best_r3 ++ (wsX3_best_r4 ++ wsX3_best_r5)))) ++ wsX30)
def wsX3_bestCard_r1 : List Cond := [Cond.fieldLink RX3 35 "ArchivistTricksModel" "held" "[I", Cond.fieldLink RX3 69 "ArchivistTricksModel" "turn" "I", Cond.methodLink RX3 158 yX3_bestPlace, Cond.instanceMethod yX3_bestPlace, Cond.selects RX3 yX3_bestPlace yX3_bestPlace, Cond.initialized RX3, Cond.code yX3_bestPlace cX3_bestPlace 6 (some .int), Cond.fieldLink RX3 72 "ArchivistTricksModel" "isOn" "Z", Cond.fieldLink RX3 41 "ArchivistTricksModel" "thrown" "I", Cond.methodLink RX3 82 yX3_inPile, Cond.instanceMethod yX3_inPile, Cond.selects RX3 yX3_inPile yX3_inPile, Cond.code yX3_inPile cX3_inPile 1 (some .int), Cond.fieldLink RX3 58 "ArchivistTricksModel" "isDealt" "Z", Cond.fieldLink RX3 62 "ArchivistTricksModel" "drawn" "I", Cond.methodLink RX3 152 yX3_laysTable, Cond.instanceMethod yX3_laysTable, Cond.selects RX3 yX3_laysTable yX3_laysTable, Cond.code yX3_laysTable cX3_laysTable 5 none, Cond.fieldLink RX3 38 "ArchivistTricksModel" "worthOf" "[I", Cond.methodLink RX3 139 yX3_laysHands, Cond.instanceMethod yX3_laysHands, Cond.selects RX3 yX3_laysHands yX3_laysHands, Cond.code yX3_laysHands cX3_laysHands 4 none]
def wsX3_bestCard_r2 : List Cond := [Cond.fieldLink RX3 7 "ArchivistTricksModel" "place" "[I", Cond.methodLink RX3 97 yX3_howMany, Cond.instanceMethod yX3_howMany, Cond.selects RX3 yX3_howMany yX3_howMany, Cond.code yX3_howMany cX3_howMany 4 (some .int), Cond.methodLink RX3 142 yX3_many, Cond.static yX3_many, Cond.code yX3_many cX3_many 3 (some .int), Cond.methodLink RX3 145 yX3_mostOf, Cond.instanceMethod yX3_mostOf, Cond.selects RX3 yX3_mostOf yX3_mostOf, Cond.code yX3_mostOf cX3_mostOf 8 (some .int), Cond.methodLink RX3 132 yX3_canLead, Cond.instanceMethod yX3_canLead, Cond.selects RX3 yX3_canLead yX3_canLead, Cond.code yX3_canLead cX3_canLead 4 (some .boolean), Cond.methodLink RX3 44 yX3_isMildew, Cond.static yX3_isMildew, Cond.code yX3_isMildew cX3_isMildew 1 (some .boolean), Cond.methodLink RX3 116 yX3_isAmong, Cond.instanceMethod yX3_isAmong, Cond.selects RX3 yX3_isAmong yX3_isAmong, Cond.code yX3_isAmong cX3_isAmong 7 (some .boolean), Cond.methodLink RX3 48 yX3_provenance]
def wsX3_bestCard_r3 : List Cond := [Cond.static yX3_provenance, Cond.code yX3_provenance cX3_provenance 1 (some .int), Cond.methodLink RX3 135 yX3_leastBy, Cond.instanceMethod yX3_leastBy, Cond.selects RX3 yX3_leastBy yX3_leastBy, Cond.code yX3_leastBy cX3_leastBy 11 (some .int), Cond.methodLink RX3 124 yX3_canFollow, Cond.instanceMethod yX3_canFollow, Cond.selects RX3 yX3_canFollow yX3_canFollow, Cond.code yX3_canFollow cX3_canFollow 5 (some .boolean), Cond.fieldLink RX3 20 "ArchivistTricksModel" "trumps" "I", Cond.methodLink RX3 55 yX3_isTrump, Cond.instanceMethod yX3_isTrump, Cond.selects RX3 yX3_isTrump yX3_isTrump, Cond.code yX3_isTrump cX3_isTrump 2 (some .boolean), Cond.methodLink RX3 128 yX3_behind, Cond.instanceMethod yX3_behind, Cond.selects RX3 yX3_behind yX3_behind, Cond.code yX3_behind cX3_behind 11 (some .int), Cond.methodLink RX3 86 yX3_takes, Cond.instanceMethod yX3_takes, Cond.selects RX3 yX3_takes yX3_takes, Cond.code yX3_takes cX3_takes 3 (some .boolean), Cond.methodLink RX3 89 yX3_worthTo]
def wsX3_bestCard_r4 : List Cond := [Cond.static yX3_worthTo, Cond.code yX3_worthTo cX3_worthTo 2 (some .int), Cond.methodLink RX3 52 yX3_worth, Cond.static yX3_worth, Cond.code yX3_worth cX3_worth 1 (some .int), Cond.methodLink RX3 120 yX3_tableAt, Cond.instanceMethod yX3_tableAt, Cond.selects RX3 yX3_tableAt yX3_tableAt, Cond.code yX3_tableAt cX3_tableAt 4 (some .int), Cond.methodLink RX3 103 yX3_why, Cond.instanceMethod yX3_why, Cond.selects RX3 yX3_why yX3_why, Cond.code yX3_why cX3_why 2 (some .int), Cond.fieldLink RX3 16 "ArchivistTricksModel" "ledCard" "I", Cond.methodLink RX3 79 yX3_hasDated, Cond.instanceMethod yX3_hasDated, Cond.selects RX3 yX3_hasDated yX3_hasDated, Cond.code yX3_hasDated cX3_hasDated 2 (some .boolean), Cond.methodLink RX3 75 yX3_hasOf, Cond.instanceMethod yX3_hasOf, Cond.selects RX3 yX3_hasOf yX3_hasOf, Cond.code yX3_hasOf cX3_hasOf 5 (some .boolean), Cond.methodLink RX3 155 yX3_byCard, Cond.instanceMethod yX3_byCard]
def wsX3_bestCard_r5 : List Cond := [Cond.selects RX3 yX3_byCard yX3_byCard, Cond.code yX3_byCard cX3_byCard 4 (some .int), Cond.methodLink RX3 149 yX3_wornNow, Cond.instanceMethod yX3_wornNow, Cond.selects RX3 yX3_wornNow yX3_wornNow, Cond.code yX3_wornNow cX3_wornNow 1 (some .int), Cond.fieldLink RX3 29 "ArchivistTricksModel" "gloves" "[I"]
def wsX3_bestCard : List Cond := .code yX3_bestCard cX3_bestCard 2 (some .int) :: ((wsX3_bestCard_r1 ++ (wsX3_bestCard_r2 ++ (wsX3_bestCard_r3 ++ (wsX3_bestCard_r4 ++ wsX3_bestCard_r5)))) ++ wsX30)
def wsX3_wonByFirst : List Cond := .code yX3_wonByFirst cX3_wonByFirst 1 (some .int) :: ([.fieldLink RX3 41 "ArchivistTricksModel" "thrown" "I", .fieldLink RX3 32 "ArchivistTricksModel" "wins" "[I"] ++ wsX30)
def wsX3_wonBySecond : List Cond := .code yX3_wonBySecond cX3_wonBySecond 1 (some .int) :: ([.fieldLink RX3 41 "ArchivistTricksModel" "thrown" "I", .fieldLink RX3 32 "ArchivistTricksModel" "wins" "[I"] ++ wsX30)
def wsJ9_max_7cf53 : List Cond := .code yJ9_max_7cf53 cJ9_max_7cf53 2 (some .int) :: ([])
def wsL_play_r1 : List Cond := [Cond.classLink RL 13 "java/lang/IllegalArgumentException", Cond.classLink RL 15 "java/lang/IllegalStateException", Cond.methodLink RL 7 yX2_play, Cond.instanceMethod yX2_play, Cond.selects RX2 yX2_play yX2_play, Cond.initialized RX2, Cond.code yX2_play cX2_play 3 (some .int), Cond.classLink RX2 71 "java/lang/IllegalArgumentException", Cond.initialized "java/lang/IllegalArgumentException", Cond.classLink RX2 82 "java/lang/IllegalStateException", Cond.initialized "java/lang/IllegalStateException", Cond.fieldLink RX2 33 "ArchivistTricks" "mover" "I", Cond.fieldLink RX2 91 "ArchivistTricks$Archivist" "hand" "J", Cond.constantLong RX2 98 (-1), Cond.fieldLink RX2 30 "ArchivistTricks" "ledCard" "I", Cond.methodLink RX2 68 yX2_isCard, Cond.static yX2_isCard, Cond.code yX2_isCard cX2_isCard 1 (some .boolean), Cond.methodLink RX2 78 yX2_reasonAgainst, Cond.instanceMethod yX2_reasonAgainst, Cond.selects RX2 yX2_reasonAgainst yX2_reasonAgainst, Cond.code yX2_reasonAgainst cX2_reasonAgainst 4 (some .int), Cond.fieldLink RX2 23 "ArchivistTricks" "drawn" "I", Cond.fieldLink RX2 27 "ArchivistTricks" "trumpProvenance" "I"]
def wsL_play_r2 : List Cond := [Cond.methodLink RX2 154 yX2_moversHand, Cond.instanceMethod yX2_moversHand, Cond.selects RX2 yX2_moversHand yX2_moversHand, Cond.code yX2_moversHand cX2_moversHand 1 (some .long), Cond.methodLink RX2 87 yX2_archivist, Cond.instanceMethod yX2_archivist, Cond.selects RX2 yX2_archivist yX2_archivist, Cond.code yX2_archivist cX2_archivist 2 (some (.object "ArchivistTricks$Archivist")), Cond.fieldLink RX2 16 "ArchivistTricks" "first" "LArchivistTricks$Archivist;", Cond.fieldLink RX2 20 "ArchivistTricks" "second" "LArchivistTricks$Archivist;", Cond.methodLink RX2 124 yX2_has, Cond.static yX2_has, Cond.code yX2_has cX2_has 3 (some .boolean), Cond.methodLink RX2 95 yX2_bit, Cond.static yX2_bit, Cond.code yX2_bit cX2_bit 1 (some .long), Cond.methodLink RX2 184 yX2_reasonAgainstLeading, Cond.static yX2_reasonAgainstLeading, Cond.code yX2_reasonAgainstLeading cX2_reasonAgainstLeading 3 (some .int), Cond.constantLong RX2 216 (1099511627775), Cond.methodLink RX2 64 yX2_isMildew, Cond.static yX2_isMildew, Cond.code yX2_isMildew cX2_isMildew 1 (some .boolean), Cond.methodLink RX2 188 yX2_reasonAgainstReplying]
def wsL_play_r3 : List Cond := [Cond.static yX2_reasonAgainstReplying, Cond.code yX2_reasonAgainstReplying cX2_reasonAgainstReplying 9 (some .int), Cond.methodLink RX2 218 yX2_allOf, Cond.static yX2_allOf, Cond.code yX2_allOf cX2_allOf 1 (some .long), Cond.constantLong RX2 214 (1023), Cond.methodLink RX2 100 yX2_finishTrick, Cond.instanceMethod yX2_finishTrick, Cond.selects RX2 yX2_finishTrick yX2_finishTrick, Cond.code yX2_finishTrick cX2_finishTrick 5 (some .int), Cond.fieldLink RX2 105 "ArchivistTricks$Archivist" "gloves" "I", Cond.fieldLink RX2 133 "ArchivistTricks$Archivist" "points" "I", Cond.fieldLink RX2 136 "ArchivistTricks$Archivist" "tricks" "I", Cond.fieldLink RX2 130 "ArchivistTricks$Archivist" "taken" "J", Cond.methodLink RX2 141 yX2_takerBy, Cond.instanceMethod yX2_takerBy, Cond.selects RX2 yX2_takerBy yX2_takerBy, Cond.code yX2_takerBy cX2_takerBy 2 (some .int), Cond.methodLink RX2 192 yX2_beats, Cond.static yX2_beats, Cond.code yX2_beats cX2_beats 3 (some .boolean), Cond.methodLink RX2 196 yX2_worth, Cond.static yX2_worth, Cond.code yX2_worth cX2_worth 2 (some .int)]
def wsL_play_r4 : List Cond := [Cond.methodLink RX2 200 yX0_loseWornGloves, Cond.instanceMethod yX0_loseWornGloves, Cond.selects RX0 yX0_loseWornGloves yX0_loseWornGloves, Cond.initialized RX0, Cond.code yX0_loseWornGloves cX0_loseWornGloves 1 none, Cond.fieldLink RX0 25 "ArchivistTricks$Archivist" "gloves" "I", Cond.methodLink RX2 203 yX2_drawFor, Cond.instanceMethod yX2_drawFor, Cond.selects RX2 yX2_drawFor yX2_drawFor, Cond.code yX2_drawFor cX2_drawFor 2 none, Cond.fieldLink RX2 9 "ArchivistTricks" "row" "[I", Cond.methodLink RX2 207 yX2_endGame, Cond.instanceMethod yX2_endGame, Cond.selects RX2 yX2_endGame yX2_endGame, Cond.code yX2_endGame cX2_endGame 1 none, Cond.fieldLink RX2 36 "ArchivistTricks" "firstWins" "I", Cond.fieldLink RX2 39 "ArchivistTricks" "secondWins" "I"]
def wsL_play : List Cond := .codeWith yL_play cL_play 4 (some .int) [(0, 9, 12, 13), (0, 9, 15, 15)] :: ((wsL_play_r1 ++ (wsL_play_r2 ++ (wsL_play_r3 ++ wsL_play_r4))) ++ wsX20 ++ wsX00 ++ (vx_atS RX2 75 "java/lang/IllegalArgumentException" ["java/lang/RuntimeException", "java/lang/Exception"]).filter goodWord ++ (vx_atS RX2 86 "java/lang/IllegalStateException" ["java/lang/RuntimeException", "java/lang/Exception"]).filter goodWord)
def wsL_putOnGloves : List Cond := .codeWith yL_putOnGloves cL_putOnGloves 3 (some .int) [(0, 8, 11, 15)] :: ([.classLink RL 15 "java/lang/IllegalStateException", .methodLink RL 17 yX2_putOnGloves, .instanceMethod yX2_putOnGloves, .selects RX2 yX2_putOnGloves yX2_putOnGloves, .initialized RX2, .code yX2_putOnGloves cX2_putOnGloves 2 (some .int), .classLink RX2 82 "java/lang/IllegalStateException", .initialized "java/lang/IllegalStateException", .fieldLink RX2 33 "ArchivistTricks" "mover" "I", .fieldLink RX2 105 "ArchivistTricks$Archivist" "gloves" "I", .methodLink RX2 87 yX2_archivist, .instanceMethod yX2_archivist, .selects RX2 yX2_archivist yX2_archivist, .code yX2_archivist cX2_archivist 2 (some (.object "ArchivistTricks$Archivist")), .fieldLink RX2 16 "ArchivistTricks" "first" "LArchivistTricks$Archivist;", .fieldLink RX2 20 "ArchivistTricks" "second" "LArchivistTricks$Archivist;"] ++ wsX20 ++ wsX00 ++ (vx_atS RX2 86 "java/lang/IllegalStateException" ["java/lang/RuntimeException", "java/lang/Exception"]).filter goodWord)
def wsL_whyNot_r1 : List Cond := [Cond.classLink RL 13 "java/lang/IllegalArgumentException", Cond.methodLink RL 21 yX2_whyNot, Cond.instanceMethod yX2_whyNot, Cond.selects RX2 yX2_whyNot yX2_whyNot, Cond.initialized RX2, Cond.code yX2_whyNot cX2_whyNot 2 (some .int), Cond.classLink RX2 71 "java/lang/IllegalArgumentException", Cond.initialized "java/lang/IllegalArgumentException", Cond.methodLink RX2 68 yX2_isCard, Cond.static yX2_isCard, Cond.code yX2_isCard cX2_isCard 1 (some .boolean), Cond.methodLink RX2 78 yX2_reasonAgainst, Cond.instanceMethod yX2_reasonAgainst, Cond.selects RX2 yX2_reasonAgainst yX2_reasonAgainst, Cond.code yX2_reasonAgainst cX2_reasonAgainst 4 (some .int), Cond.fieldLink RX2 33 "ArchivistTricks" "mover" "I", Cond.fieldLink RX2 30 "ArchivistTricks" "ledCard" "I", Cond.fieldLink RX2 23 "ArchivistTricks" "drawn" "I", Cond.fieldLink RX2 27 "ArchivistTricks" "trumpProvenance" "I", Cond.methodLink RX2 154 yX2_moversHand, Cond.instanceMethod yX2_moversHand, Cond.selects RX2 yX2_moversHand yX2_moversHand, Cond.code yX2_moversHand cX2_moversHand 1 (some .long), Cond.fieldLink RX2 91 "ArchivistTricks$Archivist" "hand" "J"]
def wsL_whyNot_r2 : List Cond := [Cond.methodLink RX2 87 yX2_archivist, Cond.instanceMethod yX2_archivist, Cond.selects RX2 yX2_archivist yX2_archivist, Cond.code yX2_archivist cX2_archivist 2 (some (.object "ArchivistTricks$Archivist")), Cond.fieldLink RX2 16 "ArchivistTricks" "first" "LArchivistTricks$Archivist;", Cond.fieldLink RX2 20 "ArchivistTricks" "second" "LArchivistTricks$Archivist;", Cond.methodLink RX2 124 yX2_has, Cond.static yX2_has, Cond.code yX2_has cX2_has 3 (some .boolean), Cond.methodLink RX2 95 yX2_bit, Cond.static yX2_bit, Cond.code yX2_bit cX2_bit 1 (some .long), Cond.methodLink RX2 184 yX2_reasonAgainstLeading, Cond.static yX2_reasonAgainstLeading, Cond.code yX2_reasonAgainstLeading cX2_reasonAgainstLeading 3 (some .int), Cond.constantLong RX2 216 (1099511627775), Cond.methodLink RX2 64 yX2_isMildew, Cond.static yX2_isMildew, Cond.code yX2_isMildew cX2_isMildew 1 (some .boolean), Cond.methodLink RX2 188 yX2_reasonAgainstReplying, Cond.static yX2_reasonAgainstReplying, Cond.code yX2_reasonAgainstReplying cX2_reasonAgainstReplying 9 (some .int), Cond.methodLink RX2 218 yX2_allOf, Cond.static yX2_allOf]
def wsL_whyNot_r3 : List Cond := [Cond.code yX2_allOf cX2_allOf 1 (some .long), Cond.constantLong RX2 214 (1023)]
def wsL_whyNot : List Cond := .codeWith yL_whyNot cL_whyNot 4 (some .int) [(0, 9, 12, 13)] :: ((wsL_whyNot_r1 ++ (wsL_whyNot_r2 ++ wsL_whyNot_r3)) ++ wsX20 ++ wsX00 ++ (vx_atS RX2 75 "java/lang/IllegalArgumentException" ["java/lang/RuntimeException", "java/lang/Exception"]).filter goodWord)
def wsL_cards_r1 : List Cond := [Cond.classLink RL 27 "java/lang/IndexOutOfBoundsException", Cond.methodLink RL 24 yX2_cards, Cond.instanceMethod yX2_cards, Cond.selects RX2 yX2_cards yX2_cards, Cond.initialized RX2, Cond.code yX2_cards cX2_cards 2 (some .int), Cond.classLink RX2 113 "java/lang/IndexOutOfBoundsException", Cond.initialized "java/lang/IndexOutOfBoundsException", Cond.fieldLink RX2 91 "ArchivistTricks$Archivist" "hand" "J", Cond.methodLink RX2 110 yX2_isArchivist, Cond.static yX2_isArchivist, Cond.code yX2_isArchivist cX2_isArchivist 1 (some .boolean), Cond.methodLink RX2 87 yX2_archivist, Cond.instanceMethod yX2_archivist, Cond.selects RX2 yX2_archivist yX2_archivist, Cond.code yX2_archivist cX2_archivist 2 (some (.object "ArchivistTricks$Archivist")), Cond.fieldLink RX2 16 "ArchivistTricks" "first" "LArchivistTricks$Archivist;", Cond.fieldLink RX2 20 "ArchivistTricks" "second" "LArchivistTricks$Archivist;", Cond.methodLink RX2 118 yJ13_bitCount_95d88, Cond.static yJ13_bitCount_95d88, Cond.initialized RJ13, Cond.code yJ13_bitCount_95d88 cJ13_bitCount_95d88 2 (some .int), Cond.constantLong RJ13 314 (6148914691236517205), Cond.constantLong RJ13 316 (3689348814741910323)]
def wsL_cards_r2 : List Cond := [Cond.constantLong RJ13 318 (1085102592571150095)]
def wsL_cards : List Cond := .codeWith yL_cards cL_cards 4 (some .int) [(0, 9, 12, 27)] :: ((wsL_cards_r1 ++ wsL_cards_r2) ++ wsX00 ++ wsX20 ++ (vx_atS RX2 117 "java/lang/IndexOutOfBoundsException" ["java/lang/RuntimeException", "java/lang/Exception"]).filter goodWord)
def wsL_cardAt : List Cond := .codeWith yL_cardAt cL_cardAt 5 (some .int) [(0, 10, 13, 27)] :: ([.classLink RL 27 "java/lang/IndexOutOfBoundsException", .methodLink RL 29 yX2_cardAt, .instanceMethod yX2_cardAt, .selects RX2 yX2_cardAt yX2_cardAt, .initialized RX2, .code yX2_cardAt cX2_cardAt 7 (some .int), .classLink RX2 113 "java/lang/IndexOutOfBoundsException", .initialized "java/lang/IndexOutOfBoundsException", .fieldLink RX2 91 "ArchivistTricks$Archivist" "hand" "J", .methodLink RX2 110 yX2_isArchivist, .static yX2_isArchivist, .code yX2_isArchivist cX2_isArchivist 1 (some .boolean), .methodLink RX2 87 yX2_archivist, .instanceMethod yX2_archivist, .selects RX2 yX2_archivist yX2_archivist, .code yX2_archivist cX2_archivist 2 (some (.object "ArchivistTricks$Archivist")), .fieldLink RX2 16 "ArchivistTricks" "first" "LArchivistTricks$Archivist;", .fieldLink RX2 20 "ArchivistTricks" "second" "LArchivistTricks$Archivist;", .methodLink RX2 124 yX2_has, .static yX2_has, .code yX2_has cX2_has 3 (some .boolean), .methodLink RX2 95 yX2_bit, .static yX2_bit, .code yX2_bit cX2_bit 1 (some .long)] ++ wsX00 ++ wsX20 ++ (vx_atS RX2 117 "java/lang/IndexOutOfBoundsException" ["java/lang/RuntimeException", "java/lang/Exception"]).filter goodWord)
def wsL_placeOf : List Cond := .codeWith yL_placeOf cL_placeOf 4 (some .int) [(0, 9, 12, 13)] :: ([.classLink RL 13 "java/lang/IllegalArgumentException", .methodLink RL 33 yX2_placeOf, .instanceMethod yX2_placeOf, .selects RX2 yX2_placeOf yX2_placeOf, .initialized RX2, .code yX2_placeOf cX2_placeOf 2 (some .int), .classLink RX2 71 "java/lang/IllegalArgumentException", .initialized "java/lang/IllegalArgumentException", .fieldLink RX2 27 "ArchivistTricks" "trumpProvenance" "I", .fieldLink RX2 16 "ArchivistTricks" "first" "LArchivistTricks$Archivist;", .fieldLink RX2 91 "ArchivistTricks$Archivist" "hand" "J", .fieldLink RX2 20 "ArchivistTricks" "second" "LArchivistTricks$Archivist;", .fieldLink RX2 130 "ArchivistTricks$Archivist" "taken" "J", .fieldLink RX2 30 "ArchivistTricks" "ledCard" "I", .methodLink RX2 68 yX2_isCard, .static yX2_isCard, .code yX2_isCard cX2_isCard 1 (some .boolean), .methodLink RX2 124 yX2_has, .static yX2_has, .code yX2_has cX2_has 3 (some .boolean), .methodLink RX2 95 yX2_bit, .static yX2_bit, .code yX2_bit cX2_bit 1 (some .long)] ++ wsX20 ++ wsX00 ++ (vx_atS RX2 75 "java/lang/IllegalArgumentException" ["java/lang/RuntimeException", "java/lang/Exception"]).filter goodWord)
def wsL_points : List Cond := .codeWith yL_points cL_points 4 (some .int) [(0, 9, 12, 27)] :: ([.classLink RL 27 "java/lang/IndexOutOfBoundsException", .methodLink RL 36 yX2_points, .instanceMethod yX2_points, .selects RX2 yX2_points yX2_points, .initialized RX2, .code yX2_points cX2_points 2 (some .int), .classLink RX2 113 "java/lang/IndexOutOfBoundsException", .initialized "java/lang/IndexOutOfBoundsException", .fieldLink RX2 133 "ArchivistTricks$Archivist" "points" "I", .methodLink RX2 110 yX2_isArchivist, .static yX2_isArchivist, .code yX2_isArchivist cX2_isArchivist 1 (some .boolean), .methodLink RX2 87 yX2_archivist, .instanceMethod yX2_archivist, .selects RX2 yX2_archivist yX2_archivist, .code yX2_archivist cX2_archivist 2 (some (.object "ArchivistTricks$Archivist")), .fieldLink RX2 16 "ArchivistTricks" "first" "LArchivistTricks$Archivist;", .fieldLink RX2 20 "ArchivistTricks" "second" "LArchivistTricks$Archivist;"] ++ wsX00 ++ wsX20 ++ (vx_atS RX2 117 "java/lang/IndexOutOfBoundsException" ["java/lang/RuntimeException", "java/lang/Exception"]).filter goodWord)
def wsL_tricks : List Cond := .codeWith yL_tricks cL_tricks 4 (some .int) [(0, 9, 12, 27)] :: ([.classLink RL 27 "java/lang/IndexOutOfBoundsException", .methodLink RL 39 yX2_tricks, .instanceMethod yX2_tricks, .selects RX2 yX2_tricks yX2_tricks, .initialized RX2, .code yX2_tricks cX2_tricks 2 (some .int), .classLink RX2 113 "java/lang/IndexOutOfBoundsException", .initialized "java/lang/IndexOutOfBoundsException", .fieldLink RX2 136 "ArchivistTricks$Archivist" "tricks" "I", .methodLink RX2 110 yX2_isArchivist, .static yX2_isArchivist, .code yX2_isArchivist cX2_isArchivist 1 (some .boolean), .methodLink RX2 87 yX2_archivist, .instanceMethod yX2_archivist, .selects RX2 yX2_archivist yX2_archivist, .code yX2_archivist cX2_archivist 2 (some (.object "ArchivistTricks$Archivist")), .fieldLink RX2 16 "ArchivistTricks" "first" "LArchivistTricks$Archivist;", .fieldLink RX2 20 "ArchivistTricks" "second" "LArchivistTricks$Archivist;"] ++ wsX00 ++ wsX20 ++ (vx_atS RX2 117 "java/lang/IndexOutOfBoundsException" ["java/lang/RuntimeException", "java/lang/Exception"]).filter goodWord)
def wsL_gloves : List Cond := .codeWith yL_gloves cL_gloves 4 (some .int) [(0, 9, 12, 27)] :: ([.classLink RL 27 "java/lang/IndexOutOfBoundsException", .methodLink RL 42 yX2_gloves, .instanceMethod yX2_gloves, .selects RX2 yX2_gloves yX2_gloves, .initialized RX2, .code yX2_gloves cX2_gloves 2 (some .int), .classLink RX2 113 "java/lang/IndexOutOfBoundsException", .initialized "java/lang/IndexOutOfBoundsException", .fieldLink RX2 105 "ArchivistTricks$Archivist" "gloves" "I", .methodLink RX2 110 yX2_isArchivist, .static yX2_isArchivist, .code yX2_isArchivist cX2_isArchivist 1 (some .boolean), .methodLink RX2 87 yX2_archivist, .instanceMethod yX2_archivist, .selects RX2 yX2_archivist yX2_archivist, .code yX2_archivist cX2_archivist 2 (some (.object "ArchivistTricks$Archivist")), .fieldLink RX2 16 "ArchivistTricks" "first" "LArchivistTricks$Archivist;", .fieldLink RX2 20 "ArchivistTricks" "second" "LArchivistTricks$Archivist;"] ++ wsX00 ++ wsX20 ++ (vx_atS RX2 117 "java/lang/IndexOutOfBoundsException" ["java/lang/RuntimeException", "java/lang/Exception"]).filter goodWord)
def wsL_wouldTake_r1 : List Cond := [Cond.classLink RL 13 "java/lang/IllegalArgumentException", Cond.classLink RL 15 "java/lang/IllegalStateException", Cond.methodLink RL 45 yX2_wouldTake, Cond.instanceMethod yX2_wouldTake, Cond.selects RX2 yX2_wouldTake yX2_wouldTake, Cond.initialized RX2, Cond.code yX2_wouldTake cX2_wouldTake 2 (some .int), Cond.classLink RX2 71 "java/lang/IllegalArgumentException", Cond.initialized "java/lang/IllegalArgumentException", Cond.classLink RX2 82 "java/lang/IllegalStateException", Cond.initialized "java/lang/IllegalStateException", Cond.fieldLink RX2 30 "ArchivistTricks" "ledCard" "I", Cond.methodLink RX2 68 yX2_isCard, Cond.static yX2_isCard, Cond.code yX2_isCard cX2_isCard 1 (some .boolean), Cond.methodLink RX2 141 yX2_takerBy, Cond.instanceMethod yX2_takerBy, Cond.selects RX2 yX2_takerBy yX2_takerBy, Cond.code yX2_takerBy cX2_takerBy 2 (some .int), Cond.fieldLink RX2 27 "ArchivistTricks" "trumpProvenance" "I", Cond.fieldLink RX2 33 "ArchivistTricks" "mover" "I", Cond.methodLink RX2 192 yX2_beats, Cond.static yX2_beats, Cond.code yX2_beats cX2_beats 3 (some .boolean)]
def wsL_wouldTake_r2 : List Cond := [Cond.methodLink RX2 64 yX2_isMildew, Cond.static yX2_isMildew, Cond.code yX2_isMildew cX2_isMildew 1 (some .boolean)]
def wsL_wouldTake : List Cond := .codeWith yL_wouldTake cL_wouldTake 4 (some .int) [(0, 9, 12, 13), (0, 9, 15, 15)] :: ((wsL_wouldTake_r1 ++ wsL_wouldTake_r2) ++ wsX20 ++ (vx_atS RX2 75 "java/lang/IllegalArgumentException" ["java/lang/RuntimeException", "java/lang/Exception"]).filter goodWord ++ (vx_atS RX2 86 "java/lang/IllegalStateException" ["java/lang/RuntimeException", "java/lang/Exception"]).filter goodWord)
def wsL_best_r1 : List Cond := [Cond.classLink RL 15 "java/lang/IllegalStateException", Cond.methodLink RL 48 yX2_best, Cond.instanceMethod yX2_best, Cond.selects RX2 yX2_best yX2_best, Cond.initialized RX2, Cond.code yX2_best cX2_best 1 (some .int), Cond.classLink RX2 82 "java/lang/IllegalStateException", Cond.initialized "java/lang/IllegalStateException", Cond.fieldLink RX2 30 "ArchivistTricks" "ledCard" "I", Cond.fieldLink RX2 33 "ArchivistTricks" "mover" "I", Cond.methodLink RX2 144 yX2_isEnding, Cond.instanceMethod yX2_isEnding, Cond.selects RX2 yX2_isEnding yX2_isEnding, Cond.code yX2_isEnding cX2_isEnding 1 (some .boolean), Cond.fieldLink RX2 23 "ArchivistTricks" "drawn" "I", Cond.methodLink RX2 150 yX2_begunEnding, Cond.instanceMethod yX2_begunEnding, Cond.selects RX2 yX2_begunEnding yX2_begunEnding, Cond.code yX2_begunEnding cX2_begunEnding 1 (some (.object "ArchivistTricks$Ending")), Cond.fieldLink RX2 42 "ArchivistTricks" "ending" "LArchivistTricks$Ending;", Cond.classLink RX2 166 RX1, Cond.instantiable RX1 4, Cond.initialized RX1, Cond.fieldLink RX2 46 "ArchivistTricks" "endingBegun" "Z"]
def wsL_best_r2 : List Cond := [Cond.fieldLink RX2 16 "ArchivistTricks" "first" "LArchivistTricks$Archivist;", Cond.fieldLink RX2 91 "ArchivistTricks$Archivist" "hand" "J", Cond.fieldLink RX2 20 "ArchivistTricks" "second" "LArchivistTricks$Archivist;", Cond.fieldLink RX2 27 "ArchivistTricks" "trumpProvenance" "I", Cond.instanceMethod yX1_init, Cond.code yX1_init cX1_init 1 none, Cond.methodLink RX1 3 objectInit, Cond.instanceMethod objectInit, Cond.code objectInit ⟨#[0xb1]⟩ 1 none, Cond.arrayClass .int, Cond.fieldLink RX1 9 "ArchivistTricks$Ending" "margins" "[I", Cond.fieldLink RX1 15 "ArchivistTricks$Ending" "firstAll" "J", Cond.fieldLink RX1 19 "ArchivistTricks$Ending" "secondAll" "J", Cond.fieldLink RX1 22 "ArchivistTricks$Ending" "trump" "I", Cond.methodLink RX2 211 yX1_begin, Cond.instanceMethod yX1_begin, Cond.selects RX1 yX1_begin yX1_begin, Cond.code yX1_begin cX1_begin 6 none, Cond.methodLink RX1 26 yJ7_fill_53178, Cond.static yJ7_fill_53178, Cond.initialized RJ7, Cond.code yJ7_fill_53178 cJ7_fill_53178 4 none, Cond.methodLink RX2 154 yX2_moversHand, Cond.instanceMethod yX2_moversHand]
def wsL_best_r3 : List Cond := [Cond.selects RX2 yX2_moversHand yX2_moversHand, Cond.code yX2_moversHand cX2_moversHand 1 (some .long), Cond.methodLink RX2 87 yX2_archivist, Cond.instanceMethod yX2_archivist, Cond.selects RX2 yX2_archivist yX2_archivist, Cond.code yX2_archivist cX2_archivist 2 (some (.object "ArchivistTricks$Archivist")), Cond.methodLink RX2 158 yX2_othersHand, Cond.instanceMethod yX2_othersHand, Cond.selects RX2 yX2_othersHand yX2_othersHand, Cond.code yX2_othersHand cX2_othersHand 1 (some .long), Cond.methodLink RX2 161 yX2_glovesWorn, Cond.instanceMethod yX2_glovesWorn, Cond.selects RX2 yX2_glovesWorn yX2_glovesWorn, Cond.code yX2_glovesWorn cX2_glovesWorn 1 (some .int), Cond.fieldLink RX2 105 "ArchivistTricks$Archivist" "gloves" "I", Cond.methodLink RX2 165 yX1_bestMargin, Cond.instanceMethod yX1_bestMargin, Cond.selects RX1 yX1_bestMargin yX1_bestMargin, Cond.code yX1_bestMargin cX1_bestMargin 8 (some .int), Cond.methodLink RX1 32 yX1_margin, Cond.instanceMethod yX1_margin, Cond.selects RX1 yX1_margin yX1_margin, Cond.code yX1_margin cX1_margin 11 (some .int), Cond.methodLink RX1 44 Lib.Math.max.name]
def wsL_best_r4 : List Cond := [Cond.static Lib.Math.max.name, Cond.initialized "java/lang/Math", Cond.code Lib.Math.max.name Lib.Math.max.code 2 (some .int), Cond.methodLink RX1 36 yX1_mayPlay, Cond.instanceMethod yX1_mayPlay, Cond.selects RX1 yX1_mayPlay yX1_mayPlay, Cond.code yX1_mayPlay cX1_mayPlay 6 (some .boolean), Cond.static yX2_has, Cond.code yX2_has cX2_has 3 (some .boolean), Cond.methodLink RX2 95 yX2_bit, Cond.static yX2_bit, Cond.code yX2_bit cX2_bit 1 (some .long), Cond.static yX2_reasonAgainstLeading, Cond.code yX2_reasonAgainstLeading cX2_reasonAgainstLeading 3 (some .int), Cond.constantLong RX2 216 (1099511627775), Cond.methodLink RX2 64 yX2_isMildew, Cond.static yX2_isMildew, Cond.code yX2_isMildew cX2_isMildew 1 (some .boolean), Cond.static yX2_reasonAgainstReplying, Cond.code yX2_reasonAgainstReplying cX2_reasonAgainstReplying 9 (some .int), Cond.methodLink RX2 218 yX2_allOf, Cond.static yX2_allOf, Cond.code yX2_allOf cX2_allOf 1 (some .long), Cond.constantLong RX2 214 (1023)]
def wsL_best_r5 : List Cond := [Cond.methodLink RX2 124 yX2_has, Cond.methodLink RX1 40 yX1_marginBy, Cond.instanceMethod yX1_marginBy, Cond.selects RX1 yX1_marginBy yX1_marginBy, Cond.code yX1_marginBy cX1_marginBy 13 (some .int), Cond.constantLong RX1 54 (-1), Cond.static yX2_beats, Cond.code yX2_beats cX2_beats 3 (some .boolean), Cond.methodLink RX1 60 yX1_trickWorth, Cond.static yX1_trickWorth, Cond.code yX1_trickWorth cX1_trickWorth 5 (some .int), Cond.static yX2_worth, Cond.code yX2_worth cX2_worth 2 (some .int), Cond.methodLink RX1 64 yX1_rest, Cond.instanceMethod yX1_rest, Cond.selects RX1 yX1_rest yX1_rest, Cond.code yX1_rest cX1_rest 10 (some .int), Cond.methodLink RX1 68 yX1_stateOf, Cond.instanceMethod yX1_stateOf, Cond.selects RX1 yX1_stateOf yX1_stateOf, Cond.code yX1_stateOf cX1_stateOf 8 (some .int), Cond.methodLink RX1 84 yX1_keptOf, Cond.static yX1_keptOf, Cond.code yX1_keptOf cX1_keptOf 10 (some .int)]
def wsL_best : List Cond := .codeWith yL_best cL_best 3 (some .int) [(0, 8, 11, 15)] :: ((wsL_best_r1 ++ (wsL_best_r2 ++ (wsL_best_r3 ++ (wsL_best_r4 ++ wsL_best_r5)))) ++ wsX20 ++ wsX10 ++ wsX00 ++ (vx_atS RX2 86 "java/lang/IllegalStateException" ["java/lang/RuntimeException", "java/lang/Exception"]).filter goodWord)
def wsL_bestCard_r1 : List Cond := [Cond.classLink RL 15 "java/lang/IllegalStateException", Cond.methodLink RL 51 yX2_bestCard, Cond.instanceMethod yX2_bestCard, Cond.selects RX2 yX2_bestCard yX2_bestCard, Cond.initialized RX2, Cond.code yX2_bestCard cX2_bestCard 1 (some .int), Cond.classLink RX2 82 "java/lang/IllegalStateException", Cond.initialized "java/lang/IllegalStateException", Cond.fieldLink RX2 30 "ArchivistTricks" "ledCard" "I", Cond.fieldLink RX2 33 "ArchivistTricks" "mover" "I", Cond.methodLink RX2 144 yX2_isEnding, Cond.instanceMethod yX2_isEnding, Cond.selects RX2 yX2_isEnding yX2_isEnding, Cond.code yX2_isEnding cX2_isEnding 1 (some .boolean), Cond.fieldLink RX2 23 "ArchivistTricks" "drawn" "I", Cond.methodLink RX2 150 yX2_begunEnding, Cond.instanceMethod yX2_begunEnding, Cond.selects RX2 yX2_begunEnding yX2_begunEnding, Cond.code yX2_begunEnding cX2_begunEnding 1 (some (.object "ArchivistTricks$Ending")), Cond.fieldLink RX2 42 "ArchivistTricks" "ending" "LArchivistTricks$Ending;", Cond.classLink RX2 166 RX1, Cond.instantiable RX1 4, Cond.initialized RX1, Cond.fieldLink RX2 46 "ArchivistTricks" "endingBegun" "Z"]
def wsL_bestCard_r2 : List Cond := [Cond.fieldLink RX2 16 "ArchivistTricks" "first" "LArchivistTricks$Archivist;", Cond.fieldLink RX2 91 "ArchivistTricks$Archivist" "hand" "J", Cond.fieldLink RX2 20 "ArchivistTricks" "second" "LArchivistTricks$Archivist;", Cond.fieldLink RX2 27 "ArchivistTricks" "trumpProvenance" "I", Cond.instanceMethod yX1_init, Cond.code yX1_init cX1_init 1 none, Cond.methodLink RX1 3 objectInit, Cond.instanceMethod objectInit, Cond.code objectInit ⟨#[0xb1]⟩ 1 none, Cond.arrayClass .int, Cond.fieldLink RX1 9 "ArchivistTricks$Ending" "margins" "[I", Cond.fieldLink RX1 15 "ArchivistTricks$Ending" "firstAll" "J", Cond.fieldLink RX1 19 "ArchivistTricks$Ending" "secondAll" "J", Cond.fieldLink RX1 22 "ArchivistTricks$Ending" "trump" "I", Cond.methodLink RX2 211 yX1_begin, Cond.instanceMethod yX1_begin, Cond.selects RX1 yX1_begin yX1_begin, Cond.code yX1_begin cX1_begin 6 none, Cond.methodLink RX1 26 yJ7_fill_53178, Cond.static yJ7_fill_53178, Cond.initialized RJ7, Cond.code yJ7_fill_53178 cJ7_fill_53178 4 none, Cond.methodLink RX2 154 yX2_moversHand, Cond.instanceMethod yX2_moversHand]
def wsL_bestCard_r3 : List Cond := [Cond.selects RX2 yX2_moversHand yX2_moversHand, Cond.code yX2_moversHand cX2_moversHand 1 (some .long), Cond.methodLink RX2 87 yX2_archivist, Cond.instanceMethod yX2_archivist, Cond.selects RX2 yX2_archivist yX2_archivist, Cond.code yX2_archivist cX2_archivist 2 (some (.object "ArchivistTricks$Archivist")), Cond.methodLink RX2 158 yX2_othersHand, Cond.instanceMethod yX2_othersHand, Cond.selects RX2 yX2_othersHand yX2_othersHand, Cond.code yX2_othersHand cX2_othersHand 1 (some .long), Cond.methodLink RX2 161 yX2_glovesWorn, Cond.instanceMethod yX2_glovesWorn, Cond.selects RX2 yX2_glovesWorn yX2_glovesWorn, Cond.code yX2_glovesWorn cX2_glovesWorn 1 (some .int), Cond.fieldLink RX2 105 "ArchivistTricks$Archivist" "gloves" "I", Cond.methodLink RX2 171 yX1_lowestBestCard, Cond.instanceMethod yX1_lowestBestCard, Cond.selects RX1 yX1_lowestBestCard yX1_lowestBestCard, Cond.code yX1_lowestBestCard cX1_lowestBestCard 12 (some .int), Cond.methodLink RX1 36 yX1_mayPlay, Cond.instanceMethod yX1_mayPlay, Cond.selects RX1 yX1_mayPlay yX1_mayPlay, Cond.code yX1_mayPlay cX1_mayPlay 6 (some .boolean), Cond.static yX2_has]
def wsL_bestCard_r4 : List Cond := [Cond.code yX2_has cX2_has 3 (some .boolean), Cond.methodLink RX2 95 yX2_bit, Cond.static yX2_bit, Cond.code yX2_bit cX2_bit 1 (some .long), Cond.static yX2_reasonAgainstLeading, Cond.code yX2_reasonAgainstLeading cX2_reasonAgainstLeading 3 (some .int), Cond.constantLong RX2 216 (1099511627775), Cond.methodLink RX2 64 yX2_isMildew, Cond.static yX2_isMildew, Cond.code yX2_isMildew cX2_isMildew 1 (some .boolean), Cond.static yX2_reasonAgainstReplying, Cond.code yX2_reasonAgainstReplying cX2_reasonAgainstReplying 9 (some .int), Cond.methodLink RX2 218 yX2_allOf, Cond.static yX2_allOf, Cond.code yX2_allOf cX2_allOf 1 (some .long), Cond.constantLong RX2 214 (1023), Cond.methodLink RX2 124 yX2_has, Cond.methodLink RX1 40 yX1_marginBy, Cond.instanceMethod yX1_marginBy, Cond.selects RX1 yX1_marginBy yX1_marginBy, Cond.code yX1_marginBy cX1_marginBy 13 (some .int), Cond.constantLong RX1 54 (-1), Cond.methodLink RX1 32 yX1_margin, Cond.instanceMethod yX1_margin]
def wsL_bestCard_r5 : List Cond := [Cond.selects RX1 yX1_margin yX1_margin, Cond.static yX2_beats, Cond.code yX2_beats cX2_beats 3 (some .boolean), Cond.methodLink RX1 60 yX1_trickWorth, Cond.static yX1_trickWorth, Cond.code yX1_trickWorth cX1_trickWorth 5 (some .int), Cond.static yX2_worth, Cond.code yX2_worth cX2_worth 2 (some .int), Cond.methodLink RX1 64 yX1_rest, Cond.instanceMethod yX1_rest, Cond.selects RX1 yX1_rest yX1_rest, Cond.code yX1_margin cX1_margin 11 (some .int), Cond.methodLink RX1 44 Lib.Math.max.name, Cond.static Lib.Math.max.name, Cond.initialized "java/lang/Math", Cond.code Lib.Math.max.name Lib.Math.max.code 2 (some .int), Cond.code yX1_rest cX1_rest 10 (some .int), Cond.methodLink RX1 68 yX1_stateOf, Cond.instanceMethod yX1_stateOf, Cond.selects RX1 yX1_stateOf yX1_stateOf, Cond.code yX1_stateOf cX1_stateOf 8 (some .int), Cond.methodLink RX1 84 yX1_keptOf, Cond.static yX1_keptOf, Cond.code yX1_keptOf cX1_keptOf 10 (some .int)]
def wsL_bestCard : List Cond := .codeWith yL_bestCard cL_bestCard 3 (some .int) [(0, 8, 11, 15)] :: ((wsL_bestCard_r1 ++ (wsL_bestCard_r2 ++ (wsL_bestCard_r3 ++ (wsL_bestCard_r4 ++ wsL_bestCard_r5)))) ++ wsX20 ++ wsX10 ++ wsX00 ++ (vx_atS RX2 86 "java/lang/IllegalStateException" ["java/lang/RuntimeException", "java/lang/Exception"]).filter goodWord)
def wsL_law0_r1 : List Cond := [Cond.classLink RL 8 RX2, Cond.instantiable RX2 11, Cond.initialized RX2, Cond.classLink RL 55 RX3, Cond.instantiable RX3 15, Cond.initialized RX3, Cond.arrayClass .long, Cond.constantLong RL 58 (4294967295), Cond.methodLink RL 54 yX2_init, Cond.instanceMethod yX2_init, Cond.code yX2_init cX2_init 1 none, Cond.methodLink RX2 3 objectInit, Cond.instanceMethod objectInit, Cond.code objectInit ⟨#[0xb1]⟩ 1 none, Cond.arrayClass .int, Cond.fieldLink RX2 9 "ArchivistTricks" "row" "[I", Cond.classLink RX2 13 RX0, Cond.instantiable RX0 5, Cond.initialized RX0, Cond.fieldLink RX2 16 "ArchivistTricks" "first" "LArchivistTricks$Archivist;", Cond.fieldLink RX2 20 "ArchivistTricks" "second" "LArchivistTricks$Archivist;", Cond.fieldLink RX2 23 "ArchivistTricks" "drawn" "I", Cond.fieldLink RX2 27 "ArchivistTricks" "trumpProvenance" "I", Cond.fieldLink RX2 30 "ArchivistTricks" "ledCard" "I"]
def wsL_law0_r2 : List Cond := [Cond.fieldLink RX2 33 "ArchivistTricks" "mover" "I", Cond.fieldLink RX2 36 "ArchivistTricks" "firstWins" "I", Cond.fieldLink RX2 39 "ArchivistTricks" "secondWins" "I", Cond.fieldLink RX2 42 "ArchivistTricks" "ending" "LArchivistTricks$Ending;", Cond.fieldLink RX2 46 "ArchivistTricks" "endingBegun" "Z", Cond.instanceMethod yX0_init, Cond.code yX0_init cX0_init 1 none, Cond.methodLink RX0 3 objectInit, Cond.fieldLink RX0 9 "ArchivistTricks$Archivist" "hand" "J", Cond.fieldLink RX0 15 "ArchivistTricks$Archivist" "taken" "J", Cond.fieldLink RX0 18 "ArchivistTricks$Archivist" "points" "I", Cond.fieldLink RX0 22 "ArchivistTricks$Archivist" "tricks" "I", Cond.fieldLink RX0 25 "ArchivistTricks$Archivist" "gloves" "I", Cond.methodLink RL 57 yX3_init, Cond.instanceMethod yX3_init, Cond.code yX3_init cX3_init 1 none, Cond.methodLink RX3 1 objectInit, Cond.fieldLink RX3 7 "ArchivistTricksModel" "place" "[I", Cond.fieldLink RX3 13 "ArchivistTricksModel" "row" "[I", Cond.fieldLink RX3 16 "ArchivistTricksModel" "ledCard" "I", Cond.fieldLink RX3 20 "ArchivistTricksModel" "trumps" "I", Cond.fieldLink RX3 23 "ArchivistTricksModel" "points" "[I", Cond.fieldLink RX3 26 "ArchivistTricksModel" "tricks" "[I", Cond.fieldLink RX3 29 "ArchivistTricksModel" "gloves" "[I"]
def wsL_law0_r3 : List Cond := [Cond.fieldLink RX3 32 "ArchivistTricksModel" "wins" "[I", Cond.fieldLink RX3 35 "ArchivistTricksModel" "held" "[I", Cond.fieldLink RX3 38 "ArchivistTricksModel" "worthOf" "[I", Cond.methodLink RL 60 yX2_deal, Cond.instanceMethod yX2_deal, Cond.selects RX2 yX2_deal yX2_deal, Cond.code yX2_deal cX2_deal 4 (some .int), Cond.methodLink RX2 50 yX2_shuffle, Cond.instanceMethod yX2_shuffle, Cond.selects RX2 yX2_shuffle yX2_shuffle, Cond.code yX2_shuffle cX2_shuffle 8 none, Cond.constantLong RX2 174 (6364136223846793005), Cond.constantLong RX2 176 (1442695040888963407), Cond.methodLink RX2 54 yX2_putTurnedUpLast, Cond.instanceMethod yX2_putTurnedUpLast, Cond.selects RX2 yX2_putTurnedUpLast yX2_putTurnedUpLast, Cond.code yX2_putTurnedUpLast cX2_putTurnedUpLast 2 none, Cond.methodLink RX2 178 arraycopyName, Cond.native arraycopyName, Cond.static arraycopyName, Cond.initialized "java/lang/System", Cond.methodLink RX2 57 yX2_handFrom, Cond.instanceMethod yX2_handFrom, Cond.selects RX2 yX2_handFrom yX2_handFrom]
def wsL_law0_r4 : List Cond := [Cond.code yX2_handFrom cX2_handFrom 5 (some .long), Cond.methodLink RX2 95 yX2_bit, Cond.static yX2_bit, Cond.code yX2_bit cX2_bit 1 (some .long), Cond.methodLink RX2 61 yX0_begin, Cond.instanceMethod yX0_begin, Cond.selects RX0 yX0_begin yX0_begin, Cond.code yX0_begin cX0_begin 3 none, Cond.methodLink RX2 64 yX2_isMildew, Cond.static yX2_isMildew, Cond.code yX2_isMildew cX2_isMildew 1 (some .boolean), Cond.methodLink RL 64 yX3_deal, Cond.instanceMethod yX3_deal, Cond.selects RX3 yX3_deal yX3_deal, Cond.code yX3_deal cX3_deal 8 (some .int), Cond.fieldLink RX3 41 "ArchivistTricksModel" "thrown" "I", Cond.constantLong RX3 65 (6364136223846793005), Cond.constantLong RX3 67 (1442695040888963407), Cond.fieldLink RX3 62 "ArchivistTricksModel" "drawn" "I", Cond.fieldLink RX3 69 "ArchivistTricksModel" "turn" "I", Cond.fieldLink RX3 58 "ArchivistTricksModel" "isDealt" "Z", Cond.fieldLink RX3 72 "ArchivistTricksModel" "isOn" "Z", Cond.methodLink RX3 44 yX3_isMildew, Cond.static yX3_isMildew]
def wsL_law0_r5 : List Cond := [Cond.code yX3_isMildew cX3_isMildew 1 (some .boolean), Cond.methodLink RX3 48 yX3_provenance, Cond.static yX3_provenance, Cond.code yX3_provenance cX3_provenance 1 (some .int), Cond.methodLink RL 65 yL_play, Cond.static yL_play, Cond.initialized RL, Cond.codeWith yL_play cL_play 4 (some .int) [(0, 9, 12, 13), (0, 9, 15, 15)], Cond.classLink RL 13 "java/lang/IllegalArgumentException", Cond.classLink RL 15 "java/lang/IllegalStateException", Cond.methodLink RL 7 yX2_play, Cond.instanceMethod yX2_play, Cond.selects RX2 yX2_play yX2_play, Cond.code yX2_play cX2_play 3 (some .int), Cond.classLink RX2 71 "java/lang/IllegalArgumentException", Cond.initialized "java/lang/IllegalArgumentException", Cond.classLink RX2 82 "java/lang/IllegalStateException", Cond.initialized "java/lang/IllegalStateException", Cond.fieldLink RX2 91 "ArchivistTricks$Archivist" "hand" "J", Cond.constantLong RX2 98 (-1), Cond.methodLink RX2 68 yX2_isCard, Cond.static yX2_isCard, Cond.code yX2_isCard cX2_isCard 1 (some .boolean), Cond.methodLink RX2 78 yX2_reasonAgainst]
def wsL_law0_r6 : List Cond := [Cond.instanceMethod yX2_reasonAgainst, Cond.selects RX2 yX2_reasonAgainst yX2_reasonAgainst, Cond.code yX2_reasonAgainst cX2_reasonAgainst 4 (some .int), Cond.methodLink RX2 154 yX2_moversHand, Cond.instanceMethod yX2_moversHand, Cond.selects RX2 yX2_moversHand yX2_moversHand, Cond.code yX2_moversHand cX2_moversHand 1 (some .long), Cond.methodLink RX2 87 yX2_archivist, Cond.instanceMethod yX2_archivist, Cond.selects RX2 yX2_archivist yX2_archivist, Cond.code yX2_archivist cX2_archivist 2 (some (.object "ArchivistTricks$Archivist")), Cond.methodLink RX2 124 yX2_has, Cond.static yX2_has, Cond.code yX2_has cX2_has 3 (some .boolean), Cond.methodLink RX2 184 yX2_reasonAgainstLeading, Cond.static yX2_reasonAgainstLeading, Cond.code yX2_reasonAgainstLeading cX2_reasonAgainstLeading 3 (some .int), Cond.constantLong RX2 216 (1099511627775), Cond.methodLink RX2 188 yX2_reasonAgainstReplying, Cond.static yX2_reasonAgainstReplying, Cond.code yX2_reasonAgainstReplying cX2_reasonAgainstReplying 9 (some .int), Cond.methodLink RX2 218 yX2_allOf, Cond.static yX2_allOf, Cond.code yX2_allOf cX2_allOf 1 (some .long)]
def wsL_law0_r7 : List Cond := [Cond.constantLong RX2 214 (1023), Cond.methodLink RX2 100 yX2_finishTrick, Cond.instanceMethod yX2_finishTrick, Cond.selects RX2 yX2_finishTrick yX2_finishTrick, Cond.code yX2_finishTrick cX2_finishTrick 5 (some .int), Cond.fieldLink RX2 105 "ArchivistTricks$Archivist" "gloves" "I", Cond.fieldLink RX2 133 "ArchivistTricks$Archivist" "points" "I", Cond.fieldLink RX2 136 "ArchivistTricks$Archivist" "tricks" "I", Cond.fieldLink RX2 130 "ArchivistTricks$Archivist" "taken" "J", Cond.methodLink RX2 141 yX2_takerBy, Cond.instanceMethod yX2_takerBy, Cond.selects RX2 yX2_takerBy yX2_takerBy, Cond.code yX2_takerBy cX2_takerBy 2 (some .int), Cond.methodLink RX2 192 yX2_beats, Cond.static yX2_beats, Cond.code yX2_beats cX2_beats 3 (some .boolean), Cond.methodLink RX2 196 yX2_worth, Cond.static yX2_worth, Cond.code yX2_worth cX2_worth 2 (some .int), Cond.methodLink RX2 200 yX0_loseWornGloves, Cond.instanceMethod yX0_loseWornGloves, Cond.selects RX0 yX0_loseWornGloves yX0_loseWornGloves, Cond.code yX0_loseWornGloves cX0_loseWornGloves 1 none, Cond.methodLink RX2 203 yX2_drawFor]
def wsL_law0_r8 : List Cond := [Cond.instanceMethod yX2_drawFor, Cond.selects RX2 yX2_drawFor yX2_drawFor, Cond.code yX2_drawFor cX2_drawFor 2 none, Cond.methodLink RX2 207 yX2_endGame, Cond.instanceMethod yX2_endGame, Cond.selects RX2 yX2_endGame yX2_endGame, Cond.code yX2_endGame cX2_endGame 1 none, Cond.methodLink RL 70 yX3_play, Cond.instanceMethod yX3_play, Cond.selects RX3 yX3_play yX3_play, Cond.code yX3_play cX3_play 2 (some .int), Cond.methodLink RX3 100 yX3_isCard, Cond.static yX3_isCard, Cond.code yX3_isCard cX3_isCard 1 (some .boolean), Cond.methodLink RX3 103 yX3_why, Cond.instanceMethod yX3_why, Cond.selects RX3 yX3_why yX3_why, Cond.code yX3_why cX3_why 2 (some .int), Cond.methodLink RX3 79 yX3_hasDated, Cond.instanceMethod yX3_hasDated, Cond.selects RX3 yX3_hasDated yX3_hasDated, Cond.code yX3_hasDated cX3_hasDated 2 (some .boolean), Cond.methodLink RX3 75 yX3_hasOf, Cond.instanceMethod yX3_hasOf]
def wsL_law0_r9 : List Cond := [Cond.selects RX3 yX3_hasOf yX3_hasOf, Cond.code yX3_hasOf cX3_hasOf 5 (some .boolean), Cond.methodLink RX3 82 yX3_inPile, Cond.instanceMethod yX3_inPile, Cond.selects RX3 yX3_inPile yX3_inPile, Cond.code yX3_inPile cX3_inPile 1 (some .int), Cond.methodLink RX3 55 yX3_isTrump, Cond.instanceMethod yX3_isTrump, Cond.selects RX3 yX3_isTrump yX3_isTrump, Cond.code yX3_isTrump cX3_isTrump 2 (some .boolean), Cond.methodLink RX3 106 yX3_ends, Cond.instanceMethod yX3_ends, Cond.selects RX3 yX3_ends yX3_ends, Cond.code yX3_ends cX3_ends 6 (some .int), Cond.methodLink RX3 86 yX3_takes, Cond.instanceMethod yX3_takes, Cond.selects RX3 yX3_takes yX3_takes, Cond.code yX3_takes cX3_takes 3 (some .boolean), Cond.methodLink RX3 89 yX3_worthTo, Cond.static yX3_worthTo, Cond.code yX3_worthTo cX3_worthTo 2 (some .int), Cond.methodLink RX3 52 yX3_worth, Cond.static yX3_worth, Cond.code yX3_worth cX3_worth 1 (some .int)]
def wsL_law0_r10 : List Cond := [Cond.methodLink RX3 93 yX3_draws, Cond.instanceMethod yX3_draws, Cond.selects RX3 yX3_draws yX3_draws, Cond.code yX3_draws cX3_draws 2 none, Cond.methodLink RX3 97 yX3_howMany, Cond.instanceMethod yX3_howMany, Cond.selects RX3 yX3_howMany yX3_howMany, Cond.code yX3_howMany cX3_howMany 4 (some .int), Cond.methodLink RL 71 yX3_thrown, Cond.instanceMethod yX3_thrown, Cond.selects RX3 yX3_thrown yX3_thrown, Cond.code yX3_thrown cX3_thrown 1 (some .int), Cond.methodLink RL 74 yL_putOnGloves, Cond.static yL_putOnGloves, Cond.codeWith yL_putOnGloves cL_putOnGloves 3 (some .int) [(0, 8, 11, 15)], Cond.methodLink RL 17 yX2_putOnGloves, Cond.instanceMethod yX2_putOnGloves, Cond.selects RX2 yX2_putOnGloves yX2_putOnGloves, Cond.code yX2_putOnGloves cX2_putOnGloves 2 (some .int), Cond.methodLink RL 77 yX3_putOnGloves, Cond.instanceMethod yX3_putOnGloves, Cond.selects RX3 yX3_putOnGloves yX3_putOnGloves, Cond.code yX3_putOnGloves cX3_putOnGloves 1 (some .int), Cond.methodLink RL 78 yL_whyNot]
def wsL_law0_r11 : List Cond := [Cond.static yL_whyNot, Cond.codeWith yL_whyNot cL_whyNot 4 (some .int) [(0, 9, 12, 13)], Cond.methodLink RL 21 yX2_whyNot, Cond.instanceMethod yX2_whyNot, Cond.selects RX2 yX2_whyNot yX2_whyNot, Cond.code yX2_whyNot cX2_whyNot 2 (some .int), Cond.methodLink RL 80 yX3_whyNot, Cond.instanceMethod yX3_whyNot, Cond.selects RX3 yX3_whyNot yX3_whyNot, Cond.code yX3_whyNot cX3_whyNot 2 (some .int), Cond.methodLink RL 81 yX2_isPlaying, Cond.instanceMethod yX2_isPlaying, Cond.selects RX2 yX2_isPlaying yX2_isPlaying, Cond.code yX2_isPlaying cX2_isPlaying 1 (some .boolean), Cond.methodLink RL 85 yX3_isPlaying, Cond.instanceMethod yX3_isPlaying, Cond.selects RX3 yX3_isPlaying yX3_isPlaying, Cond.code yX3_isPlaying cX3_isPlaying 1 (some .boolean), Cond.methodLink RL 86 yX2_turn, Cond.instanceMethod yX2_turn, Cond.selects RX2 yX2_turn yX2_turn, Cond.code yX2_turn cX2_turn 1 (some .int), Cond.methodLink RL 89 yX3_turn, Cond.instanceMethod yX3_turn]
def wsL_law0_r12 : List Cond := [Cond.selects RX3 yX3_turn yX3_turn, Cond.code yX3_turn cX3_turn 1 (some .int), Cond.methodLink RL 90 yX2_led, Cond.instanceMethod yX2_led, Cond.selects RX2 yX2_led yX2_led, Cond.code yX2_led cX2_led 1 (some .int), Cond.methodLink RL 93 yX3_led, Cond.instanceMethod yX3_led, Cond.selects RX3 yX3_led yX3_led, Cond.code yX3_led cX3_led 1 (some .int), Cond.methodLink RL 94 yX2_trumps, Cond.instanceMethod yX2_trumps, Cond.selects RX2 yX2_trumps yX2_trumps, Cond.code yX2_trumps cX2_trumps 1 (some .int), Cond.methodLink RL 97 yX3_trumps, Cond.instanceMethod yX3_trumps, Cond.selects RX3 yX3_trumps yX3_trumps, Cond.code yX3_trumps cX3_trumps 1 (some .int), Cond.methodLink RL 98 yX2_pile, Cond.instanceMethod yX2_pile, Cond.selects RX2 yX2_pile yX2_pile, Cond.code yX2_pile cX2_pile 1 (some .int), Cond.methodLink RL 101 yX3_pile, Cond.instanceMethod yX3_pile]
def wsL_law0_r13 : List Cond := [Cond.selects RX3 yX3_pile yX3_pile, Cond.code yX3_pile cX3_pile 1 (some .int), Cond.methodLink RL 102 yL_cards, Cond.static yL_cards, Cond.codeWith yL_cards cL_cards 4 (some .int) [(0, 9, 12, 27)], Cond.classLink RL 27 "java/lang/IndexOutOfBoundsException", Cond.methodLink RL 24 yX2_cards, Cond.instanceMethod yX2_cards, Cond.selects RX2 yX2_cards yX2_cards, Cond.code yX2_cards cX2_cards 2 (some .int), Cond.classLink RX2 113 "java/lang/IndexOutOfBoundsException", Cond.initialized "java/lang/IndexOutOfBoundsException", Cond.methodLink RX2 110 yX2_isArchivist, Cond.static yX2_isArchivist, Cond.code yX2_isArchivist cX2_isArchivist 1 (some .boolean), Cond.methodLink RX2 118 yJ13_bitCount_95d88, Cond.static yJ13_bitCount_95d88, Cond.initialized RJ13, Cond.code yJ13_bitCount_95d88 cJ13_bitCount_95d88 2 (some .int), Cond.constantLong RJ13 314 (6148914691236517205), Cond.constantLong RJ13 316 (3689348814741910323), Cond.constantLong RJ13 318 (1085102592571150095), Cond.methodLink RL 104 yX3_cards, Cond.instanceMethod yX3_cards]
def wsL_law0_r14 : List Cond := [Cond.selects RX3 yX3_cards yX3_cards, Cond.code yX3_cards cX3_cards 2 (some .int), Cond.methodLink RX3 109 yX3_isArchivist, Cond.static yX3_isArchivist, Cond.code yX3_isArchivist cX3_isArchivist 1 (some .boolean), Cond.methodLink RL 105 yL_cardAt, Cond.static yL_cardAt, Cond.codeWith yL_cardAt cL_cardAt 5 (some .int) [(0, 10, 13, 27)], Cond.methodLink RL 29 yX2_cardAt, Cond.instanceMethod yX2_cardAt, Cond.selects RX2 yX2_cardAt yX2_cardAt, Cond.code yX2_cardAt cX2_cardAt 7 (some .int), Cond.methodLink RL 108 yX3_cardAt, Cond.instanceMethod yX3_cardAt, Cond.selects RX3 yX3_cardAt yX3_cardAt, Cond.code yX3_cardAt cX3_cardAt 5 (some .int), Cond.methodLink RL 109 yL_placeOf, Cond.static yL_placeOf, Cond.codeWith yL_placeOf cL_placeOf 4 (some .int) [(0, 9, 12, 13)], Cond.methodLink RL 33 yX2_placeOf, Cond.instanceMethod yX2_placeOf, Cond.selects RX2 yX2_placeOf yX2_placeOf, Cond.code yX2_placeOf cX2_placeOf 2 (some .int), Cond.methodLink RL 111 yX3_placeOf]
def wsL_law0_r15 : List Cond := [Cond.instanceMethod yX3_placeOf, Cond.selects RX3 yX3_placeOf yX3_placeOf, Cond.code yX3_placeOf cX3_placeOf 2 (some .int), Cond.methodLink RL 112 yL_points, Cond.static yL_points, Cond.codeWith yL_points cL_points 4 (some .int) [(0, 9, 12, 27)], Cond.methodLink RL 36 yX2_points, Cond.instanceMethod yX2_points, Cond.selects RX2 yX2_points yX2_points, Cond.code yX2_points cX2_points 2 (some .int), Cond.methodLink RL 114 yX3_points, Cond.instanceMethod yX3_points, Cond.selects RX3 yX3_points yX3_points, Cond.code yX3_points cX3_points 2 (some .int), Cond.methodLink RX3 112 yX3_of, Cond.instanceMethod yX3_of, Cond.selects RX3 yX3_of yX3_of, Cond.code yX3_of cX3_of 3 (some .int), Cond.methodLink RL 115 yL_tricks, Cond.static yL_tricks, Cond.codeWith yL_tricks cL_tricks 4 (some .int) [(0, 9, 12, 27)], Cond.methodLink RL 39 yX2_tricks, Cond.instanceMethod yX2_tricks, Cond.selects RX2 yX2_tricks yX2_tricks]
def wsL_law0_r16 : List Cond := [Cond.code yX2_tricks cX2_tricks 2 (some .int), Cond.methodLink RL 117 yX3_tricks, Cond.instanceMethod yX3_tricks, Cond.selects RX3 yX3_tricks yX3_tricks, Cond.code yX3_tricks cX3_tricks 2 (some .int), Cond.methodLink RL 118 yL_gloves, Cond.static yL_gloves, Cond.codeWith yL_gloves cL_gloves 4 (some .int) [(0, 9, 12, 27)], Cond.methodLink RL 42 yX2_gloves, Cond.instanceMethod yX2_gloves, Cond.selects RX2 yX2_gloves yX2_gloves, Cond.code yX2_gloves cX2_gloves 2 (some .int), Cond.methodLink RL 120 yX3_gloves, Cond.instanceMethod yX3_gloves, Cond.selects RX3 yX3_gloves yX3_gloves, Cond.code yX3_gloves cX3_gloves 2 (some .int), Cond.methodLink RL 121 yX2_choices, Cond.instanceMethod yX2_choices, Cond.selects RX2 yX2_choices yX2_choices, Cond.code yX2_choices cX2_choices 3 (some .int), Cond.methodLink RL 124 yX3_choices, Cond.instanceMethod yX3_choices, Cond.selects RX3 yX3_choices yX3_choices, Cond.code yX3_choices cX3_choices 3 (some .int)]
def wsL_law0_r17 : List Cond := [Cond.methodLink RL 125 yL_wouldTake, Cond.static yL_wouldTake, Cond.codeWith yL_wouldTake cL_wouldTake 4 (some .int) [(0, 9, 12, 13), (0, 9, 15, 15)], Cond.methodLink RL 45 yX2_wouldTake, Cond.instanceMethod yX2_wouldTake, Cond.selects RX2 yX2_wouldTake yX2_wouldTake, Cond.code yX2_wouldTake cX2_wouldTake 2 (some .int), Cond.methodLink RL 127 yX3_wouldTake, Cond.instanceMethod yX3_wouldTake, Cond.selects RX3 yX3_wouldTake yX3_wouldTake, Cond.code yX3_wouldTake cX3_wouldTake 2 (some .int), Cond.methodLink RL 128 yL_best, Cond.static yL_best, Cond.codeWith yL_best cL_best 3 (some .int) [(0, 8, 11, 15)], Cond.methodLink RL 48 yX2_best, Cond.instanceMethod yX2_best, Cond.selects RX2 yX2_best yX2_best, Cond.code yX2_best cX2_best 1 (some .int), Cond.methodLink RX2 144 yX2_isEnding, Cond.instanceMethod yX2_isEnding, Cond.selects RX2 yX2_isEnding yX2_isEnding, Cond.code yX2_isEnding cX2_isEnding 1 (some .boolean), Cond.methodLink RX2 150 yX2_begunEnding, Cond.instanceMethod yX2_begunEnding]
def wsL_law0_r18 : List Cond := [Cond.selects RX2 yX2_begunEnding yX2_begunEnding, Cond.code yX2_begunEnding cX2_begunEnding 1 (some (.object "ArchivistTricks$Ending")), Cond.classLink RX2 166 RX1, Cond.instantiable RX1 4, Cond.initialized RX1, Cond.instanceMethod yX1_init, Cond.code yX1_init cX1_init 1 none, Cond.methodLink RX1 3 objectInit, Cond.fieldLink RX1 9 "ArchivistTricks$Ending" "margins" "[I", Cond.fieldLink RX1 15 "ArchivistTricks$Ending" "firstAll" "J", Cond.fieldLink RX1 19 "ArchivistTricks$Ending" "secondAll" "J", Cond.fieldLink RX1 22 "ArchivistTricks$Ending" "trump" "I", Cond.methodLink RX2 211 yX1_begin, Cond.instanceMethod yX1_begin, Cond.selects RX1 yX1_begin yX1_begin, Cond.code yX1_begin cX1_begin 6 none, Cond.methodLink RX1 26 yJ7_fill_53178, Cond.static yJ7_fill_53178, Cond.initialized RJ7, Cond.code yJ7_fill_53178 cJ7_fill_53178 4 none, Cond.methodLink RX2 158 yX2_othersHand, Cond.instanceMethod yX2_othersHand, Cond.selects RX2 yX2_othersHand yX2_othersHand, Cond.code yX2_othersHand cX2_othersHand 1 (some .long)]
def wsL_law0_r19 : List Cond := [Cond.methodLink RX2 161 yX2_glovesWorn, Cond.instanceMethod yX2_glovesWorn, Cond.selects RX2 yX2_glovesWorn yX2_glovesWorn, Cond.code yX2_glovesWorn cX2_glovesWorn 1 (some .int), Cond.methodLink RX2 165 yX1_bestMargin, Cond.instanceMethod yX1_bestMargin, Cond.selects RX1 yX1_bestMargin yX1_bestMargin, Cond.code yX1_bestMargin cX1_bestMargin 8 (some .int), Cond.methodLink RX1 32 yX1_margin, Cond.instanceMethod yX1_margin, Cond.selects RX1 yX1_margin yX1_margin, Cond.code yX1_margin cX1_margin 11 (some .int), Cond.methodLink RX1 44 Lib.Math.max.name, Cond.static Lib.Math.max.name, Cond.initialized "java/lang/Math", Cond.code Lib.Math.max.name Lib.Math.max.code 2 (some .int), Cond.methodLink RX1 36 yX1_mayPlay, Cond.instanceMethod yX1_mayPlay, Cond.selects RX1 yX1_mayPlay yX1_mayPlay, Cond.code yX1_mayPlay cX1_mayPlay 6 (some .boolean), Cond.methodLink RX1 40 yX1_marginBy, Cond.instanceMethod yX1_marginBy, Cond.selects RX1 yX1_marginBy yX1_marginBy, Cond.code yX1_marginBy cX1_marginBy 13 (some .int)]
def wsL_law0_r20 : List Cond := [Cond.constantLong RX1 54 (-1), Cond.methodLink RX1 60 yX1_trickWorth, Cond.static yX1_trickWorth, Cond.code yX1_trickWorth cX1_trickWorth 5 (some .int), Cond.methodLink RX1 64 yX1_rest, Cond.instanceMethod yX1_rest, Cond.selects RX1 yX1_rest yX1_rest, Cond.code yX1_rest cX1_rest 10 (some .int), Cond.methodLink RX1 68 yX1_stateOf, Cond.instanceMethod yX1_stateOf, Cond.selects RX1 yX1_stateOf yX1_stateOf, Cond.code yX1_stateOf cX1_stateOf 8 (some .int), Cond.methodLink RX1 84 yX1_keptOf, Cond.static yX1_keptOf, Cond.code yX1_keptOf cX1_keptOf 10 (some .int), Cond.methodLink RL 130 yX3_best, Cond.instanceMethod yX3_best, Cond.selects RX3 yX3_best yX3_best, Cond.code yX3_best cX3_best 2 (some .int), Cond.methodLink RX3 158 yX3_bestPlace, Cond.instanceMethod yX3_bestPlace, Cond.selects RX3 yX3_bestPlace yX3_bestPlace, Cond.code yX3_bestPlace cX3_bestPlace 6 (some .int), Cond.methodLink RX3 152 yX3_laysTable]
def wsL_law0_r21 : List Cond := [Cond.instanceMethod yX3_laysTable, Cond.selects RX3 yX3_laysTable yX3_laysTable, Cond.code yX3_laysTable cX3_laysTable 5 none, Cond.methodLink RX3 139 yX3_laysHands, Cond.instanceMethod yX3_laysHands, Cond.selects RX3 yX3_laysHands yX3_laysHands, Cond.code yX3_laysHands cX3_laysHands 4 none, Cond.methodLink RX3 142 yX3_many, Cond.static yX3_many, Cond.code yX3_many cX3_many 3 (some .int), Cond.methodLink RX3 145 yX3_mostOf, Cond.instanceMethod yX3_mostOf, Cond.selects RX3 yX3_mostOf yX3_mostOf, Cond.code yX3_mostOf cX3_mostOf 8 (some .int), Cond.methodLink RX3 132 yX3_canLead, Cond.instanceMethod yX3_canLead, Cond.selects RX3 yX3_canLead yX3_canLead, Cond.code yX3_canLead cX3_canLead 4 (some .boolean), Cond.methodLink RX3 116 yX3_isAmong, Cond.instanceMethod yX3_isAmong, Cond.selects RX3 yX3_isAmong yX3_isAmong, Cond.code yX3_isAmong cX3_isAmong 7 (some .boolean), Cond.methodLink RX3 135 yX3_leastBy, Cond.instanceMethod yX3_leastBy]
def wsL_law0_r22 : List Cond := [Cond.selects RX3 yX3_leastBy yX3_leastBy, Cond.code yX3_leastBy cX3_leastBy 11 (some .int), Cond.methodLink RX3 124 yX3_canFollow, Cond.instanceMethod yX3_canFollow, Cond.selects RX3 yX3_canFollow yX3_canFollow, Cond.code yX3_canFollow cX3_canFollow 5 (some .boolean), Cond.methodLink RX3 128 yX3_behind, Cond.instanceMethod yX3_behind, Cond.selects RX3 yX3_behind yX3_behind, Cond.code yX3_behind cX3_behind 11 (some .int), Cond.methodLink RX3 120 yX3_tableAt, Cond.instanceMethod yX3_tableAt, Cond.selects RX3 yX3_tableAt yX3_tableAt, Cond.code yX3_tableAt cX3_tableAt 4 (some .int), Cond.methodLink RX3 155 yX3_byCard, Cond.instanceMethod yX3_byCard, Cond.selects RX3 yX3_byCard yX3_byCard, Cond.code yX3_byCard cX3_byCard 4 (some .int), Cond.methodLink RX3 149 yX3_wornNow, Cond.instanceMethod yX3_wornNow, Cond.selects RX3 yX3_wornNow yX3_wornNow, Cond.code yX3_wornNow cX3_wornNow 1 (some .int), Cond.methodLink RL 131 yL_bestCard, Cond.static yL_bestCard]
def wsL_law0_r23 : List Cond := [Cond.codeWith yL_bestCard cL_bestCard 3 (some .int) [(0, 8, 11, 15)], Cond.methodLink RL 51 yX2_bestCard, Cond.instanceMethod yX2_bestCard, Cond.selects RX2 yX2_bestCard yX2_bestCard, Cond.code yX2_bestCard cX2_bestCard 1 (some .int), Cond.methodLink RX2 171 yX1_lowestBestCard, Cond.instanceMethod yX1_lowestBestCard, Cond.selects RX1 yX1_lowestBestCard yX1_lowestBestCard, Cond.code yX1_lowestBestCard cX1_lowestBestCard 12 (some .int), Cond.methodLink RL 133 yX3_bestCard, Cond.instanceMethod yX3_bestCard, Cond.selects RX3 yX3_bestCard yX3_bestCard, Cond.code yX3_bestCard cX3_bestCard 2 (some .int), Cond.methodLink RL 134 yX2_wonByFirst, Cond.instanceMethod yX2_wonByFirst, Cond.selects RX2 yX2_wonByFirst yX2_wonByFirst, Cond.code yX2_wonByFirst cX2_wonByFirst 1 (some .int), Cond.methodLink RL 137 yX3_wonByFirst, Cond.instanceMethod yX3_wonByFirst, Cond.selects RX3 yX3_wonByFirst yX3_wonByFirst, Cond.code yX3_wonByFirst cX3_wonByFirst 1 (some .int), Cond.methodLink RL 138 yX2_wonBySecond, Cond.instanceMethod yX2_wonBySecond, Cond.selects RX2 yX2_wonBySecond yX2_wonBySecond]
def wsL_law0_r24 : List Cond := [Cond.code yX2_wonBySecond cX2_wonBySecond 1 (some .int), Cond.methodLink RL 141 yX3_wonBySecond, Cond.instanceMethod yX3_wonBySecond, Cond.selects RX3 yX3_wonBySecond yX3_wonBySecond, Cond.code yX3_wonBySecond cX3_wonBySecond 1 (some .int)]
def wsL_law0 : List Cond := (wsL_law0_r1 ++ (wsL_law0_r2 ++ (wsL_law0_r3 ++ (wsL_law0_r4 ++ (wsL_law0_r5 ++ (wsL_law0_r6 ++ (wsL_law0_r7 ++ (wsL_law0_r8 ++ (wsL_law0_r9 ++ (wsL_law0_r10 ++ (wsL_law0_r11 ++ (wsL_law0_r12 ++ (wsL_law0_r13 ++ (wsL_law0_r14 ++ (wsL_law0_r15 ++ (wsL_law0_r16 ++ (wsL_law0_r17 ++ (wsL_law0_r18 ++ (wsL_law0_r19 ++ (wsL_law0_r20 ++ (wsL_law0_r21 ++ (wsL_law0_r22 ++ (wsL_law0_r23 ++ wsL_law0_r24))))))))))))))))))))))) ++ wsX20 ++ wsX30 ++ wsX00 ++ wsX10 ++ ([] : List Cond)
def wsL_law : List Cond := wsL_law0 ++ (vx_atS RX2 75 "java/lang/IllegalArgumentException" ["java/lang/RuntimeException", "java/lang/Exception"]).filter goodWord ++ (vx_atS RX2 86 "java/lang/IllegalStateException" ["java/lang/RuntimeException", "java/lang/Exception"]).filter goodWord ++ (vx_atS RX2 117 "java/lang/IndexOutOfBoundsException" ["java/lang/RuntimeException", "java/lang/Exception"]).filter goodWord
abbrev vwCl : List vw_C := [(RX0, TX0, 5), (RX1, TX1, 4), (RX2, TX2, 11), (RX3, TX3, 15)]
end
section
theorem dX0_init_0 : decode cX0_init 0 = .ok (.aload_n 0, 1) := by decide +kernel
theorem dX0_init_1 : decode cX0_init 1 = .ok (.invokespecial 3, 3) := by decide +kernel
theorem dX0_init_4 : decode cX0_init 4 = .ok (.aload_n 0, 1) := by decide +kernel
theorem dX0_init_5 : decode cX0_init 5 = .ok (.lconst 0, 1) := by decide +kernel
theorem dX0_init_6 : decode cX0_init 6 = .ok (.putfield 9, 3) := by decide +kernel
theorem dX0_init_9 : decode cX0_init 9 = .ok (.aload_n 0, 1) := by decide +kernel
theorem dX0_init_10 : decode cX0_init 10 = .ok (.lconst 0, 1) := by decide +kernel
theorem dX0_init_11 : decode cX0_init 11 = .ok (.putfield 15, 3) := by decide +kernel
theorem dX0_init_14 : decode cX0_init 14 = .ok (.aload_n 0, 1) := by decide +kernel
theorem dX0_init_15 : decode cX0_init 15 = .ok (.iconst 0, 1) := by decide +kernel
theorem dX0_init_16 : decode cX0_init 16 = .ok (.putfield 18, 3) := by decide +kernel
theorem dX0_init_19 : decode cX0_init 19 = .ok (.aload_n 0, 1) := by decide +kernel
theorem dX0_init_20 : decode cX0_init 20 = .ok (.iconst 0, 1) := by decide +kernel
theorem dX0_init_21 : decode cX0_init 21 = .ok (.putfield 22, 3) := by decide +kernel
theorem dX0_init_24 : decode cX0_init 24 = .ok (.aload_n 0, 1) := by decide +kernel
theorem dX0_init_25 : decode cX0_init 25 = .ok (.iconst 0, 1) := by decide +kernel
theorem dX0_init_26 : decode cX0_init 26 = .ok (.putfield 25, 3) := by decide +kernel
theorem dX0_init_29 : decode cX0_init 29 = .ok (.return_, 1) := by decide +kernel
theorem dX0_begin_0 : decode cX0_begin 0 = .ok (.aload_n 0, 1) := by decide +kernel
theorem dX0_begin_1 : decode cX0_begin 1 = .ok (.lload_n 1, 1) := by decide +kernel
theorem dX0_begin_2 : decode cX0_begin 2 = .ok (.putfield 9, 3) := by decide +kernel
theorem dX0_begin_5 : decode cX0_begin 5 = .ok (.aload_n 0, 1) := by decide +kernel
theorem dX0_begin_6 : decode cX0_begin 6 = .ok (.lconst 0, 1) := by decide +kernel
theorem dX0_begin_7 : decode cX0_begin 7 = .ok (.putfield 15, 3) := by decide +kernel
theorem dX0_begin_10 : decode cX0_begin 10 = .ok (.aload_n 0, 1) := by decide +kernel
theorem dX0_begin_11 : decode cX0_begin 11 = .ok (.iconst 0, 1) := by decide +kernel
theorem dX0_begin_12 : decode cX0_begin 12 = .ok (.putfield 18, 3) := by decide +kernel
theorem dX0_begin_15 : decode cX0_begin 15 = .ok (.aload_n 0, 1) := by decide +kernel
theorem dX0_begin_16 : decode cX0_begin 16 = .ok (.iconst 0, 1) := by decide +kernel
theorem dX0_begin_17 : decode cX0_begin 17 = .ok (.putfield 22, 3) := by decide +kernel
theorem dX0_begin_20 : decode cX0_begin 20 = .ok (.aload_n 0, 1) := by decide +kernel
theorem dX0_begin_21 : decode cX0_begin 21 = .ok (.iconst 0, 1) := by decide +kernel
theorem dX0_begin_22 : decode cX0_begin 22 = .ok (.putfield 25, 3) := by decide +kernel
theorem dX0_begin_25 : decode cX0_begin 25 = .ok (.return_, 1) := by decide +kernel
theorem dX0_loseWornGloves_0 : decode cX0_loseWornGloves 0 = .ok (.aload_n 0, 1) := by decide +kernel
theorem dX0_loseWornGloves_1 : decode cX0_loseWornGloves 1 = .ok (.getfield 25, 3) := by decide +kernel
theorem dX0_loseWornGloves_4 : decode cX0_loseWornGloves 4 = .ok (.iconst 1, 1) := by decide +kernel
theorem dX0_loseWornGloves_5 : decode cX0_loseWornGloves 5 = .ok (.if_icmp .ne 8, 3) := by decide +kernel
theorem dX0_loseWornGloves_8 : decode cX0_loseWornGloves 8 = .ok (.aload_n 0, 1) := by decide +kernel
theorem dX0_loseWornGloves_9 : decode cX0_loseWornGloves 9 = .ok (.iconst 2, 1) := by decide +kernel
theorem dX0_loseWornGloves_10 : decode cX0_loseWornGloves 10 = .ok (.putfield 25, 3) := by decide +kernel
theorem dX0_loseWornGloves_13 : decode cX0_loseWornGloves 13 = .ok (.return_, 1) := by decide +kernel
theorem dX1_init_0 : decode cX1_init 0 = .ok (.aload_n 0, 1) := by decide +kernel
theorem dX1_init_1 : decode cX1_init 1 = .ok (.invokespecial 3, 3) := by decide +kernel
theorem dX1_init_4 : decode cX1_init 4 = .ok (.aload_n 0, 1) := by decide +kernel
theorem dX1_init_5 : decode cX1_init 5 = .ok (.sipush 8192, 3) := by decide +kernel
theorem dX1_init_8 : decode cX1_init 8 = .ok (.newarray .int, 2) := by decide +kernel
theorem dX1_init_10 : decode cX1_init 10 = .ok (.putfield 9, 3) := by decide +kernel
theorem dX1_init_13 : decode cX1_init 13 = .ok (.aload_n 0, 1) := by decide +kernel
theorem dX1_init_14 : decode cX1_init 14 = .ok (.lconst 0, 1) := by decide +kernel
theorem dX1_init_15 : decode cX1_init 15 = .ok (.putfield 15, 3) := by decide +kernel
theorem dX1_init_18 : decode cX1_init 18 = .ok (.aload_n 0, 1) := by decide +kernel
theorem dX1_init_19 : decode cX1_init 19 = .ok (.lconst 0, 1) := by decide +kernel
theorem dX1_init_20 : decode cX1_init 20 = .ok (.putfield 19, 3) := by decide +kernel
theorem dX1_init_23 : decode cX1_init 23 = .ok (.aload_n 0, 1) := by decide +kernel
theorem dX1_init_24 : decode cX1_init 24 = .ok (.iconst 0, 1) := by decide +kernel
theorem dX1_init_25 : decode cX1_init 25 = .ok (.putfield 22, 3) := by decide +kernel
theorem dX1_init_28 : decode cX1_init 28 = .ok (.return_, 1) := by decide +kernel
set_option maxRecDepth 20000 in
theorem ggX1_begin_J7_fill_53178 : GoodIn wsX1_begin wsJ7_fill_53178 := goodIn_r _ [8] (by decide +kernel) (by decide +kernel)
set_option maxRecDepth 20000 in
theorem gX1_begin_J7_fill_53178 : GoodIn wsX1_begin (va_wsS RX1 26 yJ7_fill_53178 wsJ7_fill_53178) := goodIn_app (goodIn_of _ (by decide +kernel)) ggX1_begin_J7_fill_53178
theorem dX1_begin_0 : decode cX1_begin 0 = .ok (.aload_n 0, 1) := by decide +kernel
theorem dX1_begin_1 : decode cX1_begin 1 = .ok (.lload_n 1, 1) := by decide +kernel
theorem dX1_begin_2 : decode cX1_begin 2 = .ok (.putfield 15, 3) := by decide +kernel
theorem dX1_begin_5 : decode cX1_begin 5 = .ok (.aload_n 0, 1) := by decide +kernel
theorem dX1_begin_6 : decode cX1_begin 6 = .ok (.lload_n 3, 1) := by decide +kernel
theorem dX1_begin_7 : decode cX1_begin 7 = .ok (.putfield 19, 3) := by decide +kernel
theorem dX1_begin_10 : decode cX1_begin 10 = .ok (.aload_n 0, 1) := by decide +kernel
theorem dX1_begin_11 : decode cX1_begin 11 = .ok (.iload 5, 2) := by decide +kernel
theorem dX1_begin_13 : decode cX1_begin 13 = .ok (.putfield 22, 3) := by decide +kernel
theorem dX1_begin_16 : decode cX1_begin 16 = .ok (.aload_n 0, 1) := by decide +kernel
theorem dX1_begin_17 : decode cX1_begin 17 = .ok (.getfield 9, 3) := by decide +kernel
theorem dX1_begin_20 : decode cX1_begin 20 = .ok (.sipush 1000, 3) := by decide +kernel
theorem dX1_begin_23 : decode cX1_begin 23 = .ok (.invokestatic 26, 3) := by decide +kernel
theorem dX1_begin_26 : decode cX1_begin 26 = .ok (.return_, 1) := by decide +kernel
set_option maxRecDepth 20000 in
theorem ggX1_bestMargin_X1_margin : GoodIn wsX1_bestMargin wsX1_margin := goodIn_r _ [5, 6, 7, 8, 9, 10, 11, 12, 4, 13, 14, 15, 16, 17, 18, 19, 20, 21, 22, 23, 24, 25, 26, 27, 28, 29, 30, 31, 32, 33, 34, 35, 36, 37, 38, 1, 2, 3, 39, 40, 41, 42, 43, 44, 45, 46, 47, 48, 49, 50, 51, 52, 53, 54, 55, 56, 57, 58, 59, 60, 61, 62, 63] (by decide +kernel) (by decide +kernel)
set_option maxRecDepth 20000 in
theorem gX1_bestMargin_X1_margin : GoodIn wsX1_bestMargin (wsV RX1 32 RX1 yX1_margin wsX1_margin) := goodIn_app (goodIn_of _ (by decide +kernel)) ggX1_bestMargin_X1_margin
theorem dX1_bestMargin_0 : decode cX1_bestMargin 0 = .ok (.aload_n 0, 1) := by decide +kernel
theorem dX1_bestMargin_1 : decode cX1_bestMargin 1 = .ok (.lload_n 1, 1) := by decide +kernel
theorem dX1_bestMargin_2 : decode cX1_bestMargin 2 = .ok (.lload_n 3, 1) := by decide +kernel
theorem dX1_bestMargin_3 : decode cX1_bestMargin 3 = .ok (.iload 5, 2) := by decide +kernel
theorem dX1_bestMargin_5 : decode cX1_bestMargin 5 = .ok (.iload 6, 2) := by decide +kernel
theorem dX1_bestMargin_7 : decode cX1_bestMargin 7 = .ok (.iload 7, 2) := by decide +kernel
theorem dX1_bestMargin_9 : decode cX1_bestMargin 9 = .ok (.bipush 12, 2) := by decide +kernel
theorem dX1_bestMargin_11 : decode cX1_bestMargin 11 = .ok (.invokevirtual 32, 3) := by decide +kernel
theorem dX1_bestMargin_14 : decode cX1_bestMargin 14 = .ok (.ireturn, 1) := by decide +kernel
set_option maxRecDepth 20000 in
theorem ggX1_lowestBestCard_X1_mayPlay : GoodIn wsX1_lowestBestCard wsX1_mayPlay := goodIn_r _ [5, 6, 7, 8, 9, 10, 11, 12, 13, 14, 15, 16, 17, 18, 19, 20, 21, 22, 23, 24, 25, 60, 61, 62, 63] (by decide +kernel) (by decide +kernel)
set_option maxRecDepth 20000 in
theorem gX1_lowestBestCard_X1_mayPlay : GoodIn wsX1_lowestBestCard (wsV RX1 36 RX1 yX1_mayPlay wsX1_mayPlay) := goodIn_app (goodIn_of _ (by decide +kernel)) ggX1_lowestBestCard_X1_mayPlay
set_option maxRecDepth 20000 in
theorem ggX1_lowestBestCard_X1_marginBy : GoodIn wsX1_lowestBestCard wsX1_marginBy := goodIn_r _ [29, 30, 6, 11, 8, 12, 31, 32, 33, 4, 34, 35, 16, 17, 18, 36, 37, 38, 39, 40, 41, 42, 43, 44, 45, 46, 47, 48, 1, 2, 3, 5, 7, 9, 10, 13, 14, 15, 19, 20, 21, 22, 23, 24, 25, 26, 27, 28, 49, 50, 51, 52, 53, 54, 55, 56, 57, 58, 59, 60, 61, 62, 63] (by decide +kernel) (by decide +kernel)
set_option maxRecDepth 20000 in
theorem gX1_lowestBestCard_X1_marginBy : GoodIn wsX1_lowestBestCard (wsV RX1 40 RX1 yX1_marginBy wsX1_marginBy) := goodIn_app (goodIn_of _ (by decide +kernel)) ggX1_lowestBestCard_X1_marginBy
theorem dX1_lowestBestCard_0 : decode cX1_lowestBestCard 0 = .ok (.sipush (-1000), 3) := by decide +kernel
theorem dX1_lowestBestCard_3 : decode cX1_lowestBestCard 3 = .ok (.istore 8, 2) := by decide +kernel
theorem dX1_lowestBestCard_5 : decode cX1_lowestBestCard 5 = .ok (.iconst (-1), 1) := by decide +kernel
theorem dX1_lowestBestCard_6 : decode cX1_lowestBestCard 6 = .ok (.istore 9, 2) := by decide +kernel
theorem dX1_lowestBestCard_8 : decode cX1_lowestBestCard 8 = .ok (.iconst 0, 1) := by decide +kernel
theorem dX1_lowestBestCard_9 : decode cX1_lowestBestCard 9 = .ok (.istore 10, 2) := by decide +kernel
theorem dX1_lowestBestCard_11 : decode cX1_lowestBestCard 11 = .ok (.iload 10, 2) := by decide +kernel
theorem dX1_lowestBestCard_13 : decode cX1_lowestBestCard 13 = .ok (.bipush 42, 2) := by decide +kernel
theorem dX1_lowestBestCard_15 : decode cX1_lowestBestCard 15 = .ok (.if_icmp .ge 54, 3) := by decide +kernel
theorem dX1_lowestBestCard_18 : decode cX1_lowestBestCard 18 = .ok (.aload_n 0, 1) := by decide +kernel
theorem dX1_lowestBestCard_19 : decode cX1_lowestBestCard 19 = .ok (.lload_n 1, 1) := by decide +kernel
theorem dX1_lowestBestCard_20 : decode cX1_lowestBestCard 20 = .ok (.iload 10, 2) := by decide +kernel
theorem dX1_lowestBestCard_22 : decode cX1_lowestBestCard 22 = .ok (.iload 5, 2) := by decide +kernel
theorem dX1_lowestBestCard_24 : decode cX1_lowestBestCard 24 = .ok (.invokevirtual 36, 3) := by decide +kernel
theorem dX1_lowestBestCard_27 : decode cX1_lowestBestCard 27 = .ok (.ifCond .eq 36, 3) := by decide +kernel
theorem dX1_lowestBestCard_30 : decode cX1_lowestBestCard 30 = .ok (.aload_n 0, 1) := by decide +kernel
theorem dX1_lowestBestCard_31 : decode cX1_lowestBestCard 31 = .ok (.iload 10, 2) := by decide +kernel
theorem dX1_lowestBestCard_33 : decode cX1_lowestBestCard 33 = .ok (.lload_n 1, 1) := by decide +kernel
theorem dX1_lowestBestCard_34 : decode cX1_lowestBestCard 34 = .ok (.lload_n 3, 1) := by decide +kernel
theorem dX1_lowestBestCard_35 : decode cX1_lowestBestCard 35 = .ok (.iload 5, 2) := by decide +kernel
theorem dX1_lowestBestCard_37 : decode cX1_lowestBestCard 37 = .ok (.iload 6, 2) := by decide +kernel
theorem dX1_lowestBestCard_39 : decode cX1_lowestBestCard 39 = .ok (.iload 7, 2) := by decide +kernel
theorem dX1_lowestBestCard_41 : decode cX1_lowestBestCard 41 = .ok (.bipush 12, 2) := by decide +kernel
theorem dX1_lowestBestCard_43 : decode cX1_lowestBestCard 43 = .ok (.invokevirtual 40, 3) := by decide +kernel
theorem dX1_lowestBestCard_46 : decode cX1_lowestBestCard 46 = .ok (.istore 11, 2) := by decide +kernel
theorem dX1_lowestBestCard_48 : decode cX1_lowestBestCard 48 = .ok (.iload 11, 2) := by decide +kernel
theorem dX1_lowestBestCard_50 : decode cX1_lowestBestCard 50 = .ok (.iload 8, 2) := by decide +kernel
theorem dX1_lowestBestCard_52 : decode cX1_lowestBestCard 52 = .ok (.if_icmp .le 11, 3) := by decide +kernel
theorem dX1_lowestBestCard_55 : decode cX1_lowestBestCard 55 = .ok (.iload 11, 2) := by decide +kernel
theorem dX1_lowestBestCard_57 : decode cX1_lowestBestCard 57 = .ok (.istore 8, 2) := by decide +kernel
theorem dX1_lowestBestCard_59 : decode cX1_lowestBestCard 59 = .ok (.iload 10, 2) := by decide +kernel
theorem dX1_lowestBestCard_61 : decode cX1_lowestBestCard 61 = .ok (.istore 9, 2) := by decide +kernel
theorem dX1_lowestBestCard_63 : decode cX1_lowestBestCard 63 = .ok (.iinc 10 1, 3) := by decide +kernel
theorem dX1_lowestBestCard_66 : decode cX1_lowestBestCard 66 = .ok (.goto (-55), 3) := by decide +kernel
theorem dX1_lowestBestCard_69 : decode cX1_lowestBestCard 69 = .ok (.iload 9, 2) := by decide +kernel
theorem dX1_lowestBestCard_71 : decode cX1_lowestBestCard 71 = .ok (.ireturn, 1) := by decide +kernel
set_option maxRecDepth 20000 in
theorem ggX1_margin_X1_mayPlay : GoodIn wsX1_margin wsX1_mayPlay := goodIn_r _ [9, 10, 11, 12, 13, 14, 15, 16, 17, 18, 19, 20, 21, 22, 23, 24, 25, 26, 27, 28, 29, 59, 60, 61, 62] (by decide +kernel) (by decide +kernel)
set_option maxRecDepth 20000 in
theorem gX1_margin_X1_mayPlay : GoodIn wsX1_margin (wsV RX1 36 RX1 yX1_mayPlay wsX1_mayPlay) := goodIn_app (goodIn_of _ (by decide +kernel)) ggX1_margin_X1_mayPlay
set_option maxRecDepth 20000 in
theorem ggX1_margin_X1_marginBy : GoodIn wsX1_margin wsX1_marginBy := goodIn_r _ [33, 34, 10, 15, 12, 16, 35, 36, 37, 8, 38, 39, 20, 21, 22, 40, 41, 42, 43, 44, 45, 46, 47, 0, 1, 2, 3, 4, 5, 6, 7, 9, 11, 13, 14, 17, 18, 19, 23, 24, 25, 26, 27, 28, 29, 30, 31, 32, 48, 49, 50, 51, 52, 53, 54, 55, 56, 57, 58, 59, 60, 61, 62] (by decide +kernel) (by decide +kernel)
set_option maxRecDepth 20000 in
theorem gX1_margin_X1_marginBy : GoodIn wsX1_margin (wsV RX1 40 RX1 yX1_marginBy wsX1_marginBy) := goodIn_app (goodIn_of _ (by decide +kernel)) ggX1_margin_X1_marginBy
theorem dX1_margin_0 : decode cX1_margin 0 = .ok (.lload_n 1, 1) := by decide +kernel
theorem dX1_margin_1 : decode cX1_margin 1 = .ok (.lconst 0, 1) := by decide +kernel
theorem dX1_margin_2 : decode cX1_margin 2 = .ok (.lcmp, 1) := by decide +kernel
theorem dX1_margin_3 : decode cX1_margin 3 = .ok (.ifCond .eq 8, 3) := by decide +kernel
theorem dX1_margin_6 : decode cX1_margin 6 = .ok (.iload 8, 2) := by decide +kernel
theorem dX1_margin_8 : decode cX1_margin 8 = .ok (.ifCond .gt 5, 3) := by decide +kernel
theorem dX1_margin_11 : decode cX1_margin 11 = .ok (.iconst 0, 1) := by decide +kernel
theorem dX1_margin_12 : decode cX1_margin 12 = .ok (.ireturn, 1) := by decide +kernel
theorem dX1_margin_13 : decode cX1_margin 13 = .ok (.sipush (-1000), 3) := by decide +kernel
theorem dX1_margin_16 : decode cX1_margin 16 = .ok (.istore 9, 2) := by decide +kernel
theorem dX1_margin_18 : decode cX1_margin 18 = .ok (.iconst 0, 1) := by decide +kernel
theorem dX1_margin_19 : decode cX1_margin 19 = .ok (.istore 10, 2) := by decide +kernel
theorem dX1_margin_21 : decode cX1_margin 21 = .ok (.iload 10, 2) := by decide +kernel
theorem dX1_margin_23 : decode cX1_margin 23 = .ok (.bipush 42, 2) := by decide +kernel
theorem dX1_margin_25 : decode cX1_margin 25 = .ok (.if_icmp .ge 44, 3) := by decide +kernel
theorem dX1_margin_28 : decode cX1_margin 28 = .ok (.aload_n 0, 1) := by decide +kernel
theorem dX1_margin_29 : decode cX1_margin 29 = .ok (.lload_n 1, 1) := by decide +kernel
theorem dX1_margin_30 : decode cX1_margin 30 = .ok (.iload 10, 2) := by decide +kernel
theorem dX1_margin_32 : decode cX1_margin 32 = .ok (.iload 5, 2) := by decide +kernel
theorem dX1_margin_34 : decode cX1_margin 34 = .ok (.invokevirtual 36, 3) := by decide +kernel
theorem dX1_margin_37 : decode cX1_margin 37 = .ok (.ifCond .eq 26, 3) := by decide +kernel
theorem dX1_margin_40 : decode cX1_margin 40 = .ok (.iload 9, 2) := by decide +kernel
theorem dX1_margin_42 : decode cX1_margin 42 = .ok (.aload_n 0, 1) := by decide +kernel
theorem dX1_margin_43 : decode cX1_margin 43 = .ok (.iload 10, 2) := by decide +kernel
theorem dX1_margin_45 : decode cX1_margin 45 = .ok (.lload_n 1, 1) := by decide +kernel
theorem dX1_margin_46 : decode cX1_margin 46 = .ok (.lload_n 3, 1) := by decide +kernel
theorem dX1_margin_47 : decode cX1_margin 47 = .ok (.iload 5, 2) := by decide +kernel
theorem dX1_margin_49 : decode cX1_margin 49 = .ok (.iload 6, 2) := by decide +kernel
theorem dX1_margin_51 : decode cX1_margin 51 = .ok (.iload 7, 2) := by decide +kernel
theorem dX1_margin_53 : decode cX1_margin 53 = .ok (.iload 8, 2) := by decide +kernel
theorem dX1_margin_55 : decode cX1_margin 55 = .ok (.invokevirtual 40, 3) := by decide +kernel
theorem dX1_margin_58 : decode cX1_margin 58 = .ok (.invokestatic 44, 3) := by decide +kernel
theorem dX1_margin_61 : decode cX1_margin 61 = .ok (.istore 9, 2) := by decide +kernel
theorem dX1_margin_63 : decode cX1_margin 63 = .ok (.iinc 10 1, 3) := by decide +kernel
theorem dX1_margin_66 : decode cX1_margin 66 = .ok (.goto (-45), 3) := by decide +kernel
theorem dX1_margin_69 : decode cX1_margin 69 = .ok (.iload 9, 2) := by decide +kernel
theorem dX1_margin_71 : decode cX1_margin 71 = .ok (.ireturn, 1) := by decide +kernel
set_option maxRecDepth 20000 in
theorem ggX1_marginBy_X2_bit : GoodIn wsX1_marginBy wsX2_bit := goodIn_r _ [5] (by decide +kernel) (by decide +kernel)
set_option maxRecDepth 20000 in
theorem gX1_marginBy_X2_bit_n50 : GoodIn wsX1_marginBy (wsX2_bit) := ggX1_marginBy_X2_bit
set_option maxRecDepth 20000 in
theorem ggX1_marginBy_X1_margin : GoodIn wsX1_marginBy wsX1_margin := goodIn_r _ [23, 24, 25, 26, 27, 28, 29, 30, 9, 31, 2, 32, 4, 33, 34, 3, 5, 35, 36, 37, 12, 13, 14, 38, 39, 40, 41, 42, 43, 44, 45, 46, 47, 0, 1, 6, 7, 8, 10, 11, 15, 16, 17, 18, 19, 20, 21, 22, 48, 49, 50, 51, 52, 53, 54, 55, 56, 57, 58, 59, 60, 61, 62] (by decide +kernel) (by decide +kernel)
set_option maxRecDepth 20000 in
theorem gX1_marginBy_X1_margin : GoodIn wsX1_marginBy (wsV RX1 32 RX1 yX1_margin wsX1_margin) := goodIn_app (goodIn_of _ (by decide +kernel)) ggX1_marginBy_X1_margin
set_option maxRecDepth 20000 in
theorem ggX1_marginBy_X2_beats : GoodIn wsX1_marginBy wsX2_beats := goodIn_r _ [11, 12, 13, 4, 14] (by decide +kernel) (by decide +kernel)
set_option maxRecDepth 20000 in
theorem gX1_marginBy_X2_beats_n56 : GoodIn wsX1_marginBy (wsX2_beats) := ggX1_marginBy_X2_beats
set_option maxRecDepth 20000 in
theorem ggX1_marginBy_X1_trickWorth : GoodIn wsX1_marginBy wsX1_trickWorth := goodIn_r _ [17, 18, 4, 19, 12, 13, 14] (by decide +kernel) (by decide +kernel)
set_option maxRecDepth 20000 in
theorem gX1_marginBy_X1_trickWorth : GoodIn wsX1_marginBy (va_wsS RX1 60 yX1_trickWorth wsX1_trickWorth) := goodIn_app (goodIn_of _ (by decide +kernel)) ggX1_marginBy_X1_trickWorth
set_option maxRecDepth 20000 in
theorem ggX1_marginBy_X1_rest : GoodIn wsX1_marginBy wsX1_rest := goodIn_r _ [48, 49, 50, 51, 52, 9, 53, 54, 55, 56, 57, 58, 1, 6, 7, 8, 23, 24, 25, 26, 27, 28, 29, 30, 31, 2, 32, 4, 33, 34, 3, 5, 35, 36, 37, 12, 13, 14, 38, 39, 40, 41, 42, 43, 44, 45, 46, 47, 0, 10, 11, 15, 16, 17, 18, 19, 20, 21, 22, 59, 60, 61, 62] (by decide +kernel) (by decide +kernel)
set_option maxRecDepth 20000 in
theorem gX1_marginBy_X1_rest : GoodIn wsX1_marginBy (wsV RX1 64 RX1 yX1_rest wsX1_rest) := goodIn_app (goodIn_of _ (by decide +kernel)) ggX1_marginBy_X1_rest
theorem dX1_marginBy_0 : decode cX1_marginBy 0 = .ok (.lload_n 2, 1) := by decide +kernel
theorem dX1_marginBy_1 : decode cX1_marginBy 1 = .ok (.iload_n 1, 1) := by decide +kernel
theorem dX1_marginBy_2 : decode cX1_marginBy 2 = .ok (.invokestatic 50, 3) := by decide +kernel
theorem dX1_marginBy_5 : decode cX1_marginBy 5 = .ok (.ldc2_w 54, 3) := by decide +kernel
theorem dX1_marginBy_8 : decode cX1_marginBy 8 = .ok (.lxor, 1) := by decide +kernel
theorem dX1_marginBy_9 : decode cX1_marginBy 9 = .ok (.land, 1) := by decide +kernel
theorem dX1_marginBy_10 : decode cX1_marginBy 10 = .ok (.lstore 10, 2) := by decide +kernel
theorem dX1_marginBy_12 : decode cX1_marginBy 12 = .ok (.iload 6, 2) := by decide +kernel
theorem dX1_marginBy_14 : decode cX1_marginBy 14 = .ok (.iconst (-1), 1) := by decide +kernel
theorem dX1_marginBy_15 : decode cX1_marginBy 15 = .ok (.if_icmp .ne 24, 3) := by decide +kernel
theorem dX1_marginBy_18 : decode cX1_marginBy 18 = .ok (.aload_n 0, 1) := by decide +kernel
theorem dX1_marginBy_19 : decode cX1_marginBy 19 = .ok (.lload 4, 2) := by decide +kernel
theorem dX1_marginBy_21 : decode cX1_marginBy 21 = .ok (.lload 10, 2) := by decide +kernel
theorem dX1_marginBy_23 : decode cX1_marginBy 23 = .ok (.iload_n 1, 1) := by decide +kernel
theorem dX1_marginBy_24 : decode cX1_marginBy 24 = .ok (.iconst 1, 1) := by decide +kernel
theorem dX1_marginBy_25 : decode cX1_marginBy 25 = .ok (.iload 7, 2) := by decide +kernel
theorem dX1_marginBy_27 : decode cX1_marginBy 27 = .ok (.isub, 1) := by decide +kernel
theorem dX1_marginBy_28 : decode cX1_marginBy 28 = .ok (.iload 8, 2) := by decide +kernel
theorem dX1_marginBy_30 : decode cX1_marginBy 30 = .ok (.iload 9, 2) := by decide +kernel
theorem dX1_marginBy_32 : decode cX1_marginBy 32 = .ok (.iconst 1, 1) := by decide +kernel
theorem dX1_marginBy_33 : decode cX1_marginBy 33 = .ok (.isub, 1) := by decide +kernel
theorem dX1_marginBy_34 : decode cX1_marginBy 34 = .ok (.invokevirtual 32, 3) := by decide +kernel
theorem dX1_marginBy_37 : decode cX1_marginBy 37 = .ok (.ineg, 1) := by decide +kernel
theorem dX1_marginBy_38 : decode cX1_marginBy 38 = .ok (.ireturn, 1) := by decide +kernel
theorem dX1_marginBy_39 : decode cX1_marginBy 39 = .ok (.iload_n 1, 1) := by decide +kernel
theorem dX1_marginBy_40 : decode cX1_marginBy 40 = .ok (.iload 6, 2) := by decide +kernel
theorem dX1_marginBy_42 : decode cX1_marginBy 42 = .ok (.aload_n 0, 1) := by decide +kernel
theorem dX1_marginBy_43 : decode cX1_marginBy 43 = .ok (.getfield 22, 3) := by decide +kernel
theorem dX1_marginBy_46 : decode cX1_marginBy 46 = .ok (.invokestatic 56, 3) := by decide +kernel
theorem dX1_marginBy_49 : decode cX1_marginBy 49 = .ok (.ifCond .eq 29, 3) := by decide +kernel
theorem dX1_marginBy_52 : decode cX1_marginBy 52 = .ok (.iload 6, 2) := by decide +kernel
theorem dX1_marginBy_54 : decode cX1_marginBy 54 = .ok (.iload_n 1, 1) := by decide +kernel
theorem dX1_marginBy_55 : decode cX1_marginBy 55 = .ok (.iload 7, 2) := by decide +kernel
theorem dX1_marginBy_57 : decode cX1_marginBy 57 = .ok (.iload 8, 2) := by decide +kernel
theorem dX1_marginBy_59 : decode cX1_marginBy 59 = .ok (.invokestatic 60, 3) := by decide +kernel
theorem dX1_marginBy_62 : decode cX1_marginBy 62 = .ok (.aload_n 0, 1) := by decide +kernel
theorem dX1_marginBy_63 : decode cX1_marginBy 63 = .ok (.lload 10, 2) := by decide +kernel
theorem dX1_marginBy_65 : decode cX1_marginBy 65 = .ok (.lload 4, 2) := by decide +kernel
theorem dX1_marginBy_67 : decode cX1_marginBy 67 = .ok (.iload 7, 2) := by decide +kernel
theorem dX1_marginBy_69 : decode cX1_marginBy 69 = .ok (.iload 9, 2) := by decide +kernel
theorem dX1_marginBy_71 : decode cX1_marginBy 71 = .ok (.iconst 1, 1) := by decide +kernel
theorem dX1_marginBy_72 : decode cX1_marginBy 72 = .ok (.isub, 1) := by decide +kernel
theorem dX1_marginBy_73 : decode cX1_marginBy 73 = .ok (.invokevirtual 64, 3) := by decide +kernel
theorem dX1_marginBy_76 : decode cX1_marginBy 76 = .ok (.iadd, 1) := by decide +kernel
theorem dX1_marginBy_77 : decode cX1_marginBy 77 = .ok (.ireturn, 1) := by decide +kernel
theorem dX1_marginBy_78 : decode cX1_marginBy 78 = .ok (.iconst 1, 1) := by decide +kernel
theorem dX1_marginBy_79 : decode cX1_marginBy 79 = .ok (.iload 7, 2) := by decide +kernel
theorem dX1_marginBy_81 : decode cX1_marginBy 81 = .ok (.isub, 1) := by decide +kernel
theorem dX1_marginBy_82 : decode cX1_marginBy 82 = .ok (.istore 12, 2) := by decide +kernel
theorem dX1_marginBy_84 : decode cX1_marginBy 84 = .ok (.iload 6, 2) := by decide +kernel
theorem dX1_marginBy_86 : decode cX1_marginBy 86 = .ok (.iload_n 1, 1) := by decide +kernel
theorem dX1_marginBy_87 : decode cX1_marginBy 87 = .ok (.iload 12, 2) := by decide +kernel
theorem dX1_marginBy_89 : decode cX1_marginBy 89 = .ok (.iload 8, 2) := by decide +kernel
theorem dX1_marginBy_91 : decode cX1_marginBy 91 = .ok (.invokestatic 60, 3) := by decide +kernel
theorem dX1_marginBy_94 : decode cX1_marginBy 94 = .ok (.ineg, 1) := by decide +kernel
theorem dX1_marginBy_95 : decode cX1_marginBy 95 = .ok (.aload_n 0, 1) := by decide +kernel
theorem dX1_marginBy_96 : decode cX1_marginBy 96 = .ok (.lload 4, 2) := by decide +kernel
theorem dX1_marginBy_98 : decode cX1_marginBy 98 = .ok (.lload 10, 2) := by decide +kernel
theorem dX1_marginBy_100 : decode cX1_marginBy 100 = .ok (.iload 12, 2) := by decide +kernel
theorem dX1_marginBy_102 : decode cX1_marginBy 102 = .ok (.iload 9, 2) := by decide +kernel
theorem dX1_marginBy_104 : decode cX1_marginBy 104 = .ok (.iconst 1, 1) := by decide +kernel
theorem dX1_marginBy_105 : decode cX1_marginBy 105 = .ok (.isub, 1) := by decide +kernel
theorem dX1_marginBy_106 : decode cX1_marginBy 106 = .ok (.invokevirtual 64, 3) := by decide +kernel
theorem dX1_marginBy_109 : decode cX1_marginBy 109 = .ok (.isub, 1) := by decide +kernel
theorem dX1_marginBy_110 : decode cX1_marginBy 110 = .ok (.ireturn, 1) := by decide +kernel
set_option maxRecDepth 20000 in
theorem ggX1_rest_X1_stateOf : GoodIn wsX1_rest wsX1_stateOf := goodIn_r _ [6, 7, 8, 9, 10, 5, 11, 12, 59, 60, 61, 62] (by decide +kernel) (by decide +kernel)
set_option maxRecDepth 20000 in
theorem gX1_rest_X1_stateOf : GoodIn wsX1_rest (wsV RX1 68 RX1 yX1_stateOf wsX1_stateOf) := goodIn_app (goodIn_of _ (by decide +kernel)) ggX1_rest_X1_stateOf
set_option maxRecDepth 20000 in
theorem ggX1_rest_X1_margin : GoodIn wsX1_rest wsX1_margin := goodIn_r _ [16, 17, 18, 19, 20, 21, 22, 23, 5, 24, 25, 26, 27, 28, 29, 30, 31, 32, 33, 34, 35, 36, 37, 38, 39, 40, 41, 42, 43, 44, 45, 46, 47, 48, 12, 13, 14, 15, 49, 50, 51, 52, 53, 54, 55, 56, 57, 58, 0, 1, 2, 3, 4, 6, 7, 8, 9, 10, 11, 59, 60, 61, 62] (by decide +kernel) (by decide +kernel)
set_option maxRecDepth 20000 in
theorem gX1_rest_X1_margin : GoodIn wsX1_rest (wsV RX1 32 RX1 yX1_margin wsX1_margin) := goodIn_app (goodIn_of _ (by decide +kernel)) ggX1_rest_X1_margin
theorem dX1_rest_0 : decode cX1_rest 0 = .ok (.iload 5, 2) := by decide +kernel
theorem dX1_rest_2 : decode cX1_rest 2 = .ok (.ifCond .ne 14, 3) := by decide +kernel
theorem dX1_rest_5 : decode cX1_rest 5 = .ok (.aload_n 0, 1) := by decide +kernel
theorem dX1_rest_6 : decode cX1_rest 6 = .ok (.lload_n 1, 1) := by decide +kernel
theorem dX1_rest_7 : decode cX1_rest 7 = .ok (.lload_n 3, 1) := by decide +kernel
theorem dX1_rest_8 : decode cX1_rest 8 = .ok (.iload 5, 2) := by decide +kernel
theorem dX1_rest_10 : decode cX1_rest 10 = .ok (.invokevirtual 68, 3) := by decide +kernel
theorem dX1_rest_13 : decode cX1_rest 13 = .ok (.goto 11, 3) := by decide +kernel
theorem dX1_rest_16 : decode cX1_rest 16 = .ok (.aload_n 0, 1) := by decide +kernel
theorem dX1_rest_17 : decode cX1_rest 17 = .ok (.lload_n 3, 1) := by decide +kernel
theorem dX1_rest_18 : decode cX1_rest 18 = .ok (.lload_n 1, 1) := by decide +kernel
theorem dX1_rest_19 : decode cX1_rest 19 = .ok (.iload 5, 2) := by decide +kernel
theorem dX1_rest_21 : decode cX1_rest 21 = .ok (.invokevirtual 68, 3) := by decide +kernel
theorem dX1_rest_24 : decode cX1_rest 24 = .ok (.istore 7, 2) := by decide +kernel
theorem dX1_rest_26 : decode cX1_rest 26 = .ok (.iload 7, 2) := by decide +kernel
theorem dX1_rest_28 : decode cX1_rest 28 = .ok (.ifCond .lt 13, 3) := by decide +kernel
theorem dX1_rest_31 : decode cX1_rest 31 = .ok (.iload 7, 2) := by decide +kernel
theorem dX1_rest_33 : decode cX1_rest 33 = .ok (.aload_n 0, 1) := by decide +kernel
theorem dX1_rest_34 : decode cX1_rest 34 = .ok (.getfield 9, 3) := by decide +kernel
theorem dX1_rest_37 : decode cX1_rest 37 = .ok (.arraylength, 1) := by decide +kernel
theorem dX1_rest_38 : decode cX1_rest 38 = .ok (.if_icmp .lt 5, 3) := by decide +kernel
theorem dX1_rest_41 : decode cX1_rest 41 = .ok (.iconst 0, 1) := by decide +kernel
theorem dX1_rest_42 : decode cX1_rest 42 = .ok (.ireturn, 1) := by decide +kernel
theorem dX1_rest_43 : decode cX1_rest 43 = .ok (.aload_n 0, 1) := by decide +kernel
theorem dX1_rest_44 : decode cX1_rest 44 = .ok (.getfield 9, 3) := by decide +kernel
theorem dX1_rest_47 : decode cX1_rest 47 = .ok (.iload 7, 2) := by decide +kernel
theorem dX1_rest_49 : decode cX1_rest 49 = .ok (.iaload, 1) := by decide +kernel
theorem dX1_rest_50 : decode cX1_rest 50 = .ok (.istore 8, 2) := by decide +kernel
theorem dX1_rest_52 : decode cX1_rest 52 = .ok (.iload 8, 2) := by decide +kernel
theorem dX1_rest_54 : decode cX1_rest 54 = .ok (.sipush 1000, 3) := by decide +kernel
theorem dX1_rest_57 : decode cX1_rest 57 = .ok (.if_icmp .eq 6, 3) := by decide +kernel
theorem dX1_rest_60 : decode cX1_rest 60 = .ok (.iload 8, 2) := by decide +kernel
theorem dX1_rest_62 : decode cX1_rest 62 = .ok (.ireturn, 1) := by decide +kernel
theorem dX1_rest_63 : decode cX1_rest 63 = .ok (.aload_n 0, 1) := by decide +kernel
theorem dX1_rest_64 : decode cX1_rest 64 = .ok (.lload_n 1, 1) := by decide +kernel
theorem dX1_rest_65 : decode cX1_rest 65 = .ok (.lload_n 3, 1) := by decide +kernel
theorem dX1_rest_66 : decode cX1_rest 66 = .ok (.iconst (-1), 1) := by decide +kernel
theorem dX1_rest_67 : decode cX1_rest 67 = .ok (.iload 5, 2) := by decide +kernel
theorem dX1_rest_69 : decode cX1_rest 69 = .ok (.iconst 0, 1) := by decide +kernel
theorem dX1_rest_70 : decode cX1_rest 70 = .ok (.iload 6, 2) := by decide +kernel
theorem dX1_rest_72 : decode cX1_rest 72 = .ok (.invokevirtual 32, 3) := by decide +kernel
theorem dX1_rest_75 : decode cX1_rest 75 = .ok (.istore 9, 2) := by decide +kernel
theorem dX1_rest_77 : decode cX1_rest 77 = .ok (.aload_n 0, 1) := by decide +kernel
theorem dX1_rest_78 : decode cX1_rest 78 = .ok (.getfield 9, 3) := by decide +kernel
theorem dX1_rest_81 : decode cX1_rest 81 = .ok (.iload 7, 2) := by decide +kernel
theorem dX1_rest_83 : decode cX1_rest 83 = .ok (.iload 9, 2) := by decide +kernel
theorem dX1_rest_85 : decode cX1_rest 85 = .ok (.iastore, 1) := by decide +kernel
theorem dX1_rest_86 : decode cX1_rest 86 = .ok (.iload 9, 2) := by decide +kernel
theorem dX1_rest_88 : decode cX1_rest 88 = .ok (.ireturn, 1) := by decide +kernel
set_option maxRecDepth 20000 in
theorem ggX1_mayPlay_X2_has : GoodIn wsX1_mayPlay wsX2_has := goodIn_r _ [4, 5, 6, 3, 7] (by decide +kernel) (by decide +kernel)
set_option maxRecDepth 20000 in
theorem gX1_mayPlay_X2_has_n72 : GoodIn wsX1_mayPlay (wsX2_has) := ggX1_mayPlay_X2_has
set_option maxRecDepth 20000 in
theorem ggX1_mayPlay_X2_reasonAgainstLeading : GoodIn wsX1_mayPlay wsX2_reasonAgainstLeading := goodIn_r _ [9, 10, 11, 12, 3, 13] (by decide +kernel) (by decide +kernel)
set_option maxRecDepth 20000 in
theorem gX1_mayPlay_X2_reasonAgainstLeading_n76 : GoodIn wsX1_mayPlay (wsX2_reasonAgainstLeading) := ggX1_mayPlay_X2_reasonAgainstLeading
set_option maxRecDepth 20000 in
theorem ggX1_mayPlay_X2_reasonAgainstReplying : GoodIn wsX1_mayPlay wsX2_reasonAgainstReplying := goodIn_r _ [15, 11, 12, 3, 13, 16, 17, 18, 19, 20, 2, 4, 5, 6, 7] (by decide +kernel) (by decide +kernel)
set_option maxRecDepth 20000 in
theorem gX1_mayPlay_X2_reasonAgainstReplying_n80 : GoodIn wsX1_mayPlay (wsX2_reasonAgainstReplying) := ggX1_mayPlay_X2_reasonAgainstReplying
theorem dX1_mayPlay_0 : decode cX1_mayPlay 0 = .ok (.lload_n 1, 1) := by decide +kernel
theorem dX1_mayPlay_1 : decode cX1_mayPlay 1 = .ok (.iload_n 3, 1) := by decide +kernel
theorem dX1_mayPlay_2 : decode cX1_mayPlay 2 = .ok (.invokestatic 72, 3) := by decide +kernel
theorem dX1_mayPlay_5 : decode cX1_mayPlay 5 = .ok (.ifCond .ne 5, 3) := by decide +kernel
theorem dX1_mayPlay_8 : decode cX1_mayPlay 8 = .ok (.iconst 0, 1) := by decide +kernel
theorem dX1_mayPlay_9 : decode cX1_mayPlay 9 = .ok (.ireturn, 1) := by decide +kernel
theorem dX1_mayPlay_10 : decode cX1_mayPlay 10 = .ok (.iload 4, 2) := by decide +kernel
theorem dX1_mayPlay_12 : decode cX1_mayPlay 12 = .ok (.iconst (-1), 1) := by decide +kernel
theorem dX1_mayPlay_13 : decode cX1_mayPlay 13 = .ok (.if_icmp .ne 11, 3) := by decide +kernel
theorem dX1_mayPlay_16 : decode cX1_mayPlay 16 = .ok (.lload_n 1, 1) := by decide +kernel
theorem dX1_mayPlay_17 : decode cX1_mayPlay 17 = .ok (.iload_n 3, 1) := by decide +kernel
theorem dX1_mayPlay_18 : decode cX1_mayPlay 18 = .ok (.invokestatic 76, 3) := by decide +kernel
theorem dX1_mayPlay_21 : decode cX1_mayPlay 21 = .ok (.goto 14, 3) := by decide +kernel
theorem dX1_mayPlay_24 : decode cX1_mayPlay 24 = .ok (.lload_n 1, 1) := by decide +kernel
theorem dX1_mayPlay_25 : decode cX1_mayPlay 25 = .ok (.iload_n 3, 1) := by decide +kernel
theorem dX1_mayPlay_26 : decode cX1_mayPlay 26 = .ok (.iload 4, 2) := by decide +kernel
theorem dX1_mayPlay_28 : decode cX1_mayPlay 28 = .ok (.aload_n 0, 1) := by decide +kernel
theorem dX1_mayPlay_29 : decode cX1_mayPlay 29 = .ok (.getfield 22, 3) := by decide +kernel
theorem dX1_mayPlay_32 : decode cX1_mayPlay 32 = .ok (.invokestatic 80, 3) := by decide +kernel
theorem dX1_mayPlay_35 : decode cX1_mayPlay 35 = .ok (.istore 5, 2) := by decide +kernel
theorem dX1_mayPlay_37 : decode cX1_mayPlay 37 = .ok (.iload 5, 2) := by decide +kernel
theorem dX1_mayPlay_39 : decode cX1_mayPlay 39 = .ok (.ifCond .ne 7, 3) := by decide +kernel
theorem dX1_mayPlay_42 : decode cX1_mayPlay 42 = .ok (.iconst 1, 1) := by decide +kernel
theorem dX1_mayPlay_43 : decode cX1_mayPlay 43 = .ok (.goto 4, 3) := by decide +kernel
theorem dX1_mayPlay_46 : decode cX1_mayPlay 46 = .ok (.iconst 0, 1) := by decide +kernel
theorem dX1_mayPlay_47 : decode cX1_mayPlay 47 = .ok (.ireturn, 1) := by decide +kernel
set_option maxRecDepth 20000 in
theorem ggX1_stateOf_X1_keptOf : GoodIn wsX1_stateOf wsX1_keptOf := goodIn_r _ [6, 7] (by decide +kernel) (by decide +kernel)
set_option maxRecDepth 20000 in
theorem gX1_stateOf_X1_keptOf : GoodIn wsX1_stateOf (va_wsS RX1 84 yX1_keptOf wsX1_keptOf) := goodIn_app (goodIn_of _ (by decide +kernel)) ggX1_stateOf_X1_keptOf
theorem dX1_stateOf_0 : decode cX1_stateOf 0 = .ok (.lload_n 1, 1) := by decide +kernel
theorem dX1_stateOf_1 : decode cX1_stateOf 1 = .ok (.aload_n 0, 1) := by decide +kernel
theorem dX1_stateOf_2 : decode cX1_stateOf 2 = .ok (.getfield 15, 3) := by decide +kernel
theorem dX1_stateOf_5 : decode cX1_stateOf 5 = .ok (.invokestatic 84, 3) := by decide +kernel
theorem dX1_stateOf_8 : decode cX1_stateOf 8 = .ok (.istore 6, 2) := by decide +kernel
theorem dX1_stateOf_10 : decode cX1_stateOf 10 = .ok (.lload_n 3, 1) := by decide +kernel
theorem dX1_stateOf_11 : decode cX1_stateOf 11 = .ok (.aload_n 0, 1) := by decide +kernel
theorem dX1_stateOf_12 : decode cX1_stateOf 12 = .ok (.getfield 19, 3) := by decide +kernel
theorem dX1_stateOf_15 : decode cX1_stateOf 15 = .ok (.invokestatic 84, 3) := by decide +kernel
theorem dX1_stateOf_18 : decode cX1_stateOf 18 = .ok (.istore 7, 2) := by decide +kernel
theorem dX1_stateOf_20 : decode cX1_stateOf 20 = .ok (.iload 5, 2) := by decide +kernel
theorem dX1_stateOf_22 : decode cX1_stateOf 22 = .ok (.bipush 12, 2) := by decide +kernel
theorem dX1_stateOf_24 : decode cX1_stateOf 24 = .ok (.ishl, 1) := by decide +kernel
theorem dX1_stateOf_25 : decode cX1_stateOf 25 = .ok (.iload 6, 2) := by decide +kernel
theorem dX1_stateOf_27 : decode cX1_stateOf 27 = .ok (.bipush 6, 2) := by decide +kernel
theorem dX1_stateOf_29 : decode cX1_stateOf 29 = .ok (.ishl, 1) := by decide +kernel
theorem dX1_stateOf_30 : decode cX1_stateOf 30 = .ok (.ior, 1) := by decide +kernel
theorem dX1_stateOf_31 : decode cX1_stateOf 31 = .ok (.iload 7, 2) := by decide +kernel
theorem dX1_stateOf_33 : decode cX1_stateOf 33 = .ok (.ior, 1) := by decide +kernel
theorem dX1_stateOf_34 : decode cX1_stateOf 34 = .ok (.ireturn, 1) := by decide +kernel
theorem dX1_keptOf_0 : decode cX1_keptOf 0 = .ok (.iconst 0, 1) := by decide +kernel
theorem dX1_keptOf_1 : decode cX1_keptOf 1 = .ok (.istore 4, 2) := by decide +kernel
theorem dX1_keptOf_3 : decode cX1_keptOf 3 = .ok (.lload_n 2, 1) := by decide +kernel
theorem dX1_keptOf_4 : decode cX1_keptOf 4 = .ok (.lstore 5, 2) := by decide +kernel
theorem dX1_keptOf_6 : decode cX1_keptOf 6 = .ok (.iconst 0, 1) := by decide +kernel
theorem dX1_keptOf_7 : decode cX1_keptOf 7 = .ok (.istore 7, 2) := by decide +kernel
theorem dX1_keptOf_9 : decode cX1_keptOf 9 = .ok (.iload 7, 2) := by decide +kernel
theorem dX1_keptOf_11 : decode cX1_keptOf 11 = .ok (.bipush 6, 2) := by decide +kernel
theorem dX1_keptOf_13 : decode cX1_keptOf 13 = .ok (.if_icmp .ge 46, 3) := by decide +kernel
theorem dX1_keptOf_16 : decode cX1_keptOf 16 = .ok (.lload 5, 2) := by decide +kernel
theorem dX1_keptOf_18 : decode cX1_keptOf 18 = .ok (.lload 5, 2) := by decide +kernel
theorem dX1_keptOf_20 : decode cX1_keptOf 20 = .ok (.lneg, 1) := by decide +kernel
theorem dX1_keptOf_21 : decode cX1_keptOf 21 = .ok (.land, 1) := by decide +kernel
theorem dX1_keptOf_22 : decode cX1_keptOf 22 = .ok (.lstore 8, 2) := by decide +kernel
theorem dX1_keptOf_24 : decode cX1_keptOf 24 = .ok (.lload_n 0, 1) := by decide +kernel
theorem dX1_keptOf_25 : decode cX1_keptOf 25 = .ok (.lload 8, 2) := by decide +kernel
theorem dX1_keptOf_27 : decode cX1_keptOf 27 = .ok (.land, 1) := by decide +kernel
theorem dX1_keptOf_28 : decode cX1_keptOf 28 = .ok (.lconst 0, 1) := by decide +kernel
theorem dX1_keptOf_29 : decode cX1_keptOf 29 = .ok (.lcmp, 1) := by decide +kernel
theorem dX1_keptOf_30 : decode cX1_keptOf 30 = .ok (.ifCond .eq 12, 3) := by decide +kernel
theorem dX1_keptOf_33 : decode cX1_keptOf 33 = .ok (.iload 4, 2) := by decide +kernel
theorem dX1_keptOf_35 : decode cX1_keptOf 35 = .ok (.iconst 1, 1) := by decide +kernel
theorem dX1_keptOf_36 : decode cX1_keptOf 36 = .ok (.iload 7, 2) := by decide +kernel
theorem dX1_keptOf_38 : decode cX1_keptOf 38 = .ok (.ishl, 1) := by decide +kernel
theorem dX1_keptOf_39 : decode cX1_keptOf 39 = .ok (.ior, 1) := by decide +kernel
theorem dX1_keptOf_40 : decode cX1_keptOf 40 = .ok (.istore 4, 2) := by decide +kernel
theorem dX1_keptOf_42 : decode cX1_keptOf 42 = .ok (.lload 5, 2) := by decide +kernel
theorem dX1_keptOf_44 : decode cX1_keptOf 44 = .ok (.lload 8, 2) := by decide +kernel
theorem dX1_keptOf_46 : decode cX1_keptOf 46 = .ok (.ldc2_w 54, 3) := by decide +kernel
theorem dX1_keptOf_49 : decode cX1_keptOf 49 = .ok (.lxor, 1) := by decide +kernel
theorem dX1_keptOf_50 : decode cX1_keptOf 50 = .ok (.land, 1) := by decide +kernel
theorem dX1_keptOf_51 : decode cX1_keptOf 51 = .ok (.lstore 5, 2) := by decide +kernel
theorem dX1_keptOf_53 : decode cX1_keptOf 53 = .ok (.iinc 7 1, 3) := by decide +kernel
theorem dX1_keptOf_56 : decode cX1_keptOf 56 = .ok (.goto (-47), 3) := by decide +kernel
theorem dX1_keptOf_59 : decode cX1_keptOf 59 = .ok (.iload 4, 2) := by decide +kernel
theorem dX1_keptOf_61 : decode cX1_keptOf 61 = .ok (.ireturn, 1) := by decide +kernel
set_option maxRecDepth 20000 in
theorem ggX1_trickWorth_X2_worth : GoodIn wsX1_trickWorth wsX2_worth := goodIn_r _ [3, 4, 5, 2, 6] (by decide +kernel) (by decide +kernel)
set_option maxRecDepth 20000 in
theorem gX1_trickWorth_X2_worth_n88 : GoodIn wsX1_trickWorth (wsX2_worth) := ggX1_trickWorth_X2_worth
theorem dX1_trickWorth_0 : decode cX1_trickWorth 0 = .ok (.iload_n 3, 1) := by decide +kernel
theorem dX1_trickWorth_1 : decode cX1_trickWorth 1 = .ok (.iload_n 2, 1) := by decide +kernel
theorem dX1_trickWorth_2 : decode cX1_trickWorth 2 = .ok (.ishr, 1) := by decide +kernel
theorem dX1_trickWorth_3 : decode cX1_trickWorth 3 = .ok (.iconst 1, 1) := by decide +kernel
theorem dX1_trickWorth_4 : decode cX1_trickWorth 4 = .ok (.iand, 1) := by decide +kernel
theorem dX1_trickWorth_5 : decode cX1_trickWorth 5 = .ok (.ifCond .eq 7, 3) := by decide +kernel
theorem dX1_trickWorth_8 : decode cX1_trickWorth 8 = .ok (.iconst 1, 1) := by decide +kernel
theorem dX1_trickWorth_9 : decode cX1_trickWorth 9 = .ok (.goto 4, 3) := by decide +kernel
theorem dX1_trickWorth_12 : decode cX1_trickWorth 12 = .ok (.iconst 0, 1) := by decide +kernel
theorem dX1_trickWorth_13 : decode cX1_trickWorth 13 = .ok (.istore 4, 2) := by decide +kernel
theorem dX1_trickWorth_15 : decode cX1_trickWorth 15 = .ok (.iload_n 0, 1) := by decide +kernel
theorem dX1_trickWorth_16 : decode cX1_trickWorth 16 = .ok (.iload 4, 2) := by decide +kernel
theorem dX1_trickWorth_18 : decode cX1_trickWorth 18 = .ok (.invokestatic 88, 3) := by decide +kernel
theorem dX1_trickWorth_21 : decode cX1_trickWorth 21 = .ok (.iload_n 1, 1) := by decide +kernel
theorem dX1_trickWorth_22 : decode cX1_trickWorth 22 = .ok (.iload 4, 2) := by decide +kernel
theorem dX1_trickWorth_24 : decode cX1_trickWorth 24 = .ok (.invokestatic 88, 3) := by decide +kernel
theorem dX1_trickWorth_27 : decode cX1_trickWorth 27 = .ok (.iadd, 1) := by decide +kernel
theorem dX1_trickWorth_28 : decode cX1_trickWorth 28 = .ok (.ireturn, 1) := by decide +kernel
set_option maxRecDepth 20000 in
theorem ggX2_init_X0_init : GoodIn wsX2_init wsX0_init := goodIn_r _ [20, 21, 2, 3, 22, 23, 24, 25, 26, 38, 39, 40, 41, 42] (by decide +kernel) (by decide +kernel)
set_option maxRecDepth 20000 in
theorem gX2_init_X0_init_n15 : GoodIn wsX2_init (wsX0_init) := ggX2_init_X0_init
theorem dX2_init_0 : decode cX2_init 0 = .ok (.aload_n 0, 1) := by decide +kernel
theorem dX2_init_1 : decode cX2_init 1 = .ok (.invokespecial 3, 3) := by decide +kernel
theorem dX2_init_4 : decode cX2_init 4 = .ok (.aload_n 0, 1) := by decide +kernel
theorem dX2_init_5 : decode cX2_init 5 = .ok (.bipush 42, 2) := by decide +kernel
theorem dX2_init_7 : decode cX2_init 7 = .ok (.newarray .int, 2) := by decide +kernel
theorem dX2_init_9 : decode cX2_init 9 = .ok (.putfield 9, 3) := by decide +kernel
theorem dX2_init_12 : decode cX2_init 12 = .ok (.aload_n 0, 1) := by decide +kernel
theorem dX2_init_13 : decode cX2_init 13 = .ok (.new 13, 3) := by decide +kernel
theorem dX2_init_16 : decode cX2_init 16 = .ok (.dup, 1) := by decide +kernel
theorem dX2_init_17 : decode cX2_init 17 = .ok (.invokespecial 15, 3) := by decide +kernel
theorem dX2_init_20 : decode cX2_init 20 = .ok (.putfield 16, 3) := by decide +kernel
theorem dX2_init_23 : decode cX2_init 23 = .ok (.aload_n 0, 1) := by decide +kernel
theorem dX2_init_24 : decode cX2_init 24 = .ok (.new 13, 3) := by decide +kernel
theorem dX2_init_27 : decode cX2_init 27 = .ok (.dup, 1) := by decide +kernel
theorem dX2_init_28 : decode cX2_init 28 = .ok (.invokespecial 15, 3) := by decide +kernel
theorem dX2_init_31 : decode cX2_init 31 = .ok (.putfield 20, 3) := by decide +kernel
theorem dX2_init_34 : decode cX2_init 34 = .ok (.aload_n 0, 1) := by decide +kernel
theorem dX2_init_35 : decode cX2_init 35 = .ok (.bipush 42, 2) := by decide +kernel
theorem dX2_init_37 : decode cX2_init 37 = .ok (.putfield 23, 3) := by decide +kernel
theorem dX2_init_40 : decode cX2_init 40 = .ok (.aload_n 0, 1) := by decide +kernel
theorem dX2_init_41 : decode cX2_init 41 = .ok (.iconst (-1), 1) := by decide +kernel
theorem dX2_init_42 : decode cX2_init 42 = .ok (.putfield 27, 3) := by decide +kernel
theorem dX2_init_45 : decode cX2_init 45 = .ok (.aload_n 0, 1) := by decide +kernel
theorem dX2_init_46 : decode cX2_init 46 = .ok (.iconst (-1), 1) := by decide +kernel
theorem dX2_init_47 : decode cX2_init 47 = .ok (.putfield 30, 3) := by decide +kernel
theorem dX2_init_50 : decode cX2_init 50 = .ok (.aload_n 0, 1) := by decide +kernel
theorem dX2_init_51 : decode cX2_init 51 = .ok (.iconst (-1), 1) := by decide +kernel
theorem dX2_init_52 : decode cX2_init 52 = .ok (.putfield 33, 3) := by decide +kernel
theorem dX2_init_55 : decode cX2_init 55 = .ok (.aload_n 0, 1) := by decide +kernel
theorem dX2_init_56 : decode cX2_init 56 = .ok (.iconst 0, 1) := by decide +kernel
theorem dX2_init_57 : decode cX2_init 57 = .ok (.putfield 36, 3) := by decide +kernel
theorem dX2_init_60 : decode cX2_init 60 = .ok (.aload_n 0, 1) := by decide +kernel
theorem dX2_init_61 : decode cX2_init 61 = .ok (.iconst 0, 1) := by decide +kernel
theorem dX2_init_62 : decode cX2_init 62 = .ok (.putfield 39, 3) := by decide +kernel
theorem dX2_init_65 : decode cX2_init 65 = .ok (.aload_n 0, 1) := by decide +kernel
theorem dX2_init_66 : decode cX2_init 66 = .ok (.aconst_null, 1) := by decide +kernel
theorem dX2_init_67 : decode cX2_init 67 = .ok (.putfield 42, 3) := by decide +kernel
theorem dX2_init_70 : decode cX2_init 70 = .ok (.aload_n 0, 1) := by decide +kernel
theorem dX2_init_71 : decode cX2_init 71 = .ok (.iconst 0, 1) := by decide +kernel
theorem dX2_init_72 : decode cX2_init 72 = .ok (.putfield 46, 3) := by decide +kernel
theorem dX2_init_75 : decode cX2_init 75 = .ok (.return_, 1) := by decide +kernel
set_option maxRecDepth 20000 in
theorem ggX2_deal_X2_shuffle : GoodIn wsX2_deal wsX2_shuffle := goodIn_r _ [13, 1, 14, 15, 44, 45, 46, 47, 48, 49, 50, 51, 52, 53, 54] (by decide +kernel) (by decide +kernel)
set_option maxRecDepth 20000 in
theorem gX2_deal_X2_shuffle : GoodIn wsX2_deal (wsV RX2 50 RX2 yX2_shuffle wsX2_shuffle) := goodIn_app (goodIn_of _ (by decide +kernel)) ggX2_deal_X2_shuffle
set_option maxRecDepth 20000 in
theorem ggX2_deal_X2_putTurnedUpLast : GoodIn wsX2_deal wsX2_putTurnedUpLast := goodIn_r _ [19, 1, 20, 21, 22, 23, 44, 45, 46, 47, 48, 49, 50, 51, 52, 53, 54] (by decide +kernel) (by decide +kernel)
set_option maxRecDepth 20000 in
theorem gX2_deal_X2_putTurnedUpLast : GoodIn wsX2_deal (wsV RX2 54 RX2 yX2_putTurnedUpLast wsX2_putTurnedUpLast) := goodIn_app (goodIn_of _ (by decide +kernel)) ggX2_deal_X2_putTurnedUpLast
set_option maxRecDepth 20000 in
theorem ggX2_deal_X2_handFrom : GoodIn wsX2_deal wsX2_handFrom := goodIn_r _ [27, 1, 28, 29, 12, 30, 44, 45, 46, 47, 48, 49, 50, 51, 52, 53, 54] (by decide +kernel) (by decide +kernel)
set_option maxRecDepth 20000 in
theorem gX2_deal_X2_handFrom : GoodIn wsX2_deal (wsV RX2 57 RX2 yX2_handFrom wsX2_handFrom) := goodIn_app (goodIn_of _ (by decide +kernel)) ggX2_deal_X2_handFrom
set_option maxRecDepth 20000 in
theorem ggX2_deal_X0_begin : GoodIn wsX2_deal wsX0_begin := goodIn_r _ [35, 36, 37, 38, 39, 40, 55, 56, 57, 58, 59] (by decide +kernel) (by decide +kernel)
set_option maxRecDepth 20000 in
theorem gX2_deal_X0_begin : GoodIn wsX2_deal (wsV RX2 61 RX0 yX0_begin wsX0_begin) := goodIn_app (goodIn_of _ (by decide +kernel)) ggX2_deal_X0_begin
set_option maxRecDepth 20000 in
theorem ggX2_deal_X2_isMildew : GoodIn wsX2_deal wsX2_isMildew := goodIn_r _ [43] (by decide +kernel) (by decide +kernel)
set_option maxRecDepth 20000 in
theorem gX2_deal_X2_isMildew : GoodIn wsX2_deal (va_wsS RX2 64 yX2_isMildew wsX2_isMildew) := goodIn_app (goodIn_of _ (by decide +kernel)) ggX2_deal_X2_isMildew
theorem dX2_deal_0 : decode cX2_deal 0 = .ok (.aload_n 0, 1) := by decide +kernel
theorem dX2_deal_1 : decode cX2_deal 1 = .ok (.lload_n 1, 1) := by decide +kernel
theorem dX2_deal_2 : decode cX2_deal 2 = .ok (.invokevirtual 50, 3) := by decide +kernel
theorem dX2_deal_5 : decode cX2_deal 5 = .ok (.aload_n 0, 1) := by decide +kernel
theorem dX2_deal_6 : decode cX2_deal 6 = .ok (.getfield 9, 3) := by decide +kernel
theorem dX2_deal_9 : decode cX2_deal 9 = .ok (.bipush 12, 2) := by decide +kernel
theorem dX2_deal_11 : decode cX2_deal 11 = .ok (.iaload, 1) := by decide +kernel
theorem dX2_deal_12 : decode cX2_deal 12 = .ok (.istore_n 3, 1) := by decide +kernel
theorem dX2_deal_13 : decode cX2_deal 13 = .ok (.aload_n 0, 1) := by decide +kernel
theorem dX2_deal_14 : decode cX2_deal 14 = .ok (.invokevirtual 54, 3) := by decide +kernel
theorem dX2_deal_17 : decode cX2_deal 17 = .ok (.aload_n 0, 1) := by decide +kernel
theorem dX2_deal_18 : decode cX2_deal 18 = .ok (.getfield 16, 3) := by decide +kernel
theorem dX2_deal_21 : decode cX2_deal 21 = .ok (.aload_n 0, 1) := by decide +kernel
theorem dX2_deal_22 : decode cX2_deal 22 = .ok (.iconst 0, 1) := by decide +kernel
theorem dX2_deal_23 : decode cX2_deal 23 = .ok (.invokevirtual 57, 3) := by decide +kernel
theorem dX2_deal_26 : decode cX2_deal 26 = .ok (.invokevirtual 61, 3) := by decide +kernel
theorem dX2_deal_29 : decode cX2_deal 29 = .ok (.aload_n 0, 1) := by decide +kernel
theorem dX2_deal_30 : decode cX2_deal 30 = .ok (.getfield 20, 3) := by decide +kernel
theorem dX2_deal_33 : decode cX2_deal 33 = .ok (.aload_n 0, 1) := by decide +kernel
theorem dX2_deal_34 : decode cX2_deal 34 = .ok (.bipush 6, 2) := by decide +kernel
theorem dX2_deal_36 : decode cX2_deal 36 = .ok (.invokevirtual 57, 3) := by decide +kernel
theorem dX2_deal_39 : decode cX2_deal 39 = .ok (.invokevirtual 61, 3) := by decide +kernel
theorem dX2_deal_42 : decode cX2_deal 42 = .ok (.aload_n 0, 1) := by decide +kernel
theorem dX2_deal_43 : decode cX2_deal 43 = .ok (.bipush 12, 2) := by decide +kernel
theorem dX2_deal_45 : decode cX2_deal 45 = .ok (.putfield 23, 3) := by decide +kernel
theorem dX2_deal_48 : decode cX2_deal 48 = .ok (.aload_n 0, 1) := by decide +kernel
theorem dX2_deal_49 : decode cX2_deal 49 = .ok (.iload_n 3, 1) := by decide +kernel
theorem dX2_deal_50 : decode cX2_deal 50 = .ok (.invokestatic 64, 3) := by decide +kernel
theorem dX2_deal_53 : decode cX2_deal 53 = .ok (.ifCond .eq 7, 3) := by decide +kernel
theorem dX2_deal_56 : decode cX2_deal 56 = .ok (.iconst 0, 1) := by decide +kernel
theorem dX2_deal_57 : decode cX2_deal 57 = .ok (.goto 7, 3) := by decide +kernel
theorem dX2_deal_60 : decode cX2_deal 60 = .ok (.iload_n 3, 1) := by decide +kernel
theorem dX2_deal_61 : decode cX2_deal 61 = .ok (.bipush 10, 2) := by decide +kernel
theorem dX2_deal_63 : decode cX2_deal 63 = .ok (.idiv, 1) := by decide +kernel
theorem dX2_deal_64 : decode cX2_deal 64 = .ok (.putfield 27, 3) := by decide +kernel
theorem dX2_deal_67 : decode cX2_deal 67 = .ok (.aload_n 0, 1) := by decide +kernel
theorem dX2_deal_68 : decode cX2_deal 68 = .ok (.iconst (-1), 1) := by decide +kernel
theorem dX2_deal_69 : decode cX2_deal 69 = .ok (.putfield 30, 3) := by decide +kernel
theorem dX2_deal_72 : decode cX2_deal 72 = .ok (.aload_n 0, 1) := by decide +kernel
theorem dX2_deal_73 : decode cX2_deal 73 = .ok (.iconst 0, 1) := by decide +kernel
theorem dX2_deal_74 : decode cX2_deal 74 = .ok (.putfield 33, 3) := by decide +kernel
theorem dX2_deal_77 : decode cX2_deal 77 = .ok (.aload_n 0, 1) := by decide +kernel
theorem dX2_deal_78 : decode cX2_deal 78 = .ok (.iconst 0, 1) := by decide +kernel
theorem dX2_deal_79 : decode cX2_deal 79 = .ok (.putfield 46, 3) := by decide +kernel
theorem dX2_deal_82 : decode cX2_deal 82 = .ok (.aload_n 0, 1) := by decide +kernel
theorem dX2_deal_83 : decode cX2_deal 83 = .ok (.getfield 27, 3) := by decide +kernel
theorem dX2_deal_86 : decode cX2_deal 86 = .ok (.ireturn, 1) := by decide +kernel
set_option maxRecDepth 20000 in
theorem ggX2_play_X2_isCard : GoodIn wsX2_play wsX2_isCard := goodIn_r _ [12] (by decide +kernel) (by decide +kernel)
set_option maxRecDepth 20000 in
theorem gX2_play_X2_isCard : GoodIn wsX2_play (va_wsS RX2 68 yX2_isCard wsX2_isCard) := goodIn_app (goodIn_of _ (by decide +kernel)) ggX2_play_X2_isCard
set_option maxRecDepth 20000 in
theorem ggX2_play_X2_reasonAgainst : GoodIn wsX2_play wsX2_reasonAgainst := goodIn_r _ [16, 5, 8, 17, 18, 19, 20, 21, 11, 22, 6, 23, 24, 25, 26, 27, 28, 29, 30, 31, 32, 33, 34, 35, 36, 37, 38, 39, 40, 41, 42, 43, 44, 45, 46, 47, 48, 84, 85, 86, 87, 88, 89, 90, 91, 92, 93, 94, 95, 96, 97, 98, 99] (by decide +kernel) (by decide +kernel)
set_option maxRecDepth 20000 in
theorem gX2_play_X2_reasonAgainst : GoodIn wsX2_play (wsV RX2 78 RX2 yX2_reasonAgainst wsX2_reasonAgainst) := goodIn_app (goodIn_of _ (by decide +kernel)) ggX2_play_X2_reasonAgainst
set_option maxRecDepth 20000 in
theorem ggX2_play_X2_archivist : GoodIn wsX2_play wsX2_archivist := goodIn_r _ [26, 27, 28, 84, 85, 86, 87, 88, 89, 90, 91, 92, 93, 94] (by decide +kernel) (by decide +kernel)
set_option maxRecDepth 20000 in
theorem gX2_play_X2_archivist : GoodIn wsX2_play (wsV RX2 87 RX2 yX2_archivist wsX2_archivist) := goodIn_app (goodIn_of _ (by decide +kernel)) ggX2_play_X2_archivist
set_option maxRecDepth 20000 in
theorem ggX2_play_X2_bit : GoodIn wsX2_play wsX2_bit := goodIn_r _ [34] (by decide +kernel) (by decide +kernel)
set_option maxRecDepth 20000 in
theorem gX2_play_X2_bit : GoodIn wsX2_play (va_wsS RX2 95 yX2_bit wsX2_bit) := goodIn_app (goodIn_of _ (by decide +kernel)) ggX2_play_X2_bit
set_option maxRecDepth 20000 in
theorem ggX2_play_X2_finishTrick : GoodIn wsX2_play wsX2_finishTrick := goodIn_r _ [52, 53, 54, 8, 55, 56, 27, 28, 5, 6, 57, 58, 59, 11, 60, 18, 61, 62, 63, 39, 40, 41, 23, 24, 25, 26, 64, 65, 66, 32, 33, 34, 67, 68, 69, 70, 71, 72, 73, 74, 75, 76, 17, 77, 78, 79, 80, 81, 82, 83, 95, 96, 97, 98, 99, 84, 85, 86, 87, 88, 89, 90, 91, 92, 93, 94] (by decide +kernel) (by decide +kernel)
set_option maxRecDepth 20000 in
theorem gX2_play_X2_finishTrick : GoodIn wsX2_play (wsV RX2 100 RX2 yX2_finishTrick wsX2_finishTrick) := goodIn_app (goodIn_of _ (by decide +kernel)) ggX2_play_X2_finishTrick
theorem dX2_play_0 : decode cX2_play 0 = .ok (.iload_n 1, 1) := by decide +kernel
theorem dX2_play_1 : decode cX2_play 1 = .ok (.invokestatic 68, 3) := by decide +kernel
theorem dX2_play_4 : decode cX2_play 4 = .ok (.ifCond .ne 13, 3) := by decide +kernel
theorem dX2_play_7 : decode cX2_play 7 = .ok (.new 71, 3) := by decide +kernel
theorem dX2_play_10 : decode cX2_play 10 = .ok (.dup, 1) := by decide +kernel
theorem dX2_play_11 : decode cX2_play 11 = .ok (.ldc 73, 2) := by decide +kernel
theorem dX2_play_13 : decode cX2_play 13 = .ok (.invokespecial 75, 3) := by decide +kernel
theorem dX2_play_16 : decode cX2_play 16 = .ok (.athrow, 1) := by decide +kernel
theorem dX2_play_17 : decode cX2_play 17 = .ok (.aload_n 0, 1) := by decide +kernel
theorem dX2_play_18 : decode cX2_play 18 = .ok (.iload_n 1, 1) := by decide +kernel
theorem dX2_play_19 : decode cX2_play 19 = .ok (.invokevirtual 78, 3) := by decide +kernel
theorem dX2_play_22 : decode cX2_play 22 = .ok (.ifCond .eq 13, 3) := by decide +kernel
theorem dX2_play_25 : decode cX2_play 25 = .ok (.new 82, 3) := by decide +kernel
theorem dX2_play_28 : decode cX2_play 28 = .ok (.dup, 1) := by decide +kernel
theorem dX2_play_29 : decode cX2_play 29 = .ok (.ldc 84, 2) := by decide +kernel
theorem dX2_play_31 : decode cX2_play 31 = .ok (.invokespecial 86, 3) := by decide +kernel
theorem dX2_play_34 : decode cX2_play 34 = .ok (.athrow, 1) := by decide +kernel
theorem dX2_play_35 : decode cX2_play 35 = .ok (.aload_n 0, 1) := by decide +kernel
theorem dX2_play_36 : decode cX2_play 36 = .ok (.aload_n 0, 1) := by decide +kernel
theorem dX2_play_37 : decode cX2_play 37 = .ok (.getfield 33, 3) := by decide +kernel
theorem dX2_play_40 : decode cX2_play 40 = .ok (.invokevirtual 87, 3) := by decide +kernel
theorem dX2_play_43 : decode cX2_play 43 = .ok (.astore_n 2, 1) := by decide +kernel
theorem dX2_play_44 : decode cX2_play 44 = .ok (.aload_n 2, 1) := by decide +kernel
theorem dX2_play_45 : decode cX2_play 45 = .ok (.dup, 1) := by decide +kernel
theorem dX2_play_46 : decode cX2_play 46 = .ok (.getfield 91, 3) := by decide +kernel
theorem dX2_play_49 : decode cX2_play 49 = .ok (.iload_n 1, 1) := by decide +kernel
theorem dX2_play_50 : decode cX2_play 50 = .ok (.invokestatic 95, 3) := by decide +kernel
theorem dX2_play_53 : decode cX2_play 53 = .ok (.ldc2_w 98, 3) := by decide +kernel
theorem dX2_play_56 : decode cX2_play 56 = .ok (.lxor, 1) := by decide +kernel
theorem dX2_play_57 : decode cX2_play 57 = .ok (.land, 1) := by decide +kernel
theorem dX2_play_58 : decode cX2_play 58 = .ok (.putfield 91, 3) := by decide +kernel
theorem dX2_play_61 : decode cX2_play 61 = .ok (.aload_n 0, 1) := by decide +kernel
theorem dX2_play_62 : decode cX2_play 62 = .ok (.getfield 30, 3) := by decide +kernel
theorem dX2_play_65 : decode cX2_play 65 = .ok (.iconst (-1), 1) := by decide +kernel
theorem dX2_play_66 : decode cX2_play 66 = .ok (.if_icmp .eq 9, 3) := by decide +kernel
theorem dX2_play_69 : decode cX2_play 69 = .ok (.aload_n 0, 1) := by decide +kernel
theorem dX2_play_70 : decode cX2_play 70 = .ok (.iload_n 1, 1) := by decide +kernel
theorem dX2_play_71 : decode cX2_play 71 = .ok (.invokevirtual 100, 3) := by decide +kernel
theorem dX2_play_74 : decode cX2_play 74 = .ok (.ireturn, 1) := by decide +kernel
theorem dX2_play_75 : decode cX2_play 75 = .ok (.aload_n 0, 1) := by decide +kernel
theorem dX2_play_76 : decode cX2_play 76 = .ok (.iload_n 1, 1) := by decide +kernel
theorem dX2_play_77 : decode cX2_play 77 = .ok (.putfield 30, 3) := by decide +kernel
theorem dX2_play_80 : decode cX2_play 80 = .ok (.aload_n 0, 1) := by decide +kernel
theorem dX2_play_81 : decode cX2_play 81 = .ok (.iconst 1, 1) := by decide +kernel
theorem dX2_play_82 : decode cX2_play 82 = .ok (.aload_n 0, 1) := by decide +kernel
theorem dX2_play_83 : decode cX2_play 83 = .ok (.getfield 33, 3) := by decide +kernel
theorem dX2_play_86 : decode cX2_play 86 = .ok (.isub, 1) := by decide +kernel
theorem dX2_play_87 : decode cX2_play 87 = .ok (.putfield 33, 3) := by decide +kernel
theorem dX2_play_90 : decode cX2_play 90 = .ok (.iconst (-1), 1) := by decide +kernel
theorem dX2_play_91 : decode cX2_play 91 = .ok (.ireturn, 1) := by decide +kernel
set_option maxRecDepth 20000 in
theorem ggX2_putOnGloves_X2_archivist : GoodIn wsX2_putOnGloves wsX2_archivist := goodIn_r _ [9, 10, 11, 12, 13, 14, 15, 16, 17, 18, 19, 20, 21, 22] (by decide +kernel) (by decide +kernel)
set_option maxRecDepth 20000 in
theorem gX2_putOnGloves_X2_archivist : GoodIn wsX2_putOnGloves (wsV RX2 87 RX2 yX2_archivist wsX2_archivist) := goodIn_app (goodIn_of _ (by decide +kernel)) ggX2_putOnGloves_X2_archivist
theorem dX2_putOnGloves_0 : decode cX2_putOnGloves 0 = .ok (.aload_n 0, 1) := by decide +kernel
theorem dX2_putOnGloves_1 : decode cX2_putOnGloves 1 = .ok (.getfield 33, 3) := by decide +kernel
theorem dX2_putOnGloves_4 : decode cX2_putOnGloves 4 = .ok (.iconst (-1), 1) := by decide +kernel
theorem dX2_putOnGloves_5 : decode cX2_putOnGloves 5 = .ok (.if_icmp .ne 13, 3) := by decide +kernel
theorem dX2_putOnGloves_8 : decode cX2_putOnGloves 8 = .ok (.new 82, 3) := by decide +kernel
theorem dX2_putOnGloves_11 : decode cX2_putOnGloves 11 = .ok (.dup, 1) := by decide +kernel
theorem dX2_putOnGloves_12 : decode cX2_putOnGloves 12 = .ok (.ldc 103, 2) := by decide +kernel
theorem dX2_putOnGloves_14 : decode cX2_putOnGloves 14 = .ok (.invokespecial 86, 3) := by decide +kernel
theorem dX2_putOnGloves_17 : decode cX2_putOnGloves 17 = .ok (.athrow, 1) := by decide +kernel
theorem dX2_putOnGloves_18 : decode cX2_putOnGloves 18 = .ok (.aload_n 0, 1) := by decide +kernel
theorem dX2_putOnGloves_19 : decode cX2_putOnGloves 19 = .ok (.aload_n 0, 1) := by decide +kernel
theorem dX2_putOnGloves_20 : decode cX2_putOnGloves 20 = .ok (.getfield 33, 3) := by decide +kernel
theorem dX2_putOnGloves_23 : decode cX2_putOnGloves 23 = .ok (.invokevirtual 87, 3) := by decide +kernel
theorem dX2_putOnGloves_26 : decode cX2_putOnGloves 26 = .ok (.astore_n 1, 1) := by decide +kernel
theorem dX2_putOnGloves_27 : decode cX2_putOnGloves 27 = .ok (.aload_n 1, 1) := by decide +kernel
theorem dX2_putOnGloves_28 : decode cX2_putOnGloves 28 = .ok (.getfield 105, 3) := by decide +kernel
theorem dX2_putOnGloves_31 : decode cX2_putOnGloves 31 = .ok (.ifCond .eq 13, 3) := by decide +kernel
theorem dX2_putOnGloves_34 : decode cX2_putOnGloves 34 = .ok (.new 82, 3) := by decide +kernel
theorem dX2_putOnGloves_37 : decode cX2_putOnGloves 37 = .ok (.dup, 1) := by decide +kernel
theorem dX2_putOnGloves_38 : decode cX2_putOnGloves 38 = .ok (.ldc 108, 2) := by decide +kernel
theorem dX2_putOnGloves_40 : decode cX2_putOnGloves 40 = .ok (.invokespecial 86, 3) := by decide +kernel
theorem dX2_putOnGloves_43 : decode cX2_putOnGloves 43 = .ok (.athrow, 1) := by decide +kernel
theorem dX2_putOnGloves_44 : decode cX2_putOnGloves 44 = .ok (.aload_n 1, 1) := by decide +kernel
theorem dX2_putOnGloves_45 : decode cX2_putOnGloves 45 = .ok (.iconst 1, 1) := by decide +kernel
theorem dX2_putOnGloves_46 : decode cX2_putOnGloves 46 = .ok (.putfield 105, 3) := by decide +kernel
theorem dX2_putOnGloves_49 : decode cX2_putOnGloves 49 = .ok (.aload_n 0, 1) := by decide +kernel
theorem dX2_putOnGloves_50 : decode cX2_putOnGloves 50 = .ok (.getfield 33, 3) := by decide +kernel
theorem dX2_putOnGloves_53 : decode cX2_putOnGloves 53 = .ok (.ireturn, 1) := by decide +kernel
set_option maxRecDepth 20000 in
theorem ggX2_whyNot_X2_isCard : GoodIn wsX2_whyNot wsX2_isCard := goodIn_r _ [6] (by decide +kernel) (by decide +kernel)
set_option maxRecDepth 20000 in
theorem gX2_whyNot_X2_isCard : GoodIn wsX2_whyNot (va_wsS RX2 68 yX2_isCard wsX2_isCard) := goodIn_app (goodIn_of _ (by decide +kernel)) ggX2_whyNot_X2_isCard
set_option maxRecDepth 20000 in
theorem ggX2_whyNot_X2_reasonAgainst : GoodIn wsX2_whyNot wsX2_reasonAgainst := goodIn_r _ [10, 11, 12, 13, 14, 15, 16, 17, 5, 18, 19, 20, 21, 22, 23, 24, 25, 26, 27, 28, 29, 30, 31, 32, 33, 34, 35, 36, 37, 38, 39, 40, 41, 42, 43, 44, 45, 46, 47, 48, 49, 50, 51, 52, 53, 54, 55, 56, 57, 58, 59, 60, 61] (by decide +kernel) (by decide +kernel)
set_option maxRecDepth 20000 in
theorem gX2_whyNot_X2_reasonAgainst : GoodIn wsX2_whyNot (wsV RX2 78 RX2 yX2_reasonAgainst wsX2_reasonAgainst) := goodIn_app (goodIn_of _ (by decide +kernel)) ggX2_whyNot_X2_reasonAgainst
theorem dX2_whyNot_0 : decode cX2_whyNot 0 = .ok (.iload_n 1, 1) := by decide +kernel
theorem dX2_whyNot_1 : decode cX2_whyNot 1 = .ok (.invokestatic 68, 3) := by decide +kernel
theorem dX2_whyNot_4 : decode cX2_whyNot 4 = .ok (.ifCond .ne 13, 3) := by decide +kernel
theorem dX2_whyNot_7 : decode cX2_whyNot 7 = .ok (.new 71, 3) := by decide +kernel
theorem dX2_whyNot_10 : decode cX2_whyNot 10 = .ok (.dup, 1) := by decide +kernel
theorem dX2_whyNot_11 : decode cX2_whyNot 11 = .ok (.ldc 73, 2) := by decide +kernel
theorem dX2_whyNot_13 : decode cX2_whyNot 13 = .ok (.invokespecial 75, 3) := by decide +kernel
theorem dX2_whyNot_16 : decode cX2_whyNot 16 = .ok (.athrow, 1) := by decide +kernel
theorem dX2_whyNot_17 : decode cX2_whyNot 17 = .ok (.aload_n 0, 1) := by decide +kernel
theorem dX2_whyNot_18 : decode cX2_whyNot 18 = .ok (.iload_n 1, 1) := by decide +kernel
theorem dX2_whyNot_19 : decode cX2_whyNot 19 = .ok (.invokevirtual 78, 3) := by decide +kernel
theorem dX2_whyNot_22 : decode cX2_whyNot 22 = .ok (.ireturn, 1) := by decide +kernel
theorem dX2_isPlaying_0 : decode cX2_isPlaying 0 = .ok (.aload_n 0, 1) := by decide +kernel
theorem dX2_isPlaying_1 : decode cX2_isPlaying 1 = .ok (.getfield 33, 3) := by decide +kernel
theorem dX2_isPlaying_4 : decode cX2_isPlaying 4 = .ok (.iconst (-1), 1) := by decide +kernel
theorem dX2_isPlaying_5 : decode cX2_isPlaying 5 = .ok (.if_icmp .eq 7, 3) := by decide +kernel
theorem dX2_isPlaying_8 : decode cX2_isPlaying 8 = .ok (.iconst 1, 1) := by decide +kernel
theorem dX2_isPlaying_9 : decode cX2_isPlaying 9 = .ok (.goto 4, 3) := by decide +kernel
theorem dX2_isPlaying_12 : decode cX2_isPlaying 12 = .ok (.iconst 0, 1) := by decide +kernel
theorem dX2_isPlaying_13 : decode cX2_isPlaying 13 = .ok (.ireturn, 1) := by decide +kernel
theorem dX2_turn_0 : decode cX2_turn 0 = .ok (.aload_n 0, 1) := by decide +kernel
theorem dX2_turn_1 : decode cX2_turn 1 = .ok (.getfield 33, 3) := by decide +kernel
theorem dX2_turn_4 : decode cX2_turn 4 = .ok (.ireturn, 1) := by decide +kernel
theorem dX2_led_0 : decode cX2_led 0 = .ok (.aload_n 0, 1) := by decide +kernel
theorem dX2_led_1 : decode cX2_led 1 = .ok (.getfield 30, 3) := by decide +kernel
theorem dX2_led_4 : decode cX2_led 4 = .ok (.ireturn, 1) := by decide +kernel
theorem dX2_trumps_0 : decode cX2_trumps 0 = .ok (.aload_n 0, 1) := by decide +kernel
theorem dX2_trumps_1 : decode cX2_trumps 1 = .ok (.getfield 27, 3) := by decide +kernel
theorem dX2_trumps_4 : decode cX2_trumps 4 = .ok (.ireturn, 1) := by decide +kernel
theorem dX2_pile_0 : decode cX2_pile 0 = .ok (.bipush 42, 2) := by decide +kernel
theorem dX2_pile_2 : decode cX2_pile 2 = .ok (.aload_n 0, 1) := by decide +kernel
theorem dX2_pile_3 : decode cX2_pile 3 = .ok (.getfield 23, 3) := by decide +kernel
theorem dX2_pile_6 : decode cX2_pile 6 = .ok (.isub, 1) := by decide +kernel
theorem dX2_pile_7 : decode cX2_pile 7 = .ok (.ireturn, 1) := by decide +kernel
set_option maxRecDepth 20000 in
theorem ggX2_cards_X2_isArchivist : GoodIn wsX2_cards wsX2_isArchivist := goodIn_r _ [7] (by decide +kernel) (by decide +kernel)
set_option maxRecDepth 20000 in
theorem gX2_cards_X2_isArchivist : GoodIn wsX2_cards (va_wsS RX2 110 yX2_isArchivist wsX2_isArchivist) := goodIn_app (goodIn_of _ (by decide +kernel)) ggX2_cards_X2_isArchivist
set_option maxRecDepth 20000 in
theorem ggX2_cards_X2_archivist : GoodIn wsX2_cards wsX2_archivist := goodIn_r _ [11, 12, 13, 26, 27, 28, 29, 30, 31, 32, 33, 34, 35, 36] (by decide +kernel) (by decide +kernel)
set_option maxRecDepth 20000 in
theorem gX2_cards_X2_archivist : GoodIn wsX2_cards (wsV RX2 87 RX2 yX2_archivist wsX2_archivist) := goodIn_app (goodIn_of _ (by decide +kernel)) ggX2_cards_X2_archivist
set_option maxRecDepth 20000 in
theorem ggX2_cards_J13_bitCount_95d88 : GoodIn wsX2_cards wsJ13_bitCount_95d88 := goodIn_r _ [17, 18, 19, 20] (by decide +kernel) (by decide +kernel)
set_option maxRecDepth 20000 in
theorem gX2_cards_J13_bitCount_95d88 : GoodIn wsX2_cards (va_wsS RX2 118 yJ13_bitCount_95d88 wsJ13_bitCount_95d88) := goodIn_app (goodIn_of _ (by decide +kernel)) ggX2_cards_J13_bitCount_95d88
theorem dX2_cards_0 : decode cX2_cards 0 = .ok (.iload_n 1, 1) := by decide +kernel
theorem dX2_cards_1 : decode cX2_cards 1 = .ok (.invokestatic 110, 3) := by decide +kernel
theorem dX2_cards_4 : decode cX2_cards 4 = .ok (.ifCond .ne 13, 3) := by decide +kernel
theorem dX2_cards_7 : decode cX2_cards 7 = .ok (.new 113, 3) := by decide +kernel
theorem dX2_cards_10 : decode cX2_cards 10 = .ok (.dup, 1) := by decide +kernel
theorem dX2_cards_11 : decode cX2_cards 11 = .ok (.ldc 115, 2) := by decide +kernel
theorem dX2_cards_13 : decode cX2_cards 13 = .ok (.invokespecial 117, 3) := by decide +kernel
theorem dX2_cards_16 : decode cX2_cards 16 = .ok (.athrow, 1) := by decide +kernel
theorem dX2_cards_17 : decode cX2_cards 17 = .ok (.aload_n 0, 1) := by decide +kernel
theorem dX2_cards_18 : decode cX2_cards 18 = .ok (.iload_n 1, 1) := by decide +kernel
theorem dX2_cards_19 : decode cX2_cards 19 = .ok (.invokevirtual 87, 3) := by decide +kernel
theorem dX2_cards_22 : decode cX2_cards 22 = .ok (.getfield 91, 3) := by decide +kernel
theorem dX2_cards_25 : decode cX2_cards 25 = .ok (.invokestatic 118, 3) := by decide +kernel
theorem dX2_cards_28 : decode cX2_cards 28 = .ok (.ireturn, 1) := by decide +kernel
set_option maxRecDepth 20000 in
theorem ggX2_cardAt_X2_isArchivist : GoodIn wsX2_cardAt wsX2_isArchivist := goodIn_r _ [7] (by decide +kernel) (by decide +kernel)
set_option maxRecDepth 20000 in
theorem gX2_cardAt_X2_isArchivist : GoodIn wsX2_cardAt (va_wsS RX2 110 yX2_isArchivist wsX2_isArchivist) := goodIn_app (goodIn_of _ (by decide +kernel)) ggX2_cardAt_X2_isArchivist
set_option maxRecDepth 20000 in
theorem ggX2_cardAt_X2_archivist : GoodIn wsX2_cardAt wsX2_archivist := goodIn_r _ [11, 12, 13, 25, 26, 27, 28, 29, 30, 31, 32, 33, 34, 35] (by decide +kernel) (by decide +kernel)
set_option maxRecDepth 20000 in
theorem gX2_cardAt_X2_archivist : GoodIn wsX2_cardAt (wsV RX2 87 RX2 yX2_archivist wsX2_archivist) := goodIn_app (goodIn_of _ (by decide +kernel)) ggX2_cardAt_X2_archivist
set_option maxRecDepth 20000 in
theorem ggX2_cardAt_X2_has : GoodIn wsX2_cardAt wsX2_has := goodIn_r _ [16, 17, 18, 6, 19] (by decide +kernel) (by decide +kernel)
set_option maxRecDepth 20000 in
theorem gX2_cardAt_X2_has : GoodIn wsX2_cardAt (va_wsS RX2 124 yX2_has wsX2_has) := goodIn_app (goodIn_of _ (by decide +kernel)) ggX2_cardAt_X2_has
theorem dX2_cardAt_0 : decode cX2_cardAt 0 = .ok (.iload_n 1, 1) := by decide +kernel
theorem dX2_cardAt_1 : decode cX2_cardAt 1 = .ok (.invokestatic 110, 3) := by decide +kernel
theorem dX2_cardAt_4 : decode cX2_cardAt 4 = .ok (.ifCond .ne 13, 3) := by decide +kernel
theorem dX2_cardAt_7 : decode cX2_cardAt 7 = .ok (.new 113, 3) := by decide +kernel
theorem dX2_cardAt_10 : decode cX2_cardAt 10 = .ok (.dup, 1) := by decide +kernel
theorem dX2_cardAt_11 : decode cX2_cardAt 11 = .ok (.ldc 115, 2) := by decide +kernel
theorem dX2_cardAt_13 : decode cX2_cardAt 13 = .ok (.invokespecial 117, 3) := by decide +kernel
theorem dX2_cardAt_16 : decode cX2_cardAt 16 = .ok (.athrow, 1) := by decide +kernel
theorem dX2_cardAt_17 : decode cX2_cardAt 17 = .ok (.aload_n 0, 1) := by decide +kernel
theorem dX2_cardAt_18 : decode cX2_cardAt 18 = .ok (.iload_n 1, 1) := by decide +kernel
theorem dX2_cardAt_19 : decode cX2_cardAt 19 = .ok (.invokevirtual 87, 3) := by decide +kernel
theorem dX2_cardAt_22 : decode cX2_cardAt 22 = .ok (.getfield 91, 3) := by decide +kernel
theorem dX2_cardAt_25 : decode cX2_cardAt 25 = .ok (.lstore_n 3, 1) := by decide +kernel
theorem dX2_cardAt_26 : decode cX2_cardAt 26 = .ok (.iconst 0, 1) := by decide +kernel
theorem dX2_cardAt_27 : decode cX2_cardAt 27 = .ok (.istore 5, 2) := by decide +kernel
theorem dX2_cardAt_29 : decode cX2_cardAt 29 = .ok (.iconst 0, 1) := by decide +kernel
theorem dX2_cardAt_30 : decode cX2_cardAt 30 = .ok (.istore 6, 2) := by decide +kernel
theorem dX2_cardAt_32 : decode cX2_cardAt 32 = .ok (.iload 6, 2) := by decide +kernel
theorem dX2_cardAt_34 : decode cX2_cardAt 34 = .ok (.bipush 42, 2) := by decide +kernel
theorem dX2_cardAt_36 : decode cX2_cardAt 36 = .ok (.if_icmp .ge 30, 3) := by decide +kernel
theorem dX2_cardAt_39 : decode cX2_cardAt 39 = .ok (.lload_n 3, 1) := by decide +kernel
theorem dX2_cardAt_40 : decode cX2_cardAt 40 = .ok (.iload 6, 2) := by decide +kernel
theorem dX2_cardAt_42 : decode cX2_cardAt 42 = .ok (.invokestatic 124, 3) := by decide +kernel
theorem dX2_cardAt_45 : decode cX2_cardAt 45 = .ok (.ifCond .eq 15, 3) := by decide +kernel
theorem dX2_cardAt_48 : decode cX2_cardAt 48 = .ok (.iload 5, 2) := by decide +kernel
theorem dX2_cardAt_50 : decode cX2_cardAt 50 = .ok (.iload_n 2, 1) := by decide +kernel
theorem dX2_cardAt_51 : decode cX2_cardAt 51 = .ok (.if_icmp .ne 6, 3) := by decide +kernel
theorem dX2_cardAt_54 : decode cX2_cardAt 54 = .ok (.iload 6, 2) := by decide +kernel
theorem dX2_cardAt_56 : decode cX2_cardAt 56 = .ok (.ireturn, 1) := by decide +kernel
theorem dX2_cardAt_57 : decode cX2_cardAt 57 = .ok (.iinc 5 1, 3) := by decide +kernel
theorem dX2_cardAt_60 : decode cX2_cardAt 60 = .ok (.iinc 6 1, 3) := by decide +kernel
theorem dX2_cardAt_63 : decode cX2_cardAt 63 = .ok (.goto (-31), 3) := by decide +kernel
theorem dX2_cardAt_66 : decode cX2_cardAt 66 = .ok (.new 113, 3) := by decide +kernel
theorem dX2_cardAt_69 : decode cX2_cardAt 69 = .ok (.dup, 1) := by decide +kernel
theorem dX2_cardAt_70 : decode cX2_cardAt 70 = .ok (.ldc 128, 2) := by decide +kernel
theorem dX2_cardAt_72 : decode cX2_cardAt 72 = .ok (.invokespecial 117, 3) := by decide +kernel
theorem dX2_cardAt_75 : decode cX2_cardAt 75 = .ok (.athrow, 1) := by decide +kernel
set_option maxRecDepth 20000 in
theorem ggX2_placeOf_X2_isCard : GoodIn wsX2_placeOf wsX2_isCard := goodIn_r _ [12] (by decide +kernel) (by decide +kernel)
set_option maxRecDepth 20000 in
theorem gX2_placeOf_X2_isCard : GoodIn wsX2_placeOf (va_wsS RX2 68 yX2_isCard wsX2_isCard) := goodIn_app (goodIn_of _ (by decide +kernel)) ggX2_placeOf_X2_isCard
set_option maxRecDepth 20000 in
theorem ggX2_placeOf_X2_has : GoodIn wsX2_placeOf wsX2_has := goodIn_r _ [15, 16, 17, 11, 18] (by decide +kernel) (by decide +kernel)
set_option maxRecDepth 20000 in
theorem gX2_placeOf_X2_has : GoodIn wsX2_placeOf (va_wsS RX2 124 yX2_has wsX2_has) := goodIn_app (goodIn_of _ (by decide +kernel)) ggX2_placeOf_X2_has
theorem dX2_placeOf_0 : decode cX2_placeOf 0 = .ok (.iload_n 1, 1) := by decide +kernel
theorem dX2_placeOf_1 : decode cX2_placeOf 1 = .ok (.invokestatic 68, 3) := by decide +kernel
theorem dX2_placeOf_4 : decode cX2_placeOf 4 = .ok (.ifCond .ne 13, 3) := by decide +kernel
theorem dX2_placeOf_7 : decode cX2_placeOf 7 = .ok (.new 71, 3) := by decide +kernel
theorem dX2_placeOf_10 : decode cX2_placeOf 10 = .ok (.dup, 1) := by decide +kernel
theorem dX2_placeOf_11 : decode cX2_placeOf 11 = .ok (.ldc 73, 2) := by decide +kernel
theorem dX2_placeOf_13 : decode cX2_placeOf 13 = .ok (.invokespecial 75, 3) := by decide +kernel
theorem dX2_placeOf_16 : decode cX2_placeOf 16 = .ok (.athrow, 1) := by decide +kernel
theorem dX2_placeOf_17 : decode cX2_placeOf 17 = .ok (.aload_n 0, 1) := by decide +kernel
theorem dX2_placeOf_18 : decode cX2_placeOf 18 = .ok (.getfield 27, 3) := by decide +kernel
theorem dX2_placeOf_21 : decode cX2_placeOf 21 = .ok (.iconst (-1), 1) := by decide +kernel
theorem dX2_placeOf_22 : decode cX2_placeOf 22 = .ok (.if_icmp .ne 5, 3) := by decide +kernel
theorem dX2_placeOf_25 : decode cX2_placeOf 25 = .ok (.iconst (-1), 1) := by decide +kernel
theorem dX2_placeOf_26 : decode cX2_placeOf 26 = .ok (.ireturn, 1) := by decide +kernel
theorem dX2_placeOf_27 : decode cX2_placeOf 27 = .ok (.aload_n 0, 1) := by decide +kernel
theorem dX2_placeOf_28 : decode cX2_placeOf 28 = .ok (.getfield 16, 3) := by decide +kernel
theorem dX2_placeOf_31 : decode cX2_placeOf 31 = .ok (.getfield 91, 3) := by decide +kernel
theorem dX2_placeOf_34 : decode cX2_placeOf 34 = .ok (.iload_n 1, 1) := by decide +kernel
theorem dX2_placeOf_35 : decode cX2_placeOf 35 = .ok (.invokestatic 124, 3) := by decide +kernel
theorem dX2_placeOf_38 : decode cX2_placeOf 38 = .ok (.ifCond .eq 5, 3) := by decide +kernel
theorem dX2_placeOf_41 : decode cX2_placeOf 41 = .ok (.iconst 0, 1) := by decide +kernel
theorem dX2_placeOf_42 : decode cX2_placeOf 42 = .ok (.ireturn, 1) := by decide +kernel
theorem dX2_placeOf_43 : decode cX2_placeOf 43 = .ok (.aload_n 0, 1) := by decide +kernel
theorem dX2_placeOf_44 : decode cX2_placeOf 44 = .ok (.getfield 20, 3) := by decide +kernel
theorem dX2_placeOf_47 : decode cX2_placeOf 47 = .ok (.getfield 91, 3) := by decide +kernel
theorem dX2_placeOf_50 : decode cX2_placeOf 50 = .ok (.iload_n 1, 1) := by decide +kernel
theorem dX2_placeOf_51 : decode cX2_placeOf 51 = .ok (.invokestatic 124, 3) := by decide +kernel
theorem dX2_placeOf_54 : decode cX2_placeOf 54 = .ok (.ifCond .eq 5, 3) := by decide +kernel
theorem dX2_placeOf_57 : decode cX2_placeOf 57 = .ok (.iconst 1, 1) := by decide +kernel
theorem dX2_placeOf_58 : decode cX2_placeOf 58 = .ok (.ireturn, 1) := by decide +kernel
theorem dX2_placeOf_59 : decode cX2_placeOf 59 = .ok (.aload_n 0, 1) := by decide +kernel
theorem dX2_placeOf_60 : decode cX2_placeOf 60 = .ok (.getfield 16, 3) := by decide +kernel
theorem dX2_placeOf_63 : decode cX2_placeOf 63 = .ok (.getfield 130, 3) := by decide +kernel
theorem dX2_placeOf_66 : decode cX2_placeOf 66 = .ok (.iload_n 1, 1) := by decide +kernel
theorem dX2_placeOf_67 : decode cX2_placeOf 67 = .ok (.invokestatic 124, 3) := by decide +kernel
theorem dX2_placeOf_70 : decode cX2_placeOf 70 = .ok (.ifCond .eq 5, 3) := by decide +kernel
theorem dX2_placeOf_73 : decode cX2_placeOf 73 = .ok (.iconst 4, 1) := by decide +kernel
theorem dX2_placeOf_74 : decode cX2_placeOf 74 = .ok (.ireturn, 1) := by decide +kernel
theorem dX2_placeOf_75 : decode cX2_placeOf 75 = .ok (.aload_n 0, 1) := by decide +kernel
theorem dX2_placeOf_76 : decode cX2_placeOf 76 = .ok (.getfield 20, 3) := by decide +kernel
theorem dX2_placeOf_79 : decode cX2_placeOf 79 = .ok (.getfield 130, 3) := by decide +kernel
theorem dX2_placeOf_82 : decode cX2_placeOf 82 = .ok (.iload_n 1, 1) := by decide +kernel
theorem dX2_placeOf_83 : decode cX2_placeOf 83 = .ok (.invokestatic 124, 3) := by decide +kernel
theorem dX2_placeOf_86 : decode cX2_placeOf 86 = .ok (.ifCond .eq 5, 3) := by decide +kernel
theorem dX2_placeOf_89 : decode cX2_placeOf 89 = .ok (.iconst 5, 1) := by decide +kernel
theorem dX2_placeOf_90 : decode cX2_placeOf 90 = .ok (.ireturn, 1) := by decide +kernel
theorem dX2_placeOf_91 : decode cX2_placeOf 91 = .ok (.iload_n 1, 1) := by decide +kernel
theorem dX2_placeOf_92 : decode cX2_placeOf 92 = .ok (.aload_n 0, 1) := by decide +kernel
theorem dX2_placeOf_93 : decode cX2_placeOf 93 = .ok (.getfield 30, 3) := by decide +kernel
theorem dX2_placeOf_96 : decode cX2_placeOf 96 = .ok (.if_icmp .ne 7, 3) := by decide +kernel
theorem dX2_placeOf_99 : decode cX2_placeOf 99 = .ok (.iconst 3, 1) := by decide +kernel
theorem dX2_placeOf_100 : decode cX2_placeOf 100 = .ok (.goto 4, 3) := by decide +kernel
theorem dX2_placeOf_103 : decode cX2_placeOf 103 = .ok (.iconst 2, 1) := by decide +kernel
theorem dX2_placeOf_104 : decode cX2_placeOf 104 = .ok (.ireturn, 1) := by decide +kernel
set_option maxRecDepth 20000 in
theorem ggX2_points_X2_isArchivist : GoodIn wsX2_points wsX2_isArchivist := goodIn_r _ [7] (by decide +kernel) (by decide +kernel)
set_option maxRecDepth 20000 in
theorem gX2_points_X2_isArchivist : GoodIn wsX2_points (va_wsS RX2 110 yX2_isArchivist wsX2_isArchivist) := goodIn_app (goodIn_of _ (by decide +kernel)) ggX2_points_X2_isArchivist
set_option maxRecDepth 20000 in
theorem ggX2_points_X2_archivist : GoodIn wsX2_points wsX2_archivist := goodIn_r _ [11, 12, 13, 19, 20, 21, 22, 23, 24, 25, 26, 27, 28, 29] (by decide +kernel) (by decide +kernel)
set_option maxRecDepth 20000 in
theorem gX2_points_X2_archivist : GoodIn wsX2_points (wsV RX2 87 RX2 yX2_archivist wsX2_archivist) := goodIn_app (goodIn_of _ (by decide +kernel)) ggX2_points_X2_archivist
theorem dX2_points_0 : decode cX2_points 0 = .ok (.iload_n 1, 1) := by decide +kernel
theorem dX2_points_1 : decode cX2_points 1 = .ok (.invokestatic 110, 3) := by decide +kernel
theorem dX2_points_4 : decode cX2_points 4 = .ok (.ifCond .ne 13, 3) := by decide +kernel
theorem dX2_points_7 : decode cX2_points 7 = .ok (.new 113, 3) := by decide +kernel
theorem dX2_points_10 : decode cX2_points 10 = .ok (.dup, 1) := by decide +kernel
theorem dX2_points_11 : decode cX2_points 11 = .ok (.ldc 115, 2) := by decide +kernel
theorem dX2_points_13 : decode cX2_points 13 = .ok (.invokespecial 117, 3) := by decide +kernel
theorem dX2_points_16 : decode cX2_points 16 = .ok (.athrow, 1) := by decide +kernel
theorem dX2_points_17 : decode cX2_points 17 = .ok (.aload_n 0, 1) := by decide +kernel
theorem dX2_points_18 : decode cX2_points 18 = .ok (.iload_n 1, 1) := by decide +kernel
theorem dX2_points_19 : decode cX2_points 19 = .ok (.invokevirtual 87, 3) := by decide +kernel
theorem dX2_points_22 : decode cX2_points 22 = .ok (.getfield 133, 3) := by decide +kernel
theorem dX2_points_25 : decode cX2_points 25 = .ok (.ireturn, 1) := by decide +kernel
set_option maxRecDepth 20000 in
theorem ggX2_tricks_X2_isArchivist : GoodIn wsX2_tricks wsX2_isArchivist := goodIn_r _ [7] (by decide +kernel) (by decide +kernel)
set_option maxRecDepth 20000 in
theorem gX2_tricks_X2_isArchivist : GoodIn wsX2_tricks (va_wsS RX2 110 yX2_isArchivist wsX2_isArchivist) := goodIn_app (goodIn_of _ (by decide +kernel)) ggX2_tricks_X2_isArchivist
set_option maxRecDepth 20000 in
theorem ggX2_tricks_X2_archivist : GoodIn wsX2_tricks wsX2_archivist := goodIn_r _ [11, 12, 13, 19, 20, 21, 22, 23, 24, 25, 26, 27, 28, 29] (by decide +kernel) (by decide +kernel)
set_option maxRecDepth 20000 in
theorem gX2_tricks_X2_archivist : GoodIn wsX2_tricks (wsV RX2 87 RX2 yX2_archivist wsX2_archivist) := goodIn_app (goodIn_of _ (by decide +kernel)) ggX2_tricks_X2_archivist
theorem dX2_tricks_0 : decode cX2_tricks 0 = .ok (.iload_n 1, 1) := by decide +kernel
theorem dX2_tricks_1 : decode cX2_tricks 1 = .ok (.invokestatic 110, 3) := by decide +kernel
theorem dX2_tricks_4 : decode cX2_tricks 4 = .ok (.ifCond .ne 13, 3) := by decide +kernel
theorem dX2_tricks_7 : decode cX2_tricks 7 = .ok (.new 113, 3) := by decide +kernel
theorem dX2_tricks_10 : decode cX2_tricks 10 = .ok (.dup, 1) := by decide +kernel
theorem dX2_tricks_11 : decode cX2_tricks 11 = .ok (.ldc 115, 2) := by decide +kernel
theorem dX2_tricks_13 : decode cX2_tricks 13 = .ok (.invokespecial 117, 3) := by decide +kernel
theorem dX2_tricks_16 : decode cX2_tricks 16 = .ok (.athrow, 1) := by decide +kernel
theorem dX2_tricks_17 : decode cX2_tricks 17 = .ok (.aload_n 0, 1) := by decide +kernel
theorem dX2_tricks_18 : decode cX2_tricks 18 = .ok (.iload_n 1, 1) := by decide +kernel
theorem dX2_tricks_19 : decode cX2_tricks 19 = .ok (.invokevirtual 87, 3) := by decide +kernel
theorem dX2_tricks_22 : decode cX2_tricks 22 = .ok (.getfield 136, 3) := by decide +kernel
theorem dX2_tricks_25 : decode cX2_tricks 25 = .ok (.ireturn, 1) := by decide +kernel
set_option maxRecDepth 20000 in
theorem ggX2_gloves_X2_isArchivist : GoodIn wsX2_gloves wsX2_isArchivist := goodIn_r _ [7] (by decide +kernel) (by decide +kernel)
set_option maxRecDepth 20000 in
theorem gX2_gloves_X2_isArchivist : GoodIn wsX2_gloves (va_wsS RX2 110 yX2_isArchivist wsX2_isArchivist) := goodIn_app (goodIn_of _ (by decide +kernel)) ggX2_gloves_X2_isArchivist
set_option maxRecDepth 20000 in
theorem ggX2_gloves_X2_archivist : GoodIn wsX2_gloves wsX2_archivist := goodIn_r _ [11, 12, 13, 19, 20, 21, 22, 23, 24, 25, 26, 27, 28, 29] (by decide +kernel) (by decide +kernel)
set_option maxRecDepth 20000 in
theorem gX2_gloves_X2_archivist : GoodIn wsX2_gloves (wsV RX2 87 RX2 yX2_archivist wsX2_archivist) := goodIn_app (goodIn_of _ (by decide +kernel)) ggX2_gloves_X2_archivist
theorem dX2_gloves_0 : decode cX2_gloves 0 = .ok (.iload_n 1, 1) := by decide +kernel
theorem dX2_gloves_1 : decode cX2_gloves 1 = .ok (.invokestatic 110, 3) := by decide +kernel
theorem dX2_gloves_4 : decode cX2_gloves 4 = .ok (.ifCond .ne 13, 3) := by decide +kernel
theorem dX2_gloves_7 : decode cX2_gloves 7 = .ok (.new 113, 3) := by decide +kernel
theorem dX2_gloves_10 : decode cX2_gloves 10 = .ok (.dup, 1) := by decide +kernel
theorem dX2_gloves_11 : decode cX2_gloves 11 = .ok (.ldc 115, 2) := by decide +kernel
theorem dX2_gloves_13 : decode cX2_gloves 13 = .ok (.invokespecial 117, 3) := by decide +kernel
theorem dX2_gloves_16 : decode cX2_gloves 16 = .ok (.athrow, 1) := by decide +kernel
theorem dX2_gloves_17 : decode cX2_gloves 17 = .ok (.aload_n 0, 1) := by decide +kernel
theorem dX2_gloves_18 : decode cX2_gloves 18 = .ok (.iload_n 1, 1) := by decide +kernel
theorem dX2_gloves_19 : decode cX2_gloves 19 = .ok (.invokevirtual 87, 3) := by decide +kernel
theorem dX2_gloves_22 : decode cX2_gloves 22 = .ok (.getfield 105, 3) := by decide +kernel
theorem dX2_gloves_25 : decode cX2_gloves 25 = .ok (.ireturn, 1) := by decide +kernel
set_option maxRecDepth 20000 in
theorem ggX2_choices_X2_reasonAgainst : GoodIn wsX2_choices wsX2_reasonAgainst := goodIn_r _ [5, 6, 7, 8, 9, 10, 11, 12, 4, 13, 14, 15, 16, 17, 18, 19, 20, 21, 22, 23, 24, 25, 26, 27, 28, 29, 30, 31, 32, 33, 34, 35, 36, 37, 38, 39, 40, 41, 42, 43, 44, 45, 46, 47, 48, 49, 50, 51, 52, 53, 54, 55, 56] (by decide +kernel) (by decide +kernel)
set_option maxRecDepth 20000 in
theorem gX2_choices_X2_reasonAgainst : GoodIn wsX2_choices (wsV RX2 78 RX2 yX2_reasonAgainst wsX2_reasonAgainst) := goodIn_app (goodIn_of _ (by decide +kernel)) ggX2_choices_X2_reasonAgainst
theorem dX2_choices_0 : decode cX2_choices 0 = .ok (.iconst 0, 1) := by decide +kernel
theorem dX2_choices_1 : decode cX2_choices 1 = .ok (.istore_n 1, 1) := by decide +kernel
theorem dX2_choices_2 : decode cX2_choices 2 = .ok (.iconst 0, 1) := by decide +kernel
theorem dX2_choices_3 : decode cX2_choices 3 = .ok (.istore_n 2, 1) := by decide +kernel
theorem dX2_choices_4 : decode cX2_choices 4 = .ok (.iload_n 2, 1) := by decide +kernel
theorem dX2_choices_5 : decode cX2_choices 5 = .ok (.bipush 42, 2) := by decide +kernel
theorem dX2_choices_7 : decode cX2_choices 7 = .ok (.if_icmp .ge 20, 3) := by decide +kernel
theorem dX2_choices_10 : decode cX2_choices 10 = .ok (.aload_n 0, 1) := by decide +kernel
theorem dX2_choices_11 : decode cX2_choices 11 = .ok (.iload_n 2, 1) := by decide +kernel
theorem dX2_choices_12 : decode cX2_choices 12 = .ok (.invokevirtual 78, 3) := by decide +kernel
theorem dX2_choices_15 : decode cX2_choices 15 = .ok (.ifCond .ne 6, 3) := by decide +kernel
theorem dX2_choices_18 : decode cX2_choices 18 = .ok (.iinc 1 1, 3) := by decide +kernel
theorem dX2_choices_21 : decode cX2_choices 21 = .ok (.iinc 2 1, 3) := by decide +kernel
theorem dX2_choices_24 : decode cX2_choices 24 = .ok (.goto (-20), 3) := by decide +kernel
theorem dX2_choices_27 : decode cX2_choices 27 = .ok (.iload_n 1, 1) := by decide +kernel
theorem dX2_choices_28 : decode cX2_choices 28 = .ok (.ireturn, 1) := by decide +kernel
set_option maxRecDepth 20000 in
theorem ggX2_wouldTake_X2_isCard : GoodIn wsX2_wouldTake wsX2_isCard := goodIn_r _ [9] (by decide +kernel) (by decide +kernel)
set_option maxRecDepth 20000 in
theorem gX2_wouldTake_X2_isCard : GoodIn wsX2_wouldTake (va_wsS RX2 68 yX2_isCard wsX2_isCard) := goodIn_app (goodIn_of _ (by decide +kernel)) ggX2_wouldTake_X2_isCard
set_option maxRecDepth 20000 in
theorem ggX2_wouldTake_X2_takerBy : GoodIn wsX2_wouldTake wsX2_takerBy := goodIn_r _ [13, 5, 14, 15, 16, 17, 8, 18, 19, 20, 21, 22, 23, 24, 25, 26, 27, 28, 29, 30, 31, 32] (by decide +kernel) (by decide +kernel)
set_option maxRecDepth 20000 in
theorem gX2_wouldTake_X2_takerBy : GoodIn wsX2_wouldTake (wsV RX2 141 RX2 yX2_takerBy wsX2_takerBy) := goodIn_app (goodIn_of _ (by decide +kernel)) ggX2_wouldTake_X2_takerBy
theorem dX2_wouldTake_0 : decode cX2_wouldTake 0 = .ok (.iload_n 1, 1) := by decide +kernel
theorem dX2_wouldTake_1 : decode cX2_wouldTake 1 = .ok (.invokestatic 68, 3) := by decide +kernel
theorem dX2_wouldTake_4 : decode cX2_wouldTake 4 = .ok (.ifCond .ne 13, 3) := by decide +kernel
theorem dX2_wouldTake_7 : decode cX2_wouldTake 7 = .ok (.new 71, 3) := by decide +kernel
theorem dX2_wouldTake_10 : decode cX2_wouldTake 10 = .ok (.dup, 1) := by decide +kernel
theorem dX2_wouldTake_11 : decode cX2_wouldTake 11 = .ok (.ldc 73, 2) := by decide +kernel
theorem dX2_wouldTake_13 : decode cX2_wouldTake 13 = .ok (.invokespecial 75, 3) := by decide +kernel
theorem dX2_wouldTake_16 : decode cX2_wouldTake 16 = .ok (.athrow, 1) := by decide +kernel
theorem dX2_wouldTake_17 : decode cX2_wouldTake 17 = .ok (.aload_n 0, 1) := by decide +kernel
theorem dX2_wouldTake_18 : decode cX2_wouldTake 18 = .ok (.getfield 30, 3) := by decide +kernel
theorem dX2_wouldTake_21 : decode cX2_wouldTake 21 = .ok (.iconst (-1), 1) := by decide +kernel
theorem dX2_wouldTake_22 : decode cX2_wouldTake 22 = .ok (.if_icmp .eq 11, 3) := by decide +kernel
theorem dX2_wouldTake_25 : decode cX2_wouldTake 25 = .ok (.aload_n 0, 1) := by decide +kernel
theorem dX2_wouldTake_26 : decode cX2_wouldTake 26 = .ok (.getfield 30, 3) := by decide +kernel
theorem dX2_wouldTake_29 : decode cX2_wouldTake 29 = .ok (.iload_n 1, 1) := by decide +kernel
theorem dX2_wouldTake_30 : decode cX2_wouldTake 30 = .ok (.if_icmp .ne 13, 3) := by decide +kernel
theorem dX2_wouldTake_33 : decode cX2_wouldTake 33 = .ok (.new 82, 3) := by decide +kernel
theorem dX2_wouldTake_36 : decode cX2_wouldTake 36 = .ok (.dup, 1) := by decide +kernel
theorem dX2_wouldTake_37 : decode cX2_wouldTake 37 = .ok (.ldc 139, 2) := by decide +kernel
theorem dX2_wouldTake_39 : decode cX2_wouldTake 39 = .ok (.invokespecial 86, 3) := by decide +kernel
theorem dX2_wouldTake_42 : decode cX2_wouldTake 42 = .ok (.athrow, 1) := by decide +kernel
theorem dX2_wouldTake_43 : decode cX2_wouldTake 43 = .ok (.aload_n 0, 1) := by decide +kernel
theorem dX2_wouldTake_44 : decode cX2_wouldTake 44 = .ok (.iload_n 1, 1) := by decide +kernel
theorem dX2_wouldTake_45 : decode cX2_wouldTake 45 = .ok (.invokevirtual 141, 3) := by decide +kernel
theorem dX2_wouldTake_48 : decode cX2_wouldTake 48 = .ok (.ireturn, 1) := by decide +kernel
set_option maxRecDepth 20000 in
theorem ggX2_best_X2_isEnding : GoodIn wsX2_best wsX2_isEnding := goodIn_r _ [9, 4, 10, 116, 117, 118, 119, 120, 121, 122, 123, 124, 125, 126] (by decide +kernel) (by decide +kernel)
set_option maxRecDepth 20000 in
theorem gX2_best_X2_isEnding : GoodIn wsX2_best (wsV RX2 144 RX2 yX2_isEnding wsX2_isEnding) := goodIn_app (goodIn_of _ (by decide +kernel)) ggX2_best_X2_isEnding
set_option maxRecDepth 20000 in
theorem ggX2_best_X2_begunEnding : GoodIn wsX2_best wsX2_begunEnding := goodIn_r _ [14, 15, 16, 17, 18, 19, 20, 21, 22, 23, 24, 25, 26, 27, 28, 29, 30, 31, 32, 33, 34, 35, 36, 37, 38, 39, 40, 41, 116, 117, 118, 119, 120, 121, 122, 123, 124, 125, 126, 127, 128, 129, 130, 131, 132, 133, 134, 135] (by decide +kernel) (by decide +kernel)
set_option maxRecDepth 20000 in
theorem gX2_best_X2_begunEnding : GoodIn wsX2_best (wsV RX2 150 RX2 yX2_begunEnding wsX2_begunEnding) := goodIn_app (goodIn_of _ (by decide +kernel)) ggX2_best_X2_begunEnding
set_option maxRecDepth 20000 in
theorem ggX2_best_X2_moversHand : GoodIn wsX2_best wsX2_moversHand := goodIn_r _ [45, 4, 21, 46, 47, 48, 8, 49, 20, 22, 116, 117, 118, 119, 120, 121, 122, 123, 124, 125, 126, 131, 132, 133, 134, 135] (by decide +kernel) (by decide +kernel)
set_option maxRecDepth 20000 in
theorem gX2_best_X2_moversHand : GoodIn wsX2_best (wsV RX2 154 RX2 yX2_moversHand wsX2_moversHand) := goodIn_app (goodIn_of _ (by decide +kernel)) ggX2_best_X2_moversHand
set_option maxRecDepth 20000 in
theorem ggX2_best_X2_othersHand : GoodIn wsX2_best wsX2_othersHand := goodIn_r _ [53, 4, 21, 46, 47, 48, 8, 49, 20, 22, 116, 117, 118, 119, 120, 121, 122, 123, 124, 125, 126, 131, 132, 133, 134, 135] (by decide +kernel) (by decide +kernel)
set_option maxRecDepth 20000 in
theorem gX2_best_X2_othersHand : GoodIn wsX2_best (wsV RX2 158 RX2 yX2_othersHand wsX2_othersHand) := goodIn_app (goodIn_of _ (by decide +kernel)) ggX2_best_X2_othersHand
set_option maxRecDepth 20000 in
theorem ggX2_best_X2_glovesWorn : GoodIn wsX2_best wsX2_glovesWorn := goodIn_r _ [57, 20, 58, 22, 116, 117, 118, 119, 120, 121, 122, 123, 124, 125, 126, 131, 132, 133, 134, 135] (by decide +kernel) (by decide +kernel)
set_option maxRecDepth 20000 in
theorem gX2_best_X2_glovesWorn : GoodIn wsX2_best (wsV RX2 161 RX2 yX2_glovesWorn wsX2_glovesWorn) := goodIn_app (goodIn_of _ (by decide +kernel)) ggX2_best_X2_glovesWorn
set_option maxRecDepth 20000 in
theorem ggX2_best_X1_bestMargin : GoodIn wsX2_best wsX1_bestMargin := goodIn_r _ [62, 63, 64, 65, 18, 66, 67, 68, 69, 70, 71, 72, 73, 74, 33, 75, 8, 76, 77, 78, 79, 80, 81, 82, 83, 84, 85, 86, 87, 88, 89, 90, 91, 92, 93, 94, 95, 96, 97, 98, 99, 100, 101, 102, 103, 104, 105, 106, 107, 108, 30, 109, 110, 111, 112, 31, 32, 113, 114, 115, 127, 128, 129, 130] (by decide +kernel) (by decide +kernel)
set_option maxRecDepth 20000 in
theorem gX2_best_X1_bestMargin : GoodIn wsX2_best (wsV RX2 165 RX1 yX1_bestMargin wsX1_bestMargin) := goodIn_app (goodIn_of _ (by decide +kernel)) ggX2_best_X1_bestMargin
theorem dX2_best_0 : decode cX2_best 0 = .ok (.aload_n 0, 1) := by decide +kernel
theorem dX2_best_1 : decode cX2_best 1 = .ok (.invokevirtual 144, 3) := by decide +kernel
theorem dX2_best_4 : decode cX2_best 4 = .ok (.ifCond .ne 13, 3) := by decide +kernel
theorem dX2_best_7 : decode cX2_best 7 = .ok (.new 82, 3) := by decide +kernel
theorem dX2_best_10 : decode cX2_best 10 = .ok (.dup, 1) := by decide +kernel
theorem dX2_best_11 : decode cX2_best 11 = .ok (.ldc 148, 2) := by decide +kernel
theorem dX2_best_13 : decode cX2_best 13 = .ok (.invokespecial 86, 3) := by decide +kernel
theorem dX2_best_16 : decode cX2_best 16 = .ok (.athrow, 1) := by decide +kernel
theorem dX2_best_17 : decode cX2_best 17 = .ok (.aload_n 0, 1) := by decide +kernel
theorem dX2_best_18 : decode cX2_best 18 = .ok (.invokevirtual 150, 3) := by decide +kernel
theorem dX2_best_21 : decode cX2_best 21 = .ok (.aload_n 0, 1) := by decide +kernel
theorem dX2_best_22 : decode cX2_best 22 = .ok (.invokevirtual 154, 3) := by decide +kernel
theorem dX2_best_25 : decode cX2_best 25 = .ok (.aload_n 0, 1) := by decide +kernel
theorem dX2_best_26 : decode cX2_best 26 = .ok (.invokevirtual 158, 3) := by decide +kernel
theorem dX2_best_29 : decode cX2_best 29 = .ok (.aload_n 0, 1) := by decide +kernel
theorem dX2_best_30 : decode cX2_best 30 = .ok (.getfield 30, 3) := by decide +kernel
theorem dX2_best_33 : decode cX2_best 33 = .ok (.aload_n 0, 1) := by decide +kernel
theorem dX2_best_34 : decode cX2_best 34 = .ok (.getfield 33, 3) := by decide +kernel
theorem dX2_best_37 : decode cX2_best 37 = .ok (.aload_n 0, 1) := by decide +kernel
theorem dX2_best_38 : decode cX2_best 38 = .ok (.invokevirtual 161, 3) := by decide +kernel
theorem dX2_best_41 : decode cX2_best 41 = .ok (.invokevirtual 165, 3) := by decide +kernel
theorem dX2_best_44 : decode cX2_best 44 = .ok (.ireturn, 1) := by decide +kernel
set_option maxRecDepth 20000 in
theorem ggX2_bestCard_X2_isEnding : GoodIn wsX2_bestCard wsX2_isEnding := goodIn_r _ [9, 4, 10, 116, 117, 118, 119, 120, 121, 122, 123, 124, 125, 126] (by decide +kernel) (by decide +kernel)
set_option maxRecDepth 20000 in
theorem gX2_bestCard_X2_isEnding : GoodIn wsX2_bestCard (wsV RX2 144 RX2 yX2_isEnding wsX2_isEnding) := goodIn_app (goodIn_of _ (by decide +kernel)) ggX2_bestCard_X2_isEnding
set_option maxRecDepth 20000 in
theorem ggX2_bestCard_X2_begunEnding : GoodIn wsX2_bestCard wsX2_begunEnding := goodIn_r _ [14, 15, 16, 17, 18, 19, 20, 21, 22, 23, 24, 25, 26, 27, 28, 29, 30, 31, 32, 33, 34, 35, 36, 37, 38, 39, 40, 41, 116, 117, 118, 119, 120, 121, 122, 123, 124, 125, 126, 127, 128, 129, 130, 131, 132, 133, 134, 135] (by decide +kernel) (by decide +kernel)
set_option maxRecDepth 20000 in
theorem gX2_bestCard_X2_begunEnding : GoodIn wsX2_bestCard (wsV RX2 150 RX2 yX2_begunEnding wsX2_begunEnding) := goodIn_app (goodIn_of _ (by decide +kernel)) ggX2_bestCard_X2_begunEnding
set_option maxRecDepth 20000 in
theorem ggX2_bestCard_X2_moversHand : GoodIn wsX2_bestCard wsX2_moversHand := goodIn_r _ [45, 4, 21, 46, 47, 48, 8, 49, 20, 22, 116, 117, 118, 119, 120, 121, 122, 123, 124, 125, 126, 131, 132, 133, 134, 135] (by decide +kernel) (by decide +kernel)
set_option maxRecDepth 20000 in
theorem gX2_bestCard_X2_moversHand : GoodIn wsX2_bestCard (wsV RX2 154 RX2 yX2_moversHand wsX2_moversHand) := goodIn_app (goodIn_of _ (by decide +kernel)) ggX2_bestCard_X2_moversHand
set_option maxRecDepth 20000 in
theorem ggX2_bestCard_X2_othersHand : GoodIn wsX2_bestCard wsX2_othersHand := goodIn_r _ [53, 4, 21, 46, 47, 48, 8, 49, 20, 22, 116, 117, 118, 119, 120, 121, 122, 123, 124, 125, 126, 131, 132, 133, 134, 135] (by decide +kernel) (by decide +kernel)
set_option maxRecDepth 20000 in
theorem gX2_bestCard_X2_othersHand : GoodIn wsX2_bestCard (wsV RX2 158 RX2 yX2_othersHand wsX2_othersHand) := goodIn_app (goodIn_of _ (by decide +kernel)) ggX2_bestCard_X2_othersHand
set_option maxRecDepth 20000 in
theorem ggX2_bestCard_X2_glovesWorn : GoodIn wsX2_bestCard wsX2_glovesWorn := goodIn_r _ [57, 20, 58, 22, 116, 117, 118, 119, 120, 121, 122, 123, 124, 125, 126, 131, 132, 133, 134, 135] (by decide +kernel) (by decide +kernel)
set_option maxRecDepth 20000 in
theorem gX2_bestCard_X2_glovesWorn : GoodIn wsX2_bestCard (wsV RX2 161 RX2 yX2_glovesWorn wsX2_glovesWorn) := goodIn_app (goodIn_of _ (by decide +kernel)) ggX2_bestCard_X2_glovesWorn
set_option maxRecDepth 20000 in
theorem ggX2_bestCard_X1_lowestBestCard : GoodIn wsX2_bestCard wsX1_lowestBestCard := goodIn_r _ [62, 63, 64, 65, 18, 66, 33, 67, 8, 68, 69, 70, 71, 72, 73, 74, 75, 76, 77, 78, 79, 80, 81, 82, 83, 84, 85, 86, 87, 88, 89, 90, 91, 92, 93, 94, 95, 96, 97, 98, 99, 100, 101, 102, 103, 104, 105, 106, 107, 108, 30, 109, 110, 111, 112, 31, 32, 113, 114, 115, 127, 128, 129, 130] (by decide +kernel) (by decide +kernel)
set_option maxRecDepth 20000 in
theorem gX2_bestCard_X1_lowestBestCard : GoodIn wsX2_bestCard (wsV RX2 171 RX1 yX1_lowestBestCard wsX1_lowestBestCard) := goodIn_app (goodIn_of _ (by decide +kernel)) ggX2_bestCard_X1_lowestBestCard
theorem dX2_bestCard_0 : decode cX2_bestCard 0 = .ok (.aload_n 0, 1) := by decide +kernel
theorem dX2_bestCard_1 : decode cX2_bestCard 1 = .ok (.invokevirtual 144, 3) := by decide +kernel
theorem dX2_bestCard_4 : decode cX2_bestCard 4 = .ok (.ifCond .ne 13, 3) := by decide +kernel
theorem dX2_bestCard_7 : decode cX2_bestCard 7 = .ok (.new 82, 3) := by decide +kernel
theorem dX2_bestCard_10 : decode cX2_bestCard 10 = .ok (.dup, 1) := by decide +kernel
theorem dX2_bestCard_11 : decode cX2_bestCard 11 = .ok (.ldc 148, 2) := by decide +kernel
theorem dX2_bestCard_13 : decode cX2_bestCard 13 = .ok (.invokespecial 86, 3) := by decide +kernel
theorem dX2_bestCard_16 : decode cX2_bestCard 16 = .ok (.athrow, 1) := by decide +kernel
theorem dX2_bestCard_17 : decode cX2_bestCard 17 = .ok (.aload_n 0, 1) := by decide +kernel
theorem dX2_bestCard_18 : decode cX2_bestCard 18 = .ok (.invokevirtual 150, 3) := by decide +kernel
theorem dX2_bestCard_21 : decode cX2_bestCard 21 = .ok (.aload_n 0, 1) := by decide +kernel
theorem dX2_bestCard_22 : decode cX2_bestCard 22 = .ok (.invokevirtual 154, 3) := by decide +kernel
theorem dX2_bestCard_25 : decode cX2_bestCard 25 = .ok (.aload_n 0, 1) := by decide +kernel
theorem dX2_bestCard_26 : decode cX2_bestCard 26 = .ok (.invokevirtual 158, 3) := by decide +kernel
theorem dX2_bestCard_29 : decode cX2_bestCard 29 = .ok (.aload_n 0, 1) := by decide +kernel
theorem dX2_bestCard_30 : decode cX2_bestCard 30 = .ok (.getfield 30, 3) := by decide +kernel
theorem dX2_bestCard_33 : decode cX2_bestCard 33 = .ok (.aload_n 0, 1) := by decide +kernel
theorem dX2_bestCard_34 : decode cX2_bestCard 34 = .ok (.getfield 33, 3) := by decide +kernel
theorem dX2_bestCard_37 : decode cX2_bestCard 37 = .ok (.aload_n 0, 1) := by decide +kernel
theorem dX2_bestCard_38 : decode cX2_bestCard 38 = .ok (.invokevirtual 161, 3) := by decide +kernel
theorem dX2_bestCard_41 : decode cX2_bestCard 41 = .ok (.invokevirtual 171, 3) := by decide +kernel
theorem dX2_bestCard_44 : decode cX2_bestCard 44 = .ok (.ireturn, 1) := by decide +kernel
theorem dX2_wonByFirst_0 : decode cX2_wonByFirst 0 = .ok (.aload_n 0, 1) := by decide +kernel
theorem dX2_wonByFirst_1 : decode cX2_wonByFirst 1 = .ok (.getfield 36, 3) := by decide +kernel
theorem dX2_wonByFirst_4 : decode cX2_wonByFirst 4 = .ok (.ireturn, 1) := by decide +kernel
theorem dX2_wonBySecond_0 : decode cX2_wonBySecond 0 = .ok (.aload_n 0, 1) := by decide +kernel
theorem dX2_wonBySecond_1 : decode cX2_wonBySecond 1 = .ok (.getfield 39, 3) := by decide +kernel
theorem dX2_wonBySecond_4 : decode cX2_wonBySecond 4 = .ok (.ireturn, 1) := by decide +kernel
theorem dX2_shuffle_0 : decode cX2_shuffle 0 = .ok (.iconst 0, 1) := by decide +kernel
theorem dX2_shuffle_1 : decode cX2_shuffle 1 = .ok (.istore_n 3, 1) := by decide +kernel
theorem dX2_shuffle_2 : decode cX2_shuffle 2 = .ok (.iload_n 3, 1) := by decide +kernel
theorem dX2_shuffle_3 : decode cX2_shuffle 3 = .ok (.bipush 42, 2) := by decide +kernel
theorem dX2_shuffle_5 : decode cX2_shuffle 5 = .ok (.if_icmp .ge 16, 3) := by decide +kernel
theorem dX2_shuffle_8 : decode cX2_shuffle 8 = .ok (.aload_n 0, 1) := by decide +kernel
theorem dX2_shuffle_9 : decode cX2_shuffle 9 = .ok (.getfield 9, 3) := by decide +kernel
theorem dX2_shuffle_12 : decode cX2_shuffle 12 = .ok (.iload_n 3, 1) := by decide +kernel
theorem dX2_shuffle_13 : decode cX2_shuffle 13 = .ok (.iload_n 3, 1) := by decide +kernel
theorem dX2_shuffle_14 : decode cX2_shuffle 14 = .ok (.iastore, 1) := by decide +kernel
theorem dX2_shuffle_15 : decode cX2_shuffle 15 = .ok (.iinc 3 1, 3) := by decide +kernel
theorem dX2_shuffle_18 : decode cX2_shuffle 18 = .ok (.goto (-16), 3) := by decide +kernel
theorem dX2_shuffle_21 : decode cX2_shuffle 21 = .ok (.lload_n 1, 1) := by decide +kernel
theorem dX2_shuffle_22 : decode cX2_shuffle 22 = .ok (.lstore_n 3, 1) := by decide +kernel
theorem dX2_shuffle_23 : decode cX2_shuffle 23 = .ok (.bipush 41, 2) := by decide +kernel
theorem dX2_shuffle_25 : decode cX2_shuffle 25 = .ok (.istore 5, 2) := by decide +kernel
theorem dX2_shuffle_27 : decode cX2_shuffle 27 = .ok (.iload 5, 2) := by decide +kernel
theorem dX2_shuffle_29 : decode cX2_shuffle 29 = .ok (.iconst 1, 1) := by decide +kernel
theorem dX2_shuffle_30 : decode cX2_shuffle 30 = .ok (.if_icmp .lt 64, 3) := by decide +kernel
theorem dX2_shuffle_33 : decode cX2_shuffle 33 = .ok (.lload_n 3, 1) := by decide +kernel
theorem dX2_shuffle_34 : decode cX2_shuffle 34 = .ok (.ldc2_w 174, 3) := by decide +kernel
theorem dX2_shuffle_37 : decode cX2_shuffle 37 = .ok (.lmul, 1) := by decide +kernel
theorem dX2_shuffle_38 : decode cX2_shuffle 38 = .ok (.ldc2_w 176, 3) := by decide +kernel
theorem dX2_shuffle_41 : decode cX2_shuffle 41 = .ok (.ladd, 1) := by decide +kernel
theorem dX2_shuffle_42 : decode cX2_shuffle 42 = .ok (.lstore_n 3, 1) := by decide +kernel
theorem dX2_shuffle_43 : decode cX2_shuffle 43 = .ok (.lload_n 3, 1) := by decide +kernel
theorem dX2_shuffle_44 : decode cX2_shuffle 44 = .ok (.bipush 33, 2) := by decide +kernel
theorem dX2_shuffle_46 : decode cX2_shuffle 46 = .ok (.lushr, 1) := by decide +kernel
theorem dX2_shuffle_47 : decode cX2_shuffle 47 = .ok (.iload 5, 2) := by decide +kernel
theorem dX2_shuffle_49 : decode cX2_shuffle 49 = .ok (.iconst 1, 1) := by decide +kernel
theorem dX2_shuffle_50 : decode cX2_shuffle 50 = .ok (.iadd, 1) := by decide +kernel
theorem dX2_shuffle_51 : decode cX2_shuffle 51 = .ok (.i2l, 1) := by decide +kernel
theorem dX2_shuffle_52 : decode cX2_shuffle 52 = .ok (.lrem, 1) := by decide +kernel
theorem dX2_shuffle_53 : decode cX2_shuffle 53 = .ok (.l2i, 1) := by decide +kernel
theorem dX2_shuffle_54 : decode cX2_shuffle 54 = .ok (.istore 6, 2) := by decide +kernel
theorem dX2_shuffle_56 : decode cX2_shuffle 56 = .ok (.aload_n 0, 1) := by decide +kernel
theorem dX2_shuffle_57 : decode cX2_shuffle 57 = .ok (.getfield 9, 3) := by decide +kernel
theorem dX2_shuffle_60 : decode cX2_shuffle 60 = .ok (.iload 5, 2) := by decide +kernel
theorem dX2_shuffle_62 : decode cX2_shuffle 62 = .ok (.iaload, 1) := by decide +kernel
theorem dX2_shuffle_63 : decode cX2_shuffle 63 = .ok (.istore 7, 2) := by decide +kernel
theorem dX2_shuffle_65 : decode cX2_shuffle 65 = .ok (.aload_n 0, 1) := by decide +kernel
theorem dX2_shuffle_66 : decode cX2_shuffle 66 = .ok (.getfield 9, 3) := by decide +kernel
theorem dX2_shuffle_69 : decode cX2_shuffle 69 = .ok (.iload 5, 2) := by decide +kernel
theorem dX2_shuffle_71 : decode cX2_shuffle 71 = .ok (.aload_n 0, 1) := by decide +kernel
theorem dX2_shuffle_72 : decode cX2_shuffle 72 = .ok (.getfield 9, 3) := by decide +kernel
theorem dX2_shuffle_75 : decode cX2_shuffle 75 = .ok (.iload 6, 2) := by decide +kernel
theorem dX2_shuffle_77 : decode cX2_shuffle 77 = .ok (.iaload, 1) := by decide +kernel
theorem dX2_shuffle_78 : decode cX2_shuffle 78 = .ok (.iastore, 1) := by decide +kernel
theorem dX2_shuffle_79 : decode cX2_shuffle 79 = .ok (.aload_n 0, 1) := by decide +kernel
theorem dX2_shuffle_80 : decode cX2_shuffle 80 = .ok (.getfield 9, 3) := by decide +kernel
theorem dX2_shuffle_83 : decode cX2_shuffle 83 = .ok (.iload 6, 2) := by decide +kernel
theorem dX2_shuffle_85 : decode cX2_shuffle 85 = .ok (.iload 7, 2) := by decide +kernel
theorem dX2_shuffle_87 : decode cX2_shuffle 87 = .ok (.iastore, 1) := by decide +kernel
theorem dX2_shuffle_88 : decode cX2_shuffle 88 = .ok (.iinc 5 (-1), 3) := by decide +kernel
theorem dX2_shuffle_91 : decode cX2_shuffle 91 = .ok (.goto (-64), 3) := by decide +kernel
theorem dX2_shuffle_94 : decode cX2_shuffle 94 = .ok (.return_, 1) := by decide +kernel
theorem dX2_putTurnedUpLast_0 : decode cX2_putTurnedUpLast 0 = .ok (.aload_n 0, 1) := by decide +kernel
theorem dX2_putTurnedUpLast_1 : decode cX2_putTurnedUpLast 1 = .ok (.getfield 9, 3) := by decide +kernel
theorem dX2_putTurnedUpLast_4 : decode cX2_putTurnedUpLast 4 = .ok (.bipush 12, 2) := by decide +kernel
theorem dX2_putTurnedUpLast_6 : decode cX2_putTurnedUpLast 6 = .ok (.iaload, 1) := by decide +kernel
theorem dX2_putTurnedUpLast_7 : decode cX2_putTurnedUpLast 7 = .ok (.istore_n 1, 1) := by decide +kernel
theorem dX2_putTurnedUpLast_8 : decode cX2_putTurnedUpLast 8 = .ok (.aload_n 0, 1) := by decide +kernel
theorem dX2_putTurnedUpLast_9 : decode cX2_putTurnedUpLast 9 = .ok (.getfield 9, 3) := by decide +kernel
theorem dX2_putTurnedUpLast_12 : decode cX2_putTurnedUpLast 12 = .ok (.bipush 13, 2) := by decide +kernel
theorem dX2_putTurnedUpLast_14 : decode cX2_putTurnedUpLast 14 = .ok (.aload_n 0, 1) := by decide +kernel
theorem dX2_putTurnedUpLast_15 : decode cX2_putTurnedUpLast 15 = .ok (.getfield 9, 3) := by decide +kernel
theorem dX2_putTurnedUpLast_18 : decode cX2_putTurnedUpLast 18 = .ok (.bipush 12, 2) := by decide +kernel
theorem dX2_putTurnedUpLast_20 : decode cX2_putTurnedUpLast 20 = .ok (.bipush 29, 2) := by decide +kernel
theorem dX2_putTurnedUpLast_22 : decode cX2_putTurnedUpLast 22 = .ok (.invokestatic 178, 3) := by decide +kernel
theorem dX2_putTurnedUpLast_25 : decode cX2_putTurnedUpLast 25 = .ok (.aload_n 0, 1) := by decide +kernel
theorem dX2_putTurnedUpLast_26 : decode cX2_putTurnedUpLast 26 = .ok (.getfield 9, 3) := by decide +kernel
theorem dX2_putTurnedUpLast_29 : decode cX2_putTurnedUpLast 29 = .ok (.bipush 41, 2) := by decide +kernel
theorem dX2_putTurnedUpLast_31 : decode cX2_putTurnedUpLast 31 = .ok (.iload_n 1, 1) := by decide +kernel
theorem dX2_putTurnedUpLast_32 : decode cX2_putTurnedUpLast 32 = .ok (.iastore, 1) := by decide +kernel
theorem dX2_putTurnedUpLast_33 : decode cX2_putTurnedUpLast 33 = .ok (.return_, 1) := by decide +kernel
set_option maxRecDepth 20000 in
theorem ggX2_handFrom_X2_bit : GoodIn wsX2_handFrom wsX2_bit := goodIn_r _ [5] (by decide +kernel) (by decide +kernel)
set_option maxRecDepth 20000 in
theorem gX2_handFrom_X2_bit : GoodIn wsX2_handFrom (va_wsS RX2 95 yX2_bit wsX2_bit) := goodIn_app (goodIn_of _ (by decide +kernel)) ggX2_handFrom_X2_bit
theorem dX2_handFrom_0 : decode cX2_handFrom 0 = .ok (.lconst 0, 1) := by decide +kernel
theorem dX2_handFrom_1 : decode cX2_handFrom 1 = .ok (.lstore_n 2, 1) := by decide +kernel
theorem dX2_handFrom_2 : decode cX2_handFrom 2 = .ok (.iconst 0, 1) := by decide +kernel
theorem dX2_handFrom_3 : decode cX2_handFrom 3 = .ok (.istore 4, 2) := by decide +kernel
theorem dX2_handFrom_5 : decode cX2_handFrom 5 = .ok (.iload 4, 2) := by decide +kernel
theorem dX2_handFrom_7 : decode cX2_handFrom 7 = .ok (.bipush 42, 2) := by decide +kernel
theorem dX2_handFrom_9 : decode cX2_handFrom 9 = .ok (.if_icmp .ge 37, 3) := by decide +kernel
theorem dX2_handFrom_12 : decode cX2_handFrom 12 = .ok (.iload 4, 2) := by decide +kernel
theorem dX2_handFrom_14 : decode cX2_handFrom 14 = .ok (.iload_n 1, 1) := by decide +kernel
theorem dX2_handFrom_15 : decode cX2_handFrom 15 = .ok (.if_icmp .lt 25, 3) := by decide +kernel
theorem dX2_handFrom_18 : decode cX2_handFrom 18 = .ok (.iload 4, 2) := by decide +kernel
theorem dX2_handFrom_20 : decode cX2_handFrom 20 = .ok (.iload_n 1, 1) := by decide +kernel
theorem dX2_handFrom_21 : decode cX2_handFrom 21 = .ok (.bipush 6, 2) := by decide +kernel
theorem dX2_handFrom_23 : decode cX2_handFrom 23 = .ok (.iadd, 1) := by decide +kernel
theorem dX2_handFrom_24 : decode cX2_handFrom 24 = .ok (.if_icmp .ge 16, 3) := by decide +kernel
theorem dX2_handFrom_27 : decode cX2_handFrom 27 = .ok (.lload_n 2, 1) := by decide +kernel
theorem dX2_handFrom_28 : decode cX2_handFrom 28 = .ok (.aload_n 0, 1) := by decide +kernel
theorem dX2_handFrom_29 : decode cX2_handFrom 29 = .ok (.getfield 9, 3) := by decide +kernel
theorem dX2_handFrom_32 : decode cX2_handFrom 32 = .ok (.iload 4, 2) := by decide +kernel
theorem dX2_handFrom_34 : decode cX2_handFrom 34 = .ok (.iaload, 1) := by decide +kernel
theorem dX2_handFrom_35 : decode cX2_handFrom 35 = .ok (.invokestatic 95, 3) := by decide +kernel
theorem dX2_handFrom_38 : decode cX2_handFrom 38 = .ok (.lor, 1) := by decide +kernel
theorem dX2_handFrom_39 : decode cX2_handFrom 39 = .ok (.lstore_n 2, 1) := by decide +kernel
theorem dX2_handFrom_40 : decode cX2_handFrom 40 = .ok (.iinc 4 1, 3) := by decide +kernel
theorem dX2_handFrom_43 : decode cX2_handFrom 43 = .ok (.goto (-38), 3) := by decide +kernel
theorem dX2_handFrom_46 : decode cX2_handFrom 46 = .ok (.lload_n 2, 1) := by decide +kernel
theorem dX2_handFrom_47 : decode cX2_handFrom 47 = .ok (.lreturn, 1) := by decide +kernel
set_option maxRecDepth 20000 in
theorem ggX2_drawFor_X2_bit : GoodIn wsX2_drawFor wsX2_bit := goodIn_r _ [7] (by decide +kernel) (by decide +kernel)
set_option maxRecDepth 20000 in
theorem gX2_drawFor_X2_bit : GoodIn wsX2_drawFor (va_wsS RX2 95 yX2_bit wsX2_bit) := goodIn_app (goodIn_of _ (by decide +kernel)) ggX2_drawFor_X2_bit
theorem dX2_drawFor_0 : decode cX2_drawFor 0 = .ok (.aload_n 0, 1) := by decide +kernel
theorem dX2_drawFor_1 : decode cX2_drawFor 1 = .ok (.getfield 23, 3) := by decide +kernel
theorem dX2_drawFor_4 : decode cX2_drawFor 4 = .ok (.ifCond .lt 43, 3) := by decide +kernel
theorem dX2_drawFor_7 : decode cX2_drawFor 7 = .ok (.aload_n 0, 1) := by decide +kernel
theorem dX2_drawFor_8 : decode cX2_drawFor 8 = .ok (.getfield 23, 3) := by decide +kernel
theorem dX2_drawFor_11 : decode cX2_drawFor 11 = .ok (.bipush 42, 2) := by decide +kernel
theorem dX2_drawFor_13 : decode cX2_drawFor 13 = .ok (.if_icmp .ge 34, 3) := by decide +kernel
theorem dX2_drawFor_16 : decode cX2_drawFor 16 = .ok (.aload_n 1, 1) := by decide +kernel
theorem dX2_drawFor_17 : decode cX2_drawFor 17 = .ok (.dup, 1) := by decide +kernel
theorem dX2_drawFor_18 : decode cX2_drawFor 18 = .ok (.getfield 91, 3) := by decide +kernel
theorem dX2_drawFor_21 : decode cX2_drawFor 21 = .ok (.aload_n 0, 1) := by decide +kernel
theorem dX2_drawFor_22 : decode cX2_drawFor 22 = .ok (.getfield 9, 3) := by decide +kernel
theorem dX2_drawFor_25 : decode cX2_drawFor 25 = .ok (.aload_n 0, 1) := by decide +kernel
theorem dX2_drawFor_26 : decode cX2_drawFor 26 = .ok (.getfield 23, 3) := by decide +kernel
theorem dX2_drawFor_29 : decode cX2_drawFor 29 = .ok (.iaload, 1) := by decide +kernel
theorem dX2_drawFor_30 : decode cX2_drawFor 30 = .ok (.invokestatic 95, 3) := by decide +kernel
theorem dX2_drawFor_33 : decode cX2_drawFor 33 = .ok (.lor, 1) := by decide +kernel
theorem dX2_drawFor_34 : decode cX2_drawFor 34 = .ok (.putfield 91, 3) := by decide +kernel
theorem dX2_drawFor_37 : decode cX2_drawFor 37 = .ok (.aload_n 0, 1) := by decide +kernel
theorem dX2_drawFor_38 : decode cX2_drawFor 38 = .ok (.dup, 1) := by decide +kernel
theorem dX2_drawFor_39 : decode cX2_drawFor 39 = .ok (.getfield 23, 3) := by decide +kernel
theorem dX2_drawFor_42 : decode cX2_drawFor 42 = .ok (.iconst 1, 1) := by decide +kernel
theorem dX2_drawFor_43 : decode cX2_drawFor 43 = .ok (.iadd, 1) := by decide +kernel
theorem dX2_drawFor_44 : decode cX2_drawFor 44 = .ok (.putfield 23, 3) := by decide +kernel
theorem dX2_drawFor_47 : decode cX2_drawFor 47 = .ok (.return_, 1) := by decide +kernel
set_option maxRecDepth 20000 in
theorem ggX2_reasonAgainst_X2_moversHand : GoodIn wsX2_reasonAgainst wsX2_moversHand := goodIn_r _ [9, 1, 10, 11, 12, 13, 8, 14, 15, 16, 37, 38, 39, 40, 41, 42, 43, 44, 45, 46, 47, 48, 49, 50, 51, 52] (by decide +kernel) (by decide +kernel)
set_option maxRecDepth 20000 in
theorem gX2_reasonAgainst_X2_moversHand : GoodIn wsX2_reasonAgainst (wsV RX2 154 RX2 yX2_moversHand wsX2_moversHand) := goodIn_app (goodIn_of _ (by decide +kernel)) ggX2_reasonAgainst_X2_moversHand
set_option maxRecDepth 20000 in
theorem ggX2_reasonAgainst_X2_has : GoodIn wsX2_reasonAgainst wsX2_has := goodIn_r _ [19, 20, 21, 8, 22] (by decide +kernel) (by decide +kernel)
set_option maxRecDepth 20000 in
theorem gX2_reasonAgainst_X2_has : GoodIn wsX2_reasonAgainst (va_wsS RX2 124 yX2_has wsX2_has) := goodIn_app (goodIn_of _ (by decide +kernel)) ggX2_reasonAgainst_X2_has
set_option maxRecDepth 20000 in
theorem ggX2_reasonAgainst_X2_reasonAgainstLeading : GoodIn wsX2_reasonAgainst wsX2_reasonAgainstLeading := goodIn_r _ [25, 26, 27, 28, 8, 29] (by decide +kernel) (by decide +kernel)
set_option maxRecDepth 20000 in
theorem gX2_reasonAgainst_X2_reasonAgainstLeading : GoodIn wsX2_reasonAgainst (va_wsS RX2 184 yX2_reasonAgainstLeading wsX2_reasonAgainstLeading) := goodIn_app (goodIn_of _ (by decide +kernel)) ggX2_reasonAgainst_X2_reasonAgainstLeading
set_option maxRecDepth 20000 in
theorem ggX2_reasonAgainst_X2_reasonAgainstReplying : GoodIn wsX2_reasonAgainst wsX2_reasonAgainstReplying := goodIn_r _ [32, 27, 28, 8, 29, 33, 34, 35, 36, 17, 18, 19, 20, 21, 22] (by decide +kernel) (by decide +kernel)
set_option maxRecDepth 20000 in
theorem gX2_reasonAgainst_X2_reasonAgainstReplying : GoodIn wsX2_reasonAgainst (va_wsS RX2 188 yX2_reasonAgainstReplying wsX2_reasonAgainstReplying) := goodIn_app (goodIn_of _ (by decide +kernel)) ggX2_reasonAgainst_X2_reasonAgainstReplying
theorem dX2_reasonAgainst_0 : decode cX2_reasonAgainst 0 = .ok (.aload_n 0, 1) := by decide +kernel
theorem dX2_reasonAgainst_1 : decode cX2_reasonAgainst 1 = .ok (.getfield 33, 3) := by decide +kernel
theorem dX2_reasonAgainst_4 : decode cX2_reasonAgainst 4 = .ok (.iconst (-1), 1) := by decide +kernel
theorem dX2_reasonAgainst_5 : decode cX2_reasonAgainst 5 = .ok (.if_icmp .ne 5, 3) := by decide +kernel
theorem dX2_reasonAgainst_8 : decode cX2_reasonAgainst 8 = .ok (.iconst 1, 1) := by decide +kernel
theorem dX2_reasonAgainst_9 : decode cX2_reasonAgainst 9 = .ok (.ireturn, 1) := by decide +kernel
theorem dX2_reasonAgainst_10 : decode cX2_reasonAgainst 10 = .ok (.aload_n 0, 1) := by decide +kernel
theorem dX2_reasonAgainst_11 : decode cX2_reasonAgainst 11 = .ok (.invokevirtual 154, 3) := by decide +kernel
theorem dX2_reasonAgainst_14 : decode cX2_reasonAgainst 14 = .ok (.lstore_n 2, 1) := by decide +kernel
theorem dX2_reasonAgainst_15 : decode cX2_reasonAgainst 15 = .ok (.lload_n 2, 1) := by decide +kernel
theorem dX2_reasonAgainst_16 : decode cX2_reasonAgainst 16 = .ok (.iload_n 1, 1) := by decide +kernel
theorem dX2_reasonAgainst_17 : decode cX2_reasonAgainst 17 = .ok (.invokestatic 124, 3) := by decide +kernel
theorem dX2_reasonAgainst_20 : decode cX2_reasonAgainst 20 = .ok (.ifCond .ne 5, 3) := by decide +kernel
theorem dX2_reasonAgainst_23 : decode cX2_reasonAgainst 23 = .ok (.iconst 2, 1) := by decide +kernel
theorem dX2_reasonAgainst_24 : decode cX2_reasonAgainst 24 = .ok (.ireturn, 1) := by decide +kernel
theorem dX2_reasonAgainst_25 : decode cX2_reasonAgainst 25 = .ok (.aload_n 0, 1) := by decide +kernel
theorem dX2_reasonAgainst_26 : decode cX2_reasonAgainst 26 = .ok (.getfield 30, 3) := by decide +kernel
theorem dX2_reasonAgainst_29 : decode cX2_reasonAgainst 29 = .ok (.iconst (-1), 1) := by decide +kernel
theorem dX2_reasonAgainst_30 : decode cX2_reasonAgainst 30 = .ok (.if_icmp .ne 9, 3) := by decide +kernel
theorem dX2_reasonAgainst_33 : decode cX2_reasonAgainst 33 = .ok (.lload_n 2, 1) := by decide +kernel
theorem dX2_reasonAgainst_34 : decode cX2_reasonAgainst 34 = .ok (.iload_n 1, 1) := by decide +kernel
theorem dX2_reasonAgainst_35 : decode cX2_reasonAgainst 35 = .ok (.invokestatic 184, 3) := by decide +kernel
theorem dX2_reasonAgainst_38 : decode cX2_reasonAgainst 38 = .ok (.ireturn, 1) := by decide +kernel
theorem dX2_reasonAgainst_39 : decode cX2_reasonAgainst 39 = .ok (.aload_n 0, 1) := by decide +kernel
theorem dX2_reasonAgainst_40 : decode cX2_reasonAgainst 40 = .ok (.getfield 23, 3) := by decide +kernel
theorem dX2_reasonAgainst_43 : decode cX2_reasonAgainst 43 = .ok (.bipush 42, 2) := by decide +kernel
theorem dX2_reasonAgainst_45 : decode cX2_reasonAgainst 45 = .ok (.if_icmp .ge 7, 3) := by decide +kernel
theorem dX2_reasonAgainst_48 : decode cX2_reasonAgainst 48 = .ok (.iconst 0, 1) := by decide +kernel
theorem dX2_reasonAgainst_49 : decode cX2_reasonAgainst 49 = .ok (.goto 16, 3) := by decide +kernel
theorem dX2_reasonAgainst_52 : decode cX2_reasonAgainst 52 = .ok (.lload_n 2, 1) := by decide +kernel
theorem dX2_reasonAgainst_53 : decode cX2_reasonAgainst 53 = .ok (.iload_n 1, 1) := by decide +kernel
theorem dX2_reasonAgainst_54 : decode cX2_reasonAgainst 54 = .ok (.aload_n 0, 1) := by decide +kernel
theorem dX2_reasonAgainst_55 : decode cX2_reasonAgainst 55 = .ok (.getfield 30, 3) := by decide +kernel
theorem dX2_reasonAgainst_58 : decode cX2_reasonAgainst 58 = .ok (.aload_n 0, 1) := by decide +kernel
theorem dX2_reasonAgainst_59 : decode cX2_reasonAgainst 59 = .ok (.getfield 27, 3) := by decide +kernel
theorem dX2_reasonAgainst_62 : decode cX2_reasonAgainst 62 = .ok (.invokestatic 188, 3) := by decide +kernel
theorem dX2_reasonAgainst_65 : decode cX2_reasonAgainst 65 = .ok (.ireturn, 1) := by decide +kernel
set_option maxRecDepth 20000 in
theorem ggX2_takerBy_X2_beats : GoodIn wsX2_takerBy wsX2_beats := goodIn_r _ [7, 8, 9, 6, 10] (by decide +kernel) (by decide +kernel)
set_option maxRecDepth 20000 in
theorem gX2_takerBy_X2_beats : GoodIn wsX2_takerBy (va_wsS RX2 192 yX2_beats wsX2_beats) := goodIn_app (goodIn_of _ (by decide +kernel)) ggX2_takerBy_X2_beats
theorem dX2_takerBy_0 : decode cX2_takerBy 0 = .ok (.iload_n 1, 1) := by decide +kernel
theorem dX2_takerBy_1 : decode cX2_takerBy 1 = .ok (.aload_n 0, 1) := by decide +kernel
theorem dX2_takerBy_2 : decode cX2_takerBy 2 = .ok (.getfield 30, 3) := by decide +kernel
theorem dX2_takerBy_5 : decode cX2_takerBy 5 = .ok (.aload_n 0, 1) := by decide +kernel
theorem dX2_takerBy_6 : decode cX2_takerBy 6 = .ok (.getfield 27, 3) := by decide +kernel
theorem dX2_takerBy_9 : decode cX2_takerBy 9 = .ok (.invokestatic 192, 3) := by decide +kernel
theorem dX2_takerBy_12 : decode cX2_takerBy 12 = .ok (.ifCond .eq 10, 3) := by decide +kernel
theorem dX2_takerBy_15 : decode cX2_takerBy 15 = .ok (.aload_n 0, 1) := by decide +kernel
theorem dX2_takerBy_16 : decode cX2_takerBy 16 = .ok (.getfield 33, 3) := by decide +kernel
theorem dX2_takerBy_19 : decode cX2_takerBy 19 = .ok (.goto 9, 3) := by decide +kernel
theorem dX2_takerBy_22 : decode cX2_takerBy 22 = .ok (.iconst 1, 1) := by decide +kernel
theorem dX2_takerBy_23 : decode cX2_takerBy 23 = .ok (.aload_n 0, 1) := by decide +kernel
theorem dX2_takerBy_24 : decode cX2_takerBy 24 = .ok (.getfield 33, 3) := by decide +kernel
theorem dX2_takerBy_27 : decode cX2_takerBy 27 = .ok (.isub, 1) := by decide +kernel
theorem dX2_takerBy_28 : decode cX2_takerBy 28 = .ok (.ireturn, 1) := by decide +kernel
set_option maxRecDepth 20000 in
theorem ggX2_finishTrick_X2_takerBy : GoodIn wsX2_finishTrick wsX2_takerBy := goodIn_r _ [14, 3, 15, 8, 16, 17, 13, 18, 19, 20, 21, 55, 56, 57, 58, 59, 60, 61, 62, 63, 64, 65] (by decide +kernel) (by decide +kernel)
set_option maxRecDepth 20000 in
theorem gX2_finishTrick_X2_takerBy : GoodIn wsX2_finishTrick (wsV RX2 141 RX2 yX2_takerBy wsX2_takerBy) := goodIn_app (goodIn_of _ (by decide +kernel)) ggX2_finishTrick_X2_takerBy
set_option maxRecDepth 20000 in
theorem ggX2_finishTrick_X2_archivist : GoodIn wsX2_finishTrick wsX2_archivist := goodIn_r _ [25, 6, 7, 55, 56, 57, 58, 59, 60, 61, 62, 63, 64, 65] (by decide +kernel) (by decide +kernel)
set_option maxRecDepth 20000 in
theorem gX2_finishTrick_X2_archivist : GoodIn wsX2_finishTrick (wsV RX2 87 RX2 yX2_archivist wsX2_archivist) := goodIn_app (goodIn_of _ (by decide +kernel)) ggX2_finishTrick_X2_archivist
set_option maxRecDepth 20000 in
theorem ggX2_finishTrick_X2_worth : GoodIn wsX2_finishTrick wsX2_worth := goodIn_r _ [28, 19, 20, 13, 21] (by decide +kernel) (by decide +kernel)
set_option maxRecDepth 20000 in
theorem gX2_finishTrick_X2_worth : GoodIn wsX2_finishTrick (va_wsS RX2 196 yX2_worth wsX2_worth) := goodIn_app (goodIn_of _ (by decide +kernel)) ggX2_finishTrick_X2_worth
set_option maxRecDepth 20000 in
theorem ggX2_finishTrick_X2_bit : GoodIn wsX2_finishTrick wsX2_bit := goodIn_r _ [31] (by decide +kernel) (by decide +kernel)
set_option maxRecDepth 20000 in
theorem gX2_finishTrick_X2_bit : GoodIn wsX2_finishTrick (va_wsS RX2 95 yX2_bit wsX2_bit) := goodIn_app (goodIn_of _ (by decide +kernel)) ggX2_finishTrick_X2_bit
set_option maxRecDepth 20000 in
theorem ggX2_finishTrick_X0_loseWornGloves : GoodIn wsX2_finishTrick wsX0_loseWornGloves := goodIn_r _ [36, 37, 50, 51, 52, 53, 54] (by decide +kernel) (by decide +kernel)
set_option maxRecDepth 20000 in
theorem gX2_finishTrick_X0_loseWornGloves : GoodIn wsX2_finishTrick (wsV RX2 200 RX0 yX0_loseWornGloves wsX0_loseWornGloves) := goodIn_app (goodIn_of _ (by decide +kernel)) ggX2_finishTrick_X0_loseWornGloves
set_option maxRecDepth 20000 in
theorem ggX2_finishTrick_X2_drawFor : GoodIn wsX2_finishTrick wsX2_drawFor := goodIn_r _ [41, 42, 9, 43, 29, 30, 13, 31, 55, 56, 57, 58, 59, 60, 61, 62, 63, 64, 65, 50, 51, 52, 53, 54] (by decide +kernel) (by decide +kernel)
set_option maxRecDepth 20000 in
theorem gX2_finishTrick_X2_drawFor : GoodIn wsX2_finishTrick (wsV RX2 203 RX2 yX2_drawFor wsX2_drawFor) := goodIn_app (goodIn_of _ (by decide +kernel)) ggX2_finishTrick_X2_drawFor
set_option maxRecDepth 20000 in
theorem ggX2_finishTrick_X2_endGame : GoodIn wsX2_finishTrick wsX2_endGame := goodIn_r _ [47, 8, 6, 2, 7, 48, 49, 55, 56, 57, 58, 59, 60, 61, 62, 63, 64, 65, 50, 51, 52, 53, 54] (by decide +kernel) (by decide +kernel)
set_option maxRecDepth 20000 in
theorem gX2_finishTrick_X2_endGame : GoodIn wsX2_finishTrick (wsV RX2 207 RX2 yX2_endGame wsX2_endGame) := goodIn_app (goodIn_of _ (by decide +kernel)) ggX2_finishTrick_X2_endGame
theorem dX2_finishTrick_0 : decode cX2_finishTrick 0 = .ok (.aload_n 0, 1) := by decide +kernel
theorem dX2_finishTrick_1 : decode cX2_finishTrick 1 = .ok (.iload_n 1, 1) := by decide +kernel
theorem dX2_finishTrick_2 : decode cX2_finishTrick 2 = .ok (.invokevirtual 141, 3) := by decide +kernel
theorem dX2_finishTrick_5 : decode cX2_finishTrick 5 = .ok (.istore_n 2, 1) := by decide +kernel
theorem dX2_finishTrick_6 : decode cX2_finishTrick 6 = .ok (.aload_n 0, 1) := by decide +kernel
theorem dX2_finishTrick_7 : decode cX2_finishTrick 7 = .ok (.iload_n 2, 1) := by decide +kernel
theorem dX2_finishTrick_8 : decode cX2_finishTrick 8 = .ok (.invokevirtual 87, 3) := by decide +kernel
theorem dX2_finishTrick_11 : decode cX2_finishTrick 11 = .ok (.astore_n 3, 1) := by decide +kernel
theorem dX2_finishTrick_12 : decode cX2_finishTrick 12 = .ok (.aload_n 3, 1) := by decide +kernel
theorem dX2_finishTrick_13 : decode cX2_finishTrick 13 = .ok (.getfield 105, 3) := by decide +kernel
theorem dX2_finishTrick_16 : decode cX2_finishTrick 16 = .ok (.iconst 1, 1) := by decide +kernel
theorem dX2_finishTrick_17 : decode cX2_finishTrick 17 = .ok (.if_icmp .ne 7, 3) := by decide +kernel
theorem dX2_finishTrick_20 : decode cX2_finishTrick 20 = .ok (.iconst 1, 1) := by decide +kernel
theorem dX2_finishTrick_21 : decode cX2_finishTrick 21 = .ok (.goto 4, 3) := by decide +kernel
theorem dX2_finishTrick_24 : decode cX2_finishTrick 24 = .ok (.iconst 0, 1) := by decide +kernel
theorem dX2_finishTrick_25 : decode cX2_finishTrick 25 = .ok (.istore 4, 2) := by decide +kernel
theorem dX2_finishTrick_27 : decode cX2_finishTrick 27 = .ok (.aload_n 3, 1) := by decide +kernel
theorem dX2_finishTrick_28 : decode cX2_finishTrick 28 = .ok (.dup, 1) := by decide +kernel
theorem dX2_finishTrick_29 : decode cX2_finishTrick 29 = .ok (.getfield 133, 3) := by decide +kernel
theorem dX2_finishTrick_32 : decode cX2_finishTrick 32 = .ok (.aload_n 0, 1) := by decide +kernel
theorem dX2_finishTrick_33 : decode cX2_finishTrick 33 = .ok (.getfield 30, 3) := by decide +kernel
theorem dX2_finishTrick_36 : decode cX2_finishTrick 36 = .ok (.iload 4, 2) := by decide +kernel
theorem dX2_finishTrick_38 : decode cX2_finishTrick 38 = .ok (.invokestatic 196, 3) := by decide +kernel
theorem dX2_finishTrick_41 : decode cX2_finishTrick 41 = .ok (.iload_n 1, 1) := by decide +kernel
theorem dX2_finishTrick_42 : decode cX2_finishTrick 42 = .ok (.iload 4, 2) := by decide +kernel
theorem dX2_finishTrick_44 : decode cX2_finishTrick 44 = .ok (.invokestatic 196, 3) := by decide +kernel
theorem dX2_finishTrick_47 : decode cX2_finishTrick 47 = .ok (.iadd, 1) := by decide +kernel
theorem dX2_finishTrick_48 : decode cX2_finishTrick 48 = .ok (.iadd, 1) := by decide +kernel
theorem dX2_finishTrick_49 : decode cX2_finishTrick 49 = .ok (.putfield 133, 3) := by decide +kernel
theorem dX2_finishTrick_52 : decode cX2_finishTrick 52 = .ok (.aload_n 3, 1) := by decide +kernel
theorem dX2_finishTrick_53 : decode cX2_finishTrick 53 = .ok (.dup, 1) := by decide +kernel
theorem dX2_finishTrick_54 : decode cX2_finishTrick 54 = .ok (.getfield 136, 3) := by decide +kernel
theorem dX2_finishTrick_57 : decode cX2_finishTrick 57 = .ok (.iconst 1, 1) := by decide +kernel
theorem dX2_finishTrick_58 : decode cX2_finishTrick 58 = .ok (.iadd, 1) := by decide +kernel
theorem dX2_finishTrick_59 : decode cX2_finishTrick 59 = .ok (.putfield 136, 3) := by decide +kernel
theorem dX2_finishTrick_62 : decode cX2_finishTrick 62 = .ok (.aload_n 3, 1) := by decide +kernel
theorem dX2_finishTrick_63 : decode cX2_finishTrick 63 = .ok (.dup, 1) := by decide +kernel
theorem dX2_finishTrick_64 : decode cX2_finishTrick 64 = .ok (.getfield 130, 3) := by decide +kernel
theorem dX2_finishTrick_67 : decode cX2_finishTrick 67 = .ok (.aload_n 0, 1) := by decide +kernel
theorem dX2_finishTrick_68 : decode cX2_finishTrick 68 = .ok (.getfield 30, 3) := by decide +kernel
theorem dX2_finishTrick_71 : decode cX2_finishTrick 71 = .ok (.invokestatic 95, 3) := by decide +kernel
theorem dX2_finishTrick_74 : decode cX2_finishTrick 74 = .ok (.iload_n 1, 1) := by decide +kernel
theorem dX2_finishTrick_75 : decode cX2_finishTrick 75 = .ok (.invokestatic 95, 3) := by decide +kernel
theorem dX2_finishTrick_78 : decode cX2_finishTrick 78 = .ok (.lor, 1) := by decide +kernel
theorem dX2_finishTrick_79 : decode cX2_finishTrick 79 = .ok (.lor, 1) := by decide +kernel
theorem dX2_finishTrick_80 : decode cX2_finishTrick 80 = .ok (.putfield 130, 3) := by decide +kernel
theorem dX2_finishTrick_83 : decode cX2_finishTrick 83 = .ok (.aload_n 0, 1) := by decide +kernel
theorem dX2_finishTrick_84 : decode cX2_finishTrick 84 = .ok (.getfield 16, 3) := by decide +kernel
theorem dX2_finishTrick_87 : decode cX2_finishTrick 87 = .ok (.invokevirtual 200, 3) := by decide +kernel
theorem dX2_finishTrick_90 : decode cX2_finishTrick 90 = .ok (.aload_n 0, 1) := by decide +kernel
theorem dX2_finishTrick_91 : decode cX2_finishTrick 91 = .ok (.getfield 20, 3) := by decide +kernel
theorem dX2_finishTrick_94 : decode cX2_finishTrick 94 = .ok (.invokevirtual 200, 3) := by decide +kernel
theorem dX2_finishTrick_97 : decode cX2_finishTrick 97 = .ok (.aload_n 0, 1) := by decide +kernel
theorem dX2_finishTrick_98 : decode cX2_finishTrick 98 = .ok (.iconst (-1), 1) := by decide +kernel
theorem dX2_finishTrick_99 : decode cX2_finishTrick 99 = .ok (.putfield 30, 3) := by decide +kernel
theorem dX2_finishTrick_102 : decode cX2_finishTrick 102 = .ok (.aload_n 0, 1) := by decide +kernel
theorem dX2_finishTrick_103 : decode cX2_finishTrick 103 = .ok (.aload_n 3, 1) := by decide +kernel
theorem dX2_finishTrick_104 : decode cX2_finishTrick 104 = .ok (.invokevirtual 203, 3) := by decide +kernel
theorem dX2_finishTrick_107 : decode cX2_finishTrick 107 = .ok (.aload_n 0, 1) := by decide +kernel
theorem dX2_finishTrick_108 : decode cX2_finishTrick 108 = .ok (.aload_n 0, 1) := by decide +kernel
theorem dX2_finishTrick_109 : decode cX2_finishTrick 109 = .ok (.iconst 1, 1) := by decide +kernel
theorem dX2_finishTrick_110 : decode cX2_finishTrick 110 = .ok (.iload_n 2, 1) := by decide +kernel
theorem dX2_finishTrick_111 : decode cX2_finishTrick 111 = .ok (.isub, 1) := by decide +kernel
theorem dX2_finishTrick_112 : decode cX2_finishTrick 112 = .ok (.invokevirtual 87, 3) := by decide +kernel
theorem dX2_finishTrick_115 : decode cX2_finishTrick 115 = .ok (.invokevirtual 203, 3) := by decide +kernel
theorem dX2_finishTrick_118 : decode cX2_finishTrick 118 = .ok (.aload_n 0, 1) := by decide +kernel
theorem dX2_finishTrick_119 : decode cX2_finishTrick 119 = .ok (.iload_n 2, 1) := by decide +kernel
theorem dX2_finishTrick_120 : decode cX2_finishTrick 120 = .ok (.putfield 33, 3) := by decide +kernel
theorem dX2_finishTrick_123 : decode cX2_finishTrick 123 = .ok (.aload_n 0, 1) := by decide +kernel
theorem dX2_finishTrick_124 : decode cX2_finishTrick 124 = .ok (.getfield 16, 3) := by decide +kernel
theorem dX2_finishTrick_127 : decode cX2_finishTrick 127 = .ok (.getfield 91, 3) := by decide +kernel
theorem dX2_finishTrick_130 : decode cX2_finishTrick 130 = .ok (.aload_n 0, 1) := by decide +kernel
theorem dX2_finishTrick_131 : decode cX2_finishTrick 131 = .ok (.getfield 20, 3) := by decide +kernel
theorem dX2_finishTrick_134 : decode cX2_finishTrick 134 = .ok (.getfield 91, 3) := by decide +kernel
theorem dX2_finishTrick_137 : decode cX2_finishTrick 137 = .ok (.lor, 1) := by decide +kernel
theorem dX2_finishTrick_138 : decode cX2_finishTrick 138 = .ok (.lconst 0, 1) := by decide +kernel
theorem dX2_finishTrick_139 : decode cX2_finishTrick 139 = .ok (.lcmp, 1) := by decide +kernel
theorem dX2_finishTrick_140 : decode cX2_finishTrick 140 = .ok (.ifCond .ne 7, 3) := by decide +kernel
theorem dX2_finishTrick_143 : decode cX2_finishTrick 143 = .ok (.aload_n 0, 1) := by decide +kernel
theorem dX2_finishTrick_144 : decode cX2_finishTrick 144 = .ok (.invokevirtual 207, 3) := by decide +kernel
theorem dX2_finishTrick_147 : decode cX2_finishTrick 147 = .ok (.iload_n 2, 1) := by decide +kernel
theorem dX2_finishTrick_148 : decode cX2_finishTrick 148 = .ok (.ireturn, 1) := by decide +kernel
theorem dX2_endGame_0 : decode cX2_endGame 0 = .ok (.aload_n 0, 1) := by decide +kernel
theorem dX2_endGame_1 : decode cX2_endGame 1 = .ok (.iconst (-1), 1) := by decide +kernel
theorem dX2_endGame_2 : decode cX2_endGame 2 = .ok (.putfield 33, 3) := by decide +kernel
theorem dX2_endGame_5 : decode cX2_endGame 5 = .ok (.aload_n 0, 1) := by decide +kernel
theorem dX2_endGame_6 : decode cX2_endGame 6 = .ok (.getfield 16, 3) := by decide +kernel
theorem dX2_endGame_9 : decode cX2_endGame 9 = .ok (.getfield 133, 3) := by decide +kernel
theorem dX2_endGame_12 : decode cX2_endGame 12 = .ok (.aload_n 0, 1) := by decide +kernel
theorem dX2_endGame_13 : decode cX2_endGame 13 = .ok (.getfield 20, 3) := by decide +kernel
theorem dX2_endGame_16 : decode cX2_endGame 16 = .ok (.getfield 133, 3) := by decide +kernel
theorem dX2_endGame_19 : decode cX2_endGame 19 = .ok (.if_icmp .le 16, 3) := by decide +kernel
theorem dX2_endGame_22 : decode cX2_endGame 22 = .ok (.aload_n 0, 1) := by decide +kernel
theorem dX2_endGame_23 : decode cX2_endGame 23 = .ok (.dup, 1) := by decide +kernel
theorem dX2_endGame_24 : decode cX2_endGame 24 = .ok (.getfield 36, 3) := by decide +kernel
theorem dX2_endGame_27 : decode cX2_endGame 27 = .ok (.iconst 1, 1) := by decide +kernel
theorem dX2_endGame_28 : decode cX2_endGame 28 = .ok (.iadd, 1) := by decide +kernel
theorem dX2_endGame_29 : decode cX2_endGame 29 = .ok (.putfield 36, 3) := by decide +kernel
theorem dX2_endGame_32 : decode cX2_endGame 32 = .ok (.goto 30, 3) := by decide +kernel
theorem dX2_endGame_35 : decode cX2_endGame 35 = .ok (.aload_n 0, 1) := by decide +kernel
theorem dX2_endGame_36 : decode cX2_endGame 36 = .ok (.getfield 20, 3) := by decide +kernel
theorem dX2_endGame_39 : decode cX2_endGame 39 = .ok (.getfield 133, 3) := by decide +kernel
theorem dX2_endGame_42 : decode cX2_endGame 42 = .ok (.aload_n 0, 1) := by decide +kernel
theorem dX2_endGame_43 : decode cX2_endGame 43 = .ok (.getfield 16, 3) := by decide +kernel
theorem dX2_endGame_46 : decode cX2_endGame 46 = .ok (.getfield 133, 3) := by decide +kernel
theorem dX2_endGame_49 : decode cX2_endGame 49 = .ok (.if_icmp .le 13, 3) := by decide +kernel
theorem dX2_endGame_52 : decode cX2_endGame 52 = .ok (.aload_n 0, 1) := by decide +kernel
theorem dX2_endGame_53 : decode cX2_endGame 53 = .ok (.dup, 1) := by decide +kernel
theorem dX2_endGame_54 : decode cX2_endGame 54 = .ok (.getfield 39, 3) := by decide +kernel
theorem dX2_endGame_57 : decode cX2_endGame 57 = .ok (.iconst 1, 1) := by decide +kernel
theorem dX2_endGame_58 : decode cX2_endGame 58 = .ok (.iadd, 1) := by decide +kernel
theorem dX2_endGame_59 : decode cX2_endGame 59 = .ok (.putfield 39, 3) := by decide +kernel
theorem dX2_endGame_62 : decode cX2_endGame 62 = .ok (.return_, 1) := by decide +kernel
theorem dX2_archivist_0 : decode cX2_archivist 0 = .ok (.iload_n 1, 1) := by decide +kernel
theorem dX2_archivist_1 : decode cX2_archivist 1 = .ok (.ifCond .ne 10, 3) := by decide +kernel
theorem dX2_archivist_4 : decode cX2_archivist 4 = .ok (.aload_n 0, 1) := by decide +kernel
theorem dX2_archivist_5 : decode cX2_archivist 5 = .ok (.getfield 16, 3) := by decide +kernel
theorem dX2_archivist_8 : decode cX2_archivist 8 = .ok (.goto 7, 3) := by decide +kernel
theorem dX2_archivist_11 : decode cX2_archivist 11 = .ok (.aload_n 0, 1) := by decide +kernel
theorem dX2_archivist_12 : decode cX2_archivist 12 = .ok (.getfield 20, 3) := by decide +kernel
theorem dX2_archivist_15 : decode cX2_archivist 15 = .ok (.areturn, 1) := by decide +kernel
set_option maxRecDepth 20000 in
theorem ggX2_moversHand_X2_archivist : GoodIn wsX2_moversHand wsX2_archivist := goodIn_r _ [7, 8, 9, 10, 11, 12, 13, 14, 15, 16, 17, 18, 19, 20] (by decide +kernel) (by decide +kernel)
set_option maxRecDepth 20000 in
theorem gX2_moversHand_X2_archivist : GoodIn wsX2_moversHand (wsV RX2 87 RX2 yX2_archivist wsX2_archivist) := goodIn_app (goodIn_of _ (by decide +kernel)) ggX2_moversHand_X2_archivist
theorem dX2_moversHand_0 : decode cX2_moversHand 0 = .ok (.aload_n 0, 1) := by decide +kernel
theorem dX2_moversHand_1 : decode cX2_moversHand 1 = .ok (.aload_n 0, 1) := by decide +kernel
theorem dX2_moversHand_2 : decode cX2_moversHand 2 = .ok (.getfield 33, 3) := by decide +kernel
theorem dX2_moversHand_5 : decode cX2_moversHand 5 = .ok (.invokevirtual 87, 3) := by decide +kernel
theorem dX2_moversHand_8 : decode cX2_moversHand 8 = .ok (.getfield 91, 3) := by decide +kernel
theorem dX2_moversHand_11 : decode cX2_moversHand 11 = .ok (.lreturn, 1) := by decide +kernel
set_option maxRecDepth 20000 in
theorem ggX2_othersHand_X2_archivist : GoodIn wsX2_othersHand wsX2_archivist := goodIn_r _ [7, 8, 9, 10, 11, 12, 13, 14, 15, 16, 17, 18, 19, 20] (by decide +kernel) (by decide +kernel)
set_option maxRecDepth 20000 in
theorem gX2_othersHand_X2_archivist : GoodIn wsX2_othersHand (wsV RX2 87 RX2 yX2_archivist wsX2_archivist) := goodIn_app (goodIn_of _ (by decide +kernel)) ggX2_othersHand_X2_archivist
theorem dX2_othersHand_0 : decode cX2_othersHand 0 = .ok (.aload_n 0, 1) := by decide +kernel
theorem dX2_othersHand_1 : decode cX2_othersHand 1 = .ok (.iconst 1, 1) := by decide +kernel
theorem dX2_othersHand_2 : decode cX2_othersHand 2 = .ok (.aload_n 0, 1) := by decide +kernel
theorem dX2_othersHand_3 : decode cX2_othersHand 3 = .ok (.getfield 33, 3) := by decide +kernel
theorem dX2_othersHand_6 : decode cX2_othersHand 6 = .ok (.isub, 1) := by decide +kernel
theorem dX2_othersHand_7 : decode cX2_othersHand 7 = .ok (.invokevirtual 87, 3) := by decide +kernel
theorem dX2_othersHand_10 : decode cX2_othersHand 10 = .ok (.getfield 91, 3) := by decide +kernel
theorem dX2_othersHand_13 : decode cX2_othersHand 13 = .ok (.lreturn, 1) := by decide +kernel
theorem dX2_glovesWorn_0 : decode cX2_glovesWorn 0 = .ok (.aload_n 0, 1) := by decide +kernel
theorem dX2_glovesWorn_1 : decode cX2_glovesWorn 1 = .ok (.getfield 16, 3) := by decide +kernel
theorem dX2_glovesWorn_4 : decode cX2_glovesWorn 4 = .ok (.getfield 105, 3) := by decide +kernel
theorem dX2_glovesWorn_7 : decode cX2_glovesWorn 7 = .ok (.iconst 1, 1) := by decide +kernel
theorem dX2_glovesWorn_8 : decode cX2_glovesWorn 8 = .ok (.if_icmp .ne 7, 3) := by decide +kernel
theorem dX2_glovesWorn_11 : decode cX2_glovesWorn 11 = .ok (.iconst 1, 1) := by decide +kernel
theorem dX2_glovesWorn_12 : decode cX2_glovesWorn 12 = .ok (.goto 4, 3) := by decide +kernel
theorem dX2_glovesWorn_15 : decode cX2_glovesWorn 15 = .ok (.iconst 0, 1) := by decide +kernel
theorem dX2_glovesWorn_16 : decode cX2_glovesWorn 16 = .ok (.aload_n 0, 1) := by decide +kernel
theorem dX2_glovesWorn_17 : decode cX2_glovesWorn 17 = .ok (.getfield 20, 3) := by decide +kernel
theorem dX2_glovesWorn_20 : decode cX2_glovesWorn 20 = .ok (.getfield 105, 3) := by decide +kernel
theorem dX2_glovesWorn_23 : decode cX2_glovesWorn 23 = .ok (.iconst 1, 1) := by decide +kernel
theorem dX2_glovesWorn_24 : decode cX2_glovesWorn 24 = .ok (.if_icmp .ne 7, 3) := by decide +kernel
theorem dX2_glovesWorn_27 : decode cX2_glovesWorn 27 = .ok (.iconst 2, 1) := by decide +kernel
theorem dX2_glovesWorn_28 : decode cX2_glovesWorn 28 = .ok (.goto 4, 3) := by decide +kernel
theorem dX2_glovesWorn_31 : decode cX2_glovesWorn 31 = .ok (.iconst 0, 1) := by decide +kernel
theorem dX2_glovesWorn_32 : decode cX2_glovesWorn 32 = .ok (.ior, 1) := by decide +kernel
theorem dX2_glovesWorn_33 : decode cX2_glovesWorn 33 = .ok (.ireturn, 1) := by decide +kernel
theorem dX2_isEnding_0 : decode cX2_isEnding 0 = .ok (.aload_n 0, 1) := by decide +kernel
theorem dX2_isEnding_1 : decode cX2_isEnding 1 = .ok (.getfield 33, 3) := by decide +kernel
theorem dX2_isEnding_4 : decode cX2_isEnding 4 = .ok (.iconst (-1), 1) := by decide +kernel
theorem dX2_isEnding_5 : decode cX2_isEnding 5 = .ok (.if_icmp .eq 16, 3) := by decide +kernel
theorem dX2_isEnding_8 : decode cX2_isEnding 8 = .ok (.aload_n 0, 1) := by decide +kernel
theorem dX2_isEnding_9 : decode cX2_isEnding 9 = .ok (.getfield 23, 3) := by decide +kernel
theorem dX2_isEnding_12 : decode cX2_isEnding 12 = .ok (.bipush 42, 2) := by decide +kernel
theorem dX2_isEnding_14 : decode cX2_isEnding 14 = .ok (.if_icmp .lt 7, 3) := by decide +kernel
theorem dX2_isEnding_17 : decode cX2_isEnding 17 = .ok (.iconst 1, 1) := by decide +kernel
theorem dX2_isEnding_18 : decode cX2_isEnding 18 = .ok (.goto 4, 3) := by decide +kernel
theorem dX2_isEnding_21 : decode cX2_isEnding 21 = .ok (.iconst 0, 1) := by decide +kernel
theorem dX2_isEnding_22 : decode cX2_isEnding 22 = .ok (.ireturn, 1) := by decide +kernel
set_option maxRecDepth 20000 in
theorem ggX2_begunEnding_X1_init : GoodIn wsX2_begunEnding wsX1_init := goodIn_r _ [11, 12, 13, 14, 15, 16, 17, 18, 19, 39, 40, 41, 42] (by decide +kernel) (by decide +kernel)
set_option maxRecDepth 20000 in
theorem gX2_begunEnding_X1_init_n210 : GoodIn wsX2_begunEnding (wsX1_init) := ggX2_begunEnding_X1_init
set_option maxRecDepth 20000 in
theorem ggX2_begunEnding_X1_begin : GoodIn wsX2_begunEnding wsX1_begin := goodIn_r _ [23, 17, 18, 19, 16, 24, 25, 26, 27, 39, 40, 41, 42] (by decide +kernel) (by decide +kernel)
set_option maxRecDepth 20000 in
theorem gX2_begunEnding_X1_begin : GoodIn wsX2_begunEnding (wsV RX2 211 RX1 yX1_begin wsX1_begin) := goodIn_app (goodIn_of _ (by decide +kernel)) ggX2_begunEnding_X1_begin
theorem dX2_begunEnding_0 : decode cX2_begunEnding 0 = .ok (.aload_n 0, 1) := by decide +kernel
theorem dX2_begunEnding_1 : decode cX2_begunEnding 1 = .ok (.getfield 42, 3) := by decide +kernel
theorem dX2_begunEnding_4 : decode cX2_begunEnding 4 = .ok (.ifnonnull 14, 3) := by decide +kernel
theorem dX2_begunEnding_7 : decode cX2_begunEnding 7 = .ok (.aload_n 0, 1) := by decide +kernel
theorem dX2_begunEnding_8 : decode cX2_begunEnding 8 = .ok (.new 166, 3) := by decide +kernel
theorem dX2_begunEnding_11 : decode cX2_begunEnding 11 = .ok (.dup, 1) := by decide +kernel
theorem dX2_begunEnding_12 : decode cX2_begunEnding 12 = .ok (.invokespecial 210, 3) := by decide +kernel
theorem dX2_begunEnding_15 : decode cX2_begunEnding 15 = .ok (.putfield 42, 3) := by decide +kernel
theorem dX2_begunEnding_18 : decode cX2_begunEnding 18 = .ok (.aload_n 0, 1) := by decide +kernel
theorem dX2_begunEnding_19 : decode cX2_begunEnding 19 = .ok (.getfield 46, 3) := by decide +kernel
theorem dX2_begunEnding_22 : decode cX2_begunEnding 22 = .ok (.ifCond .ne 33, 3) := by decide +kernel
theorem dX2_begunEnding_25 : decode cX2_begunEnding 25 = .ok (.aload_n 0, 1) := by decide +kernel
theorem dX2_begunEnding_26 : decode cX2_begunEnding 26 = .ok (.getfield 42, 3) := by decide +kernel
theorem dX2_begunEnding_29 : decode cX2_begunEnding 29 = .ok (.aload_n 0, 1) := by decide +kernel
theorem dX2_begunEnding_30 : decode cX2_begunEnding 30 = .ok (.getfield 16, 3) := by decide +kernel
theorem dX2_begunEnding_33 : decode cX2_begunEnding 33 = .ok (.getfield 91, 3) := by decide +kernel
theorem dX2_begunEnding_36 : decode cX2_begunEnding 36 = .ok (.aload_n 0, 1) := by decide +kernel
theorem dX2_begunEnding_37 : decode cX2_begunEnding 37 = .ok (.getfield 20, 3) := by decide +kernel
theorem dX2_begunEnding_40 : decode cX2_begunEnding 40 = .ok (.getfield 91, 3) := by decide +kernel
theorem dX2_begunEnding_43 : decode cX2_begunEnding 43 = .ok (.aload_n 0, 1) := by decide +kernel
theorem dX2_begunEnding_44 : decode cX2_begunEnding 44 = .ok (.getfield 27, 3) := by decide +kernel
theorem dX2_begunEnding_47 : decode cX2_begunEnding 47 = .ok (.invokevirtual 211, 3) := by decide +kernel
theorem dX2_begunEnding_50 : decode cX2_begunEnding 50 = .ok (.aload_n 0, 1) := by decide +kernel
theorem dX2_begunEnding_51 : decode cX2_begunEnding 51 = .ok (.iconst 1, 1) := by decide +kernel
theorem dX2_begunEnding_52 : decode cX2_begunEnding 52 = .ok (.putfield 46, 3) := by decide +kernel
theorem dX2_begunEnding_55 : decode cX2_begunEnding 55 = .ok (.aload_n 0, 1) := by decide +kernel
theorem dX2_begunEnding_56 : decode cX2_begunEnding 56 = .ok (.getfield 42, 3) := by decide +kernel
theorem dX2_begunEnding_59 : decode cX2_begunEnding 59 = .ok (.areturn, 1) := by decide +kernel
theorem dX2_isCard_0 : decode cX2_isCard 0 = .ok (.iload_n 0, 1) := by decide +kernel
theorem dX2_isCard_1 : decode cX2_isCard 1 = .ok (.ifCond .lt 13, 3) := by decide +kernel
theorem dX2_isCard_4 : decode cX2_isCard 4 = .ok (.iload_n 0, 1) := by decide +kernel
theorem dX2_isCard_5 : decode cX2_isCard 5 = .ok (.bipush 42, 2) := by decide +kernel
theorem dX2_isCard_7 : decode cX2_isCard 7 = .ok (.if_icmp .ge 7, 3) := by decide +kernel
theorem dX2_isCard_10 : decode cX2_isCard 10 = .ok (.iconst 1, 1) := by decide +kernel
theorem dX2_isCard_11 : decode cX2_isCard 11 = .ok (.goto 4, 3) := by decide +kernel
theorem dX2_isCard_14 : decode cX2_isCard 14 = .ok (.iconst 0, 1) := by decide +kernel
theorem dX2_isCard_15 : decode cX2_isCard 15 = .ok (.ireturn, 1) := by decide +kernel
theorem dX2_isArchivist_0 : decode cX2_isArchivist 0 = .ok (.iload_n 0, 1) := by decide +kernel
theorem dX2_isArchivist_1 : decode cX2_isArchivist 1 = .ok (.ifCond .eq 8, 3) := by decide +kernel
theorem dX2_isArchivist_4 : decode cX2_isArchivist 4 = .ok (.iload_n 0, 1) := by decide +kernel
theorem dX2_isArchivist_5 : decode cX2_isArchivist 5 = .ok (.iconst 1, 1) := by decide +kernel
theorem dX2_isArchivist_6 : decode cX2_isArchivist 6 = .ok (.if_icmp .ne 7, 3) := by decide +kernel
theorem dX2_isArchivist_9 : decode cX2_isArchivist 9 = .ok (.iconst 1, 1) := by decide +kernel
theorem dX2_isArchivist_10 : decode cX2_isArchivist 10 = .ok (.goto 4, 3) := by decide +kernel
theorem dX2_isArchivist_13 : decode cX2_isArchivist 13 = .ok (.iconst 0, 1) := by decide +kernel
theorem dX2_isArchivist_14 : decode cX2_isArchivist 14 = .ok (.ireturn, 1) := by decide +kernel
theorem dX2_isMildew_0 : decode cX2_isMildew 0 = .ok (.iload_n 0, 1) := by decide +kernel
theorem dX2_isMildew_1 : decode cX2_isMildew 1 = .ok (.bipush 40, 2) := by decide +kernel
theorem dX2_isMildew_3 : decode cX2_isMildew 3 = .ok (.if_icmp .lt 7, 3) := by decide +kernel
theorem dX2_isMildew_6 : decode cX2_isMildew 6 = .ok (.iconst 1, 1) := by decide +kernel
theorem dX2_isMildew_7 : decode cX2_isMildew 7 = .ok (.goto 4, 3) := by decide +kernel
theorem dX2_isMildew_10 : decode cX2_isMildew 10 = .ok (.iconst 0, 1) := by decide +kernel
theorem dX2_isMildew_11 : decode cX2_isMildew 11 = .ok (.ireturn, 1) := by decide +kernel
theorem dX2_bit_0 : decode cX2_bit 0 = .ok (.lconst 1, 1) := by decide +kernel
theorem dX2_bit_1 : decode cX2_bit 1 = .ok (.iload_n 0, 1) := by decide +kernel
theorem dX2_bit_2 : decode cX2_bit 2 = .ok (.lshl, 1) := by decide +kernel
theorem dX2_bit_3 : decode cX2_bit 3 = .ok (.lreturn, 1) := by decide +kernel
set_option maxRecDepth 20000 in
theorem ggX2_has_X2_bit : GoodIn wsX2_has wsX2_bit := goodIn_r _ [4] (by decide +kernel) (by decide +kernel)
set_option maxRecDepth 20000 in
theorem gX2_has_X2_bit : GoodIn wsX2_has (va_wsS RX2 95 yX2_bit wsX2_bit) := goodIn_app (goodIn_of _ (by decide +kernel)) ggX2_has_X2_bit
theorem dX2_has_0 : decode cX2_has 0 = .ok (.lload_n 0, 1) := by decide +kernel
theorem dX2_has_1 : decode cX2_has 1 = .ok (.iload_n 2, 1) := by decide +kernel
theorem dX2_has_2 : decode cX2_has 2 = .ok (.invokestatic 95, 3) := by decide +kernel
theorem dX2_has_5 : decode cX2_has 5 = .ok (.land, 1) := by decide +kernel
theorem dX2_has_6 : decode cX2_has 6 = .ok (.lconst 0, 1) := by decide +kernel
theorem dX2_has_7 : decode cX2_has 7 = .ok (.lcmp, 1) := by decide +kernel
theorem dX2_has_8 : decode cX2_has 8 = .ok (.ifCond .eq 7, 3) := by decide +kernel
theorem dX2_has_11 : decode cX2_has 11 = .ok (.iconst 1, 1) := by decide +kernel
theorem dX2_has_12 : decode cX2_has 12 = .ok (.goto 4, 3) := by decide +kernel
theorem dX2_has_15 : decode cX2_has 15 = .ok (.iconst 0, 1) := by decide +kernel
theorem dX2_has_16 : decode cX2_has 16 = .ok (.ireturn, 1) := by decide +kernel
theorem dX2_allOf_0 : decode cX2_allOf 0 = .ok (.ldc2_w 214, 3) := by decide +kernel
theorem dX2_allOf_3 : decode cX2_allOf 3 = .ok (.iload_n 0, 1) := by decide +kernel
theorem dX2_allOf_4 : decode cX2_allOf 4 = .ok (.bipush 10, 2) := by decide +kernel
theorem dX2_allOf_6 : decode cX2_allOf 6 = .ok (.imul, 1) := by decide +kernel
theorem dX2_allOf_7 : decode cX2_allOf 7 = .ok (.lshl, 1) := by decide +kernel
theorem dX2_allOf_8 : decode cX2_allOf 8 = .ok (.lreturn, 1) := by decide +kernel
set_option maxRecDepth 20000 in
theorem ggX2_worth_X2_isMildew : GoodIn wsX2_worth wsX2_isMildew := goodIn_r _ [4] (by decide +kernel) (by decide +kernel)
set_option maxRecDepth 20000 in
theorem gX2_worth_X2_isMildew : GoodIn wsX2_worth (va_wsS RX2 64 yX2_isMildew wsX2_isMildew) := goodIn_app (goodIn_of _ (by decide +kernel)) ggX2_worth_X2_isMildew
theorem dX2_worth_0 : decode cX2_worth 0 = .ok (.iload_n 0, 1) := by decide +kernel
theorem dX2_worth_1 : decode cX2_worth 1 = .ok (.invokestatic 64, 3) := by decide +kernel
theorem dX2_worth_4 : decode cX2_worth 4 = .ok (.ifCond .eq 14, 3) := by decide +kernel
theorem dX2_worth_7 : decode cX2_worth 7 = .ok (.iload_n 1, 1) := by decide +kernel
theorem dX2_worth_8 : decode cX2_worth 8 = .ok (.ifCond .eq 7, 3) := by decide +kernel
theorem dX2_worth_11 : decode cX2_worth 11 = .ok (.iconst 0, 1) := by decide +kernel
theorem dX2_worth_12 : decode cX2_worth 12 = .ok (.goto 5, 3) := by decide +kernel
theorem dX2_worth_15 : decode cX2_worth 15 = .ok (.bipush (-5), 2) := by decide +kernel
theorem dX2_worth_17 : decode cX2_worth 17 = .ok (.ireturn, 1) := by decide +kernel
theorem dX2_worth_18 : decode cX2_worth 18 = .ok (.bipush 10, 2) := by decide +kernel
theorem dX2_worth_20 : decode cX2_worth 20 = .ok (.iload_n 0, 1) := by decide +kernel
theorem dX2_worth_21 : decode cX2_worth 21 = .ok (.bipush 10, 2) := by decide +kernel
theorem dX2_worth_23 : decode cX2_worth 23 = .ok (.irem, 1) := by decide +kernel
theorem dX2_worth_24 : decode cX2_worth 24 = .ok (.isub, 1) := by decide +kernel
theorem dX2_worth_25 : decode cX2_worth 25 = .ok (.ireturn, 1) := by decide +kernel
set_option maxRecDepth 20000 in
theorem ggX2_beats_X2_isMildew : GoodIn wsX2_beats wsX2_isMildew := goodIn_r _ [4] (by decide +kernel) (by decide +kernel)
set_option maxRecDepth 20000 in
theorem gX2_beats_X2_isMildew : GoodIn wsX2_beats (va_wsS RX2 64 yX2_isMildew wsX2_isMildew) := goodIn_app (goodIn_of _ (by decide +kernel)) ggX2_beats_X2_isMildew
theorem dX2_beats_0 : decode cX2_beats 0 = .ok (.iload_n 0, 1) := by decide +kernel
theorem dX2_beats_1 : decode cX2_beats 1 = .ok (.invokestatic 64, 3) := by decide +kernel
theorem dX2_beats_4 : decode cX2_beats 4 = .ok (.ifCond .eq 5, 3) := by decide +kernel
theorem dX2_beats_7 : decode cX2_beats 7 = .ok (.iconst 0, 1) := by decide +kernel
theorem dX2_beats_8 : decode cX2_beats 8 = .ok (.ireturn, 1) := by decide +kernel
theorem dX2_beats_9 : decode cX2_beats 9 = .ok (.iload_n 1, 1) := by decide +kernel
theorem dX2_beats_10 : decode cX2_beats 10 = .ok (.invokestatic 64, 3) := by decide +kernel
theorem dX2_beats_13 : decode cX2_beats 13 = .ok (.ifCond .eq 5, 3) := by decide +kernel
theorem dX2_beats_16 : decode cX2_beats 16 = .ok (.iconst 1, 1) := by decide +kernel
theorem dX2_beats_17 : decode cX2_beats 17 = .ok (.ireturn, 1) := by decide +kernel
theorem dX2_beats_18 : decode cX2_beats 18 = .ok (.iload_n 0, 1) := by decide +kernel
theorem dX2_beats_19 : decode cX2_beats 19 = .ok (.bipush 10, 2) := by decide +kernel
theorem dX2_beats_21 : decode cX2_beats 21 = .ok (.idiv, 1) := by decide +kernel
theorem dX2_beats_22 : decode cX2_beats 22 = .ok (.iload_n 1, 1) := by decide +kernel
theorem dX2_beats_23 : decode cX2_beats 23 = .ok (.bipush 10, 2) := by decide +kernel
theorem dX2_beats_25 : decode cX2_beats 25 = .ok (.idiv, 1) := by decide +kernel
theorem dX2_beats_26 : decode cX2_beats 26 = .ok (.if_icmp .ne 14, 3) := by decide +kernel
theorem dX2_beats_29 : decode cX2_beats 29 = .ok (.iload_n 0, 1) := by decide +kernel
theorem dX2_beats_30 : decode cX2_beats 30 = .ok (.iload_n 1, 1) := by decide +kernel
theorem dX2_beats_31 : decode cX2_beats 31 = .ok (.if_icmp .ge 7, 3) := by decide +kernel
theorem dX2_beats_34 : decode cX2_beats 34 = .ok (.iconst 1, 1) := by decide +kernel
theorem dX2_beats_35 : decode cX2_beats 35 = .ok (.goto 4, 3) := by decide +kernel
theorem dX2_beats_38 : decode cX2_beats 38 = .ok (.iconst 0, 1) := by decide +kernel
theorem dX2_beats_39 : decode cX2_beats 39 = .ok (.ireturn, 1) := by decide +kernel
theorem dX2_beats_40 : decode cX2_beats 40 = .ok (.iload_n 0, 1) := by decide +kernel
theorem dX2_beats_41 : decode cX2_beats 41 = .ok (.bipush 10, 2) := by decide +kernel
theorem dX2_beats_43 : decode cX2_beats 43 = .ok (.idiv, 1) := by decide +kernel
theorem dX2_beats_44 : decode cX2_beats 44 = .ok (.iload_n 2, 1) := by decide +kernel
theorem dX2_beats_45 : decode cX2_beats 45 = .ok (.if_icmp .ne 7, 3) := by decide +kernel
theorem dX2_beats_48 : decode cX2_beats 48 = .ok (.iconst 1, 1) := by decide +kernel
theorem dX2_beats_49 : decode cX2_beats 49 = .ok (.goto 4, 3) := by decide +kernel
theorem dX2_beats_52 : decode cX2_beats 52 = .ok (.iconst 0, 1) := by decide +kernel
theorem dX2_beats_53 : decode cX2_beats 53 = .ok (.ireturn, 1) := by decide +kernel
set_option maxRecDepth 20000 in
theorem ggX2_reasonAgainstLeading_X2_isMildew : GoodIn wsX2_reasonAgainstLeading wsX2_isMildew := goodIn_r _ [5] (by decide +kernel) (by decide +kernel)
set_option maxRecDepth 20000 in
theorem gX2_reasonAgainstLeading_X2_isMildew : GoodIn wsX2_reasonAgainstLeading (va_wsS RX2 64 yX2_isMildew wsX2_isMildew) := goodIn_app (goodIn_of _ (by decide +kernel)) ggX2_reasonAgainstLeading_X2_isMildew
theorem dX2_reasonAgainstLeading_0 : decode cX2_reasonAgainstLeading 0 = .ok (.iload_n 2, 1) := by decide +kernel
theorem dX2_reasonAgainstLeading_1 : decode cX2_reasonAgainstLeading 1 = .ok (.invokestatic 64, 3) := by decide +kernel
theorem dX2_reasonAgainstLeading_4 : decode cX2_reasonAgainstLeading 4 = .ok (.ifCond .eq 17, 3) := by decide +kernel
theorem dX2_reasonAgainstLeading_7 : decode cX2_reasonAgainstLeading 7 = .ok (.lload_n 0, 1) := by decide +kernel
theorem dX2_reasonAgainstLeading_8 : decode cX2_reasonAgainstLeading 8 = .ok (.ldc2_w 216, 3) := by decide +kernel
theorem dX2_reasonAgainstLeading_11 : decode cX2_reasonAgainstLeading 11 = .ok (.land, 1) := by decide +kernel
theorem dX2_reasonAgainstLeading_12 : decode cX2_reasonAgainstLeading 12 = .ok (.lconst 0, 1) := by decide +kernel
theorem dX2_reasonAgainstLeading_13 : decode cX2_reasonAgainstLeading 13 = .ok (.lcmp, 1) := by decide +kernel
theorem dX2_reasonAgainstLeading_14 : decode cX2_reasonAgainstLeading 14 = .ok (.ifCond .eq 7, 3) := by decide +kernel
theorem dX2_reasonAgainstLeading_17 : decode cX2_reasonAgainstLeading 17 = .ok (.iconst 3, 1) := by decide +kernel
theorem dX2_reasonAgainstLeading_18 : decode cX2_reasonAgainstLeading 18 = .ok (.goto 4, 3) := by decide +kernel
theorem dX2_reasonAgainstLeading_21 : decode cX2_reasonAgainstLeading 21 = .ok (.iconst 0, 1) := by decide +kernel
theorem dX2_reasonAgainstLeading_22 : decode cX2_reasonAgainstLeading 22 = .ok (.ireturn, 1) := by decide +kernel
set_option maxRecDepth 20000 in
theorem ggX2_reasonAgainstReplying_X2_isMildew : GoodIn wsX2_reasonAgainstReplying wsX2_isMildew := goodIn_r _ [4] (by decide +kernel) (by decide +kernel)
set_option maxRecDepth 20000 in
theorem gX2_reasonAgainstReplying_X2_isMildew : GoodIn wsX2_reasonAgainstReplying (va_wsS RX2 64 yX2_isMildew wsX2_isMildew) := goodIn_app (goodIn_of _ (by decide +kernel)) ggX2_reasonAgainstReplying_X2_isMildew
set_option maxRecDepth 20000 in
theorem ggX2_reasonAgainstReplying_X2_allOf : GoodIn wsX2_reasonAgainstReplying wsX2_allOf := goodIn_r _ [7, 8] (by decide +kernel) (by decide +kernel)
set_option maxRecDepth 20000 in
theorem gX2_reasonAgainstReplying_X2_allOf : GoodIn wsX2_reasonAgainstReplying (va_wsS RX2 218 yX2_allOf wsX2_allOf) := goodIn_app (goodIn_of _ (by decide +kernel)) ggX2_reasonAgainstReplying_X2_allOf
set_option maxRecDepth 20000 in
theorem ggX2_reasonAgainstReplying_X2_has : GoodIn wsX2_reasonAgainstReplying wsX2_has := goodIn_r _ [11, 12, 13, 3, 14] (by decide +kernel) (by decide +kernel)
set_option maxRecDepth 20000 in
theorem gX2_reasonAgainstReplying_X2_has : GoodIn wsX2_reasonAgainstReplying (va_wsS RX2 124 yX2_has wsX2_has) := goodIn_app (goodIn_of _ (by decide +kernel)) ggX2_reasonAgainstReplying_X2_has
theorem dX2_reasonAgainstReplying_0 : decode cX2_reasonAgainstReplying 0 = .ok (.iload_n 3, 1) := by decide +kernel
theorem dX2_reasonAgainstReplying_1 : decode cX2_reasonAgainstReplying 1 = .ok (.invokestatic 64, 3) := by decide +kernel
theorem dX2_reasonAgainstReplying_4 : decode cX2_reasonAgainstReplying 4 = .ok (.ifCond .eq 5, 3) := by decide +kernel
theorem dX2_reasonAgainstReplying_7 : decode cX2_reasonAgainstReplying 7 = .ok (.iconst 0, 1) := by decide +kernel
theorem dX2_reasonAgainstReplying_8 : decode cX2_reasonAgainstReplying 8 = .ok (.ireturn, 1) := by decide +kernel
theorem dX2_reasonAgainstReplying_9 : decode cX2_reasonAgainstReplying 9 = .ok (.lload_n 0, 1) := by decide +kernel
theorem dX2_reasonAgainstReplying_10 : decode cX2_reasonAgainstReplying 10 = .ok (.iload_n 3, 1) := by decide +kernel
theorem dX2_reasonAgainstReplying_11 : decode cX2_reasonAgainstReplying 11 = .ok (.bipush 10, 2) := by decide +kernel
theorem dX2_reasonAgainstReplying_13 : decode cX2_reasonAgainstReplying 13 = .ok (.idiv, 1) := by decide +kernel
theorem dX2_reasonAgainstReplying_14 : decode cX2_reasonAgainstReplying 14 = .ok (.invokestatic 218, 3) := by decide +kernel
theorem dX2_reasonAgainstReplying_17 : decode cX2_reasonAgainstReplying 17 = .ok (.land, 1) := by decide +kernel
theorem dX2_reasonAgainstReplying_18 : decode cX2_reasonAgainstReplying 18 = .ok (.lstore 5, 2) := by decide +kernel
theorem dX2_reasonAgainstReplying_20 : decode cX2_reasonAgainstReplying 20 = .ok (.lload 5, 2) := by decide +kernel
theorem dX2_reasonAgainstReplying_22 : decode cX2_reasonAgainstReplying 22 = .ok (.lconst 0, 1) := by decide +kernel
theorem dX2_reasonAgainstReplying_23 : decode cX2_reasonAgainstReplying 23 = .ok (.lcmp, 1) := by decide +kernel
theorem dX2_reasonAgainstReplying_24 : decode cX2_reasonAgainstReplying 24 = .ok (.ifCond .eq 18, 3) := by decide +kernel
theorem dX2_reasonAgainstReplying_27 : decode cX2_reasonAgainstReplying 27 = .ok (.lload 5, 2) := by decide +kernel
theorem dX2_reasonAgainstReplying_29 : decode cX2_reasonAgainstReplying 29 = .ok (.iload_n 2, 1) := by decide +kernel
theorem dX2_reasonAgainstReplying_30 : decode cX2_reasonAgainstReplying 30 = .ok (.invokestatic 124, 3) := by decide +kernel
theorem dX2_reasonAgainstReplying_33 : decode cX2_reasonAgainstReplying 33 = .ok (.ifCond .eq 7, 3) := by decide +kernel
theorem dX2_reasonAgainstReplying_36 : decode cX2_reasonAgainstReplying 36 = .ok (.iconst 0, 1) := by decide +kernel
theorem dX2_reasonAgainstReplying_37 : decode cX2_reasonAgainstReplying 37 = .ok (.goto 4, 3) := by decide +kernel
theorem dX2_reasonAgainstReplying_40 : decode cX2_reasonAgainstReplying 40 = .ok (.iconst 4, 1) := by decide +kernel
theorem dX2_reasonAgainstReplying_41 : decode cX2_reasonAgainstReplying 41 = .ok (.ireturn, 1) := by decide +kernel
theorem dX2_reasonAgainstReplying_42 : decode cX2_reasonAgainstReplying 42 = .ok (.lload_n 0, 1) := by decide +kernel
theorem dX2_reasonAgainstReplying_43 : decode cX2_reasonAgainstReplying 43 = .ok (.iload 4, 2) := by decide +kernel
theorem dX2_reasonAgainstReplying_45 : decode cX2_reasonAgainstReplying 45 = .ok (.invokestatic 218, 3) := by decide +kernel
theorem dX2_reasonAgainstReplying_48 : decode cX2_reasonAgainstReplying 48 = .ok (.land, 1) := by decide +kernel
theorem dX2_reasonAgainstReplying_49 : decode cX2_reasonAgainstReplying 49 = .ok (.lstore 7, 2) := by decide +kernel
theorem dX2_reasonAgainstReplying_51 : decode cX2_reasonAgainstReplying 51 = .ok (.lload 7, 2) := by decide +kernel
theorem dX2_reasonAgainstReplying_53 : decode cX2_reasonAgainstReplying 53 = .ok (.lconst 0, 1) := by decide +kernel
theorem dX2_reasonAgainstReplying_54 : decode cX2_reasonAgainstReplying 54 = .ok (.lcmp, 1) := by decide +kernel
theorem dX2_reasonAgainstReplying_55 : decode cX2_reasonAgainstReplying 55 = .ok (.ifCond .eq 18, 3) := by decide +kernel
theorem dX2_reasonAgainstReplying_58 : decode cX2_reasonAgainstReplying 58 = .ok (.lload 7, 2) := by decide +kernel
theorem dX2_reasonAgainstReplying_60 : decode cX2_reasonAgainstReplying 60 = .ok (.iload_n 2, 1) := by decide +kernel
theorem dX2_reasonAgainstReplying_61 : decode cX2_reasonAgainstReplying 61 = .ok (.invokestatic 124, 3) := by decide +kernel
theorem dX2_reasonAgainstReplying_64 : decode cX2_reasonAgainstReplying 64 = .ok (.ifCond .eq 7, 3) := by decide +kernel
theorem dX2_reasonAgainstReplying_67 : decode cX2_reasonAgainstReplying 67 = .ok (.iconst 0, 1) := by decide +kernel
theorem dX2_reasonAgainstReplying_68 : decode cX2_reasonAgainstReplying 68 = .ok (.goto 4, 3) := by decide +kernel
theorem dX2_reasonAgainstReplying_71 : decode cX2_reasonAgainstReplying 71 = .ok (.iconst 5, 1) := by decide +kernel
theorem dX2_reasonAgainstReplying_72 : decode cX2_reasonAgainstReplying 72 = .ok (.ireturn, 1) := by decide +kernel
theorem dX2_reasonAgainstReplying_73 : decode cX2_reasonAgainstReplying 73 = .ok (.iconst 0, 1) := by decide +kernel
theorem dX2_reasonAgainstReplying_74 : decode cX2_reasonAgainstReplying 74 = .ok (.ireturn, 1) := by decide +kernel
end
section
theorem dJ13_bitCount_95d88_0 : decode cJ13_bitCount_95d88 0 = .ok (.lload_n 0, 1) := by decide +kernel
theorem dJ13_bitCount_95d88_1 : decode cJ13_bitCount_95d88 1 = .ok (.lload_n 0, 1) := by decide +kernel
theorem dJ13_bitCount_95d88_2 : decode cJ13_bitCount_95d88 2 = .ok (.iconst 1, 1) := by decide +kernel
theorem dJ13_bitCount_95d88_3 : decode cJ13_bitCount_95d88 3 = .ok (.lushr, 1) := by decide +kernel
theorem dJ13_bitCount_95d88_4 : decode cJ13_bitCount_95d88 4 = .ok (.ldc2_w 314, 3) := by decide +kernel
theorem dJ13_bitCount_95d88_7 : decode cJ13_bitCount_95d88 7 = .ok (.land, 1) := by decide +kernel
theorem dJ13_bitCount_95d88_8 : decode cJ13_bitCount_95d88 8 = .ok (.lsub, 1) := by decide +kernel
theorem dJ13_bitCount_95d88_9 : decode cJ13_bitCount_95d88 9 = .ok (.lstore_n 0, 1) := by decide +kernel
theorem dJ13_bitCount_95d88_10 : decode cJ13_bitCount_95d88 10 = .ok (.lload_n 0, 1) := by decide +kernel
theorem dJ13_bitCount_95d88_11 : decode cJ13_bitCount_95d88 11 = .ok (.ldc2_w 316, 3) := by decide +kernel
theorem dJ13_bitCount_95d88_14 : decode cJ13_bitCount_95d88 14 = .ok (.land, 1) := by decide +kernel
theorem dJ13_bitCount_95d88_15 : decode cJ13_bitCount_95d88 15 = .ok (.lload_n 0, 1) := by decide +kernel
theorem dJ13_bitCount_95d88_16 : decode cJ13_bitCount_95d88 16 = .ok (.iconst 2, 1) := by decide +kernel
theorem dJ13_bitCount_95d88_17 : decode cJ13_bitCount_95d88 17 = .ok (.lushr, 1) := by decide +kernel
theorem dJ13_bitCount_95d88_18 : decode cJ13_bitCount_95d88 18 = .ok (.ldc2_w 316, 3) := by decide +kernel
theorem dJ13_bitCount_95d88_21 : decode cJ13_bitCount_95d88 21 = .ok (.land, 1) := by decide +kernel
theorem dJ13_bitCount_95d88_22 : decode cJ13_bitCount_95d88 22 = .ok (.ladd, 1) := by decide +kernel
theorem dJ13_bitCount_95d88_23 : decode cJ13_bitCount_95d88 23 = .ok (.lstore_n 0, 1) := by decide +kernel
theorem dJ13_bitCount_95d88_24 : decode cJ13_bitCount_95d88 24 = .ok (.lload_n 0, 1) := by decide +kernel
theorem dJ13_bitCount_95d88_25 : decode cJ13_bitCount_95d88 25 = .ok (.lload_n 0, 1) := by decide +kernel
theorem dJ13_bitCount_95d88_26 : decode cJ13_bitCount_95d88 26 = .ok (.iconst 4, 1) := by decide +kernel
theorem dJ13_bitCount_95d88_27 : decode cJ13_bitCount_95d88 27 = .ok (.lushr, 1) := by decide +kernel
theorem dJ13_bitCount_95d88_28 : decode cJ13_bitCount_95d88 28 = .ok (.ladd, 1) := by decide +kernel
theorem dJ13_bitCount_95d88_29 : decode cJ13_bitCount_95d88 29 = .ok (.ldc2_w 318, 3) := by decide +kernel
theorem dJ13_bitCount_95d88_32 : decode cJ13_bitCount_95d88 32 = .ok (.land, 1) := by decide +kernel
theorem dJ13_bitCount_95d88_33 : decode cJ13_bitCount_95d88 33 = .ok (.lstore_n 0, 1) := by decide +kernel
theorem dJ13_bitCount_95d88_34 : decode cJ13_bitCount_95d88 34 = .ok (.lload_n 0, 1) := by decide +kernel
theorem dJ13_bitCount_95d88_35 : decode cJ13_bitCount_95d88 35 = .ok (.lload_n 0, 1) := by decide +kernel
theorem dJ13_bitCount_95d88_36 : decode cJ13_bitCount_95d88 36 = .ok (.bipush 8, 2) := by decide +kernel
theorem dJ13_bitCount_95d88_38 : decode cJ13_bitCount_95d88 38 = .ok (.lushr, 1) := by decide +kernel
theorem dJ13_bitCount_95d88_39 : decode cJ13_bitCount_95d88 39 = .ok (.ladd, 1) := by decide +kernel
theorem dJ13_bitCount_95d88_40 : decode cJ13_bitCount_95d88 40 = .ok (.lstore_n 0, 1) := by decide +kernel
theorem dJ13_bitCount_95d88_41 : decode cJ13_bitCount_95d88 41 = .ok (.lload_n 0, 1) := by decide +kernel
theorem dJ13_bitCount_95d88_42 : decode cJ13_bitCount_95d88 42 = .ok (.lload_n 0, 1) := by decide +kernel
theorem dJ13_bitCount_95d88_43 : decode cJ13_bitCount_95d88 43 = .ok (.bipush 16, 2) := by decide +kernel
theorem dJ13_bitCount_95d88_45 : decode cJ13_bitCount_95d88 45 = .ok (.lushr, 1) := by decide +kernel
theorem dJ13_bitCount_95d88_46 : decode cJ13_bitCount_95d88 46 = .ok (.ladd, 1) := by decide +kernel
theorem dJ13_bitCount_95d88_47 : decode cJ13_bitCount_95d88 47 = .ok (.lstore_n 0, 1) := by decide +kernel
theorem dJ13_bitCount_95d88_48 : decode cJ13_bitCount_95d88 48 = .ok (.lload_n 0, 1) := by decide +kernel
theorem dJ13_bitCount_95d88_49 : decode cJ13_bitCount_95d88 49 = .ok (.lload_n 0, 1) := by decide +kernel
theorem dJ13_bitCount_95d88_50 : decode cJ13_bitCount_95d88 50 = .ok (.bipush 32, 2) := by decide +kernel
theorem dJ13_bitCount_95d88_52 : decode cJ13_bitCount_95d88 52 = .ok (.lushr, 1) := by decide +kernel
theorem dJ13_bitCount_95d88_53 : decode cJ13_bitCount_95d88 53 = .ok (.ladd, 1) := by decide +kernel
theorem dJ13_bitCount_95d88_54 : decode cJ13_bitCount_95d88 54 = .ok (.lstore_n 0, 1) := by decide +kernel
theorem dJ13_bitCount_95d88_55 : decode cJ13_bitCount_95d88 55 = .ok (.lload_n 0, 1) := by decide +kernel
theorem dJ13_bitCount_95d88_56 : decode cJ13_bitCount_95d88 56 = .ok (.l2i, 1) := by decide +kernel
theorem dJ13_bitCount_95d88_57 : decode cJ13_bitCount_95d88 57 = .ok (.bipush 127, 2) := by decide +kernel
theorem dJ13_bitCount_95d88_59 : decode cJ13_bitCount_95d88 59 = .ok (.iand, 1) := by decide +kernel
theorem dJ13_bitCount_95d88_60 : decode cJ13_bitCount_95d88 60 = .ok (.ireturn, 1) := by decide +kernel
theorem dJ9_max_7cf53_0 : decode cJ9_max_7cf53 0 = .ok (.iload_n 0, 1) := by decide +kernel
theorem dJ9_max_7cf53_1 : decode cJ9_max_7cf53 1 = .ok (.iload_n 1, 1) := by decide +kernel
theorem dJ9_max_7cf53_2 : decode cJ9_max_7cf53 2 = .ok (.if_icmp .lt 7, 3) := by decide +kernel
theorem dJ9_max_7cf53_5 : decode cJ9_max_7cf53 5 = .ok (.iload_n 0, 1) := by decide +kernel
theorem dJ9_max_7cf53_6 : decode cJ9_max_7cf53 6 = .ok (.goto 4, 3) := by decide +kernel
theorem dJ9_max_7cf53_9 : decode cJ9_max_7cf53 9 = .ok (.iload_n 1, 1) := by decide +kernel
theorem dJ9_max_7cf53_10 : decode cJ9_max_7cf53 10 = .ok (.ireturn, 1) := by decide +kernel
theorem dJ7_fill_53178_0 : decode cJ7_fill_53178 0 = .ok (.iconst 0, 1) := by decide +kernel
theorem dJ7_fill_53178_1 : decode cJ7_fill_53178 1 = .ok (.istore_n 2, 1) := by decide +kernel
theorem dJ7_fill_53178_2 : decode cJ7_fill_53178 2 = .ok (.aload_n 0, 1) := by decide +kernel
theorem dJ7_fill_53178_3 : decode cJ7_fill_53178 3 = .ok (.arraylength, 1) := by decide +kernel
theorem dJ7_fill_53178_4 : decode cJ7_fill_53178 4 = .ok (.istore_n 3, 1) := by decide +kernel
theorem dJ7_fill_53178_5 : decode cJ7_fill_53178 5 = .ok (.iload_n 2, 1) := by decide +kernel
theorem dJ7_fill_53178_6 : decode cJ7_fill_53178 6 = .ok (.iload_n 3, 1) := by decide +kernel
theorem dJ7_fill_53178_7 : decode cJ7_fill_53178 7 = .ok (.if_icmp .ge 13, 3) := by decide +kernel
theorem dJ7_fill_53178_10 : decode cJ7_fill_53178 10 = .ok (.aload_n 0, 1) := by decide +kernel
theorem dJ7_fill_53178_11 : decode cJ7_fill_53178 11 = .ok (.iload_n 2, 1) := by decide +kernel
theorem dJ7_fill_53178_12 : decode cJ7_fill_53178 12 = .ok (.iload_n 1, 1) := by decide +kernel
theorem dJ7_fill_53178_13 : decode cJ7_fill_53178 13 = .ok (.iastore, 1) := by decide +kernel
theorem dJ7_fill_53178_14 : decode cJ7_fill_53178 14 = .ok (.iinc 2 1, 3) := by decide +kernel
theorem dJ7_fill_53178_17 : decode cJ7_fill_53178 17 = .ok (.goto (-12), 3) := by decide +kernel
theorem dJ7_fill_53178_20 : decode cJ7_fill_53178 20 = .ok (.return_, 1) := by decide +kernel
end
section
/-! SHORT ROWS over the kit's: contracts of methods that read, of methods that write; their starts, calls and ends -/
def jN (U : State) : Prop := va_Nw (.methodLinkNest RX1 50 yX2_bit RX2) U ∧ va_Nw (.methodLinkNest RX1 56 yX2_beats RX2) U ∧ va_Nw (.methodLinkNest RX1 72 yX2_has RX2) U ∧ va_Nw (.methodLinkNest RX1 76 yX2_reasonAgainstLeading RX2) U ∧ va_Nw (.methodLinkNest RX1 80 yX2_reasonAgainstReplying RX2) U ∧ va_Nw (.methodLinkNest RX1 88 yX2_worth RX2) U ∧ va_Nw (.methodLinkNest RX2 15 yX0_init RX2) U ∧ va_Nw (.methodLinkNest RX2 210 yX1_init RX2) U
theorem jN.warm {s U : State} (hW : s.WarmedH U.vm) (h : jN s) : jN U := ⟨va_Nw.warmM hW h.1, va_Nw.warmM hW h.2.1, va_Nw.warmM hW h.2.2.1, va_Nw.warmM hW h.2.2.2.1, va_Nw.warmM hW h.2.2.2.2.1, va_Nw.warmM hW h.2.2.2.2.2.1, va_Nw.warmM hW h.2.2.2.2.2.2.1, va_Nw.warmM hW h.2.2.2.2.2.2.2⟩
theorem jN.same {u U : State} (h : u.vm = U.vm) (g : jN u) : jN U := ⟨va_Nw.same rfl h g.1, va_Nw.same rfl h g.2.1, va_Nw.same rfl h g.2.2.1, va_Nw.same rfl h g.2.2.2.1, va_Nw.same rfl h g.2.2.2.2.1, va_Nw.same rfl h g.2.2.2.2.2.1, va_Nw.same rfl h g.2.2.2.2.2.2.1, va_Nw.same rfl h g.2.2.2.2.2.2.2⟩
/-- the start of a method that reads -/
def jPr (D : va_G) (av : List Value) (ws : va_W) (tys : List (ClassId × FieldType)) : Array Value → State → Prop := va_Pc av (fun U => va_P D vwCl ws U.heap ∧ va_K D vwCl tys U ∧ jN U)
theorem jPr_blind {D : va_G} {av : List Value} {ws : va_W} {tys : List (ClassId × FieldType)} : FrameBlind (jPr D av ws tys) := fun a U g mk q => ⟨q.1, q.2.1, va_K.moved (u := U) (U := U.calling g mk a) (Vm.Alike.refl U.vm) q.2.2.1, jN.same (u := U) (U := U.calling g mk a) rfl q.2.2.2⟩
/-- a method that reads: its answer is r, no cell changes -/
abbrev jR (l : Launch) (y : MethodName) (wl : List Cond) (rm : Room) (D : va_G) (av : List Value) (ws : va_W) (tys : List (ClassId × FieldType)) (r : Value) : Prop := Met l y wl rm (jPr D av ws tys) (k2_QcV r) 0 0 (fun _ => False)
theorem jR_of {l : Launch} {y : MethodName} {wl ws' : List Cond} {rm : Room} {D : va_G} {av : List Value} {ws : va_W} {tys : List (ClassId × FieldType)} {r : Value} {cc : ByteArray} {maxL : Nat} {ret : Option FieldType}
    (hy : plainName y.cls = true) (hw : wl = Cond.code y cc maxL ret :: ws') (hn : (lg_sl av).length ≤ maxL)
    (body : ∀ (p : Program) (e : Env) (s : State) (m : MethodId) (below : List Frame) (meth : Method) (c : Code) (ls : Array Slot), CallFix p m c cc maxL s av.toArray wl y.cls → meth.sig.returnType = ret → meth.locks = false →
      va_P D vwCl ws s.heap → va_K D vwCl tys s → jN s → lv_has ls maxL (lv_args 0 av) →
      W p l e rm s m av.toArray below meth c s.heap [] 0 0 (MQ below (k2_QcV r) av.toArray s 0 0 (fun _ => False)) (F0 m 0 ls [])) : jR l y wl rm D av ws tys r := by
  refine Met.ofW (cc := cc) (maxL := maxL) (ret := ret) hy hw ?_
  intro p e s m args below meth c s₁ B hml hv
  obtain ⟨rfl, hP, hK, hN⟩ := hv
  have hts := atoms_spec (ws := wl) B.pre
  have hown : s.vm.findClass y.cls = some m.cls := findClass_of_methodNamed B.named
  have hl := lv_entry av (n := maxL) hn
  rw [lg_entry_eq]
  exact body p e s m below meth c _ ⟨B.exec, B.bytes, hml, hown, hts⟩ B.returns B.notSynchronized hP hK hN hl
section JR
variable {p : Program} {l : Launch} {e : Env} {R : Room} {s : State} {m : MethodId} {args : Array Value} {below : List Frame} {meth : Method} {c : Code} {H : Heap} {locs : List Loc} {cells slots : Nat} {Q : State → Prop}
variable {cc bytes : ByteArray} {pc index n : Nat} {ls : Array Slot} {rest st0 : List Value} {nL maxL : Nat} {Ts wl wl' : List Cond} {own C host : String} {y : MethodName} {rm : Room} {ret : Option FieldType} {D : va_G} {As : List Value} {wd wb : va_W} {tys tyb : List (ClassId × FieldType)} {r : Value} {b : Nat}
/-- a static method that reads is called -/
theorem jr_callS (S : CallFix p m c cc nL s args Ts own) (hM : jR l y wl rm D As wd tys r) (hT : GoodIn Ts (va_wsS own index y wl)) (hw : wl = Cond.code y bytes maxL ret :: wl') (hd : y.cls ≠ "java/lang/invoke/MethodHandle" ∧ y.cls ≠ "java/lang/invoke/VarHandle" ∧ (parseMethodDescriptor y.desc).map (fun d => d.parameters.length) = some n) (hn : As.length = n)
    (hR : (rm.cells = 0 ∧ rm.slots = 0) ∧ (rm.frames + 1 ≤ R.frames ∧ 8 + (maxL + 11) + rm.locals ≤ R.locals) ∧ cells ≤ R.cells ∧ slots ≤ R.slots) (hP : va_P D vwCl wb H) (hK : va_K D vwCl tyb s) (hN : jN s) (is ts : List Nat) (hi : is.filterMap (fun i => wb[i]?) = wd) (ht : ts.filterMap (fun i => tyb[i]?) = tys)
    (hl : lv_has ls nL []) (hst : st0 = As.reverse ++ rest) (hW : (rest.map fun v => v.category).sum ≤ 8) (hdg : decode cc pc = .ok (.invokestatic index, 3))
    (kk : W p l e R s m args below meth c H locs cells slots Q (F0 m (pc + 3) ls (r :: rest))) : W p l e R s m args below meth c H locs cells slots Q (F0 m pc ls st0) := by
  have hPc := hP.sub is hi
  have hKc := hK.sub ts ht
  exact W.callV (va_runS (As := As) (rest := rest) S hM (va_cwS n S.2.2.2.2 hT hw hR.1.1 hR.1.2 hd hR.2.1) ⟨jPr_blind, fun U hU hW => ⟨rfl, by rw [hU]; exact hPc, va_K.moved hW.alike hKc, jN.warm hW hN⟩⟩ rfl hn hl.1 hst (lv_room hW) hdg ⟨hR.2.2.1, hR.2.2.2⟩).run kk
/-- .. of a nest mate -/
theorem jr_callSN (S : CallFix p m c cc nL s args Ts own) (hM : jR l y wl rm D As wd tys r) (hT : GoodIn Ts wl) (hw : wl = Cond.code y bytes maxL ret :: wl') (hlk : va_Nw (.methodLinkNest own index y host) s) (hini : (Cond.initialized y.cls).before args s = true) (hsta : (Cond.static y).before args s = true) (hd : y.cls ≠ "java/lang/invoke/MethodHandle" ∧ y.cls ≠ "java/lang/invoke/VarHandle" ∧ (parseMethodDescriptor y.desc).map (fun d => d.parameters.length) = some n) (hn : As.length = n)
    (hR : (rm.cells = 0 ∧ rm.slots = 0) ∧ (rm.frames + 1 ≤ R.frames ∧ 8 + (maxL + 11) + rm.locals ≤ R.locals) ∧ cells ≤ R.cells ∧ slots ≤ R.slots) (hP : va_P D vwCl wb H) (hK : va_K D vwCl tyb s) (hN : jN s) (is ts : List Nat) (hi : is.filterMap (fun i => wb[i]?) = wd) (ht : ts.filterMap (fun i => tyb[i]?) = tys)
    (hl : lv_has ls nL []) (hst : st0 = As.reverse ++ rest) (hW : (rest.map fun v => v.category).sum ≤ 8) (hdg : decode cc pc = .ok (.invokestatic index, 3))
    (kk : W p l e R s m args below meth c H locs cells slots Q (F0 m (pc + 3) ls (r :: rest))) : W p l e R s m args below meth c H locs cells slots Q (F0 m pc ls st0) := by
  have hPc := hP.sub is hi
  have hKc := hK.sub ts ht
  exact W.callV (va_runSN (As := As) (rest := rest) S hM ⟨va_cnB n S.2.2.2.2 hT hw hR.1.1 hR.1.2 hlk hini hd hR.2.1, hsta, trivial⟩ ⟨jPr_blind, fun U hU hW => ⟨rfl, by rw [hU]; exact hPc, va_K.moved hW.alike hKc, jN.warm hW hN⟩⟩ rfl hn hl.1 hst (lv_room hW) hdg ⟨hR.2.2.1, hR.2.2.2⟩).run kk
/-- a method of an object that reads -/
theorem jr_callV (S : CallFix p m c cc nL s args Ts own) (hM : jR l y wl rm D (.ref b :: As) wd tys r) (hT : GoodIn Ts (wsV own index C y wl)) (hw : wl = Cond.code y bytes maxL ret :: wl') (hd : y.cls = C ∧ y.cls ≠ "java/lang/invoke/MethodHandle" ∧ y.cls ≠ "java/lang/invoke/VarHandle" ∧ (parseMethodDescriptor y.desc).map (fun d => d.parameters.length) = some n) (hn : As.length = n)
    (hR : (rm.cells = 0 ∧ rm.slots = 0) ∧ (rm.frames + 1 ≤ R.frames ∧ 8 + (maxL + 11) + rm.locals ≤ R.locals) ∧ cells ≤ R.cells ∧ slots ≤ R.slots) (hP : va_P D vwCl wb H) (hK : va_K D vwCl tyb s) (hN : jN s) (is ts : List Nat) (hi : is.filterMap (fun i => wb[i]?) = wd) (ht : ts.filterMap (fun i => tyb[i]?) = tys)
    (q0 ci : Nat) {q : vw_C} {fs : List Value} (hc : vwCl[ci]? = some q) (hqC : q.1 = C) (he : wd[q0]? = some (b, .inr (ci, fs)))
    (hl : lv_has ls nL []) (hst : st0 = As.reverse ++ .ref b :: rest) (hW : (rest.map fun v => v.category).sum ≤ 8) (hdg : decode cc pc = .ok (.invokevirtual index, 3))
    (kk : W p l e R s m args below meth c H locs cells slots Q (F0 m (pc + 3) ls (r :: rest))) : W p l e R s m args below meth c H locs cells slots Q (F0 m pc ls st0) := by
  have hPc := hP.sub is hi
  have hKc := hK.sub ts ht
  subst hqC
  exact W.callV (va_runV (As := As) (rest := rest) S hM (cwV n S.2.2.2.2 hT hw hR.1.1 hR.1.2 hd hR.2.1) ⟨jPr_blind, va_recv hKc hPc (ci := ci) (q0 := q0) hc he, fun U hU hW => ⟨rfl, by rw [hU]; exact hPc, va_K.moved hW.alike hKc, jN.warm hW hN⟩⟩ rfl hn hl.1 hst (lv_room hW) hdg ⟨hR.2.2.1, hR.2.2.2⟩).run kk
theorem lv_nil {lv : List (Nat × Value)} (h : lv_has ls nL lv) : lv_has ls nL [] := lv_sub h [] rfl
theorem jr_no {free : Addr → Prop} : ∀ q ∈ ([] : List Loc), free q.base := fun _ h => absurd h List.not_mem_nil
theorem jr_iret {v z : Int32} (hx : p.tables.exec = Jvm.exec) (hb : c.code = cc) (hr : meth.sig.returnType = some .int) (hlocks : meth.locks = false) (hdg : decode cc pc = .ok (.ireturn, 1)) (hv : v = z) : W p l e R s m args below meth c s.heap [] 0 0 (MQ below (k2_QcV (.int z)) args s 0 0 (fun _ => False)) (F0 m pc ls [.int v]) := by
  subst hv
  exact W.iret hx hb hr (fun t ht hW => ⟨rfl, ht⟩) jr_no hdg
theorem jr_zret {v z : Int32} (hx : p.tables.exec = Jvm.exec) (hb : c.code = cc) (hr : meth.sig.returnType = some .boolean) (hlocks : meth.locks = false) (hdg : decode cc pc = .ok (.ireturn, 1)) (hn : narrow .boolean (.int v) = .int v) (hv : v = z) : W p l e R s m args below meth c s.heap [] 0 0 (MQ below (k2_QcV (.int z)) args s 0 0 (fun _ => False)) (F0 m pc ls [.int v]) := by
  subst hv
  exact W.zret hx hb hr hn (fun t ht hW => ⟨rfl, ht⟩) jr_no hdg
theorem jr_lret {v z : Int64} (hx : p.tables.exec = Jvm.exec) (hb : c.code = cc) (hr : meth.sig.returnType = some .long) (hlocks : meth.locks = false) (hdg : decode cc pc = .ok (.lreturn, 1)) (hv : v = z) : W p l e R s m args below meth c s.heap [] 0 0 (MQ below (k2_QcV (.long z)) args s 0 0 (fun _ => False)) (F0 m pc ls [.long v]) := by
  subst hv
  exact W.lret hx hb hr (fun t ht hW => ⟨rfl, ht⟩) jr_no hdg
theorem jr_aret {v z : Nat} {nm : String} (hx : p.tables.exec = Jvm.exec) (hb : c.code = cc) (hr : meth.sig.returnType = some (.object nm)) (hlocks : meth.locks = false) (hdg : decode cc pc = .ok (.areturn, 1)) (hv : v = z) : W p l e R s m args below meth c s.heap [] 0 0 (MQ below (k2_QcV (.ref z)) args s 0 0 (fun _ => False)) (F0 m pc ls [.ref v]) := by
  subst hv
  exact W.aret hx hb hr (Or.inl ⟨nm, rfl⟩) (Or.inr ⟨v, rfl⟩) (fun t ht hW => ⟨rfl, ht⟩) jr_no hdg
theorem jr_ite {c0 : Prop} [Decidable c0] {a b z : Nat} (hz : z = if c0 then a else b) (kt : c0 → W p l e R s m args below meth c H locs cells slots Q (F0 m pc ls (.ref a :: rest))) (kf : ¬ c0 → W p l e R s m args below meth c H locs cells slots Q (F0 m pc ls (.ref b :: rest))) : W p l e R s m args below meth c H locs cells slots Q (F0 m pc ls (.ref z :: rest)) := by
  subst hz
  by_cases h : c0
  · rw [if_pos h]; exact kt h
  · rw [if_neg h]; exact kf h
theorem jr_iteT {c0 : Prop} [Decidable c0] {a b z : Nat} (h : c0) (hz : z = if c0 then a else b) (kt : W p l e R s m args below meth c H locs cells slots Q (F0 m pc ls (.ref a :: rest))) : W p l e R s m args below meth c H locs cells slots Q (F0 m pc ls (.ref z :: rest)) := by
  subst hz; rw [if_pos h]; exact kt
theorem jr_iteF {c0 : Prop} [Decidable c0] {a b z : Nat} (h : ¬ c0) (hz : z = if c0 then a else b) (kf : W p l e R s m args below meth c H locs cells slots Q (F0 m pc ls (.ref b :: rest))) : W p l e R s m args below meth c H locs cells slots Q (F0 m pc ls (.ref z :: rest)) := by
  subst hz; rw [if_neg h]; exact kf
end JR
theorem jx_in {x n : Int32} {N : Nat} (h0 : ¬ x < 0) (h1 : ¬ n ≤ x) (e : n = nI N) (hN : N < 2 ^ 31) : vp_in x N := by
  subst e
  rcases pk_ix x hN with h | h | ⟨j, hj, rfl⟩
  · exact absurd h h0
  · exact absurd h h1
  · exact vp_in_nI hj hN
theorem jx_held {a : Int32} (ha : a = 0 ∨ a = 1) {i : Nat} (hi : i < 6) : vp_in (6 * a + nI i) 12 := by
  rcases ha with rfl | rfl
  · rw [show (6 : Int32) * 0 + nI i = nI (0 + i) from by rw [← nI_add]; rfl]; exact vp_in_nI (by omega) (by decide)
  · rw [show (6 : Int32) * 1 + nI i = nI (6 + i) from by rw [← nI_add]; rfl]; exact vp_in_nI (by omega) (by decide)
theorem jx_flip {a : Int32} (ha : a = 0 ∨ a = 1) : 1 - a = 0 ∨ 1 - a = 1 := by
  rcases ha with rfl | rfl
  · exact Or.inr (by decide)
  · exact Or.inl (by decide)
theorem jx_heldv {a b : Int32} (ha : a = 0 ∨ a = 1) (hb : vp_in b 6) : vp_in (6 * a + b) 12 := by
  obtain ⟨i, hi, rfl⟩ := vp_in_of hb (by decide)
  exact jx_held ha hi
theorem jx_tab {a b d : Int32} (ha : a = 0 ∨ a = 1) (hb : vp_in b 64) (hd : vp_in d 64) : vp_in (4096 * a + (64 * b + d)) 8192 := by
  obtain ⟨i, hi, rfl⟩ := vp_in_of hb (by decide)
  obtain ⟨j, hj, rfl⟩ := vp_in_of hd (by decide)
  rcases ha with rfl | rfl
  · rw [show (4096 : Int32) * 0 + (64 * nI i + nI j) = nI (0 + (64 * i + j)) from by rw [← nI_add, ← nI_add, ← pk_mul]; rfl]; exact vp_in_nI (by omega) (by decide)
  · rw [show (4096 : Int32) * 1 + (64 * nI i + nI j) = nI (4096 + (64 * i + j)) from by rw [← nI_add, ← nI_add, ← pk_mul]; rfl]; exact vp_in_nI (by omega) (by decide)
theorem jx_and {a b : Int32} (ha : vp_in a 64) : vp_in (a &&& b) 64 := by
  obtain ⟨i, hi, rfl⟩ := vp_in_of ha (by decide)
  have e : nI i &&& b = nI ((nI i &&& b).toBitVec.toNat) := by
    apply Int32.toBitVec_inj.mp
    apply BitVec.eq_of_toNat_eq
    rw [pk_tn (BitVec.isLt _)]
  have h : (nI i &&& b).toBitVec.toNat ≤ i := by
    rw [Int32.toBitVec_and, BitVec.toNat_and, pk_tn (by omega)]
    exact Nat.and_le_left
  rw [e]
  exact vp_in_nI (by omega) (by decide)
theorem jx_ushr33 (a : Int64) : ∃ n : Nat, n < 2 ^ 31 ∧ (a.toUInt64 >>> ((33 : Int32).toInt64.toUInt64 &&& Int64.toUInt64 63)).toInt64 = lN n := by
  refine ⟨a.toUInt64.toNat / 2 ^ 33, ?_, ?_⟩
  · have := a.toUInt64.toNat_lt
    omega
  · have e : (33 : Int32).toInt64.toUInt64 &&& Int64.toUInt64 63 = 33 := by decide
    rw [e]
    apply Int64.toBitVec_inj.mp
    apply BitVec.eq_of_toNat_eq
    have h : (a.toUInt64 >>> (33 : UInt64)).toNat = a.toUInt64.toNat / 2 ^ 33 := by
      rw [UInt64.toNat_shiftRight, Nat.shiftRight_eq_div_pow]; rfl
    have hlt := a.toUInt64.toNat_lt
    show (a.toUInt64 >>> (33 : UInt64)).toNat = (lN (a.toUInt64.toNat / 2 ^ 33)).toBitVec.toNat
    rw [h]
    show _ = (Int64.ofNat _).toBitVec.toNat
    rw [Int64.toBitVec_ofNat', BitVec.toNat_ofNat]
    omega
theorem jx_k1 (i : Nat) (hi : i ≤ 100) : (nI i + 1).toInt64 = lN (i + 1) := by
  rw [nI_1, nI_l (by omega)]
theorem jx_ne {i : Nat} (hi : i + 1 ≤ 41) : ¬ (nI (i + 1) + 1).toInt64 = 0 := by
  rw [jx_k1 _ (by omega), show (0 : Int64) = lN 0 from rfl, lN_eq (by omega) (by omega)]
  omega
theorem jx_other {a : Int64} {i : Nat} (hi : i + 1 ≤ 41) : vp_in ((a.toUInt64 >>> ((33 : Int32).toInt64.toUInt64 &&& Int64.toUInt64 63)).toInt64 - (a.toUInt64 >>> ((33 : Int32).toInt64.toUInt64 &&& Int64.toUInt64 63)).toInt64 / (nI (i + 1) + 1).toInt64 * (nI (i + 1) + 1).toInt64).toInt32 42 := by
  obtain ⟨n, hn, e⟩ := jx_ushr33 a
  rw [e, jx_k1 _ (by omega), pk_lRem (by omega) (by omega) (by omega), lN_i]
  exact vp_in_nI (Nat.lt_of_lt_of_le (Nat.mod_lt _ (by omega)) (by omega)) (by decide)
/-! METHODS THAT WRITE -/
theorem jx_fm {α : Type} {f : Nat → Option α} {is : List Nat} {w : List α} (h : is.map f = w.map some) : is.filterMap f = w := by
  have e : is.filterMap f = (is.map f).filterMap id := by rw [List.filterMap_map]; rfl
  rw [e, h, List.filterMap_map]
  show w.filterMap (fun x => some x) = w
  exact List.filterMap_some
/-- the start of a method that writes -/
def jPw (D : va_G) (av : List Value) (ws : va_W) (tys : List (ClassId × FieldType)) (sz : Nat) : Array Value → State → Prop := va_Pc av (fun U => U.heap.size = sz ∧ va_P D vwCl ws U.heap ∧ va_K D vwCl tys U ∧ jN U ∧ va_D (fun _ => True) ws)
theorem jPw_blind {D : va_G} {av : List Value} {ws : va_W} {tys : List (ClassId × FieldType)} {sz : Nat} : FrameBlind (jPw D av ws tys sz) := fun a U g mk q => ⟨q.1, q.2.1, q.2.2.1, va_K.moved (u := U) (U := U.calling g mk a) (Vm.Alike.refl U.vm) q.2.2.2.1, jN.same (u := U) (U := U.calling g mk a) rfl q.2.2.2.2.1, q.2.2.2.2.2⟩
/-- the world behind it -/
def jB (D : va_G) (ws' : va_W) (tys : List (ClassId × FieldType)) (A : Nat → Prop) : Unit → State → Prop := fun _ t => va_P D vwCl ws' t.heap ∧ va_K D vwCl tys t ∧ va_D A ws'
abbrev jQi (D : va_G) (r : Int32) (ws' : va_W) (tys : List (ClassId × FieldType)) (A : Nat → Prop) : Array Value → State → Outcome → State → Prop := va_Qi (fun (q : Int32) (_ : Unit) => q = r) (jB D ws' tys A) A
abbrev jQv (D : va_G) (ws' : va_W) (tys : List (ClassId × FieldType)) (A : Nat → Prop) : Array Value → State → Outcome → State → Prop := va_Qv (fun (_ : Unit) => True) (jB D ws' tys A) A
/-- a method that writes: its answer is r, the world behind it ws' -/
abbrev jWi (l : Launch) (y : MethodName) (wl : List Cond) (rm : Room) (D : va_G) (av : List Value) (ws : va_W) (tys : List (ClassId × FieldType)) (r : Int32) (ws' : va_W) : Prop := ∀ sz : Nat, Met l y wl rm (jPw D av ws tys sz) (jQi D r ws' tys (va_A ws sz)) 0 0 (va_A ws sz)
abbrev jWv (l : Launch) (y : MethodName) (wl : List Cond) (rm : Room) (D : va_G) (av : List Value) (ws : va_W) (tys : List (ClassId × FieldType)) (ws' : va_W) : Prop := ∀ sz : Nat, Met l y wl rm (jPw D av ws tys sz) (jQv D ws' tys (va_A ws sz)) 0 0 (va_A ws sz)
/-- the start of any method that writes; QQ: its end, over A -/
theorem jW_of {l : Launch} {y : MethodName} {wl wl' : List Cond} {rm : Room} {D : va_G} {av : List Value} {ws : va_W} {tys : List (ClassId × FieldType)} {QQ : (Nat → Prop) → Array Value → State → Outcome → State → Prop} {cc : ByteArray} {maxL mc ms : Nat} {ret : Option FieldType}
    (hy : plainName y.cls = true) (hw : wl = Cond.code y cc maxL ret :: wl') (hn : (lg_sl av).length ≤ maxL)
    (body : ∀ (p : Program) (e : Env) (s : State) (m : MethodId) (below : List Frame) (meth : Method) (c : Code) (ls : Array Slot) (A : Nat → Prop), CallFix p m c cc maxL s av.toArray wl y.cls → meth.sig.returnType = ret → meth.locks = false → meth.name = y.name →
      va_P D vwCl ws s.heap → va_K D vwCl tys s → jN s → va_D A ws → va_S A s.heap s.heap [] → (∀ q : Nat, s.heap.size ≤ q → A q) → lv_has ls maxL (lv_args 0 av) →
      W p l e rm s m av.toArray below meth c s.heap [] 0 0 (MQ below (QQ A) av.toArray s mc ms A) (F0 m 0 ls [])) : ∀ sz : Nat, Met l y wl rm (jPw D av ws tys sz) (QQ (va_A ws sz)) mc ms (va_A ws sz) := by
  intro sz
  refine Met.ofW (cc := cc) (maxL := maxL) (ret := ret) hy hw ?_
  intro p e s m args below meth c s₁ B hml hv
  obtain ⟨rfl, hsz, hP, hK, hN, hD0⟩ := hv
  subst hsz
  have hts := atoms_spec (ws := wl) B.pre
  have hown : s.vm.findClass y.cls = some m.cls := findClass_of_methodNamed B.named
  have hl := lv_entry av (n := maxL) hn
  rw [lg_entry_eq]
  exact body p e s m below meth c _ (va_A ws s.heap.size) ⟨B.exec, B.bytes, hml, hown, hts⟩ B.returns B.notSynchronized (name_of_methodNamed B.named B.method).1 hP hK hN (hD0.self (sz := s.heap.size)) va_S.rf (fun q h => Or.inr h) hl
section JW
variable {p : Program} {l : Launch} {e : Env} {R : Room} {s : State} {m : MethodId} {args : Array Value} {below : List Frame} {meth : Method} {c : Code} {H : Heap} {locs : List Loc} {cells slots : Nat} {Q : State → Prop}
variable {cc bytes : ByteArray} {pc index n : Nat} {ls : Array Slot} {rest st0 : List Value} {nL maxL : Nat} {Ts wl wl' : List Cond} {own C host : String} {y : MethodName} {rm : Room} {ret : Option FieldType} {D : va_G} {As : List Value} {wd wb wr wn ws' : va_W} {tys tyb : List (ClassId × FieldType)} {b : Nat} {A : Nat → Prop}
theorem jw_iret {v z : Int32} (hx : p.tables.exec = Jvm.exec) (hb : c.code = cc) (hr : meth.sig.returnType = some .int) (hlocks : meth.locks = false) (hK : va_K D vwCl tys s) (hP : va_P D vwCl wn H) (hD : va_D A wn) (hS : va_S A s.heap H locs) (hdg : decode cc pc = .ok (.ireturn, 1)) (hv : v = z) (hw : wn = ws') : W p l e R s m args below meth c H locs cells slots (MQ below (jQi D z ws' tys A) args s cells slots A) (F0 m pc ls [.int v]) := by
  subst hv; subst hw
  exact W.iret hx hb hr (fun t ht hW => ⟨⟨v, (), rfl, rfl, by rw [ht]; exact hP, va_K.moved hW.alike hK, hD⟩, hS.F ht⟩) hS.2.2 hdg
theorem jw_vret (hx : p.tables.exec = Jvm.exec) (hb : c.code = cc) (hr : meth.sig.returnType = none) (hlocks : meth.locks = false) (hK : va_K D vwCl tys s) (hP : va_P D vwCl wn H) (hD : va_D A wn) (hS : va_S A s.heap H locs) (hdg : decode cc pc = .ok (.return_, 1)) (hw : wn = ws') : W p l e R s m args below meth c H locs cells slots (MQ below (jQv D ws' tys A) args s cells slots A) (F0 m pc ls []) := by
  subst hw
  exact W.vret hx hb hr (fun t ht hW => ⟨⟨(), rfl, trivial, by rw [ht]; exact hP, va_K.moved hW.alike hK, hD⟩, hS.F ht⟩) hS.2.2 hdg
/-- the joined world, in the order wanted -/
theorem jw_join {H1 : Heap} (hP : va_P D vwCl wb H) (hD : va_D A wb) (isC isR pm : List Nat) (hC : isC.map (fun i => wb[i]?) = wd.map some) (hR : isR.map (fun i => wb[i]?) = wr.map some) (hn : va_nd isR = true) (hdis : ∀ i ∈ isR, i ∉ isC) (hpm : pm.map (fun i => (wr ++ ws')[i]?) = wn.map some) (hnp : va_nd pm = true)
    (hk : ∀ q : Nat, q < H.size → ¬ va_A wd H.size q → H1[q]? = H[q]?) (hF : ∀ q, va_A wd H.size q → A q) (hP1 : va_P D vwCl ws' H1) (hD1 : va_D (va_A wd H.size) ws') : va_P D vwCl wn H1 ∧ va_D A wn := by
  obtain ⟨hP2, hD2⟩ := va_join (wr := wr) (w1 := ws') hP hD isC isR hC hR hn hdis hk hF hP1 hD1
  exact ⟨hP2.sub pm (jx_fm hpm), hD2.sub pm hnp hpm⟩
/-- a method of an object that writes, of no answer -/
theorem jw_callVv (S : CallFix p m c cc nL s args Ts own) (hM : jWv l y wl rm D (.ref b :: As) wd tys ws') (hT : GoodIn Ts (wsV own index C y wl)) (hw : wl = Cond.code y bytes maxL ret :: wl') (hd : y.cls = C ∧ y.cls ≠ "java/lang/invoke/MethodHandle" ∧ y.cls ≠ "java/lang/invoke/VarHandle" ∧ (parseMethodDescriptor y.desc).map (fun d => d.parameters.length) = some n) (hn : As.length = n)
    (hR : (rm.cells = 0 ∧ rm.slots = 0) ∧ (rm.frames + 1 ≤ R.frames ∧ 8 + (maxL + 11) + rm.locals ≤ R.locals) ∧ cells ≤ R.cells ∧ slots ≤ R.slots) (hP : va_P D vwCl wb H) (hK : va_K D vwCl tyb s) (hN : jN s) (hD : va_D A wb) (hS : va_S A s.heap H locs) (hA : ∀ q : Nat, s.heap.size ≤ q → A q) (is ir pm ts : List Nat) (hi : is.map (fun i => wb[i]?) = wd.map some) (hir : ir.map (fun i => wb[i]?) = wr.map some) (hnd : va_nd is = true ∧ va_nd ir = true ∧ va_nd pm = true) (hdis : ∀ i ∈ ir, i ∉ is) (hpm : pm.map (fun i => (wr ++ ws')[i]?) = wn.map some) (ht : ts.filterMap (fun i => tyb[i]?) = tys)
    (q0 ci : Nat) {q : vw_C} {fs : List Value} (hc : vwCl[ci]? = some q) (hqC : q.1 = C) (he : wd[q0]? = some (b, .inr (ci, fs)))
    (hl : lv_has ls nL []) (hst : st0 = As.reverse ++ .ref b :: rest) (hW : (rest.map fun v => v.category).sum ≤ 8) (hdg : decode cc pc = .ok (.invokevirtual index, 3))
    (kk : ∀ (H1 : Heap) (locs1 : List Loc), va_P D vwCl wn H1 → va_D A wn → va_S A s.heap H1 locs1 → W p l e R s m args below meth c H1 locs1 cells slots Q (F0 m (pc + 3) ls rest)) : W p l e R s m args below meth c H locs cells slots Q (F0 m pc ls st0) := by
  have hPc := hP.sub is (jx_fm hi)
  have hKc := hK.sub ts ht
  have hDc := hD.sub is hnd.1 hi
  have hFc := va_free (wc := wd) hD hS hA is hi
  subst hqC
  refine va_callv (va_runV (As := As) (rest := rest) S (hM H.size) (cwV n S.2.2.2.2 hT hw hR.1.1 hR.1.2 hd hR.2.1) ⟨jPw_blind, va_recv hKc hPc (ci := ci) (q0 := q0) hc he, fun U hU hW => ⟨rfl, by rw [hU], by rw [hU]; exact hPc, va_K.moved hW.alike hKc, jN.warm hW hN, hDc.weaken (fun _ _ _ _ => trivial)⟩⟩ rfl hn hl.1 hst (lv_room hW) hdg ⟨hR.2.2.1, hR.2.2.2⟩) hS (fun q _ h => hFc q h) hFc (fun u t H1 locs1 ht hvm hw hB hz1 hk1 hS1 => ?_)
  obtain ⟨hP1, hK1, hD1⟩ := hB
  rw [ht] at hP1
  obtain ⟨hP2, hD2⟩ := jw_join hP hD is ir pm hi hir hnd.2.1 hdis hpm hnd.2.2 hk1 hFc hP1 hD1
  exact kk H1 locs1 hP2 hD2 hS1
/-- a static method that writes -/
theorem jw_callSv (S : CallFix p m c cc nL s args Ts own) (hM : jWv l y wl rm D As wd tys ws') (hT : GoodIn Ts (va_wsS own index y wl)) (hw : wl = Cond.code y bytes maxL ret :: wl') (hd : y.cls ≠ "java/lang/invoke/MethodHandle" ∧ y.cls ≠ "java/lang/invoke/VarHandle" ∧ (parseMethodDescriptor y.desc).map (fun d => d.parameters.length) = some n) (hn : As.length = n)
    (hR : (rm.cells = 0 ∧ rm.slots = 0) ∧ (rm.frames + 1 ≤ R.frames ∧ 8 + (maxL + 11) + rm.locals ≤ R.locals) ∧ cells ≤ R.cells ∧ slots ≤ R.slots) (hP : va_P D vwCl wb H) (hK : va_K D vwCl tyb s) (hN : jN s) (hD : va_D A wb) (hS : va_S A s.heap H locs) (hA : ∀ q : Nat, s.heap.size ≤ q → A q) (is ir pm ts : List Nat) (hi : is.map (fun i => wb[i]?) = wd.map some) (hir : ir.map (fun i => wb[i]?) = wr.map some) (hnd : va_nd is = true ∧ va_nd ir = true ∧ va_nd pm = true) (hdis : ∀ i ∈ ir, i ∉ is) (hpm : pm.map (fun i => (wr ++ ws')[i]?) = wn.map some) (ht : ts.filterMap (fun i => tyb[i]?) = tys)
    (hl : lv_has ls nL []) (hst : st0 = As.reverse ++ rest) (hW : (rest.map fun v => v.category).sum ≤ 8) (hdg : decode cc pc = .ok (.invokestatic index, 3))
    (kk : ∀ (H1 : Heap) (locs1 : List Loc), va_P D vwCl wn H1 → va_D A wn → va_S A s.heap H1 locs1 → W p l e R s m args below meth c H1 locs1 cells slots Q (F0 m (pc + 3) ls rest)) : W p l e R s m args below meth c H locs cells slots Q (F0 m pc ls st0) := by
  have hPc := hP.sub is (jx_fm hi)
  have hKc := hK.sub ts ht
  have hDc := hD.sub is hnd.1 hi
  have hFc := va_free (wc := wd) hD hS hA is hi
  refine va_callv (va_runS (As := As) (rest := rest) S (hM H.size) (va_cwS n S.2.2.2.2 hT hw hR.1.1 hR.1.2 hd hR.2.1) ⟨jPw_blind, fun U hU hW => ⟨rfl, by rw [hU], by rw [hU]; exact hPc, va_K.moved hW.alike hKc, jN.warm hW hN, hDc.weaken (fun _ _ _ _ => trivial)⟩⟩ rfl hn hl.1 hst (lv_room hW) hdg ⟨hR.2.2.1, hR.2.2.2⟩) hS (fun q _ h => hFc q h) hFc (fun u t H1 locs1 ht hvm hw hB hz1 hk1 hS1 => ?_)
  obtain ⟨hP1, hK1, hD1⟩ := hB
  rw [ht] at hP1
  obtain ⟨hP2, hD2⟩ := jw_join hP hD is ir pm hi hir hnd.2.1 hdis hpm hnd.2.2 hk1 hFc hP1 hD1
  exact kk H1 locs1 hP2 hD2 hS1
/-- .. whose answer is an int -/
theorem jw_callVi {r : Int32} (S : CallFix p m c cc nL s args Ts own) (hM : jWi l y wl rm D (.ref b :: As) wd tys r ws') (hT : GoodIn Ts (wsV own index C y wl)) (hw : wl = Cond.code y bytes maxL ret :: wl') (hd : y.cls = C ∧ y.cls ≠ "java/lang/invoke/MethodHandle" ∧ y.cls ≠ "java/lang/invoke/VarHandle" ∧ (parseMethodDescriptor y.desc).map (fun d => d.parameters.length) = some n) (hn : As.length = n)
    (hR : (rm.cells = 0 ∧ rm.slots = 0) ∧ (rm.frames + 1 ≤ R.frames ∧ 8 + (maxL + 11) + rm.locals ≤ R.locals) ∧ cells ≤ R.cells ∧ slots ≤ R.slots) (hP : va_P D vwCl wb H) (hK : va_K D vwCl tyb s) (hN : jN s) (hD : va_D A wb) (hS : va_S A s.heap H locs) (hA : ∀ q : Nat, s.heap.size ≤ q → A q) (is ir pm ts : List Nat) (hi : is.map (fun i => wb[i]?) = wd.map some) (hir : ir.map (fun i => wb[i]?) = wr.map some) (hnd : va_nd is = true ∧ va_nd ir = true ∧ va_nd pm = true) (hdis : ∀ i ∈ ir, i ∉ is) (hpm : pm.map (fun i => (wr ++ ws')[i]?) = wn.map some) (ht : ts.filterMap (fun i => tyb[i]?) = tys)
    (q0 ci : Nat) {q : vw_C} {fs : List Value} (hc : vwCl[ci]? = some q) (hqC : q.1 = C) (he : wd[q0]? = some (b, .inr (ci, fs)))
    (hl : lv_has ls nL []) (hst : st0 = As.reverse ++ .ref b :: rest) (hW : (rest.map fun v => v.category).sum ≤ 8) (hdg : decode cc pc = .ok (.invokevirtual index, 3))
    (kk : ∀ (H1 : Heap) (locs1 : List Loc), va_P D vwCl wn H1 → va_D A wn → va_S A s.heap H1 locs1 → W p l e R s m args below meth c H1 locs1 cells slots Q (F0 m (pc + 3) ls (.int r :: rest))) : W p l e R s m args below meth c H locs cells slots Q (F0 m pc ls st0) := by
  have hPc := hP.sub is (jx_fm hi)
  have hKc := hK.sub ts ht
  have hDc := hD.sub is hnd.1 hi
  have hFc := va_free (wc := wd) hD hS hA is hi
  subst hqC
  refine va_calli (va_runV (As := As) (rest := rest) S (hM H.size) (cwV n S.2.2.2.2 hT hw hR.1.1 hR.1.2 hd hR.2.1) ⟨jPw_blind, va_recv hKc hPc (ci := ci) (q0 := q0) hc he, fun U hU hW => ⟨rfl, by rw [hU], by rw [hU]; exact hPc, va_K.moved hW.alike hKc, jN.warm hW hN, hDc.weaken (fun _ _ _ _ => trivial)⟩⟩ rfl hn hl.1 hst (lv_room hW) hdg ⟨hR.2.2.1, hR.2.2.2⟩) hS (fun q _ h => hFc q h) hFc (fun r' u t H1 locs1 ht hvm hw hB hz1 hk1 hS1 => ?_)
  obtain ⟨hP1, hK1, hD1⟩ := hB
  rw [ht] at hP1
  obtain ⟨hP2, hD2⟩ := jw_join hP hD is ir pm hi hir hnd.2.1 hdis hpm hnd.2.2 hk1 hFc hP1 hD1
  rw [hw]
  exact kk H1 locs1 hP2 hD2 hS1
end JW
abbrev jA (aF : Nat) (vh : Int64) (vt : Int64) (vp : Int32) (vk : Int32) (vg : Int32) : va_W := [(aF, .inr (0, [.long vh, .long vt, .int vp, .int vk, .int vg]))]
abbrev jC (a0 : Nat) (aR : Nat) (aF : Nat) (aG : Nat) (cI : ClassId) (vrow : Nat → Int32) (vdrawn : Int32) (vtr : Int32) (vled : Int32) (vmov : Int32) (vw1 : Int32) (vw2 : Int32) (veo : Option Nat) (veb : Int32) (vh1 : Int64) (vt1 : Int64) (vp1 : Int32) (vk1 : Int32) (vg1 : Int32) (vh2 : Int64) (vt2 : Int64) (vp2 : Int32) (vk2 : Int32) (vg2 : Int32) : va_W := [(a0, .inr (2, [.ref aR, .ref aF, .ref aG, .int vdrawn, .int vtr, .int vled, .int vmov, .int vw1, .int vw2, va_rf veo, .int veb])), (aF, .inr (0, [.long vh1, .long vt1, .int vp1, .int vk1, .int vg1])), (aG, .inr (0, [.long vh2, .long vt2, .int vp2, .int vk2, .int vg2])), (aR, .inl (cI, 42, .inl vrow))]
abbrev jT (aM : Nat) (cM : ClassId) (vtab : Nat → Int32) : va_W := [(aM, .inl (cM, 8192, .inl vtab))]
abbrev jE (aE : Nat) (aM : Nat) (cM : ClassId) (vtab : Nat → Int32) (vfa : Int64) (vsa : Int64) (vtr : Int32) : va_W := [(aE, .inr (1, [.ref aM, .long vfa, .long vsa, .int vtr])), (aM, .inl (cM, 8192, .inl vtab))]
abbrev jM (b0 : Nat) (bP : Nat) (bR : Nat) (bS : Nat) (bT : Nat) (bG : Nat) (bW : Nat) (bH : Nat) (bO : Nat) (cP : ClassId) (cR : ClassId) (cS : ClassId) (cT : ClassId) (cG : ClassId) (cW : ClassId) (cH : ClassId) (cO : ClassId) (uplace : Nat → Int32) (urow : Nat → Int32) (upts : Nat → Int32) (utks : Nat → Int32) (uglv : Nat → Int32) (uwin : Nat → Int32) (uheld : Nat → Int32) (utab : Nat → Int32) (udrawn : Int32) (udealt : Int32) (uon : Int32) (uturn : Int32) (uled : Int32) (utr : Int32) (uthr : Int32) : va_W := [(b0, .inr (3, [.ref bP, .ref bR, .int udrawn, .int udealt, .int uon, .int uturn, .int uled, .int utr, .ref bS, .ref bT, .ref bG, .ref bW, .int uthr, .ref bH, .ref bO])), (bP, .inl (cP, 42, .inl uplace)), (bR, .inl (cR, 42, .inl urow)), (bS, .inl (cS, 2, .inl upts)), (bT, .inl (cT, 2, .inl utks)), (bG, .inl (cG, 2, .inl uglv)), (bW, .inl (cW, 2, .inl uwin)), (bH, .inl (cH, 12, .inl uheld)), (bO, .inl (cO, 8192, .inl utab))]
end
section
/-! THE CLASS: static methods (laid by wip/whole/rows.py) -/
abbrev rJ13_bitCount_95d88 : Room := { frames := 0, cells := 0, slots := 0, locals := 0 }
def j_J13_bitCount_95d88 (x0 : Int64) : Int32 := (((((((((x0 - (((x0.toUInt64 >>> ((1 : Int32).toInt64.toUInt64 &&& Int64.toUInt64 63)).toInt64) &&& 6148914691236517205)) &&& 3689348814741910323) + ((((x0 - (((x0.toUInt64 >>> ((1 : Int32).toInt64.toUInt64 &&& Int64.toUInt64 63)).toInt64) &&& 6148914691236517205)).toUInt64 >>> ((2 : Int32).toInt64.toUInt64 &&& Int64.toUInt64 63)).toInt64) &&& 3689348814741910323)) + (((((x0 - (((x0.toUInt64 >>> ((1 : Int32).toInt64.toUInt64 &&& Int64.toUInt64 63)).toInt64) &&& 6148914691236517205)) &&& 3689348814741910323) + ((((x0 - (((x0.toUInt64 >>> ((1 : Int32).toInt64.toUInt64 &&& Int64.toUInt64 63)).toInt64) &&& 6148914691236517205)).toUInt64 >>> ((2 : Int32).toInt64.toUInt64 &&& Int64.toUInt64 63)).toInt64) &&& 3689348814741910323)).toUInt64 >>> ((4 : Int32).toInt64.toUInt64 &&& Int64.toUInt64 63)).toInt64)) &&& 1085102592571150095) + (((((((x0 - (((x0.toUInt64 >>> ((1 : Int32).toInt64.toUInt64 &&& Int64.toUInt64 63)).toInt64) &&& 6148914691236517205)) &&& 3689348814741910323) + ((((x0 - (((x0.toUInt64 >>> ((1 : Int32).toInt64.toUInt64 &&& Int64.toUInt64 63)).toInt64) &&& 6148914691236517205)).toUInt64 >>> ((2 : Int32).toInt64.toUInt64 &&& Int64.toUInt64 63)).toInt64) &&& 3689348814741910323)) + (((((x0 - (((x0.toUInt64 >>> ((1 : Int32).toInt64.toUInt64 &&& Int64.toUInt64 63)).toInt64) &&& 6148914691236517205)) &&& 3689348814741910323) + ((((x0 - (((x0.toUInt64 >>> ((1 : Int32).toInt64.toUInt64 &&& Int64.toUInt64 63)).toInt64) &&& 6148914691236517205)).toUInt64 >>> ((2 : Int32).toInt64.toUInt64 &&& Int64.toUInt64 63)).toInt64) &&& 3689348814741910323)).toUInt64 >>> ((4 : Int32).toInt64.toUInt64 &&& Int64.toUInt64 63)).toInt64)) &&& 1085102592571150095).toUInt64 >>> ((8 : Int32).toInt64.toUInt64 &&& Int64.toUInt64 63)).toInt64)) + ((((((((x0 - (((x0.toUInt64 >>> ((1 : Int32).toInt64.toUInt64 &&& Int64.toUInt64 63)).toInt64) &&& 6148914691236517205)) &&& 3689348814741910323) + ((((x0 - (((x0.toUInt64 >>> ((1 : Int32).toInt64.toUInt64 &&& Int64.toUInt64 63)).toInt64) &&& 6148914691236517205)).toUInt64 >>> ((2 : Int32).toInt64.toUInt64 &&& Int64.toUInt64 63)).toInt64) &&& 3689348814741910323)) + (((((x0 - (((x0.toUInt64 >>> ((1 : Int32).toInt64.toUInt64 &&& Int64.toUInt64 63)).toInt64) &&& 6148914691236517205)) &&& 3689348814741910323) + ((((x0 - (((x0.toUInt64 >>> ((1 : Int32).toInt64.toUInt64 &&& Int64.toUInt64 63)).toInt64) &&& 6148914691236517205)).toUInt64 >>> ((2 : Int32).toInt64.toUInt64 &&& Int64.toUInt64 63)).toInt64) &&& 3689348814741910323)).toUInt64 >>> ((4 : Int32).toInt64.toUInt64 &&& Int64.toUInt64 63)).toInt64)) &&& 1085102592571150095) + (((((((x0 - (((x0.toUInt64 >>> ((1 : Int32).toInt64.toUInt64 &&& Int64.toUInt64 63)).toInt64) &&& 6148914691236517205)) &&& 3689348814741910323) + ((((x0 - (((x0.toUInt64 >>> ((1 : Int32).toInt64.toUInt64 &&& Int64.toUInt64 63)).toInt64) &&& 6148914691236517205)).toUInt64 >>> ((2 : Int32).toInt64.toUInt64 &&& Int64.toUInt64 63)).toInt64) &&& 3689348814741910323)) + (((((x0 - (((x0.toUInt64 >>> ((1 : Int32).toInt64.toUInt64 &&& Int64.toUInt64 63)).toInt64) &&& 6148914691236517205)) &&& 3689348814741910323) + ((((x0 - (((x0.toUInt64 >>> ((1 : Int32).toInt64.toUInt64 &&& Int64.toUInt64 63)).toInt64) &&& 6148914691236517205)).toUInt64 >>> ((2 : Int32).toInt64.toUInt64 &&& Int64.toUInt64 63)).toInt64) &&& 3689348814741910323)).toUInt64 >>> ((4 : Int32).toInt64.toUInt64 &&& Int64.toUInt64 63)).toInt64)) &&& 1085102592571150095).toUInt64 >>> ((8 : Int32).toInt64.toUInt64 &&& Int64.toUInt64 63)).toInt64)).toUInt64 >>> ((16 : Int32).toInt64.toUInt64 &&& Int64.toUInt64 63)).toInt64)) + (((((((((x0 - (((x0.toUInt64 >>> ((1 : Int32).toInt64.toUInt64 &&& Int64.toUInt64 63)).toInt64) &&& 6148914691236517205)) &&& 3689348814741910323) + ((((x0 - (((x0.toUInt64 >>> ((1 : Int32).toInt64.toUInt64 &&& Int64.toUInt64 63)).toInt64) &&& 6148914691236517205)).toUInt64 >>> ((2 : Int32).toInt64.toUInt64 &&& Int64.toUInt64 63)).toInt64) &&& 3689348814741910323)) + (((((x0 - (((x0.toUInt64 >>> ((1 : Int32).toInt64.toUInt64 &&& Int64.toUInt64 63)).toInt64) &&& 6148914691236517205)) &&& 3689348814741910323) + ((((x0 - (((x0.toUInt64 >>> ((1 : Int32).toInt64.toUInt64 &&& Int64.toUInt64 63)).toInt64) &&& 6148914691236517205)).toUInt64 >>> ((2 : Int32).toInt64.toUInt64 &&& Int64.toUInt64 63)).toInt64) &&& 3689348814741910323)).toUInt64 >>> ((4 : Int32).toInt64.toUInt64 &&& Int64.toUInt64 63)).toInt64)) &&& 1085102592571150095) + (((((((x0 - (((x0.toUInt64 >>> ((1 : Int32).toInt64.toUInt64 &&& Int64.toUInt64 63)).toInt64) &&& 6148914691236517205)) &&& 3689348814741910323) + ((((x0 - (((x0.toUInt64 >>> ((1 : Int32).toInt64.toUInt64 &&& Int64.toUInt64 63)).toInt64) &&& 6148914691236517205)).toUInt64 >>> ((2 : Int32).toInt64.toUInt64 &&& Int64.toUInt64 63)).toInt64) &&& 3689348814741910323)) + (((((x0 - (((x0.toUInt64 >>> ((1 : Int32).toInt64.toUInt64 &&& Int64.toUInt64 63)).toInt64) &&& 6148914691236517205)) &&& 3689348814741910323) + ((((x0 - (((x0.toUInt64 >>> ((1 : Int32).toInt64.toUInt64 &&& Int64.toUInt64 63)).toInt64) &&& 6148914691236517205)).toUInt64 >>> ((2 : Int32).toInt64.toUInt64 &&& Int64.toUInt64 63)).toInt64) &&& 3689348814741910323)).toUInt64 >>> ((4 : Int32).toInt64.toUInt64 &&& Int64.toUInt64 63)).toInt64)) &&& 1085102592571150095).toUInt64 >>> ((8 : Int32).toInt64.toUInt64 &&& Int64.toUInt64 63)).toInt64)) + ((((((((x0 - (((x0.toUInt64 >>> ((1 : Int32).toInt64.toUInt64 &&& Int64.toUInt64 63)).toInt64) &&& 6148914691236517205)) &&& 3689348814741910323) + ((((x0 - (((x0.toUInt64 >>> ((1 : Int32).toInt64.toUInt64 &&& Int64.toUInt64 63)).toInt64) &&& 6148914691236517205)).toUInt64 >>> ((2 : Int32).toInt64.toUInt64 &&& Int64.toUInt64 63)).toInt64) &&& 3689348814741910323)) + (((((x0 - (((x0.toUInt64 >>> ((1 : Int32).toInt64.toUInt64 &&& Int64.toUInt64 63)).toInt64) &&& 6148914691236517205)) &&& 3689348814741910323) + ((((x0 - (((x0.toUInt64 >>> ((1 : Int32).toInt64.toUInt64 &&& Int64.toUInt64 63)).toInt64) &&& 6148914691236517205)).toUInt64 >>> ((2 : Int32).toInt64.toUInt64 &&& Int64.toUInt64 63)).toInt64) &&& 3689348814741910323)).toUInt64 >>> ((4 : Int32).toInt64.toUInt64 &&& Int64.toUInt64 63)).toInt64)) &&& 1085102592571150095) + (((((((x0 - (((x0.toUInt64 >>> ((1 : Int32).toInt64.toUInt64 &&& Int64.toUInt64 63)).toInt64) &&& 6148914691236517205)) &&& 3689348814741910323) + ((((x0 - (((x0.toUInt64 >>> ((1 : Int32).toInt64.toUInt64 &&& Int64.toUInt64 63)).toInt64) &&& 6148914691236517205)).toUInt64 >>> ((2 : Int32).toInt64.toUInt64 &&& Int64.toUInt64 63)).toInt64) &&& 3689348814741910323)) + (((((x0 - (((x0.toUInt64 >>> ((1 : Int32).toInt64.toUInt64 &&& Int64.toUInt64 63)).toInt64) &&& 6148914691236517205)) &&& 3689348814741910323) + ((((x0 - (((x0.toUInt64 >>> ((1 : Int32).toInt64.toUInt64 &&& Int64.toUInt64 63)).toInt64) &&& 6148914691236517205)).toUInt64 >>> ((2 : Int32).toInt64.toUInt64 &&& Int64.toUInt64 63)).toInt64) &&& 3689348814741910323)).toUInt64 >>> ((4 : Int32).toInt64.toUInt64 &&& Int64.toUInt64 63)).toInt64)) &&& 1085102592571150095).toUInt64 >>> ((8 : Int32).toInt64.toUInt64 &&& Int64.toUInt64 63)).toInt64)).toUInt64 >>> ((16 : Int32).toInt64.toUInt64 &&& Int64.toUInt64 63)).toInt64)).toUInt64 >>> ((32 : Int32).toInt64.toUInt64 &&& Int64.toUInt64 63)).toInt64)).toInt32) &&& 127
set_option maxRecDepth 100000 in
set_option maxHeartbeats 4000000 in
theorem c_J13_bitCount_95d88 {l : Launch} {D : va_G} (x0 : Int64) : jR l yJ13_bitCount_95d88 wsJ13_bitCount_95d88 rJ13_bitCount_95d88 D [.long x0] [] [] (.int (j_J13_bitCount_95d88 x0)) := by
  refine jR_of (cc := cJ13_bitCount_95d88) (maxL := 2) (ret := (some .int)) (by decide) rfl (Nat.le_of_ble_eq_true rfl) ?_
  intro p e s m below meth c ls S hr hlocks hP hK hN hl
  obtain ⟨hx, hb, hml, hown, hts⟩ := id S
  have hl : lv_has ls 2 [(0, .long x0)] := hl
  refine lv_lload_n hx hb dJ13_bitCount_95d88_0 rfl (lv_at hl 0 rfl) ?_
  refine lv_lload_n hx hb dJ13_bitCount_95d88_1 rfl (lv_at hl 0 rfl) ?_
  refine lv_iconst (v := 1) hx hb dJ13_bitCount_95d88_2 (by decide) ?_
  refine lv_lushr (v := (x0.toUInt64 >>> ((1 : Int32).toInt64.toUInt64 &&& Int64.toUInt64 63)).toInt64) hx hb dJ13_bitCount_95d88_3 rfl ?_
  refine lv_ldc2 (v := 6148914691236517205) hx hb hown (hts (.constantLong RJ13 314 (6148914691236517205)) (by decide +kernel)) dJ13_bitCount_95d88_4 ?_
  refine lv_land hx hb dJ13_bitCount_95d88_7 ?_
  refine lv_lsub hx hb dJ13_bitCount_95d88_8 ?_
  refine lv_lstore_n (lv' := [(0, .long (x0 - (((x0.toUInt64 >>> ((1 : Int32).toInt64.toUInt64 &&& Int64.toUInt64 63)).toInt64) &&& 6148914691236517205)))]) hx hb dJ13_bitCount_95d88_9 rfl hl (by decide) rfl (fun ls hl => ?_)
  refine lv_lload_n hx hb dJ13_bitCount_95d88_10 rfl (lv_at hl 0 rfl) ?_
  refine lv_ldc2 (v := 3689348814741910323) hx hb hown (hts (.constantLong RJ13 316 (3689348814741910323)) (by decide +kernel)) dJ13_bitCount_95d88_11 ?_
  refine lv_land hx hb dJ13_bitCount_95d88_14 ?_
  refine lv_lload_n hx hb dJ13_bitCount_95d88_15 rfl (lv_at hl 0 rfl) ?_
  refine lv_iconst (v := 2) hx hb dJ13_bitCount_95d88_16 (by decide) ?_
  refine lv_lushr (v := ((x0 - (((x0.toUInt64 >>> ((1 : Int32).toInt64.toUInt64 &&& Int64.toUInt64 63)).toInt64) &&& 6148914691236517205)).toUInt64 >>> ((2 : Int32).toInt64.toUInt64 &&& Int64.toUInt64 63)).toInt64) hx hb dJ13_bitCount_95d88_17 rfl ?_
  refine lv_ldc2 (v := 3689348814741910323) hx hb hown (hts (.constantLong RJ13 316 (3689348814741910323)) (by decide +kernel)) dJ13_bitCount_95d88_18 ?_
  refine lv_land hx hb dJ13_bitCount_95d88_21 ?_
  refine lv_ladd hx hb dJ13_bitCount_95d88_22 ?_
  refine lv_lstore_n (lv' := [(0, .long (((x0 - (((x0.toUInt64 >>> ((1 : Int32).toInt64.toUInt64 &&& Int64.toUInt64 63)).toInt64) &&& 6148914691236517205)) &&& 3689348814741910323) + ((((x0 - (((x0.toUInt64 >>> ((1 : Int32).toInt64.toUInt64 &&& Int64.toUInt64 63)).toInt64) &&& 6148914691236517205)).toUInt64 >>> ((2 : Int32).toInt64.toUInt64 &&& Int64.toUInt64 63)).toInt64) &&& 3689348814741910323)))]) hx hb dJ13_bitCount_95d88_23 rfl hl (by decide) rfl (fun ls hl => ?_)
  refine lv_lload_n hx hb dJ13_bitCount_95d88_24 rfl (lv_at hl 0 rfl) ?_
  refine lv_lload_n hx hb dJ13_bitCount_95d88_25 rfl (lv_at hl 0 rfl) ?_
  refine lv_iconst (v := 4) hx hb dJ13_bitCount_95d88_26 (by decide) ?_
  refine lv_lushr (v := ((((x0 - (((x0.toUInt64 >>> ((1 : Int32).toInt64.toUInt64 &&& Int64.toUInt64 63)).toInt64) &&& 6148914691236517205)) &&& 3689348814741910323) + ((((x0 - (((x0.toUInt64 >>> ((1 : Int32).toInt64.toUInt64 &&& Int64.toUInt64 63)).toInt64) &&& 6148914691236517205)).toUInt64 >>> ((2 : Int32).toInt64.toUInt64 &&& Int64.toUInt64 63)).toInt64) &&& 3689348814741910323)).toUInt64 >>> ((4 : Int32).toInt64.toUInt64 &&& Int64.toUInt64 63)).toInt64) hx hb dJ13_bitCount_95d88_27 rfl ?_
  refine lv_ladd hx hb dJ13_bitCount_95d88_28 ?_
  refine lv_ldc2 (v := 1085102592571150095) hx hb hown (hts (.constantLong RJ13 318 (1085102592571150095)) (by decide +kernel)) dJ13_bitCount_95d88_29 ?_
  refine lv_land hx hb dJ13_bitCount_95d88_32 ?_
  refine lv_lstore_n (lv' := [(0, .long (((((x0 - (((x0.toUInt64 >>> ((1 : Int32).toInt64.toUInt64 &&& Int64.toUInt64 63)).toInt64) &&& 6148914691236517205)) &&& 3689348814741910323) + ((((x0 - (((x0.toUInt64 >>> ((1 : Int32).toInt64.toUInt64 &&& Int64.toUInt64 63)).toInt64) &&& 6148914691236517205)).toUInt64 >>> ((2 : Int32).toInt64.toUInt64 &&& Int64.toUInt64 63)).toInt64) &&& 3689348814741910323)) + (((((x0 - (((x0.toUInt64 >>> ((1 : Int32).toInt64.toUInt64 &&& Int64.toUInt64 63)).toInt64) &&& 6148914691236517205)) &&& 3689348814741910323) + ((((x0 - (((x0.toUInt64 >>> ((1 : Int32).toInt64.toUInt64 &&& Int64.toUInt64 63)).toInt64) &&& 6148914691236517205)).toUInt64 >>> ((2 : Int32).toInt64.toUInt64 &&& Int64.toUInt64 63)).toInt64) &&& 3689348814741910323)).toUInt64 >>> ((4 : Int32).toInt64.toUInt64 &&& Int64.toUInt64 63)).toInt64)) &&& 1085102592571150095))]) hx hb dJ13_bitCount_95d88_33 rfl hl (by decide) rfl (fun ls hl => ?_)
  refine lv_lload_n hx hb dJ13_bitCount_95d88_34 rfl (lv_at hl 0 rfl) ?_
  refine lv_lload_n hx hb dJ13_bitCount_95d88_35 rfl (lv_at hl 0 rfl) ?_
  refine lv_bipush (v := 8) hx hb dJ13_bitCount_95d88_36 (by decide) ?_
  refine lv_lushr (v := ((((((x0 - (((x0.toUInt64 >>> ((1 : Int32).toInt64.toUInt64 &&& Int64.toUInt64 63)).toInt64) &&& 6148914691236517205)) &&& 3689348814741910323) + ((((x0 - (((x0.toUInt64 >>> ((1 : Int32).toInt64.toUInt64 &&& Int64.toUInt64 63)).toInt64) &&& 6148914691236517205)).toUInt64 >>> ((2 : Int32).toInt64.toUInt64 &&& Int64.toUInt64 63)).toInt64) &&& 3689348814741910323)) + (((((x0 - (((x0.toUInt64 >>> ((1 : Int32).toInt64.toUInt64 &&& Int64.toUInt64 63)).toInt64) &&& 6148914691236517205)) &&& 3689348814741910323) + ((((x0 - (((x0.toUInt64 >>> ((1 : Int32).toInt64.toUInt64 &&& Int64.toUInt64 63)).toInt64) &&& 6148914691236517205)).toUInt64 >>> ((2 : Int32).toInt64.toUInt64 &&& Int64.toUInt64 63)).toInt64) &&& 3689348814741910323)).toUInt64 >>> ((4 : Int32).toInt64.toUInt64 &&& Int64.toUInt64 63)).toInt64)) &&& 1085102592571150095).toUInt64 >>> ((8 : Int32).toInt64.toUInt64 &&& Int64.toUInt64 63)).toInt64) hx hb dJ13_bitCount_95d88_38 rfl ?_
  refine lv_ladd hx hb dJ13_bitCount_95d88_39 ?_
  refine lv_lstore_n (lv' := [(0, .long ((((((x0 - (((x0.toUInt64 >>> ((1 : Int32).toInt64.toUInt64 &&& Int64.toUInt64 63)).toInt64) &&& 6148914691236517205)) &&& 3689348814741910323) + ((((x0 - (((x0.toUInt64 >>> ((1 : Int32).toInt64.toUInt64 &&& Int64.toUInt64 63)).toInt64) &&& 6148914691236517205)).toUInt64 >>> ((2 : Int32).toInt64.toUInt64 &&& Int64.toUInt64 63)).toInt64) &&& 3689348814741910323)) + (((((x0 - (((x0.toUInt64 >>> ((1 : Int32).toInt64.toUInt64 &&& Int64.toUInt64 63)).toInt64) &&& 6148914691236517205)) &&& 3689348814741910323) + ((((x0 - (((x0.toUInt64 >>> ((1 : Int32).toInt64.toUInt64 &&& Int64.toUInt64 63)).toInt64) &&& 6148914691236517205)).toUInt64 >>> ((2 : Int32).toInt64.toUInt64 &&& Int64.toUInt64 63)).toInt64) &&& 3689348814741910323)).toUInt64 >>> ((4 : Int32).toInt64.toUInt64 &&& Int64.toUInt64 63)).toInt64)) &&& 1085102592571150095) + (((((((x0 - (((x0.toUInt64 >>> ((1 : Int32).toInt64.toUInt64 &&& Int64.toUInt64 63)).toInt64) &&& 6148914691236517205)) &&& 3689348814741910323) + ((((x0 - (((x0.toUInt64 >>> ((1 : Int32).toInt64.toUInt64 &&& Int64.toUInt64 63)).toInt64) &&& 6148914691236517205)).toUInt64 >>> ((2 : Int32).toInt64.toUInt64 &&& Int64.toUInt64 63)).toInt64) &&& 3689348814741910323)) + (((((x0 - (((x0.toUInt64 >>> ((1 : Int32).toInt64.toUInt64 &&& Int64.toUInt64 63)).toInt64) &&& 6148914691236517205)) &&& 3689348814741910323) + ((((x0 - (((x0.toUInt64 >>> ((1 : Int32).toInt64.toUInt64 &&& Int64.toUInt64 63)).toInt64) &&& 6148914691236517205)).toUInt64 >>> ((2 : Int32).toInt64.toUInt64 &&& Int64.toUInt64 63)).toInt64) &&& 3689348814741910323)).toUInt64 >>> ((4 : Int32).toInt64.toUInt64 &&& Int64.toUInt64 63)).toInt64)) &&& 1085102592571150095).toUInt64 >>> ((8 : Int32).toInt64.toUInt64 &&& Int64.toUInt64 63)).toInt64)))]) hx hb dJ13_bitCount_95d88_40 rfl hl (by decide) rfl (fun ls hl => ?_)
  refine lv_lload_n hx hb dJ13_bitCount_95d88_41 rfl (lv_at hl 0 rfl) ?_
  refine lv_lload_n hx hb dJ13_bitCount_95d88_42 rfl (lv_at hl 0 rfl) ?_
  refine lv_bipush (v := 16) hx hb dJ13_bitCount_95d88_43 (by decide) ?_
  refine lv_lushr (v := (((((((x0 - (((x0.toUInt64 >>> ((1 : Int32).toInt64.toUInt64 &&& Int64.toUInt64 63)).toInt64) &&& 6148914691236517205)) &&& 3689348814741910323) + ((((x0 - (((x0.toUInt64 >>> ((1 : Int32).toInt64.toUInt64 &&& Int64.toUInt64 63)).toInt64) &&& 6148914691236517205)).toUInt64 >>> ((2 : Int32).toInt64.toUInt64 &&& Int64.toUInt64 63)).toInt64) &&& 3689348814741910323)) + (((((x0 - (((x0.toUInt64 >>> ((1 : Int32).toInt64.toUInt64 &&& Int64.toUInt64 63)).toInt64) &&& 6148914691236517205)) &&& 3689348814741910323) + ((((x0 - (((x0.toUInt64 >>> ((1 : Int32).toInt64.toUInt64 &&& Int64.toUInt64 63)).toInt64) &&& 6148914691236517205)).toUInt64 >>> ((2 : Int32).toInt64.toUInt64 &&& Int64.toUInt64 63)).toInt64) &&& 3689348814741910323)).toUInt64 >>> ((4 : Int32).toInt64.toUInt64 &&& Int64.toUInt64 63)).toInt64)) &&& 1085102592571150095) + (((((((x0 - (((x0.toUInt64 >>> ((1 : Int32).toInt64.toUInt64 &&& Int64.toUInt64 63)).toInt64) &&& 6148914691236517205)) &&& 3689348814741910323) + ((((x0 - (((x0.toUInt64 >>> ((1 : Int32).toInt64.toUInt64 &&& Int64.toUInt64 63)).toInt64) &&& 6148914691236517205)).toUInt64 >>> ((2 : Int32).toInt64.toUInt64 &&& Int64.toUInt64 63)).toInt64) &&& 3689348814741910323)) + (((((x0 - (((x0.toUInt64 >>> ((1 : Int32).toInt64.toUInt64 &&& Int64.toUInt64 63)).toInt64) &&& 6148914691236517205)) &&& 3689348814741910323) + ((((x0 - (((x0.toUInt64 >>> ((1 : Int32).toInt64.toUInt64 &&& Int64.toUInt64 63)).toInt64) &&& 6148914691236517205)).toUInt64 >>> ((2 : Int32).toInt64.toUInt64 &&& Int64.toUInt64 63)).toInt64) &&& 3689348814741910323)).toUInt64 >>> ((4 : Int32).toInt64.toUInt64 &&& Int64.toUInt64 63)).toInt64)) &&& 1085102592571150095).toUInt64 >>> ((8 : Int32).toInt64.toUInt64 &&& Int64.toUInt64 63)).toInt64)).toUInt64 >>> ((16 : Int32).toInt64.toUInt64 &&& Int64.toUInt64 63)).toInt64) hx hb dJ13_bitCount_95d88_45 rfl ?_
  refine lv_ladd hx hb dJ13_bitCount_95d88_46 ?_
  refine lv_lstore_n (lv' := [(0, .long (((((((x0 - (((x0.toUInt64 >>> ((1 : Int32).toInt64.toUInt64 &&& Int64.toUInt64 63)).toInt64) &&& 6148914691236517205)) &&& 3689348814741910323) + ((((x0 - (((x0.toUInt64 >>> ((1 : Int32).toInt64.toUInt64 &&& Int64.toUInt64 63)).toInt64) &&& 6148914691236517205)).toUInt64 >>> ((2 : Int32).toInt64.toUInt64 &&& Int64.toUInt64 63)).toInt64) &&& 3689348814741910323)) + (((((x0 - (((x0.toUInt64 >>> ((1 : Int32).toInt64.toUInt64 &&& Int64.toUInt64 63)).toInt64) &&& 6148914691236517205)) &&& 3689348814741910323) + ((((x0 - (((x0.toUInt64 >>> ((1 : Int32).toInt64.toUInt64 &&& Int64.toUInt64 63)).toInt64) &&& 6148914691236517205)).toUInt64 >>> ((2 : Int32).toInt64.toUInt64 &&& Int64.toUInt64 63)).toInt64) &&& 3689348814741910323)).toUInt64 >>> ((4 : Int32).toInt64.toUInt64 &&& Int64.toUInt64 63)).toInt64)) &&& 1085102592571150095) + (((((((x0 - (((x0.toUInt64 >>> ((1 : Int32).toInt64.toUInt64 &&& Int64.toUInt64 63)).toInt64) &&& 6148914691236517205)) &&& 3689348814741910323) + ((((x0 - (((x0.toUInt64 >>> ((1 : Int32).toInt64.toUInt64 &&& Int64.toUInt64 63)).toInt64) &&& 6148914691236517205)).toUInt64 >>> ((2 : Int32).toInt64.toUInt64 &&& Int64.toUInt64 63)).toInt64) &&& 3689348814741910323)) + (((((x0 - (((x0.toUInt64 >>> ((1 : Int32).toInt64.toUInt64 &&& Int64.toUInt64 63)).toInt64) &&& 6148914691236517205)) &&& 3689348814741910323) + ((((x0 - (((x0.toUInt64 >>> ((1 : Int32).toInt64.toUInt64 &&& Int64.toUInt64 63)).toInt64) &&& 6148914691236517205)).toUInt64 >>> ((2 : Int32).toInt64.toUInt64 &&& Int64.toUInt64 63)).toInt64) &&& 3689348814741910323)).toUInt64 >>> ((4 : Int32).toInt64.toUInt64 &&& Int64.toUInt64 63)).toInt64)) &&& 1085102592571150095).toUInt64 >>> ((8 : Int32).toInt64.toUInt64 &&& Int64.toUInt64 63)).toInt64)) + ((((((((x0 - (((x0.toUInt64 >>> ((1 : Int32).toInt64.toUInt64 &&& Int64.toUInt64 63)).toInt64) &&& 6148914691236517205)) &&& 3689348814741910323) + ((((x0 - (((x0.toUInt64 >>> ((1 : Int32).toInt64.toUInt64 &&& Int64.toUInt64 63)).toInt64) &&& 6148914691236517205)).toUInt64 >>> ((2 : Int32).toInt64.toUInt64 &&& Int64.toUInt64 63)).toInt64) &&& 3689348814741910323)) + (((((x0 - (((x0.toUInt64 >>> ((1 : Int32).toInt64.toUInt64 &&& Int64.toUInt64 63)).toInt64) &&& 6148914691236517205)) &&& 3689348814741910323) + ((((x0 - (((x0.toUInt64 >>> ((1 : Int32).toInt64.toUInt64 &&& Int64.toUInt64 63)).toInt64) &&& 6148914691236517205)).toUInt64 >>> ((2 : Int32).toInt64.toUInt64 &&& Int64.toUInt64 63)).toInt64) &&& 3689348814741910323)).toUInt64 >>> ((4 : Int32).toInt64.toUInt64 &&& Int64.toUInt64 63)).toInt64)) &&& 1085102592571150095) + (((((((x0 - (((x0.toUInt64 >>> ((1 : Int32).toInt64.toUInt64 &&& Int64.toUInt64 63)).toInt64) &&& 6148914691236517205)) &&& 3689348814741910323) + ((((x0 - (((x0.toUInt64 >>> ((1 : Int32).toInt64.toUInt64 &&& Int64.toUInt64 63)).toInt64) &&& 6148914691236517205)).toUInt64 >>> ((2 : Int32).toInt64.toUInt64 &&& Int64.toUInt64 63)).toInt64) &&& 3689348814741910323)) + (((((x0 - (((x0.toUInt64 >>> ((1 : Int32).toInt64.toUInt64 &&& Int64.toUInt64 63)).toInt64) &&& 6148914691236517205)) &&& 3689348814741910323) + ((((x0 - (((x0.toUInt64 >>> ((1 : Int32).toInt64.toUInt64 &&& Int64.toUInt64 63)).toInt64) &&& 6148914691236517205)).toUInt64 >>> ((2 : Int32).toInt64.toUInt64 &&& Int64.toUInt64 63)).toInt64) &&& 3689348814741910323)).toUInt64 >>> ((4 : Int32).toInt64.toUInt64 &&& Int64.toUInt64 63)).toInt64)) &&& 1085102592571150095).toUInt64 >>> ((8 : Int32).toInt64.toUInt64 &&& Int64.toUInt64 63)).toInt64)).toUInt64 >>> ((16 : Int32).toInt64.toUInt64 &&& Int64.toUInt64 63)).toInt64)))]) hx hb dJ13_bitCount_95d88_47 rfl hl (by decide) rfl (fun ls hl => ?_)
  refine lv_lload_n hx hb dJ13_bitCount_95d88_48 rfl (lv_at hl 0 rfl) ?_
  refine lv_lload_n hx hb dJ13_bitCount_95d88_49 rfl (lv_at hl 0 rfl) ?_
  refine lv_bipush (v := 32) hx hb dJ13_bitCount_95d88_50 (by decide) ?_
  refine lv_lushr (v := ((((((((x0 - (((x0.toUInt64 >>> ((1 : Int32).toInt64.toUInt64 &&& Int64.toUInt64 63)).toInt64) &&& 6148914691236517205)) &&& 3689348814741910323) + ((((x0 - (((x0.toUInt64 >>> ((1 : Int32).toInt64.toUInt64 &&& Int64.toUInt64 63)).toInt64) &&& 6148914691236517205)).toUInt64 >>> ((2 : Int32).toInt64.toUInt64 &&& Int64.toUInt64 63)).toInt64) &&& 3689348814741910323)) + (((((x0 - (((x0.toUInt64 >>> ((1 : Int32).toInt64.toUInt64 &&& Int64.toUInt64 63)).toInt64) &&& 6148914691236517205)) &&& 3689348814741910323) + ((((x0 - (((x0.toUInt64 >>> ((1 : Int32).toInt64.toUInt64 &&& Int64.toUInt64 63)).toInt64) &&& 6148914691236517205)).toUInt64 >>> ((2 : Int32).toInt64.toUInt64 &&& Int64.toUInt64 63)).toInt64) &&& 3689348814741910323)).toUInt64 >>> ((4 : Int32).toInt64.toUInt64 &&& Int64.toUInt64 63)).toInt64)) &&& 1085102592571150095) + (((((((x0 - (((x0.toUInt64 >>> ((1 : Int32).toInt64.toUInt64 &&& Int64.toUInt64 63)).toInt64) &&& 6148914691236517205)) &&& 3689348814741910323) + ((((x0 - (((x0.toUInt64 >>> ((1 : Int32).toInt64.toUInt64 &&& Int64.toUInt64 63)).toInt64) &&& 6148914691236517205)).toUInt64 >>> ((2 : Int32).toInt64.toUInt64 &&& Int64.toUInt64 63)).toInt64) &&& 3689348814741910323)) + (((((x0 - (((x0.toUInt64 >>> ((1 : Int32).toInt64.toUInt64 &&& Int64.toUInt64 63)).toInt64) &&& 6148914691236517205)) &&& 3689348814741910323) + ((((x0 - (((x0.toUInt64 >>> ((1 : Int32).toInt64.toUInt64 &&& Int64.toUInt64 63)).toInt64) &&& 6148914691236517205)).toUInt64 >>> ((2 : Int32).toInt64.toUInt64 &&& Int64.toUInt64 63)).toInt64) &&& 3689348814741910323)).toUInt64 >>> ((4 : Int32).toInt64.toUInt64 &&& Int64.toUInt64 63)).toInt64)) &&& 1085102592571150095).toUInt64 >>> ((8 : Int32).toInt64.toUInt64 &&& Int64.toUInt64 63)).toInt64)) + ((((((((x0 - (((x0.toUInt64 >>> ((1 : Int32).toInt64.toUInt64 &&& Int64.toUInt64 63)).toInt64) &&& 6148914691236517205)) &&& 3689348814741910323) + ((((x0 - (((x0.toUInt64 >>> ((1 : Int32).toInt64.toUInt64 &&& Int64.toUInt64 63)).toInt64) &&& 6148914691236517205)).toUInt64 >>> ((2 : Int32).toInt64.toUInt64 &&& Int64.toUInt64 63)).toInt64) &&& 3689348814741910323)) + (((((x0 - (((x0.toUInt64 >>> ((1 : Int32).toInt64.toUInt64 &&& Int64.toUInt64 63)).toInt64) &&& 6148914691236517205)) &&& 3689348814741910323) + ((((x0 - (((x0.toUInt64 >>> ((1 : Int32).toInt64.toUInt64 &&& Int64.toUInt64 63)).toInt64) &&& 6148914691236517205)).toUInt64 >>> ((2 : Int32).toInt64.toUInt64 &&& Int64.toUInt64 63)).toInt64) &&& 3689348814741910323)).toUInt64 >>> ((4 : Int32).toInt64.toUInt64 &&& Int64.toUInt64 63)).toInt64)) &&& 1085102592571150095) + (((((((x0 - (((x0.toUInt64 >>> ((1 : Int32).toInt64.toUInt64 &&& Int64.toUInt64 63)).toInt64) &&& 6148914691236517205)) &&& 3689348814741910323) + ((((x0 - (((x0.toUInt64 >>> ((1 : Int32).toInt64.toUInt64 &&& Int64.toUInt64 63)).toInt64) &&& 6148914691236517205)).toUInt64 >>> ((2 : Int32).toInt64.toUInt64 &&& Int64.toUInt64 63)).toInt64) &&& 3689348814741910323)) + (((((x0 - (((x0.toUInt64 >>> ((1 : Int32).toInt64.toUInt64 &&& Int64.toUInt64 63)).toInt64) &&& 6148914691236517205)) &&& 3689348814741910323) + ((((x0 - (((x0.toUInt64 >>> ((1 : Int32).toInt64.toUInt64 &&& Int64.toUInt64 63)).toInt64) &&& 6148914691236517205)).toUInt64 >>> ((2 : Int32).toInt64.toUInt64 &&& Int64.toUInt64 63)).toInt64) &&& 3689348814741910323)).toUInt64 >>> ((4 : Int32).toInt64.toUInt64 &&& Int64.toUInt64 63)).toInt64)) &&& 1085102592571150095).toUInt64 >>> ((8 : Int32).toInt64.toUInt64 &&& Int64.toUInt64 63)).toInt64)).toUInt64 >>> ((16 : Int32).toInt64.toUInt64 &&& Int64.toUInt64 63)).toInt64)).toUInt64 >>> ((32 : Int32).toInt64.toUInt64 &&& Int64.toUInt64 63)).toInt64) hx hb dJ13_bitCount_95d88_52 rfl ?_
  refine lv_ladd hx hb dJ13_bitCount_95d88_53 ?_
  refine lv_lstore_n (lv' := [(0, .long ((((((((x0 - (((x0.toUInt64 >>> ((1 : Int32).toInt64.toUInt64 &&& Int64.toUInt64 63)).toInt64) &&& 6148914691236517205)) &&& 3689348814741910323) + ((((x0 - (((x0.toUInt64 >>> ((1 : Int32).toInt64.toUInt64 &&& Int64.toUInt64 63)).toInt64) &&& 6148914691236517205)).toUInt64 >>> ((2 : Int32).toInt64.toUInt64 &&& Int64.toUInt64 63)).toInt64) &&& 3689348814741910323)) + (((((x0 - (((x0.toUInt64 >>> ((1 : Int32).toInt64.toUInt64 &&& Int64.toUInt64 63)).toInt64) &&& 6148914691236517205)) &&& 3689348814741910323) + ((((x0 - (((x0.toUInt64 >>> ((1 : Int32).toInt64.toUInt64 &&& Int64.toUInt64 63)).toInt64) &&& 6148914691236517205)).toUInt64 >>> ((2 : Int32).toInt64.toUInt64 &&& Int64.toUInt64 63)).toInt64) &&& 3689348814741910323)).toUInt64 >>> ((4 : Int32).toInt64.toUInt64 &&& Int64.toUInt64 63)).toInt64)) &&& 1085102592571150095) + (((((((x0 - (((x0.toUInt64 >>> ((1 : Int32).toInt64.toUInt64 &&& Int64.toUInt64 63)).toInt64) &&& 6148914691236517205)) &&& 3689348814741910323) + ((((x0 - (((x0.toUInt64 >>> ((1 : Int32).toInt64.toUInt64 &&& Int64.toUInt64 63)).toInt64) &&& 6148914691236517205)).toUInt64 >>> ((2 : Int32).toInt64.toUInt64 &&& Int64.toUInt64 63)).toInt64) &&& 3689348814741910323)) + (((((x0 - (((x0.toUInt64 >>> ((1 : Int32).toInt64.toUInt64 &&& Int64.toUInt64 63)).toInt64) &&& 6148914691236517205)) &&& 3689348814741910323) + ((((x0 - (((x0.toUInt64 >>> ((1 : Int32).toInt64.toUInt64 &&& Int64.toUInt64 63)).toInt64) &&& 6148914691236517205)).toUInt64 >>> ((2 : Int32).toInt64.toUInt64 &&& Int64.toUInt64 63)).toInt64) &&& 3689348814741910323)).toUInt64 >>> ((4 : Int32).toInt64.toUInt64 &&& Int64.toUInt64 63)).toInt64)) &&& 1085102592571150095).toUInt64 >>> ((8 : Int32).toInt64.toUInt64 &&& Int64.toUInt64 63)).toInt64)) + ((((((((x0 - (((x0.toUInt64 >>> ((1 : Int32).toInt64.toUInt64 &&& Int64.toUInt64 63)).toInt64) &&& 6148914691236517205)) &&& 3689348814741910323) + ((((x0 - (((x0.toUInt64 >>> ((1 : Int32).toInt64.toUInt64 &&& Int64.toUInt64 63)).toInt64) &&& 6148914691236517205)).toUInt64 >>> ((2 : Int32).toInt64.toUInt64 &&& Int64.toUInt64 63)).toInt64) &&& 3689348814741910323)) + (((((x0 - (((x0.toUInt64 >>> ((1 : Int32).toInt64.toUInt64 &&& Int64.toUInt64 63)).toInt64) &&& 6148914691236517205)) &&& 3689348814741910323) + ((((x0 - (((x0.toUInt64 >>> ((1 : Int32).toInt64.toUInt64 &&& Int64.toUInt64 63)).toInt64) &&& 6148914691236517205)).toUInt64 >>> ((2 : Int32).toInt64.toUInt64 &&& Int64.toUInt64 63)).toInt64) &&& 3689348814741910323)).toUInt64 >>> ((4 : Int32).toInt64.toUInt64 &&& Int64.toUInt64 63)).toInt64)) &&& 1085102592571150095) + (((((((x0 - (((x0.toUInt64 >>> ((1 : Int32).toInt64.toUInt64 &&& Int64.toUInt64 63)).toInt64) &&& 6148914691236517205)) &&& 3689348814741910323) + ((((x0 - (((x0.toUInt64 >>> ((1 : Int32).toInt64.toUInt64 &&& Int64.toUInt64 63)).toInt64) &&& 6148914691236517205)).toUInt64 >>> ((2 : Int32).toInt64.toUInt64 &&& Int64.toUInt64 63)).toInt64) &&& 3689348814741910323)) + (((((x0 - (((x0.toUInt64 >>> ((1 : Int32).toInt64.toUInt64 &&& Int64.toUInt64 63)).toInt64) &&& 6148914691236517205)) &&& 3689348814741910323) + ((((x0 - (((x0.toUInt64 >>> ((1 : Int32).toInt64.toUInt64 &&& Int64.toUInt64 63)).toInt64) &&& 6148914691236517205)).toUInt64 >>> ((2 : Int32).toInt64.toUInt64 &&& Int64.toUInt64 63)).toInt64) &&& 3689348814741910323)).toUInt64 >>> ((4 : Int32).toInt64.toUInt64 &&& Int64.toUInt64 63)).toInt64)) &&& 1085102592571150095).toUInt64 >>> ((8 : Int32).toInt64.toUInt64 &&& Int64.toUInt64 63)).toInt64)).toUInt64 >>> ((16 : Int32).toInt64.toUInt64 &&& Int64.toUInt64 63)).toInt64)) + (((((((((x0 - (((x0.toUInt64 >>> ((1 : Int32).toInt64.toUInt64 &&& Int64.toUInt64 63)).toInt64) &&& 6148914691236517205)) &&& 3689348814741910323) + ((((x0 - (((x0.toUInt64 >>> ((1 : Int32).toInt64.toUInt64 &&& Int64.toUInt64 63)).toInt64) &&& 6148914691236517205)).toUInt64 >>> ((2 : Int32).toInt64.toUInt64 &&& Int64.toUInt64 63)).toInt64) &&& 3689348814741910323)) + (((((x0 - (((x0.toUInt64 >>> ((1 : Int32).toInt64.toUInt64 &&& Int64.toUInt64 63)).toInt64) &&& 6148914691236517205)) &&& 3689348814741910323) + ((((x0 - (((x0.toUInt64 >>> ((1 : Int32).toInt64.toUInt64 &&& Int64.toUInt64 63)).toInt64) &&& 6148914691236517205)).toUInt64 >>> ((2 : Int32).toInt64.toUInt64 &&& Int64.toUInt64 63)).toInt64) &&& 3689348814741910323)).toUInt64 >>> ((4 : Int32).toInt64.toUInt64 &&& Int64.toUInt64 63)).toInt64)) &&& 1085102592571150095) + (((((((x0 - (((x0.toUInt64 >>> ((1 : Int32).toInt64.toUInt64 &&& Int64.toUInt64 63)).toInt64) &&& 6148914691236517205)) &&& 3689348814741910323) + ((((x0 - (((x0.toUInt64 >>> ((1 : Int32).toInt64.toUInt64 &&& Int64.toUInt64 63)).toInt64) &&& 6148914691236517205)).toUInt64 >>> ((2 : Int32).toInt64.toUInt64 &&& Int64.toUInt64 63)).toInt64) &&& 3689348814741910323)) + (((((x0 - (((x0.toUInt64 >>> ((1 : Int32).toInt64.toUInt64 &&& Int64.toUInt64 63)).toInt64) &&& 6148914691236517205)) &&& 3689348814741910323) + ((((x0 - (((x0.toUInt64 >>> ((1 : Int32).toInt64.toUInt64 &&& Int64.toUInt64 63)).toInt64) &&& 6148914691236517205)).toUInt64 >>> ((2 : Int32).toInt64.toUInt64 &&& Int64.toUInt64 63)).toInt64) &&& 3689348814741910323)).toUInt64 >>> ((4 : Int32).toInt64.toUInt64 &&& Int64.toUInt64 63)).toInt64)) &&& 1085102592571150095).toUInt64 >>> ((8 : Int32).toInt64.toUInt64 &&& Int64.toUInt64 63)).toInt64)) + ((((((((x0 - (((x0.toUInt64 >>> ((1 : Int32).toInt64.toUInt64 &&& Int64.toUInt64 63)).toInt64) &&& 6148914691236517205)) &&& 3689348814741910323) + ((((x0 - (((x0.toUInt64 >>> ((1 : Int32).toInt64.toUInt64 &&& Int64.toUInt64 63)).toInt64) &&& 6148914691236517205)).toUInt64 >>> ((2 : Int32).toInt64.toUInt64 &&& Int64.toUInt64 63)).toInt64) &&& 3689348814741910323)) + (((((x0 - (((x0.toUInt64 >>> ((1 : Int32).toInt64.toUInt64 &&& Int64.toUInt64 63)).toInt64) &&& 6148914691236517205)) &&& 3689348814741910323) + ((((x0 - (((x0.toUInt64 >>> ((1 : Int32).toInt64.toUInt64 &&& Int64.toUInt64 63)).toInt64) &&& 6148914691236517205)).toUInt64 >>> ((2 : Int32).toInt64.toUInt64 &&& Int64.toUInt64 63)).toInt64) &&& 3689348814741910323)).toUInt64 >>> ((4 : Int32).toInt64.toUInt64 &&& Int64.toUInt64 63)).toInt64)) &&& 1085102592571150095) + (((((((x0 - (((x0.toUInt64 >>> ((1 : Int32).toInt64.toUInt64 &&& Int64.toUInt64 63)).toInt64) &&& 6148914691236517205)) &&& 3689348814741910323) + ((((x0 - (((x0.toUInt64 >>> ((1 : Int32).toInt64.toUInt64 &&& Int64.toUInt64 63)).toInt64) &&& 6148914691236517205)).toUInt64 >>> ((2 : Int32).toInt64.toUInt64 &&& Int64.toUInt64 63)).toInt64) &&& 3689348814741910323)) + (((((x0 - (((x0.toUInt64 >>> ((1 : Int32).toInt64.toUInt64 &&& Int64.toUInt64 63)).toInt64) &&& 6148914691236517205)) &&& 3689348814741910323) + ((((x0 - (((x0.toUInt64 >>> ((1 : Int32).toInt64.toUInt64 &&& Int64.toUInt64 63)).toInt64) &&& 6148914691236517205)).toUInt64 >>> ((2 : Int32).toInt64.toUInt64 &&& Int64.toUInt64 63)).toInt64) &&& 3689348814741910323)).toUInt64 >>> ((4 : Int32).toInt64.toUInt64 &&& Int64.toUInt64 63)).toInt64)) &&& 1085102592571150095).toUInt64 >>> ((8 : Int32).toInt64.toUInt64 &&& Int64.toUInt64 63)).toInt64)).toUInt64 >>> ((16 : Int32).toInt64.toUInt64 &&& Int64.toUInt64 63)).toInt64)).toUInt64 >>> ((32 : Int32).toInt64.toUInt64 &&& Int64.toUInt64 63)).toInt64)))]) hx hb dJ13_bitCount_95d88_54 rfl hl (by decide) rfl (fun ls hl => ?_)
  refine lv_lload_n hx hb dJ13_bitCount_95d88_55 rfl (lv_at hl 0 rfl) ?_
  refine lv_l2i (v := ((((((((x0 - (((x0.toUInt64 >>> ((1 : Int32).toInt64.toUInt64 &&& Int64.toUInt64 63)).toInt64) &&& 6148914691236517205)) &&& 3689348814741910323) + ((((x0 - (((x0.toUInt64 >>> ((1 : Int32).toInt64.toUInt64 &&& Int64.toUInt64 63)).toInt64) &&& 6148914691236517205)).toUInt64 >>> ((2 : Int32).toInt64.toUInt64 &&& Int64.toUInt64 63)).toInt64) &&& 3689348814741910323)) + (((((x0 - (((x0.toUInt64 >>> ((1 : Int32).toInt64.toUInt64 &&& Int64.toUInt64 63)).toInt64) &&& 6148914691236517205)) &&& 3689348814741910323) + ((((x0 - (((x0.toUInt64 >>> ((1 : Int32).toInt64.toUInt64 &&& Int64.toUInt64 63)).toInt64) &&& 6148914691236517205)).toUInt64 >>> ((2 : Int32).toInt64.toUInt64 &&& Int64.toUInt64 63)).toInt64) &&& 3689348814741910323)).toUInt64 >>> ((4 : Int32).toInt64.toUInt64 &&& Int64.toUInt64 63)).toInt64)) &&& 1085102592571150095) + (((((((x0 - (((x0.toUInt64 >>> ((1 : Int32).toInt64.toUInt64 &&& Int64.toUInt64 63)).toInt64) &&& 6148914691236517205)) &&& 3689348814741910323) + ((((x0 - (((x0.toUInt64 >>> ((1 : Int32).toInt64.toUInt64 &&& Int64.toUInt64 63)).toInt64) &&& 6148914691236517205)).toUInt64 >>> ((2 : Int32).toInt64.toUInt64 &&& Int64.toUInt64 63)).toInt64) &&& 3689348814741910323)) + (((((x0 - (((x0.toUInt64 >>> ((1 : Int32).toInt64.toUInt64 &&& Int64.toUInt64 63)).toInt64) &&& 6148914691236517205)) &&& 3689348814741910323) + ((((x0 - (((x0.toUInt64 >>> ((1 : Int32).toInt64.toUInt64 &&& Int64.toUInt64 63)).toInt64) &&& 6148914691236517205)).toUInt64 >>> ((2 : Int32).toInt64.toUInt64 &&& Int64.toUInt64 63)).toInt64) &&& 3689348814741910323)).toUInt64 >>> ((4 : Int32).toInt64.toUInt64 &&& Int64.toUInt64 63)).toInt64)) &&& 1085102592571150095).toUInt64 >>> ((8 : Int32).toInt64.toUInt64 &&& Int64.toUInt64 63)).toInt64)) + ((((((((x0 - (((x0.toUInt64 >>> ((1 : Int32).toInt64.toUInt64 &&& Int64.toUInt64 63)).toInt64) &&& 6148914691236517205)) &&& 3689348814741910323) + ((((x0 - (((x0.toUInt64 >>> ((1 : Int32).toInt64.toUInt64 &&& Int64.toUInt64 63)).toInt64) &&& 6148914691236517205)).toUInt64 >>> ((2 : Int32).toInt64.toUInt64 &&& Int64.toUInt64 63)).toInt64) &&& 3689348814741910323)) + (((((x0 - (((x0.toUInt64 >>> ((1 : Int32).toInt64.toUInt64 &&& Int64.toUInt64 63)).toInt64) &&& 6148914691236517205)) &&& 3689348814741910323) + ((((x0 - (((x0.toUInt64 >>> ((1 : Int32).toInt64.toUInt64 &&& Int64.toUInt64 63)).toInt64) &&& 6148914691236517205)).toUInt64 >>> ((2 : Int32).toInt64.toUInt64 &&& Int64.toUInt64 63)).toInt64) &&& 3689348814741910323)).toUInt64 >>> ((4 : Int32).toInt64.toUInt64 &&& Int64.toUInt64 63)).toInt64)) &&& 1085102592571150095) + (((((((x0 - (((x0.toUInt64 >>> ((1 : Int32).toInt64.toUInt64 &&& Int64.toUInt64 63)).toInt64) &&& 6148914691236517205)) &&& 3689348814741910323) + ((((x0 - (((x0.toUInt64 >>> ((1 : Int32).toInt64.toUInt64 &&& Int64.toUInt64 63)).toInt64) &&& 6148914691236517205)).toUInt64 >>> ((2 : Int32).toInt64.toUInt64 &&& Int64.toUInt64 63)).toInt64) &&& 3689348814741910323)) + (((((x0 - (((x0.toUInt64 >>> ((1 : Int32).toInt64.toUInt64 &&& Int64.toUInt64 63)).toInt64) &&& 6148914691236517205)) &&& 3689348814741910323) + ((((x0 - (((x0.toUInt64 >>> ((1 : Int32).toInt64.toUInt64 &&& Int64.toUInt64 63)).toInt64) &&& 6148914691236517205)).toUInt64 >>> ((2 : Int32).toInt64.toUInt64 &&& Int64.toUInt64 63)).toInt64) &&& 3689348814741910323)).toUInt64 >>> ((4 : Int32).toInt64.toUInt64 &&& Int64.toUInt64 63)).toInt64)) &&& 1085102592571150095).toUInt64 >>> ((8 : Int32).toInt64.toUInt64 &&& Int64.toUInt64 63)).toInt64)).toUInt64 >>> ((16 : Int32).toInt64.toUInt64 &&& Int64.toUInt64 63)).toInt64)) + (((((((((x0 - (((x0.toUInt64 >>> ((1 : Int32).toInt64.toUInt64 &&& Int64.toUInt64 63)).toInt64) &&& 6148914691236517205)) &&& 3689348814741910323) + ((((x0 - (((x0.toUInt64 >>> ((1 : Int32).toInt64.toUInt64 &&& Int64.toUInt64 63)).toInt64) &&& 6148914691236517205)).toUInt64 >>> ((2 : Int32).toInt64.toUInt64 &&& Int64.toUInt64 63)).toInt64) &&& 3689348814741910323)) + (((((x0 - (((x0.toUInt64 >>> ((1 : Int32).toInt64.toUInt64 &&& Int64.toUInt64 63)).toInt64) &&& 6148914691236517205)) &&& 3689348814741910323) + ((((x0 - (((x0.toUInt64 >>> ((1 : Int32).toInt64.toUInt64 &&& Int64.toUInt64 63)).toInt64) &&& 6148914691236517205)).toUInt64 >>> ((2 : Int32).toInt64.toUInt64 &&& Int64.toUInt64 63)).toInt64) &&& 3689348814741910323)).toUInt64 >>> ((4 : Int32).toInt64.toUInt64 &&& Int64.toUInt64 63)).toInt64)) &&& 1085102592571150095) + (((((((x0 - (((x0.toUInt64 >>> ((1 : Int32).toInt64.toUInt64 &&& Int64.toUInt64 63)).toInt64) &&& 6148914691236517205)) &&& 3689348814741910323) + ((((x0 - (((x0.toUInt64 >>> ((1 : Int32).toInt64.toUInt64 &&& Int64.toUInt64 63)).toInt64) &&& 6148914691236517205)).toUInt64 >>> ((2 : Int32).toInt64.toUInt64 &&& Int64.toUInt64 63)).toInt64) &&& 3689348814741910323)) + (((((x0 - (((x0.toUInt64 >>> ((1 : Int32).toInt64.toUInt64 &&& Int64.toUInt64 63)).toInt64) &&& 6148914691236517205)) &&& 3689348814741910323) + ((((x0 - (((x0.toUInt64 >>> ((1 : Int32).toInt64.toUInt64 &&& Int64.toUInt64 63)).toInt64) &&& 6148914691236517205)).toUInt64 >>> ((2 : Int32).toInt64.toUInt64 &&& Int64.toUInt64 63)).toInt64) &&& 3689348814741910323)).toUInt64 >>> ((4 : Int32).toInt64.toUInt64 &&& Int64.toUInt64 63)).toInt64)) &&& 1085102592571150095).toUInt64 >>> ((8 : Int32).toInt64.toUInt64 &&& Int64.toUInt64 63)).toInt64)) + ((((((((x0 - (((x0.toUInt64 >>> ((1 : Int32).toInt64.toUInt64 &&& Int64.toUInt64 63)).toInt64) &&& 6148914691236517205)) &&& 3689348814741910323) + ((((x0 - (((x0.toUInt64 >>> ((1 : Int32).toInt64.toUInt64 &&& Int64.toUInt64 63)).toInt64) &&& 6148914691236517205)).toUInt64 >>> ((2 : Int32).toInt64.toUInt64 &&& Int64.toUInt64 63)).toInt64) &&& 3689348814741910323)) + (((((x0 - (((x0.toUInt64 >>> ((1 : Int32).toInt64.toUInt64 &&& Int64.toUInt64 63)).toInt64) &&& 6148914691236517205)) &&& 3689348814741910323) + ((((x0 - (((x0.toUInt64 >>> ((1 : Int32).toInt64.toUInt64 &&& Int64.toUInt64 63)).toInt64) &&& 6148914691236517205)).toUInt64 >>> ((2 : Int32).toInt64.toUInt64 &&& Int64.toUInt64 63)).toInt64) &&& 3689348814741910323)).toUInt64 >>> ((4 : Int32).toInt64.toUInt64 &&& Int64.toUInt64 63)).toInt64)) &&& 1085102592571150095) + (((((((x0 - (((x0.toUInt64 >>> ((1 : Int32).toInt64.toUInt64 &&& Int64.toUInt64 63)).toInt64) &&& 6148914691236517205)) &&& 3689348814741910323) + ((((x0 - (((x0.toUInt64 >>> ((1 : Int32).toInt64.toUInt64 &&& Int64.toUInt64 63)).toInt64) &&& 6148914691236517205)).toUInt64 >>> ((2 : Int32).toInt64.toUInt64 &&& Int64.toUInt64 63)).toInt64) &&& 3689348814741910323)) + (((((x0 - (((x0.toUInt64 >>> ((1 : Int32).toInt64.toUInt64 &&& Int64.toUInt64 63)).toInt64) &&& 6148914691236517205)) &&& 3689348814741910323) + ((((x0 - (((x0.toUInt64 >>> ((1 : Int32).toInt64.toUInt64 &&& Int64.toUInt64 63)).toInt64) &&& 6148914691236517205)).toUInt64 >>> ((2 : Int32).toInt64.toUInt64 &&& Int64.toUInt64 63)).toInt64) &&& 3689348814741910323)).toUInt64 >>> ((4 : Int32).toInt64.toUInt64 &&& Int64.toUInt64 63)).toInt64)) &&& 1085102592571150095).toUInt64 >>> ((8 : Int32).toInt64.toUInt64 &&& Int64.toUInt64 63)).toInt64)).toUInt64 >>> ((16 : Int32).toInt64.toUInt64 &&& Int64.toUInt64 63)).toInt64)).toUInt64 >>> ((32 : Int32).toInt64.toUInt64 &&& Int64.toUInt64 63)).toInt64)).toInt32) hx hb dJ13_bitCount_95d88_56 rfl ?_
  refine lv_bipush (v := 127) hx hb dJ13_bitCount_95d88_57 (by decide) ?_
  refine lv_iand hx hb dJ13_bitCount_95d88_59 ?_
  exact jr_iret hx hb hr hlocks dJ13_bitCount_95d88_60 (by simp only [j_J13_bitCount_95d88])

abbrev rX2_isCard : Room := { frames := 0, cells := 0, slots := 0, locals := 0 }
def j_X2_isCard (x0 : Int32) : Int32 := (if x0 < 0 then 0 else (if 42 ≤ x0 then 0 else 1))
set_option maxRecDepth 100000 in
set_option maxHeartbeats 4000000 in
theorem c_X2_isCard {l : Launch} {D : va_G} (x0 : Int32) : jR l yX2_isCard wsX2_isCard rX2_isCard D [.int x0] [] [] (.int (j_X2_isCard x0)) := by
  refine jR_of (cc := cX2_isCard) (maxL := 1) (ret := (some .boolean)) (by decide) rfl (Nat.le_of_ble_eq_true rfl) ?_
  intro p e s m below meth c ls S hr hlocks hP hK hN hl
  obtain ⟨hx, hb, hml, hown, hts⟩ := id S
  have hl : lv_has ls 1 [(0, .int x0)] := hl
  refine lv_iload_n hx hb dX2_isCard_0 rfl (lv_at hl 0 rfl) ?_
  refine lv_if_lt (tgt := 14) hx hb dX2_isCard_1 (by decide) (fun c_1 => ?_) (fun c_1 => ?_)
  · skip
    refine lv_iconst (v := 0) hx hb dX2_isCard_14 (by decide) ?_
    exact jr_zret hx hb hr hlocks dX2_isCard_15 rfl (by simp only [j_X2_isCard, if_pos c_1])
  · skip
    refine lv_iload_n hx hb dX2_isCard_4 rfl (lv_at hl 0 rfl) ?_
    refine lv_bipush (v := 42) hx hb dX2_isCard_5 (by decide) ?_
    refine lv_icmp_ge (tgt := 14) hx hb dX2_isCard_7 (by decide) (fun c_2 => ?_) (fun c_2 => ?_)
    · skip
      refine lv_iconst (v := 0) hx hb dX2_isCard_14 (by decide) ?_
      exact jr_zret hx hb hr hlocks dX2_isCard_15 rfl (by simp only [j_X2_isCard, if_neg c_1, if_pos c_2])
    · skip
      refine lv_iconst (v := 1) hx hb dX2_isCard_10 (by decide) ?_
      refine lv_goto (tgt := 15) hx hb dX2_isCard_11 (by decide) ?_
      exact jr_zret hx hb hr hlocks dX2_isCard_15 rfl (by simp only [j_X2_isCard, if_neg c_1, if_neg c_2])

abbrev rX2_isArchivist : Room := { frames := 0, cells := 0, slots := 0, locals := 0 }
def j_X2_isArchivist (x0 : Int32) : Int32 := (if x0 = 0 then 1 else (if x0 = 1 then 1 else 0))
set_option maxRecDepth 100000 in
set_option maxHeartbeats 4000000 in
theorem c_X2_isArchivist {l : Launch} {D : va_G} (x0 : Int32) : jR l yX2_isArchivist wsX2_isArchivist rX2_isArchivist D [.int x0] [] [] (.int (j_X2_isArchivist x0)) := by
  refine jR_of (cc := cX2_isArchivist) (maxL := 1) (ret := (some .boolean)) (by decide) rfl (Nat.le_of_ble_eq_true rfl) ?_
  intro p e s m below meth c ls S hr hlocks hP hK hN hl
  obtain ⟨hx, hb, hml, hown, hts⟩ := id S
  have hl : lv_has ls 1 [(0, .int x0)] := hl
  refine lv_iload_n hx hb dX2_isArchivist_0 rfl (lv_at hl 0 rfl) ?_
  refine lv_if_eq (tgt := 9) hx hb dX2_isArchivist_1 (by decide) (fun c_1 => ?_) (fun c_1 => ?_)
  · skip
    refine lv_iconst (v := 1) hx hb dX2_isArchivist_9 (by decide) ?_
    refine lv_goto (tgt := 14) hx hb dX2_isArchivist_10 (by decide) ?_
    exact jr_zret hx hb hr hlocks dX2_isArchivist_14 rfl (by simp only [j_X2_isArchivist, if_pos c_1])
  · skip
    refine lv_iload_n hx hb dX2_isArchivist_4 rfl (lv_at hl 0 rfl) ?_
    refine lv_iconst (v := 1) hx hb dX2_isArchivist_5 (by decide) ?_
    refine lv_icmp_ne (tgt := 13) hx hb dX2_isArchivist_6 (by decide) (fun c_2 => ?_) (fun c_2 => ?_)
    · skip
      refine lv_iconst (v := 0) hx hb dX2_isArchivist_13 (by decide) ?_
      exact jr_zret hx hb hr hlocks dX2_isArchivist_14 rfl (by simp only [j_X2_isArchivist, if_neg c_1, if_neg c_2])
    · skip
      refine lv_iconst (v := 1) hx hb dX2_isArchivist_9 (by decide) ?_
      refine lv_goto (tgt := 14) hx hb dX2_isArchivist_10 (by decide) ?_
      exact jr_zret hx hb hr hlocks dX2_isArchivist_14 rfl (by simp only [j_X2_isArchivist, if_neg c_1, if_pos c_2])

abbrev rX2_isMildew : Room := { frames := 0, cells := 0, slots := 0, locals := 0 }
def j_X2_isMildew (x0 : Int32) : Int32 := (if x0 < 40 then 0 else 1)
set_option maxRecDepth 100000 in
set_option maxHeartbeats 4000000 in
theorem c_X2_isMildew {l : Launch} {D : va_G} (x0 : Int32) : jR l yX2_isMildew wsX2_isMildew rX2_isMildew D [.int x0] [] [] (.int (j_X2_isMildew x0)) := by
  refine jR_of (cc := cX2_isMildew) (maxL := 1) (ret := (some .boolean)) (by decide) rfl (Nat.le_of_ble_eq_true rfl) ?_
  intro p e s m below meth c ls S hr hlocks hP hK hN hl
  obtain ⟨hx, hb, hml, hown, hts⟩ := id S
  have hl : lv_has ls 1 [(0, .int x0)] := hl
  refine lv_iload_n hx hb dX2_isMildew_0 rfl (lv_at hl 0 rfl) ?_
  refine lv_bipush (v := 40) hx hb dX2_isMildew_1 (by decide) ?_
  refine lv_icmp_lt (tgt := 10) hx hb dX2_isMildew_3 (by decide) (fun c_1 => ?_) (fun c_1 => ?_)
  · skip
    refine lv_iconst (v := 0) hx hb dX2_isMildew_10 (by decide) ?_
    exact jr_zret hx hb hr hlocks dX2_isMildew_11 rfl (by simp only [j_X2_isMildew, if_pos c_1])
  · skip
    refine lv_iconst (v := 1) hx hb dX2_isMildew_6 (by decide) ?_
    refine lv_goto (tgt := 11) hx hb dX2_isMildew_7 (by decide) ?_
    exact jr_zret hx hb hr hlocks dX2_isMildew_11 rfl (by simp only [j_X2_isMildew, if_neg c_1])

abbrev rX2_bit : Room := { frames := 0, cells := 0, slots := 0, locals := 0 }
def j_X2_bit (x0 : Int32) : Int64 := 1 <<< (x0.toInt64 &&& 63)
set_option maxRecDepth 100000 in
set_option maxHeartbeats 4000000 in
theorem c_X2_bit {l : Launch} {D : va_G} (x0 : Int32) : jR l yX2_bit wsX2_bit rX2_bit D [.int x0] [] [] (.long (j_X2_bit x0)) := by
  refine jR_of (cc := cX2_bit) (maxL := 1) (ret := (some .long)) (by decide) rfl (Nat.le_of_ble_eq_true rfl) ?_
  intro p e s m below meth c ls S hr hlocks hP hK hN hl
  obtain ⟨hx, hb, hml, hown, hts⟩ := id S
  have hl : lv_has ls 1 [(0, .int x0)] := hl
  refine lv_lconst (v := 1) hx hb dX2_bit_0 (by decide) ?_
  refine lv_iload_n hx hb dX2_bit_1 rfl (lv_at hl 0 rfl) ?_
  refine lv_lshl (v := 1 <<< (x0.toInt64 &&& 63)) hx hb dX2_bit_2 rfl ?_
  exact jr_lret hx hb hr hlocks dX2_bit_3 (by simp only [j_X2_bit])

abbrev rX2_has : Room := { frames := 1, cells := 0, slots := 0, locals := 20 }
def j_X2_has (x0 : Int64) (x1 : Int32) : Int32 := (if lg_cmp (x0 &&& (j_X2_bit x1)) 0 = 0 then 0 else 1)
set_option maxRecDepth 100000 in
set_option maxHeartbeats 4000000 in
theorem c_X2_has {l : Launch} {D : va_G} (x0 : Int64) (x1 : Int32) : jR l yX2_has wsX2_has rX2_has D [.long x0, .int x1] [] [] (.int (j_X2_has x0 x1)) := by
  refine jR_of (cc := cX2_has) (maxL := 3) (ret := (some .boolean)) (by decide) rfl (Nat.le_of_ble_eq_true rfl) ?_
  intro p e s m below meth c ls S hr hlocks hP hK hN hl
  obtain ⟨hx, hb, hml, hown, hts⟩ := id S
  have hl : lv_has ls 3 [(0, .long x0), (2, .int x1)] := hl
  refine lv_lload_n hx hb dX2_has_0 rfl (lv_at hl 0 rfl) ?_
  refine lv_iload_n hx hb dX2_has_1 rfl (lv_at hl 1 rfl) ?_
  refine jr_callS (n := 1) (As := [.int x1]) (rest := [.long x0]) S (c_X2_bit x1) gX2_has_X2_bit rfl (by decide +kernel) rfl ⟨⟨rfl, rfl⟩, ⟨Nat.le_of_ble_eq_true rfl, Nat.le_of_ble_eq_true rfl⟩, Nat.le_of_ble_eq_true rfl, Nat.le_of_ble_eq_true rfl⟩ hP hK hN [] [] rfl rfl (lv_nil hl) rfl (Nat.le_of_ble_eq_true rfl) dX2_has_2 ?_
  refine lv_land hx hb dX2_has_5 ?_
  refine lv_lconst (v := 0) hx hb dX2_has_6 (by decide) ?_
  refine W.lcmp hx hb dX2_has_7 ?_
  refine lv_if_eq (tgt := 15) hx hb dX2_has_8 (by decide) (fun c_1 => ?_) (fun c_1 => ?_)
  · skip
    refine lv_iconst (v := 0) hx hb dX2_has_15 (by decide) ?_
    exact jr_zret hx hb hr hlocks dX2_has_16 rfl (by simp only [j_X2_has, if_pos c_1])
  · skip
    refine lv_iconst (v := 1) hx hb dX2_has_11 (by decide) ?_
    refine lv_goto (tgt := 16) hx hb dX2_has_12 (by decide) ?_
    exact jr_zret hx hb hr hlocks dX2_has_16 rfl (by simp only [j_X2_has, if_neg c_1])

abbrev rX2_allOf : Room := { frames := 0, cells := 0, slots := 0, locals := 0 }
def j_X2_allOf (x0 : Int32) : Int64 := 1023 <<< ((x0 * 10).toInt64 &&& 63)
set_option maxRecDepth 100000 in
set_option maxHeartbeats 4000000 in
theorem c_X2_allOf {l : Launch} {D : va_G} (x0 : Int32) : jR l yX2_allOf wsX2_allOf rX2_allOf D [.int x0] [] [] (.long (j_X2_allOf x0)) := by
  refine jR_of (cc := cX2_allOf) (maxL := 1) (ret := (some .long)) (by decide) rfl (Nat.le_of_ble_eq_true rfl) ?_
  intro p e s m below meth c ls S hr hlocks hP hK hN hl
  obtain ⟨hx, hb, hml, hown, hts⟩ := id S
  have hl : lv_has ls 1 [(0, .int x0)] := hl
  refine lv_ldc2 (v := 1023) hx hb hown (hts (.constantLong RX2 214 (1023)) (by decide +kernel)) dX2_allOf_0 ?_
  refine lv_iload_n hx hb dX2_allOf_3 rfl (lv_at hl 0 rfl) ?_
  refine lv_bipush (v := 10) hx hb dX2_allOf_4 (by decide) ?_
  refine lv_imul hx hb dX2_allOf_6 ?_
  refine lv_lshl (v := 1023 <<< ((x0 * 10).toInt64 &&& 63)) hx hb dX2_allOf_7 rfl ?_
  exact jr_lret hx hb hr hlocks dX2_allOf_8 (by simp only [j_X2_allOf])

abbrev rX2_worth : Room := { frames := 1, cells := 0, slots := 0, locals := 20 }
def j_X2_worth (x0 : Int32) (x1 : Int32) : Int32 := (if j_X2_isMildew x0 = 0 then 10 - (x0 - x0 / 10 * 10) else (if x1 = 0 then (-5) else 0))
set_option maxRecDepth 100000 in
set_option maxHeartbeats 4000000 in
theorem c_X2_worth {l : Launch} {D : va_G} (x0 : Int32) (x1 : Int32) : jR l yX2_worth wsX2_worth rX2_worth D [.int x0, .int x1] [] [] (.int (j_X2_worth x0 x1)) := by
  refine jR_of (cc := cX2_worth) (maxL := 2) (ret := (some .int)) (by decide) rfl (Nat.le_of_ble_eq_true rfl) ?_
  intro p e s m below meth c ls S hr hlocks hP hK hN hl
  obtain ⟨hx, hb, hml, hown, hts⟩ := id S
  have hl : lv_has ls 2 [(0, .int x0), (1, .int x1)] := hl
  refine lv_iload_n hx hb dX2_worth_0 rfl (lv_at hl 0 rfl) ?_
  refine jr_callS (n := 1) (As := [.int x0]) (rest := []) S (c_X2_isMildew x0) gX2_worth_X2_isMildew rfl (by decide +kernel) rfl ⟨⟨rfl, rfl⟩, ⟨Nat.le_of_ble_eq_true rfl, Nat.le_of_ble_eq_true rfl⟩, Nat.le_of_ble_eq_true rfl, Nat.le_of_ble_eq_true rfl⟩ hP hK hN [] [] rfl rfl (lv_nil hl) rfl (Nat.le_of_ble_eq_true rfl) dX2_worth_1 ?_
  refine lv_if_eq (tgt := 18) hx hb dX2_worth_4 (by decide) (fun c_1 => ?_) (fun c_1 => ?_)
  · skip
    refine lv_bipush (v := 10) hx hb dX2_worth_18 (by decide) ?_
    refine lv_iload_n hx hb dX2_worth_20 rfl (lv_at hl 0 rfl) ?_
    refine lv_bipush (v := 10) hx hb dX2_worth_21 (by decide) ?_
    refine lv_irem hx hb dX2_worth_23 (by decide) ?_
    refine lv_isub hx hb dX2_worth_24 ?_
    exact jr_iret hx hb hr hlocks dX2_worth_25 (by simp only [j_X2_worth, if_pos c_1])
  · skip
    refine lv_iload_n hx hb dX2_worth_7 rfl (lv_at hl 1 rfl) ?_
    refine lv_if_eq (tgt := 15) hx hb dX2_worth_8 (by decide) (fun c_2 => ?_) (fun c_2 => ?_)
    · skip
      refine lv_bipush (v := (-5)) hx hb dX2_worth_15 (by decide) ?_
      exact jr_iret hx hb hr hlocks dX2_worth_17 (by simp only [j_X2_worth, if_neg c_1, if_pos c_2])
    · skip
      refine lv_iconst (v := 0) hx hb dX2_worth_11 (by decide) ?_
      refine lv_goto (tgt := 17) hx hb dX2_worth_12 (by decide) ?_
      exact jr_iret hx hb hr hlocks dX2_worth_17 (by simp only [j_X2_worth, if_neg c_1, if_neg c_2])

abbrev rX2_beats : Room := { frames := 1, cells := 0, slots := 0, locals := 20 }
def j_X2_beats (x0 : Int32) (x1 : Int32) (x2 : Int32) : Int32 := (if j_X2_isMildew x0 = 0 then (if j_X2_isMildew x1 = 0 then (if x0 / 10 = x1 / 10 then (if x1 ≤ x0 then 0 else 1) else (if x0 / 10 = x2 then 1 else 0)) else 1) else 0)
set_option maxRecDepth 100000 in
set_option maxHeartbeats 4000000 in
theorem c_X2_beats {l : Launch} {D : va_G} (x0 : Int32) (x1 : Int32) (x2 : Int32) : jR l yX2_beats wsX2_beats rX2_beats D [.int x0, .int x1, .int x2] [] [] (.int (j_X2_beats x0 x1 x2)) := by
  refine jR_of (cc := cX2_beats) (maxL := 3) (ret := (some .boolean)) (by decide) rfl (Nat.le_of_ble_eq_true rfl) ?_
  intro p e s m below meth c ls S hr hlocks hP hK hN hl
  obtain ⟨hx, hb, hml, hown, hts⟩ := id S
  have hl : lv_has ls 3 [(0, .int x0), (1, .int x1), (2, .int x2)] := hl
  refine lv_iload_n hx hb dX2_beats_0 rfl (lv_at hl 0 rfl) ?_
  refine jr_callS (n := 1) (As := [.int x0]) (rest := []) S (c_X2_isMildew x0) gX2_beats_X2_isMildew rfl (by decide +kernel) rfl ⟨⟨rfl, rfl⟩, ⟨Nat.le_of_ble_eq_true rfl, Nat.le_of_ble_eq_true rfl⟩, Nat.le_of_ble_eq_true rfl, Nat.le_of_ble_eq_true rfl⟩ hP hK hN [] [] rfl rfl (lv_nil hl) rfl (Nat.le_of_ble_eq_true rfl) dX2_beats_1 ?_
  refine lv_if_eq (tgt := 9) hx hb dX2_beats_4 (by decide) (fun c_1 => ?_) (fun c_1 => ?_)
  · skip
    refine lv_iload_n hx hb dX2_beats_9 rfl (lv_at hl 1 rfl) ?_
    refine jr_callS (n := 1) (As := [.int x1]) (rest := []) S (c_X2_isMildew x1) gX2_beats_X2_isMildew rfl (by decide +kernel) rfl ⟨⟨rfl, rfl⟩, ⟨Nat.le_of_ble_eq_true rfl, Nat.le_of_ble_eq_true rfl⟩, Nat.le_of_ble_eq_true rfl, Nat.le_of_ble_eq_true rfl⟩ hP hK hN [] [] rfl rfl (lv_nil hl) rfl (Nat.le_of_ble_eq_true rfl) dX2_beats_10 ?_
    refine lv_if_eq (tgt := 18) hx hb dX2_beats_13 (by decide) (fun c_2 => ?_) (fun c_2 => ?_)
    · skip
      refine lv_iload_n hx hb dX2_beats_18 rfl (lv_at hl 0 rfl) ?_
      refine lv_bipush (v := 10) hx hb dX2_beats_19 (by decide) ?_
      refine lv_idiv hx hb dX2_beats_21 (by decide) ?_
      refine lv_iload_n hx hb dX2_beats_22 rfl (lv_at hl 1 rfl) ?_
      refine lv_bipush (v := 10) hx hb dX2_beats_23 (by decide) ?_
      refine lv_idiv hx hb dX2_beats_25 (by decide) ?_
      refine lv_icmp_ne (tgt := 40) hx hb dX2_beats_26 (by decide) (fun c_3 => ?_) (fun c_3 => ?_)
      · skip
        refine lv_iload_n hx hb dX2_beats_40 rfl (lv_at hl 0 rfl) ?_
        refine lv_bipush (v := 10) hx hb dX2_beats_41 (by decide) ?_
        refine lv_idiv hx hb dX2_beats_43 (by decide) ?_
        refine lv_iload_n hx hb dX2_beats_44 rfl (lv_at hl 2 rfl) ?_
        refine lv_icmp_ne (tgt := 52) hx hb dX2_beats_45 (by decide) (fun c_4 => ?_) (fun c_4 => ?_)
        · skip
          refine lv_iconst (v := 0) hx hb dX2_beats_52 (by decide) ?_
          exact jr_zret hx hb hr hlocks dX2_beats_53 rfl (by simp only [j_X2_beats, if_pos c_1, if_pos c_2, if_neg c_3, if_neg c_4])
        · skip
          refine lv_iconst (v := 1) hx hb dX2_beats_48 (by decide) ?_
          refine lv_goto (tgt := 53) hx hb dX2_beats_49 (by decide) ?_
          exact jr_zret hx hb hr hlocks dX2_beats_53 rfl (by simp only [j_X2_beats, if_pos c_1, if_pos c_2, if_neg c_3, if_pos c_4])
      · skip
        refine lv_iload_n hx hb dX2_beats_29 rfl (lv_at hl 0 rfl) ?_
        refine lv_iload_n hx hb dX2_beats_30 rfl (lv_at hl 1 rfl) ?_
        refine lv_icmp_ge (tgt := 38) hx hb dX2_beats_31 (by decide) (fun c_5 => ?_) (fun c_5 => ?_)
        · skip
          refine lv_iconst (v := 0) hx hb dX2_beats_38 (by decide) ?_
          exact jr_zret hx hb hr hlocks dX2_beats_39 rfl (by simp only [j_X2_beats, if_pos c_1, if_pos c_2, if_pos c_3, if_pos c_5])
        · skip
          refine lv_iconst (v := 1) hx hb dX2_beats_34 (by decide) ?_
          refine lv_goto (tgt := 39) hx hb dX2_beats_35 (by decide) ?_
          exact jr_zret hx hb hr hlocks dX2_beats_39 rfl (by simp only [j_X2_beats, if_pos c_1, if_pos c_2, if_pos c_3, if_neg c_5])
    · skip
      refine lv_iconst (v := 1) hx hb dX2_beats_16 (by decide) ?_
      exact jr_zret hx hb hr hlocks dX2_beats_17 rfl (by simp only [j_X2_beats, if_pos c_1, if_neg c_2])
  · skip
    refine lv_iconst (v := 0) hx hb dX2_beats_7 (by decide) ?_
    exact jr_zret hx hb hr hlocks dX2_beats_8 rfl (by simp only [j_X2_beats, if_neg c_1])

abbrev rX2_reasonAgainstLeading : Room := { frames := 1, cells := 0, slots := 0, locals := 20 }
def j_X2_reasonAgainstLeading (x0 : Int64) (x1 : Int32) : Int32 := (if j_X2_isMildew x1 = 0 then 0 else (if lg_cmp (x0 &&& 1099511627775) 0 = 0 then 0 else 3))
set_option maxRecDepth 100000 in
set_option maxHeartbeats 4000000 in
theorem c_X2_reasonAgainstLeading {l : Launch} {D : va_G} (x0 : Int64) (x1 : Int32) : jR l yX2_reasonAgainstLeading wsX2_reasonAgainstLeading rX2_reasonAgainstLeading D [.long x0, .int x1] [] [] (.int (j_X2_reasonAgainstLeading x0 x1)) := by
  refine jR_of (cc := cX2_reasonAgainstLeading) (maxL := 3) (ret := (some .int)) (by decide) rfl (Nat.le_of_ble_eq_true rfl) ?_
  intro p e s m below meth c ls S hr hlocks hP hK hN hl
  obtain ⟨hx, hb, hml, hown, hts⟩ := id S
  have hl : lv_has ls 3 [(0, .long x0), (2, .int x1)] := hl
  refine lv_iload_n hx hb dX2_reasonAgainstLeading_0 rfl (lv_at hl 1 rfl) ?_
  refine jr_callS (n := 1) (As := [.int x1]) (rest := []) S (c_X2_isMildew x1) gX2_reasonAgainstLeading_X2_isMildew rfl (by decide +kernel) rfl ⟨⟨rfl, rfl⟩, ⟨Nat.le_of_ble_eq_true rfl, Nat.le_of_ble_eq_true rfl⟩, Nat.le_of_ble_eq_true rfl, Nat.le_of_ble_eq_true rfl⟩ hP hK hN [] [] rfl rfl (lv_nil hl) rfl (Nat.le_of_ble_eq_true rfl) dX2_reasonAgainstLeading_1 ?_
  refine lv_if_eq (tgt := 21) hx hb dX2_reasonAgainstLeading_4 (by decide) (fun c_1 => ?_) (fun c_1 => ?_)
  · skip
    refine lv_iconst (v := 0) hx hb dX2_reasonAgainstLeading_21 (by decide) ?_
    exact jr_iret hx hb hr hlocks dX2_reasonAgainstLeading_22 (by simp only [j_X2_reasonAgainstLeading, if_pos c_1])
  · skip
    refine lv_lload_n hx hb dX2_reasonAgainstLeading_7 rfl (lv_at hl 0 rfl) ?_
    refine lv_ldc2 (v := 1099511627775) hx hb hown (hts (.constantLong RX2 216 (1099511627775)) (by decide +kernel)) dX2_reasonAgainstLeading_8 ?_
    refine lv_land hx hb dX2_reasonAgainstLeading_11 ?_
    refine lv_lconst (v := 0) hx hb dX2_reasonAgainstLeading_12 (by decide) ?_
    refine W.lcmp hx hb dX2_reasonAgainstLeading_13 ?_
    refine lv_if_eq (tgt := 21) hx hb dX2_reasonAgainstLeading_14 (by decide) (fun c_2 => ?_) (fun c_2 => ?_)
    · skip
      refine lv_iconst (v := 0) hx hb dX2_reasonAgainstLeading_21 (by decide) ?_
      exact jr_iret hx hb hr hlocks dX2_reasonAgainstLeading_22 (by simp only [j_X2_reasonAgainstLeading, if_neg c_1, if_pos c_2])
    · skip
      refine lv_iconst (v := 3) hx hb dX2_reasonAgainstLeading_17 (by decide) ?_
      refine lv_goto (tgt := 22) hx hb dX2_reasonAgainstLeading_18 (by decide) ?_
      exact jr_iret hx hb hr hlocks dX2_reasonAgainstLeading_22 (by simp only [j_X2_reasonAgainstLeading, if_neg c_1, if_neg c_2])

abbrev rX2_reasonAgainstReplying : Room := { frames := 2, cells := 0, slots := 0, locals := 42 }
def j_X2_reasonAgainstReplying (x0 : Int64) (x1 : Int32) (x2 : Int32) (x3 : Int32) : Int32 := (if j_X2_isMildew x2 = 0 then (if lg_cmp (x0 &&& (j_X2_allOf (x2 / 10))) 0 = 0 then (if lg_cmp (x0 &&& (j_X2_allOf x3)) 0 = 0 then 0 else (if j_X2_has (x0 &&& (j_X2_allOf x3)) x1 = 0 then 5 else 0)) else (if j_X2_has (x0 &&& (j_X2_allOf (x2 / 10))) x1 = 0 then 4 else 0)) else 0)
set_option maxRecDepth 100000 in
set_option maxHeartbeats 4000000 in
theorem c_X2_reasonAgainstReplying {l : Launch} {D : va_G} (x0 : Int64) (x1 : Int32) (x2 : Int32) (x3 : Int32) : jR l yX2_reasonAgainstReplying wsX2_reasonAgainstReplying rX2_reasonAgainstReplying D [.long x0, .int x1, .int x2, .int x3] [] [] (.int (j_X2_reasonAgainstReplying x0 x1 x2 x3)) := by
  refine jR_of (cc := cX2_reasonAgainstReplying) (maxL := 9) (ret := (some .int)) (by decide) rfl (Nat.le_of_ble_eq_true rfl) ?_
  intro p e s m below meth c ls S hr hlocks hP hK hN hl
  obtain ⟨hx, hb, hml, hown, hts⟩ := id S
  have hl : lv_has ls 9 [(0, .long x0), (2, .int x1), (3, .int x2), (4, .int x3)] := hl
  refine lv_iload_n hx hb dX2_reasonAgainstReplying_0 rfl (lv_at hl 2 rfl) ?_
  refine jr_callS (n := 1) (As := [.int x2]) (rest := []) S (c_X2_isMildew x2) gX2_reasonAgainstReplying_X2_isMildew rfl (by decide +kernel) rfl ⟨⟨rfl, rfl⟩, ⟨Nat.le_of_ble_eq_true rfl, Nat.le_of_ble_eq_true rfl⟩, Nat.le_of_ble_eq_true rfl, Nat.le_of_ble_eq_true rfl⟩ hP hK hN [] [] rfl rfl (lv_nil hl) rfl (Nat.le_of_ble_eq_true rfl) dX2_reasonAgainstReplying_1 ?_
  refine lv_if_eq (tgt := 9) hx hb dX2_reasonAgainstReplying_4 (by decide) (fun c_1 => ?_) (fun c_1 => ?_)
  · skip
    refine lv_lload_n hx hb dX2_reasonAgainstReplying_9 rfl (lv_at hl 0 rfl) ?_
    refine lv_iload_n hx hb dX2_reasonAgainstReplying_10 rfl (lv_at hl 2 rfl) ?_
    refine lv_bipush (v := 10) hx hb dX2_reasonAgainstReplying_11 (by decide) ?_
    refine lv_idiv hx hb dX2_reasonAgainstReplying_13 (by decide) ?_
    refine jr_callS (n := 1) (As := [.int (x2 / 10)]) (rest := [.long x0]) S (c_X2_allOf (x2 / 10)) gX2_reasonAgainstReplying_X2_allOf rfl (by decide +kernel) rfl ⟨⟨rfl, rfl⟩, ⟨Nat.le_of_ble_eq_true rfl, Nat.le_of_ble_eq_true rfl⟩, Nat.le_of_ble_eq_true rfl, Nat.le_of_ble_eq_true rfl⟩ hP hK hN [] [] rfl rfl (lv_nil hl) rfl (Nat.le_of_ble_eq_true rfl) dX2_reasonAgainstReplying_14 ?_
    refine lv_land hx hb dX2_reasonAgainstReplying_17 ?_
    refine lv_lstore (lv' := [(5, .long (x0 &&& (j_X2_allOf (x2 / 10)))), (0, .long x0), (2, .int x1), (3, .int x2), (4, .int x3)]) hx hb dX2_reasonAgainstReplying_18 hl (by decide) rfl (fun ls hl => ?_)
    refine lv_lload hx hb dX2_reasonAgainstReplying_20 (lv_at hl 0 rfl) ?_
    refine lv_lconst (v := 0) hx hb dX2_reasonAgainstReplying_22 (by decide) ?_
    refine W.lcmp hx hb dX2_reasonAgainstReplying_23 ?_
    refine lv_if_eq (tgt := 42) hx hb dX2_reasonAgainstReplying_24 (by decide) (fun c_2 => ?_) (fun c_2 => ?_)
    · skip
      refine lv_lload_n hx hb dX2_reasonAgainstReplying_42 rfl (lv_at hl 1 rfl) ?_
      refine lv_iload hx hb dX2_reasonAgainstReplying_43 (lv_at hl 4 rfl) ?_
      refine jr_callS (n := 1) (As := [.int x3]) (rest := [.long x0]) S (c_X2_allOf x3) gX2_reasonAgainstReplying_X2_allOf rfl (by decide +kernel) rfl ⟨⟨rfl, rfl⟩, ⟨Nat.le_of_ble_eq_true rfl, Nat.le_of_ble_eq_true rfl⟩, Nat.le_of_ble_eq_true rfl, Nat.le_of_ble_eq_true rfl⟩ hP hK hN [] [] rfl rfl (lv_nil hl) rfl (Nat.le_of_ble_eq_true rfl) dX2_reasonAgainstReplying_45 ?_
      refine lv_land hx hb dX2_reasonAgainstReplying_48 ?_
      refine lv_lstore (lv' := [(7, .long (x0 &&& (j_X2_allOf x3))), (5, .long (x0 &&& (j_X2_allOf (x2 / 10)))), (0, .long x0), (2, .int x1), (3, .int x2), (4, .int x3)]) hx hb dX2_reasonAgainstReplying_49 hl (by decide) rfl (fun ls hl => ?_)
      refine lv_lload hx hb dX2_reasonAgainstReplying_51 (lv_at hl 0 rfl) ?_
      refine lv_lconst (v := 0) hx hb dX2_reasonAgainstReplying_53 (by decide) ?_
      refine W.lcmp hx hb dX2_reasonAgainstReplying_54 ?_
      refine lv_if_eq (tgt := 73) hx hb dX2_reasonAgainstReplying_55 (by decide) (fun c_3 => ?_) (fun c_3 => ?_)
      · skip
        refine lv_iconst (v := 0) hx hb dX2_reasonAgainstReplying_73 (by decide) ?_
        exact jr_iret hx hb hr hlocks dX2_reasonAgainstReplying_74 (by simp only [j_X2_reasonAgainstReplying, if_pos c_1, if_pos c_2, if_pos c_3])
      · skip
        refine lv_lload hx hb dX2_reasonAgainstReplying_58 (lv_at hl 0 rfl) ?_
        refine lv_iload_n hx hb dX2_reasonAgainstReplying_60 rfl (lv_at hl 3 rfl) ?_
        refine jr_callS (n := 2) (As := [.long (x0 &&& (j_X2_allOf x3)), .int x1]) (rest := []) S (c_X2_has (x0 &&& (j_X2_allOf x3)) x1) gX2_reasonAgainstReplying_X2_has rfl (by decide +kernel) rfl ⟨⟨rfl, rfl⟩, ⟨Nat.le_of_ble_eq_true rfl, Nat.le_of_ble_eq_true rfl⟩, Nat.le_of_ble_eq_true rfl, Nat.le_of_ble_eq_true rfl⟩ hP hK hN [] [] rfl rfl (lv_nil hl) rfl (Nat.le_of_ble_eq_true rfl) dX2_reasonAgainstReplying_61 ?_
        refine lv_if_eq (tgt := 71) hx hb dX2_reasonAgainstReplying_64 (by decide) (fun c_4 => ?_) (fun c_4 => ?_)
        · skip
          refine lv_iconst (v := 5) hx hb dX2_reasonAgainstReplying_71 (by decide) ?_
          exact jr_iret hx hb hr hlocks dX2_reasonAgainstReplying_72 (by simp only [j_X2_reasonAgainstReplying, if_pos c_1, if_pos c_2, if_neg c_3, if_pos c_4])
        · skip
          refine lv_iconst (v := 0) hx hb dX2_reasonAgainstReplying_67 (by decide) ?_
          refine lv_goto (tgt := 72) hx hb dX2_reasonAgainstReplying_68 (by decide) ?_
          exact jr_iret hx hb hr hlocks dX2_reasonAgainstReplying_72 (by simp only [j_X2_reasonAgainstReplying, if_pos c_1, if_pos c_2, if_neg c_3, if_neg c_4])
    · skip
      refine lv_lload hx hb dX2_reasonAgainstReplying_27 (lv_at hl 0 rfl) ?_
      refine lv_iload_n hx hb dX2_reasonAgainstReplying_29 rfl (lv_at hl 2 rfl) ?_
      refine jr_callS (n := 2) (As := [.long (x0 &&& (j_X2_allOf (x2 / 10))), .int x1]) (rest := []) S (c_X2_has (x0 &&& (j_X2_allOf (x2 / 10))) x1) gX2_reasonAgainstReplying_X2_has rfl (by decide +kernel) rfl ⟨⟨rfl, rfl⟩, ⟨Nat.le_of_ble_eq_true rfl, Nat.le_of_ble_eq_true rfl⟩, Nat.le_of_ble_eq_true rfl, Nat.le_of_ble_eq_true rfl⟩ hP hK hN [] [] rfl rfl (lv_nil hl) rfl (Nat.le_of_ble_eq_true rfl) dX2_reasonAgainstReplying_30 ?_
      refine lv_if_eq (tgt := 40) hx hb dX2_reasonAgainstReplying_33 (by decide) (fun c_5 => ?_) (fun c_5 => ?_)
      · skip
        refine lv_iconst (v := 4) hx hb dX2_reasonAgainstReplying_40 (by decide) ?_
        exact jr_iret hx hb hr hlocks dX2_reasonAgainstReplying_41 (by simp only [j_X2_reasonAgainstReplying, if_pos c_1, if_neg c_2, if_pos c_5])
      · skip
        refine lv_iconst (v := 0) hx hb dX2_reasonAgainstReplying_36 (by decide) ?_
        refine lv_goto (tgt := 41) hx hb dX2_reasonAgainstReplying_37 (by decide) ?_
        exact jr_iret hx hb hr hlocks dX2_reasonAgainstReplying_41 (by simp only [j_X2_reasonAgainstReplying, if_pos c_1, if_neg c_2, if_neg c_5])
  · skip
    refine lv_iconst (v := 0) hx hb dX2_reasonAgainstReplying_7 (by decide) ?_
    exact jr_iret hx hb hr hlocks dX2_reasonAgainstReplying_8 (by simp only [j_X2_reasonAgainstReplying, if_neg c_1])

abbrev rX1_trickWorth : Room := { frames := 2, cells := 0, slots := 0, locals := 41 }
def j_X1_trickWorth (x0 : Int32) (x1 : Int32) (x2 : Int32) (x3 : Int32) : Int32 := (if (x3 >>> (x2 &&& 31)) &&& 1 = 0 then (j_X2_worth x0 0) + (j_X2_worth x1 0) else (j_X2_worth x0 1) + (j_X2_worth x1 1))
set_option maxRecDepth 100000 in
set_option maxHeartbeats 4000000 in
theorem c_X1_trickWorth {l : Launch} {D : va_G} (x0 : Int32) (x1 : Int32) (x2 : Int32) (x3 : Int32) : jR l yX1_trickWorth wsX1_trickWorth rX1_trickWorth D [.int x0, .int x1, .int x2, .int x3] [] [] (.int (j_X1_trickWorth x0 x1 x2 x3)) := by
  refine jR_of (cc := cX1_trickWorth) (maxL := 5) (ret := (some .int)) (by decide) rfl (Nat.le_of_ble_eq_true rfl) ?_
  intro p e s m below meth c ls S hr hlocks hP hK hN hl
  obtain ⟨hx, hb, hml, hown, hts⟩ := id S
  have hl : lv_has ls 5 [(0, .int x0), (1, .int x1), (2, .int x2), (3, .int x3)] := hl
  refine lv_iload_n hx hb dX1_trickWorth_0 rfl (lv_at hl 3 rfl) ?_
  refine lv_iload_n hx hb dX1_trickWorth_1 rfl (lv_at hl 2 rfl) ?_
  refine lv_ishr hx hb dX1_trickWorth_2 ?_
  refine lv_iconst (v := 1) hx hb dX1_trickWorth_3 (by decide) ?_
  refine lv_iand hx hb dX1_trickWorth_4 ?_
  refine lv_if_eq (tgt := 12) hx hb dX1_trickWorth_5 (by decide) (fun c_1 => ?_) (fun c_1 => ?_)
  · skip
    refine lv_iconst (v := 0) hx hb dX1_trickWorth_12 (by decide) ?_
    refine lv_istore (lv' := [(4, .int 0), (0, .int x0), (1, .int x1), (2, .int x2), (3, .int x3)]) hx hb dX1_trickWorth_13 hl (by decide) rfl (fun ls hl => ?_)
    refine lv_iload_n hx hb dX1_trickWorth_15 rfl (lv_at hl 1 rfl) ?_
    refine lv_iload hx hb dX1_trickWorth_16 (lv_at hl 0 rfl) ?_
    refine jr_callSN (n := 2) (As := [.int x0, .int 0]) (rest := []) S (c_X2_worth x0 0) gX1_trickWorth_X2_worth_n88 rfl hN.2.2.2.2.2.1 (hts (.initialized RX2) (by decide +kernel)) (hts (.static yX2_worth) (by decide +kernel)) (by decide +kernel) rfl ⟨⟨rfl, rfl⟩, ⟨Nat.le_of_ble_eq_true rfl, Nat.le_of_ble_eq_true rfl⟩, Nat.le_of_ble_eq_true rfl, Nat.le_of_ble_eq_true rfl⟩ hP hK hN [] [] rfl rfl (lv_nil hl) rfl (Nat.le_of_ble_eq_true rfl) dX1_trickWorth_18 ?_
    refine lv_iload_n hx hb dX1_trickWorth_21 rfl (lv_at hl 2 rfl) ?_
    refine lv_iload hx hb dX1_trickWorth_22 (lv_at hl 0 rfl) ?_
    refine jr_callSN (n := 2) (As := [.int x1, .int 0]) (rest := [.int (j_X2_worth x0 0)]) S (c_X2_worth x1 0) gX1_trickWorth_X2_worth_n88 rfl hN.2.2.2.2.2.1 (hts (.initialized RX2) (by decide +kernel)) (hts (.static yX2_worth) (by decide +kernel)) (by decide +kernel) rfl ⟨⟨rfl, rfl⟩, ⟨Nat.le_of_ble_eq_true rfl, Nat.le_of_ble_eq_true rfl⟩, Nat.le_of_ble_eq_true rfl, Nat.le_of_ble_eq_true rfl⟩ hP hK hN [] [] rfl rfl (lv_nil hl) rfl (Nat.le_of_ble_eq_true rfl) dX1_trickWorth_24 ?_
    refine lv_iadd hx hb dX1_trickWorth_27 ?_
    exact jr_iret hx hb hr hlocks dX1_trickWorth_28 (by simp only [j_X1_trickWorth, if_pos c_1])
  · skip
    refine lv_iconst (v := 1) hx hb dX1_trickWorth_8 (by decide) ?_
    refine lv_goto (tgt := 13) hx hb dX1_trickWorth_9 (by decide) ?_
    refine lv_istore (lv' := [(4, .int 1), (0, .int x0), (1, .int x1), (2, .int x2), (3, .int x3)]) hx hb dX1_trickWorth_13 hl (by decide) rfl (fun ls hl => ?_)
    refine lv_iload_n hx hb dX1_trickWorth_15 rfl (lv_at hl 1 rfl) ?_
    refine lv_iload hx hb dX1_trickWorth_16 (lv_at hl 0 rfl) ?_
    refine jr_callSN (n := 2) (As := [.int x0, .int 1]) (rest := []) S (c_X2_worth x0 1) gX1_trickWorth_X2_worth_n88 rfl hN.2.2.2.2.2.1 (hts (.initialized RX2) (by decide +kernel)) (hts (.static yX2_worth) (by decide +kernel)) (by decide +kernel) rfl ⟨⟨rfl, rfl⟩, ⟨Nat.le_of_ble_eq_true rfl, Nat.le_of_ble_eq_true rfl⟩, Nat.le_of_ble_eq_true rfl, Nat.le_of_ble_eq_true rfl⟩ hP hK hN [] [] rfl rfl (lv_nil hl) rfl (Nat.le_of_ble_eq_true rfl) dX1_trickWorth_18 ?_
    refine lv_iload_n hx hb dX1_trickWorth_21 rfl (lv_at hl 2 rfl) ?_
    refine lv_iload hx hb dX1_trickWorth_22 (lv_at hl 0 rfl) ?_
    refine jr_callSN (n := 2) (As := [.int x1, .int 1]) (rest := [.int (j_X2_worth x0 1)]) S (c_X2_worth x1 1) gX1_trickWorth_X2_worth_n88 rfl hN.2.2.2.2.2.1 (hts (.initialized RX2) (by decide +kernel)) (hts (.static yX2_worth) (by decide +kernel)) (by decide +kernel) rfl ⟨⟨rfl, rfl⟩, ⟨Nat.le_of_ble_eq_true rfl, Nat.le_of_ble_eq_true rfl⟩, Nat.le_of_ble_eq_true rfl, Nat.le_of_ble_eq_true rfl⟩ hP hK hN [] [] rfl rfl (lv_nil hl) rfl (Nat.le_of_ble_eq_true rfl) dX1_trickWorth_24 ?_
    refine lv_iadd hx hb dX1_trickWorth_27 ?_
    exact jr_iret hx hb hr hlocks dX1_trickWorth_28 (by simp only [j_X1_trickWorth, if_neg c_1])
end
section
/-! THE CLASS: methods that read (laid by wip/whole/rows.py) -/
abbrev rX2_archivist : Room := { frames := 0, cells := 0, slots := 0, locals := 0 }
def j_X2_archivist (aF : Nat) (aG : Nat) (x0 : Int32) : Nat := (if x0 = 0 then aF else aG)
theorem inX2_archivist_X2 : ∀ w ∈ u_ws RX2 TX2 11, w ∈ wsX2_archivist := by decide +kernel
set_option maxRecDepth 100000 in
set_option maxHeartbeats 4000000 in
theorem c_X2_archivist {l : Launch} {D : va_G} (a0 : Nat) (aR : Nat) (aF : Nat) (aG : Nat) (cI : ClassId) (vrow : Nat → Int32) (vdrawn : Int32) (vtr : Int32) (vled : Int32) (vmov : Int32) (vw1 : Int32) (vw2 : Int32) (veo : Option Nat) (veb : Int32) (vh1 : Int64) (vt1 : Int64) (vp1 : Int32) (vk1 : Int32) (vg1 : Int32) (vh2 : Int64) (vt2 : Int64) (vp2 : Int32) (vk2 : Int32) (vg2 : Int32) (x0 : Int32) : jR l yX2_archivist wsX2_archivist rX2_archivist D [.ref a0, .int x0] (jC a0 aR aF aG cI vrow vdrawn vtr vled vmov vw1 vw2 veo veb vh1 vt1 vp1 vk1 vg1 vh2 vt2 vp2 vk2 vg2) [(cI, .int)] (.ref (j_X2_archivist aF aG x0)) := by
  refine jR_of (cc := cX2_archivist) (maxL := 2) (ret := (some (.object "ArchivistTricks$Archivist"))) (by decide) rfl (Nat.le_of_ble_eq_true rfl) ?_
  intro p e s m below meth c ls S hr hlocks hP hK hN hl
  obtain ⟨hx, hb, hml, hown, hts⟩ := id S
  have hl : lv_has ls 2 [(0, .ref a0), (1, .int x0)] := hl
  refine lv_iload_n hx hb dX2_archivist_0 rfl (lv_at hl 1 rfl) ?_
  refine lv_if_ne (tgt := 11) hx hb dX2_archivist_1 (by decide) (fun c_1 => ?_) (fun c_1 => ?_)
  · skip
    refine lv_aload_n hx hb dX2_archivist_11 rfl (lv_at hl 0 rfl) ?_
    refine va_get (D := D) (ci := 2) (v := .ref aG) (C := RX2) (T := TX2) (N := 11) hx hb hts inX2_archivist_X2 hown hK hP 0 rfl rfl 2 (by decide) (hts (.fieldLink RX2 20 "ArchivistTricks" "second" "LArchivistTricks$Archivist;") (by decide +kernel)) (fun _ h9 => h9) rfl dX2_archivist_12 ?_
    exact jr_aret hx hb hr hlocks dX2_archivist_15 (by simp only [j_X2_archivist, if_neg c_1])
  · skip
    refine lv_aload_n hx hb dX2_archivist_4 rfl (lv_at hl 0 rfl) ?_
    refine va_get (D := D) (ci := 2) (v := .ref aF) (C := RX2) (T := TX2) (N := 11) hx hb hts inX2_archivist_X2 hown hK hP 0 rfl rfl 1 (by decide) (hts (.fieldLink RX2 16 "ArchivistTricks" "first" "LArchivistTricks$Archivist;") (by decide +kernel)) (fun _ h9 => h9) rfl dX2_archivist_5 ?_
    refine lv_goto (tgt := 15) hx hb dX2_archivist_8 (by decide) ?_
    exact jr_aret hx hb hr hlocks dX2_archivist_15 (by simp only [j_X2_archivist, if_pos c_1])

abbrev rX2_moversHand : Room := { frames := 1, cells := 0, slots := 0, locals := 21 }
def j_X2_moversHand (vmov : Int32) (vh1 : Int64) (vh2 : Int64) : Int64 := (if vmov = 0 then vh1 else vh2)
theorem inX2_moversHand_X0 : ∀ w ∈ u_ws RX0 TX0 5, w ∈ wsX2_moversHand := by decide +kernel
theorem inX2_moversHand_X2 : ∀ w ∈ u_ws RX2 TX2 11, w ∈ wsX2_moversHand := by decide +kernel
set_option maxRecDepth 100000 in
set_option maxHeartbeats 4000000 in
theorem c_X2_moversHand {l : Launch} {D : va_G} (a0 : Nat) (aR : Nat) (aF : Nat) (aG : Nat) (cI : ClassId) (vrow : Nat → Int32) (vdrawn : Int32) (vtr : Int32) (vled : Int32) (vmov : Int32) (vw1 : Int32) (vw2 : Int32) (veo : Option Nat) (veb : Int32) (vh1 : Int64) (vt1 : Int64) (vp1 : Int32) (vk1 : Int32) (vg1 : Int32) (vh2 : Int64) (vt2 : Int64) (vp2 : Int32) (vk2 : Int32) (vg2 : Int32) : jR l yX2_moversHand wsX2_moversHand rX2_moversHand D [.ref a0] (jC a0 aR aF aG cI vrow vdrawn vtr vled vmov vw1 vw2 veo veb vh1 vt1 vp1 vk1 vg1 vh2 vt2 vp2 vk2 vg2) [(cI, .int)] (.long (j_X2_moversHand vmov vh1 vh2)) := by
  refine jR_of (cc := cX2_moversHand) (maxL := 1) (ret := (some .long)) (by decide) rfl (Nat.le_of_ble_eq_true rfl) ?_
  intro p e s m below meth c ls S hr hlocks hP hK hN hl
  obtain ⟨hx, hb, hml, hown, hts⟩ := id S
  have hl : lv_has ls 1 [(0, .ref a0)] := hl
  refine lv_aload_n hx hb dX2_moversHand_0 rfl (lv_at hl 0 rfl) ?_
  refine lv_aload_n hx hb dX2_moversHand_1 rfl (lv_at hl 0 rfl) ?_
  refine va_get (D := D) (ci := 2) (v := .int vmov) (C := RX2) (T := TX2) (N := 11) hx hb hts inX2_moversHand_X2 hown hK hP 0 rfl rfl 6 (by decide) (hts (.fieldLink RX2 33 "ArchivistTricks" "mover" "I") (by decide +kernel)) (fun _ h9 => h9) rfl dX2_moversHand_2 ?_
  refine jr_callV (n := 1) (C := RX2) (As := [.int vmov]) (rest := []) S (c_X2_archivist a0 aR aF aG cI vrow vdrawn vtr vled vmov vw1 vw2 veo veb vh1 vt1 vp1 vk1 vg1 vh2 vt2 vp2 vk2 vg2 vmov) gX2_moversHand_X2_archivist rfl (by decide +kernel) rfl ⟨⟨rfl, rfl⟩, ⟨Nat.le_of_ble_eq_true rfl, Nat.le_of_ble_eq_true rfl⟩, Nat.le_of_ble_eq_true rfl, Nat.le_of_ble_eq_true rfl⟩ hP hK hN [0, 1, 2, 3] [0] rfl rfl 0 2 rfl rfl rfl (lv_nil hl) rfl (Nat.le_of_ble_eq_true rfl) dX2_moversHand_5 ?_
  refine jr_ite (c0 := vmov = 0) (a := aF) (b := aG) rfl (fun c_1 => ?_) (fun c_1 => ?_)
  · skip
    refine va_get (D := D) (ci := 0) (v := .long vh1) (C := RX0) (T := TX0) (N := 5) hx hb hts inX2_moversHand_X0 hown hK hP 1 rfl rfl 0 (by decide) (hts (.fieldLink RX2 91 "ArchivistTricks$Archivist" "hand" "J") (by decide +kernel)) (fun _ h9 => h9) rfl dX2_moversHand_8 ?_
    exact jr_lret hx hb hr hlocks dX2_moversHand_11 (by simp only [j_X2_moversHand, if_pos c_1])
  · skip
    refine va_get (D := D) (ci := 0) (v := .long vh2) (C := RX0) (T := TX0) (N := 5) hx hb hts inX2_moversHand_X0 hown hK hP 2 rfl rfl 0 (by decide) (hts (.fieldLink RX2 91 "ArchivistTricks$Archivist" "hand" "J") (by decide +kernel)) (fun _ h9 => h9) rfl dX2_moversHand_8 ?_
    exact jr_lret hx hb hr hlocks dX2_moversHand_11 (by simp only [j_X2_moversHand, if_neg c_1])

abbrev rX2_othersHand : Room := { frames := 1, cells := 0, slots := 0, locals := 21 }
def j_X2_othersHand (vmov : Int32) (vh1 : Int64) (vh2 : Int64) : Int64 := (if (1 - vmov) = 0 then vh1 else vh2)
theorem inX2_othersHand_X0 : ∀ w ∈ u_ws RX0 TX0 5, w ∈ wsX2_othersHand := by decide +kernel
theorem inX2_othersHand_X2 : ∀ w ∈ u_ws RX2 TX2 11, w ∈ wsX2_othersHand := by decide +kernel
set_option maxRecDepth 100000 in
set_option maxHeartbeats 4000000 in
theorem c_X2_othersHand {l : Launch} {D : va_G} (a0 : Nat) (aR : Nat) (aF : Nat) (aG : Nat) (cI : ClassId) (vrow : Nat → Int32) (vdrawn : Int32) (vtr : Int32) (vled : Int32) (vmov : Int32) (vw1 : Int32) (vw2 : Int32) (veo : Option Nat) (veb : Int32) (vh1 : Int64) (vt1 : Int64) (vp1 : Int32) (vk1 : Int32) (vg1 : Int32) (vh2 : Int64) (vt2 : Int64) (vp2 : Int32) (vk2 : Int32) (vg2 : Int32) : jR l yX2_othersHand wsX2_othersHand rX2_othersHand D [.ref a0] (jC a0 aR aF aG cI vrow vdrawn vtr vled vmov vw1 vw2 veo veb vh1 vt1 vp1 vk1 vg1 vh2 vt2 vp2 vk2 vg2) [(cI, .int)] (.long (j_X2_othersHand vmov vh1 vh2)) := by
  refine jR_of (cc := cX2_othersHand) (maxL := 1) (ret := (some .long)) (by decide) rfl (Nat.le_of_ble_eq_true rfl) ?_
  intro p e s m below meth c ls S hr hlocks hP hK hN hl
  obtain ⟨hx, hb, hml, hown, hts⟩ := id S
  have hl : lv_has ls 1 [(0, .ref a0)] := hl
  refine lv_aload_n hx hb dX2_othersHand_0 rfl (lv_at hl 0 rfl) ?_
  refine lv_iconst (v := 1) hx hb dX2_othersHand_1 (by decide) ?_
  refine lv_aload_n hx hb dX2_othersHand_2 rfl (lv_at hl 0 rfl) ?_
  refine va_get (D := D) (ci := 2) (v := .int vmov) (C := RX2) (T := TX2) (N := 11) hx hb hts inX2_othersHand_X2 hown hK hP 0 rfl rfl 6 (by decide) (hts (.fieldLink RX2 33 "ArchivistTricks" "mover" "I") (by decide +kernel)) (fun _ h9 => h9) rfl dX2_othersHand_3 ?_
  refine lv_isub hx hb dX2_othersHand_6 ?_
  refine jr_callV (n := 1) (C := RX2) (As := [.int (1 - vmov)]) (rest := []) S (c_X2_archivist a0 aR aF aG cI vrow vdrawn vtr vled vmov vw1 vw2 veo veb vh1 vt1 vp1 vk1 vg1 vh2 vt2 vp2 vk2 vg2 (1 - vmov)) gX2_othersHand_X2_archivist rfl (by decide +kernel) rfl ⟨⟨rfl, rfl⟩, ⟨Nat.le_of_ble_eq_true rfl, Nat.le_of_ble_eq_true rfl⟩, Nat.le_of_ble_eq_true rfl, Nat.le_of_ble_eq_true rfl⟩ hP hK hN [0, 1, 2, 3] [0] rfl rfl 0 2 rfl rfl rfl (lv_nil hl) rfl (Nat.le_of_ble_eq_true rfl) dX2_othersHand_7 ?_
  refine jr_ite (c0 := (1 - vmov) = 0) (a := aF) (b := aG) rfl (fun c_1 => ?_) (fun c_1 => ?_)
  · skip
    refine va_get (D := D) (ci := 0) (v := .long vh1) (C := RX0) (T := TX0) (N := 5) hx hb hts inX2_othersHand_X0 hown hK hP 1 rfl rfl 0 (by decide) (hts (.fieldLink RX2 91 "ArchivistTricks$Archivist" "hand" "J") (by decide +kernel)) (fun _ h9 => h9) rfl dX2_othersHand_10 ?_
    exact jr_lret hx hb hr hlocks dX2_othersHand_13 (by simp only [j_X2_othersHand, if_pos c_1])
  · skip
    refine va_get (D := D) (ci := 0) (v := .long vh2) (C := RX0) (T := TX0) (N := 5) hx hb hts inX2_othersHand_X0 hown hK hP 2 rfl rfl 0 (by decide) (hts (.fieldLink RX2 91 "ArchivistTricks$Archivist" "hand" "J") (by decide +kernel)) (fun _ h9 => h9) rfl dX2_othersHand_10 ?_
    exact jr_lret hx hb hr hlocks dX2_othersHand_13 (by simp only [j_X2_othersHand, if_neg c_1])

abbrev rX2_glovesWorn : Room := { frames := 0, cells := 0, slots := 0, locals := 0 }
def j_X2_glovesWorn (vg1 : Int32) (vg2 : Int32) : Int32 := (if vg1 = 1 then (if vg2 = 1 then 1 ||| 2 else 1 ||| 0) else (if vg2 = 1 then 0 ||| 2 else 0 ||| 0))
theorem inX2_glovesWorn_X0 : ∀ w ∈ u_ws RX0 TX0 5, w ∈ wsX2_glovesWorn := by decide +kernel
theorem inX2_glovesWorn_X2 : ∀ w ∈ u_ws RX2 TX2 11, w ∈ wsX2_glovesWorn := by decide +kernel
set_option maxRecDepth 100000 in
set_option maxHeartbeats 4000000 in
theorem c_X2_glovesWorn {l : Launch} {D : va_G} (a0 : Nat) (aR : Nat) (aF : Nat) (aG : Nat) (cI : ClassId) (vrow : Nat → Int32) (vdrawn : Int32) (vtr : Int32) (vled : Int32) (vmov : Int32) (vw1 : Int32) (vw2 : Int32) (veo : Option Nat) (veb : Int32) (vh1 : Int64) (vt1 : Int64) (vp1 : Int32) (vk1 : Int32) (vg1 : Int32) (vh2 : Int64) (vt2 : Int64) (vp2 : Int32) (vk2 : Int32) (vg2 : Int32) : jR l yX2_glovesWorn wsX2_glovesWorn rX2_glovesWorn D [.ref a0] (jC a0 aR aF aG cI vrow vdrawn vtr vled vmov vw1 vw2 veo veb vh1 vt1 vp1 vk1 vg1 vh2 vt2 vp2 vk2 vg2) [(cI, .int)] (.int (j_X2_glovesWorn vg1 vg2)) := by
  refine jR_of (cc := cX2_glovesWorn) (maxL := 1) (ret := (some .int)) (by decide) rfl (Nat.le_of_ble_eq_true rfl) ?_
  intro p e s m below meth c ls S hr hlocks hP hK hN hl
  obtain ⟨hx, hb, hml, hown, hts⟩ := id S
  have hl : lv_has ls 1 [(0, .ref a0)] := hl
  refine lv_aload_n hx hb dX2_glovesWorn_0 rfl (lv_at hl 0 rfl) ?_
  refine va_get (D := D) (ci := 2) (v := .ref aF) (C := RX2) (T := TX2) (N := 11) hx hb hts inX2_glovesWorn_X2 hown hK hP 0 rfl rfl 1 (by decide) (hts (.fieldLink RX2 16 "ArchivistTricks" "first" "LArchivistTricks$Archivist;") (by decide +kernel)) (fun _ h9 => h9) rfl dX2_glovesWorn_1 ?_
  refine va_get (D := D) (ci := 0) (v := .int vg1) (C := RX0) (T := TX0) (N := 5) hx hb hts inX2_glovesWorn_X0 hown hK hP 1 rfl rfl 4 (by decide) (hts (.fieldLink RX2 105 "ArchivistTricks$Archivist" "gloves" "I") (by decide +kernel)) (fun _ h9 => h9) rfl dX2_glovesWorn_4 ?_
  refine lv_iconst (v := 1) hx hb dX2_glovesWorn_7 (by decide) ?_
  refine lv_icmp_ne (tgt := 15) hx hb dX2_glovesWorn_8 (by decide) (fun c_1 => ?_) (fun c_1 => ?_)
  · skip
    refine lv_iconst (v := 0) hx hb dX2_glovesWorn_15 (by decide) ?_
    refine lv_aload_n hx hb dX2_glovesWorn_16 rfl (lv_at hl 0 rfl) ?_
    refine va_get (D := D) (ci := 2) (v := .ref aG) (C := RX2) (T := TX2) (N := 11) hx hb hts inX2_glovesWorn_X2 hown hK hP 0 rfl rfl 2 (by decide) (hts (.fieldLink RX2 20 "ArchivistTricks" "second" "LArchivistTricks$Archivist;") (by decide +kernel)) (fun _ h9 => h9) rfl dX2_glovesWorn_17 ?_
    refine va_get (D := D) (ci := 0) (v := .int vg2) (C := RX0) (T := TX0) (N := 5) hx hb hts inX2_glovesWorn_X0 hown hK hP 2 rfl rfl 4 (by decide) (hts (.fieldLink RX2 105 "ArchivistTricks$Archivist" "gloves" "I") (by decide +kernel)) (fun _ h9 => h9) rfl dX2_glovesWorn_20 ?_
    refine lv_iconst (v := 1) hx hb dX2_glovesWorn_23 (by decide) ?_
    refine lv_icmp_ne (tgt := 31) hx hb dX2_glovesWorn_24 (by decide) (fun c_2 => ?_) (fun c_2 => ?_)
    · skip
      refine lv_iconst (v := 0) hx hb dX2_glovesWorn_31 (by decide) ?_
      refine lv_ior hx hb dX2_glovesWorn_32 ?_
      exact jr_iret hx hb hr hlocks dX2_glovesWorn_33 (by simp only [j_X2_glovesWorn, if_neg c_1, if_neg c_2])
    · skip
      refine lv_iconst (v := 2) hx hb dX2_glovesWorn_27 (by decide) ?_
      refine lv_goto (tgt := 32) hx hb dX2_glovesWorn_28 (by decide) ?_
      refine lv_ior hx hb dX2_glovesWorn_32 ?_
      exact jr_iret hx hb hr hlocks dX2_glovesWorn_33 (by simp only [j_X2_glovesWorn, if_neg c_1, if_pos c_2])
  · skip
    refine lv_iconst (v := 1) hx hb dX2_glovesWorn_11 (by decide) ?_
    refine lv_goto (tgt := 16) hx hb dX2_glovesWorn_12 (by decide) ?_
    refine lv_aload_n hx hb dX2_glovesWorn_16 rfl (lv_at hl 0 rfl) ?_
    refine va_get (D := D) (ci := 2) (v := .ref aG) (C := RX2) (T := TX2) (N := 11) hx hb hts inX2_glovesWorn_X2 hown hK hP 0 rfl rfl 2 (by decide) (hts (.fieldLink RX2 20 "ArchivistTricks" "second" "LArchivistTricks$Archivist;") (by decide +kernel)) (fun _ h9 => h9) rfl dX2_glovesWorn_17 ?_
    refine va_get (D := D) (ci := 0) (v := .int vg2) (C := RX0) (T := TX0) (N := 5) hx hb hts inX2_glovesWorn_X0 hown hK hP 2 rfl rfl 4 (by decide) (hts (.fieldLink RX2 105 "ArchivistTricks$Archivist" "gloves" "I") (by decide +kernel)) (fun _ h9 => h9) rfl dX2_glovesWorn_20 ?_
    refine lv_iconst (v := 1) hx hb dX2_glovesWorn_23 (by decide) ?_
    refine lv_icmp_ne (tgt := 31) hx hb dX2_glovesWorn_24 (by decide) (fun c_3 => ?_) (fun c_3 => ?_)
    · skip
      refine lv_iconst (v := 0) hx hb dX2_glovesWorn_31 (by decide) ?_
      refine lv_ior hx hb dX2_glovesWorn_32 ?_
      exact jr_iret hx hb hr hlocks dX2_glovesWorn_33 (by simp only [j_X2_glovesWorn, if_pos c_1, if_neg c_3])
    · skip
      refine lv_iconst (v := 2) hx hb dX2_glovesWorn_27 (by decide) ?_
      refine lv_goto (tgt := 32) hx hb dX2_glovesWorn_28 (by decide) ?_
      refine lv_ior hx hb dX2_glovesWorn_32 ?_
      exact jr_iret hx hb hr hlocks dX2_glovesWorn_33 (by simp only [j_X2_glovesWorn, if_pos c_1, if_pos c_3])

abbrev rX2_isEnding : Room := { frames := 0, cells := 0, slots := 0, locals := 0 }
def j_X2_isEnding (vdrawn : Int32) (vmov : Int32) : Int32 := (if vmov = (-1) then 0 else (if vdrawn < 42 then 0 else 1))
theorem inX2_isEnding_X2 : ∀ w ∈ u_ws RX2 TX2 11, w ∈ wsX2_isEnding := by decide +kernel
set_option maxRecDepth 100000 in
set_option maxHeartbeats 4000000 in
theorem c_X2_isEnding {l : Launch} {D : va_G} (a0 : Nat) (aR : Nat) (aF : Nat) (aG : Nat) (cI : ClassId) (vrow : Nat → Int32) (vdrawn : Int32) (vtr : Int32) (vled : Int32) (vmov : Int32) (vw1 : Int32) (vw2 : Int32) (veo : Option Nat) (veb : Int32) (vh1 : Int64) (vt1 : Int64) (vp1 : Int32) (vk1 : Int32) (vg1 : Int32) (vh2 : Int64) (vt2 : Int64) (vp2 : Int32) (vk2 : Int32) (vg2 : Int32) : jR l yX2_isEnding wsX2_isEnding rX2_isEnding D [.ref a0] (jC a0 aR aF aG cI vrow vdrawn vtr vled vmov vw1 vw2 veo veb vh1 vt1 vp1 vk1 vg1 vh2 vt2 vp2 vk2 vg2) [(cI, .int)] (.int (j_X2_isEnding vdrawn vmov)) := by
  refine jR_of (cc := cX2_isEnding) (maxL := 1) (ret := (some .boolean)) (by decide) rfl (Nat.le_of_ble_eq_true rfl) ?_
  intro p e s m below meth c ls S hr hlocks hP hK hN hl
  obtain ⟨hx, hb, hml, hown, hts⟩ := id S
  have hl : lv_has ls 1 [(0, .ref a0)] := hl
  refine lv_aload_n hx hb dX2_isEnding_0 rfl (lv_at hl 0 rfl) ?_
  refine va_get (D := D) (ci := 2) (v := .int vmov) (C := RX2) (T := TX2) (N := 11) hx hb hts inX2_isEnding_X2 hown hK hP 0 rfl rfl 6 (by decide) (hts (.fieldLink RX2 33 "ArchivistTricks" "mover" "I") (by decide +kernel)) (fun _ h9 => h9) rfl dX2_isEnding_1 ?_
  refine lv_iconst (v := (-1)) hx hb dX2_isEnding_4 (by decide) ?_
  refine lv_icmp_eq (tgt := 21) hx hb dX2_isEnding_5 (by decide) (fun c_1 => ?_) (fun c_1 => ?_)
  · skip
    refine lv_iconst (v := 0) hx hb dX2_isEnding_21 (by decide) ?_
    exact jr_zret hx hb hr hlocks dX2_isEnding_22 rfl (by simp only [j_X2_isEnding, if_pos c_1])
  · skip
    refine lv_aload_n hx hb dX2_isEnding_8 rfl (lv_at hl 0 rfl) ?_
    refine va_get (D := D) (ci := 2) (v := .int vdrawn) (C := RX2) (T := TX2) (N := 11) hx hb hts inX2_isEnding_X2 hown hK hP 0 rfl rfl 3 (by decide) (hts (.fieldLink RX2 23 "ArchivistTricks" "drawn" "I") (by decide +kernel)) (fun _ h9 => h9) rfl dX2_isEnding_9 ?_
    refine lv_bipush (v := 42) hx hb dX2_isEnding_12 (by decide) ?_
    refine lv_icmp_lt (tgt := 21) hx hb dX2_isEnding_14 (by decide) (fun c_2 => ?_) (fun c_2 => ?_)
    · skip
      refine lv_iconst (v := 0) hx hb dX2_isEnding_21 (by decide) ?_
      exact jr_zret hx hb hr hlocks dX2_isEnding_22 rfl (by simp only [j_X2_isEnding, if_neg c_1, if_pos c_2])
    · skip
      refine lv_iconst (v := 1) hx hb dX2_isEnding_17 (by decide) ?_
      refine lv_goto (tgt := 22) hx hb dX2_isEnding_18 (by decide) ?_
      exact jr_zret hx hb hr hlocks dX2_isEnding_22 rfl (by simp only [j_X2_isEnding, if_neg c_1, if_neg c_2])

abbrev rX2_takerBy : Room := { frames := 2, cells := 0, slots := 0, locals := 42 }
def j_X2_takerBy (vtr : Int32) (vled : Int32) (vmov : Int32) (x0 : Int32) : Int32 := (if j_X2_beats x0 vled vtr = 0 then 1 - vmov else vmov)
theorem inX2_takerBy_X2 : ∀ w ∈ u_ws RX2 TX2 11, w ∈ wsX2_takerBy := by decide +kernel
set_option maxRecDepth 100000 in
set_option maxHeartbeats 4000000 in
theorem c_X2_takerBy {l : Launch} {D : va_G} (a0 : Nat) (aR : Nat) (aF : Nat) (aG : Nat) (cI : ClassId) (vrow : Nat → Int32) (vdrawn : Int32) (vtr : Int32) (vled : Int32) (vmov : Int32) (vw1 : Int32) (vw2 : Int32) (veo : Option Nat) (veb : Int32) (vh1 : Int64) (vt1 : Int64) (vp1 : Int32) (vk1 : Int32) (vg1 : Int32) (vh2 : Int64) (vt2 : Int64) (vp2 : Int32) (vk2 : Int32) (vg2 : Int32) (x0 : Int32) : jR l yX2_takerBy wsX2_takerBy rX2_takerBy D [.ref a0, .int x0] (jC a0 aR aF aG cI vrow vdrawn vtr vled vmov vw1 vw2 veo veb vh1 vt1 vp1 vk1 vg1 vh2 vt2 vp2 vk2 vg2) [(cI, .int)] (.int (j_X2_takerBy vtr vled vmov x0)) := by
  refine jR_of (cc := cX2_takerBy) (maxL := 2) (ret := (some .int)) (by decide) rfl (Nat.le_of_ble_eq_true rfl) ?_
  intro p e s m below meth c ls S hr hlocks hP hK hN hl
  obtain ⟨hx, hb, hml, hown, hts⟩ := id S
  have hl : lv_has ls 2 [(0, .ref a0), (1, .int x0)] := hl
  refine lv_iload_n hx hb dX2_takerBy_0 rfl (lv_at hl 1 rfl) ?_
  refine lv_aload_n hx hb dX2_takerBy_1 rfl (lv_at hl 0 rfl) ?_
  refine va_get (D := D) (ci := 2) (v := .int vled) (C := RX2) (T := TX2) (N := 11) hx hb hts inX2_takerBy_X2 hown hK hP 0 rfl rfl 5 (by decide) (hts (.fieldLink RX2 30 "ArchivistTricks" "ledCard" "I") (by decide +kernel)) (fun _ h9 => h9) rfl dX2_takerBy_2 ?_
  refine lv_aload_n hx hb dX2_takerBy_5 rfl (lv_at hl 0 rfl) ?_
  refine va_get (D := D) (ci := 2) (v := .int vtr) (C := RX2) (T := TX2) (N := 11) hx hb hts inX2_takerBy_X2 hown hK hP 0 rfl rfl 4 (by decide) (hts (.fieldLink RX2 27 "ArchivistTricks" "trumpProvenance" "I") (by decide +kernel)) (fun _ h9 => h9) rfl dX2_takerBy_6 ?_
  refine jr_callS (n := 3) (As := [.int x0, .int vled, .int vtr]) (rest := []) S (c_X2_beats x0 vled vtr) gX2_takerBy_X2_beats rfl (by decide +kernel) rfl ⟨⟨rfl, rfl⟩, ⟨Nat.le_of_ble_eq_true rfl, Nat.le_of_ble_eq_true rfl⟩, Nat.le_of_ble_eq_true rfl, Nat.le_of_ble_eq_true rfl⟩ hP hK hN [] [] rfl rfl (lv_nil hl) rfl (Nat.le_of_ble_eq_true rfl) dX2_takerBy_9 ?_
  refine lv_if_eq (tgt := 22) hx hb dX2_takerBy_12 (by decide) (fun c_1 => ?_) (fun c_1 => ?_)
  · skip
    refine lv_iconst (v := 1) hx hb dX2_takerBy_22 (by decide) ?_
    refine lv_aload_n hx hb dX2_takerBy_23 rfl (lv_at hl 0 rfl) ?_
    refine va_get (D := D) (ci := 2) (v := .int vmov) (C := RX2) (T := TX2) (N := 11) hx hb hts inX2_takerBy_X2 hown hK hP 0 rfl rfl 6 (by decide) (hts (.fieldLink RX2 33 "ArchivistTricks" "mover" "I") (by decide +kernel)) (fun _ h9 => h9) rfl dX2_takerBy_24 ?_
    refine lv_isub hx hb dX2_takerBy_27 ?_
    exact jr_iret hx hb hr hlocks dX2_takerBy_28 (by simp only [j_X2_takerBy, if_pos c_1])
  · skip
    refine lv_aload_n hx hb dX2_takerBy_15 rfl (lv_at hl 0 rfl) ?_
    refine va_get (D := D) (ci := 2) (v := .int vmov) (C := RX2) (T := TX2) (N := 11) hx hb hts inX2_takerBy_X2 hown hK hP 0 rfl rfl 6 (by decide) (hts (.fieldLink RX2 33 "ArchivistTricks" "mover" "I") (by decide +kernel)) (fun _ h9 => h9) rfl dX2_takerBy_16 ?_
    refine lv_goto (tgt := 28) hx hb dX2_takerBy_19 (by decide) ?_
    exact jr_iret hx hb hr hlocks dX2_takerBy_28 (by simp only [j_X2_takerBy, if_neg c_1])

abbrev rX2_reasonAgainst : Room := { frames := 3, cells := 0, slots := 0, locals := 70 }
def j_X2_reasonAgainst (vdrawn : Int32) (vtr : Int32) (vled : Int32) (vmov : Int32) (vh1 : Int64) (vh2 : Int64) (x0 : Int32) : Int32 := (if vmov = (-1) then 1 else (if j_X2_has (j_X2_moversHand vmov vh1 vh2) x0 = 0 then 2 else (if vled = (-1) then j_X2_reasonAgainstLeading (j_X2_moversHand vmov vh1 vh2) x0 else (if 42 ≤ vdrawn then j_X2_reasonAgainstReplying (j_X2_moversHand vmov vh1 vh2) x0 vled vtr else 0))))
theorem inX2_reasonAgainst_X2 : ∀ w ∈ u_ws RX2 TX2 11, w ∈ wsX2_reasonAgainst := by decide +kernel
set_option maxRecDepth 100000 in
set_option maxHeartbeats 4000000 in
theorem c_X2_reasonAgainst {l : Launch} {D : va_G} (a0 : Nat) (aR : Nat) (aF : Nat) (aG : Nat) (cI : ClassId) (vrow : Nat → Int32) (vdrawn : Int32) (vtr : Int32) (vled : Int32) (vmov : Int32) (vw1 : Int32) (vw2 : Int32) (veo : Option Nat) (veb : Int32) (vh1 : Int64) (vt1 : Int64) (vp1 : Int32) (vk1 : Int32) (vg1 : Int32) (vh2 : Int64) (vt2 : Int64) (vp2 : Int32) (vk2 : Int32) (vg2 : Int32) (x0 : Int32) : jR l yX2_reasonAgainst wsX2_reasonAgainst rX2_reasonAgainst D [.ref a0, .int x0] (jC a0 aR aF aG cI vrow vdrawn vtr vled vmov vw1 vw2 veo veb vh1 vt1 vp1 vk1 vg1 vh2 vt2 vp2 vk2 vg2) [(cI, .int)] (.int (j_X2_reasonAgainst vdrawn vtr vled vmov vh1 vh2 x0)) := by
  refine jR_of (cc := cX2_reasonAgainst) (maxL := 4) (ret := (some .int)) (by decide) rfl (Nat.le_of_ble_eq_true rfl) ?_
  intro p e s m below meth c ls S hr hlocks hP hK hN hl
  obtain ⟨hx, hb, hml, hown, hts⟩ := id S
  have hl : lv_has ls 4 [(0, .ref a0), (1, .int x0)] := hl
  refine lv_aload_n hx hb dX2_reasonAgainst_0 rfl (lv_at hl 0 rfl) ?_
  refine va_get (D := D) (ci := 2) (v := .int vmov) (C := RX2) (T := TX2) (N := 11) hx hb hts inX2_reasonAgainst_X2 hown hK hP 0 rfl rfl 6 (by decide) (hts (.fieldLink RX2 33 "ArchivistTricks" "mover" "I") (by decide +kernel)) (fun _ h9 => h9) rfl dX2_reasonAgainst_1 ?_
  refine lv_iconst (v := (-1)) hx hb dX2_reasonAgainst_4 (by decide) ?_
  refine lv_icmp_ne (tgt := 10) hx hb dX2_reasonAgainst_5 (by decide) (fun c_1 => ?_) (fun c_1 => ?_)
  · skip
    refine lv_aload_n hx hb dX2_reasonAgainst_10 rfl (lv_at hl 0 rfl) ?_
    refine jr_callV (n := 0) (C := RX2) (As := []) (rest := []) S (c_X2_moversHand a0 aR aF aG cI vrow vdrawn vtr vled vmov vw1 vw2 veo veb vh1 vt1 vp1 vk1 vg1 vh2 vt2 vp2 vk2 vg2) gX2_reasonAgainst_X2_moversHand rfl (by decide +kernel) rfl ⟨⟨rfl, rfl⟩, ⟨Nat.le_of_ble_eq_true rfl, Nat.le_of_ble_eq_true rfl⟩, Nat.le_of_ble_eq_true rfl, Nat.le_of_ble_eq_true rfl⟩ hP hK hN [0, 1, 2, 3] [0] rfl rfl 0 2 rfl rfl rfl (lv_nil hl) rfl (Nat.le_of_ble_eq_true rfl) dX2_reasonAgainst_11 ?_
    refine lv_lstore_n (lv' := [(2, .long (j_X2_moversHand vmov vh1 vh2)), (0, .ref a0), (1, .int x0)]) hx hb dX2_reasonAgainst_14 rfl hl (by decide) rfl (fun ls hl => ?_)
    refine lv_lload_n hx hb dX2_reasonAgainst_15 rfl (lv_at hl 0 rfl) ?_
    refine lv_iload_n hx hb dX2_reasonAgainst_16 rfl (lv_at hl 2 rfl) ?_
    refine jr_callS (n := 2) (As := [.long (j_X2_moversHand vmov vh1 vh2), .int x0]) (rest := []) S (c_X2_has (j_X2_moversHand vmov vh1 vh2) x0) gX2_reasonAgainst_X2_has rfl (by decide +kernel) rfl ⟨⟨rfl, rfl⟩, ⟨Nat.le_of_ble_eq_true rfl, Nat.le_of_ble_eq_true rfl⟩, Nat.le_of_ble_eq_true rfl, Nat.le_of_ble_eq_true rfl⟩ hP hK hN [] [] rfl rfl (lv_nil hl) rfl (Nat.le_of_ble_eq_true rfl) dX2_reasonAgainst_17 ?_
    refine lv_if_ne (tgt := 25) hx hb dX2_reasonAgainst_20 (by decide) (fun c_2 => ?_) (fun c_2 => ?_)
    · skip
      refine lv_aload_n hx hb dX2_reasonAgainst_25 rfl (lv_at hl 1 rfl) ?_
      refine va_get (D := D) (ci := 2) (v := .int vled) (C := RX2) (T := TX2) (N := 11) hx hb hts inX2_reasonAgainst_X2 hown hK hP 0 rfl rfl 5 (by decide) (hts (.fieldLink RX2 30 "ArchivistTricks" "ledCard" "I") (by decide +kernel)) (fun _ h9 => h9) rfl dX2_reasonAgainst_26 ?_
      refine lv_iconst (v := (-1)) hx hb dX2_reasonAgainst_29 (by decide) ?_
      refine lv_icmp_ne (tgt := 39) hx hb dX2_reasonAgainst_30 (by decide) (fun c_3 => ?_) (fun c_3 => ?_)
      · skip
        refine lv_aload_n hx hb dX2_reasonAgainst_39 rfl (lv_at hl 1 rfl) ?_
        refine va_get (D := D) (ci := 2) (v := .int vdrawn) (C := RX2) (T := TX2) (N := 11) hx hb hts inX2_reasonAgainst_X2 hown hK hP 0 rfl rfl 3 (by decide) (hts (.fieldLink RX2 23 "ArchivistTricks" "drawn" "I") (by decide +kernel)) (fun _ h9 => h9) rfl dX2_reasonAgainst_40 ?_
        refine lv_bipush (v := 42) hx hb dX2_reasonAgainst_43 (by decide) ?_
        refine lv_icmp_ge (tgt := 52) hx hb dX2_reasonAgainst_45 (by decide) (fun c_4 => ?_) (fun c_4 => ?_)
        · skip
          refine lv_lload_n hx hb dX2_reasonAgainst_52 rfl (lv_at hl 0 rfl) ?_
          refine lv_iload_n hx hb dX2_reasonAgainst_53 rfl (lv_at hl 2 rfl) ?_
          refine lv_aload_n hx hb dX2_reasonAgainst_54 rfl (lv_at hl 1 rfl) ?_
          refine va_get (D := D) (ci := 2) (v := .int vled) (C := RX2) (T := TX2) (N := 11) hx hb hts inX2_reasonAgainst_X2 hown hK hP 0 rfl rfl 5 (by decide) (hts (.fieldLink RX2 30 "ArchivistTricks" "ledCard" "I") (by decide +kernel)) (fun _ h9 => h9) rfl dX2_reasonAgainst_55 ?_
          refine lv_aload_n hx hb dX2_reasonAgainst_58 rfl (lv_at hl 1 rfl) ?_
          refine va_get (D := D) (ci := 2) (v := .int vtr) (C := RX2) (T := TX2) (N := 11) hx hb hts inX2_reasonAgainst_X2 hown hK hP 0 rfl rfl 4 (by decide) (hts (.fieldLink RX2 27 "ArchivistTricks" "trumpProvenance" "I") (by decide +kernel)) (fun _ h9 => h9) rfl dX2_reasonAgainst_59 ?_
          refine jr_callS (n := 4) (As := [.long (j_X2_moversHand vmov vh1 vh2), .int x0, .int vled, .int vtr]) (rest := []) S (c_X2_reasonAgainstReplying (j_X2_moversHand vmov vh1 vh2) x0 vled vtr) gX2_reasonAgainst_X2_reasonAgainstReplying rfl (by decide +kernel) rfl ⟨⟨rfl, rfl⟩, ⟨Nat.le_of_ble_eq_true rfl, Nat.le_of_ble_eq_true rfl⟩, Nat.le_of_ble_eq_true rfl, Nat.le_of_ble_eq_true rfl⟩ hP hK hN [] [] rfl rfl (lv_nil hl) rfl (Nat.le_of_ble_eq_true rfl) dX2_reasonAgainst_62 ?_
          exact jr_iret hx hb hr hlocks dX2_reasonAgainst_65 (by simp only [j_X2_reasonAgainst, if_neg c_1, if_neg c_2, if_neg c_3, if_pos c_4])
        · skip
          refine lv_iconst (v := 0) hx hb dX2_reasonAgainst_48 (by decide) ?_
          refine lv_goto (tgt := 65) hx hb dX2_reasonAgainst_49 (by decide) ?_
          exact jr_iret hx hb hr hlocks dX2_reasonAgainst_65 (by simp only [j_X2_reasonAgainst, if_neg c_1, if_neg c_2, if_neg c_3, if_neg c_4])
      · skip
        refine lv_lload_n hx hb dX2_reasonAgainst_33 rfl (lv_at hl 0 rfl) ?_
        refine lv_iload_n hx hb dX2_reasonAgainst_34 rfl (lv_at hl 2 rfl) ?_
        refine jr_callS (n := 2) (As := [.long (j_X2_moversHand vmov vh1 vh2), .int x0]) (rest := []) S (c_X2_reasonAgainstLeading (j_X2_moversHand vmov vh1 vh2) x0) gX2_reasonAgainst_X2_reasonAgainstLeading rfl (by decide +kernel) rfl ⟨⟨rfl, rfl⟩, ⟨Nat.le_of_ble_eq_true rfl, Nat.le_of_ble_eq_true rfl⟩, Nat.le_of_ble_eq_true rfl, Nat.le_of_ble_eq_true rfl⟩ hP hK hN [] [] rfl rfl (lv_nil hl) rfl (Nat.le_of_ble_eq_true rfl) dX2_reasonAgainst_35 ?_
        exact jr_iret hx hb hr hlocks dX2_reasonAgainst_38 (by simp only [j_X2_reasonAgainst, if_neg c_1, if_neg c_2, if_pos c_3])
    · skip
      refine lv_iconst (v := 2) hx hb dX2_reasonAgainst_23 (by decide) ?_
      exact jr_iret hx hb hr hlocks dX2_reasonAgainst_24 (by simp only [j_X2_reasonAgainst, if_neg c_1, if_pos c_2])
  · skip
    refine lv_iconst (v := 1) hx hb dX2_reasonAgainst_8 (by decide) ?_
    exact jr_iret hx hb hr hlocks dX2_reasonAgainst_9 (by simp only [j_X2_reasonAgainst, if_pos c_1])

abbrev rX2_isPlaying : Room := { frames := 0, cells := 0, slots := 0, locals := 0 }
def j_X2_isPlaying (vmov : Int32) : Int32 := (if vmov = (-1) then 0 else 1)
theorem inX2_isPlaying_X2 : ∀ w ∈ u_ws RX2 TX2 11, w ∈ wsX2_isPlaying := by decide +kernel
set_option maxRecDepth 100000 in
set_option maxHeartbeats 4000000 in
theorem c_X2_isPlaying {l : Launch} {D : va_G} (a0 : Nat) (aR : Nat) (aF : Nat) (aG : Nat) (cI : ClassId) (vrow : Nat → Int32) (vdrawn : Int32) (vtr : Int32) (vled : Int32) (vmov : Int32) (vw1 : Int32) (vw2 : Int32) (veo : Option Nat) (veb : Int32) (vh1 : Int64) (vt1 : Int64) (vp1 : Int32) (vk1 : Int32) (vg1 : Int32) (vh2 : Int64) (vt2 : Int64) (vp2 : Int32) (vk2 : Int32) (vg2 : Int32) : jR l yX2_isPlaying wsX2_isPlaying rX2_isPlaying D [.ref a0] (jC a0 aR aF aG cI vrow vdrawn vtr vled vmov vw1 vw2 veo veb vh1 vt1 vp1 vk1 vg1 vh2 vt2 vp2 vk2 vg2) [(cI, .int)] (.int (j_X2_isPlaying vmov)) := by
  refine jR_of (cc := cX2_isPlaying) (maxL := 1) (ret := (some .boolean)) (by decide) rfl (Nat.le_of_ble_eq_true rfl) ?_
  intro p e s m below meth c ls S hr hlocks hP hK hN hl
  obtain ⟨hx, hb, hml, hown, hts⟩ := id S
  have hl : lv_has ls 1 [(0, .ref a0)] := hl
  refine lv_aload_n hx hb dX2_isPlaying_0 rfl (lv_at hl 0 rfl) ?_
  refine va_get (D := D) (ci := 2) (v := .int vmov) (C := RX2) (T := TX2) (N := 11) hx hb hts inX2_isPlaying_X2 hown hK hP 0 rfl rfl 6 (by decide) (hts (.fieldLink RX2 33 "ArchivistTricks" "mover" "I") (by decide +kernel)) (fun _ h9 => h9) rfl dX2_isPlaying_1 ?_
  refine lv_iconst (v := (-1)) hx hb dX2_isPlaying_4 (by decide) ?_
  refine lv_icmp_eq (tgt := 12) hx hb dX2_isPlaying_5 (by decide) (fun c_1 => ?_) (fun c_1 => ?_)
  · skip
    refine lv_iconst (v := 0) hx hb dX2_isPlaying_12 (by decide) ?_
    exact jr_zret hx hb hr hlocks dX2_isPlaying_13 rfl (by simp only [j_X2_isPlaying, if_pos c_1])
  · skip
    refine lv_iconst (v := 1) hx hb dX2_isPlaying_8 (by decide) ?_
    refine lv_goto (tgt := 13) hx hb dX2_isPlaying_9 (by decide) ?_
    exact jr_zret hx hb hr hlocks dX2_isPlaying_13 rfl (by simp only [j_X2_isPlaying, if_neg c_1])

abbrev rX2_turn : Room := { frames := 0, cells := 0, slots := 0, locals := 0 }
def j_X2_turn (vmov : Int32) : Int32 := vmov
theorem inX2_turn_X2 : ∀ w ∈ u_ws RX2 TX2 11, w ∈ wsX2_turn := by decide +kernel
set_option maxRecDepth 100000 in
set_option maxHeartbeats 4000000 in
theorem c_X2_turn {l : Launch} {D : va_G} (a0 : Nat) (aR : Nat) (aF : Nat) (aG : Nat) (cI : ClassId) (vrow : Nat → Int32) (vdrawn : Int32) (vtr : Int32) (vled : Int32) (vmov : Int32) (vw1 : Int32) (vw2 : Int32) (veo : Option Nat) (veb : Int32) (vh1 : Int64) (vt1 : Int64) (vp1 : Int32) (vk1 : Int32) (vg1 : Int32) (vh2 : Int64) (vt2 : Int64) (vp2 : Int32) (vk2 : Int32) (vg2 : Int32) : jR l yX2_turn wsX2_turn rX2_turn D [.ref a0] (jC a0 aR aF aG cI vrow vdrawn vtr vled vmov vw1 vw2 veo veb vh1 vt1 vp1 vk1 vg1 vh2 vt2 vp2 vk2 vg2) [(cI, .int)] (.int (j_X2_turn vmov)) := by
  refine jR_of (cc := cX2_turn) (maxL := 1) (ret := (some .int)) (by decide) rfl (Nat.le_of_ble_eq_true rfl) ?_
  intro p e s m below meth c ls S hr hlocks hP hK hN hl
  obtain ⟨hx, hb, hml, hown, hts⟩ := id S
  have hl : lv_has ls 1 [(0, .ref a0)] := hl
  refine lv_aload_n hx hb dX2_turn_0 rfl (lv_at hl 0 rfl) ?_
  refine va_get (D := D) (ci := 2) (v := .int vmov) (C := RX2) (T := TX2) (N := 11) hx hb hts inX2_turn_X2 hown hK hP 0 rfl rfl 6 (by decide) (hts (.fieldLink RX2 33 "ArchivistTricks" "mover" "I") (by decide +kernel)) (fun _ h9 => h9) rfl dX2_turn_1 ?_
  exact jr_iret hx hb hr hlocks dX2_turn_4 (by simp only [j_X2_turn])

abbrev rX2_led : Room := { frames := 0, cells := 0, slots := 0, locals := 0 }
def j_X2_led (vled : Int32) : Int32 := vled
theorem inX2_led_X2 : ∀ w ∈ u_ws RX2 TX2 11, w ∈ wsX2_led := by decide +kernel
set_option maxRecDepth 100000 in
set_option maxHeartbeats 4000000 in
theorem c_X2_led {l : Launch} {D : va_G} (a0 : Nat) (aR : Nat) (aF : Nat) (aG : Nat) (cI : ClassId) (vrow : Nat → Int32) (vdrawn : Int32) (vtr : Int32) (vled : Int32) (vmov : Int32) (vw1 : Int32) (vw2 : Int32) (veo : Option Nat) (veb : Int32) (vh1 : Int64) (vt1 : Int64) (vp1 : Int32) (vk1 : Int32) (vg1 : Int32) (vh2 : Int64) (vt2 : Int64) (vp2 : Int32) (vk2 : Int32) (vg2 : Int32) : jR l yX2_led wsX2_led rX2_led D [.ref a0] (jC a0 aR aF aG cI vrow vdrawn vtr vled vmov vw1 vw2 veo veb vh1 vt1 vp1 vk1 vg1 vh2 vt2 vp2 vk2 vg2) [(cI, .int)] (.int (j_X2_led vled)) := by
  refine jR_of (cc := cX2_led) (maxL := 1) (ret := (some .int)) (by decide) rfl (Nat.le_of_ble_eq_true rfl) ?_
  intro p e s m below meth c ls S hr hlocks hP hK hN hl
  obtain ⟨hx, hb, hml, hown, hts⟩ := id S
  have hl : lv_has ls 1 [(0, .ref a0)] := hl
  refine lv_aload_n hx hb dX2_led_0 rfl (lv_at hl 0 rfl) ?_
  refine va_get (D := D) (ci := 2) (v := .int vled) (C := RX2) (T := TX2) (N := 11) hx hb hts inX2_led_X2 hown hK hP 0 rfl rfl 5 (by decide) (hts (.fieldLink RX2 30 "ArchivistTricks" "ledCard" "I") (by decide +kernel)) (fun _ h9 => h9) rfl dX2_led_1 ?_
  exact jr_iret hx hb hr hlocks dX2_led_4 (by simp only [j_X2_led])

abbrev rX2_trumps : Room := { frames := 0, cells := 0, slots := 0, locals := 0 }
def j_X2_trumps (vtr : Int32) : Int32 := vtr
theorem inX2_trumps_X2 : ∀ w ∈ u_ws RX2 TX2 11, w ∈ wsX2_trumps := by decide +kernel
set_option maxRecDepth 100000 in
set_option maxHeartbeats 4000000 in
theorem c_X2_trumps {l : Launch} {D : va_G} (a0 : Nat) (aR : Nat) (aF : Nat) (aG : Nat) (cI : ClassId) (vrow : Nat → Int32) (vdrawn : Int32) (vtr : Int32) (vled : Int32) (vmov : Int32) (vw1 : Int32) (vw2 : Int32) (veo : Option Nat) (veb : Int32) (vh1 : Int64) (vt1 : Int64) (vp1 : Int32) (vk1 : Int32) (vg1 : Int32) (vh2 : Int64) (vt2 : Int64) (vp2 : Int32) (vk2 : Int32) (vg2 : Int32) : jR l yX2_trumps wsX2_trumps rX2_trumps D [.ref a0] (jC a0 aR aF aG cI vrow vdrawn vtr vled vmov vw1 vw2 veo veb vh1 vt1 vp1 vk1 vg1 vh2 vt2 vp2 vk2 vg2) [(cI, .int)] (.int (j_X2_trumps vtr)) := by
  refine jR_of (cc := cX2_trumps) (maxL := 1) (ret := (some .int)) (by decide) rfl (Nat.le_of_ble_eq_true rfl) ?_
  intro p e s m below meth c ls S hr hlocks hP hK hN hl
  obtain ⟨hx, hb, hml, hown, hts⟩ := id S
  have hl : lv_has ls 1 [(0, .ref a0)] := hl
  refine lv_aload_n hx hb dX2_trumps_0 rfl (lv_at hl 0 rfl) ?_
  refine va_get (D := D) (ci := 2) (v := .int vtr) (C := RX2) (T := TX2) (N := 11) hx hb hts inX2_trumps_X2 hown hK hP 0 rfl rfl 4 (by decide) (hts (.fieldLink RX2 27 "ArchivistTricks" "trumpProvenance" "I") (by decide +kernel)) (fun _ h9 => h9) rfl dX2_trumps_1 ?_
  exact jr_iret hx hb hr hlocks dX2_trumps_4 (by simp only [j_X2_trumps])

abbrev rX2_pile : Room := { frames := 0, cells := 0, slots := 0, locals := 0 }
def j_X2_pile (vdrawn : Int32) : Int32 := 42 - vdrawn
theorem inX2_pile_X2 : ∀ w ∈ u_ws RX2 TX2 11, w ∈ wsX2_pile := by decide +kernel
set_option maxRecDepth 100000 in
set_option maxHeartbeats 4000000 in
theorem c_X2_pile {l : Launch} {D : va_G} (a0 : Nat) (aR : Nat) (aF : Nat) (aG : Nat) (cI : ClassId) (vrow : Nat → Int32) (vdrawn : Int32) (vtr : Int32) (vled : Int32) (vmov : Int32) (vw1 : Int32) (vw2 : Int32) (veo : Option Nat) (veb : Int32) (vh1 : Int64) (vt1 : Int64) (vp1 : Int32) (vk1 : Int32) (vg1 : Int32) (vh2 : Int64) (vt2 : Int64) (vp2 : Int32) (vk2 : Int32) (vg2 : Int32) : jR l yX2_pile wsX2_pile rX2_pile D [.ref a0] (jC a0 aR aF aG cI vrow vdrawn vtr vled vmov vw1 vw2 veo veb vh1 vt1 vp1 vk1 vg1 vh2 vt2 vp2 vk2 vg2) [(cI, .int)] (.int (j_X2_pile vdrawn)) := by
  refine jR_of (cc := cX2_pile) (maxL := 1) (ret := (some .int)) (by decide) rfl (Nat.le_of_ble_eq_true rfl) ?_
  intro p e s m below meth c ls S hr hlocks hP hK hN hl
  obtain ⟨hx, hb, hml, hown, hts⟩ := id S
  have hl : lv_has ls 1 [(0, .ref a0)] := hl
  refine lv_bipush (v := 42) hx hb dX2_pile_0 (by decide) ?_
  refine lv_aload_n hx hb dX2_pile_2 rfl (lv_at hl 0 rfl) ?_
  refine va_get (D := D) (ci := 2) (v := .int vdrawn) (C := RX2) (T := TX2) (N := 11) hx hb hts inX2_pile_X2 hown hK hP 0 rfl rfl 3 (by decide) (hts (.fieldLink RX2 23 "ArchivistTricks" "drawn" "I") (by decide +kernel)) (fun _ h9 => h9) rfl dX2_pile_3 ?_
  refine lv_isub hx hb dX2_pile_6 ?_
  exact jr_iret hx hb hr hlocks dX2_pile_7 (by simp only [j_X2_pile])

abbrev rX2_wonByFirst : Room := { frames := 0, cells := 0, slots := 0, locals := 0 }
def j_X2_wonByFirst (vw1 : Int32) : Int32 := vw1
theorem inX2_wonByFirst_X2 : ∀ w ∈ u_ws RX2 TX2 11, w ∈ wsX2_wonByFirst := by decide +kernel
set_option maxRecDepth 100000 in
set_option maxHeartbeats 4000000 in
theorem c_X2_wonByFirst {l : Launch} {D : va_G} (a0 : Nat) (aR : Nat) (aF : Nat) (aG : Nat) (cI : ClassId) (vrow : Nat → Int32) (vdrawn : Int32) (vtr : Int32) (vled : Int32) (vmov : Int32) (vw1 : Int32) (vw2 : Int32) (veo : Option Nat) (veb : Int32) (vh1 : Int64) (vt1 : Int64) (vp1 : Int32) (vk1 : Int32) (vg1 : Int32) (vh2 : Int64) (vt2 : Int64) (vp2 : Int32) (vk2 : Int32) (vg2 : Int32) : jR l yX2_wonByFirst wsX2_wonByFirst rX2_wonByFirst D [.ref a0] (jC a0 aR aF aG cI vrow vdrawn vtr vled vmov vw1 vw2 veo veb vh1 vt1 vp1 vk1 vg1 vh2 vt2 vp2 vk2 vg2) [(cI, .int)] (.int (j_X2_wonByFirst vw1)) := by
  refine jR_of (cc := cX2_wonByFirst) (maxL := 1) (ret := (some .int)) (by decide) rfl (Nat.le_of_ble_eq_true rfl) ?_
  intro p e s m below meth c ls S hr hlocks hP hK hN hl
  obtain ⟨hx, hb, hml, hown, hts⟩ := id S
  have hl : lv_has ls 1 [(0, .ref a0)] := hl
  refine lv_aload_n hx hb dX2_wonByFirst_0 rfl (lv_at hl 0 rfl) ?_
  refine va_get (D := D) (ci := 2) (v := .int vw1) (C := RX2) (T := TX2) (N := 11) hx hb hts inX2_wonByFirst_X2 hown hK hP 0 rfl rfl 7 (by decide) (hts (.fieldLink RX2 36 "ArchivistTricks" "firstWins" "I") (by decide +kernel)) (fun _ h9 => h9) rfl dX2_wonByFirst_1 ?_
  exact jr_iret hx hb hr hlocks dX2_wonByFirst_4 (by simp only [j_X2_wonByFirst])

abbrev rX2_wonBySecond : Room := { frames := 0, cells := 0, slots := 0, locals := 0 }
def j_X2_wonBySecond (vw2 : Int32) : Int32 := vw2
theorem inX2_wonBySecond_X2 : ∀ w ∈ u_ws RX2 TX2 11, w ∈ wsX2_wonBySecond := by decide +kernel
set_option maxRecDepth 100000 in
set_option maxHeartbeats 4000000 in
theorem c_X2_wonBySecond {l : Launch} {D : va_G} (a0 : Nat) (aR : Nat) (aF : Nat) (aG : Nat) (cI : ClassId) (vrow : Nat → Int32) (vdrawn : Int32) (vtr : Int32) (vled : Int32) (vmov : Int32) (vw1 : Int32) (vw2 : Int32) (veo : Option Nat) (veb : Int32) (vh1 : Int64) (vt1 : Int64) (vp1 : Int32) (vk1 : Int32) (vg1 : Int32) (vh2 : Int64) (vt2 : Int64) (vp2 : Int32) (vk2 : Int32) (vg2 : Int32) : jR l yX2_wonBySecond wsX2_wonBySecond rX2_wonBySecond D [.ref a0] (jC a0 aR aF aG cI vrow vdrawn vtr vled vmov vw1 vw2 veo veb vh1 vt1 vp1 vk1 vg1 vh2 vt2 vp2 vk2 vg2) [(cI, .int)] (.int (j_X2_wonBySecond vw2)) := by
  refine jR_of (cc := cX2_wonBySecond) (maxL := 1) (ret := (some .int)) (by decide) rfl (Nat.le_of_ble_eq_true rfl) ?_
  intro p e s m below meth c ls S hr hlocks hP hK hN hl
  obtain ⟨hx, hb, hml, hown, hts⟩ := id S
  have hl : lv_has ls 1 [(0, .ref a0)] := hl
  refine lv_aload_n hx hb dX2_wonBySecond_0 rfl (lv_at hl 0 rfl) ?_
  refine va_get (D := D) (ci := 2) (v := .int vw2) (C := RX2) (T := TX2) (N := 11) hx hb hts inX2_wonBySecond_X2 hown hK hP 0 rfl rfl 8 (by decide) (hts (.fieldLink RX2 39 "ArchivistTricks" "secondWins" "I") (by decide +kernel)) (fun _ h9 => h9) rfl dX2_wonBySecond_1 ?_
  exact jr_iret hx hb hr hlocks dX2_wonBySecond_4 (by simp only [j_X2_wonBySecond])

abbrev rX2_choices : Room := { frames := 4, cells := 0, slots := 0, locals := 93 }
def j_X2_choices_4 (vdrawn : Int32) (vtr : Int32) (vled : Int32) (vmov : Int32) (vh1 : Int64) (vh2 : Int64) : Nat → Nat → Int32 → Int32
  | 0, i, y1 => y1
  | n + 1, i, y1 => (if j_X2_reasonAgainst vdrawn vtr vled vmov vh1 vh2 (nI i) = 0 then j_X2_choices_4 vdrawn vtr vled vmov vh1 vh2 n (i + 1) (y1 + 1) else j_X2_choices_4 vdrawn vtr vled vmov vh1 vh2 n (i + 1) y1)
def j_X2_choices (vdrawn : Int32) (vtr : Int32) (vled : Int32) (vmov : Int32) (vh1 : Int64) (vh2 : Int64) : Int32 := j_X2_choices_4 vdrawn vtr vled vmov vh1 vh2 42 0 0
set_option maxRecDepth 100000 in
set_option maxHeartbeats 4000000 in
theorem c_X2_choices {l : Launch} {D : va_G} (a0 : Nat) (aR : Nat) (aF : Nat) (aG : Nat) (cI : ClassId) (vrow : Nat → Int32) (vdrawn : Int32) (vtr : Int32) (vled : Int32) (vmov : Int32) (vw1 : Int32) (vw2 : Int32) (veo : Option Nat) (veb : Int32) (vh1 : Int64) (vt1 : Int64) (vp1 : Int32) (vk1 : Int32) (vg1 : Int32) (vh2 : Int64) (vt2 : Int64) (vp2 : Int32) (vk2 : Int32) (vg2 : Int32) : jR l yX2_choices wsX2_choices rX2_choices D [.ref a0] (jC a0 aR aF aG cI vrow vdrawn vtr vled vmov vw1 vw2 veo veb vh1 vt1 vp1 vk1 vg1 vh2 vt2 vp2 vk2 vg2) [(cI, .int)] (.int (j_X2_choices vdrawn vtr vled vmov vh1 vh2)) := by
  refine jR_of (cc := cX2_choices) (maxL := 3) (ret := (some .int)) (by decide) rfl (Nat.le_of_ble_eq_true rfl) ?_
  intro p e s m below meth c ls S hr hlocks hP hK hN hl
  obtain ⟨hx, hb, hml, hown, hts⟩ := id S
  have hl : lv_has ls 3 [(0, .ref a0)] := hl
  have loop4 : ∀ (n i : Nat) (y1 : Int32), i + n = 42 → j_X2_choices_4 vdrawn vtr vled vmov vh1 vh2 n i y1 = (j_X2_choices vdrawn vtr vled vmov vh1 vh2) → ∀ (ls : Array Slot), lv_has ls 3 [(2, .int (nI i)), (1, .int y1), (0, .ref a0)] → W p l e rX2_choices s m ([.ref a0] : List Value).toArray below meth c s.heap [] 0 0 (MQ below (k2_QcV (.int (j_X2_choices vdrawn vtr vled vmov vh1 vh2))) ([.ref a0] : List Value).toArray s 0 0 (fun _ => False)) (F0 m 4 ls []) := by
    intro n
    induction n with
    | zero =>
      intro i y1 hin hv ls hl
      have hge : (42 : Int32) ≤ nI i := by rw [show i = 42 by omega]; decide
      have hgl : ¬ nI i < (42 : Int32) := by rw [show i = 42 by omega]; decide
      refine lv_iload_n hx hb dX2_choices_4 rfl (lv_at hl 0 rfl) ?_
      refine lv_bipush (v := 42) hx hb dX2_choices_5 (by decide) ?_
      refine lv_icmp_ge (tgt := 27) hx hb dX2_choices_7 (by decide) (fun _ => ?_) (fun c_ => absurd hge c_)
      refine lv_iload_n hx hb dX2_choices_27 rfl (lv_at hl 1 rfl) ?_
      exact jr_iret hx hb hr hlocks dX2_choices_28 (by rw [← hv]; simp only [j_X2_choices_4, if_pos hge, if_neg hgl])
    | succ n ih =>
      intro i y1 hin hv ls hl
      have hge : ¬ (42 : Int32) ≤ nI i := nI_ge (a := i) (b := 42) (by omega) (by decide)
      have hgl : nI i < (42 : Int32) := nI_lt (a := i) (b := 42) (by omega) (by decide)
      refine lv_iload_n hx hb dX2_choices_4 rfl (lv_at hl 0 rfl) ?_
      refine lv_bipush (v := 42) hx hb dX2_choices_5 (by decide) ?_
      refine lv_icmp_ge (tgt := 27) hx hb dX2_choices_7 (by decide) (fun c_ => absurd c_ hge) (fun _ => ?_)
      refine lv_aload_n hx hb dX2_choices_10 rfl (lv_at hl 2 rfl) ?_
      refine lv_iload_n hx hb dX2_choices_11 rfl (lv_at hl 0 rfl) ?_
      refine jr_callV (n := 1) (C := RX2) (As := [.int (nI i)]) (rest := []) S (c_X2_reasonAgainst a0 aR aF aG cI vrow vdrawn vtr vled vmov vw1 vw2 veo veb vh1 vt1 vp1 vk1 vg1 vh2 vt2 vp2 vk2 vg2 (nI i)) gX2_choices_X2_reasonAgainst rfl (by decide +kernel) rfl ⟨⟨rfl, rfl⟩, ⟨Nat.le_of_ble_eq_true rfl, Nat.le_of_ble_eq_true rfl⟩, Nat.le_of_ble_eq_true rfl, Nat.le_of_ble_eq_true rfl⟩ hP hK hN [0, 1, 2, 3] [0] rfl rfl 0 2 rfl rfl rfl (lv_nil hl) rfl (Nat.le_of_ble_eq_true rfl) dX2_choices_12 ?_
      refine lv_if_ne (tgt := 21) hx hb dX2_choices_15 (by decide) (fun c_4001 => ?_) (fun c_4001 => ?_)
      · skip
        refine lv_iinc (v := nI (i + 1)) (lv' := [(2, .int (nI (i + 1))), (1, .int y1), (0, .ref a0)]) hx hb dX2_choices_21 hl (k := 0) rfl (nI_1 i) (by decide) rfl (fun ls hl => ?_)
        refine lv_goto (tgt := 4) hx hb dX2_choices_24 (by decide) ?_
        exact ih (i + 1) y1 (by omega) (by rw [← hv]; simp only [j_X2_choices_4, if_neg hge, if_pos hgl, if_neg c_4001]) ls (lv_sub hl [0, 1, 2] rfl)
      · skip
        refine lv_iinc (v := y1 + 1) (lv' := [(1, .int (y1 + 1)), (2, .int (nI i)), (0, .ref a0)]) hx hb dX2_choices_18 hl (k := 1) rfl rfl (by decide) rfl (fun ls hl => ?_)
        refine lv_iinc (v := nI (i + 1)) (lv' := [(2, .int (nI (i + 1))), (1, .int (y1 + 1)), (0, .ref a0)]) hx hb dX2_choices_21 hl (k := 1) rfl (nI_1 i) (by decide) rfl (fun ls hl => ?_)
        refine lv_goto (tgt := 4) hx hb dX2_choices_24 (by decide) ?_
        exact ih (i + 1) (y1 + 1) (by omega) (by rw [← hv]; simp only [j_X2_choices_4, if_neg hge, if_pos hgl, if_pos c_4001]) ls (lv_sub hl [0, 1, 2] rfl)
  refine lv_iconst (v := 0) hx hb dX2_choices_0 (by decide) ?_
  refine lv_istore_n (lv' := [(1, .int 0), (0, .ref a0)]) hx hb dX2_choices_1 rfl hl (by decide) rfl (fun ls hl => ?_)
  refine lv_iconst (v := 0) hx hb dX2_choices_2 (by decide) ?_
  refine lv_istore_n (lv' := [(2, .int 0), (1, .int 0), (0, .ref a0)]) hx hb dX2_choices_3 rfl hl (by decide) rfl (fun ls hl => ?_)
  exact loop4 42 0 0 rfl (by simp only [j_X2_choices]) ls (lv_sub (l' := [(2, .int (nI 0)), (1, .int 0), (0, .ref a0)]) hl [0, 1, 2] rfl)

abbrev rX2_handFrom : Room := { frames := 1, cells := 0, slots := 0, locals := 20 }
def j_X2_handFrom_5 (vrow : Nat → Int32) (x0 : Int32) : Nat → Nat → Int64 → Int64
  | 0, i, y2 => y2
  | n + 1, i, y2 => (if nI i < x0 then j_X2_handFrom_5 vrow x0 n (i + 1) y2 else (if x0 + 6 ≤ nI i then j_X2_handFrom_5 vrow x0 n (i + 1) y2 else j_X2_handFrom_5 vrow x0 n (i + 1) (y2 ||| (j_X2_bit (vrow (nI i).toNatClampNeg)))))
def j_X2_handFrom (vrow : Nat → Int32) (x0 : Int32) : Int64 := j_X2_handFrom_5 vrow x0 42 0 0
theorem inX2_handFrom_X2 : ∀ w ∈ u_ws RX2 TX2 11, w ∈ wsX2_handFrom := by decide +kernel
set_option maxRecDepth 100000 in
set_option maxHeartbeats 4000000 in
theorem c_X2_handFrom {l : Launch} {D : va_G} (a0 : Nat) (aR : Nat) (aF : Nat) (aG : Nat) (cI : ClassId) (vrow : Nat → Int32) (vdrawn : Int32) (vtr : Int32) (vled : Int32) (vmov : Int32) (vw1 : Int32) (vw2 : Int32) (veo : Option Nat) (veb : Int32) (vh1 : Int64) (vt1 : Int64) (vp1 : Int32) (vk1 : Int32) (vg1 : Int32) (vh2 : Int64) (vt2 : Int64) (vp2 : Int32) (vk2 : Int32) (vg2 : Int32) (x0 : Int32) : jR l yX2_handFrom wsX2_handFrom rX2_handFrom D [.ref a0, .int x0] (jC a0 aR aF aG cI vrow vdrawn vtr vled vmov vw1 vw2 veo veb vh1 vt1 vp1 vk1 vg1 vh2 vt2 vp2 vk2 vg2) [(cI, .int)] (.long (j_X2_handFrom vrow x0)) := by
  refine jR_of (cc := cX2_handFrom) (maxL := 5) (ret := (some .long)) (by decide) rfl (Nat.le_of_ble_eq_true rfl) ?_
  intro p e s m below meth c ls S hr hlocks hP hK hN hl
  obtain ⟨hx, hb, hml, hown, hts⟩ := id S
  have hl : lv_has ls 5 [(0, .ref a0), (1, .int x0)] := hl
  have loop5 : ∀ (n i : Nat) (y2 : Int64), i + n = 42 → j_X2_handFrom_5 vrow x0 n i y2 = (j_X2_handFrom vrow x0) → ∀ (ls : Array Slot), lv_has ls 5 [(4, .int (nI i)), (2, .long y2), (0, .ref a0), (1, .int x0)] → W p l e rX2_handFrom s m ([.ref a0, .int x0] : List Value).toArray below meth c s.heap [] 0 0 (MQ below (k2_QcV (.long (j_X2_handFrom vrow x0))) ([.ref a0, .int x0] : List Value).toArray s 0 0 (fun _ => False)) (F0 m 5 ls []) := by
    intro n
    induction n with
    | zero =>
      intro i y2 hin hv ls hl
      have hge : (42 : Int32) ≤ nI i := by rw [show i = 42 by omega]; decide
      have hgl : ¬ nI i < (42 : Int32) := by rw [show i = 42 by omega]; decide
      refine lv_iload hx hb dX2_handFrom_5 (lv_at hl 0 rfl) ?_
      refine lv_bipush (v := 42) hx hb dX2_handFrom_7 (by decide) ?_
      refine lv_icmp_ge (tgt := 46) hx hb dX2_handFrom_9 (by decide) (fun _ => ?_) (fun c_ => absurd hge c_)
      refine lv_lload_n hx hb dX2_handFrom_46 rfl (lv_at hl 1 rfl) ?_
      exact jr_lret hx hb hr hlocks dX2_handFrom_47 (by rw [← hv]; simp only [j_X2_handFrom_5, if_pos hge, if_neg hgl])
    | succ n ih =>
      intro i y2 hin hv ls hl
      have hge : ¬ (42 : Int32) ≤ nI i := nI_ge (a := i) (b := 42) (by omega) (by decide)
      have hgl : nI i < (42 : Int32) := nI_lt (a := i) (b := 42) (by omega) (by decide)
      refine lv_iload hx hb dX2_handFrom_5 (lv_at hl 0 rfl) ?_
      refine lv_bipush (v := 42) hx hb dX2_handFrom_7 (by decide) ?_
      refine lv_icmp_ge (tgt := 46) hx hb dX2_handFrom_9 (by decide) (fun c_ => absurd c_ hge) (fun _ => ?_)
      refine lv_iload hx hb dX2_handFrom_12 (lv_at hl 0 rfl) ?_
      refine lv_iload_n hx hb dX2_handFrom_14 rfl (lv_at hl 3 rfl) ?_
      refine lv_icmp_lt (tgt := 40) hx hb dX2_handFrom_15 (by decide) (fun c_5001 => ?_) (fun c_5001 => ?_)
      · skip
        refine lv_iinc (v := nI (i + 1)) (lv' := [(4, .int (nI (i + 1))), (2, .long y2), (0, .ref a0), (1, .int x0)]) hx hb dX2_handFrom_40 hl (k := 0) rfl (nI_1 i) (by decide) rfl (fun ls hl => ?_)
        refine lv_goto (tgt := 5) hx hb dX2_handFrom_43 (by decide) ?_
        exact ih (i + 1) y2 (by omega) (by rw [← hv]; simp only [j_X2_handFrom_5, if_neg hge, if_pos hgl, if_pos c_5001]) ls (lv_sub hl [0, 1, 2, 3] rfl)
      · skip
        refine lv_iload hx hb dX2_handFrom_18 (lv_at hl 0 rfl) ?_
        refine lv_iload_n hx hb dX2_handFrom_20 rfl (lv_at hl 3 rfl) ?_
        refine lv_bipush (v := 6) hx hb dX2_handFrom_21 (by decide) ?_
        refine lv_iadd hx hb dX2_handFrom_23 ?_
        refine lv_icmp_ge (tgt := 40) hx hb dX2_handFrom_24 (by decide) (fun c_5002 => ?_) (fun c_5002 => ?_)
        · skip
          refine lv_iinc (v := nI (i + 1)) (lv' := [(4, .int (nI (i + 1))), (2, .long y2), (0, .ref a0), (1, .int x0)]) hx hb dX2_handFrom_40 hl (k := 0) rfl (nI_1 i) (by decide) rfl (fun ls hl => ?_)
          refine lv_goto (tgt := 5) hx hb dX2_handFrom_43 (by decide) ?_
          exact ih (i + 1) y2 (by omega) (by rw [← hv]; simp only [j_X2_handFrom_5, if_neg hge, if_pos hgl, if_neg c_5001, if_pos c_5002]) ls (lv_sub hl [0, 1, 2, 3] rfl)
        · skip
          refine lv_lload_n hx hb dX2_handFrom_27 rfl (lv_at hl 1 rfl) ?_
          refine lv_aload_n hx hb dX2_handFrom_28 rfl (lv_at hl 2 rfl) ?_
          refine va_get (D := D) (ci := 2) (v := .ref aR) (C := RX2) (T := TX2) (N := 11) hx hb hts inX2_handFrom_X2 hown hK hP 0 rfl rfl 0 (by decide) (hts (.fieldLink RX2 9 "ArchivistTricks" "row" "[I") (by decide +kernel)) (fun _ h9 => h9) rfl dX2_handFrom_29 ?_
          refine lv_iload hx hb dX2_handFrom_32 (lv_at hl 0 rfl) ?_
          refine va_iald hx hb hK hP 3 0 rfl rfl (i := nI i) (vp_in_nI (by omega) (by decide)) dX2_handFrom_34 ?_
          refine jr_callS (n := 1) (As := [.int (vrow (nI i).toNatClampNeg)]) (rest := [.long y2]) S (c_X2_bit (vrow (nI i).toNatClampNeg)) gX2_handFrom_X2_bit rfl (by decide +kernel) rfl ⟨⟨rfl, rfl⟩, ⟨Nat.le_of_ble_eq_true rfl, Nat.le_of_ble_eq_true rfl⟩, Nat.le_of_ble_eq_true rfl, Nat.le_of_ble_eq_true rfl⟩ hP hK hN [] [] rfl rfl (lv_nil hl) rfl (Nat.le_of_ble_eq_true rfl) dX2_handFrom_35 ?_
          refine lv_lor hx hb dX2_handFrom_38 ?_
          refine lv_lstore_n (lv' := [(2, .long (y2 ||| (j_X2_bit (vrow (nI i).toNatClampNeg)))), (4, .int (nI i)), (0, .ref a0), (1, .int x0)]) hx hb dX2_handFrom_39 rfl hl (by decide) rfl (fun ls hl => ?_)
          refine lv_iinc (v := nI (i + 1)) (lv' := [(4, .int (nI (i + 1))), (2, .long (y2 ||| (j_X2_bit (vrow (nI i).toNatClampNeg)))), (0, .ref a0), (1, .int x0)]) hx hb dX2_handFrom_40 hl (k := 1) rfl (nI_1 i) (by decide) rfl (fun ls hl => ?_)
          refine lv_goto (tgt := 5) hx hb dX2_handFrom_43 (by decide) ?_
          exact ih (i + 1) (y2 ||| (j_X2_bit (vrow (nI i).toNatClampNeg))) (by omega) (by rw [← hv]; simp only [j_X2_handFrom_5, if_neg hge, if_pos hgl, if_neg c_5001, if_neg c_5002]) ls (lv_sub hl [0, 1, 2, 3] rfl)
  refine lv_lconst (v := 0) hx hb dX2_handFrom_0 (by decide) ?_
  refine lv_lstore_n (lv' := [(2, .long 0), (0, .ref a0), (1, .int x0)]) hx hb dX2_handFrom_1 rfl hl (by decide) rfl (fun ls hl => ?_)
  refine lv_iconst (v := 0) hx hb dX2_handFrom_2 (by decide) ?_
  refine lv_istore (lv' := [(4, .int 0), (2, .long 0), (0, .ref a0), (1, .int x0)]) hx hb dX2_handFrom_3 hl (by decide) rfl (fun ls hl => ?_)
  exact loop5 42 0 0 rfl (by simp only [j_X2_handFrom]) ls (lv_sub (l' := [(4, .int (nI 0)), (2, .long 0), (0, .ref a0), (1, .int x0)]) hl [0, 1, 2, 3] rfl)

abbrev rX1_mayPlay : Room := { frames := 3, cells := 0, slots := 0, locals := 70 }
def j_X1_mayPlay (vtr : Int32) (x0 : Int64) (x1 : Int32) (x2 : Int32) : Int32 := (if j_X2_has x0 x1 = 0 then 0 else (if x2 = (-1) then (if j_X2_reasonAgainstLeading x0 x1 = 0 then 1 else 0) else (if j_X2_reasonAgainstReplying x0 x1 x2 vtr = 0 then 1 else 0)))
theorem inX1_mayPlay_X1 : ∀ w ∈ u_ws RX1 TX1 4, w ∈ wsX1_mayPlay := by decide +kernel
set_option maxRecDepth 100000 in
set_option maxHeartbeats 4000000 in
theorem c_X1_mayPlay {l : Launch} {D : va_G} (aE : Nat) (aM : Nat) (cM : ClassId) (vtab : Nat → Int32) (vfa : Int64) (vsa : Int64) (vtr : Int32) (x0 : Int64) (x1 : Int32) (x2 : Int32) : jR l yX1_mayPlay wsX1_mayPlay rX1_mayPlay D [.ref aE, .long x0, .int x1, .int x2] (jE aE aM cM vtab vfa vsa vtr) [(cM, .int)] (.int (j_X1_mayPlay vtr x0 x1 x2)) := by
  refine jR_of (cc := cX1_mayPlay) (maxL := 6) (ret := (some .boolean)) (by decide) rfl (Nat.le_of_ble_eq_true rfl) ?_
  intro p e s m below meth c ls S hr hlocks hP hK hN hl
  obtain ⟨hx, hb, hml, hown, hts⟩ := id S
  have hl : lv_has ls 6 [(0, .ref aE), (1, .long x0), (3, .int x1), (4, .int x2)] := hl
  refine lv_lload_n hx hb dX1_mayPlay_0 rfl (lv_at hl 1 rfl) ?_
  refine lv_iload_n hx hb dX1_mayPlay_1 rfl (lv_at hl 2 rfl) ?_
  refine jr_callSN (n := 2) (As := [.long x0, .int x1]) (rest := []) S (c_X2_has x0 x1) gX1_mayPlay_X2_has_n72 rfl hN.2.2.1 (hts (.initialized RX2) (by decide +kernel)) (hts (.static yX2_has) (by decide +kernel)) (by decide +kernel) rfl ⟨⟨rfl, rfl⟩, ⟨Nat.le_of_ble_eq_true rfl, Nat.le_of_ble_eq_true rfl⟩, Nat.le_of_ble_eq_true rfl, Nat.le_of_ble_eq_true rfl⟩ hP hK hN [] [] rfl rfl (lv_nil hl) rfl (Nat.le_of_ble_eq_true rfl) dX1_mayPlay_2 ?_
  refine lv_if_ne (tgt := 10) hx hb dX1_mayPlay_5 (by decide) (fun c_1 => ?_) (fun c_1 => ?_)
  · skip
    refine lv_iload hx hb dX1_mayPlay_10 (lv_at hl 3 rfl) ?_
    refine lv_iconst (v := (-1)) hx hb dX1_mayPlay_12 (by decide) ?_
    refine lv_icmp_ne (tgt := 24) hx hb dX1_mayPlay_13 (by decide) (fun c_2 => ?_) (fun c_2 => ?_)
    · skip
      refine lv_lload_n hx hb dX1_mayPlay_24 rfl (lv_at hl 1 rfl) ?_
      refine lv_iload_n hx hb dX1_mayPlay_25 rfl (lv_at hl 2 rfl) ?_
      refine lv_iload hx hb dX1_mayPlay_26 (lv_at hl 3 rfl) ?_
      refine lv_aload_n hx hb dX1_mayPlay_28 rfl (lv_at hl 0 rfl) ?_
      refine va_get (D := D) (ci := 1) (v := .int vtr) (C := RX1) (T := TX1) (N := 4) hx hb hts inX1_mayPlay_X1 hown hK hP 0 rfl rfl 3 (by decide) (hts (.fieldLink RX1 22 "ArchivistTricks$Ending" "trump" "I") (by decide +kernel)) (fun _ h9 => h9) rfl dX1_mayPlay_29 ?_
      refine jr_callSN (n := 4) (As := [.long x0, .int x1, .int x2, .int vtr]) (rest := []) S (c_X2_reasonAgainstReplying x0 x1 x2 vtr) gX1_mayPlay_X2_reasonAgainstReplying_n80 rfl hN.2.2.2.2.1 (hts (.initialized RX2) (by decide +kernel)) (hts (.static yX2_reasonAgainstReplying) (by decide +kernel)) (by decide +kernel) rfl ⟨⟨rfl, rfl⟩, ⟨Nat.le_of_ble_eq_true rfl, Nat.le_of_ble_eq_true rfl⟩, Nat.le_of_ble_eq_true rfl, Nat.le_of_ble_eq_true rfl⟩ hP hK hN [] [] rfl rfl (lv_nil hl) rfl (Nat.le_of_ble_eq_true rfl) dX1_mayPlay_32 ?_
      refine lv_istore (lv' := [(5, .int (j_X2_reasonAgainstReplying x0 x1 x2 vtr)), (0, .ref aE), (1, .long x0), (3, .int x1), (4, .int x2)]) hx hb dX1_mayPlay_35 hl (by decide) rfl (fun ls hl => ?_)
      refine lv_iload hx hb dX1_mayPlay_37 (lv_at hl 0 rfl) ?_
      refine lv_if_ne (tgt := 46) hx hb dX1_mayPlay_39 (by decide) (fun c_3 => ?_) (fun c_3 => ?_)
      · skip
        refine lv_iconst (v := 0) hx hb dX1_mayPlay_46 (by decide) ?_
        exact jr_zret hx hb hr hlocks dX1_mayPlay_47 rfl (by simp only [j_X1_mayPlay, if_neg c_1, if_neg c_2, if_neg c_3])
      · skip
        refine lv_iconst (v := 1) hx hb dX1_mayPlay_42 (by decide) ?_
        refine lv_goto (tgt := 47) hx hb dX1_mayPlay_43 (by decide) ?_
        exact jr_zret hx hb hr hlocks dX1_mayPlay_47 rfl (by simp only [j_X1_mayPlay, if_neg c_1, if_neg c_2, if_pos c_3])
    · skip
      refine lv_lload_n hx hb dX1_mayPlay_16 rfl (lv_at hl 1 rfl) ?_
      refine lv_iload_n hx hb dX1_mayPlay_17 rfl (lv_at hl 2 rfl) ?_
      refine jr_callSN (n := 2) (As := [.long x0, .int x1]) (rest := []) S (c_X2_reasonAgainstLeading x0 x1) gX1_mayPlay_X2_reasonAgainstLeading_n76 rfl hN.2.2.2.1 (hts (.initialized RX2) (by decide +kernel)) (hts (.static yX2_reasonAgainstLeading) (by decide +kernel)) (by decide +kernel) rfl ⟨⟨rfl, rfl⟩, ⟨Nat.le_of_ble_eq_true rfl, Nat.le_of_ble_eq_true rfl⟩, Nat.le_of_ble_eq_true rfl, Nat.le_of_ble_eq_true rfl⟩ hP hK hN [] [] rfl rfl (lv_nil hl) rfl (Nat.le_of_ble_eq_true rfl) dX1_mayPlay_18 ?_
      refine lv_goto (tgt := 35) hx hb dX1_mayPlay_21 (by decide) ?_
      refine lv_istore (lv' := [(5, .int (j_X2_reasonAgainstLeading x0 x1)), (0, .ref aE), (1, .long x0), (3, .int x1), (4, .int x2)]) hx hb dX1_mayPlay_35 hl (by decide) rfl (fun ls hl => ?_)
      refine lv_iload hx hb dX1_mayPlay_37 (lv_at hl 0 rfl) ?_
      refine lv_if_ne (tgt := 46) hx hb dX1_mayPlay_39 (by decide) (fun c_4 => ?_) (fun c_4 => ?_)
      · skip
        refine lv_iconst (v := 0) hx hb dX1_mayPlay_46 (by decide) ?_
        exact jr_zret hx hb hr hlocks dX1_mayPlay_47 rfl (by simp only [j_X1_mayPlay, if_neg c_1, if_pos c_2, if_neg c_4])
      · skip
        refine lv_iconst (v := 1) hx hb dX1_mayPlay_42 (by decide) ?_
        refine lv_goto (tgt := 47) hx hb dX1_mayPlay_43 (by decide) ?_
        exact jr_zret hx hb hr hlocks dX1_mayPlay_47 rfl (by simp only [j_X1_mayPlay, if_neg c_1, if_pos c_2, if_pos c_4])
  · skip
    refine lv_iconst (v := 0) hx hb dX1_mayPlay_8 (by decide) ?_
    exact jr_zret hx hb hr hlocks dX1_mayPlay_9 rfl (by simp only [j_X1_mayPlay, if_pos c_1])

abbrev rX1_keptOf : Room := { frames := 0, cells := 0, slots := 0, locals := 0 }
def j_X1_keptOf_9 (x0 : Int64) (x1 : Int64) : Nat → Nat → Int32 → Int64 → Int32
  | 0, i, y4, y5 => y4
  | n + 1, i, y4, y5 => (if lg_cmp (x0 &&& (y5 &&& (-y5))) 0 = 0 then j_X1_keptOf_9 x0 x1 n (i + 1) y4 (y5 &&& ((y5 &&& (-y5)) ^^^ (-1))) else j_X1_keptOf_9 x0 x1 n (i + 1) (y4 ||| (1 <<< ((nI i) &&& 31))) (y5 &&& ((y5 &&& (-y5)) ^^^ (-1))))
def j_X1_keptOf (x0 : Int64) (x1 : Int64) : Int32 := j_X1_keptOf_9 x0 x1 6 0 0 x1
set_option maxRecDepth 100000 in
set_option maxHeartbeats 4000000 in
theorem c_X1_keptOf {l : Launch} {D : va_G} (x0 : Int64) (x1 : Int64) : jR l yX1_keptOf wsX1_keptOf rX1_keptOf D [.long x0, .long x1] [] [] (.int (j_X1_keptOf x0 x1)) := by
  refine jR_of (cc := cX1_keptOf) (maxL := 10) (ret := (some .int)) (by decide) rfl (Nat.le_of_ble_eq_true rfl) ?_
  intro p e s m below meth c ls S hr hlocks hP hK hN hl
  obtain ⟨hx, hb, hml, hown, hts⟩ := id S
  have hl : lv_has ls 10 [(0, .long x0), (2, .long x1)] := hl
  have loop9 : ∀ (n i : Nat) (y4 : Int32) (y5 : Int64), i + n = 6 → j_X1_keptOf_9 x0 x1 n i y4 y5 = (j_X1_keptOf x0 x1) → ∀ (ls : Array Slot), lv_has ls 10 [(7, .int (nI i)), (4, .int y4), (5, .long y5), (0, .long x0), (2, .long x1)] → W p l e rX1_keptOf s m ([.long x0, .long x1] : List Value).toArray below meth c s.heap [] 0 0 (MQ below (k2_QcV (.int (j_X1_keptOf x0 x1))) ([.long x0, .long x1] : List Value).toArray s 0 0 (fun _ => False)) (F0 m 9 ls []) := by
    intro n
    induction n with
    | zero =>
      intro i y4 y5 hin hv ls hl
      have hge : (6 : Int32) ≤ nI i := by rw [show i = 6 by omega]; decide
      have hgl : ¬ nI i < (6 : Int32) := by rw [show i = 6 by omega]; decide
      refine lv_iload hx hb dX1_keptOf_9 (lv_at hl 0 rfl) ?_
      refine lv_bipush (v := 6) hx hb dX1_keptOf_11 (by decide) ?_
      refine lv_icmp_ge (tgt := 59) hx hb dX1_keptOf_13 (by decide) (fun _ => ?_) (fun c_ => absurd hge c_)
      refine lv_iload hx hb dX1_keptOf_59 (lv_at hl 1 rfl) ?_
      exact jr_iret hx hb hr hlocks dX1_keptOf_61 (by rw [← hv]; simp only [j_X1_keptOf_9, if_pos hge, if_neg hgl])
    | succ n ih =>
      intro i y4 y5 hin hv ls hl
      have hge : ¬ (6 : Int32) ≤ nI i := nI_ge (a := i) (b := 6) (by omega) (by decide)
      have hgl : nI i < (6 : Int32) := nI_lt (a := i) (b := 6) (by omega) (by decide)
      refine lv_iload hx hb dX1_keptOf_9 (lv_at hl 0 rfl) ?_
      refine lv_bipush (v := 6) hx hb dX1_keptOf_11 (by decide) ?_
      refine lv_icmp_ge (tgt := 59) hx hb dX1_keptOf_13 (by decide) (fun c_ => absurd c_ hge) (fun _ => ?_)
      refine lv_lload hx hb dX1_keptOf_16 (lv_at hl 2 rfl) ?_
      refine lv_lload hx hb dX1_keptOf_18 (lv_at hl 2 rfl) ?_
      refine lv_lneg hx hb dX1_keptOf_20 ?_
      refine lv_land hx hb dX1_keptOf_21 ?_
      refine lv_lstore (lv' := [(8, .long (y5 &&& (-y5))), (7, .int (nI i)), (4, .int y4), (5, .long y5), (0, .long x0), (2, .long x1)]) hx hb dX1_keptOf_22 hl (by decide) rfl (fun ls hl => ?_)
      refine lv_lload_n hx hb dX1_keptOf_24 rfl (lv_at hl 4 rfl) ?_
      refine lv_lload hx hb dX1_keptOf_25 (lv_at hl 0 rfl) ?_
      refine lv_land hx hb dX1_keptOf_27 ?_
      refine lv_lconst (v := 0) hx hb dX1_keptOf_28 (by decide) ?_
      refine W.lcmp hx hb dX1_keptOf_29 ?_
      refine lv_if_eq (tgt := 42) hx hb dX1_keptOf_30 (by decide) (fun c_9001 => ?_) (fun c_9001 => ?_)
      · skip
        refine lv_lload hx hb dX1_keptOf_42 (lv_at hl 3 rfl) ?_
        refine lv_lload hx hb dX1_keptOf_44 (lv_at hl 0 rfl) ?_
        refine lv_ldc2 (v := (-1)) hx hb hown (hts (.constantLong RX1 54 (-1)) (by decide +kernel)) dX1_keptOf_46 ?_
        refine lv_lxor hx hb dX1_keptOf_49 ?_
        refine lv_land hx hb dX1_keptOf_50 ?_
        refine lv_lstore (lv' := [(5, .long (y5 &&& ((y5 &&& (-y5)) ^^^ (-1)))), (8, .long (y5 &&& (-y5))), (7, .int (nI i)), (4, .int y4), (0, .long x0), (2, .long x1)]) hx hb dX1_keptOf_51 hl (by decide) rfl (fun ls hl => ?_)
        refine lv_iinc (v := nI (i + 1)) (lv' := [(7, .int (nI (i + 1))), (5, .long (y5 &&& ((y5 &&& (-y5)) ^^^ (-1)))), (8, .long (y5 &&& (-y5))), (4, .int y4), (0, .long x0), (2, .long x1)]) hx hb dX1_keptOf_53 hl (k := 2) rfl (nI_1 i) (by decide) rfl (fun ls hl => ?_)
        refine lv_goto (tgt := 9) hx hb dX1_keptOf_56 (by decide) ?_
        exact ih (i + 1) y4 (y5 &&& ((y5 &&& (-y5)) ^^^ (-1))) (by omega) (by rw [← hv]; simp only [j_X1_keptOf_9, if_neg hge, if_pos hgl, if_pos c_9001]) ls (lv_sub hl [0, 3, 1, 4, 5] rfl)
      · skip
        refine lv_iload hx hb dX1_keptOf_33 (lv_at hl 2 rfl) ?_
        refine lv_iconst (v := 1) hx hb dX1_keptOf_35 (by decide) ?_
        refine lv_iload hx hb dX1_keptOf_36 (lv_at hl 1 rfl) ?_
        refine lv_ishl hx hb dX1_keptOf_38 ?_
        refine lv_ior hx hb dX1_keptOf_39 ?_
        refine lv_istore (lv' := [(4, .int (y4 ||| (1 <<< ((nI i) &&& 31)))), (8, .long (y5 &&& (-y5))), (7, .int (nI i)), (5, .long y5), (0, .long x0), (2, .long x1)]) hx hb dX1_keptOf_40 hl (by decide) rfl (fun ls hl => ?_)
        refine lv_lload hx hb dX1_keptOf_42 (lv_at hl 3 rfl) ?_
        refine lv_lload hx hb dX1_keptOf_44 (lv_at hl 1 rfl) ?_
        refine lv_ldc2 (v := (-1)) hx hb hown (hts (.constantLong RX1 54 (-1)) (by decide +kernel)) dX1_keptOf_46 ?_
        refine lv_lxor hx hb dX1_keptOf_49 ?_
        refine lv_land hx hb dX1_keptOf_50 ?_
        refine lv_lstore (lv' := [(5, .long (y5 &&& ((y5 &&& (-y5)) ^^^ (-1)))), (4, .int (y4 ||| (1 <<< ((nI i) &&& 31)))), (8, .long (y5 &&& (-y5))), (7, .int (nI i)), (0, .long x0), (2, .long x1)]) hx hb dX1_keptOf_51 hl (by decide) rfl (fun ls hl => ?_)
        refine lv_iinc (v := nI (i + 1)) (lv' := [(7, .int (nI (i + 1))), (5, .long (y5 &&& ((y5 &&& (-y5)) ^^^ (-1)))), (4, .int (y4 ||| (1 <<< ((nI i) &&& 31)))), (8, .long (y5 &&& (-y5))), (0, .long x0), (2, .long x1)]) hx hb dX1_keptOf_53 hl (k := 3) rfl (nI_1 i) (by decide) rfl (fun ls hl => ?_)
        refine lv_goto (tgt := 9) hx hb dX1_keptOf_56 (by decide) ?_
        exact ih (i + 1) (y4 ||| (1 <<< ((nI i) &&& 31))) (y5 &&& ((y5 &&& (-y5)) ^^^ (-1))) (by omega) (by rw [← hv]; simp only [j_X1_keptOf_9, if_neg hge, if_pos hgl, if_neg c_9001]) ls (lv_sub hl [0, 2, 1, 4, 5] rfl)
  refine lv_iconst (v := 0) hx hb dX1_keptOf_0 (by decide) ?_
  refine lv_istore (lv' := [(4, .int 0), (0, .long x0), (2, .long x1)]) hx hb dX1_keptOf_1 hl (by decide) rfl (fun ls hl => ?_)
  refine lv_lload_n hx hb dX1_keptOf_3 rfl (lv_at hl 2 rfl) ?_
  refine lv_lstore (lv' := [(5, .long x1), (4, .int 0), (0, .long x0), (2, .long x1)]) hx hb dX1_keptOf_4 hl (by decide) rfl (fun ls hl => ?_)
  refine lv_iconst (v := 0) hx hb dX1_keptOf_6 (by decide) ?_
  refine lv_istore (lv' := [(7, .int 0), (5, .long x1), (4, .int 0), (0, .long x0), (2, .long x1)]) hx hb dX1_keptOf_7 hl (by decide) rfl (fun ls hl => ?_)
  exact loop9 6 0 0 x1 rfl (by simp only [j_X1_keptOf]) ls (lv_sub (l' := [(7, .int (nI 0)), (4, .int 0), (5, .long x1), (0, .long x0), (2, .long x1)]) hl [0, 2, 1, 3, 4] rfl)

abbrev rX1_stateOf : Room := { frames := 1, cells := 0, slots := 0, locals := 29 }
def j_X1_stateOf (vfa : Int64) (vsa : Int64) (x0 : Int64) (x1 : Int64) (x2 : Int32) : Int32 := ((x2 <<< (12 &&& 31)) ||| ((j_X1_keptOf x0 vfa) <<< (6 &&& 31))) ||| (j_X1_keptOf x1 vsa)
theorem inX1_stateOf_X1 : ∀ w ∈ u_ws RX1 TX1 4, w ∈ wsX1_stateOf := by decide +kernel
set_option maxRecDepth 100000 in
set_option maxHeartbeats 4000000 in
theorem c_X1_stateOf {l : Launch} {D : va_G} (aE : Nat) (aM : Nat) (cM : ClassId) (vtab : Nat → Int32) (vfa : Int64) (vsa : Int64) (vtr : Int32) (x0 : Int64) (x1 : Int64) (x2 : Int32) : jR l yX1_stateOf wsX1_stateOf rX1_stateOf D [.ref aE, .long x0, .long x1, .int x2] (jE aE aM cM vtab vfa vsa vtr) [(cM, .int)] (.int (j_X1_stateOf vfa vsa x0 x1 x2)) := by
  refine jR_of (cc := cX1_stateOf) (maxL := 8) (ret := (some .int)) (by decide) rfl (Nat.le_of_ble_eq_true rfl) ?_
  intro p e s m below meth c ls S hr hlocks hP hK hN hl
  obtain ⟨hx, hb, hml, hown, hts⟩ := id S
  have hl : lv_has ls 8 [(0, .ref aE), (1, .long x0), (3, .long x1), (5, .int x2)] := hl
  refine lv_lload_n hx hb dX1_stateOf_0 rfl (lv_at hl 1 rfl) ?_
  refine lv_aload_n hx hb dX1_stateOf_1 rfl (lv_at hl 0 rfl) ?_
  refine va_get (D := D) (ci := 1) (v := .long vfa) (C := RX1) (T := TX1) (N := 4) hx hb hts inX1_stateOf_X1 hown hK hP 0 rfl rfl 1 (by decide) (hts (.fieldLink RX1 15 "ArchivistTricks$Ending" "firstAll" "J") (by decide +kernel)) (fun _ h9 => h9) rfl dX1_stateOf_2 ?_
  refine jr_callS (n := 2) (As := [.long x0, .long vfa]) (rest := []) S (c_X1_keptOf x0 vfa) gX1_stateOf_X1_keptOf rfl (by decide +kernel) rfl ⟨⟨rfl, rfl⟩, ⟨Nat.le_of_ble_eq_true rfl, Nat.le_of_ble_eq_true rfl⟩, Nat.le_of_ble_eq_true rfl, Nat.le_of_ble_eq_true rfl⟩ hP hK hN [] [] rfl rfl (lv_nil hl) rfl (Nat.le_of_ble_eq_true rfl) dX1_stateOf_5 ?_
  refine lv_istore (lv' := [(6, .int (j_X1_keptOf x0 vfa)), (0, .ref aE), (1, .long x0), (3, .long x1), (5, .int x2)]) hx hb dX1_stateOf_8 hl (by decide) rfl (fun ls hl => ?_)
  refine lv_lload_n hx hb dX1_stateOf_10 rfl (lv_at hl 3 rfl) ?_
  refine lv_aload_n hx hb dX1_stateOf_11 rfl (lv_at hl 1 rfl) ?_
  refine va_get (D := D) (ci := 1) (v := .long vsa) (C := RX1) (T := TX1) (N := 4) hx hb hts inX1_stateOf_X1 hown hK hP 0 rfl rfl 2 (by decide) (hts (.fieldLink RX1 19 "ArchivistTricks$Ending" "secondAll" "J") (by decide +kernel)) (fun _ h9 => h9) rfl dX1_stateOf_12 ?_
  refine jr_callS (n := 2) (As := [.long x1, .long vsa]) (rest := []) S (c_X1_keptOf x1 vsa) gX1_stateOf_X1_keptOf rfl (by decide +kernel) rfl ⟨⟨rfl, rfl⟩, ⟨Nat.le_of_ble_eq_true rfl, Nat.le_of_ble_eq_true rfl⟩, Nat.le_of_ble_eq_true rfl, Nat.le_of_ble_eq_true rfl⟩ hP hK hN [] [] rfl rfl (lv_nil hl) rfl (Nat.le_of_ble_eq_true rfl) dX1_stateOf_15 ?_
  refine lv_istore (lv' := [(7, .int (j_X1_keptOf x1 vsa)), (6, .int (j_X1_keptOf x0 vfa)), (0, .ref aE), (1, .long x0), (3, .long x1), (5, .int x2)]) hx hb dX1_stateOf_18 hl (by decide) rfl (fun ls hl => ?_)
  refine lv_iload hx hb dX1_stateOf_20 (lv_at hl 5 rfl) ?_
  refine lv_bipush (v := 12) hx hb dX1_stateOf_22 (by decide) ?_
  refine lv_ishl hx hb dX1_stateOf_24 ?_
  refine lv_iload hx hb dX1_stateOf_25 (lv_at hl 1 rfl) ?_
  refine lv_bipush (v := 6) hx hb dX1_stateOf_27 (by decide) ?_
  refine lv_ishl hx hb dX1_stateOf_29 ?_
  refine lv_ior hx hb dX1_stateOf_30 ?_
  refine lv_iload hx hb dX1_stateOf_31 (lv_at hl 0 rfl) ?_
  refine lv_ior hx hb dX1_stateOf_33 ?_
  exact jr_iret hx hb hr hlocks dX1_stateOf_34 (by simp only [j_X1_stateOf])
end
section
/-! THE CLASS: methods that write (laid by wip/whole/rows.py) -/
abbrev rX0_begin : Room := { frames := 0, cells := 0, slots := 0, locals := 0 }
def j_X0_begin_vh (x0 : Int64) : Int64 := x0
def j_X0_begin_vt  : Int64 := 0
def j_X0_begin_vp  : Int32 := 0
def j_X0_begin_vk  : Int32 := 0
def j_X0_begin_vg  : Int32 := 0
theorem inX0_begin_X0 : ∀ w ∈ u_ws RX0 TX0 5, w ∈ wsX0_begin := by decide +kernel
set_option maxRecDepth 100000 in
set_option maxHeartbeats 8000000 in
theorem c_X0_begin {l : Launch} {D : va_G} (aF : Nat) (vh : Int64) (vt : Int64) (vp : Int32) (vk : Int32) (vg : Int32) (x0 : Int64) : jWv l yX0_begin wsX0_begin rX0_begin D [.ref aF, .long x0] (jA aF vh vt vp vk vg) [] (jA aF (j_X0_begin_vh x0) (j_X0_begin_vt) (j_X0_begin_vp) (j_X0_begin_vk) (j_X0_begin_vg)) := by
  refine jW_of (QQ := fun A => (jQv D (jA aF (j_X0_begin_vh x0) (j_X0_begin_vt) (j_X0_begin_vp) (j_X0_begin_vk) (j_X0_begin_vg)) [] A)) (cc := cX0_begin) (maxL := 3) (ret := none) (by decide) rfl (Nat.le_of_ble_eq_true rfl) ?_
  intro p e s m below meth c ls A S hr hlocks hini hP hK hN hD hS hA hl
  obtain ⟨hx, hb, hml, hown, hts⟩ := id S
  have hl : lv_has ls 3 [(0, .ref aF), (1, .long x0)] := hl
  refine lv_aload_n hx hb dX0_begin_0 rfl (lv_at hl 0 rfl) ?_
  refine lv_lload_n hx hb dX0_begin_1 rfl (lv_at hl 1 rfl) ?_
  refine va_put (D := D) (ci := 0) (v := .long x0) (ty := .long) (C := RX0) (T := TX0) (N := 5) hx hb hts inX0_begin_X0 tyX0 tyX0_ok nmX0 hown hK hP hD hS 0 rfl rfl 0 (by decide) (hts (.fieldLink RX0 9 "ArchivistTricks$Archivist" "hand" "J") (by decide +kernel)) (fun _ h9 => h9) rfl (by decide +kernel) rfl rfl (Nat.le_of_ble_eq_true rfl) dX0_begin_2 (fun H locs hP hD hS => ?_)
  have hP : va_P D vwCl [(aF, .inr (0, [.long x0, .long vt, .int vp, .int vk, .int vg]))] H := hP
  have hD : va_D A [(aF, .inr (0, [.long x0, .long vt, .int vp, .int vk, .int vg]))] := hD
  refine lv_aload_n hx hb dX0_begin_5 rfl (lv_at hl 0 rfl) ?_
  refine lv_lconst (v := 0) hx hb dX0_begin_6 (by decide) ?_
  refine va_put (D := D) (ci := 0) (v := .long 0) (ty := .long) (C := RX0) (T := TX0) (N := 5) hx hb hts inX0_begin_X0 tyX0 tyX0_ok nmX0 hown hK hP hD hS 0 rfl rfl 1 (by decide) (hts (.fieldLink RX0 15 "ArchivistTricks$Archivist" "taken" "J") (by decide +kernel)) (fun _ h9 => h9) rfl (by decide +kernel) rfl rfl (Nat.le_of_ble_eq_true rfl) dX0_begin_7 (fun H locs hP hD hS => ?_)
  have hP : va_P D vwCl [(aF, .inr (0, [.long x0, .long 0, .int vp, .int vk, .int vg]))] H := hP
  have hD : va_D A [(aF, .inr (0, [.long x0, .long 0, .int vp, .int vk, .int vg]))] := hD
  refine lv_aload_n hx hb dX0_begin_10 rfl (lv_at hl 0 rfl) ?_
  refine lv_iconst (v := 0) hx hb dX0_begin_11 (by decide) ?_
  refine va_put (D := D) (ci := 0) (v := .int 0) (ty := .int) (C := RX0) (T := TX0) (N := 5) hx hb hts inX0_begin_X0 tyX0 tyX0_ok nmX0 hown hK hP hD hS 0 rfl rfl 2 (by decide) (hts (.fieldLink RX0 18 "ArchivistTricks$Archivist" "points" "I") (by decide +kernel)) (fun _ h9 => h9) rfl (by decide +kernel) rfl rfl (Nat.le_of_ble_eq_true rfl) dX0_begin_12 (fun H locs hP hD hS => ?_)
  have hP : va_P D vwCl [(aF, .inr (0, [.long x0, .long 0, .int 0, .int vk, .int vg]))] H := hP
  have hD : va_D A [(aF, .inr (0, [.long x0, .long 0, .int 0, .int vk, .int vg]))] := hD
  refine lv_aload_n hx hb dX0_begin_15 rfl (lv_at hl 0 rfl) ?_
  refine lv_iconst (v := 0) hx hb dX0_begin_16 (by decide) ?_
  refine va_put (D := D) (ci := 0) (v := .int 0) (ty := .int) (C := RX0) (T := TX0) (N := 5) hx hb hts inX0_begin_X0 tyX0 tyX0_ok nmX0 hown hK hP hD hS 0 rfl rfl 3 (by decide) (hts (.fieldLink RX0 22 "ArchivistTricks$Archivist" "tricks" "I") (by decide +kernel)) (fun _ h9 => h9) rfl (by decide +kernel) rfl rfl (Nat.le_of_ble_eq_true rfl) dX0_begin_17 (fun H locs hP hD hS => ?_)
  have hP : va_P D vwCl [(aF, .inr (0, [.long x0, .long 0, .int 0, .int 0, .int vg]))] H := hP
  have hD : va_D A [(aF, .inr (0, [.long x0, .long 0, .int 0, .int 0, .int vg]))] := hD
  refine lv_aload_n hx hb dX0_begin_20 rfl (lv_at hl 0 rfl) ?_
  refine lv_iconst (v := 0) hx hb dX0_begin_21 (by decide) ?_
  refine va_put (D := D) (ci := 0) (v := .int 0) (ty := .int) (C := RX0) (T := TX0) (N := 5) hx hb hts inX0_begin_X0 tyX0 tyX0_ok nmX0 hown hK hP hD hS 0 rfl rfl 4 (by decide) (hts (.fieldLink RX0 25 "ArchivistTricks$Archivist" "gloves" "I") (by decide +kernel)) (fun _ h9 => h9) rfl (by decide +kernel) rfl rfl (Nat.le_of_ble_eq_true rfl) dX0_begin_22 (fun H locs hP hD hS => ?_)
  have hP : va_P D vwCl [(aF, .inr (0, [.long x0, .long 0, .int 0, .int 0, .int 0]))] H := hP
  have hD : va_D A [(aF, .inr (0, [.long x0, .long 0, .int 0, .int 0, .int 0]))] := hD
  exact jw_vret hx hb hr hlocks hK hP hD hS dX0_begin_25 (by  simp only [j_X0_begin_vh, j_X0_begin_vt, j_X0_begin_vp, j_X0_begin_vk, j_X0_begin_vg])

abbrev rX0_loseWornGloves : Room := { frames := 0, cells := 0, slots := 0, locals := 0 }
def j_X0_loseWornGloves_vg (vg : Int32) : Int32 := (if vg = 1 then 2 else vg)
theorem inX0_loseWornGloves_X0 : ∀ w ∈ u_ws RX0 TX0 5, w ∈ wsX0_loseWornGloves := by decide +kernel
set_option maxRecDepth 100000 in
set_option maxHeartbeats 8000000 in
theorem c_X0_loseWornGloves {l : Launch} {D : va_G} (aF : Nat) (vh : Int64) (vt : Int64) (vp : Int32) (vk : Int32) (vg : Int32) : jWv l yX0_loseWornGloves wsX0_loseWornGloves rX0_loseWornGloves D [.ref aF] (jA aF vh vt vp vk vg) [] (jA aF vh vt vp vk (j_X0_loseWornGloves_vg vg)) := by
  refine jW_of (QQ := fun A => (jQv D (jA aF vh vt vp vk (j_X0_loseWornGloves_vg vg)) [] A)) (cc := cX0_loseWornGloves) (maxL := 1) (ret := none) (by decide) rfl (Nat.le_of_ble_eq_true rfl) ?_
  intro p e s m below meth c ls A S hr hlocks hini hP hK hN hD hS hA hl
  obtain ⟨hx, hb, hml, hown, hts⟩ := id S
  have hl : lv_has ls 1 [(0, .ref aF)] := hl
  refine lv_aload_n hx hb dX0_loseWornGloves_0 rfl (lv_at hl 0 rfl) ?_
  refine va_get (D := D) (ci := 0) (v := .int vg) (C := RX0) (T := TX0) (N := 5) hx hb hts inX0_loseWornGloves_X0 hown hK hP 0 rfl rfl 4 (by decide) (hts (.fieldLink RX0 25 "ArchivistTricks$Archivist" "gloves" "I") (by decide +kernel)) (fun _ h9 => h9) rfl dX0_loseWornGloves_1 ?_
  refine lv_iconst (v := 1) hx hb dX0_loseWornGloves_4 (by decide) ?_
  refine lv_icmp_ne (tgt := 13) hx hb dX0_loseWornGloves_5 (by decide) (fun c_1 => ?_) (fun c_1 => ?_)
  · skip
    exact jw_vret hx hb hr hlocks hK hP hD hS dX0_loseWornGloves_13 (by  simp only [j_X0_loseWornGloves_vg, if_neg c_1])
  · skip
    refine lv_aload_n hx hb dX0_loseWornGloves_8 rfl (lv_at hl 0 rfl) ?_
    refine lv_iconst (v := 2) hx hb dX0_loseWornGloves_9 (by decide) ?_
    refine va_put (D := D) (ci := 0) (v := .int 2) (ty := .int) (C := RX0) (T := TX0) (N := 5) hx hb hts inX0_loseWornGloves_X0 tyX0 tyX0_ok nmX0 hown hK hP hD hS 0 rfl rfl 4 (by decide) (hts (.fieldLink RX0 25 "ArchivistTricks$Archivist" "gloves" "I") (by decide +kernel)) (fun _ h9 => h9) rfl (by decide +kernel) rfl rfl (Nat.le_of_ble_eq_true rfl) dX0_loseWornGloves_10 (fun H locs hP hD hS => ?_)
    have hP : va_P D vwCl [(aF, .inr (0, [.long vh, .long vt, .int vp, .int vk, .int 2]))] H := hP
    have hD : va_D A [(aF, .inr (0, [.long vh, .long vt, .int vp, .int vk, .int 2]))] := hD
    exact jw_vret hx hb hr hlocks hK hP hD hS dX0_loseWornGloves_13 (by  simp only [j_X0_loseWornGloves_vg, if_pos c_1])

abbrev rX2_drawFor_F : Room := { frames := 1, cells := 0, slots := 0, locals := 20 }
def j_X2_drawFor_F_vdrawn (vdrawn : Int32) : Int32 := (if vdrawn < 0 then vdrawn else (if 42 ≤ vdrawn then vdrawn else vdrawn + 1))
def j_X2_drawFor_F_vh1 (vrow : Nat → Int32) (vdrawn : Int32) (vh1 : Int64) : Int64 := (if vdrawn < 0 then vh1 else (if 42 ≤ vdrawn then vh1 else vh1 ||| (j_X2_bit (vrow (vdrawn).toNatClampNeg))))
theorem inX2_drawFor_F_X0 : ∀ w ∈ u_ws RX0 TX0 5, w ∈ wsX2_drawFor := by decide +kernel
theorem inX2_drawFor_F_X2 : ∀ w ∈ u_ws RX2 TX2 11, w ∈ wsX2_drawFor := by decide +kernel
set_option maxRecDepth 100000 in
set_option maxHeartbeats 8000000 in
theorem c_X2_drawFor_F {l : Launch} {D : va_G} (a0 : Nat) (aR : Nat) (aF : Nat) (aG : Nat) (cI : ClassId) (vrow : Nat → Int32) (vdrawn : Int32) (vtr : Int32) (vled : Int32) (vmov : Int32) (vw1 : Int32) (vw2 : Int32) (veo : Option Nat) (veb : Int32) (vh1 : Int64) (vt1 : Int64) (vp1 : Int32) (vk1 : Int32) (vg1 : Int32) (vh2 : Int64) (vt2 : Int64) (vp2 : Int32) (vk2 : Int32) (vg2 : Int32) : jWv l yX2_drawFor wsX2_drawFor rX2_drawFor_F D [.ref a0, .ref aF] (jC a0 aR aF aG cI vrow vdrawn vtr vled vmov vw1 vw2 veo veb vh1 vt1 vp1 vk1 vg1 vh2 vt2 vp2 vk2 vg2) [(cI, .int)] (jC a0 aR aF aG cI vrow (j_X2_drawFor_F_vdrawn vdrawn) vtr vled vmov vw1 vw2 veo veb (j_X2_drawFor_F_vh1 vrow vdrawn vh1) vt1 vp1 vk1 vg1 vh2 vt2 vp2 vk2 vg2) := by
  refine jW_of (QQ := fun A => (jQv D (jC a0 aR aF aG cI vrow (j_X2_drawFor_F_vdrawn vdrawn) vtr vled vmov vw1 vw2 veo veb (j_X2_drawFor_F_vh1 vrow vdrawn vh1) vt1 vp1 vk1 vg1 vh2 vt2 vp2 vk2 vg2) [(cI, .int)] A)) (cc := cX2_drawFor) (maxL := 2) (ret := none) (by decide) rfl (Nat.le_of_ble_eq_true rfl) ?_
  intro p e s m below meth c ls A S hr hlocks hini hP hK hN hD hS hA hl
  obtain ⟨hx, hb, hml, hown, hts⟩ := id S
  have hl : lv_has ls 2 [(0, .ref a0), (1, .ref aF)] := hl
  refine lv_aload_n hx hb dX2_drawFor_0 rfl (lv_at hl 0 rfl) ?_
  refine va_get (D := D) (ci := 2) (v := .int vdrawn) (C := RX2) (T := TX2) (N := 11) hx hb hts inX2_drawFor_F_X2 hown hK hP 0 rfl rfl 3 (by decide) (hts (.fieldLink RX2 23 "ArchivistTricks" "drawn" "I") (by decide +kernel)) (fun _ h9 => h9) rfl dX2_drawFor_1 ?_
  refine lv_if_lt (tgt := 47) hx hb dX2_drawFor_4 (by decide) (fun c_1 => ?_) (fun c_1 => ?_)
  · skip
    exact jw_vret hx hb hr hlocks hK hP hD hS dX2_drawFor_47 (by  simp only [j_X2_drawFor_F_vdrawn, j_X2_drawFor_F_vh1, if_pos c_1])
  · skip
    refine lv_aload_n hx hb dX2_drawFor_7 rfl (lv_at hl 0 rfl) ?_
    refine va_get (D := D) (ci := 2) (v := .int vdrawn) (C := RX2) (T := TX2) (N := 11) hx hb hts inX2_drawFor_F_X2 hown hK hP 0 rfl rfl 3 (by decide) (hts (.fieldLink RX2 23 "ArchivistTricks" "drawn" "I") (by decide +kernel)) (fun _ h9 => h9) rfl dX2_drawFor_8 ?_
    refine lv_bipush (v := 42) hx hb dX2_drawFor_11 (by decide) ?_
    refine lv_icmp_ge (tgt := 47) hx hb dX2_drawFor_13 (by decide) (fun c_2 => ?_) (fun c_2 => ?_)
    · skip
      exact jw_vret hx hb hr hlocks hK hP hD hS dX2_drawFor_47 (by  simp only [j_X2_drawFor_F_vdrawn, j_X2_drawFor_F_vh1, if_neg c_1, if_pos c_2])
    · skip
      refine lv_aload_n hx hb dX2_drawFor_16 rfl (lv_at hl 1 rfl) ?_
      refine lv_dup hx hb dX2_drawFor_17 rfl ?_
      refine va_get (D := D) (ci := 0) (v := .long vh1) (C := RX0) (T := TX0) (N := 5) hx hb hts inX2_drawFor_F_X0 hown hK hP 1 rfl rfl 0 (by decide) (hts (.fieldLink RX2 91 "ArchivistTricks$Archivist" "hand" "J") (by decide +kernel)) (fun _ h9 => h9) rfl dX2_drawFor_18 ?_
      refine lv_aload_n hx hb dX2_drawFor_21 rfl (lv_at hl 0 rfl) ?_
      refine va_get (D := D) (ci := 2) (v := .ref aR) (C := RX2) (T := TX2) (N := 11) hx hb hts inX2_drawFor_F_X2 hown hK hP 0 rfl rfl 0 (by decide) (hts (.fieldLink RX2 9 "ArchivistTricks" "row" "[I") (by decide +kernel)) (fun _ h9 => h9) rfl dX2_drawFor_22 ?_
      refine lv_aload_n hx hb dX2_drawFor_25 rfl (lv_at hl 0 rfl) ?_
      refine va_get (D := D) (ci := 2) (v := .int vdrawn) (C := RX2) (T := TX2) (N := 11) hx hb hts inX2_drawFor_F_X2 hown hK hP 0 rfl rfl 3 (by decide) (hts (.fieldLink RX2 23 "ArchivistTricks" "drawn" "I") (by decide +kernel)) (fun _ h9 => h9) rfl dX2_drawFor_26 ?_
      refine va_iald hx hb hK hP 3 0 rfl rfl (i := vdrawn) (jx_in c_1 c_2 rfl (by decide)) dX2_drawFor_29 ?_
      refine jr_callS (n := 1) (As := [.int (vrow (vdrawn).toNatClampNeg)]) (rest := [.long vh1, .ref aF]) S (c_X2_bit (vrow (vdrawn).toNatClampNeg)) gX2_drawFor_X2_bit rfl (by decide +kernel) rfl ⟨⟨rfl, rfl⟩, ⟨Nat.le_of_ble_eq_true rfl, Nat.le_of_ble_eq_true rfl⟩, Nat.le_of_ble_eq_true rfl, Nat.le_of_ble_eq_true rfl⟩ hP hK hN [] [] rfl rfl (lv_nil hl) rfl (Nat.le_of_ble_eq_true rfl) dX2_drawFor_30 ?_
      refine lv_lor hx hb dX2_drawFor_33 ?_
      refine va_put (D := D) (ci := 0) (v := .long (vh1 ||| (j_X2_bit (vrow (vdrawn).toNatClampNeg)))) (ty := .long) (C := RX0) (T := TX0) (N := 5) hx hb hts inX2_drawFor_F_X0 tyX0 tyX0_ok nmX0 hown hK hP hD hS 1 rfl rfl 0 (by decide) (hts (.fieldLink RX2 91 "ArchivistTricks$Archivist" "hand" "J") (by decide +kernel)) (fun _ h9 => h9) rfl (by decide +kernel) rfl rfl (Nat.le_of_ble_eq_true rfl) dX2_drawFor_34 (fun H locs hP hD hS => ?_)
      have hP : va_P D vwCl [(a0, .inr (2, [.ref aR, .ref aF, .ref aG, .int vdrawn, .int vtr, .int vled, .int vmov, .int vw1, .int vw2, va_rf veo, .int veb])), (aF, .inr (0, [.long (vh1 ||| (j_X2_bit (vrow (vdrawn).toNatClampNeg))), .long vt1, .int vp1, .int vk1, .int vg1])), (aG, .inr (0, [.long vh2, .long vt2, .int vp2, .int vk2, .int vg2])), (aR, .inl (cI, 42, .inl vrow))] H := hP
      have hD : va_D A [(a0, .inr (2, [.ref aR, .ref aF, .ref aG, .int vdrawn, .int vtr, .int vled, .int vmov, .int vw1, .int vw2, va_rf veo, .int veb])), (aF, .inr (0, [.long (vh1 ||| (j_X2_bit (vrow (vdrawn).toNatClampNeg))), .long vt1, .int vp1, .int vk1, .int vg1])), (aG, .inr (0, [.long vh2, .long vt2, .int vp2, .int vk2, .int vg2])), (aR, .inl (cI, 42, .inl vrow))] := hD
      refine lv_aload_n hx hb dX2_drawFor_37 rfl (lv_at hl 0 rfl) ?_
      refine lv_dup hx hb dX2_drawFor_38 rfl ?_
      refine va_get (D := D) (ci := 2) (v := .int vdrawn) (C := RX2) (T := TX2) (N := 11) hx hb hts inX2_drawFor_F_X2 hown hK hP 0 rfl rfl 3 (by decide) (hts (.fieldLink RX2 23 "ArchivistTricks" "drawn" "I") (by decide +kernel)) (fun _ h9 => h9) rfl dX2_drawFor_39 ?_
      refine lv_iconst (v := 1) hx hb dX2_drawFor_42 (by decide) ?_
      refine lv_iadd hx hb dX2_drawFor_43 ?_
      refine va_put (D := D) (ci := 2) (v := .int (vdrawn + 1)) (ty := .int) (C := RX2) (T := TX2) (N := 11) hx hb hts inX2_drawFor_F_X2 tyX2 tyX2_ok nmX2 hown hK hP hD hS 0 rfl rfl 3 (by decide) (hts (.fieldLink RX2 23 "ArchivistTricks" "drawn" "I") (by decide +kernel)) (fun _ h9 => h9) rfl (by decide +kernel) rfl rfl (Nat.le_of_ble_eq_true rfl) dX2_drawFor_44 (fun H locs hP hD hS => ?_)
      have hP : va_P D vwCl [(a0, .inr (2, [.ref aR, .ref aF, .ref aG, .int (vdrawn + 1), .int vtr, .int vled, .int vmov, .int vw1, .int vw2, va_rf veo, .int veb])), (aF, .inr (0, [.long (vh1 ||| (j_X2_bit (vrow (vdrawn).toNatClampNeg))), .long vt1, .int vp1, .int vk1, .int vg1])), (aG, .inr (0, [.long vh2, .long vt2, .int vp2, .int vk2, .int vg2])), (aR, .inl (cI, 42, .inl vrow))] H := hP
      have hD : va_D A [(a0, .inr (2, [.ref aR, .ref aF, .ref aG, .int (vdrawn + 1), .int vtr, .int vled, .int vmov, .int vw1, .int vw2, va_rf veo, .int veb])), (aF, .inr (0, [.long (vh1 ||| (j_X2_bit (vrow (vdrawn).toNatClampNeg))), .long vt1, .int vp1, .int vk1, .int vg1])), (aG, .inr (0, [.long vh2, .long vt2, .int vp2, .int vk2, .int vg2])), (aR, .inl (cI, 42, .inl vrow))] := hD
      exact jw_vret hx hb hr hlocks hK hP hD hS dX2_drawFor_47 (by  simp only [j_X2_drawFor_F_vdrawn, j_X2_drawFor_F_vh1, if_neg c_1, if_neg c_2])

abbrev rX2_drawFor_G : Room := { frames := 1, cells := 0, slots := 0, locals := 20 }
def j_X2_drawFor_G_vdrawn (vdrawn : Int32) : Int32 := (if vdrawn < 0 then vdrawn else (if 42 ≤ vdrawn then vdrawn else vdrawn + 1))
def j_X2_drawFor_G_vh2 (vrow : Nat → Int32) (vdrawn : Int32) (vh2 : Int64) : Int64 := (if vdrawn < 0 then vh2 else (if 42 ≤ vdrawn then vh2 else vh2 ||| (j_X2_bit (vrow (vdrawn).toNatClampNeg))))
theorem inX2_drawFor_G_X0 : ∀ w ∈ u_ws RX0 TX0 5, w ∈ wsX2_drawFor := by decide +kernel
theorem inX2_drawFor_G_X2 : ∀ w ∈ u_ws RX2 TX2 11, w ∈ wsX2_drawFor := by decide +kernel
set_option maxRecDepth 100000 in
set_option maxHeartbeats 8000000 in
theorem c_X2_drawFor_G {l : Launch} {D : va_G} (a0 : Nat) (aR : Nat) (aF : Nat) (aG : Nat) (cI : ClassId) (vrow : Nat → Int32) (vdrawn : Int32) (vtr : Int32) (vled : Int32) (vmov : Int32) (vw1 : Int32) (vw2 : Int32) (veo : Option Nat) (veb : Int32) (vh1 : Int64) (vt1 : Int64) (vp1 : Int32) (vk1 : Int32) (vg1 : Int32) (vh2 : Int64) (vt2 : Int64) (vp2 : Int32) (vk2 : Int32) (vg2 : Int32) : jWv l yX2_drawFor wsX2_drawFor rX2_drawFor_G D [.ref a0, .ref aG] (jC a0 aR aF aG cI vrow vdrawn vtr vled vmov vw1 vw2 veo veb vh1 vt1 vp1 vk1 vg1 vh2 vt2 vp2 vk2 vg2) [(cI, .int)] (jC a0 aR aF aG cI vrow (j_X2_drawFor_G_vdrawn vdrawn) vtr vled vmov vw1 vw2 veo veb vh1 vt1 vp1 vk1 vg1 (j_X2_drawFor_G_vh2 vrow vdrawn vh2) vt2 vp2 vk2 vg2) := by
  refine jW_of (QQ := fun A => (jQv D (jC a0 aR aF aG cI vrow (j_X2_drawFor_G_vdrawn vdrawn) vtr vled vmov vw1 vw2 veo veb vh1 vt1 vp1 vk1 vg1 (j_X2_drawFor_G_vh2 vrow vdrawn vh2) vt2 vp2 vk2 vg2) [(cI, .int)] A)) (cc := cX2_drawFor) (maxL := 2) (ret := none) (by decide) rfl (Nat.le_of_ble_eq_true rfl) ?_
  intro p e s m below meth c ls A S hr hlocks hini hP hK hN hD hS hA hl
  obtain ⟨hx, hb, hml, hown, hts⟩ := id S
  have hl : lv_has ls 2 [(0, .ref a0), (1, .ref aG)] := hl
  refine lv_aload_n hx hb dX2_drawFor_0 rfl (lv_at hl 0 rfl) ?_
  refine va_get (D := D) (ci := 2) (v := .int vdrawn) (C := RX2) (T := TX2) (N := 11) hx hb hts inX2_drawFor_G_X2 hown hK hP 0 rfl rfl 3 (by decide) (hts (.fieldLink RX2 23 "ArchivistTricks" "drawn" "I") (by decide +kernel)) (fun _ h9 => h9) rfl dX2_drawFor_1 ?_
  refine lv_if_lt (tgt := 47) hx hb dX2_drawFor_4 (by decide) (fun c_1 => ?_) (fun c_1 => ?_)
  · skip
    exact jw_vret hx hb hr hlocks hK hP hD hS dX2_drawFor_47 (by  simp only [j_X2_drawFor_G_vdrawn, j_X2_drawFor_G_vh2, if_pos c_1])
  · skip
    refine lv_aload_n hx hb dX2_drawFor_7 rfl (lv_at hl 0 rfl) ?_
    refine va_get (D := D) (ci := 2) (v := .int vdrawn) (C := RX2) (T := TX2) (N := 11) hx hb hts inX2_drawFor_G_X2 hown hK hP 0 rfl rfl 3 (by decide) (hts (.fieldLink RX2 23 "ArchivistTricks" "drawn" "I") (by decide +kernel)) (fun _ h9 => h9) rfl dX2_drawFor_8 ?_
    refine lv_bipush (v := 42) hx hb dX2_drawFor_11 (by decide) ?_
    refine lv_icmp_ge (tgt := 47) hx hb dX2_drawFor_13 (by decide) (fun c_2 => ?_) (fun c_2 => ?_)
    · skip
      exact jw_vret hx hb hr hlocks hK hP hD hS dX2_drawFor_47 (by  simp only [j_X2_drawFor_G_vdrawn, j_X2_drawFor_G_vh2, if_neg c_1, if_pos c_2])
    · skip
      refine lv_aload_n hx hb dX2_drawFor_16 rfl (lv_at hl 1 rfl) ?_
      refine lv_dup hx hb dX2_drawFor_17 rfl ?_
      refine va_get (D := D) (ci := 0) (v := .long vh2) (C := RX0) (T := TX0) (N := 5) hx hb hts inX2_drawFor_G_X0 hown hK hP 2 rfl rfl 0 (by decide) (hts (.fieldLink RX2 91 "ArchivistTricks$Archivist" "hand" "J") (by decide +kernel)) (fun _ h9 => h9) rfl dX2_drawFor_18 ?_
      refine lv_aload_n hx hb dX2_drawFor_21 rfl (lv_at hl 0 rfl) ?_
      refine va_get (D := D) (ci := 2) (v := .ref aR) (C := RX2) (T := TX2) (N := 11) hx hb hts inX2_drawFor_G_X2 hown hK hP 0 rfl rfl 0 (by decide) (hts (.fieldLink RX2 9 "ArchivistTricks" "row" "[I") (by decide +kernel)) (fun _ h9 => h9) rfl dX2_drawFor_22 ?_
      refine lv_aload_n hx hb dX2_drawFor_25 rfl (lv_at hl 0 rfl) ?_
      refine va_get (D := D) (ci := 2) (v := .int vdrawn) (C := RX2) (T := TX2) (N := 11) hx hb hts inX2_drawFor_G_X2 hown hK hP 0 rfl rfl 3 (by decide) (hts (.fieldLink RX2 23 "ArchivistTricks" "drawn" "I") (by decide +kernel)) (fun _ h9 => h9) rfl dX2_drawFor_26 ?_
      refine va_iald hx hb hK hP 3 0 rfl rfl (i := vdrawn) (jx_in c_1 c_2 rfl (by decide)) dX2_drawFor_29 ?_
      refine jr_callS (n := 1) (As := [.int (vrow (vdrawn).toNatClampNeg)]) (rest := [.long vh2, .ref aG]) S (c_X2_bit (vrow (vdrawn).toNatClampNeg)) gX2_drawFor_X2_bit rfl (by decide +kernel) rfl ⟨⟨rfl, rfl⟩, ⟨Nat.le_of_ble_eq_true rfl, Nat.le_of_ble_eq_true rfl⟩, Nat.le_of_ble_eq_true rfl, Nat.le_of_ble_eq_true rfl⟩ hP hK hN [] [] rfl rfl (lv_nil hl) rfl (Nat.le_of_ble_eq_true rfl) dX2_drawFor_30 ?_
      refine lv_lor hx hb dX2_drawFor_33 ?_
      refine va_put (D := D) (ci := 0) (v := .long (vh2 ||| (j_X2_bit (vrow (vdrawn).toNatClampNeg)))) (ty := .long) (C := RX0) (T := TX0) (N := 5) hx hb hts inX2_drawFor_G_X0 tyX0 tyX0_ok nmX0 hown hK hP hD hS 2 rfl rfl 0 (by decide) (hts (.fieldLink RX2 91 "ArchivistTricks$Archivist" "hand" "J") (by decide +kernel)) (fun _ h9 => h9) rfl (by decide +kernel) rfl rfl (Nat.le_of_ble_eq_true rfl) dX2_drawFor_34 (fun H locs hP hD hS => ?_)
      have hP : va_P D vwCl [(a0, .inr (2, [.ref aR, .ref aF, .ref aG, .int vdrawn, .int vtr, .int vled, .int vmov, .int vw1, .int vw2, va_rf veo, .int veb])), (aF, .inr (0, [.long vh1, .long vt1, .int vp1, .int vk1, .int vg1])), (aG, .inr (0, [.long (vh2 ||| (j_X2_bit (vrow (vdrawn).toNatClampNeg))), .long vt2, .int vp2, .int vk2, .int vg2])), (aR, .inl (cI, 42, .inl vrow))] H := hP
      have hD : va_D A [(a0, .inr (2, [.ref aR, .ref aF, .ref aG, .int vdrawn, .int vtr, .int vled, .int vmov, .int vw1, .int vw2, va_rf veo, .int veb])), (aF, .inr (0, [.long vh1, .long vt1, .int vp1, .int vk1, .int vg1])), (aG, .inr (0, [.long (vh2 ||| (j_X2_bit (vrow (vdrawn).toNatClampNeg))), .long vt2, .int vp2, .int vk2, .int vg2])), (aR, .inl (cI, 42, .inl vrow))] := hD
      refine lv_aload_n hx hb dX2_drawFor_37 rfl (lv_at hl 0 rfl) ?_
      refine lv_dup hx hb dX2_drawFor_38 rfl ?_
      refine va_get (D := D) (ci := 2) (v := .int vdrawn) (C := RX2) (T := TX2) (N := 11) hx hb hts inX2_drawFor_G_X2 hown hK hP 0 rfl rfl 3 (by decide) (hts (.fieldLink RX2 23 "ArchivistTricks" "drawn" "I") (by decide +kernel)) (fun _ h9 => h9) rfl dX2_drawFor_39 ?_
      refine lv_iconst (v := 1) hx hb dX2_drawFor_42 (by decide) ?_
      refine lv_iadd hx hb dX2_drawFor_43 ?_
      refine va_put (D := D) (ci := 2) (v := .int (vdrawn + 1)) (ty := .int) (C := RX2) (T := TX2) (N := 11) hx hb hts inX2_drawFor_G_X2 tyX2 tyX2_ok nmX2 hown hK hP hD hS 0 rfl rfl 3 (by decide) (hts (.fieldLink RX2 23 "ArchivistTricks" "drawn" "I") (by decide +kernel)) (fun _ h9 => h9) rfl (by decide +kernel) rfl rfl (Nat.le_of_ble_eq_true rfl) dX2_drawFor_44 (fun H locs hP hD hS => ?_)
      have hP : va_P D vwCl [(a0, .inr (2, [.ref aR, .ref aF, .ref aG, .int (vdrawn + 1), .int vtr, .int vled, .int vmov, .int vw1, .int vw2, va_rf veo, .int veb])), (aF, .inr (0, [.long vh1, .long vt1, .int vp1, .int vk1, .int vg1])), (aG, .inr (0, [.long (vh2 ||| (j_X2_bit (vrow (vdrawn).toNatClampNeg))), .long vt2, .int vp2, .int vk2, .int vg2])), (aR, .inl (cI, 42, .inl vrow))] H := hP
      have hD : va_D A [(a0, .inr (2, [.ref aR, .ref aF, .ref aG, .int (vdrawn + 1), .int vtr, .int vled, .int vmov, .int vw1, .int vw2, va_rf veo, .int veb])), (aF, .inr (0, [.long vh1, .long vt1, .int vp1, .int vk1, .int vg1])), (aG, .inr (0, [.long (vh2 ||| (j_X2_bit (vrow (vdrawn).toNatClampNeg))), .long vt2, .int vp2, .int vk2, .int vg2])), (aR, .inl (cI, 42, .inl vrow))] := hD
      exact jw_vret hx hb hr hlocks hK hP hD hS dX2_drawFor_47 (by  simp only [j_X2_drawFor_G_vdrawn, j_X2_drawFor_G_vh2, if_neg c_1, if_neg c_2])

abbrev rX2_endGame : Room := { frames := 0, cells := 0, slots := 0, locals := 0 }
def j_X2_endGame_vmov  : Int32 := (-1)
def j_X2_endGame_vw1 (vw1 : Int32) (vp1 : Int32) (vp2 : Int32) : Int32 := (if vp1 ≤ vp2 then vw1 else vw1 + 1)
def j_X2_endGame_vw2 (vw2 : Int32) (vp1 : Int32) (vp2 : Int32) : Int32 := (if vp1 ≤ vp2 then (if vp2 ≤ vp1 then vw2 else vw2 + 1) else vw2)
theorem inX2_endGame_X0 : ∀ w ∈ u_ws RX0 TX0 5, w ∈ wsX2_endGame := by decide +kernel
theorem inX2_endGame_X2 : ∀ w ∈ u_ws RX2 TX2 11, w ∈ wsX2_endGame := by decide +kernel
set_option maxRecDepth 100000 in
set_option maxHeartbeats 8000000 in
theorem c_X2_endGame {l : Launch} {D : va_G} (a0 : Nat) (aR : Nat) (aF : Nat) (aG : Nat) (cI : ClassId) (vrow : Nat → Int32) (vdrawn : Int32) (vtr : Int32) (vled : Int32) (vmov : Int32) (vw1 : Int32) (vw2 : Int32) (veo : Option Nat) (veb : Int32) (vh1 : Int64) (vt1 : Int64) (vp1 : Int32) (vk1 : Int32) (vg1 : Int32) (vh2 : Int64) (vt2 : Int64) (vp2 : Int32) (vk2 : Int32) (vg2 : Int32) : jWv l yX2_endGame wsX2_endGame rX2_endGame D [.ref a0] (jC a0 aR aF aG cI vrow vdrawn vtr vled vmov vw1 vw2 veo veb vh1 vt1 vp1 vk1 vg1 vh2 vt2 vp2 vk2 vg2) [(cI, .int)] (jC a0 aR aF aG cI vrow vdrawn vtr vled (j_X2_endGame_vmov) (j_X2_endGame_vw1 vw1 vp1 vp2) (j_X2_endGame_vw2 vw2 vp1 vp2) veo veb vh1 vt1 vp1 vk1 vg1 vh2 vt2 vp2 vk2 vg2) := by
  refine jW_of (QQ := fun A => (jQv D (jC a0 aR aF aG cI vrow vdrawn vtr vled (j_X2_endGame_vmov) (j_X2_endGame_vw1 vw1 vp1 vp2) (j_X2_endGame_vw2 vw2 vp1 vp2) veo veb vh1 vt1 vp1 vk1 vg1 vh2 vt2 vp2 vk2 vg2) [(cI, .int)] A)) (cc := cX2_endGame) (maxL := 1) (ret := none) (by decide) rfl (Nat.le_of_ble_eq_true rfl) ?_
  intro p e s m below meth c ls A S hr hlocks hini hP hK hN hD hS hA hl
  obtain ⟨hx, hb, hml, hown, hts⟩ := id S
  have hl : lv_has ls 1 [(0, .ref a0)] := hl
  refine lv_aload_n hx hb dX2_endGame_0 rfl (lv_at hl 0 rfl) ?_
  refine lv_iconst (v := (-1)) hx hb dX2_endGame_1 (by decide) ?_
  refine va_put (D := D) (ci := 2) (v := .int (-1)) (ty := .int) (C := RX2) (T := TX2) (N := 11) hx hb hts inX2_endGame_X2 tyX2 tyX2_ok nmX2 hown hK hP hD hS 0 rfl rfl 6 (by decide) (hts (.fieldLink RX2 33 "ArchivistTricks" "mover" "I") (by decide +kernel)) (fun _ h9 => h9) rfl (by decide +kernel) rfl rfl (Nat.le_of_ble_eq_true rfl) dX2_endGame_2 (fun H locs hP hD hS => ?_)
  have hP : va_P D vwCl [(a0, .inr (2, [.ref aR, .ref aF, .ref aG, .int vdrawn, .int vtr, .int vled, .int (-1), .int vw1, .int vw2, va_rf veo, .int veb])), (aF, .inr (0, [.long vh1, .long vt1, .int vp1, .int vk1, .int vg1])), (aG, .inr (0, [.long vh2, .long vt2, .int vp2, .int vk2, .int vg2])), (aR, .inl (cI, 42, .inl vrow))] H := hP
  have hD : va_D A [(a0, .inr (2, [.ref aR, .ref aF, .ref aG, .int vdrawn, .int vtr, .int vled, .int (-1), .int vw1, .int vw2, va_rf veo, .int veb])), (aF, .inr (0, [.long vh1, .long vt1, .int vp1, .int vk1, .int vg1])), (aG, .inr (0, [.long vh2, .long vt2, .int vp2, .int vk2, .int vg2])), (aR, .inl (cI, 42, .inl vrow))] := hD
  refine lv_aload_n hx hb dX2_endGame_5 rfl (lv_at hl 0 rfl) ?_
  refine va_get (D := D) (ci := 2) (v := .ref aF) (C := RX2) (T := TX2) (N := 11) hx hb hts inX2_endGame_X2 hown hK hP 0 rfl rfl 1 (by decide) (hts (.fieldLink RX2 16 "ArchivistTricks" "first" "LArchivistTricks$Archivist;") (by decide +kernel)) (fun _ h9 => h9) rfl dX2_endGame_6 ?_
  refine va_get (D := D) (ci := 0) (v := .int vp1) (C := RX0) (T := TX0) (N := 5) hx hb hts inX2_endGame_X0 hown hK hP 1 rfl rfl 2 (by decide) (hts (.fieldLink RX2 133 "ArchivistTricks$Archivist" "points" "I") (by decide +kernel)) (fun _ h9 => h9) rfl dX2_endGame_9 ?_
  refine lv_aload_n hx hb dX2_endGame_12 rfl (lv_at hl 0 rfl) ?_
  refine va_get (D := D) (ci := 2) (v := .ref aG) (C := RX2) (T := TX2) (N := 11) hx hb hts inX2_endGame_X2 hown hK hP 0 rfl rfl 2 (by decide) (hts (.fieldLink RX2 20 "ArchivistTricks" "second" "LArchivistTricks$Archivist;") (by decide +kernel)) (fun _ h9 => h9) rfl dX2_endGame_13 ?_
  refine va_get (D := D) (ci := 0) (v := .int vp2) (C := RX0) (T := TX0) (N := 5) hx hb hts inX2_endGame_X0 hown hK hP 2 rfl rfl 2 (by decide) (hts (.fieldLink RX2 133 "ArchivistTricks$Archivist" "points" "I") (by decide +kernel)) (fun _ h9 => h9) rfl dX2_endGame_16 ?_
  refine lv_icmp_le (tgt := 35) hx hb dX2_endGame_19 (by decide) (fun c_1 => ?_) (fun c_1 => ?_)
  · skip
    refine lv_aload_n hx hb dX2_endGame_35 rfl (lv_at hl 0 rfl) ?_
    refine va_get (D := D) (ci := 2) (v := .ref aG) (C := RX2) (T := TX2) (N := 11) hx hb hts inX2_endGame_X2 hown hK hP 0 rfl rfl 2 (by decide) (hts (.fieldLink RX2 20 "ArchivistTricks" "second" "LArchivistTricks$Archivist;") (by decide +kernel)) (fun _ h9 => h9) rfl dX2_endGame_36 ?_
    refine va_get (D := D) (ci := 0) (v := .int vp2) (C := RX0) (T := TX0) (N := 5) hx hb hts inX2_endGame_X0 hown hK hP 2 rfl rfl 2 (by decide) (hts (.fieldLink RX2 133 "ArchivistTricks$Archivist" "points" "I") (by decide +kernel)) (fun _ h9 => h9) rfl dX2_endGame_39 ?_
    refine lv_aload_n hx hb dX2_endGame_42 rfl (lv_at hl 0 rfl) ?_
    refine va_get (D := D) (ci := 2) (v := .ref aF) (C := RX2) (T := TX2) (N := 11) hx hb hts inX2_endGame_X2 hown hK hP 0 rfl rfl 1 (by decide) (hts (.fieldLink RX2 16 "ArchivistTricks" "first" "LArchivistTricks$Archivist;") (by decide +kernel)) (fun _ h9 => h9) rfl dX2_endGame_43 ?_
    refine va_get (D := D) (ci := 0) (v := .int vp1) (C := RX0) (T := TX0) (N := 5) hx hb hts inX2_endGame_X0 hown hK hP 1 rfl rfl 2 (by decide) (hts (.fieldLink RX2 133 "ArchivistTricks$Archivist" "points" "I") (by decide +kernel)) (fun _ h9 => h9) rfl dX2_endGame_46 ?_
    refine lv_icmp_le (tgt := 62) hx hb dX2_endGame_49 (by decide) (fun c_2 => ?_) (fun c_2 => ?_)
    · skip
      exact jw_vret hx hb hr hlocks hK hP hD hS dX2_endGame_62 (by  simp only [j_X2_endGame_vmov, j_X2_endGame_vw1, j_X2_endGame_vw2, if_pos c_1, if_pos c_2])
    · skip
      refine lv_aload_n hx hb dX2_endGame_52 rfl (lv_at hl 0 rfl) ?_
      refine lv_dup hx hb dX2_endGame_53 rfl ?_
      refine va_get (D := D) (ci := 2) (v := .int vw2) (C := RX2) (T := TX2) (N := 11) hx hb hts inX2_endGame_X2 hown hK hP 0 rfl rfl 8 (by decide) (hts (.fieldLink RX2 39 "ArchivistTricks" "secondWins" "I") (by decide +kernel)) (fun _ h9 => h9) rfl dX2_endGame_54 ?_
      refine lv_iconst (v := 1) hx hb dX2_endGame_57 (by decide) ?_
      refine lv_iadd hx hb dX2_endGame_58 ?_
      refine va_put (D := D) (ci := 2) (v := .int (vw2 + 1)) (ty := .int) (C := RX2) (T := TX2) (N := 11) hx hb hts inX2_endGame_X2 tyX2 tyX2_ok nmX2 hown hK hP hD hS 0 rfl rfl 8 (by decide) (hts (.fieldLink RX2 39 "ArchivistTricks" "secondWins" "I") (by decide +kernel)) (fun _ h9 => h9) rfl (by decide +kernel) rfl rfl (Nat.le_of_ble_eq_true rfl) dX2_endGame_59 (fun H locs hP hD hS => ?_)
      have hP : va_P D vwCl [(a0, .inr (2, [.ref aR, .ref aF, .ref aG, .int vdrawn, .int vtr, .int vled, .int (-1), .int vw1, .int (vw2 + 1), va_rf veo, .int veb])), (aF, .inr (0, [.long vh1, .long vt1, .int vp1, .int vk1, .int vg1])), (aG, .inr (0, [.long vh2, .long vt2, .int vp2, .int vk2, .int vg2])), (aR, .inl (cI, 42, .inl vrow))] H := hP
      have hD : va_D A [(a0, .inr (2, [.ref aR, .ref aF, .ref aG, .int vdrawn, .int vtr, .int vled, .int (-1), .int vw1, .int (vw2 + 1), va_rf veo, .int veb])), (aF, .inr (0, [.long vh1, .long vt1, .int vp1, .int vk1, .int vg1])), (aG, .inr (0, [.long vh2, .long vt2, .int vp2, .int vk2, .int vg2])), (aR, .inl (cI, 42, .inl vrow))] := hD
      exact jw_vret hx hb hr hlocks hK hP hD hS dX2_endGame_62 (by  simp only [j_X2_endGame_vmov, j_X2_endGame_vw1, j_X2_endGame_vw2, if_pos c_1, if_neg c_2])
  · skip
    refine lv_aload_n hx hb dX2_endGame_22 rfl (lv_at hl 0 rfl) ?_
    refine lv_dup hx hb dX2_endGame_23 rfl ?_
    refine va_get (D := D) (ci := 2) (v := .int vw1) (C := RX2) (T := TX2) (N := 11) hx hb hts inX2_endGame_X2 hown hK hP 0 rfl rfl 7 (by decide) (hts (.fieldLink RX2 36 "ArchivistTricks" "firstWins" "I") (by decide +kernel)) (fun _ h9 => h9) rfl dX2_endGame_24 ?_
    refine lv_iconst (v := 1) hx hb dX2_endGame_27 (by decide) ?_
    refine lv_iadd hx hb dX2_endGame_28 ?_
    refine va_put (D := D) (ci := 2) (v := .int (vw1 + 1)) (ty := .int) (C := RX2) (T := TX2) (N := 11) hx hb hts inX2_endGame_X2 tyX2 tyX2_ok nmX2 hown hK hP hD hS 0 rfl rfl 7 (by decide) (hts (.fieldLink RX2 36 "ArchivistTricks" "firstWins" "I") (by decide +kernel)) (fun _ h9 => h9) rfl (by decide +kernel) rfl rfl (Nat.le_of_ble_eq_true rfl) dX2_endGame_29 (fun H locs hP hD hS => ?_)
    have hP : va_P D vwCl [(a0, .inr (2, [.ref aR, .ref aF, .ref aG, .int vdrawn, .int vtr, .int vled, .int (-1), .int (vw1 + 1), .int vw2, va_rf veo, .int veb])), (aF, .inr (0, [.long vh1, .long vt1, .int vp1, .int vk1, .int vg1])), (aG, .inr (0, [.long vh2, .long vt2, .int vp2, .int vk2, .int vg2])), (aR, .inl (cI, 42, .inl vrow))] H := hP
    have hD : va_D A [(a0, .inr (2, [.ref aR, .ref aF, .ref aG, .int vdrawn, .int vtr, .int vled, .int (-1), .int (vw1 + 1), .int vw2, va_rf veo, .int veb])), (aF, .inr (0, [.long vh1, .long vt1, .int vp1, .int vk1, .int vg1])), (aG, .inr (0, [.long vh2, .long vt2, .int vp2, .int vk2, .int vg2])), (aR, .inl (cI, 42, .inl vrow))] := hD
    refine lv_goto (tgt := 62) hx hb dX2_endGame_32 (by decide) ?_
    exact jw_vret hx hb hr hlocks hK hP hD hS dX2_endGame_62 (by  simp only [j_X2_endGame_vmov, j_X2_endGame_vw1, j_X2_endGame_vw2, if_neg c_1])

abbrev rX2_finishTrick : Room := { frames := 3, cells := 0, slots := 0, locals := 63 }
def j_X2_finishTrick (vtr : Int32) (vled : Int32) (vmov : Int32) (x0 : Int32) : Int32 := j_X2_takerBy vtr vled vmov x0
def j_X2_finishTrick_vdrawn (vdrawn : Int32) (vtr : Int32) (vled : Int32) (vmov : Int32) (x0 : Int32) : Int32 := (if (j_X2_takerBy vtr vled vmov x0) = 0 then (if (1 - (j_X2_takerBy vtr vled vmov x0)) = 0 then j_X2_drawFor_F_vdrawn (j_X2_drawFor_F_vdrawn vdrawn) else j_X2_drawFor_G_vdrawn (j_X2_drawFor_F_vdrawn vdrawn)) else (if (1 - (j_X2_takerBy vtr vled vmov x0)) = 0 then j_X2_drawFor_F_vdrawn (j_X2_drawFor_G_vdrawn vdrawn) else j_X2_drawFor_G_vdrawn (j_X2_drawFor_G_vdrawn vdrawn)))
def j_X2_finishTrick_vled  : Int32 := (-1)
def j_X2_finishTrick_vmov (vrow : Nat → Int32) (vdrawn : Int32) (vtr : Int32) (vled : Int32) (vmov : Int32) (vh1 : Int64) (vh2 : Int64) (x0 : Int32) : Int32 := (if (j_X2_takerBy vtr vled vmov x0) = 0 then (if (1 - (j_X2_takerBy vtr vled vmov x0)) = 0 then (if lg_cmp ((j_X2_drawFor_F_vh1 vrow (j_X2_drawFor_F_vdrawn vdrawn) (j_X2_drawFor_F_vh1 vrow vdrawn vh1)) ||| vh2) 0 = 0 then j_X2_endGame_vmov else j_X2_takerBy vtr vled vmov x0) else (if lg_cmp ((j_X2_drawFor_F_vh1 vrow vdrawn vh1) ||| (j_X2_drawFor_G_vh2 vrow (j_X2_drawFor_F_vdrawn vdrawn) vh2)) 0 = 0 then j_X2_endGame_vmov else j_X2_takerBy vtr vled vmov x0)) else (if (1 - (j_X2_takerBy vtr vled vmov x0)) = 0 then (if lg_cmp ((j_X2_drawFor_F_vh1 vrow (j_X2_drawFor_G_vdrawn vdrawn) vh1) ||| (j_X2_drawFor_G_vh2 vrow vdrawn vh2)) 0 = 0 then j_X2_endGame_vmov else j_X2_takerBy vtr vled vmov x0) else (if lg_cmp (vh1 ||| (j_X2_drawFor_G_vh2 vrow (j_X2_drawFor_G_vdrawn vdrawn) (j_X2_drawFor_G_vh2 vrow vdrawn vh2))) 0 = 0 then j_X2_endGame_vmov else j_X2_takerBy vtr vled vmov x0)))
def j_X2_finishTrick_vw1 (vrow : Nat → Int32) (vdrawn : Int32) (vtr : Int32) (vled : Int32) (vmov : Int32) (vw1 : Int32) (vh1 : Int64) (vp1 : Int32) (vg1 : Int32) (vh2 : Int64) (vp2 : Int32) (vg2 : Int32) (x0 : Int32) : Int32 := (if (j_X2_takerBy vtr vled vmov x0) = 0 then (if vg1 = 1 then (if (1 - (j_X2_takerBy vtr vled vmov x0)) = 0 then (if lg_cmp ((j_X2_drawFor_F_vh1 vrow (j_X2_drawFor_F_vdrawn vdrawn) (j_X2_drawFor_F_vh1 vrow vdrawn vh1)) ||| vh2) 0 = 0 then j_X2_endGame_vw1 vw1 (vp1 + ((j_X2_worth vled 1) + (j_X2_worth x0 1))) vp2 else vw1) else (if lg_cmp ((j_X2_drawFor_F_vh1 vrow vdrawn vh1) ||| (j_X2_drawFor_G_vh2 vrow (j_X2_drawFor_F_vdrawn vdrawn) vh2)) 0 = 0 then j_X2_endGame_vw1 vw1 (vp1 + ((j_X2_worth vled 1) + (j_X2_worth x0 1))) vp2 else vw1)) else (if (1 - (j_X2_takerBy vtr vled vmov x0)) = 0 then (if lg_cmp ((j_X2_drawFor_F_vh1 vrow (j_X2_drawFor_F_vdrawn vdrawn) (j_X2_drawFor_F_vh1 vrow vdrawn vh1)) ||| vh2) 0 = 0 then j_X2_endGame_vw1 vw1 (vp1 + ((j_X2_worth vled 0) + (j_X2_worth x0 0))) vp2 else vw1) else (if lg_cmp ((j_X2_drawFor_F_vh1 vrow vdrawn vh1) ||| (j_X2_drawFor_G_vh2 vrow (j_X2_drawFor_F_vdrawn vdrawn) vh2)) 0 = 0 then j_X2_endGame_vw1 vw1 (vp1 + ((j_X2_worth vled 0) + (j_X2_worth x0 0))) vp2 else vw1))) else (if vg2 = 1 then (if (1 - (j_X2_takerBy vtr vled vmov x0)) = 0 then (if lg_cmp ((j_X2_drawFor_F_vh1 vrow (j_X2_drawFor_G_vdrawn vdrawn) vh1) ||| (j_X2_drawFor_G_vh2 vrow vdrawn vh2)) 0 = 0 then j_X2_endGame_vw1 vw1 vp1 (vp2 + ((j_X2_worth vled 1) + (j_X2_worth x0 1))) else vw1) else (if lg_cmp (vh1 ||| (j_X2_drawFor_G_vh2 vrow (j_X2_drawFor_G_vdrawn vdrawn) (j_X2_drawFor_G_vh2 vrow vdrawn vh2))) 0 = 0 then j_X2_endGame_vw1 vw1 vp1 (vp2 + ((j_X2_worth vled 1) + (j_X2_worth x0 1))) else vw1)) else (if (1 - (j_X2_takerBy vtr vled vmov x0)) = 0 then (if lg_cmp ((j_X2_drawFor_F_vh1 vrow (j_X2_drawFor_G_vdrawn vdrawn) vh1) ||| (j_X2_drawFor_G_vh2 vrow vdrawn vh2)) 0 = 0 then j_X2_endGame_vw1 vw1 vp1 (vp2 + ((j_X2_worth vled 0) + (j_X2_worth x0 0))) else vw1) else (if lg_cmp (vh1 ||| (j_X2_drawFor_G_vh2 vrow (j_X2_drawFor_G_vdrawn vdrawn) (j_X2_drawFor_G_vh2 vrow vdrawn vh2))) 0 = 0 then j_X2_endGame_vw1 vw1 vp1 (vp2 + ((j_X2_worth vled 0) + (j_X2_worth x0 0))) else vw1))))
def j_X2_finishTrick_vw2 (vrow : Nat → Int32) (vdrawn : Int32) (vtr : Int32) (vled : Int32) (vmov : Int32) (vw2 : Int32) (vh1 : Int64) (vp1 : Int32) (vg1 : Int32) (vh2 : Int64) (vp2 : Int32) (vg2 : Int32) (x0 : Int32) : Int32 := (if (j_X2_takerBy vtr vled vmov x0) = 0 then (if vg1 = 1 then (if (1 - (j_X2_takerBy vtr vled vmov x0)) = 0 then (if lg_cmp ((j_X2_drawFor_F_vh1 vrow (j_X2_drawFor_F_vdrawn vdrawn) (j_X2_drawFor_F_vh1 vrow vdrawn vh1)) ||| vh2) 0 = 0 then j_X2_endGame_vw2 vw2 (vp1 + ((j_X2_worth vled 1) + (j_X2_worth x0 1))) vp2 else vw2) else (if lg_cmp ((j_X2_drawFor_F_vh1 vrow vdrawn vh1) ||| (j_X2_drawFor_G_vh2 vrow (j_X2_drawFor_F_vdrawn vdrawn) vh2)) 0 = 0 then j_X2_endGame_vw2 vw2 (vp1 + ((j_X2_worth vled 1) + (j_X2_worth x0 1))) vp2 else vw2)) else (if (1 - (j_X2_takerBy vtr vled vmov x0)) = 0 then (if lg_cmp ((j_X2_drawFor_F_vh1 vrow (j_X2_drawFor_F_vdrawn vdrawn) (j_X2_drawFor_F_vh1 vrow vdrawn vh1)) ||| vh2) 0 = 0 then j_X2_endGame_vw2 vw2 (vp1 + ((j_X2_worth vled 0) + (j_X2_worth x0 0))) vp2 else vw2) else (if lg_cmp ((j_X2_drawFor_F_vh1 vrow vdrawn vh1) ||| (j_X2_drawFor_G_vh2 vrow (j_X2_drawFor_F_vdrawn vdrawn) vh2)) 0 = 0 then j_X2_endGame_vw2 vw2 (vp1 + ((j_X2_worth vled 0) + (j_X2_worth x0 0))) vp2 else vw2))) else (if vg2 = 1 then (if (1 - (j_X2_takerBy vtr vled vmov x0)) = 0 then (if lg_cmp ((j_X2_drawFor_F_vh1 vrow (j_X2_drawFor_G_vdrawn vdrawn) vh1) ||| (j_X2_drawFor_G_vh2 vrow vdrawn vh2)) 0 = 0 then j_X2_endGame_vw2 vw2 vp1 (vp2 + ((j_X2_worth vled 1) + (j_X2_worth x0 1))) else vw2) else (if lg_cmp (vh1 ||| (j_X2_drawFor_G_vh2 vrow (j_X2_drawFor_G_vdrawn vdrawn) (j_X2_drawFor_G_vh2 vrow vdrawn vh2))) 0 = 0 then j_X2_endGame_vw2 vw2 vp1 (vp2 + ((j_X2_worth vled 1) + (j_X2_worth x0 1))) else vw2)) else (if (1 - (j_X2_takerBy vtr vled vmov x0)) = 0 then (if lg_cmp ((j_X2_drawFor_F_vh1 vrow (j_X2_drawFor_G_vdrawn vdrawn) vh1) ||| (j_X2_drawFor_G_vh2 vrow vdrawn vh2)) 0 = 0 then j_X2_endGame_vw2 vw2 vp1 (vp2 + ((j_X2_worth vled 0) + (j_X2_worth x0 0))) else vw2) else (if lg_cmp (vh1 ||| (j_X2_drawFor_G_vh2 vrow (j_X2_drawFor_G_vdrawn vdrawn) (j_X2_drawFor_G_vh2 vrow vdrawn vh2))) 0 = 0 then j_X2_endGame_vw2 vw2 vp1 (vp2 + ((j_X2_worth vled 0) + (j_X2_worth x0 0))) else vw2))))
def j_X2_finishTrick_vh1 (vrow : Nat → Int32) (vdrawn : Int32) (vtr : Int32) (vled : Int32) (vmov : Int32) (vh1 : Int64) (x0 : Int32) : Int64 := (if (j_X2_takerBy vtr vled vmov x0) = 0 then (if (1 - (j_X2_takerBy vtr vled vmov x0)) = 0 then j_X2_drawFor_F_vh1 vrow (j_X2_drawFor_F_vdrawn vdrawn) (j_X2_drawFor_F_vh1 vrow vdrawn vh1) else j_X2_drawFor_F_vh1 vrow vdrawn vh1) else (if (1 - (j_X2_takerBy vtr vled vmov x0)) = 0 then j_X2_drawFor_F_vh1 vrow (j_X2_drawFor_G_vdrawn vdrawn) vh1 else vh1))
def j_X2_finishTrick_vt1 (vtr : Int32) (vled : Int32) (vmov : Int32) (vt1 : Int64) (x0 : Int32) : Int64 := (if (j_X2_takerBy vtr vled vmov x0) = 0 then vt1 ||| ((j_X2_bit vled) ||| (j_X2_bit x0)) else vt1)
def j_X2_finishTrick_vp1 (vtr : Int32) (vled : Int32) (vmov : Int32) (vp1 : Int32) (vg1 : Int32) (x0 : Int32) : Int32 := (if (j_X2_takerBy vtr vled vmov x0) = 0 then (if vg1 = 1 then vp1 + ((j_X2_worth vled 1) + (j_X2_worth x0 1)) else vp1 + ((j_X2_worth vled 0) + (j_X2_worth x0 0))) else vp1)
def j_X2_finishTrick_vk1 (vtr : Int32) (vled : Int32) (vmov : Int32) (vk1 : Int32) (x0 : Int32) : Int32 := (if (j_X2_takerBy vtr vled vmov x0) = 0 then vk1 + 1 else vk1)
def j_X2_finishTrick_vg1 (vg1 : Int32) : Int32 := j_X0_loseWornGloves_vg vg1
def j_X2_finishTrick_vh2 (vrow : Nat → Int32) (vdrawn : Int32) (vtr : Int32) (vled : Int32) (vmov : Int32) (vh2 : Int64) (x0 : Int32) : Int64 := (if (j_X2_takerBy vtr vled vmov x0) = 0 then (if (1 - (j_X2_takerBy vtr vled vmov x0)) = 0 then vh2 else j_X2_drawFor_G_vh2 vrow (j_X2_drawFor_F_vdrawn vdrawn) vh2) else (if (1 - (j_X2_takerBy vtr vled vmov x0)) = 0 then j_X2_drawFor_G_vh2 vrow vdrawn vh2 else j_X2_drawFor_G_vh2 vrow (j_X2_drawFor_G_vdrawn vdrawn) (j_X2_drawFor_G_vh2 vrow vdrawn vh2)))
def j_X2_finishTrick_vt2 (vtr : Int32) (vled : Int32) (vmov : Int32) (vt2 : Int64) (x0 : Int32) : Int64 := (if (j_X2_takerBy vtr vled vmov x0) = 0 then vt2 else vt2 ||| ((j_X2_bit vled) ||| (j_X2_bit x0)))
def j_X2_finishTrick_vp2 (vtr : Int32) (vled : Int32) (vmov : Int32) (vp2 : Int32) (vg2 : Int32) (x0 : Int32) : Int32 := (if (j_X2_takerBy vtr vled vmov x0) = 0 then vp2 else (if vg2 = 1 then vp2 + ((j_X2_worth vled 1) + (j_X2_worth x0 1)) else vp2 + ((j_X2_worth vled 0) + (j_X2_worth x0 0))))
def j_X2_finishTrick_vk2 (vtr : Int32) (vled : Int32) (vmov : Int32) (vk2 : Int32) (x0 : Int32) : Int32 := (if (j_X2_takerBy vtr vled vmov x0) = 0 then vk2 else vk2 + 1)
def j_X2_finishTrick_vg2 (vg2 : Int32) : Int32 := j_X0_loseWornGloves_vg vg2
theorem inX2_finishTrick_X0 : ∀ w ∈ u_ws RX0 TX0 5, w ∈ wsX2_finishTrick := by decide +kernel
theorem inX2_finishTrick_X2 : ∀ w ∈ u_ws RX2 TX2 11, w ∈ wsX2_finishTrick := by decide +kernel
set_option maxRecDepth 100000 in
set_option maxHeartbeats 8000000 in
theorem c_X2_finishTrick {l : Launch} {D : va_G} (a0 : Nat) (aR : Nat) (aF : Nat) (aG : Nat) (cI : ClassId) (vrow : Nat → Int32) (vdrawn : Int32) (vtr : Int32) (vled : Int32) (vmov : Int32) (vw1 : Int32) (vw2 : Int32) (veo : Option Nat) (veb : Int32) (vh1 : Int64) (vt1 : Int64) (vp1 : Int32) (vk1 : Int32) (vg1 : Int32) (vh2 : Int64) (vt2 : Int64) (vp2 : Int32) (vk2 : Int32) (vg2 : Int32) (x0 : Int32) : jWi l yX2_finishTrick wsX2_finishTrick rX2_finishTrick D [.ref a0, .int x0] (jC a0 aR aF aG cI vrow vdrawn vtr vled vmov vw1 vw2 veo veb vh1 vt1 vp1 vk1 vg1 vh2 vt2 vp2 vk2 vg2) [(cI, .int)] (j_X2_finishTrick vtr vled vmov x0) (jC a0 aR aF aG cI vrow (j_X2_finishTrick_vdrawn vdrawn vtr vled vmov x0) vtr (j_X2_finishTrick_vled) (j_X2_finishTrick_vmov vrow vdrawn vtr vled vmov vh1 vh2 x0) (j_X2_finishTrick_vw1 vrow vdrawn vtr vled vmov vw1 vh1 vp1 vg1 vh2 vp2 vg2 x0) (j_X2_finishTrick_vw2 vrow vdrawn vtr vled vmov vw2 vh1 vp1 vg1 vh2 vp2 vg2 x0) veo veb (j_X2_finishTrick_vh1 vrow vdrawn vtr vled vmov vh1 x0) (j_X2_finishTrick_vt1 vtr vled vmov vt1 x0) (j_X2_finishTrick_vp1 vtr vled vmov vp1 vg1 x0) (j_X2_finishTrick_vk1 vtr vled vmov vk1 x0) (j_X2_finishTrick_vg1 vg1) (j_X2_finishTrick_vh2 vrow vdrawn vtr vled vmov vh2 x0) (j_X2_finishTrick_vt2 vtr vled vmov vt2 x0) (j_X2_finishTrick_vp2 vtr vled vmov vp2 vg2 x0) (j_X2_finishTrick_vk2 vtr vled vmov vk2 x0) (j_X2_finishTrick_vg2 vg2)) := by
  refine jW_of (QQ := fun A => (jQi D (j_X2_finishTrick vtr vled vmov x0) (jC a0 aR aF aG cI vrow (j_X2_finishTrick_vdrawn vdrawn vtr vled vmov x0) vtr (j_X2_finishTrick_vled) (j_X2_finishTrick_vmov vrow vdrawn vtr vled vmov vh1 vh2 x0) (j_X2_finishTrick_vw1 vrow vdrawn vtr vled vmov vw1 vh1 vp1 vg1 vh2 vp2 vg2 x0) (j_X2_finishTrick_vw2 vrow vdrawn vtr vled vmov vw2 vh1 vp1 vg1 vh2 vp2 vg2 x0) veo veb (j_X2_finishTrick_vh1 vrow vdrawn vtr vled vmov vh1 x0) (j_X2_finishTrick_vt1 vtr vled vmov vt1 x0) (j_X2_finishTrick_vp1 vtr vled vmov vp1 vg1 x0) (j_X2_finishTrick_vk1 vtr vled vmov vk1 x0) (j_X2_finishTrick_vg1 vg1) (j_X2_finishTrick_vh2 vrow vdrawn vtr vled vmov vh2 x0) (j_X2_finishTrick_vt2 vtr vled vmov vt2 x0) (j_X2_finishTrick_vp2 vtr vled vmov vp2 vg2 x0) (j_X2_finishTrick_vk2 vtr vled vmov vk2 x0) (j_X2_finishTrick_vg2 vg2)) [(cI, .int)] A)) (cc := cX2_finishTrick) (maxL := 5) (ret := (some .int)) (by decide) rfl (Nat.le_of_ble_eq_true rfl) ?_
  intro p e s m below meth c ls A S hr hlocks hini hP hK hN hD hS hA hl
  obtain ⟨hx, hb, hml, hown, hts⟩ := id S
  have hl : lv_has ls 5 [(0, .ref a0), (1, .int x0)] := hl
  refine lv_aload_n hx hb dX2_finishTrick_0 rfl (lv_at hl 0 rfl) ?_
  refine lv_iload_n hx hb dX2_finishTrick_1 rfl (lv_at hl 1 rfl) ?_
  refine jr_callV (n := 1) (C := RX2) (As := [.int x0]) (rest := []) S (c_X2_takerBy a0 aR aF aG cI vrow vdrawn vtr vled vmov vw1 vw2 veo veb vh1 vt1 vp1 vk1 vg1 vh2 vt2 vp2 vk2 vg2 x0) gX2_finishTrick_X2_takerBy rfl (by decide +kernel) rfl ⟨⟨rfl, rfl⟩, ⟨Nat.le_of_ble_eq_true rfl, Nat.le_of_ble_eq_true rfl⟩, Nat.le_of_ble_eq_true rfl, Nat.le_of_ble_eq_true rfl⟩ hP hK hN [0, 1, 2, 3] [0] rfl rfl 0 2 rfl rfl rfl (lv_nil hl) rfl (Nat.le_of_ble_eq_true rfl) dX2_finishTrick_2 ?_
  refine lv_istore_n (lv' := [(2, .int (j_X2_takerBy vtr vled vmov x0)), (0, .ref a0), (1, .int x0)]) hx hb dX2_finishTrick_5 rfl hl (by decide) rfl (fun ls hl => ?_)
  refine lv_aload_n hx hb dX2_finishTrick_6 rfl (lv_at hl 1 rfl) ?_
  refine lv_iload_n hx hb dX2_finishTrick_7 rfl (lv_at hl 0 rfl) ?_
  refine jr_callV (n := 1) (C := RX2) (As := [.int (j_X2_takerBy vtr vled vmov x0)]) (rest := []) S (c_X2_archivist a0 aR aF aG cI vrow vdrawn vtr vled vmov vw1 vw2 veo veb vh1 vt1 vp1 vk1 vg1 vh2 vt2 vp2 vk2 vg2 (j_X2_takerBy vtr vled vmov x0)) gX2_finishTrick_X2_archivist rfl (by decide +kernel) rfl ⟨⟨rfl, rfl⟩, ⟨Nat.le_of_ble_eq_true rfl, Nat.le_of_ble_eq_true rfl⟩, Nat.le_of_ble_eq_true rfl, Nat.le_of_ble_eq_true rfl⟩ hP hK hN [0, 1, 2, 3] [0] rfl rfl 0 2 rfl rfl rfl (lv_nil hl) rfl (Nat.le_of_ble_eq_true rfl) dX2_finishTrick_8 ?_
  refine jr_ite (c0 := (j_X2_takerBy vtr vled vmov x0) = 0) (a := aF) (b := aG) rfl (fun c_1 => ?_) (fun c_1 => ?_)
  · skip
    refine lv_astore_n (lv' := [(3, .ref aF), (2, .int (j_X2_takerBy vtr vled vmov x0)), (0, .ref a0), (1, .int x0)]) hx hb dX2_finishTrick_11 rfl hl (by decide) rfl (fun ls hl => ?_)
    refine lv_aload_n hx hb dX2_finishTrick_12 rfl (lv_at hl 0 rfl) ?_
    refine va_get (D := D) (ci := 0) (v := .int vg1) (C := RX0) (T := TX0) (N := 5) hx hb hts inX2_finishTrick_X0 hown hK hP 1 rfl rfl 4 (by decide) (hts (.fieldLink RX2 105 "ArchivistTricks$Archivist" "gloves" "I") (by decide +kernel)) (fun _ h9 => h9) rfl dX2_finishTrick_13 ?_
    refine lv_iconst (v := 1) hx hb dX2_finishTrick_16 (by decide) ?_
    refine lv_icmp_ne (tgt := 24) hx hb dX2_finishTrick_17 (by decide) (fun c_2 => ?_) (fun c_2 => ?_)
    · skip
      refine lv_iconst (v := 0) hx hb dX2_finishTrick_24 (by decide) ?_
      refine lv_istore (lv' := [(4, .int 0), (3, .ref aF), (2, .int (j_X2_takerBy vtr vled vmov x0)), (0, .ref a0), (1, .int x0)]) hx hb dX2_finishTrick_25 hl (by decide) rfl (fun ls hl => ?_)
      refine lv_aload_n hx hb dX2_finishTrick_27 rfl (lv_at hl 1 rfl) ?_
      refine lv_dup hx hb dX2_finishTrick_28 rfl ?_
      refine va_get (D := D) (ci := 0) (v := .int vp1) (C := RX0) (T := TX0) (N := 5) hx hb hts inX2_finishTrick_X0 hown hK hP 1 rfl rfl 2 (by decide) (hts (.fieldLink RX2 133 "ArchivistTricks$Archivist" "points" "I") (by decide +kernel)) (fun _ h9 => h9) rfl dX2_finishTrick_29 ?_
      refine lv_aload_n hx hb dX2_finishTrick_32 rfl (lv_at hl 3 rfl) ?_
      refine va_get (D := D) (ci := 2) (v := .int vled) (C := RX2) (T := TX2) (N := 11) hx hb hts inX2_finishTrick_X2 hown hK hP 0 rfl rfl 5 (by decide) (hts (.fieldLink RX2 30 "ArchivistTricks" "ledCard" "I") (by decide +kernel)) (fun _ h9 => h9) rfl dX2_finishTrick_33 ?_
      refine lv_iload hx hb dX2_finishTrick_36 (lv_at hl 0 rfl) ?_
      refine jr_callS (n := 2) (As := [.int vled, .int 0]) (rest := [.int vp1, .ref aF]) S (c_X2_worth vled 0) gX2_finishTrick_X2_worth rfl (by decide +kernel) rfl ⟨⟨rfl, rfl⟩, ⟨Nat.le_of_ble_eq_true rfl, Nat.le_of_ble_eq_true rfl⟩, Nat.le_of_ble_eq_true rfl, Nat.le_of_ble_eq_true rfl⟩ hP hK hN [] [] rfl rfl (lv_nil hl) rfl (Nat.le_of_ble_eq_true rfl) dX2_finishTrick_38 ?_
      refine lv_iload_n hx hb dX2_finishTrick_41 rfl (lv_at hl 4 rfl) ?_
      refine lv_iload hx hb dX2_finishTrick_42 (lv_at hl 0 rfl) ?_
      refine jr_callS (n := 2) (As := [.int x0, .int 0]) (rest := [.int (j_X2_worth vled 0), .int vp1, .ref aF]) S (c_X2_worth x0 0) gX2_finishTrick_X2_worth rfl (by decide +kernel) rfl ⟨⟨rfl, rfl⟩, ⟨Nat.le_of_ble_eq_true rfl, Nat.le_of_ble_eq_true rfl⟩, Nat.le_of_ble_eq_true rfl, Nat.le_of_ble_eq_true rfl⟩ hP hK hN [] [] rfl rfl (lv_nil hl) rfl (Nat.le_of_ble_eq_true rfl) dX2_finishTrick_44 ?_
      refine lv_iadd hx hb dX2_finishTrick_47 ?_
      refine lv_iadd hx hb dX2_finishTrick_48 ?_
      refine va_put (D := D) (ci := 0) (v := .int (vp1 + ((j_X2_worth vled 0) + (j_X2_worth x0 0)))) (ty := .int) (C := RX0) (T := TX0) (N := 5) hx hb hts inX2_finishTrick_X0 tyX0 tyX0_ok nmX0 hown hK hP hD hS 1 rfl rfl 2 (by decide) (hts (.fieldLink RX2 133 "ArchivistTricks$Archivist" "points" "I") (by decide +kernel)) (fun _ h9 => h9) rfl (by decide +kernel) rfl rfl (Nat.le_of_ble_eq_true rfl) dX2_finishTrick_49 (fun H locs hP hD hS => ?_)
      have hP : va_P D vwCl [(a0, .inr (2, [.ref aR, .ref aF, .ref aG, .int vdrawn, .int vtr, .int vled, .int vmov, .int vw1, .int vw2, va_rf veo, .int veb])), (aF, .inr (0, [.long vh1, .long vt1, .int (vp1 + ((j_X2_worth vled 0) + (j_X2_worth x0 0))), .int vk1, .int vg1])), (aG, .inr (0, [.long vh2, .long vt2, .int vp2, .int vk2, .int vg2])), (aR, .inl (cI, 42, .inl vrow))] H := hP
      have hD : va_D A [(a0, .inr (2, [.ref aR, .ref aF, .ref aG, .int vdrawn, .int vtr, .int vled, .int vmov, .int vw1, .int vw2, va_rf veo, .int veb])), (aF, .inr (0, [.long vh1, .long vt1, .int (vp1 + ((j_X2_worth vled 0) + (j_X2_worth x0 0))), .int vk1, .int vg1])), (aG, .inr (0, [.long vh2, .long vt2, .int vp2, .int vk2, .int vg2])), (aR, .inl (cI, 42, .inl vrow))] := hD
      refine lv_aload_n hx hb dX2_finishTrick_52 rfl (lv_at hl 1 rfl) ?_
      refine lv_dup hx hb dX2_finishTrick_53 rfl ?_
      refine va_get (D := D) (ci := 0) (v := .int vk1) (C := RX0) (T := TX0) (N := 5) hx hb hts inX2_finishTrick_X0 hown hK hP 1 rfl rfl 3 (by decide) (hts (.fieldLink RX2 136 "ArchivistTricks$Archivist" "tricks" "I") (by decide +kernel)) (fun _ h9 => h9) rfl dX2_finishTrick_54 ?_
      refine lv_iconst (v := 1) hx hb dX2_finishTrick_57 (by decide) ?_
      refine lv_iadd hx hb dX2_finishTrick_58 ?_
      refine va_put (D := D) (ci := 0) (v := .int (vk1 + 1)) (ty := .int) (C := RX0) (T := TX0) (N := 5) hx hb hts inX2_finishTrick_X0 tyX0 tyX0_ok nmX0 hown hK hP hD hS 1 rfl rfl 3 (by decide) (hts (.fieldLink RX2 136 "ArchivistTricks$Archivist" "tricks" "I") (by decide +kernel)) (fun _ h9 => h9) rfl (by decide +kernel) rfl rfl (Nat.le_of_ble_eq_true rfl) dX2_finishTrick_59 (fun H locs hP hD hS => ?_)
      have hP : va_P D vwCl [(a0, .inr (2, [.ref aR, .ref aF, .ref aG, .int vdrawn, .int vtr, .int vled, .int vmov, .int vw1, .int vw2, va_rf veo, .int veb])), (aF, .inr (0, [.long vh1, .long vt1, .int (vp1 + ((j_X2_worth vled 0) + (j_X2_worth x0 0))), .int (vk1 + 1), .int vg1])), (aG, .inr (0, [.long vh2, .long vt2, .int vp2, .int vk2, .int vg2])), (aR, .inl (cI, 42, .inl vrow))] H := hP
      have hD : va_D A [(a0, .inr (2, [.ref aR, .ref aF, .ref aG, .int vdrawn, .int vtr, .int vled, .int vmov, .int vw1, .int vw2, va_rf veo, .int veb])), (aF, .inr (0, [.long vh1, .long vt1, .int (vp1 + ((j_X2_worth vled 0) + (j_X2_worth x0 0))), .int (vk1 + 1), .int vg1])), (aG, .inr (0, [.long vh2, .long vt2, .int vp2, .int vk2, .int vg2])), (aR, .inl (cI, 42, .inl vrow))] := hD
      refine lv_aload_n hx hb dX2_finishTrick_62 rfl (lv_at hl 1 rfl) ?_
      refine lv_dup hx hb dX2_finishTrick_63 rfl ?_
      refine va_get (D := D) (ci := 0) (v := .long vt1) (C := RX0) (T := TX0) (N := 5) hx hb hts inX2_finishTrick_X0 hown hK hP 1 rfl rfl 1 (by decide) (hts (.fieldLink RX2 130 "ArchivistTricks$Archivist" "taken" "J") (by decide +kernel)) (fun _ h9 => h9) rfl dX2_finishTrick_64 ?_
      refine lv_aload_n hx hb dX2_finishTrick_67 rfl (lv_at hl 3 rfl) ?_
      refine va_get (D := D) (ci := 2) (v := .int vled) (C := RX2) (T := TX2) (N := 11) hx hb hts inX2_finishTrick_X2 hown hK hP 0 rfl rfl 5 (by decide) (hts (.fieldLink RX2 30 "ArchivistTricks" "ledCard" "I") (by decide +kernel)) (fun _ h9 => h9) rfl dX2_finishTrick_68 ?_
      refine jr_callS (n := 1) (As := [.int vled]) (rest := [.long vt1, .ref aF]) S (c_X2_bit vled) gX2_finishTrick_X2_bit rfl (by decide +kernel) rfl ⟨⟨rfl, rfl⟩, ⟨Nat.le_of_ble_eq_true rfl, Nat.le_of_ble_eq_true rfl⟩, Nat.le_of_ble_eq_true rfl, Nat.le_of_ble_eq_true rfl⟩ hP hK hN [] [] rfl rfl (lv_nil hl) rfl (Nat.le_of_ble_eq_true rfl) dX2_finishTrick_71 ?_
      refine lv_iload_n hx hb dX2_finishTrick_74 rfl (lv_at hl 4 rfl) ?_
      refine jr_callS (n := 1) (As := [.int x0]) (rest := [.long (j_X2_bit vled), .long vt1, .ref aF]) S (c_X2_bit x0) gX2_finishTrick_X2_bit rfl (by decide +kernel) rfl ⟨⟨rfl, rfl⟩, ⟨Nat.le_of_ble_eq_true rfl, Nat.le_of_ble_eq_true rfl⟩, Nat.le_of_ble_eq_true rfl, Nat.le_of_ble_eq_true rfl⟩ hP hK hN [] [] rfl rfl (lv_nil hl) rfl (Nat.le_of_ble_eq_true rfl) dX2_finishTrick_75 ?_
      refine lv_lor hx hb dX2_finishTrick_78 ?_
      refine lv_lor hx hb dX2_finishTrick_79 ?_
      refine va_put (D := D) (ci := 0) (v := .long (vt1 ||| ((j_X2_bit vled) ||| (j_X2_bit x0)))) (ty := .long) (C := RX0) (T := TX0) (N := 5) hx hb hts inX2_finishTrick_X0 tyX0 tyX0_ok nmX0 hown hK hP hD hS 1 rfl rfl 1 (by decide) (hts (.fieldLink RX2 130 "ArchivistTricks$Archivist" "taken" "J") (by decide +kernel)) (fun _ h9 => h9) rfl (by decide +kernel) rfl rfl (Nat.le_of_ble_eq_true rfl) dX2_finishTrick_80 (fun H locs hP hD hS => ?_)
      have hP : va_P D vwCl [(a0, .inr (2, [.ref aR, .ref aF, .ref aG, .int vdrawn, .int vtr, .int vled, .int vmov, .int vw1, .int vw2, va_rf veo, .int veb])), (aF, .inr (0, [.long vh1, .long (vt1 ||| ((j_X2_bit vled) ||| (j_X2_bit x0))), .int (vp1 + ((j_X2_worth vled 0) + (j_X2_worth x0 0))), .int (vk1 + 1), .int vg1])), (aG, .inr (0, [.long vh2, .long vt2, .int vp2, .int vk2, .int vg2])), (aR, .inl (cI, 42, .inl vrow))] H := hP
      have hD : va_D A [(a0, .inr (2, [.ref aR, .ref aF, .ref aG, .int vdrawn, .int vtr, .int vled, .int vmov, .int vw1, .int vw2, va_rf veo, .int veb])), (aF, .inr (0, [.long vh1, .long (vt1 ||| ((j_X2_bit vled) ||| (j_X2_bit x0))), .int (vp1 + ((j_X2_worth vled 0) + (j_X2_worth x0 0))), .int (vk1 + 1), .int vg1])), (aG, .inr (0, [.long vh2, .long vt2, .int vp2, .int vk2, .int vg2])), (aR, .inl (cI, 42, .inl vrow))] := hD
      refine lv_aload_n hx hb dX2_finishTrick_83 rfl (lv_at hl 3 rfl) ?_
      refine va_get (D := D) (ci := 2) (v := .ref aF) (C := RX2) (T := TX2) (N := 11) hx hb hts inX2_finishTrick_X2 hown hK hP 0 rfl rfl 1 (by decide) (hts (.fieldLink RX2 16 "ArchivistTricks" "first" "LArchivistTricks$Archivist;") (by decide +kernel)) (fun _ h9 => h9) rfl dX2_finishTrick_84 ?_
      refine jw_callVv (n := 0) (C := RX0) (As := []) (rest := []) (wr := [(a0, .inr (2, [.ref aR, .ref aF, .ref aG, .int vdrawn, .int vtr, .int vled, .int vmov, .int vw1, .int vw2, va_rf veo, .int veb])), (aG, .inr (0, [.long vh2, .long vt2, .int vp2, .int vk2, .int vg2])), (aR, .inl (cI, 42, .inl vrow))]) (wn := [(a0, .inr (2, [.ref aR, .ref aF, .ref aG, .int vdrawn, .int vtr, .int vled, .int vmov, .int vw1, .int vw2, va_rf veo, .int veb])), (aF, .inr (0, [.long vh1, .long (vt1 ||| ((j_X2_bit vled) ||| (j_X2_bit x0))), .int (vp1 + ((j_X2_worth vled 0) + (j_X2_worth x0 0))), .int (vk1 + 1), .int (j_X0_loseWornGloves_vg vg1)])), (aG, .inr (0, [.long vh2, .long vt2, .int vp2, .int vk2, .int vg2])), (aR, .inl (cI, 42, .inl vrow))]) S (c_X0_loseWornGloves aF vh1 (vt1 ||| ((j_X2_bit vled) ||| (j_X2_bit x0))) (vp1 + ((j_X2_worth vled 0) + (j_X2_worth x0 0))) (vk1 + 1) vg1) gX2_finishTrick_X0_loseWornGloves rfl (by decide +kernel) rfl ⟨⟨rfl, rfl⟩, ⟨Nat.le_of_ble_eq_true rfl, Nat.le_of_ble_eq_true rfl⟩, Nat.le_of_ble_eq_true rfl, Nat.le_of_ble_eq_true rfl⟩ hP hK hN hD hS hA [1] [0, 2, 3] [0, 3, 1, 2] [] rfl rfl ⟨rfl, rfl, rfl⟩ (by decide) rfl rfl 0 0 rfl rfl rfl (lv_nil hl) rfl (Nat.le_of_ble_eq_true rfl) dX2_finishTrick_87 (fun H locs hP hD hS => ?_)
      refine lv_aload_n hx hb dX2_finishTrick_90 rfl (lv_at hl 3 rfl) ?_
      refine va_get (D := D) (ci := 2) (v := .ref aG) (C := RX2) (T := TX2) (N := 11) hx hb hts inX2_finishTrick_X2 hown hK hP 0 rfl rfl 2 (by decide) (hts (.fieldLink RX2 20 "ArchivistTricks" "second" "LArchivistTricks$Archivist;") (by decide +kernel)) (fun _ h9 => h9) rfl dX2_finishTrick_91 ?_
      refine jw_callVv (n := 0) (C := RX0) (As := []) (rest := []) (wr := [(a0, .inr (2, [.ref aR, .ref aF, .ref aG, .int vdrawn, .int vtr, .int vled, .int vmov, .int vw1, .int vw2, va_rf veo, .int veb])), (aF, .inr (0, [.long vh1, .long (vt1 ||| ((j_X2_bit vled) ||| (j_X2_bit x0))), .int (vp1 + ((j_X2_worth vled 0) + (j_X2_worth x0 0))), .int (vk1 + 1), .int (j_X0_loseWornGloves_vg vg1)])), (aR, .inl (cI, 42, .inl vrow))]) (wn := [(a0, .inr (2, [.ref aR, .ref aF, .ref aG, .int vdrawn, .int vtr, .int vled, .int vmov, .int vw1, .int vw2, va_rf veo, .int veb])), (aF, .inr (0, [.long vh1, .long (vt1 ||| ((j_X2_bit vled) ||| (j_X2_bit x0))), .int (vp1 + ((j_X2_worth vled 0) + (j_X2_worth x0 0))), .int (vk1 + 1), .int (j_X0_loseWornGloves_vg vg1)])), (aG, .inr (0, [.long vh2, .long vt2, .int vp2, .int vk2, .int (j_X0_loseWornGloves_vg vg2)])), (aR, .inl (cI, 42, .inl vrow))]) S (c_X0_loseWornGloves aG vh2 vt2 vp2 vk2 vg2) gX2_finishTrick_X0_loseWornGloves rfl (by decide +kernel) rfl ⟨⟨rfl, rfl⟩, ⟨Nat.le_of_ble_eq_true rfl, Nat.le_of_ble_eq_true rfl⟩, Nat.le_of_ble_eq_true rfl, Nat.le_of_ble_eq_true rfl⟩ hP hK hN hD hS hA [2] [0, 1, 3] [0, 1, 3, 2] [] rfl rfl ⟨rfl, rfl, rfl⟩ (by decide) rfl rfl 0 0 rfl rfl rfl (lv_nil hl) rfl (Nat.le_of_ble_eq_true rfl) dX2_finishTrick_94 (fun H locs hP hD hS => ?_)
      refine lv_aload_n hx hb dX2_finishTrick_97 rfl (lv_at hl 3 rfl) ?_
      refine lv_iconst (v := (-1)) hx hb dX2_finishTrick_98 (by decide) ?_
      refine va_put (D := D) (ci := 2) (v := .int (-1)) (ty := .int) (C := RX2) (T := TX2) (N := 11) hx hb hts inX2_finishTrick_X2 tyX2 tyX2_ok nmX2 hown hK hP hD hS 0 rfl rfl 5 (by decide) (hts (.fieldLink RX2 30 "ArchivistTricks" "ledCard" "I") (by decide +kernel)) (fun _ h9 => h9) rfl (by decide +kernel) rfl rfl (Nat.le_of_ble_eq_true rfl) dX2_finishTrick_99 (fun H locs hP hD hS => ?_)
      have hP : va_P D vwCl [(a0, .inr (2, [.ref aR, .ref aF, .ref aG, .int vdrawn, .int vtr, .int (-1), .int vmov, .int vw1, .int vw2, va_rf veo, .int veb])), (aF, .inr (0, [.long vh1, .long (vt1 ||| ((j_X2_bit vled) ||| (j_X2_bit x0))), .int (vp1 + ((j_X2_worth vled 0) + (j_X2_worth x0 0))), .int (vk1 + 1), .int (j_X0_loseWornGloves_vg vg1)])), (aG, .inr (0, [.long vh2, .long vt2, .int vp2, .int vk2, .int (j_X0_loseWornGloves_vg vg2)])), (aR, .inl (cI, 42, .inl vrow))] H := hP
      have hD : va_D A [(a0, .inr (2, [.ref aR, .ref aF, .ref aG, .int vdrawn, .int vtr, .int (-1), .int vmov, .int vw1, .int vw2, va_rf veo, .int veb])), (aF, .inr (0, [.long vh1, .long (vt1 ||| ((j_X2_bit vled) ||| (j_X2_bit x0))), .int (vp1 + ((j_X2_worth vled 0) + (j_X2_worth x0 0))), .int (vk1 + 1), .int (j_X0_loseWornGloves_vg vg1)])), (aG, .inr (0, [.long vh2, .long vt2, .int vp2, .int vk2, .int (j_X0_loseWornGloves_vg vg2)])), (aR, .inl (cI, 42, .inl vrow))] := hD
      refine lv_aload_n hx hb dX2_finishTrick_102 rfl (lv_at hl 3 rfl) ?_
      refine lv_aload_n hx hb dX2_finishTrick_103 rfl (lv_at hl 1 rfl) ?_
      refine jw_callVv (n := 1) (C := RX2) (As := [.ref aF]) (rest := []) (wr := []) (wn := [(a0, .inr (2, [.ref aR, .ref aF, .ref aG, .int (j_X2_drawFor_F_vdrawn vdrawn), .int vtr, .int (-1), .int vmov, .int vw1, .int vw2, va_rf veo, .int veb])), (aF, .inr (0, [.long (j_X2_drawFor_F_vh1 vrow vdrawn vh1), .long (vt1 ||| ((j_X2_bit vled) ||| (j_X2_bit x0))), .int (vp1 + ((j_X2_worth vled 0) + (j_X2_worth x0 0))), .int (vk1 + 1), .int (j_X0_loseWornGloves_vg vg1)])), (aG, .inr (0, [.long vh2, .long vt2, .int vp2, .int vk2, .int (j_X0_loseWornGloves_vg vg2)])), (aR, .inl (cI, 42, .inl vrow))]) S (c_X2_drawFor_F a0 aR aF aG cI vrow vdrawn vtr (-1) vmov vw1 vw2 veo veb vh1 (vt1 ||| ((j_X2_bit vled) ||| (j_X2_bit x0))) (vp1 + ((j_X2_worth vled 0) + (j_X2_worth x0 0))) (vk1 + 1) (j_X0_loseWornGloves_vg vg1) vh2 vt2 vp2 vk2 (j_X0_loseWornGloves_vg vg2)) gX2_finishTrick_X2_drawFor rfl (by decide +kernel) rfl ⟨⟨rfl, rfl⟩, ⟨Nat.le_of_ble_eq_true rfl, Nat.le_of_ble_eq_true rfl⟩, Nat.le_of_ble_eq_true rfl, Nat.le_of_ble_eq_true rfl⟩ hP hK hN hD hS hA [0, 1, 2, 3] [] [0, 1, 2, 3] [0] rfl rfl ⟨rfl, rfl, rfl⟩ (by decide) rfl rfl 0 2 rfl rfl rfl (lv_nil hl) rfl (Nat.le_of_ble_eq_true rfl) dX2_finishTrick_104 (fun H locs hP hD hS => ?_)
      refine lv_aload_n hx hb dX2_finishTrick_107 rfl (lv_at hl 3 rfl) ?_
      refine lv_aload_n hx hb dX2_finishTrick_108 rfl (lv_at hl 3 rfl) ?_
      refine lv_iconst (v := 1) hx hb dX2_finishTrick_109 (by decide) ?_
      refine lv_iload_n hx hb dX2_finishTrick_110 rfl (lv_at hl 2 rfl) ?_
      refine lv_isub hx hb dX2_finishTrick_111 ?_
      refine jr_callV (n := 1) (C := RX2) (As := [.int (1 - (j_X2_takerBy vtr vled vmov x0))]) (rest := [.ref a0]) S (c_X2_archivist a0 aR aF aG cI vrow (j_X2_drawFor_F_vdrawn vdrawn) vtr (-1) vmov vw1 vw2 veo veb (j_X2_drawFor_F_vh1 vrow vdrawn vh1) (vt1 ||| ((j_X2_bit vled) ||| (j_X2_bit x0))) (vp1 + ((j_X2_worth vled 0) + (j_X2_worth x0 0))) (vk1 + 1) (j_X0_loseWornGloves_vg vg1) vh2 vt2 vp2 vk2 (j_X0_loseWornGloves_vg vg2) (1 - (j_X2_takerBy vtr vled vmov x0))) gX2_finishTrick_X2_archivist rfl (by decide +kernel) rfl ⟨⟨rfl, rfl⟩, ⟨Nat.le_of_ble_eq_true rfl, Nat.le_of_ble_eq_true rfl⟩, Nat.le_of_ble_eq_true rfl, Nat.le_of_ble_eq_true rfl⟩ hP hK hN [0, 1, 2, 3] [0] rfl rfl 0 2 rfl rfl rfl (lv_nil hl) rfl (Nat.le_of_ble_eq_true rfl) dX2_finishTrick_112 ?_
      refine jr_ite (c0 := (1 - (j_X2_takerBy vtr vled vmov x0)) = 0) (a := aF) (b := aG) rfl (fun c_3 => ?_) (fun c_3 => ?_)
      · skip
        refine jw_callVv (n := 1) (C := RX2) (As := [.ref aF]) (rest := []) (wr := []) (wn := [(a0, .inr (2, [.ref aR, .ref aF, .ref aG, .int (j_X2_drawFor_F_vdrawn (j_X2_drawFor_F_vdrawn vdrawn)), .int vtr, .int (-1), .int vmov, .int vw1, .int vw2, va_rf veo, .int veb])), (aF, .inr (0, [.long (j_X2_drawFor_F_vh1 vrow (j_X2_drawFor_F_vdrawn vdrawn) (j_X2_drawFor_F_vh1 vrow vdrawn vh1)), .long (vt1 ||| ((j_X2_bit vled) ||| (j_X2_bit x0))), .int (vp1 + ((j_X2_worth vled 0) + (j_X2_worth x0 0))), .int (vk1 + 1), .int (j_X0_loseWornGloves_vg vg1)])), (aG, .inr (0, [.long vh2, .long vt2, .int vp2, .int vk2, .int (j_X0_loseWornGloves_vg vg2)])), (aR, .inl (cI, 42, .inl vrow))]) S (c_X2_drawFor_F a0 aR aF aG cI vrow (j_X2_drawFor_F_vdrawn vdrawn) vtr (-1) vmov vw1 vw2 veo veb (j_X2_drawFor_F_vh1 vrow vdrawn vh1) (vt1 ||| ((j_X2_bit vled) ||| (j_X2_bit x0))) (vp1 + ((j_X2_worth vled 0) + (j_X2_worth x0 0))) (vk1 + 1) (j_X0_loseWornGloves_vg vg1) vh2 vt2 vp2 vk2 (j_X0_loseWornGloves_vg vg2)) gX2_finishTrick_X2_drawFor rfl (by decide +kernel) rfl ⟨⟨rfl, rfl⟩, ⟨Nat.le_of_ble_eq_true rfl, Nat.le_of_ble_eq_true rfl⟩, Nat.le_of_ble_eq_true rfl, Nat.le_of_ble_eq_true rfl⟩ hP hK hN hD hS hA [0, 1, 2, 3] [] [0, 1, 2, 3] [0] rfl rfl ⟨rfl, rfl, rfl⟩ (by decide) rfl rfl 0 2 rfl rfl rfl (lv_nil hl) rfl (Nat.le_of_ble_eq_true rfl) dX2_finishTrick_115 (fun H locs hP hD hS => ?_)
        refine lv_aload_n hx hb dX2_finishTrick_118 rfl (lv_at hl 3 rfl) ?_
        refine lv_iload_n hx hb dX2_finishTrick_119 rfl (lv_at hl 2 rfl) ?_
        refine va_put (D := D) (ci := 2) (v := .int (j_X2_takerBy vtr vled vmov x0)) (ty := .int) (C := RX2) (T := TX2) (N := 11) hx hb hts inX2_finishTrick_X2 tyX2 tyX2_ok nmX2 hown hK hP hD hS 0 rfl rfl 6 (by decide) (hts (.fieldLink RX2 33 "ArchivistTricks" "mover" "I") (by decide +kernel)) (fun _ h9 => h9) rfl (by decide +kernel) rfl rfl (Nat.le_of_ble_eq_true rfl) dX2_finishTrick_120 (fun H locs hP hD hS => ?_)
        have hP : va_P D vwCl [(a0, .inr (2, [.ref aR, .ref aF, .ref aG, .int (j_X2_drawFor_F_vdrawn (j_X2_drawFor_F_vdrawn vdrawn)), .int vtr, .int (-1), .int (j_X2_takerBy vtr vled vmov x0), .int vw1, .int vw2, va_rf veo, .int veb])), (aF, .inr (0, [.long (j_X2_drawFor_F_vh1 vrow (j_X2_drawFor_F_vdrawn vdrawn) (j_X2_drawFor_F_vh1 vrow vdrawn vh1)), .long (vt1 ||| ((j_X2_bit vled) ||| (j_X2_bit x0))), .int (vp1 + ((j_X2_worth vled 0) + (j_X2_worth x0 0))), .int (vk1 + 1), .int (j_X0_loseWornGloves_vg vg1)])), (aG, .inr (0, [.long vh2, .long vt2, .int vp2, .int vk2, .int (j_X0_loseWornGloves_vg vg2)])), (aR, .inl (cI, 42, .inl vrow))] H := hP
        have hD : va_D A [(a0, .inr (2, [.ref aR, .ref aF, .ref aG, .int (j_X2_drawFor_F_vdrawn (j_X2_drawFor_F_vdrawn vdrawn)), .int vtr, .int (-1), .int (j_X2_takerBy vtr vled vmov x0), .int vw1, .int vw2, va_rf veo, .int veb])), (aF, .inr (0, [.long (j_X2_drawFor_F_vh1 vrow (j_X2_drawFor_F_vdrawn vdrawn) (j_X2_drawFor_F_vh1 vrow vdrawn vh1)), .long (vt1 ||| ((j_X2_bit vled) ||| (j_X2_bit x0))), .int (vp1 + ((j_X2_worth vled 0) + (j_X2_worth x0 0))), .int (vk1 + 1), .int (j_X0_loseWornGloves_vg vg1)])), (aG, .inr (0, [.long vh2, .long vt2, .int vp2, .int vk2, .int (j_X0_loseWornGloves_vg vg2)])), (aR, .inl (cI, 42, .inl vrow))] := hD
        refine lv_aload_n hx hb dX2_finishTrick_123 rfl (lv_at hl 3 rfl) ?_
        refine va_get (D := D) (ci := 2) (v := .ref aF) (C := RX2) (T := TX2) (N := 11) hx hb hts inX2_finishTrick_X2 hown hK hP 0 rfl rfl 1 (by decide) (hts (.fieldLink RX2 16 "ArchivistTricks" "first" "LArchivistTricks$Archivist;") (by decide +kernel)) (fun _ h9 => h9) rfl dX2_finishTrick_124 ?_
        refine va_get (D := D) (ci := 0) (v := .long (j_X2_drawFor_F_vh1 vrow (j_X2_drawFor_F_vdrawn vdrawn) (j_X2_drawFor_F_vh1 vrow vdrawn vh1))) (C := RX0) (T := TX0) (N := 5) hx hb hts inX2_finishTrick_X0 hown hK hP 1 rfl rfl 0 (by decide) (hts (.fieldLink RX2 91 "ArchivistTricks$Archivist" "hand" "J") (by decide +kernel)) (fun _ h9 => h9) rfl dX2_finishTrick_127 ?_
        refine lv_aload_n hx hb dX2_finishTrick_130 rfl (lv_at hl 3 rfl) ?_
        refine va_get (D := D) (ci := 2) (v := .ref aG) (C := RX2) (T := TX2) (N := 11) hx hb hts inX2_finishTrick_X2 hown hK hP 0 rfl rfl 2 (by decide) (hts (.fieldLink RX2 20 "ArchivistTricks" "second" "LArchivistTricks$Archivist;") (by decide +kernel)) (fun _ h9 => h9) rfl dX2_finishTrick_131 ?_
        refine va_get (D := D) (ci := 0) (v := .long vh2) (C := RX0) (T := TX0) (N := 5) hx hb hts inX2_finishTrick_X0 hown hK hP 2 rfl rfl 0 (by decide) (hts (.fieldLink RX2 91 "ArchivistTricks$Archivist" "hand" "J") (by decide +kernel)) (fun _ h9 => h9) rfl dX2_finishTrick_134 ?_
        refine lv_lor hx hb dX2_finishTrick_137 ?_
        refine lv_lconst (v := 0) hx hb dX2_finishTrick_138 (by decide) ?_
        refine W.lcmp hx hb dX2_finishTrick_139 ?_
        refine lv_if_ne (tgt := 147) hx hb dX2_finishTrick_140 (by decide) (fun c_4 => ?_) (fun c_4 => ?_)
        · skip
          refine lv_iload_n hx hb dX2_finishTrick_147 rfl (lv_at hl 2 rfl) ?_
          exact jw_iret hx hb hr hlocks hK hP hD hS dX2_finishTrick_148 (by  simp only [j_X2_finishTrick, if_pos c_1, if_neg c_2, if_pos c_3, if_neg c_4]) (by  simp only [j_X2_finishTrick_vdrawn, j_X2_finishTrick_vled, j_X2_finishTrick_vmov, j_X2_finishTrick_vw1, j_X2_finishTrick_vw2, j_X2_finishTrick_vh1, j_X2_finishTrick_vt1, j_X2_finishTrick_vp1, j_X2_finishTrick_vk1, j_X2_finishTrick_vg1, j_X2_finishTrick_vh2, j_X2_finishTrick_vt2, j_X2_finishTrick_vp2, j_X2_finishTrick_vk2, j_X2_finishTrick_vg2, if_pos c_1, if_neg c_2, if_pos c_3, if_neg c_4])
        · skip
          refine lv_aload_n hx hb dX2_finishTrick_143 rfl (lv_at hl 3 rfl) ?_
          refine jw_callVv (n := 0) (C := RX2) (As := []) (rest := []) (wr := []) (wn := [(a0, .inr (2, [.ref aR, .ref aF, .ref aG, .int (j_X2_drawFor_F_vdrawn (j_X2_drawFor_F_vdrawn vdrawn)), .int vtr, .int (-1), .int j_X2_endGame_vmov, .int (j_X2_endGame_vw1 vw1 (vp1 + ((j_X2_worth vled 0) + (j_X2_worth x0 0))) vp2), .int (j_X2_endGame_vw2 vw2 (vp1 + ((j_X2_worth vled 0) + (j_X2_worth x0 0))) vp2), va_rf veo, .int veb])), (aF, .inr (0, [.long (j_X2_drawFor_F_vh1 vrow (j_X2_drawFor_F_vdrawn vdrawn) (j_X2_drawFor_F_vh1 vrow vdrawn vh1)), .long (vt1 ||| ((j_X2_bit vled) ||| (j_X2_bit x0))), .int (vp1 + ((j_X2_worth vled 0) + (j_X2_worth x0 0))), .int (vk1 + 1), .int (j_X0_loseWornGloves_vg vg1)])), (aG, .inr (0, [.long vh2, .long vt2, .int vp2, .int vk2, .int (j_X0_loseWornGloves_vg vg2)])), (aR, .inl (cI, 42, .inl vrow))]) S (c_X2_endGame a0 aR aF aG cI vrow (j_X2_drawFor_F_vdrawn (j_X2_drawFor_F_vdrawn vdrawn)) vtr (-1) (j_X2_takerBy vtr vled vmov x0) vw1 vw2 veo veb (j_X2_drawFor_F_vh1 vrow (j_X2_drawFor_F_vdrawn vdrawn) (j_X2_drawFor_F_vh1 vrow vdrawn vh1)) (vt1 ||| ((j_X2_bit vled) ||| (j_X2_bit x0))) (vp1 + ((j_X2_worth vled 0) + (j_X2_worth x0 0))) (vk1 + 1) (j_X0_loseWornGloves_vg vg1) vh2 vt2 vp2 vk2 (j_X0_loseWornGloves_vg vg2)) gX2_finishTrick_X2_endGame rfl (by decide +kernel) rfl ⟨⟨rfl, rfl⟩, ⟨Nat.le_of_ble_eq_true rfl, Nat.le_of_ble_eq_true rfl⟩, Nat.le_of_ble_eq_true rfl, Nat.le_of_ble_eq_true rfl⟩ hP hK hN hD hS hA [0, 1, 2, 3] [] [0, 1, 2, 3] [0] rfl rfl ⟨rfl, rfl, rfl⟩ (by decide) rfl rfl 0 2 rfl rfl rfl (lv_nil hl) rfl (Nat.le_of_ble_eq_true rfl) dX2_finishTrick_144 (fun H locs hP hD hS => ?_)
          refine lv_iload_n hx hb dX2_finishTrick_147 rfl (lv_at hl 2 rfl) ?_
          exact jw_iret hx hb hr hlocks hK hP hD hS dX2_finishTrick_148 (by  simp only [j_X2_finishTrick, if_pos c_1, if_neg c_2, if_pos c_3, if_pos c_4]) (by  simp only [j_X2_finishTrick_vdrawn, j_X2_finishTrick_vled, j_X2_finishTrick_vmov, j_X2_finishTrick_vw1, j_X2_finishTrick_vw2, j_X2_finishTrick_vh1, j_X2_finishTrick_vt1, j_X2_finishTrick_vp1, j_X2_finishTrick_vk1, j_X2_finishTrick_vg1, j_X2_finishTrick_vh2, j_X2_finishTrick_vt2, j_X2_finishTrick_vp2, j_X2_finishTrick_vk2, j_X2_finishTrick_vg2, if_pos c_1, if_neg c_2, if_pos c_3, if_pos c_4])
      · skip
        refine jw_callVv (n := 1) (C := RX2) (As := [.ref aG]) (rest := []) (wr := []) (wn := [(a0, .inr (2, [.ref aR, .ref aF, .ref aG, .int (j_X2_drawFor_G_vdrawn (j_X2_drawFor_F_vdrawn vdrawn)), .int vtr, .int (-1), .int vmov, .int vw1, .int vw2, va_rf veo, .int veb])), (aF, .inr (0, [.long (j_X2_drawFor_F_vh1 vrow vdrawn vh1), .long (vt1 ||| ((j_X2_bit vled) ||| (j_X2_bit x0))), .int (vp1 + ((j_X2_worth vled 0) + (j_X2_worth x0 0))), .int (vk1 + 1), .int (j_X0_loseWornGloves_vg vg1)])), (aG, .inr (0, [.long (j_X2_drawFor_G_vh2 vrow (j_X2_drawFor_F_vdrawn vdrawn) vh2), .long vt2, .int vp2, .int vk2, .int (j_X0_loseWornGloves_vg vg2)])), (aR, .inl (cI, 42, .inl vrow))]) S (c_X2_drawFor_G a0 aR aF aG cI vrow (j_X2_drawFor_F_vdrawn vdrawn) vtr (-1) vmov vw1 vw2 veo veb (j_X2_drawFor_F_vh1 vrow vdrawn vh1) (vt1 ||| ((j_X2_bit vled) ||| (j_X2_bit x0))) (vp1 + ((j_X2_worth vled 0) + (j_X2_worth x0 0))) (vk1 + 1) (j_X0_loseWornGloves_vg vg1) vh2 vt2 vp2 vk2 (j_X0_loseWornGloves_vg vg2)) gX2_finishTrick_X2_drawFor rfl (by decide +kernel) rfl ⟨⟨rfl, rfl⟩, ⟨Nat.le_of_ble_eq_true rfl, Nat.le_of_ble_eq_true rfl⟩, Nat.le_of_ble_eq_true rfl, Nat.le_of_ble_eq_true rfl⟩ hP hK hN hD hS hA [0, 1, 2, 3] [] [0, 1, 2, 3] [0] rfl rfl ⟨rfl, rfl, rfl⟩ (by decide) rfl rfl 0 2 rfl rfl rfl (lv_nil hl) rfl (Nat.le_of_ble_eq_true rfl) dX2_finishTrick_115 (fun H locs hP hD hS => ?_)
        refine lv_aload_n hx hb dX2_finishTrick_118 rfl (lv_at hl 3 rfl) ?_
        refine lv_iload_n hx hb dX2_finishTrick_119 rfl (lv_at hl 2 rfl) ?_
        refine va_put (D := D) (ci := 2) (v := .int (j_X2_takerBy vtr vled vmov x0)) (ty := .int) (C := RX2) (T := TX2) (N := 11) hx hb hts inX2_finishTrick_X2 tyX2 tyX2_ok nmX2 hown hK hP hD hS 0 rfl rfl 6 (by decide) (hts (.fieldLink RX2 33 "ArchivistTricks" "mover" "I") (by decide +kernel)) (fun _ h9 => h9) rfl (by decide +kernel) rfl rfl (Nat.le_of_ble_eq_true rfl) dX2_finishTrick_120 (fun H locs hP hD hS => ?_)
        have hP : va_P D vwCl [(a0, .inr (2, [.ref aR, .ref aF, .ref aG, .int (j_X2_drawFor_G_vdrawn (j_X2_drawFor_F_vdrawn vdrawn)), .int vtr, .int (-1), .int (j_X2_takerBy vtr vled vmov x0), .int vw1, .int vw2, va_rf veo, .int veb])), (aF, .inr (0, [.long (j_X2_drawFor_F_vh1 vrow vdrawn vh1), .long (vt1 ||| ((j_X2_bit vled) ||| (j_X2_bit x0))), .int (vp1 + ((j_X2_worth vled 0) + (j_X2_worth x0 0))), .int (vk1 + 1), .int (j_X0_loseWornGloves_vg vg1)])), (aG, .inr (0, [.long (j_X2_drawFor_G_vh2 vrow (j_X2_drawFor_F_vdrawn vdrawn) vh2), .long vt2, .int vp2, .int vk2, .int (j_X0_loseWornGloves_vg vg2)])), (aR, .inl (cI, 42, .inl vrow))] H := hP
        have hD : va_D A [(a0, .inr (2, [.ref aR, .ref aF, .ref aG, .int (j_X2_drawFor_G_vdrawn (j_X2_drawFor_F_vdrawn vdrawn)), .int vtr, .int (-1), .int (j_X2_takerBy vtr vled vmov x0), .int vw1, .int vw2, va_rf veo, .int veb])), (aF, .inr (0, [.long (j_X2_drawFor_F_vh1 vrow vdrawn vh1), .long (vt1 ||| ((j_X2_bit vled) ||| (j_X2_bit x0))), .int (vp1 + ((j_X2_worth vled 0) + (j_X2_worth x0 0))), .int (vk1 + 1), .int (j_X0_loseWornGloves_vg vg1)])), (aG, .inr (0, [.long (j_X2_drawFor_G_vh2 vrow (j_X2_drawFor_F_vdrawn vdrawn) vh2), .long vt2, .int vp2, .int vk2, .int (j_X0_loseWornGloves_vg vg2)])), (aR, .inl (cI, 42, .inl vrow))] := hD
        refine lv_aload_n hx hb dX2_finishTrick_123 rfl (lv_at hl 3 rfl) ?_
        refine va_get (D := D) (ci := 2) (v := .ref aF) (C := RX2) (T := TX2) (N := 11) hx hb hts inX2_finishTrick_X2 hown hK hP 0 rfl rfl 1 (by decide) (hts (.fieldLink RX2 16 "ArchivistTricks" "first" "LArchivistTricks$Archivist;") (by decide +kernel)) (fun _ h9 => h9) rfl dX2_finishTrick_124 ?_
        refine va_get (D := D) (ci := 0) (v := .long (j_X2_drawFor_F_vh1 vrow vdrawn vh1)) (C := RX0) (T := TX0) (N := 5) hx hb hts inX2_finishTrick_X0 hown hK hP 1 rfl rfl 0 (by decide) (hts (.fieldLink RX2 91 "ArchivistTricks$Archivist" "hand" "J") (by decide +kernel)) (fun _ h9 => h9) rfl dX2_finishTrick_127 ?_
        refine lv_aload_n hx hb dX2_finishTrick_130 rfl (lv_at hl 3 rfl) ?_
        refine va_get (D := D) (ci := 2) (v := .ref aG) (C := RX2) (T := TX2) (N := 11) hx hb hts inX2_finishTrick_X2 hown hK hP 0 rfl rfl 2 (by decide) (hts (.fieldLink RX2 20 "ArchivistTricks" "second" "LArchivistTricks$Archivist;") (by decide +kernel)) (fun _ h9 => h9) rfl dX2_finishTrick_131 ?_
        refine va_get (D := D) (ci := 0) (v := .long (j_X2_drawFor_G_vh2 vrow (j_X2_drawFor_F_vdrawn vdrawn) vh2)) (C := RX0) (T := TX0) (N := 5) hx hb hts inX2_finishTrick_X0 hown hK hP 2 rfl rfl 0 (by decide) (hts (.fieldLink RX2 91 "ArchivistTricks$Archivist" "hand" "J") (by decide +kernel)) (fun _ h9 => h9) rfl dX2_finishTrick_134 ?_
        refine lv_lor hx hb dX2_finishTrick_137 ?_
        refine lv_lconst (v := 0) hx hb dX2_finishTrick_138 (by decide) ?_
        refine W.lcmp hx hb dX2_finishTrick_139 ?_
        refine lv_if_ne (tgt := 147) hx hb dX2_finishTrick_140 (by decide) (fun c_5 => ?_) (fun c_5 => ?_)
        · skip
          refine lv_iload_n hx hb dX2_finishTrick_147 rfl (lv_at hl 2 rfl) ?_
          exact jw_iret hx hb hr hlocks hK hP hD hS dX2_finishTrick_148 (by  simp only [j_X2_finishTrick, if_pos c_1, if_neg c_2, if_neg c_3, if_neg c_5]) (by  simp only [j_X2_finishTrick_vdrawn, j_X2_finishTrick_vled, j_X2_finishTrick_vmov, j_X2_finishTrick_vw1, j_X2_finishTrick_vw2, j_X2_finishTrick_vh1, j_X2_finishTrick_vt1, j_X2_finishTrick_vp1, j_X2_finishTrick_vk1, j_X2_finishTrick_vg1, j_X2_finishTrick_vh2, j_X2_finishTrick_vt2, j_X2_finishTrick_vp2, j_X2_finishTrick_vk2, j_X2_finishTrick_vg2, if_pos c_1, if_neg c_2, if_neg c_3, if_neg c_5])
        · skip
          refine lv_aload_n hx hb dX2_finishTrick_143 rfl (lv_at hl 3 rfl) ?_
          refine jw_callVv (n := 0) (C := RX2) (As := []) (rest := []) (wr := []) (wn := [(a0, .inr (2, [.ref aR, .ref aF, .ref aG, .int (j_X2_drawFor_G_vdrawn (j_X2_drawFor_F_vdrawn vdrawn)), .int vtr, .int (-1), .int j_X2_endGame_vmov, .int (j_X2_endGame_vw1 vw1 (vp1 + ((j_X2_worth vled 0) + (j_X2_worth x0 0))) vp2), .int (j_X2_endGame_vw2 vw2 (vp1 + ((j_X2_worth vled 0) + (j_X2_worth x0 0))) vp2), va_rf veo, .int veb])), (aF, .inr (0, [.long (j_X2_drawFor_F_vh1 vrow vdrawn vh1), .long (vt1 ||| ((j_X2_bit vled) ||| (j_X2_bit x0))), .int (vp1 + ((j_X2_worth vled 0) + (j_X2_worth x0 0))), .int (vk1 + 1), .int (j_X0_loseWornGloves_vg vg1)])), (aG, .inr (0, [.long (j_X2_drawFor_G_vh2 vrow (j_X2_drawFor_F_vdrawn vdrawn) vh2), .long vt2, .int vp2, .int vk2, .int (j_X0_loseWornGloves_vg vg2)])), (aR, .inl (cI, 42, .inl vrow))]) S (c_X2_endGame a0 aR aF aG cI vrow (j_X2_drawFor_G_vdrawn (j_X2_drawFor_F_vdrawn vdrawn)) vtr (-1) (j_X2_takerBy vtr vled vmov x0) vw1 vw2 veo veb (j_X2_drawFor_F_vh1 vrow vdrawn vh1) (vt1 ||| ((j_X2_bit vled) ||| (j_X2_bit x0))) (vp1 + ((j_X2_worth vled 0) + (j_X2_worth x0 0))) (vk1 + 1) (j_X0_loseWornGloves_vg vg1) (j_X2_drawFor_G_vh2 vrow (j_X2_drawFor_F_vdrawn vdrawn) vh2) vt2 vp2 vk2 (j_X0_loseWornGloves_vg vg2)) gX2_finishTrick_X2_endGame rfl (by decide +kernel) rfl ⟨⟨rfl, rfl⟩, ⟨Nat.le_of_ble_eq_true rfl, Nat.le_of_ble_eq_true rfl⟩, Nat.le_of_ble_eq_true rfl, Nat.le_of_ble_eq_true rfl⟩ hP hK hN hD hS hA [0, 1, 2, 3] [] [0, 1, 2, 3] [0] rfl rfl ⟨rfl, rfl, rfl⟩ (by decide) rfl rfl 0 2 rfl rfl rfl (lv_nil hl) rfl (Nat.le_of_ble_eq_true rfl) dX2_finishTrick_144 (fun H locs hP hD hS => ?_)
          refine lv_iload_n hx hb dX2_finishTrick_147 rfl (lv_at hl 2 rfl) ?_
          exact jw_iret hx hb hr hlocks hK hP hD hS dX2_finishTrick_148 (by  simp only [j_X2_finishTrick, if_pos c_1, if_neg c_2, if_neg c_3, if_pos c_5]) (by  simp only [j_X2_finishTrick_vdrawn, j_X2_finishTrick_vled, j_X2_finishTrick_vmov, j_X2_finishTrick_vw1, j_X2_finishTrick_vw2, j_X2_finishTrick_vh1, j_X2_finishTrick_vt1, j_X2_finishTrick_vp1, j_X2_finishTrick_vk1, j_X2_finishTrick_vg1, j_X2_finishTrick_vh2, j_X2_finishTrick_vt2, j_X2_finishTrick_vp2, j_X2_finishTrick_vk2, j_X2_finishTrick_vg2, if_pos c_1, if_neg c_2, if_neg c_3, if_pos c_5])
    · skip
      refine lv_iconst (v := 1) hx hb dX2_finishTrick_20 (by decide) ?_
      refine lv_goto (tgt := 25) hx hb dX2_finishTrick_21 (by decide) ?_
      refine lv_istore (lv' := [(4, .int 1), (3, .ref aF), (2, .int (j_X2_takerBy vtr vled vmov x0)), (0, .ref a0), (1, .int x0)]) hx hb dX2_finishTrick_25 hl (by decide) rfl (fun ls hl => ?_)
      refine lv_aload_n hx hb dX2_finishTrick_27 rfl (lv_at hl 1 rfl) ?_
      refine lv_dup hx hb dX2_finishTrick_28 rfl ?_
      refine va_get (D := D) (ci := 0) (v := .int vp1) (C := RX0) (T := TX0) (N := 5) hx hb hts inX2_finishTrick_X0 hown hK hP 1 rfl rfl 2 (by decide) (hts (.fieldLink RX2 133 "ArchivistTricks$Archivist" "points" "I") (by decide +kernel)) (fun _ h9 => h9) rfl dX2_finishTrick_29 ?_
      refine lv_aload_n hx hb dX2_finishTrick_32 rfl (lv_at hl 3 rfl) ?_
      refine va_get (D := D) (ci := 2) (v := .int vled) (C := RX2) (T := TX2) (N := 11) hx hb hts inX2_finishTrick_X2 hown hK hP 0 rfl rfl 5 (by decide) (hts (.fieldLink RX2 30 "ArchivistTricks" "ledCard" "I") (by decide +kernel)) (fun _ h9 => h9) rfl dX2_finishTrick_33 ?_
      refine lv_iload hx hb dX2_finishTrick_36 (lv_at hl 0 rfl) ?_
      refine jr_callS (n := 2) (As := [.int vled, .int 1]) (rest := [.int vp1, .ref aF]) S (c_X2_worth vled 1) gX2_finishTrick_X2_worth rfl (by decide +kernel) rfl ⟨⟨rfl, rfl⟩, ⟨Nat.le_of_ble_eq_true rfl, Nat.le_of_ble_eq_true rfl⟩, Nat.le_of_ble_eq_true rfl, Nat.le_of_ble_eq_true rfl⟩ hP hK hN [] [] rfl rfl (lv_nil hl) rfl (Nat.le_of_ble_eq_true rfl) dX2_finishTrick_38 ?_
      refine lv_iload_n hx hb dX2_finishTrick_41 rfl (lv_at hl 4 rfl) ?_
      refine lv_iload hx hb dX2_finishTrick_42 (lv_at hl 0 rfl) ?_
      refine jr_callS (n := 2) (As := [.int x0, .int 1]) (rest := [.int (j_X2_worth vled 1), .int vp1, .ref aF]) S (c_X2_worth x0 1) gX2_finishTrick_X2_worth rfl (by decide +kernel) rfl ⟨⟨rfl, rfl⟩, ⟨Nat.le_of_ble_eq_true rfl, Nat.le_of_ble_eq_true rfl⟩, Nat.le_of_ble_eq_true rfl, Nat.le_of_ble_eq_true rfl⟩ hP hK hN [] [] rfl rfl (lv_nil hl) rfl (Nat.le_of_ble_eq_true rfl) dX2_finishTrick_44 ?_
      refine lv_iadd hx hb dX2_finishTrick_47 ?_
      refine lv_iadd hx hb dX2_finishTrick_48 ?_
      refine va_put (D := D) (ci := 0) (v := .int (vp1 + ((j_X2_worth vled 1) + (j_X2_worth x0 1)))) (ty := .int) (C := RX0) (T := TX0) (N := 5) hx hb hts inX2_finishTrick_X0 tyX0 tyX0_ok nmX0 hown hK hP hD hS 1 rfl rfl 2 (by decide) (hts (.fieldLink RX2 133 "ArchivistTricks$Archivist" "points" "I") (by decide +kernel)) (fun _ h9 => h9) rfl (by decide +kernel) rfl rfl (Nat.le_of_ble_eq_true rfl) dX2_finishTrick_49 (fun H locs hP hD hS => ?_)
      have hP : va_P D vwCl [(a0, .inr (2, [.ref aR, .ref aF, .ref aG, .int vdrawn, .int vtr, .int vled, .int vmov, .int vw1, .int vw2, va_rf veo, .int veb])), (aF, .inr (0, [.long vh1, .long vt1, .int (vp1 + ((j_X2_worth vled 1) + (j_X2_worth x0 1))), .int vk1, .int vg1])), (aG, .inr (0, [.long vh2, .long vt2, .int vp2, .int vk2, .int vg2])), (aR, .inl (cI, 42, .inl vrow))] H := hP
      have hD : va_D A [(a0, .inr (2, [.ref aR, .ref aF, .ref aG, .int vdrawn, .int vtr, .int vled, .int vmov, .int vw1, .int vw2, va_rf veo, .int veb])), (aF, .inr (0, [.long vh1, .long vt1, .int (vp1 + ((j_X2_worth vled 1) + (j_X2_worth x0 1))), .int vk1, .int vg1])), (aG, .inr (0, [.long vh2, .long vt2, .int vp2, .int vk2, .int vg2])), (aR, .inl (cI, 42, .inl vrow))] := hD
      refine lv_aload_n hx hb dX2_finishTrick_52 rfl (lv_at hl 1 rfl) ?_
      refine lv_dup hx hb dX2_finishTrick_53 rfl ?_
      refine va_get (D := D) (ci := 0) (v := .int vk1) (C := RX0) (T := TX0) (N := 5) hx hb hts inX2_finishTrick_X0 hown hK hP 1 rfl rfl 3 (by decide) (hts (.fieldLink RX2 136 "ArchivistTricks$Archivist" "tricks" "I") (by decide +kernel)) (fun _ h9 => h9) rfl dX2_finishTrick_54 ?_
      refine lv_iconst (v := 1) hx hb dX2_finishTrick_57 (by decide) ?_
      refine lv_iadd hx hb dX2_finishTrick_58 ?_
      refine va_put (D := D) (ci := 0) (v := .int (vk1 + 1)) (ty := .int) (C := RX0) (T := TX0) (N := 5) hx hb hts inX2_finishTrick_X0 tyX0 tyX0_ok nmX0 hown hK hP hD hS 1 rfl rfl 3 (by decide) (hts (.fieldLink RX2 136 "ArchivistTricks$Archivist" "tricks" "I") (by decide +kernel)) (fun _ h9 => h9) rfl (by decide +kernel) rfl rfl (Nat.le_of_ble_eq_true rfl) dX2_finishTrick_59 (fun H locs hP hD hS => ?_)
      have hP : va_P D vwCl [(a0, .inr (2, [.ref aR, .ref aF, .ref aG, .int vdrawn, .int vtr, .int vled, .int vmov, .int vw1, .int vw2, va_rf veo, .int veb])), (aF, .inr (0, [.long vh1, .long vt1, .int (vp1 + ((j_X2_worth vled 1) + (j_X2_worth x0 1))), .int (vk1 + 1), .int vg1])), (aG, .inr (0, [.long vh2, .long vt2, .int vp2, .int vk2, .int vg2])), (aR, .inl (cI, 42, .inl vrow))] H := hP
      have hD : va_D A [(a0, .inr (2, [.ref aR, .ref aF, .ref aG, .int vdrawn, .int vtr, .int vled, .int vmov, .int vw1, .int vw2, va_rf veo, .int veb])), (aF, .inr (0, [.long vh1, .long vt1, .int (vp1 + ((j_X2_worth vled 1) + (j_X2_worth x0 1))), .int (vk1 + 1), .int vg1])), (aG, .inr (0, [.long vh2, .long vt2, .int vp2, .int vk2, .int vg2])), (aR, .inl (cI, 42, .inl vrow))] := hD
      refine lv_aload_n hx hb dX2_finishTrick_62 rfl (lv_at hl 1 rfl) ?_
      refine lv_dup hx hb dX2_finishTrick_63 rfl ?_
      refine va_get (D := D) (ci := 0) (v := .long vt1) (C := RX0) (T := TX0) (N := 5) hx hb hts inX2_finishTrick_X0 hown hK hP 1 rfl rfl 1 (by decide) (hts (.fieldLink RX2 130 "ArchivistTricks$Archivist" "taken" "J") (by decide +kernel)) (fun _ h9 => h9) rfl dX2_finishTrick_64 ?_
      refine lv_aload_n hx hb dX2_finishTrick_67 rfl (lv_at hl 3 rfl) ?_
      refine va_get (D := D) (ci := 2) (v := .int vled) (C := RX2) (T := TX2) (N := 11) hx hb hts inX2_finishTrick_X2 hown hK hP 0 rfl rfl 5 (by decide) (hts (.fieldLink RX2 30 "ArchivistTricks" "ledCard" "I") (by decide +kernel)) (fun _ h9 => h9) rfl dX2_finishTrick_68 ?_
      refine jr_callS (n := 1) (As := [.int vled]) (rest := [.long vt1, .ref aF]) S (c_X2_bit vled) gX2_finishTrick_X2_bit rfl (by decide +kernel) rfl ⟨⟨rfl, rfl⟩, ⟨Nat.le_of_ble_eq_true rfl, Nat.le_of_ble_eq_true rfl⟩, Nat.le_of_ble_eq_true rfl, Nat.le_of_ble_eq_true rfl⟩ hP hK hN [] [] rfl rfl (lv_nil hl) rfl (Nat.le_of_ble_eq_true rfl) dX2_finishTrick_71 ?_
      refine lv_iload_n hx hb dX2_finishTrick_74 rfl (lv_at hl 4 rfl) ?_
      refine jr_callS (n := 1) (As := [.int x0]) (rest := [.long (j_X2_bit vled), .long vt1, .ref aF]) S (c_X2_bit x0) gX2_finishTrick_X2_bit rfl (by decide +kernel) rfl ⟨⟨rfl, rfl⟩, ⟨Nat.le_of_ble_eq_true rfl, Nat.le_of_ble_eq_true rfl⟩, Nat.le_of_ble_eq_true rfl, Nat.le_of_ble_eq_true rfl⟩ hP hK hN [] [] rfl rfl (lv_nil hl) rfl (Nat.le_of_ble_eq_true rfl) dX2_finishTrick_75 ?_
      refine lv_lor hx hb dX2_finishTrick_78 ?_
      refine lv_lor hx hb dX2_finishTrick_79 ?_
      refine va_put (D := D) (ci := 0) (v := .long (vt1 ||| ((j_X2_bit vled) ||| (j_X2_bit x0)))) (ty := .long) (C := RX0) (T := TX0) (N := 5) hx hb hts inX2_finishTrick_X0 tyX0 tyX0_ok nmX0 hown hK hP hD hS 1 rfl rfl 1 (by decide) (hts (.fieldLink RX2 130 "ArchivistTricks$Archivist" "taken" "J") (by decide +kernel)) (fun _ h9 => h9) rfl (by decide +kernel) rfl rfl (Nat.le_of_ble_eq_true rfl) dX2_finishTrick_80 (fun H locs hP hD hS => ?_)
      have hP : va_P D vwCl [(a0, .inr (2, [.ref aR, .ref aF, .ref aG, .int vdrawn, .int vtr, .int vled, .int vmov, .int vw1, .int vw2, va_rf veo, .int veb])), (aF, .inr (0, [.long vh1, .long (vt1 ||| ((j_X2_bit vled) ||| (j_X2_bit x0))), .int (vp1 + ((j_X2_worth vled 1) + (j_X2_worth x0 1))), .int (vk1 + 1), .int vg1])), (aG, .inr (0, [.long vh2, .long vt2, .int vp2, .int vk2, .int vg2])), (aR, .inl (cI, 42, .inl vrow))] H := hP
      have hD : va_D A [(a0, .inr (2, [.ref aR, .ref aF, .ref aG, .int vdrawn, .int vtr, .int vled, .int vmov, .int vw1, .int vw2, va_rf veo, .int veb])), (aF, .inr (0, [.long vh1, .long (vt1 ||| ((j_X2_bit vled) ||| (j_X2_bit x0))), .int (vp1 + ((j_X2_worth vled 1) + (j_X2_worth x0 1))), .int (vk1 + 1), .int vg1])), (aG, .inr (0, [.long vh2, .long vt2, .int vp2, .int vk2, .int vg2])), (aR, .inl (cI, 42, .inl vrow))] := hD
      refine lv_aload_n hx hb dX2_finishTrick_83 rfl (lv_at hl 3 rfl) ?_
      refine va_get (D := D) (ci := 2) (v := .ref aF) (C := RX2) (T := TX2) (N := 11) hx hb hts inX2_finishTrick_X2 hown hK hP 0 rfl rfl 1 (by decide) (hts (.fieldLink RX2 16 "ArchivistTricks" "first" "LArchivistTricks$Archivist;") (by decide +kernel)) (fun _ h9 => h9) rfl dX2_finishTrick_84 ?_
      refine jw_callVv (n := 0) (C := RX0) (As := []) (rest := []) (wr := [(a0, .inr (2, [.ref aR, .ref aF, .ref aG, .int vdrawn, .int vtr, .int vled, .int vmov, .int vw1, .int vw2, va_rf veo, .int veb])), (aG, .inr (0, [.long vh2, .long vt2, .int vp2, .int vk2, .int vg2])), (aR, .inl (cI, 42, .inl vrow))]) (wn := [(a0, .inr (2, [.ref aR, .ref aF, .ref aG, .int vdrawn, .int vtr, .int vled, .int vmov, .int vw1, .int vw2, va_rf veo, .int veb])), (aF, .inr (0, [.long vh1, .long (vt1 ||| ((j_X2_bit vled) ||| (j_X2_bit x0))), .int (vp1 + ((j_X2_worth vled 1) + (j_X2_worth x0 1))), .int (vk1 + 1), .int (j_X0_loseWornGloves_vg vg1)])), (aG, .inr (0, [.long vh2, .long vt2, .int vp2, .int vk2, .int vg2])), (aR, .inl (cI, 42, .inl vrow))]) S (c_X0_loseWornGloves aF vh1 (vt1 ||| ((j_X2_bit vled) ||| (j_X2_bit x0))) (vp1 + ((j_X2_worth vled 1) + (j_X2_worth x0 1))) (vk1 + 1) vg1) gX2_finishTrick_X0_loseWornGloves rfl (by decide +kernel) rfl ⟨⟨rfl, rfl⟩, ⟨Nat.le_of_ble_eq_true rfl, Nat.le_of_ble_eq_true rfl⟩, Nat.le_of_ble_eq_true rfl, Nat.le_of_ble_eq_true rfl⟩ hP hK hN hD hS hA [1] [0, 2, 3] [0, 3, 1, 2] [] rfl rfl ⟨rfl, rfl, rfl⟩ (by decide) rfl rfl 0 0 rfl rfl rfl (lv_nil hl) rfl (Nat.le_of_ble_eq_true rfl) dX2_finishTrick_87 (fun H locs hP hD hS => ?_)
      refine lv_aload_n hx hb dX2_finishTrick_90 rfl (lv_at hl 3 rfl) ?_
      refine va_get (D := D) (ci := 2) (v := .ref aG) (C := RX2) (T := TX2) (N := 11) hx hb hts inX2_finishTrick_X2 hown hK hP 0 rfl rfl 2 (by decide) (hts (.fieldLink RX2 20 "ArchivistTricks" "second" "LArchivistTricks$Archivist;") (by decide +kernel)) (fun _ h9 => h9) rfl dX2_finishTrick_91 ?_
      refine jw_callVv (n := 0) (C := RX0) (As := []) (rest := []) (wr := [(a0, .inr (2, [.ref aR, .ref aF, .ref aG, .int vdrawn, .int vtr, .int vled, .int vmov, .int vw1, .int vw2, va_rf veo, .int veb])), (aF, .inr (0, [.long vh1, .long (vt1 ||| ((j_X2_bit vled) ||| (j_X2_bit x0))), .int (vp1 + ((j_X2_worth vled 1) + (j_X2_worth x0 1))), .int (vk1 + 1), .int (j_X0_loseWornGloves_vg vg1)])), (aR, .inl (cI, 42, .inl vrow))]) (wn := [(a0, .inr (2, [.ref aR, .ref aF, .ref aG, .int vdrawn, .int vtr, .int vled, .int vmov, .int vw1, .int vw2, va_rf veo, .int veb])), (aF, .inr (0, [.long vh1, .long (vt1 ||| ((j_X2_bit vled) ||| (j_X2_bit x0))), .int (vp1 + ((j_X2_worth vled 1) + (j_X2_worth x0 1))), .int (vk1 + 1), .int (j_X0_loseWornGloves_vg vg1)])), (aG, .inr (0, [.long vh2, .long vt2, .int vp2, .int vk2, .int (j_X0_loseWornGloves_vg vg2)])), (aR, .inl (cI, 42, .inl vrow))]) S (c_X0_loseWornGloves aG vh2 vt2 vp2 vk2 vg2) gX2_finishTrick_X0_loseWornGloves rfl (by decide +kernel) rfl ⟨⟨rfl, rfl⟩, ⟨Nat.le_of_ble_eq_true rfl, Nat.le_of_ble_eq_true rfl⟩, Nat.le_of_ble_eq_true rfl, Nat.le_of_ble_eq_true rfl⟩ hP hK hN hD hS hA [2] [0, 1, 3] [0, 1, 3, 2] [] rfl rfl ⟨rfl, rfl, rfl⟩ (by decide) rfl rfl 0 0 rfl rfl rfl (lv_nil hl) rfl (Nat.le_of_ble_eq_true rfl) dX2_finishTrick_94 (fun H locs hP hD hS => ?_)
      refine lv_aload_n hx hb dX2_finishTrick_97 rfl (lv_at hl 3 rfl) ?_
      refine lv_iconst (v := (-1)) hx hb dX2_finishTrick_98 (by decide) ?_
      refine va_put (D := D) (ci := 2) (v := .int (-1)) (ty := .int) (C := RX2) (T := TX2) (N := 11) hx hb hts inX2_finishTrick_X2 tyX2 tyX2_ok nmX2 hown hK hP hD hS 0 rfl rfl 5 (by decide) (hts (.fieldLink RX2 30 "ArchivistTricks" "ledCard" "I") (by decide +kernel)) (fun _ h9 => h9) rfl (by decide +kernel) rfl rfl (Nat.le_of_ble_eq_true rfl) dX2_finishTrick_99 (fun H locs hP hD hS => ?_)
      have hP : va_P D vwCl [(a0, .inr (2, [.ref aR, .ref aF, .ref aG, .int vdrawn, .int vtr, .int (-1), .int vmov, .int vw1, .int vw2, va_rf veo, .int veb])), (aF, .inr (0, [.long vh1, .long (vt1 ||| ((j_X2_bit vled) ||| (j_X2_bit x0))), .int (vp1 + ((j_X2_worth vled 1) + (j_X2_worth x0 1))), .int (vk1 + 1), .int (j_X0_loseWornGloves_vg vg1)])), (aG, .inr (0, [.long vh2, .long vt2, .int vp2, .int vk2, .int (j_X0_loseWornGloves_vg vg2)])), (aR, .inl (cI, 42, .inl vrow))] H := hP
      have hD : va_D A [(a0, .inr (2, [.ref aR, .ref aF, .ref aG, .int vdrawn, .int vtr, .int (-1), .int vmov, .int vw1, .int vw2, va_rf veo, .int veb])), (aF, .inr (0, [.long vh1, .long (vt1 ||| ((j_X2_bit vled) ||| (j_X2_bit x0))), .int (vp1 + ((j_X2_worth vled 1) + (j_X2_worth x0 1))), .int (vk1 + 1), .int (j_X0_loseWornGloves_vg vg1)])), (aG, .inr (0, [.long vh2, .long vt2, .int vp2, .int vk2, .int (j_X0_loseWornGloves_vg vg2)])), (aR, .inl (cI, 42, .inl vrow))] := hD
      refine lv_aload_n hx hb dX2_finishTrick_102 rfl (lv_at hl 3 rfl) ?_
      refine lv_aload_n hx hb dX2_finishTrick_103 rfl (lv_at hl 1 rfl) ?_
      refine jw_callVv (n := 1) (C := RX2) (As := [.ref aF]) (rest := []) (wr := []) (wn := [(a0, .inr (2, [.ref aR, .ref aF, .ref aG, .int (j_X2_drawFor_F_vdrawn vdrawn), .int vtr, .int (-1), .int vmov, .int vw1, .int vw2, va_rf veo, .int veb])), (aF, .inr (0, [.long (j_X2_drawFor_F_vh1 vrow vdrawn vh1), .long (vt1 ||| ((j_X2_bit vled) ||| (j_X2_bit x0))), .int (vp1 + ((j_X2_worth vled 1) + (j_X2_worth x0 1))), .int (vk1 + 1), .int (j_X0_loseWornGloves_vg vg1)])), (aG, .inr (0, [.long vh2, .long vt2, .int vp2, .int vk2, .int (j_X0_loseWornGloves_vg vg2)])), (aR, .inl (cI, 42, .inl vrow))]) S (c_X2_drawFor_F a0 aR aF aG cI vrow vdrawn vtr (-1) vmov vw1 vw2 veo veb vh1 (vt1 ||| ((j_X2_bit vled) ||| (j_X2_bit x0))) (vp1 + ((j_X2_worth vled 1) + (j_X2_worth x0 1))) (vk1 + 1) (j_X0_loseWornGloves_vg vg1) vh2 vt2 vp2 vk2 (j_X0_loseWornGloves_vg vg2)) gX2_finishTrick_X2_drawFor rfl (by decide +kernel) rfl ⟨⟨rfl, rfl⟩, ⟨Nat.le_of_ble_eq_true rfl, Nat.le_of_ble_eq_true rfl⟩, Nat.le_of_ble_eq_true rfl, Nat.le_of_ble_eq_true rfl⟩ hP hK hN hD hS hA [0, 1, 2, 3] [] [0, 1, 2, 3] [0] rfl rfl ⟨rfl, rfl, rfl⟩ (by decide) rfl rfl 0 2 rfl rfl rfl (lv_nil hl) rfl (Nat.le_of_ble_eq_true rfl) dX2_finishTrick_104 (fun H locs hP hD hS => ?_)
      refine lv_aload_n hx hb dX2_finishTrick_107 rfl (lv_at hl 3 rfl) ?_
      refine lv_aload_n hx hb dX2_finishTrick_108 rfl (lv_at hl 3 rfl) ?_
      refine lv_iconst (v := 1) hx hb dX2_finishTrick_109 (by decide) ?_
      refine lv_iload_n hx hb dX2_finishTrick_110 rfl (lv_at hl 2 rfl) ?_
      refine lv_isub hx hb dX2_finishTrick_111 ?_
      refine jr_callV (n := 1) (C := RX2) (As := [.int (1 - (j_X2_takerBy vtr vled vmov x0))]) (rest := [.ref a0]) S (c_X2_archivist a0 aR aF aG cI vrow (j_X2_drawFor_F_vdrawn vdrawn) vtr (-1) vmov vw1 vw2 veo veb (j_X2_drawFor_F_vh1 vrow vdrawn vh1) (vt1 ||| ((j_X2_bit vled) ||| (j_X2_bit x0))) (vp1 + ((j_X2_worth vled 1) + (j_X2_worth x0 1))) (vk1 + 1) (j_X0_loseWornGloves_vg vg1) vh2 vt2 vp2 vk2 (j_X0_loseWornGloves_vg vg2) (1 - (j_X2_takerBy vtr vled vmov x0))) gX2_finishTrick_X2_archivist rfl (by decide +kernel) rfl ⟨⟨rfl, rfl⟩, ⟨Nat.le_of_ble_eq_true rfl, Nat.le_of_ble_eq_true rfl⟩, Nat.le_of_ble_eq_true rfl, Nat.le_of_ble_eq_true rfl⟩ hP hK hN [0, 1, 2, 3] [0] rfl rfl 0 2 rfl rfl rfl (lv_nil hl) rfl (Nat.le_of_ble_eq_true rfl) dX2_finishTrick_112 ?_
      refine jr_ite (c0 := (1 - (j_X2_takerBy vtr vled vmov x0)) = 0) (a := aF) (b := aG) rfl (fun c_6 => ?_) (fun c_6 => ?_)
      · skip
        refine jw_callVv (n := 1) (C := RX2) (As := [.ref aF]) (rest := []) (wr := []) (wn := [(a0, .inr (2, [.ref aR, .ref aF, .ref aG, .int (j_X2_drawFor_F_vdrawn (j_X2_drawFor_F_vdrawn vdrawn)), .int vtr, .int (-1), .int vmov, .int vw1, .int vw2, va_rf veo, .int veb])), (aF, .inr (0, [.long (j_X2_drawFor_F_vh1 vrow (j_X2_drawFor_F_vdrawn vdrawn) (j_X2_drawFor_F_vh1 vrow vdrawn vh1)), .long (vt1 ||| ((j_X2_bit vled) ||| (j_X2_bit x0))), .int (vp1 + ((j_X2_worth vled 1) + (j_X2_worth x0 1))), .int (vk1 + 1), .int (j_X0_loseWornGloves_vg vg1)])), (aG, .inr (0, [.long vh2, .long vt2, .int vp2, .int vk2, .int (j_X0_loseWornGloves_vg vg2)])), (aR, .inl (cI, 42, .inl vrow))]) S (c_X2_drawFor_F a0 aR aF aG cI vrow (j_X2_drawFor_F_vdrawn vdrawn) vtr (-1) vmov vw1 vw2 veo veb (j_X2_drawFor_F_vh1 vrow vdrawn vh1) (vt1 ||| ((j_X2_bit vled) ||| (j_X2_bit x0))) (vp1 + ((j_X2_worth vled 1) + (j_X2_worth x0 1))) (vk1 + 1) (j_X0_loseWornGloves_vg vg1) vh2 vt2 vp2 vk2 (j_X0_loseWornGloves_vg vg2)) gX2_finishTrick_X2_drawFor rfl (by decide +kernel) rfl ⟨⟨rfl, rfl⟩, ⟨Nat.le_of_ble_eq_true rfl, Nat.le_of_ble_eq_true rfl⟩, Nat.le_of_ble_eq_true rfl, Nat.le_of_ble_eq_true rfl⟩ hP hK hN hD hS hA [0, 1, 2, 3] [] [0, 1, 2, 3] [0] rfl rfl ⟨rfl, rfl, rfl⟩ (by decide) rfl rfl 0 2 rfl rfl rfl (lv_nil hl) rfl (Nat.le_of_ble_eq_true rfl) dX2_finishTrick_115 (fun H locs hP hD hS => ?_)
        refine lv_aload_n hx hb dX2_finishTrick_118 rfl (lv_at hl 3 rfl) ?_
        refine lv_iload_n hx hb dX2_finishTrick_119 rfl (lv_at hl 2 rfl) ?_
        refine va_put (D := D) (ci := 2) (v := .int (j_X2_takerBy vtr vled vmov x0)) (ty := .int) (C := RX2) (T := TX2) (N := 11) hx hb hts inX2_finishTrick_X2 tyX2 tyX2_ok nmX2 hown hK hP hD hS 0 rfl rfl 6 (by decide) (hts (.fieldLink RX2 33 "ArchivistTricks" "mover" "I") (by decide +kernel)) (fun _ h9 => h9) rfl (by decide +kernel) rfl rfl (Nat.le_of_ble_eq_true rfl) dX2_finishTrick_120 (fun H locs hP hD hS => ?_)
        have hP : va_P D vwCl [(a0, .inr (2, [.ref aR, .ref aF, .ref aG, .int (j_X2_drawFor_F_vdrawn (j_X2_drawFor_F_vdrawn vdrawn)), .int vtr, .int (-1), .int (j_X2_takerBy vtr vled vmov x0), .int vw1, .int vw2, va_rf veo, .int veb])), (aF, .inr (0, [.long (j_X2_drawFor_F_vh1 vrow (j_X2_drawFor_F_vdrawn vdrawn) (j_X2_drawFor_F_vh1 vrow vdrawn vh1)), .long (vt1 ||| ((j_X2_bit vled) ||| (j_X2_bit x0))), .int (vp1 + ((j_X2_worth vled 1) + (j_X2_worth x0 1))), .int (vk1 + 1), .int (j_X0_loseWornGloves_vg vg1)])), (aG, .inr (0, [.long vh2, .long vt2, .int vp2, .int vk2, .int (j_X0_loseWornGloves_vg vg2)])), (aR, .inl (cI, 42, .inl vrow))] H := hP
        have hD : va_D A [(a0, .inr (2, [.ref aR, .ref aF, .ref aG, .int (j_X2_drawFor_F_vdrawn (j_X2_drawFor_F_vdrawn vdrawn)), .int vtr, .int (-1), .int (j_X2_takerBy vtr vled vmov x0), .int vw1, .int vw2, va_rf veo, .int veb])), (aF, .inr (0, [.long (j_X2_drawFor_F_vh1 vrow (j_X2_drawFor_F_vdrawn vdrawn) (j_X2_drawFor_F_vh1 vrow vdrawn vh1)), .long (vt1 ||| ((j_X2_bit vled) ||| (j_X2_bit x0))), .int (vp1 + ((j_X2_worth vled 1) + (j_X2_worth x0 1))), .int (vk1 + 1), .int (j_X0_loseWornGloves_vg vg1)])), (aG, .inr (0, [.long vh2, .long vt2, .int vp2, .int vk2, .int (j_X0_loseWornGloves_vg vg2)])), (aR, .inl (cI, 42, .inl vrow))] := hD
        refine lv_aload_n hx hb dX2_finishTrick_123 rfl (lv_at hl 3 rfl) ?_
        refine va_get (D := D) (ci := 2) (v := .ref aF) (C := RX2) (T := TX2) (N := 11) hx hb hts inX2_finishTrick_X2 hown hK hP 0 rfl rfl 1 (by decide) (hts (.fieldLink RX2 16 "ArchivistTricks" "first" "LArchivistTricks$Archivist;") (by decide +kernel)) (fun _ h9 => h9) rfl dX2_finishTrick_124 ?_
        refine va_get (D := D) (ci := 0) (v := .long (j_X2_drawFor_F_vh1 vrow (j_X2_drawFor_F_vdrawn vdrawn) (j_X2_drawFor_F_vh1 vrow vdrawn vh1))) (C := RX0) (T := TX0) (N := 5) hx hb hts inX2_finishTrick_X0 hown hK hP 1 rfl rfl 0 (by decide) (hts (.fieldLink RX2 91 "ArchivistTricks$Archivist" "hand" "J") (by decide +kernel)) (fun _ h9 => h9) rfl dX2_finishTrick_127 ?_
        refine lv_aload_n hx hb dX2_finishTrick_130 rfl (lv_at hl 3 rfl) ?_
        refine va_get (D := D) (ci := 2) (v := .ref aG) (C := RX2) (T := TX2) (N := 11) hx hb hts inX2_finishTrick_X2 hown hK hP 0 rfl rfl 2 (by decide) (hts (.fieldLink RX2 20 "ArchivistTricks" "second" "LArchivistTricks$Archivist;") (by decide +kernel)) (fun _ h9 => h9) rfl dX2_finishTrick_131 ?_
        refine va_get (D := D) (ci := 0) (v := .long vh2) (C := RX0) (T := TX0) (N := 5) hx hb hts inX2_finishTrick_X0 hown hK hP 2 rfl rfl 0 (by decide) (hts (.fieldLink RX2 91 "ArchivistTricks$Archivist" "hand" "J") (by decide +kernel)) (fun _ h9 => h9) rfl dX2_finishTrick_134 ?_
        refine lv_lor hx hb dX2_finishTrick_137 ?_
        refine lv_lconst (v := 0) hx hb dX2_finishTrick_138 (by decide) ?_
        refine W.lcmp hx hb dX2_finishTrick_139 ?_
        refine lv_if_ne (tgt := 147) hx hb dX2_finishTrick_140 (by decide) (fun c_7 => ?_) (fun c_7 => ?_)
        · skip
          refine lv_iload_n hx hb dX2_finishTrick_147 rfl (lv_at hl 2 rfl) ?_
          exact jw_iret hx hb hr hlocks hK hP hD hS dX2_finishTrick_148 (by  simp only [j_X2_finishTrick, if_pos c_1, if_pos c_2, if_pos c_6, if_neg c_7]) (by  simp only [j_X2_finishTrick_vdrawn, j_X2_finishTrick_vled, j_X2_finishTrick_vmov, j_X2_finishTrick_vw1, j_X2_finishTrick_vw2, j_X2_finishTrick_vh1, j_X2_finishTrick_vt1, j_X2_finishTrick_vp1, j_X2_finishTrick_vk1, j_X2_finishTrick_vg1, j_X2_finishTrick_vh2, j_X2_finishTrick_vt2, j_X2_finishTrick_vp2, j_X2_finishTrick_vk2, j_X2_finishTrick_vg2, if_pos c_1, if_pos c_2, if_pos c_6, if_neg c_7])
        · skip
          refine lv_aload_n hx hb dX2_finishTrick_143 rfl (lv_at hl 3 rfl) ?_
          refine jw_callVv (n := 0) (C := RX2) (As := []) (rest := []) (wr := []) (wn := [(a0, .inr (2, [.ref aR, .ref aF, .ref aG, .int (j_X2_drawFor_F_vdrawn (j_X2_drawFor_F_vdrawn vdrawn)), .int vtr, .int (-1), .int j_X2_endGame_vmov, .int (j_X2_endGame_vw1 vw1 (vp1 + ((j_X2_worth vled 1) + (j_X2_worth x0 1))) vp2), .int (j_X2_endGame_vw2 vw2 (vp1 + ((j_X2_worth vled 1) + (j_X2_worth x0 1))) vp2), va_rf veo, .int veb])), (aF, .inr (0, [.long (j_X2_drawFor_F_vh1 vrow (j_X2_drawFor_F_vdrawn vdrawn) (j_X2_drawFor_F_vh1 vrow vdrawn vh1)), .long (vt1 ||| ((j_X2_bit vled) ||| (j_X2_bit x0))), .int (vp1 + ((j_X2_worth vled 1) + (j_X2_worth x0 1))), .int (vk1 + 1), .int (j_X0_loseWornGloves_vg vg1)])), (aG, .inr (0, [.long vh2, .long vt2, .int vp2, .int vk2, .int (j_X0_loseWornGloves_vg vg2)])), (aR, .inl (cI, 42, .inl vrow))]) S (c_X2_endGame a0 aR aF aG cI vrow (j_X2_drawFor_F_vdrawn (j_X2_drawFor_F_vdrawn vdrawn)) vtr (-1) (j_X2_takerBy vtr vled vmov x0) vw1 vw2 veo veb (j_X2_drawFor_F_vh1 vrow (j_X2_drawFor_F_vdrawn vdrawn) (j_X2_drawFor_F_vh1 vrow vdrawn vh1)) (vt1 ||| ((j_X2_bit vled) ||| (j_X2_bit x0))) (vp1 + ((j_X2_worth vled 1) + (j_X2_worth x0 1))) (vk1 + 1) (j_X0_loseWornGloves_vg vg1) vh2 vt2 vp2 vk2 (j_X0_loseWornGloves_vg vg2)) gX2_finishTrick_X2_endGame rfl (by decide +kernel) rfl ⟨⟨rfl, rfl⟩, ⟨Nat.le_of_ble_eq_true rfl, Nat.le_of_ble_eq_true rfl⟩, Nat.le_of_ble_eq_true rfl, Nat.le_of_ble_eq_true rfl⟩ hP hK hN hD hS hA [0, 1, 2, 3] [] [0, 1, 2, 3] [0] rfl rfl ⟨rfl, rfl, rfl⟩ (by decide) rfl rfl 0 2 rfl rfl rfl (lv_nil hl) rfl (Nat.le_of_ble_eq_true rfl) dX2_finishTrick_144 (fun H locs hP hD hS => ?_)
          refine lv_iload_n hx hb dX2_finishTrick_147 rfl (lv_at hl 2 rfl) ?_
          exact jw_iret hx hb hr hlocks hK hP hD hS dX2_finishTrick_148 (by  simp only [j_X2_finishTrick, if_pos c_1, if_pos c_2, if_pos c_6, if_pos c_7]) (by  simp only [j_X2_finishTrick_vdrawn, j_X2_finishTrick_vled, j_X2_finishTrick_vmov, j_X2_finishTrick_vw1, j_X2_finishTrick_vw2, j_X2_finishTrick_vh1, j_X2_finishTrick_vt1, j_X2_finishTrick_vp1, j_X2_finishTrick_vk1, j_X2_finishTrick_vg1, j_X2_finishTrick_vh2, j_X2_finishTrick_vt2, j_X2_finishTrick_vp2, j_X2_finishTrick_vk2, j_X2_finishTrick_vg2, if_pos c_1, if_pos c_2, if_pos c_6, if_pos c_7])
      · skip
        refine jw_callVv (n := 1) (C := RX2) (As := [.ref aG]) (rest := []) (wr := []) (wn := [(a0, .inr (2, [.ref aR, .ref aF, .ref aG, .int (j_X2_drawFor_G_vdrawn (j_X2_drawFor_F_vdrawn vdrawn)), .int vtr, .int (-1), .int vmov, .int vw1, .int vw2, va_rf veo, .int veb])), (aF, .inr (0, [.long (j_X2_drawFor_F_vh1 vrow vdrawn vh1), .long (vt1 ||| ((j_X2_bit vled) ||| (j_X2_bit x0))), .int (vp1 + ((j_X2_worth vled 1) + (j_X2_worth x0 1))), .int (vk1 + 1), .int (j_X0_loseWornGloves_vg vg1)])), (aG, .inr (0, [.long (j_X2_drawFor_G_vh2 vrow (j_X2_drawFor_F_vdrawn vdrawn) vh2), .long vt2, .int vp2, .int vk2, .int (j_X0_loseWornGloves_vg vg2)])), (aR, .inl (cI, 42, .inl vrow))]) S (c_X2_drawFor_G a0 aR aF aG cI vrow (j_X2_drawFor_F_vdrawn vdrawn) vtr (-1) vmov vw1 vw2 veo veb (j_X2_drawFor_F_vh1 vrow vdrawn vh1) (vt1 ||| ((j_X2_bit vled) ||| (j_X2_bit x0))) (vp1 + ((j_X2_worth vled 1) + (j_X2_worth x0 1))) (vk1 + 1) (j_X0_loseWornGloves_vg vg1) vh2 vt2 vp2 vk2 (j_X0_loseWornGloves_vg vg2)) gX2_finishTrick_X2_drawFor rfl (by decide +kernel) rfl ⟨⟨rfl, rfl⟩, ⟨Nat.le_of_ble_eq_true rfl, Nat.le_of_ble_eq_true rfl⟩, Nat.le_of_ble_eq_true rfl, Nat.le_of_ble_eq_true rfl⟩ hP hK hN hD hS hA [0, 1, 2, 3] [] [0, 1, 2, 3] [0] rfl rfl ⟨rfl, rfl, rfl⟩ (by decide) rfl rfl 0 2 rfl rfl rfl (lv_nil hl) rfl (Nat.le_of_ble_eq_true rfl) dX2_finishTrick_115 (fun H locs hP hD hS => ?_)
        refine lv_aload_n hx hb dX2_finishTrick_118 rfl (lv_at hl 3 rfl) ?_
        refine lv_iload_n hx hb dX2_finishTrick_119 rfl (lv_at hl 2 rfl) ?_
        refine va_put (D := D) (ci := 2) (v := .int (j_X2_takerBy vtr vled vmov x0)) (ty := .int) (C := RX2) (T := TX2) (N := 11) hx hb hts inX2_finishTrick_X2 tyX2 tyX2_ok nmX2 hown hK hP hD hS 0 rfl rfl 6 (by decide) (hts (.fieldLink RX2 33 "ArchivistTricks" "mover" "I") (by decide +kernel)) (fun _ h9 => h9) rfl (by decide +kernel) rfl rfl (Nat.le_of_ble_eq_true rfl) dX2_finishTrick_120 (fun H locs hP hD hS => ?_)
        have hP : va_P D vwCl [(a0, .inr (2, [.ref aR, .ref aF, .ref aG, .int (j_X2_drawFor_G_vdrawn (j_X2_drawFor_F_vdrawn vdrawn)), .int vtr, .int (-1), .int (j_X2_takerBy vtr vled vmov x0), .int vw1, .int vw2, va_rf veo, .int veb])), (aF, .inr (0, [.long (j_X2_drawFor_F_vh1 vrow vdrawn vh1), .long (vt1 ||| ((j_X2_bit vled) ||| (j_X2_bit x0))), .int (vp1 + ((j_X2_worth vled 1) + (j_X2_worth x0 1))), .int (vk1 + 1), .int (j_X0_loseWornGloves_vg vg1)])), (aG, .inr (0, [.long (j_X2_drawFor_G_vh2 vrow (j_X2_drawFor_F_vdrawn vdrawn) vh2), .long vt2, .int vp2, .int vk2, .int (j_X0_loseWornGloves_vg vg2)])), (aR, .inl (cI, 42, .inl vrow))] H := hP
        have hD : va_D A [(a0, .inr (2, [.ref aR, .ref aF, .ref aG, .int (j_X2_drawFor_G_vdrawn (j_X2_drawFor_F_vdrawn vdrawn)), .int vtr, .int (-1), .int (j_X2_takerBy vtr vled vmov x0), .int vw1, .int vw2, va_rf veo, .int veb])), (aF, .inr (0, [.long (j_X2_drawFor_F_vh1 vrow vdrawn vh1), .long (vt1 ||| ((j_X2_bit vled) ||| (j_X2_bit x0))), .int (vp1 + ((j_X2_worth vled 1) + (j_X2_worth x0 1))), .int (vk1 + 1), .int (j_X0_loseWornGloves_vg vg1)])), (aG, .inr (0, [.long (j_X2_drawFor_G_vh2 vrow (j_X2_drawFor_F_vdrawn vdrawn) vh2), .long vt2, .int vp2, .int vk2, .int (j_X0_loseWornGloves_vg vg2)])), (aR, .inl (cI, 42, .inl vrow))] := hD
        refine lv_aload_n hx hb dX2_finishTrick_123 rfl (lv_at hl 3 rfl) ?_
        refine va_get (D := D) (ci := 2) (v := .ref aF) (C := RX2) (T := TX2) (N := 11) hx hb hts inX2_finishTrick_X2 hown hK hP 0 rfl rfl 1 (by decide) (hts (.fieldLink RX2 16 "ArchivistTricks" "first" "LArchivistTricks$Archivist;") (by decide +kernel)) (fun _ h9 => h9) rfl dX2_finishTrick_124 ?_
        refine va_get (D := D) (ci := 0) (v := .long (j_X2_drawFor_F_vh1 vrow vdrawn vh1)) (C := RX0) (T := TX0) (N := 5) hx hb hts inX2_finishTrick_X0 hown hK hP 1 rfl rfl 0 (by decide) (hts (.fieldLink RX2 91 "ArchivistTricks$Archivist" "hand" "J") (by decide +kernel)) (fun _ h9 => h9) rfl dX2_finishTrick_127 ?_
        refine lv_aload_n hx hb dX2_finishTrick_130 rfl (lv_at hl 3 rfl) ?_
        refine va_get (D := D) (ci := 2) (v := .ref aG) (C := RX2) (T := TX2) (N := 11) hx hb hts inX2_finishTrick_X2 hown hK hP 0 rfl rfl 2 (by decide) (hts (.fieldLink RX2 20 "ArchivistTricks" "second" "LArchivistTricks$Archivist;") (by decide +kernel)) (fun _ h9 => h9) rfl dX2_finishTrick_131 ?_
        refine va_get (D := D) (ci := 0) (v := .long (j_X2_drawFor_G_vh2 vrow (j_X2_drawFor_F_vdrawn vdrawn) vh2)) (C := RX0) (T := TX0) (N := 5) hx hb hts inX2_finishTrick_X0 hown hK hP 2 rfl rfl 0 (by decide) (hts (.fieldLink RX2 91 "ArchivistTricks$Archivist" "hand" "J") (by decide +kernel)) (fun _ h9 => h9) rfl dX2_finishTrick_134 ?_
        refine lv_lor hx hb dX2_finishTrick_137 ?_
        refine lv_lconst (v := 0) hx hb dX2_finishTrick_138 (by decide) ?_
        refine W.lcmp hx hb dX2_finishTrick_139 ?_
        refine lv_if_ne (tgt := 147) hx hb dX2_finishTrick_140 (by decide) (fun c_8 => ?_) (fun c_8 => ?_)
        · skip
          refine lv_iload_n hx hb dX2_finishTrick_147 rfl (lv_at hl 2 rfl) ?_
          exact jw_iret hx hb hr hlocks hK hP hD hS dX2_finishTrick_148 (by  simp only [j_X2_finishTrick, if_pos c_1, if_pos c_2, if_neg c_6, if_neg c_8]) (by  simp only [j_X2_finishTrick_vdrawn, j_X2_finishTrick_vled, j_X2_finishTrick_vmov, j_X2_finishTrick_vw1, j_X2_finishTrick_vw2, j_X2_finishTrick_vh1, j_X2_finishTrick_vt1, j_X2_finishTrick_vp1, j_X2_finishTrick_vk1, j_X2_finishTrick_vg1, j_X2_finishTrick_vh2, j_X2_finishTrick_vt2, j_X2_finishTrick_vp2, j_X2_finishTrick_vk2, j_X2_finishTrick_vg2, if_pos c_1, if_pos c_2, if_neg c_6, if_neg c_8])
        · skip
          refine lv_aload_n hx hb dX2_finishTrick_143 rfl (lv_at hl 3 rfl) ?_
          refine jw_callVv (n := 0) (C := RX2) (As := []) (rest := []) (wr := []) (wn := [(a0, .inr (2, [.ref aR, .ref aF, .ref aG, .int (j_X2_drawFor_G_vdrawn (j_X2_drawFor_F_vdrawn vdrawn)), .int vtr, .int (-1), .int j_X2_endGame_vmov, .int (j_X2_endGame_vw1 vw1 (vp1 + ((j_X2_worth vled 1) + (j_X2_worth x0 1))) vp2), .int (j_X2_endGame_vw2 vw2 (vp1 + ((j_X2_worth vled 1) + (j_X2_worth x0 1))) vp2), va_rf veo, .int veb])), (aF, .inr (0, [.long (j_X2_drawFor_F_vh1 vrow vdrawn vh1), .long (vt1 ||| ((j_X2_bit vled) ||| (j_X2_bit x0))), .int (vp1 + ((j_X2_worth vled 1) + (j_X2_worth x0 1))), .int (vk1 + 1), .int (j_X0_loseWornGloves_vg vg1)])), (aG, .inr (0, [.long (j_X2_drawFor_G_vh2 vrow (j_X2_drawFor_F_vdrawn vdrawn) vh2), .long vt2, .int vp2, .int vk2, .int (j_X0_loseWornGloves_vg vg2)])), (aR, .inl (cI, 42, .inl vrow))]) S (c_X2_endGame a0 aR aF aG cI vrow (j_X2_drawFor_G_vdrawn (j_X2_drawFor_F_vdrawn vdrawn)) vtr (-1) (j_X2_takerBy vtr vled vmov x0) vw1 vw2 veo veb (j_X2_drawFor_F_vh1 vrow vdrawn vh1) (vt1 ||| ((j_X2_bit vled) ||| (j_X2_bit x0))) (vp1 + ((j_X2_worth vled 1) + (j_X2_worth x0 1))) (vk1 + 1) (j_X0_loseWornGloves_vg vg1) (j_X2_drawFor_G_vh2 vrow (j_X2_drawFor_F_vdrawn vdrawn) vh2) vt2 vp2 vk2 (j_X0_loseWornGloves_vg vg2)) gX2_finishTrick_X2_endGame rfl (by decide +kernel) rfl ⟨⟨rfl, rfl⟩, ⟨Nat.le_of_ble_eq_true rfl, Nat.le_of_ble_eq_true rfl⟩, Nat.le_of_ble_eq_true rfl, Nat.le_of_ble_eq_true rfl⟩ hP hK hN hD hS hA [0, 1, 2, 3] [] [0, 1, 2, 3] [0] rfl rfl ⟨rfl, rfl, rfl⟩ (by decide) rfl rfl 0 2 rfl rfl rfl (lv_nil hl) rfl (Nat.le_of_ble_eq_true rfl) dX2_finishTrick_144 (fun H locs hP hD hS => ?_)
          refine lv_iload_n hx hb dX2_finishTrick_147 rfl (lv_at hl 2 rfl) ?_
          exact jw_iret hx hb hr hlocks hK hP hD hS dX2_finishTrick_148 (by  simp only [j_X2_finishTrick, if_pos c_1, if_pos c_2, if_neg c_6, if_pos c_8]) (by  simp only [j_X2_finishTrick_vdrawn, j_X2_finishTrick_vled, j_X2_finishTrick_vmov, j_X2_finishTrick_vw1, j_X2_finishTrick_vw2, j_X2_finishTrick_vh1, j_X2_finishTrick_vt1, j_X2_finishTrick_vp1, j_X2_finishTrick_vk1, j_X2_finishTrick_vg1, j_X2_finishTrick_vh2, j_X2_finishTrick_vt2, j_X2_finishTrick_vp2, j_X2_finishTrick_vk2, j_X2_finishTrick_vg2, if_pos c_1, if_pos c_2, if_neg c_6, if_pos c_8])
  · skip
    refine lv_astore_n (lv' := [(3, .ref aG), (2, .int (j_X2_takerBy vtr vled vmov x0)), (0, .ref a0), (1, .int x0)]) hx hb dX2_finishTrick_11 rfl hl (by decide) rfl (fun ls hl => ?_)
    refine lv_aload_n hx hb dX2_finishTrick_12 rfl (lv_at hl 0 rfl) ?_
    refine va_get (D := D) (ci := 0) (v := .int vg2) (C := RX0) (T := TX0) (N := 5) hx hb hts inX2_finishTrick_X0 hown hK hP 2 rfl rfl 4 (by decide) (hts (.fieldLink RX2 105 "ArchivistTricks$Archivist" "gloves" "I") (by decide +kernel)) (fun _ h9 => h9) rfl dX2_finishTrick_13 ?_
    refine lv_iconst (v := 1) hx hb dX2_finishTrick_16 (by decide) ?_
    refine lv_icmp_ne (tgt := 24) hx hb dX2_finishTrick_17 (by decide) (fun c_9 => ?_) (fun c_9 => ?_)
    · skip
      refine lv_iconst (v := 0) hx hb dX2_finishTrick_24 (by decide) ?_
      refine lv_istore (lv' := [(4, .int 0), (3, .ref aG), (2, .int (j_X2_takerBy vtr vled vmov x0)), (0, .ref a0), (1, .int x0)]) hx hb dX2_finishTrick_25 hl (by decide) rfl (fun ls hl => ?_)
      refine lv_aload_n hx hb dX2_finishTrick_27 rfl (lv_at hl 1 rfl) ?_
      refine lv_dup hx hb dX2_finishTrick_28 rfl ?_
      refine va_get (D := D) (ci := 0) (v := .int vp2) (C := RX0) (T := TX0) (N := 5) hx hb hts inX2_finishTrick_X0 hown hK hP 2 rfl rfl 2 (by decide) (hts (.fieldLink RX2 133 "ArchivistTricks$Archivist" "points" "I") (by decide +kernel)) (fun _ h9 => h9) rfl dX2_finishTrick_29 ?_
      refine lv_aload_n hx hb dX2_finishTrick_32 rfl (lv_at hl 3 rfl) ?_
      refine va_get (D := D) (ci := 2) (v := .int vled) (C := RX2) (T := TX2) (N := 11) hx hb hts inX2_finishTrick_X2 hown hK hP 0 rfl rfl 5 (by decide) (hts (.fieldLink RX2 30 "ArchivistTricks" "ledCard" "I") (by decide +kernel)) (fun _ h9 => h9) rfl dX2_finishTrick_33 ?_
      refine lv_iload hx hb dX2_finishTrick_36 (lv_at hl 0 rfl) ?_
      refine jr_callS (n := 2) (As := [.int vled, .int 0]) (rest := [.int vp2, .ref aG]) S (c_X2_worth vled 0) gX2_finishTrick_X2_worth rfl (by decide +kernel) rfl ⟨⟨rfl, rfl⟩, ⟨Nat.le_of_ble_eq_true rfl, Nat.le_of_ble_eq_true rfl⟩, Nat.le_of_ble_eq_true rfl, Nat.le_of_ble_eq_true rfl⟩ hP hK hN [] [] rfl rfl (lv_nil hl) rfl (Nat.le_of_ble_eq_true rfl) dX2_finishTrick_38 ?_
      refine lv_iload_n hx hb dX2_finishTrick_41 rfl (lv_at hl 4 rfl) ?_
      refine lv_iload hx hb dX2_finishTrick_42 (lv_at hl 0 rfl) ?_
      refine jr_callS (n := 2) (As := [.int x0, .int 0]) (rest := [.int (j_X2_worth vled 0), .int vp2, .ref aG]) S (c_X2_worth x0 0) gX2_finishTrick_X2_worth rfl (by decide +kernel) rfl ⟨⟨rfl, rfl⟩, ⟨Nat.le_of_ble_eq_true rfl, Nat.le_of_ble_eq_true rfl⟩, Nat.le_of_ble_eq_true rfl, Nat.le_of_ble_eq_true rfl⟩ hP hK hN [] [] rfl rfl (lv_nil hl) rfl (Nat.le_of_ble_eq_true rfl) dX2_finishTrick_44 ?_
      refine lv_iadd hx hb dX2_finishTrick_47 ?_
      refine lv_iadd hx hb dX2_finishTrick_48 ?_
      refine va_put (D := D) (ci := 0) (v := .int (vp2 + ((j_X2_worth vled 0) + (j_X2_worth x0 0)))) (ty := .int) (C := RX0) (T := TX0) (N := 5) hx hb hts inX2_finishTrick_X0 tyX0 tyX0_ok nmX0 hown hK hP hD hS 2 rfl rfl 2 (by decide) (hts (.fieldLink RX2 133 "ArchivistTricks$Archivist" "points" "I") (by decide +kernel)) (fun _ h9 => h9) rfl (by decide +kernel) rfl rfl (Nat.le_of_ble_eq_true rfl) dX2_finishTrick_49 (fun H locs hP hD hS => ?_)
      have hP : va_P D vwCl [(a0, .inr (2, [.ref aR, .ref aF, .ref aG, .int vdrawn, .int vtr, .int vled, .int vmov, .int vw1, .int vw2, va_rf veo, .int veb])), (aF, .inr (0, [.long vh1, .long vt1, .int vp1, .int vk1, .int vg1])), (aG, .inr (0, [.long vh2, .long vt2, .int (vp2 + ((j_X2_worth vled 0) + (j_X2_worth x0 0))), .int vk2, .int vg2])), (aR, .inl (cI, 42, .inl vrow))] H := hP
      have hD : va_D A [(a0, .inr (2, [.ref aR, .ref aF, .ref aG, .int vdrawn, .int vtr, .int vled, .int vmov, .int vw1, .int vw2, va_rf veo, .int veb])), (aF, .inr (0, [.long vh1, .long vt1, .int vp1, .int vk1, .int vg1])), (aG, .inr (0, [.long vh2, .long vt2, .int (vp2 + ((j_X2_worth vled 0) + (j_X2_worth x0 0))), .int vk2, .int vg2])), (aR, .inl (cI, 42, .inl vrow))] := hD
      refine lv_aload_n hx hb dX2_finishTrick_52 rfl (lv_at hl 1 rfl) ?_
      refine lv_dup hx hb dX2_finishTrick_53 rfl ?_
      refine va_get (D := D) (ci := 0) (v := .int vk2) (C := RX0) (T := TX0) (N := 5) hx hb hts inX2_finishTrick_X0 hown hK hP 2 rfl rfl 3 (by decide) (hts (.fieldLink RX2 136 "ArchivistTricks$Archivist" "tricks" "I") (by decide +kernel)) (fun _ h9 => h9) rfl dX2_finishTrick_54 ?_
      refine lv_iconst (v := 1) hx hb dX2_finishTrick_57 (by decide) ?_
      refine lv_iadd hx hb dX2_finishTrick_58 ?_
      refine va_put (D := D) (ci := 0) (v := .int (vk2 + 1)) (ty := .int) (C := RX0) (T := TX0) (N := 5) hx hb hts inX2_finishTrick_X0 tyX0 tyX0_ok nmX0 hown hK hP hD hS 2 rfl rfl 3 (by decide) (hts (.fieldLink RX2 136 "ArchivistTricks$Archivist" "tricks" "I") (by decide +kernel)) (fun _ h9 => h9) rfl (by decide +kernel) rfl rfl (Nat.le_of_ble_eq_true rfl) dX2_finishTrick_59 (fun H locs hP hD hS => ?_)
      have hP : va_P D vwCl [(a0, .inr (2, [.ref aR, .ref aF, .ref aG, .int vdrawn, .int vtr, .int vled, .int vmov, .int vw1, .int vw2, va_rf veo, .int veb])), (aF, .inr (0, [.long vh1, .long vt1, .int vp1, .int vk1, .int vg1])), (aG, .inr (0, [.long vh2, .long vt2, .int (vp2 + ((j_X2_worth vled 0) + (j_X2_worth x0 0))), .int (vk2 + 1), .int vg2])), (aR, .inl (cI, 42, .inl vrow))] H := hP
      have hD : va_D A [(a0, .inr (2, [.ref aR, .ref aF, .ref aG, .int vdrawn, .int vtr, .int vled, .int vmov, .int vw1, .int vw2, va_rf veo, .int veb])), (aF, .inr (0, [.long vh1, .long vt1, .int vp1, .int vk1, .int vg1])), (aG, .inr (0, [.long vh2, .long vt2, .int (vp2 + ((j_X2_worth vled 0) + (j_X2_worth x0 0))), .int (vk2 + 1), .int vg2])), (aR, .inl (cI, 42, .inl vrow))] := hD
      refine lv_aload_n hx hb dX2_finishTrick_62 rfl (lv_at hl 1 rfl) ?_
      refine lv_dup hx hb dX2_finishTrick_63 rfl ?_
      refine va_get (D := D) (ci := 0) (v := .long vt2) (C := RX0) (T := TX0) (N := 5) hx hb hts inX2_finishTrick_X0 hown hK hP 2 rfl rfl 1 (by decide) (hts (.fieldLink RX2 130 "ArchivistTricks$Archivist" "taken" "J") (by decide +kernel)) (fun _ h9 => h9) rfl dX2_finishTrick_64 ?_
      refine lv_aload_n hx hb dX2_finishTrick_67 rfl (lv_at hl 3 rfl) ?_
      refine va_get (D := D) (ci := 2) (v := .int vled) (C := RX2) (T := TX2) (N := 11) hx hb hts inX2_finishTrick_X2 hown hK hP 0 rfl rfl 5 (by decide) (hts (.fieldLink RX2 30 "ArchivistTricks" "ledCard" "I") (by decide +kernel)) (fun _ h9 => h9) rfl dX2_finishTrick_68 ?_
      refine jr_callS (n := 1) (As := [.int vled]) (rest := [.long vt2, .ref aG]) S (c_X2_bit vled) gX2_finishTrick_X2_bit rfl (by decide +kernel) rfl ⟨⟨rfl, rfl⟩, ⟨Nat.le_of_ble_eq_true rfl, Nat.le_of_ble_eq_true rfl⟩, Nat.le_of_ble_eq_true rfl, Nat.le_of_ble_eq_true rfl⟩ hP hK hN [] [] rfl rfl (lv_nil hl) rfl (Nat.le_of_ble_eq_true rfl) dX2_finishTrick_71 ?_
      refine lv_iload_n hx hb dX2_finishTrick_74 rfl (lv_at hl 4 rfl) ?_
      refine jr_callS (n := 1) (As := [.int x0]) (rest := [.long (j_X2_bit vled), .long vt2, .ref aG]) S (c_X2_bit x0) gX2_finishTrick_X2_bit rfl (by decide +kernel) rfl ⟨⟨rfl, rfl⟩, ⟨Nat.le_of_ble_eq_true rfl, Nat.le_of_ble_eq_true rfl⟩, Nat.le_of_ble_eq_true rfl, Nat.le_of_ble_eq_true rfl⟩ hP hK hN [] [] rfl rfl (lv_nil hl) rfl (Nat.le_of_ble_eq_true rfl) dX2_finishTrick_75 ?_
      refine lv_lor hx hb dX2_finishTrick_78 ?_
      refine lv_lor hx hb dX2_finishTrick_79 ?_
      refine va_put (D := D) (ci := 0) (v := .long (vt2 ||| ((j_X2_bit vled) ||| (j_X2_bit x0)))) (ty := .long) (C := RX0) (T := TX0) (N := 5) hx hb hts inX2_finishTrick_X0 tyX0 tyX0_ok nmX0 hown hK hP hD hS 2 rfl rfl 1 (by decide) (hts (.fieldLink RX2 130 "ArchivistTricks$Archivist" "taken" "J") (by decide +kernel)) (fun _ h9 => h9) rfl (by decide +kernel) rfl rfl (Nat.le_of_ble_eq_true rfl) dX2_finishTrick_80 (fun H locs hP hD hS => ?_)
      have hP : va_P D vwCl [(a0, .inr (2, [.ref aR, .ref aF, .ref aG, .int vdrawn, .int vtr, .int vled, .int vmov, .int vw1, .int vw2, va_rf veo, .int veb])), (aF, .inr (0, [.long vh1, .long vt1, .int vp1, .int vk1, .int vg1])), (aG, .inr (0, [.long vh2, .long (vt2 ||| ((j_X2_bit vled) ||| (j_X2_bit x0))), .int (vp2 + ((j_X2_worth vled 0) + (j_X2_worth x0 0))), .int (vk2 + 1), .int vg2])), (aR, .inl (cI, 42, .inl vrow))] H := hP
      have hD : va_D A [(a0, .inr (2, [.ref aR, .ref aF, .ref aG, .int vdrawn, .int vtr, .int vled, .int vmov, .int vw1, .int vw2, va_rf veo, .int veb])), (aF, .inr (0, [.long vh1, .long vt1, .int vp1, .int vk1, .int vg1])), (aG, .inr (0, [.long vh2, .long (vt2 ||| ((j_X2_bit vled) ||| (j_X2_bit x0))), .int (vp2 + ((j_X2_worth vled 0) + (j_X2_worth x0 0))), .int (vk2 + 1), .int vg2])), (aR, .inl (cI, 42, .inl vrow))] := hD
      refine lv_aload_n hx hb dX2_finishTrick_83 rfl (lv_at hl 3 rfl) ?_
      refine va_get (D := D) (ci := 2) (v := .ref aF) (C := RX2) (T := TX2) (N := 11) hx hb hts inX2_finishTrick_X2 hown hK hP 0 rfl rfl 1 (by decide) (hts (.fieldLink RX2 16 "ArchivistTricks" "first" "LArchivistTricks$Archivist;") (by decide +kernel)) (fun _ h9 => h9) rfl dX2_finishTrick_84 ?_
      refine jw_callVv (n := 0) (C := RX0) (As := []) (rest := []) (wr := [(a0, .inr (2, [.ref aR, .ref aF, .ref aG, .int vdrawn, .int vtr, .int vled, .int vmov, .int vw1, .int vw2, va_rf veo, .int veb])), (aG, .inr (0, [.long vh2, .long (vt2 ||| ((j_X2_bit vled) ||| (j_X2_bit x0))), .int (vp2 + ((j_X2_worth vled 0) + (j_X2_worth x0 0))), .int (vk2 + 1), .int vg2])), (aR, .inl (cI, 42, .inl vrow))]) (wn := [(a0, .inr (2, [.ref aR, .ref aF, .ref aG, .int vdrawn, .int vtr, .int vled, .int vmov, .int vw1, .int vw2, va_rf veo, .int veb])), (aF, .inr (0, [.long vh1, .long vt1, .int vp1, .int vk1, .int (j_X0_loseWornGloves_vg vg1)])), (aG, .inr (0, [.long vh2, .long (vt2 ||| ((j_X2_bit vled) ||| (j_X2_bit x0))), .int (vp2 + ((j_X2_worth vled 0) + (j_X2_worth x0 0))), .int (vk2 + 1), .int vg2])), (aR, .inl (cI, 42, .inl vrow))]) S (c_X0_loseWornGloves aF vh1 vt1 vp1 vk1 vg1) gX2_finishTrick_X0_loseWornGloves rfl (by decide +kernel) rfl ⟨⟨rfl, rfl⟩, ⟨Nat.le_of_ble_eq_true rfl, Nat.le_of_ble_eq_true rfl⟩, Nat.le_of_ble_eq_true rfl, Nat.le_of_ble_eq_true rfl⟩ hP hK hN hD hS hA [1] [0, 2, 3] [0, 3, 1, 2] [] rfl rfl ⟨rfl, rfl, rfl⟩ (by decide) rfl rfl 0 0 rfl rfl rfl (lv_nil hl) rfl (Nat.le_of_ble_eq_true rfl) dX2_finishTrick_87 (fun H locs hP hD hS => ?_)
      refine lv_aload_n hx hb dX2_finishTrick_90 rfl (lv_at hl 3 rfl) ?_
      refine va_get (D := D) (ci := 2) (v := .ref aG) (C := RX2) (T := TX2) (N := 11) hx hb hts inX2_finishTrick_X2 hown hK hP 0 rfl rfl 2 (by decide) (hts (.fieldLink RX2 20 "ArchivistTricks" "second" "LArchivistTricks$Archivist;") (by decide +kernel)) (fun _ h9 => h9) rfl dX2_finishTrick_91 ?_
      refine jw_callVv (n := 0) (C := RX0) (As := []) (rest := []) (wr := [(a0, .inr (2, [.ref aR, .ref aF, .ref aG, .int vdrawn, .int vtr, .int vled, .int vmov, .int vw1, .int vw2, va_rf veo, .int veb])), (aF, .inr (0, [.long vh1, .long vt1, .int vp1, .int vk1, .int (j_X0_loseWornGloves_vg vg1)])), (aR, .inl (cI, 42, .inl vrow))]) (wn := [(a0, .inr (2, [.ref aR, .ref aF, .ref aG, .int vdrawn, .int vtr, .int vled, .int vmov, .int vw1, .int vw2, va_rf veo, .int veb])), (aF, .inr (0, [.long vh1, .long vt1, .int vp1, .int vk1, .int (j_X0_loseWornGloves_vg vg1)])), (aG, .inr (0, [.long vh2, .long (vt2 ||| ((j_X2_bit vled) ||| (j_X2_bit x0))), .int (vp2 + ((j_X2_worth vled 0) + (j_X2_worth x0 0))), .int (vk2 + 1), .int (j_X0_loseWornGloves_vg vg2)])), (aR, .inl (cI, 42, .inl vrow))]) S (c_X0_loseWornGloves aG vh2 (vt2 ||| ((j_X2_bit vled) ||| (j_X2_bit x0))) (vp2 + ((j_X2_worth vled 0) + (j_X2_worth x0 0))) (vk2 + 1) vg2) gX2_finishTrick_X0_loseWornGloves rfl (by decide +kernel) rfl ⟨⟨rfl, rfl⟩, ⟨Nat.le_of_ble_eq_true rfl, Nat.le_of_ble_eq_true rfl⟩, Nat.le_of_ble_eq_true rfl, Nat.le_of_ble_eq_true rfl⟩ hP hK hN hD hS hA [2] [0, 1, 3] [0, 1, 3, 2] [] rfl rfl ⟨rfl, rfl, rfl⟩ (by decide) rfl rfl 0 0 rfl rfl rfl (lv_nil hl) rfl (Nat.le_of_ble_eq_true rfl) dX2_finishTrick_94 (fun H locs hP hD hS => ?_)
      refine lv_aload_n hx hb dX2_finishTrick_97 rfl (lv_at hl 3 rfl) ?_
      refine lv_iconst (v := (-1)) hx hb dX2_finishTrick_98 (by decide) ?_
      refine va_put (D := D) (ci := 2) (v := .int (-1)) (ty := .int) (C := RX2) (T := TX2) (N := 11) hx hb hts inX2_finishTrick_X2 tyX2 tyX2_ok nmX2 hown hK hP hD hS 0 rfl rfl 5 (by decide) (hts (.fieldLink RX2 30 "ArchivistTricks" "ledCard" "I") (by decide +kernel)) (fun _ h9 => h9) rfl (by decide +kernel) rfl rfl (Nat.le_of_ble_eq_true rfl) dX2_finishTrick_99 (fun H locs hP hD hS => ?_)
      have hP : va_P D vwCl [(a0, .inr (2, [.ref aR, .ref aF, .ref aG, .int vdrawn, .int vtr, .int (-1), .int vmov, .int vw1, .int vw2, va_rf veo, .int veb])), (aF, .inr (0, [.long vh1, .long vt1, .int vp1, .int vk1, .int (j_X0_loseWornGloves_vg vg1)])), (aG, .inr (0, [.long vh2, .long (vt2 ||| ((j_X2_bit vled) ||| (j_X2_bit x0))), .int (vp2 + ((j_X2_worth vled 0) + (j_X2_worth x0 0))), .int (vk2 + 1), .int (j_X0_loseWornGloves_vg vg2)])), (aR, .inl (cI, 42, .inl vrow))] H := hP
      have hD : va_D A [(a0, .inr (2, [.ref aR, .ref aF, .ref aG, .int vdrawn, .int vtr, .int (-1), .int vmov, .int vw1, .int vw2, va_rf veo, .int veb])), (aF, .inr (0, [.long vh1, .long vt1, .int vp1, .int vk1, .int (j_X0_loseWornGloves_vg vg1)])), (aG, .inr (0, [.long vh2, .long (vt2 ||| ((j_X2_bit vled) ||| (j_X2_bit x0))), .int (vp2 + ((j_X2_worth vled 0) + (j_X2_worth x0 0))), .int (vk2 + 1), .int (j_X0_loseWornGloves_vg vg2)])), (aR, .inl (cI, 42, .inl vrow))] := hD
      refine lv_aload_n hx hb dX2_finishTrick_102 rfl (lv_at hl 3 rfl) ?_
      refine lv_aload_n hx hb dX2_finishTrick_103 rfl (lv_at hl 1 rfl) ?_
      refine jw_callVv (n := 1) (C := RX2) (As := [.ref aG]) (rest := []) (wr := []) (wn := [(a0, .inr (2, [.ref aR, .ref aF, .ref aG, .int (j_X2_drawFor_G_vdrawn vdrawn), .int vtr, .int (-1), .int vmov, .int vw1, .int vw2, va_rf veo, .int veb])), (aF, .inr (0, [.long vh1, .long vt1, .int vp1, .int vk1, .int (j_X0_loseWornGloves_vg vg1)])), (aG, .inr (0, [.long (j_X2_drawFor_G_vh2 vrow vdrawn vh2), .long (vt2 ||| ((j_X2_bit vled) ||| (j_X2_bit x0))), .int (vp2 + ((j_X2_worth vled 0) + (j_X2_worth x0 0))), .int (vk2 + 1), .int (j_X0_loseWornGloves_vg vg2)])), (aR, .inl (cI, 42, .inl vrow))]) S (c_X2_drawFor_G a0 aR aF aG cI vrow vdrawn vtr (-1) vmov vw1 vw2 veo veb vh1 vt1 vp1 vk1 (j_X0_loseWornGloves_vg vg1) vh2 (vt2 ||| ((j_X2_bit vled) ||| (j_X2_bit x0))) (vp2 + ((j_X2_worth vled 0) + (j_X2_worth x0 0))) (vk2 + 1) (j_X0_loseWornGloves_vg vg2)) gX2_finishTrick_X2_drawFor rfl (by decide +kernel) rfl ⟨⟨rfl, rfl⟩, ⟨Nat.le_of_ble_eq_true rfl, Nat.le_of_ble_eq_true rfl⟩, Nat.le_of_ble_eq_true rfl, Nat.le_of_ble_eq_true rfl⟩ hP hK hN hD hS hA [0, 1, 2, 3] [] [0, 1, 2, 3] [0] rfl rfl ⟨rfl, rfl, rfl⟩ (by decide) rfl rfl 0 2 rfl rfl rfl (lv_nil hl) rfl (Nat.le_of_ble_eq_true rfl) dX2_finishTrick_104 (fun H locs hP hD hS => ?_)
      refine lv_aload_n hx hb dX2_finishTrick_107 rfl (lv_at hl 3 rfl) ?_
      refine lv_aload_n hx hb dX2_finishTrick_108 rfl (lv_at hl 3 rfl) ?_
      refine lv_iconst (v := 1) hx hb dX2_finishTrick_109 (by decide) ?_
      refine lv_iload_n hx hb dX2_finishTrick_110 rfl (lv_at hl 2 rfl) ?_
      refine lv_isub hx hb dX2_finishTrick_111 ?_
      refine jr_callV (n := 1) (C := RX2) (As := [.int (1 - (j_X2_takerBy vtr vled vmov x0))]) (rest := [.ref a0]) S (c_X2_archivist a0 aR aF aG cI vrow (j_X2_drawFor_G_vdrawn vdrawn) vtr (-1) vmov vw1 vw2 veo veb vh1 vt1 vp1 vk1 (j_X0_loseWornGloves_vg vg1) (j_X2_drawFor_G_vh2 vrow vdrawn vh2) (vt2 ||| ((j_X2_bit vled) ||| (j_X2_bit x0))) (vp2 + ((j_X2_worth vled 0) + (j_X2_worth x0 0))) (vk2 + 1) (j_X0_loseWornGloves_vg vg2) (1 - (j_X2_takerBy vtr vled vmov x0))) gX2_finishTrick_X2_archivist rfl (by decide +kernel) rfl ⟨⟨rfl, rfl⟩, ⟨Nat.le_of_ble_eq_true rfl, Nat.le_of_ble_eq_true rfl⟩, Nat.le_of_ble_eq_true rfl, Nat.le_of_ble_eq_true rfl⟩ hP hK hN [0, 1, 2, 3] [0] rfl rfl 0 2 rfl rfl rfl (lv_nil hl) rfl (Nat.le_of_ble_eq_true rfl) dX2_finishTrick_112 ?_
      refine jr_ite (c0 := (1 - (j_X2_takerBy vtr vled vmov x0)) = 0) (a := aF) (b := aG) rfl (fun c_10 => ?_) (fun c_10 => ?_)
      · skip
        refine jw_callVv (n := 1) (C := RX2) (As := [.ref aF]) (rest := []) (wr := []) (wn := [(a0, .inr (2, [.ref aR, .ref aF, .ref aG, .int (j_X2_drawFor_F_vdrawn (j_X2_drawFor_G_vdrawn vdrawn)), .int vtr, .int (-1), .int vmov, .int vw1, .int vw2, va_rf veo, .int veb])), (aF, .inr (0, [.long (j_X2_drawFor_F_vh1 vrow (j_X2_drawFor_G_vdrawn vdrawn) vh1), .long vt1, .int vp1, .int vk1, .int (j_X0_loseWornGloves_vg vg1)])), (aG, .inr (0, [.long (j_X2_drawFor_G_vh2 vrow vdrawn vh2), .long (vt2 ||| ((j_X2_bit vled) ||| (j_X2_bit x0))), .int (vp2 + ((j_X2_worth vled 0) + (j_X2_worth x0 0))), .int (vk2 + 1), .int (j_X0_loseWornGloves_vg vg2)])), (aR, .inl (cI, 42, .inl vrow))]) S (c_X2_drawFor_F a0 aR aF aG cI vrow (j_X2_drawFor_G_vdrawn vdrawn) vtr (-1) vmov vw1 vw2 veo veb vh1 vt1 vp1 vk1 (j_X0_loseWornGloves_vg vg1) (j_X2_drawFor_G_vh2 vrow vdrawn vh2) (vt2 ||| ((j_X2_bit vled) ||| (j_X2_bit x0))) (vp2 + ((j_X2_worth vled 0) + (j_X2_worth x0 0))) (vk2 + 1) (j_X0_loseWornGloves_vg vg2)) gX2_finishTrick_X2_drawFor rfl (by decide +kernel) rfl ⟨⟨rfl, rfl⟩, ⟨Nat.le_of_ble_eq_true rfl, Nat.le_of_ble_eq_true rfl⟩, Nat.le_of_ble_eq_true rfl, Nat.le_of_ble_eq_true rfl⟩ hP hK hN hD hS hA [0, 1, 2, 3] [] [0, 1, 2, 3] [0] rfl rfl ⟨rfl, rfl, rfl⟩ (by decide) rfl rfl 0 2 rfl rfl rfl (lv_nil hl) rfl (Nat.le_of_ble_eq_true rfl) dX2_finishTrick_115 (fun H locs hP hD hS => ?_)
        refine lv_aload_n hx hb dX2_finishTrick_118 rfl (lv_at hl 3 rfl) ?_
        refine lv_iload_n hx hb dX2_finishTrick_119 rfl (lv_at hl 2 rfl) ?_
        refine va_put (D := D) (ci := 2) (v := .int (j_X2_takerBy vtr vled vmov x0)) (ty := .int) (C := RX2) (T := TX2) (N := 11) hx hb hts inX2_finishTrick_X2 tyX2 tyX2_ok nmX2 hown hK hP hD hS 0 rfl rfl 6 (by decide) (hts (.fieldLink RX2 33 "ArchivistTricks" "mover" "I") (by decide +kernel)) (fun _ h9 => h9) rfl (by decide +kernel) rfl rfl (Nat.le_of_ble_eq_true rfl) dX2_finishTrick_120 (fun H locs hP hD hS => ?_)
        have hP : va_P D vwCl [(a0, .inr (2, [.ref aR, .ref aF, .ref aG, .int (j_X2_drawFor_F_vdrawn (j_X2_drawFor_G_vdrawn vdrawn)), .int vtr, .int (-1), .int (j_X2_takerBy vtr vled vmov x0), .int vw1, .int vw2, va_rf veo, .int veb])), (aF, .inr (0, [.long (j_X2_drawFor_F_vh1 vrow (j_X2_drawFor_G_vdrawn vdrawn) vh1), .long vt1, .int vp1, .int vk1, .int (j_X0_loseWornGloves_vg vg1)])), (aG, .inr (0, [.long (j_X2_drawFor_G_vh2 vrow vdrawn vh2), .long (vt2 ||| ((j_X2_bit vled) ||| (j_X2_bit x0))), .int (vp2 + ((j_X2_worth vled 0) + (j_X2_worth x0 0))), .int (vk2 + 1), .int (j_X0_loseWornGloves_vg vg2)])), (aR, .inl (cI, 42, .inl vrow))] H := hP
        have hD : va_D A [(a0, .inr (2, [.ref aR, .ref aF, .ref aG, .int (j_X2_drawFor_F_vdrawn (j_X2_drawFor_G_vdrawn vdrawn)), .int vtr, .int (-1), .int (j_X2_takerBy vtr vled vmov x0), .int vw1, .int vw2, va_rf veo, .int veb])), (aF, .inr (0, [.long (j_X2_drawFor_F_vh1 vrow (j_X2_drawFor_G_vdrawn vdrawn) vh1), .long vt1, .int vp1, .int vk1, .int (j_X0_loseWornGloves_vg vg1)])), (aG, .inr (0, [.long (j_X2_drawFor_G_vh2 vrow vdrawn vh2), .long (vt2 ||| ((j_X2_bit vled) ||| (j_X2_bit x0))), .int (vp2 + ((j_X2_worth vled 0) + (j_X2_worth x0 0))), .int (vk2 + 1), .int (j_X0_loseWornGloves_vg vg2)])), (aR, .inl (cI, 42, .inl vrow))] := hD
        refine lv_aload_n hx hb dX2_finishTrick_123 rfl (lv_at hl 3 rfl) ?_
        refine va_get (D := D) (ci := 2) (v := .ref aF) (C := RX2) (T := TX2) (N := 11) hx hb hts inX2_finishTrick_X2 hown hK hP 0 rfl rfl 1 (by decide) (hts (.fieldLink RX2 16 "ArchivistTricks" "first" "LArchivistTricks$Archivist;") (by decide +kernel)) (fun _ h9 => h9) rfl dX2_finishTrick_124 ?_
        refine va_get (D := D) (ci := 0) (v := .long (j_X2_drawFor_F_vh1 vrow (j_X2_drawFor_G_vdrawn vdrawn) vh1)) (C := RX0) (T := TX0) (N := 5) hx hb hts inX2_finishTrick_X0 hown hK hP 1 rfl rfl 0 (by decide) (hts (.fieldLink RX2 91 "ArchivistTricks$Archivist" "hand" "J") (by decide +kernel)) (fun _ h9 => h9) rfl dX2_finishTrick_127 ?_
        refine lv_aload_n hx hb dX2_finishTrick_130 rfl (lv_at hl 3 rfl) ?_
        refine va_get (D := D) (ci := 2) (v := .ref aG) (C := RX2) (T := TX2) (N := 11) hx hb hts inX2_finishTrick_X2 hown hK hP 0 rfl rfl 2 (by decide) (hts (.fieldLink RX2 20 "ArchivistTricks" "second" "LArchivistTricks$Archivist;") (by decide +kernel)) (fun _ h9 => h9) rfl dX2_finishTrick_131 ?_
        refine va_get (D := D) (ci := 0) (v := .long (j_X2_drawFor_G_vh2 vrow vdrawn vh2)) (C := RX0) (T := TX0) (N := 5) hx hb hts inX2_finishTrick_X0 hown hK hP 2 rfl rfl 0 (by decide) (hts (.fieldLink RX2 91 "ArchivistTricks$Archivist" "hand" "J") (by decide +kernel)) (fun _ h9 => h9) rfl dX2_finishTrick_134 ?_
        refine lv_lor hx hb dX2_finishTrick_137 ?_
        refine lv_lconst (v := 0) hx hb dX2_finishTrick_138 (by decide) ?_
        refine W.lcmp hx hb dX2_finishTrick_139 ?_
        refine lv_if_ne (tgt := 147) hx hb dX2_finishTrick_140 (by decide) (fun c_11 => ?_) (fun c_11 => ?_)
        · skip
          refine lv_iload_n hx hb dX2_finishTrick_147 rfl (lv_at hl 2 rfl) ?_
          exact jw_iret hx hb hr hlocks hK hP hD hS dX2_finishTrick_148 (by  simp only [j_X2_finishTrick, if_neg c_1, if_neg c_9, if_pos c_10, if_neg c_11]) (by  simp only [j_X2_finishTrick_vdrawn, j_X2_finishTrick_vled, j_X2_finishTrick_vmov, j_X2_finishTrick_vw1, j_X2_finishTrick_vw2, j_X2_finishTrick_vh1, j_X2_finishTrick_vt1, j_X2_finishTrick_vp1, j_X2_finishTrick_vk1, j_X2_finishTrick_vg1, j_X2_finishTrick_vh2, j_X2_finishTrick_vt2, j_X2_finishTrick_vp2, j_X2_finishTrick_vk2, j_X2_finishTrick_vg2, if_neg c_1, if_neg c_9, if_pos c_10, if_neg c_11])
        · skip
          refine lv_aload_n hx hb dX2_finishTrick_143 rfl (lv_at hl 3 rfl) ?_
          refine jw_callVv (n := 0) (C := RX2) (As := []) (rest := []) (wr := []) (wn := [(a0, .inr (2, [.ref aR, .ref aF, .ref aG, .int (j_X2_drawFor_F_vdrawn (j_X2_drawFor_G_vdrawn vdrawn)), .int vtr, .int (-1), .int j_X2_endGame_vmov, .int (j_X2_endGame_vw1 vw1 vp1 (vp2 + ((j_X2_worth vled 0) + (j_X2_worth x0 0)))), .int (j_X2_endGame_vw2 vw2 vp1 (vp2 + ((j_X2_worth vled 0) + (j_X2_worth x0 0)))), va_rf veo, .int veb])), (aF, .inr (0, [.long (j_X2_drawFor_F_vh1 vrow (j_X2_drawFor_G_vdrawn vdrawn) vh1), .long vt1, .int vp1, .int vk1, .int (j_X0_loseWornGloves_vg vg1)])), (aG, .inr (0, [.long (j_X2_drawFor_G_vh2 vrow vdrawn vh2), .long (vt2 ||| ((j_X2_bit vled) ||| (j_X2_bit x0))), .int (vp2 + ((j_X2_worth vled 0) + (j_X2_worth x0 0))), .int (vk2 + 1), .int (j_X0_loseWornGloves_vg vg2)])), (aR, .inl (cI, 42, .inl vrow))]) S (c_X2_endGame a0 aR aF aG cI vrow (j_X2_drawFor_F_vdrawn (j_X2_drawFor_G_vdrawn vdrawn)) vtr (-1) (j_X2_takerBy vtr vled vmov x0) vw1 vw2 veo veb (j_X2_drawFor_F_vh1 vrow (j_X2_drawFor_G_vdrawn vdrawn) vh1) vt1 vp1 vk1 (j_X0_loseWornGloves_vg vg1) (j_X2_drawFor_G_vh2 vrow vdrawn vh2) (vt2 ||| ((j_X2_bit vled) ||| (j_X2_bit x0))) (vp2 + ((j_X2_worth vled 0) + (j_X2_worth x0 0))) (vk2 + 1) (j_X0_loseWornGloves_vg vg2)) gX2_finishTrick_X2_endGame rfl (by decide +kernel) rfl ⟨⟨rfl, rfl⟩, ⟨Nat.le_of_ble_eq_true rfl, Nat.le_of_ble_eq_true rfl⟩, Nat.le_of_ble_eq_true rfl, Nat.le_of_ble_eq_true rfl⟩ hP hK hN hD hS hA [0, 1, 2, 3] [] [0, 1, 2, 3] [0] rfl rfl ⟨rfl, rfl, rfl⟩ (by decide) rfl rfl 0 2 rfl rfl rfl (lv_nil hl) rfl (Nat.le_of_ble_eq_true rfl) dX2_finishTrick_144 (fun H locs hP hD hS => ?_)
          refine lv_iload_n hx hb dX2_finishTrick_147 rfl (lv_at hl 2 rfl) ?_
          exact jw_iret hx hb hr hlocks hK hP hD hS dX2_finishTrick_148 (by  simp only [j_X2_finishTrick, if_neg c_1, if_neg c_9, if_pos c_10, if_pos c_11]) (by  simp only [j_X2_finishTrick_vdrawn, j_X2_finishTrick_vled, j_X2_finishTrick_vmov, j_X2_finishTrick_vw1, j_X2_finishTrick_vw2, j_X2_finishTrick_vh1, j_X2_finishTrick_vt1, j_X2_finishTrick_vp1, j_X2_finishTrick_vk1, j_X2_finishTrick_vg1, j_X2_finishTrick_vh2, j_X2_finishTrick_vt2, j_X2_finishTrick_vp2, j_X2_finishTrick_vk2, j_X2_finishTrick_vg2, if_neg c_1, if_neg c_9, if_pos c_10, if_pos c_11])
      · skip
        refine jw_callVv (n := 1) (C := RX2) (As := [.ref aG]) (rest := []) (wr := []) (wn := [(a0, .inr (2, [.ref aR, .ref aF, .ref aG, .int (j_X2_drawFor_G_vdrawn (j_X2_drawFor_G_vdrawn vdrawn)), .int vtr, .int (-1), .int vmov, .int vw1, .int vw2, va_rf veo, .int veb])), (aF, .inr (0, [.long vh1, .long vt1, .int vp1, .int vk1, .int (j_X0_loseWornGloves_vg vg1)])), (aG, .inr (0, [.long (j_X2_drawFor_G_vh2 vrow (j_X2_drawFor_G_vdrawn vdrawn) (j_X2_drawFor_G_vh2 vrow vdrawn vh2)), .long (vt2 ||| ((j_X2_bit vled) ||| (j_X2_bit x0))), .int (vp2 + ((j_X2_worth vled 0) + (j_X2_worth x0 0))), .int (vk2 + 1), .int (j_X0_loseWornGloves_vg vg2)])), (aR, .inl (cI, 42, .inl vrow))]) S (c_X2_drawFor_G a0 aR aF aG cI vrow (j_X2_drawFor_G_vdrawn vdrawn) vtr (-1) vmov vw1 vw2 veo veb vh1 vt1 vp1 vk1 (j_X0_loseWornGloves_vg vg1) (j_X2_drawFor_G_vh2 vrow vdrawn vh2) (vt2 ||| ((j_X2_bit vled) ||| (j_X2_bit x0))) (vp2 + ((j_X2_worth vled 0) + (j_X2_worth x0 0))) (vk2 + 1) (j_X0_loseWornGloves_vg vg2)) gX2_finishTrick_X2_drawFor rfl (by decide +kernel) rfl ⟨⟨rfl, rfl⟩, ⟨Nat.le_of_ble_eq_true rfl, Nat.le_of_ble_eq_true rfl⟩, Nat.le_of_ble_eq_true rfl, Nat.le_of_ble_eq_true rfl⟩ hP hK hN hD hS hA [0, 1, 2, 3] [] [0, 1, 2, 3] [0] rfl rfl ⟨rfl, rfl, rfl⟩ (by decide) rfl rfl 0 2 rfl rfl rfl (lv_nil hl) rfl (Nat.le_of_ble_eq_true rfl) dX2_finishTrick_115 (fun H locs hP hD hS => ?_)
        refine lv_aload_n hx hb dX2_finishTrick_118 rfl (lv_at hl 3 rfl) ?_
        refine lv_iload_n hx hb dX2_finishTrick_119 rfl (lv_at hl 2 rfl) ?_
        refine va_put (D := D) (ci := 2) (v := .int (j_X2_takerBy vtr vled vmov x0)) (ty := .int) (C := RX2) (T := TX2) (N := 11) hx hb hts inX2_finishTrick_X2 tyX2 tyX2_ok nmX2 hown hK hP hD hS 0 rfl rfl 6 (by decide) (hts (.fieldLink RX2 33 "ArchivistTricks" "mover" "I") (by decide +kernel)) (fun _ h9 => h9) rfl (by decide +kernel) rfl rfl (Nat.le_of_ble_eq_true rfl) dX2_finishTrick_120 (fun H locs hP hD hS => ?_)
        have hP : va_P D vwCl [(a0, .inr (2, [.ref aR, .ref aF, .ref aG, .int (j_X2_drawFor_G_vdrawn (j_X2_drawFor_G_vdrawn vdrawn)), .int vtr, .int (-1), .int (j_X2_takerBy vtr vled vmov x0), .int vw1, .int vw2, va_rf veo, .int veb])), (aF, .inr (0, [.long vh1, .long vt1, .int vp1, .int vk1, .int (j_X0_loseWornGloves_vg vg1)])), (aG, .inr (0, [.long (j_X2_drawFor_G_vh2 vrow (j_X2_drawFor_G_vdrawn vdrawn) (j_X2_drawFor_G_vh2 vrow vdrawn vh2)), .long (vt2 ||| ((j_X2_bit vled) ||| (j_X2_bit x0))), .int (vp2 + ((j_X2_worth vled 0) + (j_X2_worth x0 0))), .int (vk2 + 1), .int (j_X0_loseWornGloves_vg vg2)])), (aR, .inl (cI, 42, .inl vrow))] H := hP
        have hD : va_D A [(a0, .inr (2, [.ref aR, .ref aF, .ref aG, .int (j_X2_drawFor_G_vdrawn (j_X2_drawFor_G_vdrawn vdrawn)), .int vtr, .int (-1), .int (j_X2_takerBy vtr vled vmov x0), .int vw1, .int vw2, va_rf veo, .int veb])), (aF, .inr (0, [.long vh1, .long vt1, .int vp1, .int vk1, .int (j_X0_loseWornGloves_vg vg1)])), (aG, .inr (0, [.long (j_X2_drawFor_G_vh2 vrow (j_X2_drawFor_G_vdrawn vdrawn) (j_X2_drawFor_G_vh2 vrow vdrawn vh2)), .long (vt2 ||| ((j_X2_bit vled) ||| (j_X2_bit x0))), .int (vp2 + ((j_X2_worth vled 0) + (j_X2_worth x0 0))), .int (vk2 + 1), .int (j_X0_loseWornGloves_vg vg2)])), (aR, .inl (cI, 42, .inl vrow))] := hD
        refine lv_aload_n hx hb dX2_finishTrick_123 rfl (lv_at hl 3 rfl) ?_
        refine va_get (D := D) (ci := 2) (v := .ref aF) (C := RX2) (T := TX2) (N := 11) hx hb hts inX2_finishTrick_X2 hown hK hP 0 rfl rfl 1 (by decide) (hts (.fieldLink RX2 16 "ArchivistTricks" "first" "LArchivistTricks$Archivist;") (by decide +kernel)) (fun _ h9 => h9) rfl dX2_finishTrick_124 ?_
        refine va_get (D := D) (ci := 0) (v := .long vh1) (C := RX0) (T := TX0) (N := 5) hx hb hts inX2_finishTrick_X0 hown hK hP 1 rfl rfl 0 (by decide) (hts (.fieldLink RX2 91 "ArchivistTricks$Archivist" "hand" "J") (by decide +kernel)) (fun _ h9 => h9) rfl dX2_finishTrick_127 ?_
        refine lv_aload_n hx hb dX2_finishTrick_130 rfl (lv_at hl 3 rfl) ?_
        refine va_get (D := D) (ci := 2) (v := .ref aG) (C := RX2) (T := TX2) (N := 11) hx hb hts inX2_finishTrick_X2 hown hK hP 0 rfl rfl 2 (by decide) (hts (.fieldLink RX2 20 "ArchivistTricks" "second" "LArchivistTricks$Archivist;") (by decide +kernel)) (fun _ h9 => h9) rfl dX2_finishTrick_131 ?_
        refine va_get (D := D) (ci := 0) (v := .long (j_X2_drawFor_G_vh2 vrow (j_X2_drawFor_G_vdrawn vdrawn) (j_X2_drawFor_G_vh2 vrow vdrawn vh2))) (C := RX0) (T := TX0) (N := 5) hx hb hts inX2_finishTrick_X0 hown hK hP 2 rfl rfl 0 (by decide) (hts (.fieldLink RX2 91 "ArchivistTricks$Archivist" "hand" "J") (by decide +kernel)) (fun _ h9 => h9) rfl dX2_finishTrick_134 ?_
        refine lv_lor hx hb dX2_finishTrick_137 ?_
        refine lv_lconst (v := 0) hx hb dX2_finishTrick_138 (by decide) ?_
        refine W.lcmp hx hb dX2_finishTrick_139 ?_
        refine lv_if_ne (tgt := 147) hx hb dX2_finishTrick_140 (by decide) (fun c_12 => ?_) (fun c_12 => ?_)
        · skip
          refine lv_iload_n hx hb dX2_finishTrick_147 rfl (lv_at hl 2 rfl) ?_
          exact jw_iret hx hb hr hlocks hK hP hD hS dX2_finishTrick_148 (by  simp only [j_X2_finishTrick, if_neg c_1, if_neg c_9, if_neg c_10, if_neg c_12]) (by  simp only [j_X2_finishTrick_vdrawn, j_X2_finishTrick_vled, j_X2_finishTrick_vmov, j_X2_finishTrick_vw1, j_X2_finishTrick_vw2, j_X2_finishTrick_vh1, j_X2_finishTrick_vt1, j_X2_finishTrick_vp1, j_X2_finishTrick_vk1, j_X2_finishTrick_vg1, j_X2_finishTrick_vh2, j_X2_finishTrick_vt2, j_X2_finishTrick_vp2, j_X2_finishTrick_vk2, j_X2_finishTrick_vg2, if_neg c_1, if_neg c_9, if_neg c_10, if_neg c_12])
        · skip
          refine lv_aload_n hx hb dX2_finishTrick_143 rfl (lv_at hl 3 rfl) ?_
          refine jw_callVv (n := 0) (C := RX2) (As := []) (rest := []) (wr := []) (wn := [(a0, .inr (2, [.ref aR, .ref aF, .ref aG, .int (j_X2_drawFor_G_vdrawn (j_X2_drawFor_G_vdrawn vdrawn)), .int vtr, .int (-1), .int j_X2_endGame_vmov, .int (j_X2_endGame_vw1 vw1 vp1 (vp2 + ((j_X2_worth vled 0) + (j_X2_worth x0 0)))), .int (j_X2_endGame_vw2 vw2 vp1 (vp2 + ((j_X2_worth vled 0) + (j_X2_worth x0 0)))), va_rf veo, .int veb])), (aF, .inr (0, [.long vh1, .long vt1, .int vp1, .int vk1, .int (j_X0_loseWornGloves_vg vg1)])), (aG, .inr (0, [.long (j_X2_drawFor_G_vh2 vrow (j_X2_drawFor_G_vdrawn vdrawn) (j_X2_drawFor_G_vh2 vrow vdrawn vh2)), .long (vt2 ||| ((j_X2_bit vled) ||| (j_X2_bit x0))), .int (vp2 + ((j_X2_worth vled 0) + (j_X2_worth x0 0))), .int (vk2 + 1), .int (j_X0_loseWornGloves_vg vg2)])), (aR, .inl (cI, 42, .inl vrow))]) S (c_X2_endGame a0 aR aF aG cI vrow (j_X2_drawFor_G_vdrawn (j_X2_drawFor_G_vdrawn vdrawn)) vtr (-1) (j_X2_takerBy vtr vled vmov x0) vw1 vw2 veo veb vh1 vt1 vp1 vk1 (j_X0_loseWornGloves_vg vg1) (j_X2_drawFor_G_vh2 vrow (j_X2_drawFor_G_vdrawn vdrawn) (j_X2_drawFor_G_vh2 vrow vdrawn vh2)) (vt2 ||| ((j_X2_bit vled) ||| (j_X2_bit x0))) (vp2 + ((j_X2_worth vled 0) + (j_X2_worth x0 0))) (vk2 + 1) (j_X0_loseWornGloves_vg vg2)) gX2_finishTrick_X2_endGame rfl (by decide +kernel) rfl ⟨⟨rfl, rfl⟩, ⟨Nat.le_of_ble_eq_true rfl, Nat.le_of_ble_eq_true rfl⟩, Nat.le_of_ble_eq_true rfl, Nat.le_of_ble_eq_true rfl⟩ hP hK hN hD hS hA [0, 1, 2, 3] [] [0, 1, 2, 3] [0] rfl rfl ⟨rfl, rfl, rfl⟩ (by decide) rfl rfl 0 2 rfl rfl rfl (lv_nil hl) rfl (Nat.le_of_ble_eq_true rfl) dX2_finishTrick_144 (fun H locs hP hD hS => ?_)
          refine lv_iload_n hx hb dX2_finishTrick_147 rfl (lv_at hl 2 rfl) ?_
          exact jw_iret hx hb hr hlocks hK hP hD hS dX2_finishTrick_148 (by  simp only [j_X2_finishTrick, if_neg c_1, if_neg c_9, if_neg c_10, if_pos c_12]) (by  simp only [j_X2_finishTrick_vdrawn, j_X2_finishTrick_vled, j_X2_finishTrick_vmov, j_X2_finishTrick_vw1, j_X2_finishTrick_vw2, j_X2_finishTrick_vh1, j_X2_finishTrick_vt1, j_X2_finishTrick_vp1, j_X2_finishTrick_vk1, j_X2_finishTrick_vg1, j_X2_finishTrick_vh2, j_X2_finishTrick_vt2, j_X2_finishTrick_vp2, j_X2_finishTrick_vk2, j_X2_finishTrick_vg2, if_neg c_1, if_neg c_9, if_neg c_10, if_pos c_12])
    · skip
      refine lv_iconst (v := 1) hx hb dX2_finishTrick_20 (by decide) ?_
      refine lv_goto (tgt := 25) hx hb dX2_finishTrick_21 (by decide) ?_
      refine lv_istore (lv' := [(4, .int 1), (3, .ref aG), (2, .int (j_X2_takerBy vtr vled vmov x0)), (0, .ref a0), (1, .int x0)]) hx hb dX2_finishTrick_25 hl (by decide) rfl (fun ls hl => ?_)
      refine lv_aload_n hx hb dX2_finishTrick_27 rfl (lv_at hl 1 rfl) ?_
      refine lv_dup hx hb dX2_finishTrick_28 rfl ?_
      refine va_get (D := D) (ci := 0) (v := .int vp2) (C := RX0) (T := TX0) (N := 5) hx hb hts inX2_finishTrick_X0 hown hK hP 2 rfl rfl 2 (by decide) (hts (.fieldLink RX2 133 "ArchivistTricks$Archivist" "points" "I") (by decide +kernel)) (fun _ h9 => h9) rfl dX2_finishTrick_29 ?_
      refine lv_aload_n hx hb dX2_finishTrick_32 rfl (lv_at hl 3 rfl) ?_
      refine va_get (D := D) (ci := 2) (v := .int vled) (C := RX2) (T := TX2) (N := 11) hx hb hts inX2_finishTrick_X2 hown hK hP 0 rfl rfl 5 (by decide) (hts (.fieldLink RX2 30 "ArchivistTricks" "ledCard" "I") (by decide +kernel)) (fun _ h9 => h9) rfl dX2_finishTrick_33 ?_
      refine lv_iload hx hb dX2_finishTrick_36 (lv_at hl 0 rfl) ?_
      refine jr_callS (n := 2) (As := [.int vled, .int 1]) (rest := [.int vp2, .ref aG]) S (c_X2_worth vled 1) gX2_finishTrick_X2_worth rfl (by decide +kernel) rfl ⟨⟨rfl, rfl⟩, ⟨Nat.le_of_ble_eq_true rfl, Nat.le_of_ble_eq_true rfl⟩, Nat.le_of_ble_eq_true rfl, Nat.le_of_ble_eq_true rfl⟩ hP hK hN [] [] rfl rfl (lv_nil hl) rfl (Nat.le_of_ble_eq_true rfl) dX2_finishTrick_38 ?_
      refine lv_iload_n hx hb dX2_finishTrick_41 rfl (lv_at hl 4 rfl) ?_
      refine lv_iload hx hb dX2_finishTrick_42 (lv_at hl 0 rfl) ?_
      refine jr_callS (n := 2) (As := [.int x0, .int 1]) (rest := [.int (j_X2_worth vled 1), .int vp2, .ref aG]) S (c_X2_worth x0 1) gX2_finishTrick_X2_worth rfl (by decide +kernel) rfl ⟨⟨rfl, rfl⟩, ⟨Nat.le_of_ble_eq_true rfl, Nat.le_of_ble_eq_true rfl⟩, Nat.le_of_ble_eq_true rfl, Nat.le_of_ble_eq_true rfl⟩ hP hK hN [] [] rfl rfl (lv_nil hl) rfl (Nat.le_of_ble_eq_true rfl) dX2_finishTrick_44 ?_
      refine lv_iadd hx hb dX2_finishTrick_47 ?_
      refine lv_iadd hx hb dX2_finishTrick_48 ?_
      refine va_put (D := D) (ci := 0) (v := .int (vp2 + ((j_X2_worth vled 1) + (j_X2_worth x0 1)))) (ty := .int) (C := RX0) (T := TX0) (N := 5) hx hb hts inX2_finishTrick_X0 tyX0 tyX0_ok nmX0 hown hK hP hD hS 2 rfl rfl 2 (by decide) (hts (.fieldLink RX2 133 "ArchivistTricks$Archivist" "points" "I") (by decide +kernel)) (fun _ h9 => h9) rfl (by decide +kernel) rfl rfl (Nat.le_of_ble_eq_true rfl) dX2_finishTrick_49 (fun H locs hP hD hS => ?_)
      have hP : va_P D vwCl [(a0, .inr (2, [.ref aR, .ref aF, .ref aG, .int vdrawn, .int vtr, .int vled, .int vmov, .int vw1, .int vw2, va_rf veo, .int veb])), (aF, .inr (0, [.long vh1, .long vt1, .int vp1, .int vk1, .int vg1])), (aG, .inr (0, [.long vh2, .long vt2, .int (vp2 + ((j_X2_worth vled 1) + (j_X2_worth x0 1))), .int vk2, .int vg2])), (aR, .inl (cI, 42, .inl vrow))] H := hP
      have hD : va_D A [(a0, .inr (2, [.ref aR, .ref aF, .ref aG, .int vdrawn, .int vtr, .int vled, .int vmov, .int vw1, .int vw2, va_rf veo, .int veb])), (aF, .inr (0, [.long vh1, .long vt1, .int vp1, .int vk1, .int vg1])), (aG, .inr (0, [.long vh2, .long vt2, .int (vp2 + ((j_X2_worth vled 1) + (j_X2_worth x0 1))), .int vk2, .int vg2])), (aR, .inl (cI, 42, .inl vrow))] := hD
      refine lv_aload_n hx hb dX2_finishTrick_52 rfl (lv_at hl 1 rfl) ?_
      refine lv_dup hx hb dX2_finishTrick_53 rfl ?_
      refine va_get (D := D) (ci := 0) (v := .int vk2) (C := RX0) (T := TX0) (N := 5) hx hb hts inX2_finishTrick_X0 hown hK hP 2 rfl rfl 3 (by decide) (hts (.fieldLink RX2 136 "ArchivistTricks$Archivist" "tricks" "I") (by decide +kernel)) (fun _ h9 => h9) rfl dX2_finishTrick_54 ?_
      refine lv_iconst (v := 1) hx hb dX2_finishTrick_57 (by decide) ?_
      refine lv_iadd hx hb dX2_finishTrick_58 ?_
      refine va_put (D := D) (ci := 0) (v := .int (vk2 + 1)) (ty := .int) (C := RX0) (T := TX0) (N := 5) hx hb hts inX2_finishTrick_X0 tyX0 tyX0_ok nmX0 hown hK hP hD hS 2 rfl rfl 3 (by decide) (hts (.fieldLink RX2 136 "ArchivistTricks$Archivist" "tricks" "I") (by decide +kernel)) (fun _ h9 => h9) rfl (by decide +kernel) rfl rfl (Nat.le_of_ble_eq_true rfl) dX2_finishTrick_59 (fun H locs hP hD hS => ?_)
      have hP : va_P D vwCl [(a0, .inr (2, [.ref aR, .ref aF, .ref aG, .int vdrawn, .int vtr, .int vled, .int vmov, .int vw1, .int vw2, va_rf veo, .int veb])), (aF, .inr (0, [.long vh1, .long vt1, .int vp1, .int vk1, .int vg1])), (aG, .inr (0, [.long vh2, .long vt2, .int (vp2 + ((j_X2_worth vled 1) + (j_X2_worth x0 1))), .int (vk2 + 1), .int vg2])), (aR, .inl (cI, 42, .inl vrow))] H := hP
      have hD : va_D A [(a0, .inr (2, [.ref aR, .ref aF, .ref aG, .int vdrawn, .int vtr, .int vled, .int vmov, .int vw1, .int vw2, va_rf veo, .int veb])), (aF, .inr (0, [.long vh1, .long vt1, .int vp1, .int vk1, .int vg1])), (aG, .inr (0, [.long vh2, .long vt2, .int (vp2 + ((j_X2_worth vled 1) + (j_X2_worth x0 1))), .int (vk2 + 1), .int vg2])), (aR, .inl (cI, 42, .inl vrow))] := hD
      refine lv_aload_n hx hb dX2_finishTrick_62 rfl (lv_at hl 1 rfl) ?_
      refine lv_dup hx hb dX2_finishTrick_63 rfl ?_
      refine va_get (D := D) (ci := 0) (v := .long vt2) (C := RX0) (T := TX0) (N := 5) hx hb hts inX2_finishTrick_X0 hown hK hP 2 rfl rfl 1 (by decide) (hts (.fieldLink RX2 130 "ArchivistTricks$Archivist" "taken" "J") (by decide +kernel)) (fun _ h9 => h9) rfl dX2_finishTrick_64 ?_
      refine lv_aload_n hx hb dX2_finishTrick_67 rfl (lv_at hl 3 rfl) ?_
      refine va_get (D := D) (ci := 2) (v := .int vled) (C := RX2) (T := TX2) (N := 11) hx hb hts inX2_finishTrick_X2 hown hK hP 0 rfl rfl 5 (by decide) (hts (.fieldLink RX2 30 "ArchivistTricks" "ledCard" "I") (by decide +kernel)) (fun _ h9 => h9) rfl dX2_finishTrick_68 ?_
      refine jr_callS (n := 1) (As := [.int vled]) (rest := [.long vt2, .ref aG]) S (c_X2_bit vled) gX2_finishTrick_X2_bit rfl (by decide +kernel) rfl ⟨⟨rfl, rfl⟩, ⟨Nat.le_of_ble_eq_true rfl, Nat.le_of_ble_eq_true rfl⟩, Nat.le_of_ble_eq_true rfl, Nat.le_of_ble_eq_true rfl⟩ hP hK hN [] [] rfl rfl (lv_nil hl) rfl (Nat.le_of_ble_eq_true rfl) dX2_finishTrick_71 ?_
      refine lv_iload_n hx hb dX2_finishTrick_74 rfl (lv_at hl 4 rfl) ?_
      refine jr_callS (n := 1) (As := [.int x0]) (rest := [.long (j_X2_bit vled), .long vt2, .ref aG]) S (c_X2_bit x0) gX2_finishTrick_X2_bit rfl (by decide +kernel) rfl ⟨⟨rfl, rfl⟩, ⟨Nat.le_of_ble_eq_true rfl, Nat.le_of_ble_eq_true rfl⟩, Nat.le_of_ble_eq_true rfl, Nat.le_of_ble_eq_true rfl⟩ hP hK hN [] [] rfl rfl (lv_nil hl) rfl (Nat.le_of_ble_eq_true rfl) dX2_finishTrick_75 ?_
      refine lv_lor hx hb dX2_finishTrick_78 ?_
      refine lv_lor hx hb dX2_finishTrick_79 ?_
      refine va_put (D := D) (ci := 0) (v := .long (vt2 ||| ((j_X2_bit vled) ||| (j_X2_bit x0)))) (ty := .long) (C := RX0) (T := TX0) (N := 5) hx hb hts inX2_finishTrick_X0 tyX0 tyX0_ok nmX0 hown hK hP hD hS 2 rfl rfl 1 (by decide) (hts (.fieldLink RX2 130 "ArchivistTricks$Archivist" "taken" "J") (by decide +kernel)) (fun _ h9 => h9) rfl (by decide +kernel) rfl rfl (Nat.le_of_ble_eq_true rfl) dX2_finishTrick_80 (fun H locs hP hD hS => ?_)
      have hP : va_P D vwCl [(a0, .inr (2, [.ref aR, .ref aF, .ref aG, .int vdrawn, .int vtr, .int vled, .int vmov, .int vw1, .int vw2, va_rf veo, .int veb])), (aF, .inr (0, [.long vh1, .long vt1, .int vp1, .int vk1, .int vg1])), (aG, .inr (0, [.long vh2, .long (vt2 ||| ((j_X2_bit vled) ||| (j_X2_bit x0))), .int (vp2 + ((j_X2_worth vled 1) + (j_X2_worth x0 1))), .int (vk2 + 1), .int vg2])), (aR, .inl (cI, 42, .inl vrow))] H := hP
      have hD : va_D A [(a0, .inr (2, [.ref aR, .ref aF, .ref aG, .int vdrawn, .int vtr, .int vled, .int vmov, .int vw1, .int vw2, va_rf veo, .int veb])), (aF, .inr (0, [.long vh1, .long vt1, .int vp1, .int vk1, .int vg1])), (aG, .inr (0, [.long vh2, .long (vt2 ||| ((j_X2_bit vled) ||| (j_X2_bit x0))), .int (vp2 + ((j_X2_worth vled 1) + (j_X2_worth x0 1))), .int (vk2 + 1), .int vg2])), (aR, .inl (cI, 42, .inl vrow))] := hD
      refine lv_aload_n hx hb dX2_finishTrick_83 rfl (lv_at hl 3 rfl) ?_
      refine va_get (D := D) (ci := 2) (v := .ref aF) (C := RX2) (T := TX2) (N := 11) hx hb hts inX2_finishTrick_X2 hown hK hP 0 rfl rfl 1 (by decide) (hts (.fieldLink RX2 16 "ArchivistTricks" "first" "LArchivistTricks$Archivist;") (by decide +kernel)) (fun _ h9 => h9) rfl dX2_finishTrick_84 ?_
      refine jw_callVv (n := 0) (C := RX0) (As := []) (rest := []) (wr := [(a0, .inr (2, [.ref aR, .ref aF, .ref aG, .int vdrawn, .int vtr, .int vled, .int vmov, .int vw1, .int vw2, va_rf veo, .int veb])), (aG, .inr (0, [.long vh2, .long (vt2 ||| ((j_X2_bit vled) ||| (j_X2_bit x0))), .int (vp2 + ((j_X2_worth vled 1) + (j_X2_worth x0 1))), .int (vk2 + 1), .int vg2])), (aR, .inl (cI, 42, .inl vrow))]) (wn := [(a0, .inr (2, [.ref aR, .ref aF, .ref aG, .int vdrawn, .int vtr, .int vled, .int vmov, .int vw1, .int vw2, va_rf veo, .int veb])), (aF, .inr (0, [.long vh1, .long vt1, .int vp1, .int vk1, .int (j_X0_loseWornGloves_vg vg1)])), (aG, .inr (0, [.long vh2, .long (vt2 ||| ((j_X2_bit vled) ||| (j_X2_bit x0))), .int (vp2 + ((j_X2_worth vled 1) + (j_X2_worth x0 1))), .int (vk2 + 1), .int vg2])), (aR, .inl (cI, 42, .inl vrow))]) S (c_X0_loseWornGloves aF vh1 vt1 vp1 vk1 vg1) gX2_finishTrick_X0_loseWornGloves rfl (by decide +kernel) rfl ⟨⟨rfl, rfl⟩, ⟨Nat.le_of_ble_eq_true rfl, Nat.le_of_ble_eq_true rfl⟩, Nat.le_of_ble_eq_true rfl, Nat.le_of_ble_eq_true rfl⟩ hP hK hN hD hS hA [1] [0, 2, 3] [0, 3, 1, 2] [] rfl rfl ⟨rfl, rfl, rfl⟩ (by decide) rfl rfl 0 0 rfl rfl rfl (lv_nil hl) rfl (Nat.le_of_ble_eq_true rfl) dX2_finishTrick_87 (fun H locs hP hD hS => ?_)
      refine lv_aload_n hx hb dX2_finishTrick_90 rfl (lv_at hl 3 rfl) ?_
      refine va_get (D := D) (ci := 2) (v := .ref aG) (C := RX2) (T := TX2) (N := 11) hx hb hts inX2_finishTrick_X2 hown hK hP 0 rfl rfl 2 (by decide) (hts (.fieldLink RX2 20 "ArchivistTricks" "second" "LArchivistTricks$Archivist;") (by decide +kernel)) (fun _ h9 => h9) rfl dX2_finishTrick_91 ?_
      refine jw_callVv (n := 0) (C := RX0) (As := []) (rest := []) (wr := [(a0, .inr (2, [.ref aR, .ref aF, .ref aG, .int vdrawn, .int vtr, .int vled, .int vmov, .int vw1, .int vw2, va_rf veo, .int veb])), (aF, .inr (0, [.long vh1, .long vt1, .int vp1, .int vk1, .int (j_X0_loseWornGloves_vg vg1)])), (aR, .inl (cI, 42, .inl vrow))]) (wn := [(a0, .inr (2, [.ref aR, .ref aF, .ref aG, .int vdrawn, .int vtr, .int vled, .int vmov, .int vw1, .int vw2, va_rf veo, .int veb])), (aF, .inr (0, [.long vh1, .long vt1, .int vp1, .int vk1, .int (j_X0_loseWornGloves_vg vg1)])), (aG, .inr (0, [.long vh2, .long (vt2 ||| ((j_X2_bit vled) ||| (j_X2_bit x0))), .int (vp2 + ((j_X2_worth vled 1) + (j_X2_worth x0 1))), .int (vk2 + 1), .int (j_X0_loseWornGloves_vg vg2)])), (aR, .inl (cI, 42, .inl vrow))]) S (c_X0_loseWornGloves aG vh2 (vt2 ||| ((j_X2_bit vled) ||| (j_X2_bit x0))) (vp2 + ((j_X2_worth vled 1) + (j_X2_worth x0 1))) (vk2 + 1) vg2) gX2_finishTrick_X0_loseWornGloves rfl (by decide +kernel) rfl ⟨⟨rfl, rfl⟩, ⟨Nat.le_of_ble_eq_true rfl, Nat.le_of_ble_eq_true rfl⟩, Nat.le_of_ble_eq_true rfl, Nat.le_of_ble_eq_true rfl⟩ hP hK hN hD hS hA [2] [0, 1, 3] [0, 1, 3, 2] [] rfl rfl ⟨rfl, rfl, rfl⟩ (by decide) rfl rfl 0 0 rfl rfl rfl (lv_nil hl) rfl (Nat.le_of_ble_eq_true rfl) dX2_finishTrick_94 (fun H locs hP hD hS => ?_)
      refine lv_aload_n hx hb dX2_finishTrick_97 rfl (lv_at hl 3 rfl) ?_
      refine lv_iconst (v := (-1)) hx hb dX2_finishTrick_98 (by decide) ?_
      refine va_put (D := D) (ci := 2) (v := .int (-1)) (ty := .int) (C := RX2) (T := TX2) (N := 11) hx hb hts inX2_finishTrick_X2 tyX2 tyX2_ok nmX2 hown hK hP hD hS 0 rfl rfl 5 (by decide) (hts (.fieldLink RX2 30 "ArchivistTricks" "ledCard" "I") (by decide +kernel)) (fun _ h9 => h9) rfl (by decide +kernel) rfl rfl (Nat.le_of_ble_eq_true rfl) dX2_finishTrick_99 (fun H locs hP hD hS => ?_)
      have hP : va_P D vwCl [(a0, .inr (2, [.ref aR, .ref aF, .ref aG, .int vdrawn, .int vtr, .int (-1), .int vmov, .int vw1, .int vw2, va_rf veo, .int veb])), (aF, .inr (0, [.long vh1, .long vt1, .int vp1, .int vk1, .int (j_X0_loseWornGloves_vg vg1)])), (aG, .inr (0, [.long vh2, .long (vt2 ||| ((j_X2_bit vled) ||| (j_X2_bit x0))), .int (vp2 + ((j_X2_worth vled 1) + (j_X2_worth x0 1))), .int (vk2 + 1), .int (j_X0_loseWornGloves_vg vg2)])), (aR, .inl (cI, 42, .inl vrow))] H := hP
      have hD : va_D A [(a0, .inr (2, [.ref aR, .ref aF, .ref aG, .int vdrawn, .int vtr, .int (-1), .int vmov, .int vw1, .int vw2, va_rf veo, .int veb])), (aF, .inr (0, [.long vh1, .long vt1, .int vp1, .int vk1, .int (j_X0_loseWornGloves_vg vg1)])), (aG, .inr (0, [.long vh2, .long (vt2 ||| ((j_X2_bit vled) ||| (j_X2_bit x0))), .int (vp2 + ((j_X2_worth vled 1) + (j_X2_worth x0 1))), .int (vk2 + 1), .int (j_X0_loseWornGloves_vg vg2)])), (aR, .inl (cI, 42, .inl vrow))] := hD
      refine lv_aload_n hx hb dX2_finishTrick_102 rfl (lv_at hl 3 rfl) ?_
      refine lv_aload_n hx hb dX2_finishTrick_103 rfl (lv_at hl 1 rfl) ?_
      refine jw_callVv (n := 1) (C := RX2) (As := [.ref aG]) (rest := []) (wr := []) (wn := [(a0, .inr (2, [.ref aR, .ref aF, .ref aG, .int (j_X2_drawFor_G_vdrawn vdrawn), .int vtr, .int (-1), .int vmov, .int vw1, .int vw2, va_rf veo, .int veb])), (aF, .inr (0, [.long vh1, .long vt1, .int vp1, .int vk1, .int (j_X0_loseWornGloves_vg vg1)])), (aG, .inr (0, [.long (j_X2_drawFor_G_vh2 vrow vdrawn vh2), .long (vt2 ||| ((j_X2_bit vled) ||| (j_X2_bit x0))), .int (vp2 + ((j_X2_worth vled 1) + (j_X2_worth x0 1))), .int (vk2 + 1), .int (j_X0_loseWornGloves_vg vg2)])), (aR, .inl (cI, 42, .inl vrow))]) S (c_X2_drawFor_G a0 aR aF aG cI vrow vdrawn vtr (-1) vmov vw1 vw2 veo veb vh1 vt1 vp1 vk1 (j_X0_loseWornGloves_vg vg1) vh2 (vt2 ||| ((j_X2_bit vled) ||| (j_X2_bit x0))) (vp2 + ((j_X2_worth vled 1) + (j_X2_worth x0 1))) (vk2 + 1) (j_X0_loseWornGloves_vg vg2)) gX2_finishTrick_X2_drawFor rfl (by decide +kernel) rfl ⟨⟨rfl, rfl⟩, ⟨Nat.le_of_ble_eq_true rfl, Nat.le_of_ble_eq_true rfl⟩, Nat.le_of_ble_eq_true rfl, Nat.le_of_ble_eq_true rfl⟩ hP hK hN hD hS hA [0, 1, 2, 3] [] [0, 1, 2, 3] [0] rfl rfl ⟨rfl, rfl, rfl⟩ (by decide) rfl rfl 0 2 rfl rfl rfl (lv_nil hl) rfl (Nat.le_of_ble_eq_true rfl) dX2_finishTrick_104 (fun H locs hP hD hS => ?_)
      refine lv_aload_n hx hb dX2_finishTrick_107 rfl (lv_at hl 3 rfl) ?_
      refine lv_aload_n hx hb dX2_finishTrick_108 rfl (lv_at hl 3 rfl) ?_
      refine lv_iconst (v := 1) hx hb dX2_finishTrick_109 (by decide) ?_
      refine lv_iload_n hx hb dX2_finishTrick_110 rfl (lv_at hl 2 rfl) ?_
      refine lv_isub hx hb dX2_finishTrick_111 ?_
      refine jr_callV (n := 1) (C := RX2) (As := [.int (1 - (j_X2_takerBy vtr vled vmov x0))]) (rest := [.ref a0]) S (c_X2_archivist a0 aR aF aG cI vrow (j_X2_drawFor_G_vdrawn vdrawn) vtr (-1) vmov vw1 vw2 veo veb vh1 vt1 vp1 vk1 (j_X0_loseWornGloves_vg vg1) (j_X2_drawFor_G_vh2 vrow vdrawn vh2) (vt2 ||| ((j_X2_bit vled) ||| (j_X2_bit x0))) (vp2 + ((j_X2_worth vled 1) + (j_X2_worth x0 1))) (vk2 + 1) (j_X0_loseWornGloves_vg vg2) (1 - (j_X2_takerBy vtr vled vmov x0))) gX2_finishTrick_X2_archivist rfl (by decide +kernel) rfl ⟨⟨rfl, rfl⟩, ⟨Nat.le_of_ble_eq_true rfl, Nat.le_of_ble_eq_true rfl⟩, Nat.le_of_ble_eq_true rfl, Nat.le_of_ble_eq_true rfl⟩ hP hK hN [0, 1, 2, 3] [0] rfl rfl 0 2 rfl rfl rfl (lv_nil hl) rfl (Nat.le_of_ble_eq_true rfl) dX2_finishTrick_112 ?_
      refine jr_ite (c0 := (1 - (j_X2_takerBy vtr vled vmov x0)) = 0) (a := aF) (b := aG) rfl (fun c_13 => ?_) (fun c_13 => ?_)
      · skip
        refine jw_callVv (n := 1) (C := RX2) (As := [.ref aF]) (rest := []) (wr := []) (wn := [(a0, .inr (2, [.ref aR, .ref aF, .ref aG, .int (j_X2_drawFor_F_vdrawn (j_X2_drawFor_G_vdrawn vdrawn)), .int vtr, .int (-1), .int vmov, .int vw1, .int vw2, va_rf veo, .int veb])), (aF, .inr (0, [.long (j_X2_drawFor_F_vh1 vrow (j_X2_drawFor_G_vdrawn vdrawn) vh1), .long vt1, .int vp1, .int vk1, .int (j_X0_loseWornGloves_vg vg1)])), (aG, .inr (0, [.long (j_X2_drawFor_G_vh2 vrow vdrawn vh2), .long (vt2 ||| ((j_X2_bit vled) ||| (j_X2_bit x0))), .int (vp2 + ((j_X2_worth vled 1) + (j_X2_worth x0 1))), .int (vk2 + 1), .int (j_X0_loseWornGloves_vg vg2)])), (aR, .inl (cI, 42, .inl vrow))]) S (c_X2_drawFor_F a0 aR aF aG cI vrow (j_X2_drawFor_G_vdrawn vdrawn) vtr (-1) vmov vw1 vw2 veo veb vh1 vt1 vp1 vk1 (j_X0_loseWornGloves_vg vg1) (j_X2_drawFor_G_vh2 vrow vdrawn vh2) (vt2 ||| ((j_X2_bit vled) ||| (j_X2_bit x0))) (vp2 + ((j_X2_worth vled 1) + (j_X2_worth x0 1))) (vk2 + 1) (j_X0_loseWornGloves_vg vg2)) gX2_finishTrick_X2_drawFor rfl (by decide +kernel) rfl ⟨⟨rfl, rfl⟩, ⟨Nat.le_of_ble_eq_true rfl, Nat.le_of_ble_eq_true rfl⟩, Nat.le_of_ble_eq_true rfl, Nat.le_of_ble_eq_true rfl⟩ hP hK hN hD hS hA [0, 1, 2, 3] [] [0, 1, 2, 3] [0] rfl rfl ⟨rfl, rfl, rfl⟩ (by decide) rfl rfl 0 2 rfl rfl rfl (lv_nil hl) rfl (Nat.le_of_ble_eq_true rfl) dX2_finishTrick_115 (fun H locs hP hD hS => ?_)
        refine lv_aload_n hx hb dX2_finishTrick_118 rfl (lv_at hl 3 rfl) ?_
        refine lv_iload_n hx hb dX2_finishTrick_119 rfl (lv_at hl 2 rfl) ?_
        refine va_put (D := D) (ci := 2) (v := .int (j_X2_takerBy vtr vled vmov x0)) (ty := .int) (C := RX2) (T := TX2) (N := 11) hx hb hts inX2_finishTrick_X2 tyX2 tyX2_ok nmX2 hown hK hP hD hS 0 rfl rfl 6 (by decide) (hts (.fieldLink RX2 33 "ArchivistTricks" "mover" "I") (by decide +kernel)) (fun _ h9 => h9) rfl (by decide +kernel) rfl rfl (Nat.le_of_ble_eq_true rfl) dX2_finishTrick_120 (fun H locs hP hD hS => ?_)
        have hP : va_P D vwCl [(a0, .inr (2, [.ref aR, .ref aF, .ref aG, .int (j_X2_drawFor_F_vdrawn (j_X2_drawFor_G_vdrawn vdrawn)), .int vtr, .int (-1), .int (j_X2_takerBy vtr vled vmov x0), .int vw1, .int vw2, va_rf veo, .int veb])), (aF, .inr (0, [.long (j_X2_drawFor_F_vh1 vrow (j_X2_drawFor_G_vdrawn vdrawn) vh1), .long vt1, .int vp1, .int vk1, .int (j_X0_loseWornGloves_vg vg1)])), (aG, .inr (0, [.long (j_X2_drawFor_G_vh2 vrow vdrawn vh2), .long (vt2 ||| ((j_X2_bit vled) ||| (j_X2_bit x0))), .int (vp2 + ((j_X2_worth vled 1) + (j_X2_worth x0 1))), .int (vk2 + 1), .int (j_X0_loseWornGloves_vg vg2)])), (aR, .inl (cI, 42, .inl vrow))] H := hP
        have hD : va_D A [(a0, .inr (2, [.ref aR, .ref aF, .ref aG, .int (j_X2_drawFor_F_vdrawn (j_X2_drawFor_G_vdrawn vdrawn)), .int vtr, .int (-1), .int (j_X2_takerBy vtr vled vmov x0), .int vw1, .int vw2, va_rf veo, .int veb])), (aF, .inr (0, [.long (j_X2_drawFor_F_vh1 vrow (j_X2_drawFor_G_vdrawn vdrawn) vh1), .long vt1, .int vp1, .int vk1, .int (j_X0_loseWornGloves_vg vg1)])), (aG, .inr (0, [.long (j_X2_drawFor_G_vh2 vrow vdrawn vh2), .long (vt2 ||| ((j_X2_bit vled) ||| (j_X2_bit x0))), .int (vp2 + ((j_X2_worth vled 1) + (j_X2_worth x0 1))), .int (vk2 + 1), .int (j_X0_loseWornGloves_vg vg2)])), (aR, .inl (cI, 42, .inl vrow))] := hD
        refine lv_aload_n hx hb dX2_finishTrick_123 rfl (lv_at hl 3 rfl) ?_
        refine va_get (D := D) (ci := 2) (v := .ref aF) (C := RX2) (T := TX2) (N := 11) hx hb hts inX2_finishTrick_X2 hown hK hP 0 rfl rfl 1 (by decide) (hts (.fieldLink RX2 16 "ArchivistTricks" "first" "LArchivistTricks$Archivist;") (by decide +kernel)) (fun _ h9 => h9) rfl dX2_finishTrick_124 ?_
        refine va_get (D := D) (ci := 0) (v := .long (j_X2_drawFor_F_vh1 vrow (j_X2_drawFor_G_vdrawn vdrawn) vh1)) (C := RX0) (T := TX0) (N := 5) hx hb hts inX2_finishTrick_X0 hown hK hP 1 rfl rfl 0 (by decide) (hts (.fieldLink RX2 91 "ArchivistTricks$Archivist" "hand" "J") (by decide +kernel)) (fun _ h9 => h9) rfl dX2_finishTrick_127 ?_
        refine lv_aload_n hx hb dX2_finishTrick_130 rfl (lv_at hl 3 rfl) ?_
        refine va_get (D := D) (ci := 2) (v := .ref aG) (C := RX2) (T := TX2) (N := 11) hx hb hts inX2_finishTrick_X2 hown hK hP 0 rfl rfl 2 (by decide) (hts (.fieldLink RX2 20 "ArchivistTricks" "second" "LArchivistTricks$Archivist;") (by decide +kernel)) (fun _ h9 => h9) rfl dX2_finishTrick_131 ?_
        refine va_get (D := D) (ci := 0) (v := .long (j_X2_drawFor_G_vh2 vrow vdrawn vh2)) (C := RX0) (T := TX0) (N := 5) hx hb hts inX2_finishTrick_X0 hown hK hP 2 rfl rfl 0 (by decide) (hts (.fieldLink RX2 91 "ArchivistTricks$Archivist" "hand" "J") (by decide +kernel)) (fun _ h9 => h9) rfl dX2_finishTrick_134 ?_
        refine lv_lor hx hb dX2_finishTrick_137 ?_
        refine lv_lconst (v := 0) hx hb dX2_finishTrick_138 (by decide) ?_
        refine W.lcmp hx hb dX2_finishTrick_139 ?_
        refine lv_if_ne (tgt := 147) hx hb dX2_finishTrick_140 (by decide) (fun c_14 => ?_) (fun c_14 => ?_)
        · skip
          refine lv_iload_n hx hb dX2_finishTrick_147 rfl (lv_at hl 2 rfl) ?_
          exact jw_iret hx hb hr hlocks hK hP hD hS dX2_finishTrick_148 (by  simp only [j_X2_finishTrick, if_neg c_1, if_pos c_9, if_pos c_13, if_neg c_14]) (by  simp only [j_X2_finishTrick_vdrawn, j_X2_finishTrick_vled, j_X2_finishTrick_vmov, j_X2_finishTrick_vw1, j_X2_finishTrick_vw2, j_X2_finishTrick_vh1, j_X2_finishTrick_vt1, j_X2_finishTrick_vp1, j_X2_finishTrick_vk1, j_X2_finishTrick_vg1, j_X2_finishTrick_vh2, j_X2_finishTrick_vt2, j_X2_finishTrick_vp2, j_X2_finishTrick_vk2, j_X2_finishTrick_vg2, if_neg c_1, if_pos c_9, if_pos c_13, if_neg c_14])
        · skip
          refine lv_aload_n hx hb dX2_finishTrick_143 rfl (lv_at hl 3 rfl) ?_
          refine jw_callVv (n := 0) (C := RX2) (As := []) (rest := []) (wr := []) (wn := [(a0, .inr (2, [.ref aR, .ref aF, .ref aG, .int (j_X2_drawFor_F_vdrawn (j_X2_drawFor_G_vdrawn vdrawn)), .int vtr, .int (-1), .int j_X2_endGame_vmov, .int (j_X2_endGame_vw1 vw1 vp1 (vp2 + ((j_X2_worth vled 1) + (j_X2_worth x0 1)))), .int (j_X2_endGame_vw2 vw2 vp1 (vp2 + ((j_X2_worth vled 1) + (j_X2_worth x0 1)))), va_rf veo, .int veb])), (aF, .inr (0, [.long (j_X2_drawFor_F_vh1 vrow (j_X2_drawFor_G_vdrawn vdrawn) vh1), .long vt1, .int vp1, .int vk1, .int (j_X0_loseWornGloves_vg vg1)])), (aG, .inr (0, [.long (j_X2_drawFor_G_vh2 vrow vdrawn vh2), .long (vt2 ||| ((j_X2_bit vled) ||| (j_X2_bit x0))), .int (vp2 + ((j_X2_worth vled 1) + (j_X2_worth x0 1))), .int (vk2 + 1), .int (j_X0_loseWornGloves_vg vg2)])), (aR, .inl (cI, 42, .inl vrow))]) S (c_X2_endGame a0 aR aF aG cI vrow (j_X2_drawFor_F_vdrawn (j_X2_drawFor_G_vdrawn vdrawn)) vtr (-1) (j_X2_takerBy vtr vled vmov x0) vw1 vw2 veo veb (j_X2_drawFor_F_vh1 vrow (j_X2_drawFor_G_vdrawn vdrawn) vh1) vt1 vp1 vk1 (j_X0_loseWornGloves_vg vg1) (j_X2_drawFor_G_vh2 vrow vdrawn vh2) (vt2 ||| ((j_X2_bit vled) ||| (j_X2_bit x0))) (vp2 + ((j_X2_worth vled 1) + (j_X2_worth x0 1))) (vk2 + 1) (j_X0_loseWornGloves_vg vg2)) gX2_finishTrick_X2_endGame rfl (by decide +kernel) rfl ⟨⟨rfl, rfl⟩, ⟨Nat.le_of_ble_eq_true rfl, Nat.le_of_ble_eq_true rfl⟩, Nat.le_of_ble_eq_true rfl, Nat.le_of_ble_eq_true rfl⟩ hP hK hN hD hS hA [0, 1, 2, 3] [] [0, 1, 2, 3] [0] rfl rfl ⟨rfl, rfl, rfl⟩ (by decide) rfl rfl 0 2 rfl rfl rfl (lv_nil hl) rfl (Nat.le_of_ble_eq_true rfl) dX2_finishTrick_144 (fun H locs hP hD hS => ?_)
          refine lv_iload_n hx hb dX2_finishTrick_147 rfl (lv_at hl 2 rfl) ?_
          exact jw_iret hx hb hr hlocks hK hP hD hS dX2_finishTrick_148 (by  simp only [j_X2_finishTrick, if_neg c_1, if_pos c_9, if_pos c_13, if_pos c_14]) (by  simp only [j_X2_finishTrick_vdrawn, j_X2_finishTrick_vled, j_X2_finishTrick_vmov, j_X2_finishTrick_vw1, j_X2_finishTrick_vw2, j_X2_finishTrick_vh1, j_X2_finishTrick_vt1, j_X2_finishTrick_vp1, j_X2_finishTrick_vk1, j_X2_finishTrick_vg1, j_X2_finishTrick_vh2, j_X2_finishTrick_vt2, j_X2_finishTrick_vp2, j_X2_finishTrick_vk2, j_X2_finishTrick_vg2, if_neg c_1, if_pos c_9, if_pos c_13, if_pos c_14])
      · skip
        refine jw_callVv (n := 1) (C := RX2) (As := [.ref aG]) (rest := []) (wr := []) (wn := [(a0, .inr (2, [.ref aR, .ref aF, .ref aG, .int (j_X2_drawFor_G_vdrawn (j_X2_drawFor_G_vdrawn vdrawn)), .int vtr, .int (-1), .int vmov, .int vw1, .int vw2, va_rf veo, .int veb])), (aF, .inr (0, [.long vh1, .long vt1, .int vp1, .int vk1, .int (j_X0_loseWornGloves_vg vg1)])), (aG, .inr (0, [.long (j_X2_drawFor_G_vh2 vrow (j_X2_drawFor_G_vdrawn vdrawn) (j_X2_drawFor_G_vh2 vrow vdrawn vh2)), .long (vt2 ||| ((j_X2_bit vled) ||| (j_X2_bit x0))), .int (vp2 + ((j_X2_worth vled 1) + (j_X2_worth x0 1))), .int (vk2 + 1), .int (j_X0_loseWornGloves_vg vg2)])), (aR, .inl (cI, 42, .inl vrow))]) S (c_X2_drawFor_G a0 aR aF aG cI vrow (j_X2_drawFor_G_vdrawn vdrawn) vtr (-1) vmov vw1 vw2 veo veb vh1 vt1 vp1 vk1 (j_X0_loseWornGloves_vg vg1) (j_X2_drawFor_G_vh2 vrow vdrawn vh2) (vt2 ||| ((j_X2_bit vled) ||| (j_X2_bit x0))) (vp2 + ((j_X2_worth vled 1) + (j_X2_worth x0 1))) (vk2 + 1) (j_X0_loseWornGloves_vg vg2)) gX2_finishTrick_X2_drawFor rfl (by decide +kernel) rfl ⟨⟨rfl, rfl⟩, ⟨Nat.le_of_ble_eq_true rfl, Nat.le_of_ble_eq_true rfl⟩, Nat.le_of_ble_eq_true rfl, Nat.le_of_ble_eq_true rfl⟩ hP hK hN hD hS hA [0, 1, 2, 3] [] [0, 1, 2, 3] [0] rfl rfl ⟨rfl, rfl, rfl⟩ (by decide) rfl rfl 0 2 rfl rfl rfl (lv_nil hl) rfl (Nat.le_of_ble_eq_true rfl) dX2_finishTrick_115 (fun H locs hP hD hS => ?_)
        refine lv_aload_n hx hb dX2_finishTrick_118 rfl (lv_at hl 3 rfl) ?_
        refine lv_iload_n hx hb dX2_finishTrick_119 rfl (lv_at hl 2 rfl) ?_
        refine va_put (D := D) (ci := 2) (v := .int (j_X2_takerBy vtr vled vmov x0)) (ty := .int) (C := RX2) (T := TX2) (N := 11) hx hb hts inX2_finishTrick_X2 tyX2 tyX2_ok nmX2 hown hK hP hD hS 0 rfl rfl 6 (by decide) (hts (.fieldLink RX2 33 "ArchivistTricks" "mover" "I") (by decide +kernel)) (fun _ h9 => h9) rfl (by decide +kernel) rfl rfl (Nat.le_of_ble_eq_true rfl) dX2_finishTrick_120 (fun H locs hP hD hS => ?_)
        have hP : va_P D vwCl [(a0, .inr (2, [.ref aR, .ref aF, .ref aG, .int (j_X2_drawFor_G_vdrawn (j_X2_drawFor_G_vdrawn vdrawn)), .int vtr, .int (-1), .int (j_X2_takerBy vtr vled vmov x0), .int vw1, .int vw2, va_rf veo, .int veb])), (aF, .inr (0, [.long vh1, .long vt1, .int vp1, .int vk1, .int (j_X0_loseWornGloves_vg vg1)])), (aG, .inr (0, [.long (j_X2_drawFor_G_vh2 vrow (j_X2_drawFor_G_vdrawn vdrawn) (j_X2_drawFor_G_vh2 vrow vdrawn vh2)), .long (vt2 ||| ((j_X2_bit vled) ||| (j_X2_bit x0))), .int (vp2 + ((j_X2_worth vled 1) + (j_X2_worth x0 1))), .int (vk2 + 1), .int (j_X0_loseWornGloves_vg vg2)])), (aR, .inl (cI, 42, .inl vrow))] H := hP
        have hD : va_D A [(a0, .inr (2, [.ref aR, .ref aF, .ref aG, .int (j_X2_drawFor_G_vdrawn (j_X2_drawFor_G_vdrawn vdrawn)), .int vtr, .int (-1), .int (j_X2_takerBy vtr vled vmov x0), .int vw1, .int vw2, va_rf veo, .int veb])), (aF, .inr (0, [.long vh1, .long vt1, .int vp1, .int vk1, .int (j_X0_loseWornGloves_vg vg1)])), (aG, .inr (0, [.long (j_X2_drawFor_G_vh2 vrow (j_X2_drawFor_G_vdrawn vdrawn) (j_X2_drawFor_G_vh2 vrow vdrawn vh2)), .long (vt2 ||| ((j_X2_bit vled) ||| (j_X2_bit x0))), .int (vp2 + ((j_X2_worth vled 1) + (j_X2_worth x0 1))), .int (vk2 + 1), .int (j_X0_loseWornGloves_vg vg2)])), (aR, .inl (cI, 42, .inl vrow))] := hD
        refine lv_aload_n hx hb dX2_finishTrick_123 rfl (lv_at hl 3 rfl) ?_
        refine va_get (D := D) (ci := 2) (v := .ref aF) (C := RX2) (T := TX2) (N := 11) hx hb hts inX2_finishTrick_X2 hown hK hP 0 rfl rfl 1 (by decide) (hts (.fieldLink RX2 16 "ArchivistTricks" "first" "LArchivistTricks$Archivist;") (by decide +kernel)) (fun _ h9 => h9) rfl dX2_finishTrick_124 ?_
        refine va_get (D := D) (ci := 0) (v := .long vh1) (C := RX0) (T := TX0) (N := 5) hx hb hts inX2_finishTrick_X0 hown hK hP 1 rfl rfl 0 (by decide) (hts (.fieldLink RX2 91 "ArchivistTricks$Archivist" "hand" "J") (by decide +kernel)) (fun _ h9 => h9) rfl dX2_finishTrick_127 ?_
        refine lv_aload_n hx hb dX2_finishTrick_130 rfl (lv_at hl 3 rfl) ?_
        refine va_get (D := D) (ci := 2) (v := .ref aG) (C := RX2) (T := TX2) (N := 11) hx hb hts inX2_finishTrick_X2 hown hK hP 0 rfl rfl 2 (by decide) (hts (.fieldLink RX2 20 "ArchivistTricks" "second" "LArchivistTricks$Archivist;") (by decide +kernel)) (fun _ h9 => h9) rfl dX2_finishTrick_131 ?_
        refine va_get (D := D) (ci := 0) (v := .long (j_X2_drawFor_G_vh2 vrow (j_X2_drawFor_G_vdrawn vdrawn) (j_X2_drawFor_G_vh2 vrow vdrawn vh2))) (C := RX0) (T := TX0) (N := 5) hx hb hts inX2_finishTrick_X0 hown hK hP 2 rfl rfl 0 (by decide) (hts (.fieldLink RX2 91 "ArchivistTricks$Archivist" "hand" "J") (by decide +kernel)) (fun _ h9 => h9) rfl dX2_finishTrick_134 ?_
        refine lv_lor hx hb dX2_finishTrick_137 ?_
        refine lv_lconst (v := 0) hx hb dX2_finishTrick_138 (by decide) ?_
        refine W.lcmp hx hb dX2_finishTrick_139 ?_
        refine lv_if_ne (tgt := 147) hx hb dX2_finishTrick_140 (by decide) (fun c_15 => ?_) (fun c_15 => ?_)
        · skip
          refine lv_iload_n hx hb dX2_finishTrick_147 rfl (lv_at hl 2 rfl) ?_
          exact jw_iret hx hb hr hlocks hK hP hD hS dX2_finishTrick_148 (by  simp only [j_X2_finishTrick, if_neg c_1, if_pos c_9, if_neg c_13, if_neg c_15]) (by  simp only [j_X2_finishTrick_vdrawn, j_X2_finishTrick_vled, j_X2_finishTrick_vmov, j_X2_finishTrick_vw1, j_X2_finishTrick_vw2, j_X2_finishTrick_vh1, j_X2_finishTrick_vt1, j_X2_finishTrick_vp1, j_X2_finishTrick_vk1, j_X2_finishTrick_vg1, j_X2_finishTrick_vh2, j_X2_finishTrick_vt2, j_X2_finishTrick_vp2, j_X2_finishTrick_vk2, j_X2_finishTrick_vg2, if_neg c_1, if_pos c_9, if_neg c_13, if_neg c_15])
        · skip
          refine lv_aload_n hx hb dX2_finishTrick_143 rfl (lv_at hl 3 rfl) ?_
          refine jw_callVv (n := 0) (C := RX2) (As := []) (rest := []) (wr := []) (wn := [(a0, .inr (2, [.ref aR, .ref aF, .ref aG, .int (j_X2_drawFor_G_vdrawn (j_X2_drawFor_G_vdrawn vdrawn)), .int vtr, .int (-1), .int j_X2_endGame_vmov, .int (j_X2_endGame_vw1 vw1 vp1 (vp2 + ((j_X2_worth vled 1) + (j_X2_worth x0 1)))), .int (j_X2_endGame_vw2 vw2 vp1 (vp2 + ((j_X2_worth vled 1) + (j_X2_worth x0 1)))), va_rf veo, .int veb])), (aF, .inr (0, [.long vh1, .long vt1, .int vp1, .int vk1, .int (j_X0_loseWornGloves_vg vg1)])), (aG, .inr (0, [.long (j_X2_drawFor_G_vh2 vrow (j_X2_drawFor_G_vdrawn vdrawn) (j_X2_drawFor_G_vh2 vrow vdrawn vh2)), .long (vt2 ||| ((j_X2_bit vled) ||| (j_X2_bit x0))), .int (vp2 + ((j_X2_worth vled 1) + (j_X2_worth x0 1))), .int (vk2 + 1), .int (j_X0_loseWornGloves_vg vg2)])), (aR, .inl (cI, 42, .inl vrow))]) S (c_X2_endGame a0 aR aF aG cI vrow (j_X2_drawFor_G_vdrawn (j_X2_drawFor_G_vdrawn vdrawn)) vtr (-1) (j_X2_takerBy vtr vled vmov x0) vw1 vw2 veo veb vh1 vt1 vp1 vk1 (j_X0_loseWornGloves_vg vg1) (j_X2_drawFor_G_vh2 vrow (j_X2_drawFor_G_vdrawn vdrawn) (j_X2_drawFor_G_vh2 vrow vdrawn vh2)) (vt2 ||| ((j_X2_bit vled) ||| (j_X2_bit x0))) (vp2 + ((j_X2_worth vled 1) + (j_X2_worth x0 1))) (vk2 + 1) (j_X0_loseWornGloves_vg vg2)) gX2_finishTrick_X2_endGame rfl (by decide +kernel) rfl ⟨⟨rfl, rfl⟩, ⟨Nat.le_of_ble_eq_true rfl, Nat.le_of_ble_eq_true rfl⟩, Nat.le_of_ble_eq_true rfl, Nat.le_of_ble_eq_true rfl⟩ hP hK hN hD hS hA [0, 1, 2, 3] [] [0, 1, 2, 3] [0] rfl rfl ⟨rfl, rfl, rfl⟩ (by decide) rfl rfl 0 2 rfl rfl rfl (lv_nil hl) rfl (Nat.le_of_ble_eq_true rfl) dX2_finishTrick_144 (fun H locs hP hD hS => ?_)
          refine lv_iload_n hx hb dX2_finishTrick_147 rfl (lv_at hl 2 rfl) ?_
          exact jw_iret hx hb hr hlocks hK hP hD hS dX2_finishTrick_148 (by  simp only [j_X2_finishTrick, if_neg c_1, if_pos c_9, if_neg c_13, if_pos c_15]) (by  simp only [j_X2_finishTrick_vdrawn, j_X2_finishTrick_vled, j_X2_finishTrick_vmov, j_X2_finishTrick_vw1, j_X2_finishTrick_vw2, j_X2_finishTrick_vh1, j_X2_finishTrick_vt1, j_X2_finishTrick_vp1, j_X2_finishTrick_vk1, j_X2_finishTrick_vg1, j_X2_finishTrick_vh2, j_X2_finishTrick_vt2, j_X2_finishTrick_vp2, j_X2_finishTrick_vk2, j_X2_finishTrick_vg2, if_neg c_1, if_pos c_9, if_neg c_13, if_pos c_15])

abbrev rX2_shuffle : Room := { frames := 0, cells := 0, slots := 0, locals := 0 }
def j_X2_shuffle_vrow_27 (vrow : Nat → Int32) (x0 : Int64) : Nat → Int64 → (Nat → Int32) → (Nat → Int32)
  | 0, y3, zvrow => zvrow
  | i + 1, y3, zvrow => j_X2_shuffle_vrow_27 vrow x0 i ((y3 * 6364136223846793005) + 1442695040888963407) (upd (upd zvrow (nI (i + 1)).toNatClampNeg (zvrow ((((((y3 * 6364136223846793005) + 1442695040888963407).toUInt64 >>> ((33 : Int32).toInt64.toUInt64 &&& Int64.toUInt64 63)).toInt64) - ((((y3 * 6364136223846793005) + 1442695040888963407).toUInt64 >>> ((33 : Int32).toInt64.toUInt64 &&& Int64.toUInt64 63)).toInt64) / (((nI (i + 1)) + 1).toInt64) * (((nI (i + 1)) + 1).toInt64)).toInt32).toNatClampNeg)) ((((((y3 * 6364136223846793005) + 1442695040888963407).toUInt64 >>> ((33 : Int32).toInt64.toUInt64 &&& Int64.toUInt64 63)).toInt64) - ((((y3 * 6364136223846793005) + 1442695040888963407).toUInt64 >>> ((33 : Int32).toInt64.toUInt64 &&& Int64.toUInt64 63)).toInt64) / (((nI (i + 1)) + 1).toInt64) * (((nI (i + 1)) + 1).toInt64)).toInt32).toNatClampNeg (zvrow (nI (i + 1)).toNatClampNeg))
def j_X2_shuffle_vrow_2 (vrow : Nat → Int32) (x0 : Int64) : Nat → Nat → (Nat → Int32) → (Nat → Int32)
  | 0, i, zvrow => j_X2_shuffle_vrow_27 vrow x0 41 x0 zvrow
  | n + 1, i, zvrow => j_X2_shuffle_vrow_2 vrow x0 n (i + 1) (upd zvrow (nI i).toNatClampNeg (nI i))
def j_X2_shuffle_vrow (vrow : Nat → Int32) (x0 : Int64) : Nat → Int32 := j_X2_shuffle_vrow_2 vrow x0 42 0 vrow
theorem inX2_shuffle_X2 : ∀ w ∈ u_ws RX2 TX2 11, w ∈ wsX2_shuffle := by decide +kernel
set_option maxRecDepth 100000 in
set_option maxHeartbeats 8000000 in
theorem c_X2_shuffle {l : Launch} {D : va_G} (a0 : Nat) (aR : Nat) (aF : Nat) (aG : Nat) (cI : ClassId) (vrow : Nat → Int32) (vdrawn : Int32) (vtr : Int32) (vled : Int32) (vmov : Int32) (vw1 : Int32) (vw2 : Int32) (veo : Option Nat) (veb : Int32) (vh1 : Int64) (vt1 : Int64) (vp1 : Int32) (vk1 : Int32) (vg1 : Int32) (vh2 : Int64) (vt2 : Int64) (vp2 : Int32) (vk2 : Int32) (vg2 : Int32) (x0 : Int64) : jWv l yX2_shuffle wsX2_shuffle rX2_shuffle D [.ref a0, .long x0] (jC a0 aR aF aG cI vrow vdrawn vtr vled vmov vw1 vw2 veo veb vh1 vt1 vp1 vk1 vg1 vh2 vt2 vp2 vk2 vg2) [(cI, .int)] (jC a0 aR aF aG cI (j_X2_shuffle_vrow vrow x0) vdrawn vtr vled vmov vw1 vw2 veo veb vh1 vt1 vp1 vk1 vg1 vh2 vt2 vp2 vk2 vg2) := by
  refine jW_of (QQ := fun A => (jQv D (jC a0 aR aF aG cI (j_X2_shuffle_vrow vrow x0) vdrawn vtr vled vmov vw1 vw2 veo veb vh1 vt1 vp1 vk1 vg1 vh2 vt2 vp2 vk2 vg2) [(cI, .int)] A)) (cc := cX2_shuffle) (maxL := 8) (ret := none) (by decide) rfl (Nat.le_of_ble_eq_true rfl) ?_
  intro p e s m below meth c ls A S hr hlocks hini hP hK hN hD hS hA hl
  obtain ⟨hx, hb, hml, hown, hts⟩ := id S
  have hl : lv_has ls 8 [(0, .ref a0), (1, .long x0)] := hl
  have loop27 : ∀ (i : Nat) (y3 : Int64) (zvrow : Nat → Int32), i ≤ 41 → j_X2_shuffle_vrow_27 vrow x0 i y3 zvrow = (j_X2_shuffle_vrow vrow x0) → ∀ (H : Heap) (locs : List Loc), va_P D vwCl [(a0, .inr (2, [.ref aR, .ref aF, .ref aG, .int vdrawn, .int vtr, .int vled, .int vmov, .int vw1, .int vw2, va_rf veo, .int veb])), (aF, .inr (0, [.long vh1, .long vt1, .int vp1, .int vk1, .int vg1])), (aG, .inr (0, [.long vh2, .long vt2, .int vp2, .int vk2, .int vg2])), (aR, .inl (cI, 42, .inl zvrow))] H → va_D A [(a0, .inr (2, [.ref aR, .ref aF, .ref aG, .int vdrawn, .int vtr, .int vled, .int vmov, .int vw1, .int vw2, va_rf veo, .int veb])), (aF, .inr (0, [.long vh1, .long vt1, .int vp1, .int vk1, .int vg1])), (aG, .inr (0, [.long vh2, .long vt2, .int vp2, .int vk2, .int vg2])), (aR, .inl (cI, 42, .inl zvrow))] → va_S A s.heap H locs → ∀ (ls : Array Slot), lv_has ls 8 [(5, .int (nI i)), (3, .long y3), (0, .ref a0), (1, .long x0)] → W p l e rX2_shuffle s m ([.ref a0, .long x0] : List Value).toArray below meth c H locs 0 0 (MQ below (jQv D (jC a0 aR aF aG cI (j_X2_shuffle_vrow vrow x0) vdrawn vtr vled vmov vw1 vw2 veo veb vh1 vt1 vp1 vk1 vg1 vh2 vt2 vp2 vk2 vg2) [(cI, .int)] A) ([.ref a0, .long x0] : List Value).toArray s 0 0 A) (F0 m 27 ls []) := by
    intro i
    induction i with
    | zero =>
      intro y3 zvrow hin hv_vrow H locs hP hD hS ls hl
      have hlt : nI 0 < (1 : Int32) := by decide
      refine lv_iload hx hb dX2_shuffle_27 (lv_at hl 0 rfl) ?_
      refine lv_iconst (v := 1) hx hb dX2_shuffle_29 (by decide) ?_
      refine lv_icmp_lt (tgt := 94) hx hb dX2_shuffle_30 (by decide) (fun _ => ?_) (fun c_ => absurd hlt c_)
      exact jw_vret hx hb hr hlocks hK hP hD hS dX2_shuffle_94 (by rw [← hv_vrow]; simp only [j_X2_shuffle_vrow_27, if_pos hlt])
    | succ i ih =>
      intro y3 zvrow hin hv_vrow H locs hP hD hS ls hl
      have hlt : ¬ nI (i + 1) < (1 : Int32) := nI_nlt (a := i + 1) (b := 1) (by omega) (by omega)
      refine lv_iload hx hb dX2_shuffle_27 (lv_at hl 0 rfl) ?_
      refine lv_iconst (v := 1) hx hb dX2_shuffle_29 (by decide) ?_
      refine lv_icmp_lt (tgt := 94) hx hb dX2_shuffle_30 (by decide) (fun c_ => absurd c_ hlt) (fun _ => ?_)
      refine lv_lload_n hx hb dX2_shuffle_33 rfl (lv_at hl 1 rfl) ?_
      refine lv_ldc2 (v := 6364136223846793005) hx hb hown (hts (.constantLong RX2 174 (6364136223846793005)) (by decide +kernel)) dX2_shuffle_34 ?_
      refine lv_lmul hx hb dX2_shuffle_37 ?_
      refine lv_ldc2 (v := 1442695040888963407) hx hb hown (hts (.constantLong RX2 176 (1442695040888963407)) (by decide +kernel)) dX2_shuffle_38 ?_
      refine lv_ladd hx hb dX2_shuffle_41 ?_
      refine lv_lstore_n (lv' := [(3, .long ((y3 * 6364136223846793005) + 1442695040888963407)), (5, .int (nI (i + 1))), (0, .ref a0), (1, .long x0)]) hx hb dX2_shuffle_42 rfl hl (by decide) rfl (fun ls hl => ?_)
      refine lv_lload_n hx hb dX2_shuffle_43 rfl (lv_at hl 0 rfl) ?_
      refine lv_bipush (v := 33) hx hb dX2_shuffle_44 (by decide) ?_
      refine lv_lushr (v := (((y3 * 6364136223846793005) + 1442695040888963407).toUInt64 >>> ((33 : Int32).toInt64.toUInt64 &&& Int64.toUInt64 63)).toInt64) hx hb dX2_shuffle_46 rfl ?_
      refine lv_iload hx hb dX2_shuffle_47 (lv_at hl 1 rfl) ?_
      refine lv_iconst (v := 1) hx hb dX2_shuffle_49 (by decide) ?_
      refine lv_iadd hx hb dX2_shuffle_50 ?_
      refine lv_i2l (v := ((nI (i + 1)) + 1).toInt64) hx hb dX2_shuffle_51 rfl ?_
      refine lv_lrem hx hb dX2_shuffle_52 (jx_ne hin) ?_
      refine lv_l2i (v := (((((y3 * 6364136223846793005) + 1442695040888963407).toUInt64 >>> ((33 : Int32).toInt64.toUInt64 &&& Int64.toUInt64 63)).toInt64) - ((((y3 * 6364136223846793005) + 1442695040888963407).toUInt64 >>> ((33 : Int32).toInt64.toUInt64 &&& Int64.toUInt64 63)).toInt64) / (((nI (i + 1)) + 1).toInt64) * (((nI (i + 1)) + 1).toInt64)).toInt32) hx hb dX2_shuffle_53 rfl ?_
      refine lv_istore (lv' := [(6, .int ((((((y3 * 6364136223846793005) + 1442695040888963407).toUInt64 >>> ((33 : Int32).toInt64.toUInt64 &&& Int64.toUInt64 63)).toInt64) - ((((y3 * 6364136223846793005) + 1442695040888963407).toUInt64 >>> ((33 : Int32).toInt64.toUInt64 &&& Int64.toUInt64 63)).toInt64) / (((nI (i + 1)) + 1).toInt64) * (((nI (i + 1)) + 1).toInt64)).toInt32)), (3, .long ((y3 * 6364136223846793005) + 1442695040888963407)), (5, .int (nI (i + 1))), (0, .ref a0), (1, .long x0)]) hx hb dX2_shuffle_54 hl (by decide) rfl (fun ls hl => ?_)
      refine lv_aload_n hx hb dX2_shuffle_56 rfl (lv_at hl 3 rfl) ?_
      refine va_get (D := D) (ci := 2) (v := .ref aR) (C := RX2) (T := TX2) (N := 11) hx hb hts inX2_shuffle_X2 hown hK hP 0 rfl rfl 0 (by decide) (hts (.fieldLink RX2 9 "ArchivistTricks" "row" "[I") (by decide +kernel)) (fun _ h9 => h9) rfl dX2_shuffle_57 ?_
      refine lv_iload hx hb dX2_shuffle_60 (lv_at hl 2 rfl) ?_
      refine va_iald hx hb hK hP 3 0 rfl rfl (i := nI (i + 1)) (vp_in_nI (by omega) (by decide)) dX2_shuffle_62 ?_
      refine lv_istore (lv' := [(7, .int (zvrow (nI (i + 1)).toNatClampNeg)), (6, .int ((((((y3 * 6364136223846793005) + 1442695040888963407).toUInt64 >>> ((33 : Int32).toInt64.toUInt64 &&& Int64.toUInt64 63)).toInt64) - ((((y3 * 6364136223846793005) + 1442695040888963407).toUInt64 >>> ((33 : Int32).toInt64.toUInt64 &&& Int64.toUInt64 63)).toInt64) / (((nI (i + 1)) + 1).toInt64) * (((nI (i + 1)) + 1).toInt64)).toInt32)), (3, .long ((y3 * 6364136223846793005) + 1442695040888963407)), (5, .int (nI (i + 1))), (0, .ref a0), (1, .long x0)]) hx hb dX2_shuffle_63 hl (by decide) rfl (fun ls hl => ?_)
      refine lv_aload_n hx hb dX2_shuffle_65 rfl (lv_at hl 4 rfl) ?_
      refine va_get (D := D) (ci := 2) (v := .ref aR) (C := RX2) (T := TX2) (N := 11) hx hb hts inX2_shuffle_X2 hown hK hP 0 rfl rfl 0 (by decide) (hts (.fieldLink RX2 9 "ArchivistTricks" "row" "[I") (by decide +kernel)) (fun _ h9 => h9) rfl dX2_shuffle_66 ?_
      refine lv_iload hx hb dX2_shuffle_69 (lv_at hl 3 rfl) ?_
      refine lv_aload_n hx hb dX2_shuffle_71 rfl (lv_at hl 4 rfl) ?_
      refine va_get (D := D) (ci := 2) (v := .ref aR) (C := RX2) (T := TX2) (N := 11) hx hb hts inX2_shuffle_X2 hown hK hP 0 rfl rfl 0 (by decide) (hts (.fieldLink RX2 9 "ArchivistTricks" "row" "[I") (by decide +kernel)) (fun _ h9 => h9) rfl dX2_shuffle_72 ?_
      refine lv_iload hx hb dX2_shuffle_75 (lv_at hl 1 rfl) ?_
      refine va_iald hx hb hK hP 3 0 rfl rfl (i := (((((y3 * 6364136223846793005) + 1442695040888963407).toUInt64 >>> ((33 : Int32).toInt64.toUInt64 &&& Int64.toUInt64 63)).toInt64) - ((((y3 * 6364136223846793005) + 1442695040888963407).toUInt64 >>> ((33 : Int32).toInt64.toUInt64 &&& Int64.toUInt64 63)).toInt64) / (((nI (i + 1)) + 1).toInt64) * (((nI (i + 1)) + 1).toInt64)).toInt32) (jx_other hin) dX2_shuffle_77 ?_
      refine va_iast hx hb hK hP hD hS 3 0 rfl rfl (i := nI (i + 1)) (vp_in_nI (by omega) (by decide)) dX2_shuffle_78 (fun H locs hP hD hS => ?_)
      have hP : va_P D vwCl [(a0, .inr (2, [.ref aR, .ref aF, .ref aG, .int vdrawn, .int vtr, .int vled, .int vmov, .int vw1, .int vw2, va_rf veo, .int veb])), (aF, .inr (0, [.long vh1, .long vt1, .int vp1, .int vk1, .int vg1])), (aG, .inr (0, [.long vh2, .long vt2, .int vp2, .int vk2, .int vg2])), (aR, .inl (cI, 42, .inl (upd zvrow (nI (i + 1)).toNatClampNeg (zvrow ((((((y3 * 6364136223846793005) + 1442695040888963407).toUInt64 >>> ((33 : Int32).toInt64.toUInt64 &&& Int64.toUInt64 63)).toInt64) - ((((y3 * 6364136223846793005) + 1442695040888963407).toUInt64 >>> ((33 : Int32).toInt64.toUInt64 &&& Int64.toUInt64 63)).toInt64) / (((nI (i + 1)) + 1).toInt64) * (((nI (i + 1)) + 1).toInt64)).toInt32).toNatClampNeg))))] H := hP
      have hD : va_D A [(a0, .inr (2, [.ref aR, .ref aF, .ref aG, .int vdrawn, .int vtr, .int vled, .int vmov, .int vw1, .int vw2, va_rf veo, .int veb])), (aF, .inr (0, [.long vh1, .long vt1, .int vp1, .int vk1, .int vg1])), (aG, .inr (0, [.long vh2, .long vt2, .int vp2, .int vk2, .int vg2])), (aR, .inl (cI, 42, .inl (upd zvrow (nI (i + 1)).toNatClampNeg (zvrow ((((((y3 * 6364136223846793005) + 1442695040888963407).toUInt64 >>> ((33 : Int32).toInt64.toUInt64 &&& Int64.toUInt64 63)).toInt64) - ((((y3 * 6364136223846793005) + 1442695040888963407).toUInt64 >>> ((33 : Int32).toInt64.toUInt64 &&& Int64.toUInt64 63)).toInt64) / (((nI (i + 1)) + 1).toInt64) * (((nI (i + 1)) + 1).toInt64)).toInt32).toNatClampNeg))))] := hD
      refine lv_aload_n hx hb dX2_shuffle_79 rfl (lv_at hl 4 rfl) ?_
      refine va_get (D := D) (ci := 2) (v := .ref aR) (C := RX2) (T := TX2) (N := 11) hx hb hts inX2_shuffle_X2 hown hK hP 0 rfl rfl 0 (by decide) (hts (.fieldLink RX2 9 "ArchivistTricks" "row" "[I") (by decide +kernel)) (fun _ h9 => h9) rfl dX2_shuffle_80 ?_
      refine lv_iload hx hb dX2_shuffle_83 (lv_at hl 1 rfl) ?_
      refine lv_iload hx hb dX2_shuffle_85 (lv_at hl 0 rfl) ?_
      refine va_iast hx hb hK hP hD hS 3 0 rfl rfl (i := (((((y3 * 6364136223846793005) + 1442695040888963407).toUInt64 >>> ((33 : Int32).toInt64.toUInt64 &&& Int64.toUInt64 63)).toInt64) - ((((y3 * 6364136223846793005) + 1442695040888963407).toUInt64 >>> ((33 : Int32).toInt64.toUInt64 &&& Int64.toUInt64 63)).toInt64) / (((nI (i + 1)) + 1).toInt64) * (((nI (i + 1)) + 1).toInt64)).toInt32) (jx_other hin) dX2_shuffle_87 (fun H locs hP hD hS => ?_)
      have hP : va_P D vwCl [(a0, .inr (2, [.ref aR, .ref aF, .ref aG, .int vdrawn, .int vtr, .int vled, .int vmov, .int vw1, .int vw2, va_rf veo, .int veb])), (aF, .inr (0, [.long vh1, .long vt1, .int vp1, .int vk1, .int vg1])), (aG, .inr (0, [.long vh2, .long vt2, .int vp2, .int vk2, .int vg2])), (aR, .inl (cI, 42, .inl (upd (upd zvrow (nI (i + 1)).toNatClampNeg (zvrow ((((((y3 * 6364136223846793005) + 1442695040888963407).toUInt64 >>> ((33 : Int32).toInt64.toUInt64 &&& Int64.toUInt64 63)).toInt64) - ((((y3 * 6364136223846793005) + 1442695040888963407).toUInt64 >>> ((33 : Int32).toInt64.toUInt64 &&& Int64.toUInt64 63)).toInt64) / (((nI (i + 1)) + 1).toInt64) * (((nI (i + 1)) + 1).toInt64)).toInt32).toNatClampNeg)) ((((((y3 * 6364136223846793005) + 1442695040888963407).toUInt64 >>> ((33 : Int32).toInt64.toUInt64 &&& Int64.toUInt64 63)).toInt64) - ((((y3 * 6364136223846793005) + 1442695040888963407).toUInt64 >>> ((33 : Int32).toInt64.toUInt64 &&& Int64.toUInt64 63)).toInt64) / (((nI (i + 1)) + 1).toInt64) * (((nI (i + 1)) + 1).toInt64)).toInt32).toNatClampNeg (zvrow (nI (i + 1)).toNatClampNeg))))] H := hP
      have hD : va_D A [(a0, .inr (2, [.ref aR, .ref aF, .ref aG, .int vdrawn, .int vtr, .int vled, .int vmov, .int vw1, .int vw2, va_rf veo, .int veb])), (aF, .inr (0, [.long vh1, .long vt1, .int vp1, .int vk1, .int vg1])), (aG, .inr (0, [.long vh2, .long vt2, .int vp2, .int vk2, .int vg2])), (aR, .inl (cI, 42, .inl (upd (upd zvrow (nI (i + 1)).toNatClampNeg (zvrow ((((((y3 * 6364136223846793005) + 1442695040888963407).toUInt64 >>> ((33 : Int32).toInt64.toUInt64 &&& Int64.toUInt64 63)).toInt64) - ((((y3 * 6364136223846793005) + 1442695040888963407).toUInt64 >>> ((33 : Int32).toInt64.toUInt64 &&& Int64.toUInt64 63)).toInt64) / (((nI (i + 1)) + 1).toInt64) * (((nI (i + 1)) + 1).toInt64)).toInt32).toNatClampNeg)) ((((((y3 * 6364136223846793005) + 1442695040888963407).toUInt64 >>> ((33 : Int32).toInt64.toUInt64 &&& Int64.toUInt64 63)).toInt64) - ((((y3 * 6364136223846793005) + 1442695040888963407).toUInt64 >>> ((33 : Int32).toInt64.toUInt64 &&& Int64.toUInt64 63)).toInt64) / (((nI (i + 1)) + 1).toInt64) * (((nI (i + 1)) + 1).toInt64)).toInt32).toNatClampNeg (zvrow (nI (i + 1)).toNatClampNeg))))] := hD
      refine lv_iinc (v := nI i) (lv' := [(5, .int (nI i)), (7, .int (zvrow (nI (i + 1)).toNatClampNeg)), (6, .int ((((((y3 * 6364136223846793005) + 1442695040888963407).toUInt64 >>> ((33 : Int32).toInt64.toUInt64 &&& Int64.toUInt64 63)).toInt64) - ((((y3 * 6364136223846793005) + 1442695040888963407).toUInt64 >>> ((33 : Int32).toInt64.toUInt64 &&& Int64.toUInt64 63)).toInt64) / (((nI (i + 1)) + 1).toInt64) * (((nI (i + 1)) + 1).toInt64)).toInt32)), (3, .long ((y3 * 6364136223846793005) + 1442695040888963407)), (0, .ref a0), (1, .long x0)]) hx hb dX2_shuffle_88 hl (k := 3) rfl (pk_m1 i) (by decide) rfl (fun ls hl => ?_)
      refine lv_goto (tgt := 27) hx hb dX2_shuffle_91 (by decide) ?_
      exact ih ((y3 * 6364136223846793005) + 1442695040888963407) (upd (upd zvrow (nI (i + 1)).toNatClampNeg (zvrow ((((((y3 * 6364136223846793005) + 1442695040888963407).toUInt64 >>> ((33 : Int32).toInt64.toUInt64 &&& Int64.toUInt64 63)).toInt64) - ((((y3 * 6364136223846793005) + 1442695040888963407).toUInt64 >>> ((33 : Int32).toInt64.toUInt64 &&& Int64.toUInt64 63)).toInt64) / (((nI (i + 1)) + 1).toInt64) * (((nI (i + 1)) + 1).toInt64)).toInt32).toNatClampNeg)) ((((((y3 * 6364136223846793005) + 1442695040888963407).toUInt64 >>> ((33 : Int32).toInt64.toUInt64 &&& Int64.toUInt64 63)).toInt64) - ((((y3 * 6364136223846793005) + 1442695040888963407).toUInt64 >>> ((33 : Int32).toInt64.toUInt64 &&& Int64.toUInt64 63)).toInt64) / (((nI (i + 1)) + 1).toInt64) * (((nI (i + 1)) + 1).toInt64)).toInt32).toNatClampNeg (zvrow (nI (i + 1)).toNatClampNeg)) (by omega) (by rw [← hv_vrow]; simp only [j_X2_shuffle_vrow_27, if_neg hlt]) _ _ hP hD hS ls (lv_sub hl [0, 3, 4, 5] rfl)
  have loop2 : ∀ (n i : Nat) (zvrow : Nat → Int32), i + n = 42 → j_X2_shuffle_vrow_2 vrow x0 n i zvrow = (j_X2_shuffle_vrow vrow x0) → ∀ (H : Heap) (locs : List Loc), va_P D vwCl [(a0, .inr (2, [.ref aR, .ref aF, .ref aG, .int vdrawn, .int vtr, .int vled, .int vmov, .int vw1, .int vw2, va_rf veo, .int veb])), (aF, .inr (0, [.long vh1, .long vt1, .int vp1, .int vk1, .int vg1])), (aG, .inr (0, [.long vh2, .long vt2, .int vp2, .int vk2, .int vg2])), (aR, .inl (cI, 42, .inl zvrow))] H → va_D A [(a0, .inr (2, [.ref aR, .ref aF, .ref aG, .int vdrawn, .int vtr, .int vled, .int vmov, .int vw1, .int vw2, va_rf veo, .int veb])), (aF, .inr (0, [.long vh1, .long vt1, .int vp1, .int vk1, .int vg1])), (aG, .inr (0, [.long vh2, .long vt2, .int vp2, .int vk2, .int vg2])), (aR, .inl (cI, 42, .inl zvrow))] → va_S A s.heap H locs → ∀ (ls : Array Slot), lv_has ls 8 [(3, .int (nI i)), (0, .ref a0), (1, .long x0)] → W p l e rX2_shuffle s m ([.ref a0, .long x0] : List Value).toArray below meth c H locs 0 0 (MQ below (jQv D (jC a0 aR aF aG cI (j_X2_shuffle_vrow vrow x0) vdrawn vtr vled vmov vw1 vw2 veo veb vh1 vt1 vp1 vk1 vg1 vh2 vt2 vp2 vk2 vg2) [(cI, .int)] A) ([.ref a0, .long x0] : List Value).toArray s 0 0 A) (F0 m 2 ls []) := by
    intro n
    induction n with
    | zero =>
      intro i zvrow hin hv_vrow H locs hP hD hS ls hl
      have hge : (42 : Int32) ≤ nI i := by rw [show i = 42 by omega]; decide
      have hgl : ¬ nI i < (42 : Int32) := by rw [show i = 42 by omega]; decide
      refine lv_iload_n hx hb dX2_shuffle_2 rfl (lv_at hl 0 rfl) ?_
      refine lv_bipush (v := 42) hx hb dX2_shuffle_3 (by decide) ?_
      refine lv_icmp_ge (tgt := 21) hx hb dX2_shuffle_5 (by decide) (fun _ => ?_) (fun c_ => absurd hge c_)
      refine lv_lload_n hx hb dX2_shuffle_21 rfl (lv_at hl 2 rfl) ?_
      refine lv_lstore_n (lv' := [(3, .long x0), (0, .ref a0), (1, .long x0)]) hx hb dX2_shuffle_22 rfl hl (by decide) rfl (fun ls hl => ?_)
      refine lv_bipush (v := 41) hx hb dX2_shuffle_23 (by decide) ?_
      refine lv_istore (lv' := [(5, .int 41), (3, .long x0), (0, .ref a0), (1, .long x0)]) hx hb dX2_shuffle_25 hl (by decide) rfl (fun ls hl => ?_)
      exact loop27 41 x0 zvrow (by decide) (by rw [← hv_vrow]; simp only [j_X2_shuffle_vrow_2, if_pos hge, if_neg hgl]) _ _ hP hD hS ls (lv_sub (l' := [(5, .int (nI 41)), (3, .long x0), (0, .ref a0), (1, .long x0)]) hl [0, 1, 2, 3] rfl)
    | succ n ih =>
      intro i zvrow hin hv_vrow H locs hP hD hS ls hl
      have hge : ¬ (42 : Int32) ≤ nI i := nI_ge (a := i) (b := 42) (by omega) (by decide)
      have hgl : nI i < (42 : Int32) := nI_lt (a := i) (b := 42) (by omega) (by decide)
      refine lv_iload_n hx hb dX2_shuffle_2 rfl (lv_at hl 0 rfl) ?_
      refine lv_bipush (v := 42) hx hb dX2_shuffle_3 (by decide) ?_
      refine lv_icmp_ge (tgt := 21) hx hb dX2_shuffle_5 (by decide) (fun c_ => absurd c_ hge) (fun _ => ?_)
      refine lv_aload_n hx hb dX2_shuffle_8 rfl (lv_at hl 1 rfl) ?_
      refine va_get (D := D) (ci := 2) (v := .ref aR) (C := RX2) (T := TX2) (N := 11) hx hb hts inX2_shuffle_X2 hown hK hP 0 rfl rfl 0 (by decide) (hts (.fieldLink RX2 9 "ArchivistTricks" "row" "[I") (by decide +kernel)) (fun _ h9 => h9) rfl dX2_shuffle_9 ?_
      refine lv_iload_n hx hb dX2_shuffle_12 rfl (lv_at hl 0 rfl) ?_
      refine lv_iload_n hx hb dX2_shuffle_13 rfl (lv_at hl 0 rfl) ?_
      refine va_iast hx hb hK hP hD hS 3 0 rfl rfl (i := nI i) (vp_in_nI (by omega) (by decide)) dX2_shuffle_14 (fun H locs hP hD hS => ?_)
      have hP : va_P D vwCl [(a0, .inr (2, [.ref aR, .ref aF, .ref aG, .int vdrawn, .int vtr, .int vled, .int vmov, .int vw1, .int vw2, va_rf veo, .int veb])), (aF, .inr (0, [.long vh1, .long vt1, .int vp1, .int vk1, .int vg1])), (aG, .inr (0, [.long vh2, .long vt2, .int vp2, .int vk2, .int vg2])), (aR, .inl (cI, 42, .inl (upd zvrow (nI i).toNatClampNeg (nI i))))] H := hP
      have hD : va_D A [(a0, .inr (2, [.ref aR, .ref aF, .ref aG, .int vdrawn, .int vtr, .int vled, .int vmov, .int vw1, .int vw2, va_rf veo, .int veb])), (aF, .inr (0, [.long vh1, .long vt1, .int vp1, .int vk1, .int vg1])), (aG, .inr (0, [.long vh2, .long vt2, .int vp2, .int vk2, .int vg2])), (aR, .inl (cI, 42, .inl (upd zvrow (nI i).toNatClampNeg (nI i))))] := hD
      refine lv_iinc (v := nI (i + 1)) (lv' := [(3, .int (nI (i + 1))), (0, .ref a0), (1, .long x0)]) hx hb dX2_shuffle_15 hl (k := 0) rfl (nI_1 i) (by decide) rfl (fun ls hl => ?_)
      refine lv_goto (tgt := 2) hx hb dX2_shuffle_18 (by decide) ?_
      exact ih (i + 1) (upd zvrow (nI i).toNatClampNeg (nI i)) (by omega) (by rw [← hv_vrow]; simp only [j_X2_shuffle_vrow_2, if_neg hge, if_pos hgl]) _ _ hP hD hS ls (lv_sub hl [0, 1, 2] rfl)
  refine lv_iconst (v := 0) hx hb dX2_shuffle_0 (by decide) ?_
  refine lv_istore_n (lv' := [(3, .int 0), (0, .ref a0), (1, .long x0)]) hx hb dX2_shuffle_1 rfl hl (by decide) rfl (fun ls hl => ?_)
  exact loop2 42 0 vrow rfl (by simp only [j_X2_shuffle_vrow]) _ _ hP hD hS ls (lv_sub (l' := [(3, .int (nI 0)), (0, .ref a0), (1, .long x0)]) hl [0, 1, 2] rfl)

abbrev rX2_putTurnedUpLast : Room := { frames := 1, cells := 0, slots := 0, locals := 64 }
def j_X2_putTurnedUpLast_vrow (vrow : Nat → Int32) : Nat → Int32 := upd (va_cpy vrow vrow (13 : Int32).toNatClampNeg (12 : Int32).toNatClampNeg (29 : Int32).toNatClampNeg) (41 : Int32).toNatClampNeg (vrow (12 : Int32).toNatClampNeg)
theorem inX2_putTurnedUpLast_X2 : ∀ w ∈ u_ws RX2 TX2 11, w ∈ wsX2_putTurnedUpLast := by decide +kernel
set_option maxRecDepth 100000 in
set_option maxHeartbeats 8000000 in
theorem c_X2_putTurnedUpLast {l : Launch} {D : va_G} (a0 : Nat) (aR : Nat) (aF : Nat) (aG : Nat) (cI : ClassId) (vrow : Nat → Int32) (vdrawn : Int32) (vtr : Int32) (vled : Int32) (vmov : Int32) (vw1 : Int32) (vw2 : Int32) (veo : Option Nat) (veb : Int32) (vh1 : Int64) (vt1 : Int64) (vp1 : Int32) (vk1 : Int32) (vg1 : Int32) (vh2 : Int64) (vt2 : Int64) (vp2 : Int32) (vk2 : Int32) (vg2 : Int32) : jWv l yX2_putTurnedUpLast wsX2_putTurnedUpLast rX2_putTurnedUpLast D [.ref a0] (jC a0 aR aF aG cI vrow vdrawn vtr vled vmov vw1 vw2 veo veb vh1 vt1 vp1 vk1 vg1 vh2 vt2 vp2 vk2 vg2) [(cI, .int)] (jC a0 aR aF aG cI (j_X2_putTurnedUpLast_vrow vrow) vdrawn vtr vled vmov vw1 vw2 veo veb vh1 vt1 vp1 vk1 vg1 vh2 vt2 vp2 vk2 vg2) := by
  refine jW_of (QQ := fun A => (jQv D (jC a0 aR aF aG cI (j_X2_putTurnedUpLast_vrow vrow) vdrawn vtr vled vmov vw1 vw2 veo veb vh1 vt1 vp1 vk1 vg1 vh2 vt2 vp2 vk2 vg2) [(cI, .int)] A)) (cc := cX2_putTurnedUpLast) (maxL := 2) (ret := none) (by decide) rfl (Nat.le_of_ble_eq_true rfl) ?_
  intro p e s m below meth c ls A S hr hlocks hini hP hK hN hD hS hA hl
  obtain ⟨hx, hb, hml, hown, hts⟩ := id S
  have hl : lv_has ls 2 [(0, .ref a0)] := hl
  refine lv_aload_n hx hb dX2_putTurnedUpLast_0 rfl (lv_at hl 0 rfl) ?_
  refine va_get (D := D) (ci := 2) (v := .ref aR) (C := RX2) (T := TX2) (N := 11) hx hb hts inX2_putTurnedUpLast_X2 hown hK hP 0 rfl rfl 0 (by decide) (hts (.fieldLink RX2 9 "ArchivistTricks" "row" "[I") (by decide +kernel)) (fun _ h9 => h9) rfl dX2_putTurnedUpLast_1 ?_
  refine lv_bipush (v := 12) hx hb dX2_putTurnedUpLast_4 (by decide) ?_
  refine va_iald hx hb hK hP 3 0 rfl rfl (i := 12) (by unfold vp_in; decide) dX2_putTurnedUpLast_6 ?_
  refine lv_istore_n (lv' := [(1, .int (vrow (12 : Int32).toNatClampNeg)), (0, .ref a0)]) hx hb dX2_putTurnedUpLast_7 rfl hl (by decide) rfl (fun ls hl => ?_)
  refine lv_aload_n hx hb dX2_putTurnedUpLast_8 rfl (lv_at hl 1 rfl) ?_
  refine va_get (D := D) (ci := 2) (v := .ref aR) (C := RX2) (T := TX2) (N := 11) hx hb hts inX2_putTurnedUpLast_X2 hown hK hP 0 rfl rfl 0 (by decide) (hts (.fieldLink RX2 9 "ArchivistTricks" "row" "[I") (by decide +kernel)) (fun _ h9 => h9) rfl dX2_putTurnedUpLast_9 ?_
  refine lv_bipush (v := 13) hx hb dX2_putTurnedUpLast_12 (by decide) ?_
  refine lv_aload_n hx hb dX2_putTurnedUpLast_14 rfl (lv_at hl 1 rfl) ?_
  refine va_get (D := D) (ci := 2) (v := .ref aR) (C := RX2) (T := TX2) (N := 11) hx hb hts inX2_putTurnedUpLast_X2 hown hK hP 0 rfl rfl 0 (by decide) (hts (.fieldLink RX2 9 "ArchivistTricks" "row" "[I") (by decide +kernel)) (fun _ h9 => h9) rfl dX2_putTurnedUpLast_15 ?_
  refine lv_bipush (v := 12) hx hb dX2_putTurnedUpLast_18 (by decide) ?_
  refine lv_bipush (v := 29) hx hb dX2_putTurnedUpLast_20 (by decide) ?_
  refine va_copyi (cc := cX2_putTurnedUpLast) hx hb (hml.trans hl.1.symm) hown (hts (.methodLink RX2 178 arraycopyName) (by decide +kernel)) (hts (.native arraycopyName) (by decide +kernel)) (hts (.static arraycopyName) (by decide +kernel)) (hts (.initialized "java/lang/System") (by decide +kernel)) hK hP hD hS 3 3 0 0 rfl rfl rfl rfl rfl (sp := 13) (dp := 12) (n := 29) (by decide) (by decide) (by decide) (by decide) (by decide) (fun _ _ => rfl) (by decide) (by decide) dX2_putTurnedUpLast_22 (fun H locs hP hD hS => ?_)
  have hP : va_P D vwCl [(a0, .inr (2, [.ref aR, .ref aF, .ref aG, .int vdrawn, .int vtr, .int vled, .int vmov, .int vw1, .int vw2, va_rf veo, .int veb])), (aF, .inr (0, [.long vh1, .long vt1, .int vp1, .int vk1, .int vg1])), (aG, .inr (0, [.long vh2, .long vt2, .int vp2, .int vk2, .int vg2])), (aR, .inl (cI, 42, .inl (va_cpy vrow vrow (13 : Int32).toNatClampNeg (12 : Int32).toNatClampNeg (29 : Int32).toNatClampNeg)))] H := hP
  have hD : va_D A [(a0, .inr (2, [.ref aR, .ref aF, .ref aG, .int vdrawn, .int vtr, .int vled, .int vmov, .int vw1, .int vw2, va_rf veo, .int veb])), (aF, .inr (0, [.long vh1, .long vt1, .int vp1, .int vk1, .int vg1])), (aG, .inr (0, [.long vh2, .long vt2, .int vp2, .int vk2, .int vg2])), (aR, .inl (cI, 42, .inl (va_cpy vrow vrow (13 : Int32).toNatClampNeg (12 : Int32).toNatClampNeg (29 : Int32).toNatClampNeg)))] := hD
  refine lv_aload_n hx hb dX2_putTurnedUpLast_25 rfl (lv_at hl 1 rfl) ?_
  refine va_get (D := D) (ci := 2) (v := .ref aR) (C := RX2) (T := TX2) (N := 11) hx hb hts inX2_putTurnedUpLast_X2 hown hK hP 0 rfl rfl 0 (by decide) (hts (.fieldLink RX2 9 "ArchivistTricks" "row" "[I") (by decide +kernel)) (fun _ h9 => h9) rfl dX2_putTurnedUpLast_26 ?_
  refine lv_bipush (v := 41) hx hb dX2_putTurnedUpLast_29 (by decide) ?_
  refine lv_iload_n hx hb dX2_putTurnedUpLast_31 rfl (lv_at hl 0 rfl) ?_
  refine va_iast hx hb hK hP hD hS 3 0 rfl rfl (i := 41) (by unfold vp_in; decide) dX2_putTurnedUpLast_32 (fun H locs hP hD hS => ?_)
  have hP : va_P D vwCl [(a0, .inr (2, [.ref aR, .ref aF, .ref aG, .int vdrawn, .int vtr, .int vled, .int vmov, .int vw1, .int vw2, va_rf veo, .int veb])), (aF, .inr (0, [.long vh1, .long vt1, .int vp1, .int vk1, .int vg1])), (aG, .inr (0, [.long vh2, .long vt2, .int vp2, .int vk2, .int vg2])), (aR, .inl (cI, 42, .inl (upd (va_cpy vrow vrow (13 : Int32).toNatClampNeg (12 : Int32).toNatClampNeg (29 : Int32).toNatClampNeg) (41 : Int32).toNatClampNeg (vrow (12 : Int32).toNatClampNeg))))] H := hP
  have hD : va_D A [(a0, .inr (2, [.ref aR, .ref aF, .ref aG, .int vdrawn, .int vtr, .int vled, .int vmov, .int vw1, .int vw2, va_rf veo, .int veb])), (aF, .inr (0, [.long vh1, .long vt1, .int vp1, .int vk1, .int vg1])), (aG, .inr (0, [.long vh2, .long vt2, .int vp2, .int vk2, .int vg2])), (aR, .inl (cI, 42, .inl (upd (va_cpy vrow vrow (13 : Int32).toNatClampNeg (12 : Int32).toNatClampNeg (29 : Int32).toNatClampNeg) (41 : Int32).toNatClampNeg (vrow (12 : Int32).toNatClampNeg))))] := hD
  exact jw_vret hx hb hr hlocks hK hP hD hS dX2_putTurnedUpLast_33 (by  simp only [j_X2_putTurnedUpLast_vrow])

abbrev rX2_deal : Room := { frames := 2, cells := 0, slots := 0, locals := 85 }
def j_X2_deal (vrow : Nat → Int32) (x0 : Int64) : Int32 := (if j_X2_isMildew ((j_X2_shuffle_vrow vrow x0) (12 : Int32).toNatClampNeg) = 0 then ((j_X2_shuffle_vrow vrow x0) (12 : Int32).toNatClampNeg) / 10 else 0)
def j_X2_deal_vrow (vrow : Nat → Int32) (x0 : Int64) : Nat → Int32 := j_X2_putTurnedUpLast_vrow (j_X2_shuffle_vrow vrow x0)
def j_X2_deal_vdrawn  : Int32 := 12
def j_X2_deal_vtr (vrow : Nat → Int32) (x0 : Int64) : Int32 := (if j_X2_isMildew ((j_X2_shuffle_vrow vrow x0) (12 : Int32).toNatClampNeg) = 0 then ((j_X2_shuffle_vrow vrow x0) (12 : Int32).toNatClampNeg) / 10 else 0)
def j_X2_deal_vled  : Int32 := (-1)
def j_X2_deal_vmov  : Int32 := 0
def j_X2_deal_veb  : Int32 := 0
def j_X2_deal_vh1 (vrow : Nat → Int32) (x0 : Int64) : Int64 := j_X0_begin_vh (j_X2_handFrom (j_X2_putTurnedUpLast_vrow (j_X2_shuffle_vrow vrow x0)) 0)
def j_X2_deal_vt1  : Int64 := j_X0_begin_vt
def j_X2_deal_vp1  : Int32 := j_X0_begin_vp
def j_X2_deal_vk1  : Int32 := j_X0_begin_vk
def j_X2_deal_vg1  : Int32 := j_X0_begin_vg
def j_X2_deal_vh2 (vrow : Nat → Int32) (x0 : Int64) : Int64 := j_X0_begin_vh (j_X2_handFrom (j_X2_putTurnedUpLast_vrow (j_X2_shuffle_vrow vrow x0)) 6)
def j_X2_deal_vt2  : Int64 := j_X0_begin_vt
def j_X2_deal_vp2  : Int32 := j_X0_begin_vp
def j_X2_deal_vk2  : Int32 := j_X0_begin_vk
def j_X2_deal_vg2  : Int32 := j_X0_begin_vg
theorem inX2_deal_X2 : ∀ w ∈ u_ws RX2 TX2 11, w ∈ wsX2_deal := by decide +kernel
set_option maxRecDepth 100000 in
set_option maxHeartbeats 8000000 in
theorem c_X2_deal {l : Launch} {D : va_G} (a0 : Nat) (aR : Nat) (aF : Nat) (aG : Nat) (cI : ClassId) (vrow : Nat → Int32) (vdrawn : Int32) (vtr : Int32) (vled : Int32) (vmov : Int32) (vw1 : Int32) (vw2 : Int32) (veo : Option Nat) (veb : Int32) (vh1 : Int64) (vt1 : Int64) (vp1 : Int32) (vk1 : Int32) (vg1 : Int32) (vh2 : Int64) (vt2 : Int64) (vp2 : Int32) (vk2 : Int32) (vg2 : Int32) (x0 : Int64) : jWi l yX2_deal wsX2_deal rX2_deal D [.ref a0, .long x0] (jC a0 aR aF aG cI vrow vdrawn vtr vled vmov vw1 vw2 veo veb vh1 vt1 vp1 vk1 vg1 vh2 vt2 vp2 vk2 vg2) [(cI, .int)] (j_X2_deal vrow x0) (jC a0 aR aF aG cI (j_X2_deal_vrow vrow x0) (j_X2_deal_vdrawn) (j_X2_deal_vtr vrow x0) (j_X2_deal_vled) (j_X2_deal_vmov) vw1 vw2 veo (j_X2_deal_veb) (j_X2_deal_vh1 vrow x0) (j_X2_deal_vt1) (j_X2_deal_vp1) (j_X2_deal_vk1) (j_X2_deal_vg1) (j_X2_deal_vh2 vrow x0) (j_X2_deal_vt2) (j_X2_deal_vp2) (j_X2_deal_vk2) (j_X2_deal_vg2)) := by
  refine jW_of (QQ := fun A => (jQi D (j_X2_deal vrow x0) (jC a0 aR aF aG cI (j_X2_deal_vrow vrow x0) (j_X2_deal_vdrawn) (j_X2_deal_vtr vrow x0) (j_X2_deal_vled) (j_X2_deal_vmov) vw1 vw2 veo (j_X2_deal_veb) (j_X2_deal_vh1 vrow x0) (j_X2_deal_vt1) (j_X2_deal_vp1) (j_X2_deal_vk1) (j_X2_deal_vg1) (j_X2_deal_vh2 vrow x0) (j_X2_deal_vt2) (j_X2_deal_vp2) (j_X2_deal_vk2) (j_X2_deal_vg2)) [(cI, .int)] A)) (cc := cX2_deal) (maxL := 4) (ret := (some .int)) (by decide) rfl (Nat.le_of_ble_eq_true rfl) ?_
  intro p e s m below meth c ls A S hr hlocks hini hP hK hN hD hS hA hl
  obtain ⟨hx, hb, hml, hown, hts⟩ := id S
  have hl : lv_has ls 4 [(0, .ref a0), (1, .long x0)] := hl
  refine lv_aload_n hx hb dX2_deal_0 rfl (lv_at hl 0 rfl) ?_
  refine lv_lload_n hx hb dX2_deal_1 rfl (lv_at hl 1 rfl) ?_
  refine jw_callVv (n := 1) (C := RX2) (As := [.long x0]) (rest := []) (wr := []) (wn := [(a0, .inr (2, [.ref aR, .ref aF, .ref aG, .int vdrawn, .int vtr, .int vled, .int vmov, .int vw1, .int vw2, va_rf veo, .int veb])), (aF, .inr (0, [.long vh1, .long vt1, .int vp1, .int vk1, .int vg1])), (aG, .inr (0, [.long vh2, .long vt2, .int vp2, .int vk2, .int vg2])), (aR, .inl (cI, 42, .inl (j_X2_shuffle_vrow vrow x0)))]) S (c_X2_shuffle a0 aR aF aG cI vrow vdrawn vtr vled vmov vw1 vw2 veo veb vh1 vt1 vp1 vk1 vg1 vh2 vt2 vp2 vk2 vg2 x0) gX2_deal_X2_shuffle rfl (by decide +kernel) rfl ⟨⟨rfl, rfl⟩, ⟨Nat.le_of_ble_eq_true rfl, Nat.le_of_ble_eq_true rfl⟩, Nat.le_of_ble_eq_true rfl, Nat.le_of_ble_eq_true rfl⟩ hP hK hN hD hS hA [0, 1, 2, 3] [] [0, 1, 2, 3] [0] rfl rfl ⟨rfl, rfl, rfl⟩ (by decide) rfl rfl 0 2 rfl rfl rfl (lv_nil hl) rfl (Nat.le_of_ble_eq_true rfl) dX2_deal_2 (fun H locs hP hD hS => ?_)
  refine lv_aload_n hx hb dX2_deal_5 rfl (lv_at hl 0 rfl) ?_
  refine va_get (D := D) (ci := 2) (v := .ref aR) (C := RX2) (T := TX2) (N := 11) hx hb hts inX2_deal_X2 hown hK hP 0 rfl rfl 0 (by decide) (hts (.fieldLink RX2 9 "ArchivistTricks" "row" "[I") (by decide +kernel)) (fun _ h9 => h9) rfl dX2_deal_6 ?_
  refine lv_bipush (v := 12) hx hb dX2_deal_9 (by decide) ?_
  refine va_iald hx hb hK hP 3 0 rfl rfl (i := 12) (by unfold vp_in; decide) dX2_deal_11 ?_
  refine lv_istore_n (lv' := [(3, .int ((j_X2_shuffle_vrow vrow x0) (12 : Int32).toNatClampNeg)), (0, .ref a0), (1, .long x0)]) hx hb dX2_deal_12 rfl hl (by decide) rfl (fun ls hl => ?_)
  refine lv_aload_n hx hb dX2_deal_13 rfl (lv_at hl 1 rfl) ?_
  refine jw_callVv (n := 0) (C := RX2) (As := []) (rest := []) (wr := []) (wn := [(a0, .inr (2, [.ref aR, .ref aF, .ref aG, .int vdrawn, .int vtr, .int vled, .int vmov, .int vw1, .int vw2, va_rf veo, .int veb])), (aF, .inr (0, [.long vh1, .long vt1, .int vp1, .int vk1, .int vg1])), (aG, .inr (0, [.long vh2, .long vt2, .int vp2, .int vk2, .int vg2])), (aR, .inl (cI, 42, .inl (j_X2_putTurnedUpLast_vrow (j_X2_shuffle_vrow vrow x0))))]) S (c_X2_putTurnedUpLast a0 aR aF aG cI (j_X2_shuffle_vrow vrow x0) vdrawn vtr vled vmov vw1 vw2 veo veb vh1 vt1 vp1 vk1 vg1 vh2 vt2 vp2 vk2 vg2) gX2_deal_X2_putTurnedUpLast rfl (by decide +kernel) rfl ⟨⟨rfl, rfl⟩, ⟨Nat.le_of_ble_eq_true rfl, Nat.le_of_ble_eq_true rfl⟩, Nat.le_of_ble_eq_true rfl, Nat.le_of_ble_eq_true rfl⟩ hP hK hN hD hS hA [0, 1, 2, 3] [] [0, 1, 2, 3] [0] rfl rfl ⟨rfl, rfl, rfl⟩ (by decide) rfl rfl 0 2 rfl rfl rfl (lv_nil hl) rfl (Nat.le_of_ble_eq_true rfl) dX2_deal_14 (fun H locs hP hD hS => ?_)
  refine lv_aload_n hx hb dX2_deal_17 rfl (lv_at hl 1 rfl) ?_
  refine va_get (D := D) (ci := 2) (v := .ref aF) (C := RX2) (T := TX2) (N := 11) hx hb hts inX2_deal_X2 hown hK hP 0 rfl rfl 1 (by decide) (hts (.fieldLink RX2 16 "ArchivistTricks" "first" "LArchivistTricks$Archivist;") (by decide +kernel)) (fun _ h9 => h9) rfl dX2_deal_18 ?_
  refine lv_aload_n hx hb dX2_deal_21 rfl (lv_at hl 1 rfl) ?_
  refine lv_iconst (v := 0) hx hb dX2_deal_22 (by decide) ?_
  refine jr_callV (n := 1) (C := RX2) (As := [.int 0]) (rest := [.ref aF]) S (c_X2_handFrom a0 aR aF aG cI (j_X2_putTurnedUpLast_vrow (j_X2_shuffle_vrow vrow x0)) vdrawn vtr vled vmov vw1 vw2 veo veb vh1 vt1 vp1 vk1 vg1 vh2 vt2 vp2 vk2 vg2 0) gX2_deal_X2_handFrom rfl (by decide +kernel) rfl ⟨⟨rfl, rfl⟩, ⟨Nat.le_of_ble_eq_true rfl, Nat.le_of_ble_eq_true rfl⟩, Nat.le_of_ble_eq_true rfl, Nat.le_of_ble_eq_true rfl⟩ hP hK hN [0, 1, 2, 3] [0] rfl rfl 0 2 rfl rfl rfl (lv_nil hl) rfl (Nat.le_of_ble_eq_true rfl) dX2_deal_23 ?_
  refine jw_callVv (n := 1) (C := RX0) (As := [.long (j_X2_handFrom (j_X2_putTurnedUpLast_vrow (j_X2_shuffle_vrow vrow x0)) 0)]) (rest := []) (wr := [(a0, .inr (2, [.ref aR, .ref aF, .ref aG, .int vdrawn, .int vtr, .int vled, .int vmov, .int vw1, .int vw2, va_rf veo, .int veb])), (aG, .inr (0, [.long vh2, .long vt2, .int vp2, .int vk2, .int vg2])), (aR, .inl (cI, 42, .inl (j_X2_putTurnedUpLast_vrow (j_X2_shuffle_vrow vrow x0))))]) (wn := [(a0, .inr (2, [.ref aR, .ref aF, .ref aG, .int vdrawn, .int vtr, .int vled, .int vmov, .int vw1, .int vw2, va_rf veo, .int veb])), (aF, .inr (0, [.long (j_X0_begin_vh (j_X2_handFrom (j_X2_putTurnedUpLast_vrow (j_X2_shuffle_vrow vrow x0)) 0)), .long j_X0_begin_vt, .int j_X0_begin_vp, .int j_X0_begin_vk, .int j_X0_begin_vg])), (aG, .inr (0, [.long vh2, .long vt2, .int vp2, .int vk2, .int vg2])), (aR, .inl (cI, 42, .inl (j_X2_putTurnedUpLast_vrow (j_X2_shuffle_vrow vrow x0))))]) S (c_X0_begin aF vh1 vt1 vp1 vk1 vg1 (j_X2_handFrom (j_X2_putTurnedUpLast_vrow (j_X2_shuffle_vrow vrow x0)) 0)) gX2_deal_X0_begin rfl (by decide +kernel) rfl ⟨⟨rfl, rfl⟩, ⟨Nat.le_of_ble_eq_true rfl, Nat.le_of_ble_eq_true rfl⟩, Nat.le_of_ble_eq_true rfl, Nat.le_of_ble_eq_true rfl⟩ hP hK hN hD hS hA [1] [0, 2, 3] [0, 3, 1, 2] [] rfl rfl ⟨rfl, rfl, rfl⟩ (by decide) rfl rfl 0 0 rfl rfl rfl (lv_nil hl) rfl (Nat.le_of_ble_eq_true rfl) dX2_deal_26 (fun H locs hP hD hS => ?_)
  refine lv_aload_n hx hb dX2_deal_29 rfl (lv_at hl 1 rfl) ?_
  refine va_get (D := D) (ci := 2) (v := .ref aG) (C := RX2) (T := TX2) (N := 11) hx hb hts inX2_deal_X2 hown hK hP 0 rfl rfl 2 (by decide) (hts (.fieldLink RX2 20 "ArchivistTricks" "second" "LArchivistTricks$Archivist;") (by decide +kernel)) (fun _ h9 => h9) rfl dX2_deal_30 ?_
  refine lv_aload_n hx hb dX2_deal_33 rfl (lv_at hl 1 rfl) ?_
  refine lv_bipush (v := 6) hx hb dX2_deal_34 (by decide) ?_
  refine jr_callV (n := 1) (C := RX2) (As := [.int 6]) (rest := [.ref aG]) S (c_X2_handFrom a0 aR aF aG cI (j_X2_putTurnedUpLast_vrow (j_X2_shuffle_vrow vrow x0)) vdrawn vtr vled vmov vw1 vw2 veo veb (j_X0_begin_vh (j_X2_handFrom (j_X2_putTurnedUpLast_vrow (j_X2_shuffle_vrow vrow x0)) 0)) j_X0_begin_vt j_X0_begin_vp j_X0_begin_vk j_X0_begin_vg vh2 vt2 vp2 vk2 vg2 6) gX2_deal_X2_handFrom rfl (by decide +kernel) rfl ⟨⟨rfl, rfl⟩, ⟨Nat.le_of_ble_eq_true rfl, Nat.le_of_ble_eq_true rfl⟩, Nat.le_of_ble_eq_true rfl, Nat.le_of_ble_eq_true rfl⟩ hP hK hN [0, 1, 2, 3] [0] rfl rfl 0 2 rfl rfl rfl (lv_nil hl) rfl (Nat.le_of_ble_eq_true rfl) dX2_deal_36 ?_
  refine jw_callVv (n := 1) (C := RX0) (As := [.long (j_X2_handFrom (j_X2_putTurnedUpLast_vrow (j_X2_shuffle_vrow vrow x0)) 6)]) (rest := []) (wr := [(a0, .inr (2, [.ref aR, .ref aF, .ref aG, .int vdrawn, .int vtr, .int vled, .int vmov, .int vw1, .int vw2, va_rf veo, .int veb])), (aF, .inr (0, [.long (j_X0_begin_vh (j_X2_handFrom (j_X2_putTurnedUpLast_vrow (j_X2_shuffle_vrow vrow x0)) 0)), .long j_X0_begin_vt, .int j_X0_begin_vp, .int j_X0_begin_vk, .int j_X0_begin_vg])), (aR, .inl (cI, 42, .inl (j_X2_putTurnedUpLast_vrow (j_X2_shuffle_vrow vrow x0))))]) (wn := [(a0, .inr (2, [.ref aR, .ref aF, .ref aG, .int vdrawn, .int vtr, .int vled, .int vmov, .int vw1, .int vw2, va_rf veo, .int veb])), (aF, .inr (0, [.long (j_X0_begin_vh (j_X2_handFrom (j_X2_putTurnedUpLast_vrow (j_X2_shuffle_vrow vrow x0)) 0)), .long j_X0_begin_vt, .int j_X0_begin_vp, .int j_X0_begin_vk, .int j_X0_begin_vg])), (aG, .inr (0, [.long (j_X0_begin_vh (j_X2_handFrom (j_X2_putTurnedUpLast_vrow (j_X2_shuffle_vrow vrow x0)) 6)), .long j_X0_begin_vt, .int j_X0_begin_vp, .int j_X0_begin_vk, .int j_X0_begin_vg])), (aR, .inl (cI, 42, .inl (j_X2_putTurnedUpLast_vrow (j_X2_shuffle_vrow vrow x0))))]) S (c_X0_begin aG vh2 vt2 vp2 vk2 vg2 (j_X2_handFrom (j_X2_putTurnedUpLast_vrow (j_X2_shuffle_vrow vrow x0)) 6)) gX2_deal_X0_begin rfl (by decide +kernel) rfl ⟨⟨rfl, rfl⟩, ⟨Nat.le_of_ble_eq_true rfl, Nat.le_of_ble_eq_true rfl⟩, Nat.le_of_ble_eq_true rfl, Nat.le_of_ble_eq_true rfl⟩ hP hK hN hD hS hA [2] [0, 1, 3] [0, 1, 3, 2] [] rfl rfl ⟨rfl, rfl, rfl⟩ (by decide) rfl rfl 0 0 rfl rfl rfl (lv_nil hl) rfl (Nat.le_of_ble_eq_true rfl) dX2_deal_39 (fun H locs hP hD hS => ?_)
  refine lv_aload_n hx hb dX2_deal_42 rfl (lv_at hl 1 rfl) ?_
  refine lv_bipush (v := 12) hx hb dX2_deal_43 (by decide) ?_
  refine va_put (D := D) (ci := 2) (v := .int 12) (ty := .int) (C := RX2) (T := TX2) (N := 11) hx hb hts inX2_deal_X2 tyX2 tyX2_ok nmX2 hown hK hP hD hS 0 rfl rfl 3 (by decide) (hts (.fieldLink RX2 23 "ArchivistTricks" "drawn" "I") (by decide +kernel)) (fun _ h9 => h9) rfl (by decide +kernel) rfl rfl (Nat.le_of_ble_eq_true rfl) dX2_deal_45 (fun H locs hP hD hS => ?_)
  have hP : va_P D vwCl [(a0, .inr (2, [.ref aR, .ref aF, .ref aG, .int 12, .int vtr, .int vled, .int vmov, .int vw1, .int vw2, va_rf veo, .int veb])), (aF, .inr (0, [.long (j_X0_begin_vh (j_X2_handFrom (j_X2_putTurnedUpLast_vrow (j_X2_shuffle_vrow vrow x0)) 0)), .long j_X0_begin_vt, .int j_X0_begin_vp, .int j_X0_begin_vk, .int j_X0_begin_vg])), (aG, .inr (0, [.long (j_X0_begin_vh (j_X2_handFrom (j_X2_putTurnedUpLast_vrow (j_X2_shuffle_vrow vrow x0)) 6)), .long j_X0_begin_vt, .int j_X0_begin_vp, .int j_X0_begin_vk, .int j_X0_begin_vg])), (aR, .inl (cI, 42, .inl (j_X2_putTurnedUpLast_vrow (j_X2_shuffle_vrow vrow x0))))] H := hP
  have hD : va_D A [(a0, .inr (2, [.ref aR, .ref aF, .ref aG, .int 12, .int vtr, .int vled, .int vmov, .int vw1, .int vw2, va_rf veo, .int veb])), (aF, .inr (0, [.long (j_X0_begin_vh (j_X2_handFrom (j_X2_putTurnedUpLast_vrow (j_X2_shuffle_vrow vrow x0)) 0)), .long j_X0_begin_vt, .int j_X0_begin_vp, .int j_X0_begin_vk, .int j_X0_begin_vg])), (aG, .inr (0, [.long (j_X0_begin_vh (j_X2_handFrom (j_X2_putTurnedUpLast_vrow (j_X2_shuffle_vrow vrow x0)) 6)), .long j_X0_begin_vt, .int j_X0_begin_vp, .int j_X0_begin_vk, .int j_X0_begin_vg])), (aR, .inl (cI, 42, .inl (j_X2_putTurnedUpLast_vrow (j_X2_shuffle_vrow vrow x0))))] := hD
  refine lv_aload_n hx hb dX2_deal_48 rfl (lv_at hl 1 rfl) ?_
  refine lv_iload_n hx hb dX2_deal_49 rfl (lv_at hl 0 rfl) ?_
  refine jr_callS (n := 1) (As := [.int ((j_X2_shuffle_vrow vrow x0) (12 : Int32).toNatClampNeg)]) (rest := [.ref a0]) S (c_X2_isMildew ((j_X2_shuffle_vrow vrow x0) (12 : Int32).toNatClampNeg)) gX2_deal_X2_isMildew rfl (by decide +kernel) rfl ⟨⟨rfl, rfl⟩, ⟨Nat.le_of_ble_eq_true rfl, Nat.le_of_ble_eq_true rfl⟩, Nat.le_of_ble_eq_true rfl, Nat.le_of_ble_eq_true rfl⟩ hP hK hN [] [] rfl rfl (lv_nil hl) rfl (Nat.le_of_ble_eq_true rfl) dX2_deal_50 ?_
  refine lv_if_eq (tgt := 60) hx hb dX2_deal_53 (by decide) (fun c_1 => ?_) (fun c_1 => ?_)
  · skip
    refine lv_iload_n hx hb dX2_deal_60 rfl (lv_at hl 0 rfl) ?_
    refine lv_bipush (v := 10) hx hb dX2_deal_61 (by decide) ?_
    refine lv_idiv hx hb dX2_deal_63 (by decide) ?_
    refine va_put (D := D) (ci := 2) (v := .int (((j_X2_shuffle_vrow vrow x0) (12 : Int32).toNatClampNeg) / 10)) (ty := .int) (C := RX2) (T := TX2) (N := 11) hx hb hts inX2_deal_X2 tyX2 tyX2_ok nmX2 hown hK hP hD hS 0 rfl rfl 4 (by decide) (hts (.fieldLink RX2 27 "ArchivistTricks" "trumpProvenance" "I") (by decide +kernel)) (fun _ h9 => h9) rfl (by decide +kernel) rfl rfl (Nat.le_of_ble_eq_true rfl) dX2_deal_64 (fun H locs hP hD hS => ?_)
    have hP : va_P D vwCl [(a0, .inr (2, [.ref aR, .ref aF, .ref aG, .int 12, .int (((j_X2_shuffle_vrow vrow x0) (12 : Int32).toNatClampNeg) / 10), .int vled, .int vmov, .int vw1, .int vw2, va_rf veo, .int veb])), (aF, .inr (0, [.long (j_X0_begin_vh (j_X2_handFrom (j_X2_putTurnedUpLast_vrow (j_X2_shuffle_vrow vrow x0)) 0)), .long j_X0_begin_vt, .int j_X0_begin_vp, .int j_X0_begin_vk, .int j_X0_begin_vg])), (aG, .inr (0, [.long (j_X0_begin_vh (j_X2_handFrom (j_X2_putTurnedUpLast_vrow (j_X2_shuffle_vrow vrow x0)) 6)), .long j_X0_begin_vt, .int j_X0_begin_vp, .int j_X0_begin_vk, .int j_X0_begin_vg])), (aR, .inl (cI, 42, .inl (j_X2_putTurnedUpLast_vrow (j_X2_shuffle_vrow vrow x0))))] H := hP
    have hD : va_D A [(a0, .inr (2, [.ref aR, .ref aF, .ref aG, .int 12, .int (((j_X2_shuffle_vrow vrow x0) (12 : Int32).toNatClampNeg) / 10), .int vled, .int vmov, .int vw1, .int vw2, va_rf veo, .int veb])), (aF, .inr (0, [.long (j_X0_begin_vh (j_X2_handFrom (j_X2_putTurnedUpLast_vrow (j_X2_shuffle_vrow vrow x0)) 0)), .long j_X0_begin_vt, .int j_X0_begin_vp, .int j_X0_begin_vk, .int j_X0_begin_vg])), (aG, .inr (0, [.long (j_X0_begin_vh (j_X2_handFrom (j_X2_putTurnedUpLast_vrow (j_X2_shuffle_vrow vrow x0)) 6)), .long j_X0_begin_vt, .int j_X0_begin_vp, .int j_X0_begin_vk, .int j_X0_begin_vg])), (aR, .inl (cI, 42, .inl (j_X2_putTurnedUpLast_vrow (j_X2_shuffle_vrow vrow x0))))] := hD
    refine lv_aload_n hx hb dX2_deal_67 rfl (lv_at hl 1 rfl) ?_
    refine lv_iconst (v := (-1)) hx hb dX2_deal_68 (by decide) ?_
    refine va_put (D := D) (ci := 2) (v := .int (-1)) (ty := .int) (C := RX2) (T := TX2) (N := 11) hx hb hts inX2_deal_X2 tyX2 tyX2_ok nmX2 hown hK hP hD hS 0 rfl rfl 5 (by decide) (hts (.fieldLink RX2 30 "ArchivistTricks" "ledCard" "I") (by decide +kernel)) (fun _ h9 => h9) rfl (by decide +kernel) rfl rfl (Nat.le_of_ble_eq_true rfl) dX2_deal_69 (fun H locs hP hD hS => ?_)
    have hP : va_P D vwCl [(a0, .inr (2, [.ref aR, .ref aF, .ref aG, .int 12, .int (((j_X2_shuffle_vrow vrow x0) (12 : Int32).toNatClampNeg) / 10), .int (-1), .int vmov, .int vw1, .int vw2, va_rf veo, .int veb])), (aF, .inr (0, [.long (j_X0_begin_vh (j_X2_handFrom (j_X2_putTurnedUpLast_vrow (j_X2_shuffle_vrow vrow x0)) 0)), .long j_X0_begin_vt, .int j_X0_begin_vp, .int j_X0_begin_vk, .int j_X0_begin_vg])), (aG, .inr (0, [.long (j_X0_begin_vh (j_X2_handFrom (j_X2_putTurnedUpLast_vrow (j_X2_shuffle_vrow vrow x0)) 6)), .long j_X0_begin_vt, .int j_X0_begin_vp, .int j_X0_begin_vk, .int j_X0_begin_vg])), (aR, .inl (cI, 42, .inl (j_X2_putTurnedUpLast_vrow (j_X2_shuffle_vrow vrow x0))))] H := hP
    have hD : va_D A [(a0, .inr (2, [.ref aR, .ref aF, .ref aG, .int 12, .int (((j_X2_shuffle_vrow vrow x0) (12 : Int32).toNatClampNeg) / 10), .int (-1), .int vmov, .int vw1, .int vw2, va_rf veo, .int veb])), (aF, .inr (0, [.long (j_X0_begin_vh (j_X2_handFrom (j_X2_putTurnedUpLast_vrow (j_X2_shuffle_vrow vrow x0)) 0)), .long j_X0_begin_vt, .int j_X0_begin_vp, .int j_X0_begin_vk, .int j_X0_begin_vg])), (aG, .inr (0, [.long (j_X0_begin_vh (j_X2_handFrom (j_X2_putTurnedUpLast_vrow (j_X2_shuffle_vrow vrow x0)) 6)), .long j_X0_begin_vt, .int j_X0_begin_vp, .int j_X0_begin_vk, .int j_X0_begin_vg])), (aR, .inl (cI, 42, .inl (j_X2_putTurnedUpLast_vrow (j_X2_shuffle_vrow vrow x0))))] := hD
    refine lv_aload_n hx hb dX2_deal_72 rfl (lv_at hl 1 rfl) ?_
    refine lv_iconst (v := 0) hx hb dX2_deal_73 (by decide) ?_
    refine va_put (D := D) (ci := 2) (v := .int 0) (ty := .int) (C := RX2) (T := TX2) (N := 11) hx hb hts inX2_deal_X2 tyX2 tyX2_ok nmX2 hown hK hP hD hS 0 rfl rfl 6 (by decide) (hts (.fieldLink RX2 33 "ArchivistTricks" "mover" "I") (by decide +kernel)) (fun _ h9 => h9) rfl (by decide +kernel) rfl rfl (Nat.le_of_ble_eq_true rfl) dX2_deal_74 (fun H locs hP hD hS => ?_)
    have hP : va_P D vwCl [(a0, .inr (2, [.ref aR, .ref aF, .ref aG, .int 12, .int (((j_X2_shuffle_vrow vrow x0) (12 : Int32).toNatClampNeg) / 10), .int (-1), .int 0, .int vw1, .int vw2, va_rf veo, .int veb])), (aF, .inr (0, [.long (j_X0_begin_vh (j_X2_handFrom (j_X2_putTurnedUpLast_vrow (j_X2_shuffle_vrow vrow x0)) 0)), .long j_X0_begin_vt, .int j_X0_begin_vp, .int j_X0_begin_vk, .int j_X0_begin_vg])), (aG, .inr (0, [.long (j_X0_begin_vh (j_X2_handFrom (j_X2_putTurnedUpLast_vrow (j_X2_shuffle_vrow vrow x0)) 6)), .long j_X0_begin_vt, .int j_X0_begin_vp, .int j_X0_begin_vk, .int j_X0_begin_vg])), (aR, .inl (cI, 42, .inl (j_X2_putTurnedUpLast_vrow (j_X2_shuffle_vrow vrow x0))))] H := hP
    have hD : va_D A [(a0, .inr (2, [.ref aR, .ref aF, .ref aG, .int 12, .int (((j_X2_shuffle_vrow vrow x0) (12 : Int32).toNatClampNeg) / 10), .int (-1), .int 0, .int vw1, .int vw2, va_rf veo, .int veb])), (aF, .inr (0, [.long (j_X0_begin_vh (j_X2_handFrom (j_X2_putTurnedUpLast_vrow (j_X2_shuffle_vrow vrow x0)) 0)), .long j_X0_begin_vt, .int j_X0_begin_vp, .int j_X0_begin_vk, .int j_X0_begin_vg])), (aG, .inr (0, [.long (j_X0_begin_vh (j_X2_handFrom (j_X2_putTurnedUpLast_vrow (j_X2_shuffle_vrow vrow x0)) 6)), .long j_X0_begin_vt, .int j_X0_begin_vp, .int j_X0_begin_vk, .int j_X0_begin_vg])), (aR, .inl (cI, 42, .inl (j_X2_putTurnedUpLast_vrow (j_X2_shuffle_vrow vrow x0))))] := hD
    refine lv_aload_n hx hb dX2_deal_77 rfl (lv_at hl 1 rfl) ?_
    refine lv_iconst (v := 0) hx hb dX2_deal_78 (by decide) ?_
    refine va_put (D := D) (ci := 2) (v := .int 0) (ty := .boolean) (C := RX2) (T := TX2) (N := 11) hx hb hts inX2_deal_X2 tyX2 tyX2_ok nmX2 hown hK hP hD hS 0 rfl rfl 10 (by decide) (hts (.fieldLink RX2 46 "ArchivistTricks" "endingBegun" "Z") (by decide +kernel)) (fun _ h9 => h9) rfl (by decide +kernel) rfl rfl (Nat.le_of_ble_eq_true rfl) dX2_deal_79 (fun H locs hP hD hS => ?_)
    have hP : va_P D vwCl [(a0, .inr (2, [.ref aR, .ref aF, .ref aG, .int 12, .int (((j_X2_shuffle_vrow vrow x0) (12 : Int32).toNatClampNeg) / 10), .int (-1), .int 0, .int vw1, .int vw2, va_rf veo, .int 0])), (aF, .inr (0, [.long (j_X0_begin_vh (j_X2_handFrom (j_X2_putTurnedUpLast_vrow (j_X2_shuffle_vrow vrow x0)) 0)), .long j_X0_begin_vt, .int j_X0_begin_vp, .int j_X0_begin_vk, .int j_X0_begin_vg])), (aG, .inr (0, [.long (j_X0_begin_vh (j_X2_handFrom (j_X2_putTurnedUpLast_vrow (j_X2_shuffle_vrow vrow x0)) 6)), .long j_X0_begin_vt, .int j_X0_begin_vp, .int j_X0_begin_vk, .int j_X0_begin_vg])), (aR, .inl (cI, 42, .inl (j_X2_putTurnedUpLast_vrow (j_X2_shuffle_vrow vrow x0))))] H := hP
    have hD : va_D A [(a0, .inr (2, [.ref aR, .ref aF, .ref aG, .int 12, .int (((j_X2_shuffle_vrow vrow x0) (12 : Int32).toNatClampNeg) / 10), .int (-1), .int 0, .int vw1, .int vw2, va_rf veo, .int 0])), (aF, .inr (0, [.long (j_X0_begin_vh (j_X2_handFrom (j_X2_putTurnedUpLast_vrow (j_X2_shuffle_vrow vrow x0)) 0)), .long j_X0_begin_vt, .int j_X0_begin_vp, .int j_X0_begin_vk, .int j_X0_begin_vg])), (aG, .inr (0, [.long (j_X0_begin_vh (j_X2_handFrom (j_X2_putTurnedUpLast_vrow (j_X2_shuffle_vrow vrow x0)) 6)), .long j_X0_begin_vt, .int j_X0_begin_vp, .int j_X0_begin_vk, .int j_X0_begin_vg])), (aR, .inl (cI, 42, .inl (j_X2_putTurnedUpLast_vrow (j_X2_shuffle_vrow vrow x0))))] := hD
    refine lv_aload_n hx hb dX2_deal_82 rfl (lv_at hl 1 rfl) ?_
    refine va_get (D := D) (ci := 2) (v := .int (((j_X2_shuffle_vrow vrow x0) (12 : Int32).toNatClampNeg) / 10)) (C := RX2) (T := TX2) (N := 11) hx hb hts inX2_deal_X2 hown hK hP 0 rfl rfl 4 (by decide) (hts (.fieldLink RX2 27 "ArchivistTricks" "trumpProvenance" "I") (by decide +kernel)) (fun _ h9 => h9) rfl dX2_deal_83 ?_
    exact jw_iret hx hb hr hlocks hK hP hD hS dX2_deal_86 (by  simp only [j_X2_deal, if_pos c_1]) (by  simp only [j_X2_deal_vrow, j_X2_deal_vdrawn, j_X2_deal_vtr, j_X2_deal_vled, j_X2_deal_vmov, j_X2_deal_veb, j_X2_deal_vh1, j_X2_deal_vt1, j_X2_deal_vp1, j_X2_deal_vk1, j_X2_deal_vg1, j_X2_deal_vh2, j_X2_deal_vt2, j_X2_deal_vp2, j_X2_deal_vk2, j_X2_deal_vg2, if_pos c_1])
  · skip
    refine lv_iconst (v := 0) hx hb dX2_deal_56 (by decide) ?_
    refine lv_goto (tgt := 64) hx hb dX2_deal_57 (by decide) ?_
    refine va_put (D := D) (ci := 2) (v := .int 0) (ty := .int) (C := RX2) (T := TX2) (N := 11) hx hb hts inX2_deal_X2 tyX2 tyX2_ok nmX2 hown hK hP hD hS 0 rfl rfl 4 (by decide) (hts (.fieldLink RX2 27 "ArchivistTricks" "trumpProvenance" "I") (by decide +kernel)) (fun _ h9 => h9) rfl (by decide +kernel) rfl rfl (Nat.le_of_ble_eq_true rfl) dX2_deal_64 (fun H locs hP hD hS => ?_)
    have hP : va_P D vwCl [(a0, .inr (2, [.ref aR, .ref aF, .ref aG, .int 12, .int 0, .int vled, .int vmov, .int vw1, .int vw2, va_rf veo, .int veb])), (aF, .inr (0, [.long (j_X0_begin_vh (j_X2_handFrom (j_X2_putTurnedUpLast_vrow (j_X2_shuffle_vrow vrow x0)) 0)), .long j_X0_begin_vt, .int j_X0_begin_vp, .int j_X0_begin_vk, .int j_X0_begin_vg])), (aG, .inr (0, [.long (j_X0_begin_vh (j_X2_handFrom (j_X2_putTurnedUpLast_vrow (j_X2_shuffle_vrow vrow x0)) 6)), .long j_X0_begin_vt, .int j_X0_begin_vp, .int j_X0_begin_vk, .int j_X0_begin_vg])), (aR, .inl (cI, 42, .inl (j_X2_putTurnedUpLast_vrow (j_X2_shuffle_vrow vrow x0))))] H := hP
    have hD : va_D A [(a0, .inr (2, [.ref aR, .ref aF, .ref aG, .int 12, .int 0, .int vled, .int vmov, .int vw1, .int vw2, va_rf veo, .int veb])), (aF, .inr (0, [.long (j_X0_begin_vh (j_X2_handFrom (j_X2_putTurnedUpLast_vrow (j_X2_shuffle_vrow vrow x0)) 0)), .long j_X0_begin_vt, .int j_X0_begin_vp, .int j_X0_begin_vk, .int j_X0_begin_vg])), (aG, .inr (0, [.long (j_X0_begin_vh (j_X2_handFrom (j_X2_putTurnedUpLast_vrow (j_X2_shuffle_vrow vrow x0)) 6)), .long j_X0_begin_vt, .int j_X0_begin_vp, .int j_X0_begin_vk, .int j_X0_begin_vg])), (aR, .inl (cI, 42, .inl (j_X2_putTurnedUpLast_vrow (j_X2_shuffle_vrow vrow x0))))] := hD
    refine lv_aload_n hx hb dX2_deal_67 rfl (lv_at hl 1 rfl) ?_
    refine lv_iconst (v := (-1)) hx hb dX2_deal_68 (by decide) ?_
    refine va_put (D := D) (ci := 2) (v := .int (-1)) (ty := .int) (C := RX2) (T := TX2) (N := 11) hx hb hts inX2_deal_X2 tyX2 tyX2_ok nmX2 hown hK hP hD hS 0 rfl rfl 5 (by decide) (hts (.fieldLink RX2 30 "ArchivistTricks" "ledCard" "I") (by decide +kernel)) (fun _ h9 => h9) rfl (by decide +kernel) rfl rfl (Nat.le_of_ble_eq_true rfl) dX2_deal_69 (fun H locs hP hD hS => ?_)
    have hP : va_P D vwCl [(a0, .inr (2, [.ref aR, .ref aF, .ref aG, .int 12, .int 0, .int (-1), .int vmov, .int vw1, .int vw2, va_rf veo, .int veb])), (aF, .inr (0, [.long (j_X0_begin_vh (j_X2_handFrom (j_X2_putTurnedUpLast_vrow (j_X2_shuffle_vrow vrow x0)) 0)), .long j_X0_begin_vt, .int j_X0_begin_vp, .int j_X0_begin_vk, .int j_X0_begin_vg])), (aG, .inr (0, [.long (j_X0_begin_vh (j_X2_handFrom (j_X2_putTurnedUpLast_vrow (j_X2_shuffle_vrow vrow x0)) 6)), .long j_X0_begin_vt, .int j_X0_begin_vp, .int j_X0_begin_vk, .int j_X0_begin_vg])), (aR, .inl (cI, 42, .inl (j_X2_putTurnedUpLast_vrow (j_X2_shuffle_vrow vrow x0))))] H := hP
    have hD : va_D A [(a0, .inr (2, [.ref aR, .ref aF, .ref aG, .int 12, .int 0, .int (-1), .int vmov, .int vw1, .int vw2, va_rf veo, .int veb])), (aF, .inr (0, [.long (j_X0_begin_vh (j_X2_handFrom (j_X2_putTurnedUpLast_vrow (j_X2_shuffle_vrow vrow x0)) 0)), .long j_X0_begin_vt, .int j_X0_begin_vp, .int j_X0_begin_vk, .int j_X0_begin_vg])), (aG, .inr (0, [.long (j_X0_begin_vh (j_X2_handFrom (j_X2_putTurnedUpLast_vrow (j_X2_shuffle_vrow vrow x0)) 6)), .long j_X0_begin_vt, .int j_X0_begin_vp, .int j_X0_begin_vk, .int j_X0_begin_vg])), (aR, .inl (cI, 42, .inl (j_X2_putTurnedUpLast_vrow (j_X2_shuffle_vrow vrow x0))))] := hD
    refine lv_aload_n hx hb dX2_deal_72 rfl (lv_at hl 1 rfl) ?_
    refine lv_iconst (v := 0) hx hb dX2_deal_73 (by decide) ?_
    refine va_put (D := D) (ci := 2) (v := .int 0) (ty := .int) (C := RX2) (T := TX2) (N := 11) hx hb hts inX2_deal_X2 tyX2 tyX2_ok nmX2 hown hK hP hD hS 0 rfl rfl 6 (by decide) (hts (.fieldLink RX2 33 "ArchivistTricks" "mover" "I") (by decide +kernel)) (fun _ h9 => h9) rfl (by decide +kernel) rfl rfl (Nat.le_of_ble_eq_true rfl) dX2_deal_74 (fun H locs hP hD hS => ?_)
    have hP : va_P D vwCl [(a0, .inr (2, [.ref aR, .ref aF, .ref aG, .int 12, .int 0, .int (-1), .int 0, .int vw1, .int vw2, va_rf veo, .int veb])), (aF, .inr (0, [.long (j_X0_begin_vh (j_X2_handFrom (j_X2_putTurnedUpLast_vrow (j_X2_shuffle_vrow vrow x0)) 0)), .long j_X0_begin_vt, .int j_X0_begin_vp, .int j_X0_begin_vk, .int j_X0_begin_vg])), (aG, .inr (0, [.long (j_X0_begin_vh (j_X2_handFrom (j_X2_putTurnedUpLast_vrow (j_X2_shuffle_vrow vrow x0)) 6)), .long j_X0_begin_vt, .int j_X0_begin_vp, .int j_X0_begin_vk, .int j_X0_begin_vg])), (aR, .inl (cI, 42, .inl (j_X2_putTurnedUpLast_vrow (j_X2_shuffle_vrow vrow x0))))] H := hP
    have hD : va_D A [(a0, .inr (2, [.ref aR, .ref aF, .ref aG, .int 12, .int 0, .int (-1), .int 0, .int vw1, .int vw2, va_rf veo, .int veb])), (aF, .inr (0, [.long (j_X0_begin_vh (j_X2_handFrom (j_X2_putTurnedUpLast_vrow (j_X2_shuffle_vrow vrow x0)) 0)), .long j_X0_begin_vt, .int j_X0_begin_vp, .int j_X0_begin_vk, .int j_X0_begin_vg])), (aG, .inr (0, [.long (j_X0_begin_vh (j_X2_handFrom (j_X2_putTurnedUpLast_vrow (j_X2_shuffle_vrow vrow x0)) 6)), .long j_X0_begin_vt, .int j_X0_begin_vp, .int j_X0_begin_vk, .int j_X0_begin_vg])), (aR, .inl (cI, 42, .inl (j_X2_putTurnedUpLast_vrow (j_X2_shuffle_vrow vrow x0))))] := hD
    refine lv_aload_n hx hb dX2_deal_77 rfl (lv_at hl 1 rfl) ?_
    refine lv_iconst (v := 0) hx hb dX2_deal_78 (by decide) ?_
    refine va_put (D := D) (ci := 2) (v := .int 0) (ty := .boolean) (C := RX2) (T := TX2) (N := 11) hx hb hts inX2_deal_X2 tyX2 tyX2_ok nmX2 hown hK hP hD hS 0 rfl rfl 10 (by decide) (hts (.fieldLink RX2 46 "ArchivistTricks" "endingBegun" "Z") (by decide +kernel)) (fun _ h9 => h9) rfl (by decide +kernel) rfl rfl (Nat.le_of_ble_eq_true rfl) dX2_deal_79 (fun H locs hP hD hS => ?_)
    have hP : va_P D vwCl [(a0, .inr (2, [.ref aR, .ref aF, .ref aG, .int 12, .int 0, .int (-1), .int 0, .int vw1, .int vw2, va_rf veo, .int 0])), (aF, .inr (0, [.long (j_X0_begin_vh (j_X2_handFrom (j_X2_putTurnedUpLast_vrow (j_X2_shuffle_vrow vrow x0)) 0)), .long j_X0_begin_vt, .int j_X0_begin_vp, .int j_X0_begin_vk, .int j_X0_begin_vg])), (aG, .inr (0, [.long (j_X0_begin_vh (j_X2_handFrom (j_X2_putTurnedUpLast_vrow (j_X2_shuffle_vrow vrow x0)) 6)), .long j_X0_begin_vt, .int j_X0_begin_vp, .int j_X0_begin_vk, .int j_X0_begin_vg])), (aR, .inl (cI, 42, .inl (j_X2_putTurnedUpLast_vrow (j_X2_shuffle_vrow vrow x0))))] H := hP
    have hD : va_D A [(a0, .inr (2, [.ref aR, .ref aF, .ref aG, .int 12, .int 0, .int (-1), .int 0, .int vw1, .int vw2, va_rf veo, .int 0])), (aF, .inr (0, [.long (j_X0_begin_vh (j_X2_handFrom (j_X2_putTurnedUpLast_vrow (j_X2_shuffle_vrow vrow x0)) 0)), .long j_X0_begin_vt, .int j_X0_begin_vp, .int j_X0_begin_vk, .int j_X0_begin_vg])), (aG, .inr (0, [.long (j_X0_begin_vh (j_X2_handFrom (j_X2_putTurnedUpLast_vrow (j_X2_shuffle_vrow vrow x0)) 6)), .long j_X0_begin_vt, .int j_X0_begin_vp, .int j_X0_begin_vk, .int j_X0_begin_vg])), (aR, .inl (cI, 42, .inl (j_X2_putTurnedUpLast_vrow (j_X2_shuffle_vrow vrow x0))))] := hD
    refine lv_aload_n hx hb dX2_deal_82 rfl (lv_at hl 1 rfl) ?_
    refine va_get (D := D) (ci := 2) (v := .int 0) (C := RX2) (T := TX2) (N := 11) hx hb hts inX2_deal_X2 hown hK hP 0 rfl rfl 4 (by decide) (hts (.fieldLink RX2 27 "ArchivistTricks" "trumpProvenance" "I") (by decide +kernel)) (fun _ h9 => h9) rfl dX2_deal_83 ?_
    exact jw_iret hx hb hr hlocks hK hP hD hS dX2_deal_86 (by  simp only [j_X2_deal, if_neg c_1]) (by  simp only [j_X2_deal_vrow, j_X2_deal_vdrawn, j_X2_deal_vtr, j_X2_deal_vled, j_X2_deal_vmov, j_X2_deal_veb, j_X2_deal_vh1, j_X2_deal_vt1, j_X2_deal_vp1, j_X2_deal_vk1, j_X2_deal_vg1, j_X2_deal_vh2, j_X2_deal_vt2, j_X2_deal_vp2, j_X2_deal_vk2, j_X2_deal_vg2, if_neg c_1])

abbrev rJ7_fill_53178 : Room := { frames := 0, cells := 0, slots := 0, locals := 0 }
def j_J7_fill_53178_vtab_5 (vtab : Nat → Int32) (x1 : Int32) : Nat → Nat → (Nat → Int32) → (Nat → Int32)
  | 0, i, zvtab => zvtab
  | n + 1, i, zvtab => j_J7_fill_53178_vtab_5 vtab x1 n (i + 1) (upd zvtab (nI i).toNatClampNeg x1)
def j_J7_fill_53178_vtab (vtab : Nat → Int32) (x1 : Int32) : Nat → Int32 := j_J7_fill_53178_vtab_5 vtab x1 8192 0 vtab
set_option maxRecDepth 100000 in
set_option maxHeartbeats 8000000 in
theorem c_J7_fill_53178 {l : Launch} {D : va_G} (aM : Nat) (cM : ClassId) (vtab : Nat → Int32) (x1 : Int32) : jWv l yJ7_fill_53178 wsJ7_fill_53178 rJ7_fill_53178 D [.ref aM, .int x1] (jT aM cM vtab) [(cM, .int)] (jT aM cM (j_J7_fill_53178_vtab vtab x1)) := by
  refine jW_of (QQ := fun A => (jQv D (jT aM cM (j_J7_fill_53178_vtab vtab x1)) [(cM, .int)] A)) (cc := cJ7_fill_53178) (maxL := 4) (ret := none) (by decide) rfl (Nat.le_of_ble_eq_true rfl) ?_
  intro p e s m below meth c ls A S hr hlocks hini hP hK hN hD hS hA hl
  obtain ⟨hx, hb, hml, hown, hts⟩ := id S
  have hl : lv_has ls 4 [(0, .ref aM), (1, .int x1)] := hl
  have loop5 : ∀ (n i : Nat) (zvtab : Nat → Int32), i + n = 8192 → j_J7_fill_53178_vtab_5 vtab x1 n i zvtab = (j_J7_fill_53178_vtab vtab x1) → ∀ (H : Heap) (locs : List Loc), va_P D vwCl [(aM, .inl (cM, 8192, .inl zvtab))] H → va_D A [(aM, .inl (cM, 8192, .inl zvtab))] → va_S A s.heap H locs → ∀ (ls : Array Slot), lv_has ls 4 [(2, .int (nI i)), (0, .ref aM), (1, .int x1), (3, .int 8192)] → W p l e rJ7_fill_53178 s m ([.ref aM, .int x1] : List Value).toArray below meth c H locs 0 0 (MQ below (jQv D (jT aM cM (j_J7_fill_53178_vtab vtab x1)) [(cM, .int)] A) ([.ref aM, .int x1] : List Value).toArray s 0 0 A) (F0 m 5 ls []) := by
    intro n
    induction n with
    | zero =>
      intro i zvtab hin hv_vtab H locs hP hD hS ls hl
      have hge : (8192 : Int32) ≤ nI i := by rw [show i = 8192 by omega]; decide
      have hgl : ¬ nI i < (8192 : Int32) := by rw [show i = 8192 by omega]; decide
      refine lv_iload_n hx hb dJ7_fill_53178_5 rfl (lv_at hl 0 rfl) ?_
      refine lv_iload_n hx hb dJ7_fill_53178_6 rfl (lv_at hl 3 rfl) ?_
      refine lv_icmp_ge (tgt := 20) hx hb dJ7_fill_53178_7 (by decide) (fun _ => ?_) (fun c_ => absurd hge c_)
      exact jw_vret hx hb hr hlocks hK hP hD hS dJ7_fill_53178_20 (by rw [← hv_vtab]; simp only [j_J7_fill_53178_vtab_5, if_pos hge, if_neg hgl])
    | succ n ih =>
      intro i zvtab hin hv_vtab H locs hP hD hS ls hl
      have hge : ¬ (8192 : Int32) ≤ nI i := nI_ge (a := i) (b := 8192) (by omega) (by decide)
      have hgl : nI i < (8192 : Int32) := nI_lt (a := i) (b := 8192) (by omega) (by decide)
      refine lv_iload_n hx hb dJ7_fill_53178_5 rfl (lv_at hl 0 rfl) ?_
      refine lv_iload_n hx hb dJ7_fill_53178_6 rfl (lv_at hl 3 rfl) ?_
      refine lv_icmp_ge (tgt := 20) hx hb dJ7_fill_53178_7 (by decide) (fun c_ => absurd c_ hge) (fun _ => ?_)
      refine lv_aload_n hx hb dJ7_fill_53178_10 rfl (lv_at hl 1 rfl) ?_
      refine lv_iload_n hx hb dJ7_fill_53178_11 rfl (lv_at hl 0 rfl) ?_
      refine lv_iload_n hx hb dJ7_fill_53178_12 rfl (lv_at hl 2 rfl) ?_
      refine va_iast hx hb hK hP hD hS 0 0 rfl rfl (i := nI i) (vp_in_nI (by omega) (by decide)) dJ7_fill_53178_13 (fun H locs hP hD hS => ?_)
      have hP : va_P D vwCl [(aM, .inl (cM, 8192, .inl (upd zvtab (nI i).toNatClampNeg x1)))] H := hP
      have hD : va_D A [(aM, .inl (cM, 8192, .inl (upd zvtab (nI i).toNatClampNeg x1)))] := hD
      refine lv_iinc (v := nI (i + 1)) (lv' := [(2, .int (nI (i + 1))), (0, .ref aM), (1, .int x1), (3, .int 8192)]) hx hb dJ7_fill_53178_14 hl (k := 0) rfl (nI_1 i) (by decide) rfl (fun ls hl => ?_)
      refine lv_goto (tgt := 5) hx hb dJ7_fill_53178_17 (by decide) ?_
      exact ih (i + 1) (upd zvtab (nI i).toNatClampNeg x1) (by omega) (by rw [← hv_vtab]; simp only [j_J7_fill_53178_vtab_5, if_neg hge, if_pos hgl]) _ _ hP hD hS ls (lv_sub hl [0, 1, 2, 3] rfl)
  refine lv_iconst (v := 0) hx hb dJ7_fill_53178_0 (by decide) ?_
  refine lv_istore_n (lv' := [(2, .int 0), (0, .ref aM), (1, .int x1)]) hx hb dJ7_fill_53178_1 rfl hl (by decide) rfl (fun ls hl => ?_)
  refine lv_aload_n hx hb dJ7_fill_53178_2 rfl (lv_at hl 1 rfl) ?_
  refine va_alen hx hb hK hP 0 0 rfl rfl (v := 8192) rfl dJ7_fill_53178_3 ?_
  refine lv_istore_n (lv' := [(3, .int 8192), (2, .int 0), (0, .ref aM), (1, .int x1)]) hx hb dJ7_fill_53178_4 rfl hl (by decide) rfl (fun ls hl => ?_)
  exact loop5 8192 0 vtab rfl (by simp only [j_J7_fill_53178_vtab]) _ _ hP hD hS ls (lv_sub (l' := [(2, .int (nI 0)), (0, .ref aM), (1, .int x1), (3, .int 8192)]) hl [1, 2, 3, 0] rfl)

abbrev rX1_begin : Room := { frames := 1, cells := 0, slots := 0, locals := 23 }
def j_X1_begin_vtab (vtab : Nat → Int32) : Nat → Int32 := j_J7_fill_53178_vtab vtab 1000
def j_X1_begin_vfa (x0 : Int64) : Int64 := x0
def j_X1_begin_vsa (x1 : Int64) : Int64 := x1
def j_X1_begin_vtr (x2 : Int32) : Int32 := x2
theorem inX1_begin_X1 : ∀ w ∈ u_ws RX1 TX1 4, w ∈ wsX1_begin := by decide +kernel
set_option maxRecDepth 100000 in
set_option maxHeartbeats 8000000 in
theorem c_X1_begin {l : Launch} {D : va_G} (aE : Nat) (aM : Nat) (cM : ClassId) (vtab : Nat → Int32) (vfa : Int64) (vsa : Int64) (vtr : Int32) (x0 : Int64) (x1 : Int64) (x2 : Int32) : jWv l yX1_begin wsX1_begin rX1_begin D [.ref aE, .long x0, .long x1, .int x2] (jE aE aM cM vtab vfa vsa vtr) [(cM, .int)] (jE aE aM cM (j_X1_begin_vtab vtab) (j_X1_begin_vfa x0) (j_X1_begin_vsa x1) (j_X1_begin_vtr x2)) := by
  refine jW_of (QQ := fun A => (jQv D (jE aE aM cM (j_X1_begin_vtab vtab) (j_X1_begin_vfa x0) (j_X1_begin_vsa x1) (j_X1_begin_vtr x2)) [(cM, .int)] A)) (cc := cX1_begin) (maxL := 6) (ret := none) (by decide) rfl (Nat.le_of_ble_eq_true rfl) ?_
  intro p e s m below meth c ls A S hr hlocks hini hP hK hN hD hS hA hl
  obtain ⟨hx, hb, hml, hown, hts⟩ := id S
  have hl : lv_has ls 6 [(0, .ref aE), (1, .long x0), (3, .long x1), (5, .int x2)] := hl
  refine lv_aload_n hx hb dX1_begin_0 rfl (lv_at hl 0 rfl) ?_
  refine lv_lload_n hx hb dX1_begin_1 rfl (lv_at hl 1 rfl) ?_
  refine va_put (D := D) (ci := 1) (v := .long x0) (ty := .long) (C := RX1) (T := TX1) (N := 4) hx hb hts inX1_begin_X1 tyX1 tyX1_ok nmX1 hown hK hP hD hS 0 rfl rfl 1 (by decide) (hts (.fieldLink RX1 15 "ArchivistTricks$Ending" "firstAll" "J") (by decide +kernel)) (fun _ h9 => h9) rfl (by decide +kernel) rfl rfl (Nat.le_of_ble_eq_true rfl) dX1_begin_2 (fun H locs hP hD hS => ?_)
  have hP : va_P D vwCl [(aE, .inr (1, [.ref aM, .long x0, .long vsa, .int vtr])), (aM, .inl (cM, 8192, .inl vtab))] H := hP
  have hD : va_D A [(aE, .inr (1, [.ref aM, .long x0, .long vsa, .int vtr])), (aM, .inl (cM, 8192, .inl vtab))] := hD
  refine lv_aload_n hx hb dX1_begin_5 rfl (lv_at hl 0 rfl) ?_
  refine lv_lload_n hx hb dX1_begin_6 rfl (lv_at hl 2 rfl) ?_
  refine va_put (D := D) (ci := 1) (v := .long x1) (ty := .long) (C := RX1) (T := TX1) (N := 4) hx hb hts inX1_begin_X1 tyX1 tyX1_ok nmX1 hown hK hP hD hS 0 rfl rfl 2 (by decide) (hts (.fieldLink RX1 19 "ArchivistTricks$Ending" "secondAll" "J") (by decide +kernel)) (fun _ h9 => h9) rfl (by decide +kernel) rfl rfl (Nat.le_of_ble_eq_true rfl) dX1_begin_7 (fun H locs hP hD hS => ?_)
  have hP : va_P D vwCl [(aE, .inr (1, [.ref aM, .long x0, .long x1, .int vtr])), (aM, .inl (cM, 8192, .inl vtab))] H := hP
  have hD : va_D A [(aE, .inr (1, [.ref aM, .long x0, .long x1, .int vtr])), (aM, .inl (cM, 8192, .inl vtab))] := hD
  refine lv_aload_n hx hb dX1_begin_10 rfl (lv_at hl 0 rfl) ?_
  refine lv_iload hx hb dX1_begin_11 (lv_at hl 3 rfl) ?_
  refine va_put (D := D) (ci := 1) (v := .int x2) (ty := .int) (C := RX1) (T := TX1) (N := 4) hx hb hts inX1_begin_X1 tyX1 tyX1_ok nmX1 hown hK hP hD hS 0 rfl rfl 3 (by decide) (hts (.fieldLink RX1 22 "ArchivistTricks$Ending" "trump" "I") (by decide +kernel)) (fun _ h9 => h9) rfl (by decide +kernel) rfl rfl (Nat.le_of_ble_eq_true rfl) dX1_begin_13 (fun H locs hP hD hS => ?_)
  have hP : va_P D vwCl [(aE, .inr (1, [.ref aM, .long x0, .long x1, .int x2])), (aM, .inl (cM, 8192, .inl vtab))] H := hP
  have hD : va_D A [(aE, .inr (1, [.ref aM, .long x0, .long x1, .int x2])), (aM, .inl (cM, 8192, .inl vtab))] := hD
  refine lv_aload_n hx hb dX1_begin_16 rfl (lv_at hl 0 rfl) ?_
  refine va_get (D := D) (ci := 1) (v := .ref aM) (C := RX1) (T := TX1) (N := 4) hx hb hts inX1_begin_X1 hown hK hP 0 rfl rfl 0 (by decide) (hts (.fieldLink RX1 9 "ArchivistTricks$Ending" "margins" "[I") (by decide +kernel)) (fun _ h9 => h9) rfl dX1_begin_17 ?_
  refine lv_sipush (v := 1000) hx hb dX1_begin_20 (by decide) ?_
  refine jw_callSv (n := 2) (As := [.ref aM, .int 1000]) (rest := []) (wr := [(aE, .inr (1, [.ref aM, .long x0, .long x1, .int x2]))]) (wn := [(aE, .inr (1, [.ref aM, .long x0, .long x1, .int x2])), (aM, .inl (cM, 8192, .inl (j_J7_fill_53178_vtab vtab 1000)))]) S (c_J7_fill_53178 aM cM vtab 1000) gX1_begin_J7_fill_53178 rfl (by decide +kernel) rfl ⟨⟨rfl, rfl⟩, ⟨Nat.le_of_ble_eq_true rfl, Nat.le_of_ble_eq_true rfl⟩, Nat.le_of_ble_eq_true rfl, Nat.le_of_ble_eq_true rfl⟩ hP hK hN hD hS hA [1] [0] [0, 1] [0] rfl rfl ⟨rfl, rfl, rfl⟩ (by decide) rfl rfl (lv_nil hl) rfl (Nat.le_of_ble_eq_true rfl) dX1_begin_23 (fun H locs hP hD hS => ?_)
  exact jw_vret hx hb hr hlocks hK hP hD hS dX1_begin_26 (by  simp only [j_X1_begin_vtab, j_X1_begin_vfa, j_X1_begin_vsa, j_X1_begin_vtr])
end
