-- ===== PART A: goes FIRST, ahead of the names: the tables' words, and 'selects' of the private methods out of them =====
/-- a private method of a class that the tables say can be made, by its rows of tables_1 -/
def lw_okq (q : MethodName × Nat) : Prop := (q.1.cls ≠ "java/lang/invoke/MethodHandle" ∧ q.1.cls ≠ "java/lang/invoke/VarHandle") ∧ Cond.instantiable q.1.cls q.2 ∈ tables_1 ∧ Cond.privateMethod q.1 ∈ tables_1 ∧ Cond.instanceMethod q.1 ∈ tables_1
theorem lw_p0 : lw_okq (⟨"OnceLedger", "build", "(III)V"⟩, 15) := ⟨⟨by decide +kernel, by decide +kernel⟩, List.mem_of_getElem? (i := 10) (by decide +kernel), List.mem_of_getElem? (i := 125) (by decide +kernel), List.mem_of_getElem? (i := 126) (by decide +kernel)⟩
theorem lw_p1 : lw_okq (⟨"OnceLedger", "forget", "()V"⟩, 15) := ⟨⟨by decide +kernel, by decide +kernel⟩, List.mem_of_getElem? (i := 10) (by decide +kernel), List.mem_of_getElem? (i := 145) (by decide +kernel), List.mem_of_getElem? (i := 146) (by decide +kernel)⟩
theorem lw_p2 : lw_okq (⟨"OnceLedger", "isKey", "(I)Z"⟩, 15) := ⟨⟨by decide +kernel, by decide +kernel⟩, List.mem_of_getElem? (i := 10) (by decide +kernel), List.mem_of_getElem? (i := 220) (by decide +kernel), List.mem_of_getElem? (i := 221) (by decide +kernel)⟩
theorem lw_p3 : lw_okq (⟨"OnceLedger", "decide", "(IZ)V"⟩, 15) := ⟨⟨by decide +kernel, by decide +kernel⟩, List.mem_of_getElem? (i := 10) (by decide +kernel), List.mem_of_getElem? (i := 228) (by decide +kernel), List.mem_of_getElem? (i := 229) (by decide +kernel)⟩
theorem lw_p4 : lw_okq (⟨"OnceLedger", "writeToBook", "(IIIII)V"⟩, 15) := ⟨⟨by decide +kernel, by decide +kernel⟩, List.mem_of_getElem? (i := 10) (by decide +kernel), List.mem_of_getElem? (i := 232) (by decide +kernel), List.mem_of_getElem? (i := 233) (by decide +kernel)⟩
theorem lw_p5 : lw_okq (⟨"OnceLedger", "learn", "(I)V"⟩, 15) := ⟨⟨by decide +kernel, by decide +kernel⟩, List.mem_of_getElem? (i := 10) (by decide +kernel), List.mem_of_getElem? (i := 249) (by decide +kernel), List.mem_of_getElem? (i := 250) (by decide +kernel)⟩
theorem lw_p6 : lw_okq (⟨"OnceLedger", "markLaters", "(III)V"⟩, 15) := ⟨⟨by decide +kernel, by decide +kernel⟩, List.mem_of_getElem? (i := 10) (by decide +kernel), List.mem_of_getElem? (i := 261) (by decide +kernel), List.mem_of_getElem? (i := 262) (by decide +kernel)⟩
theorem lw_p7 : lw_okq (⟨"OnceLedger", "setMark", "(II)V"⟩, 15) := ⟨⟨by decide +kernel, by decide +kernel⟩, List.mem_of_getElem? (i := 10) (by decide +kernel), List.mem_of_getElem? (i := 265) (by decide +kernel), List.mem_of_getElem? (i := 266) (by decide +kernel)⟩
theorem lw_p8 : lw_okq (⟨"OnceLedger", "finish", "(I)V"⟩, 15) := ⟨⟨by decide +kernel, by decide +kernel⟩, List.mem_of_getElem? (i := 10) (by decide +kernel), List.mem_of_getElem? (i := 270) (by decide +kernel), List.mem_of_getElem? (i := 271) (by decide +kernel)⟩
theorem lw_p9 : lw_okq (⟨"OnceLedger", "writeToLog", "(IIIIILOnceLedger$ByteRow;)I"⟩, 15) := ⟨⟨by decide +kernel, by decide +kernel⟩, List.mem_of_getElem? (i := 10) (by decide +kernel), List.mem_of_getElem? (i := 299) (by decide +kernel), List.mem_of_getElem? (i := 300) (by decide +kernel)⟩
theorem lw_p10 : lw_okq (⟨"OnceLedger", "bookHasRoom", "(I)Z"⟩, 15) := ⟨⟨by decide +kernel, by decide +kernel⟩, List.mem_of_getElem? (i := 10) (by decide +kernel), List.mem_of_getElem? (i := 314) (by decide +kernel), List.mem_of_getElem? (i := 315) (by decide +kernel)⟩
theorem lw_p11 : lw_okq (⟨"OnceLedger", "openTransactions", "()I"⟩, 15) := ⟨⟨by decide +kernel, by decide +kernel⟩, List.mem_of_getElem? (i := 10) (by decide +kernel), List.mem_of_getElem? (i := 318) (by decide +kernel), List.mem_of_getElem? (i := 319) (by decide +kernel)⟩
theorem lw_p12 : lw_okq (⟨"OnceLedger", "raiseEpoch", "(I)V"⟩, 15) := ⟨⟨by decide +kernel, by decide +kernel⟩, List.mem_of_getElem? (i := 10) (by decide +kernel), List.mem_of_getElem? (i := 322) (by decide +kernel), List.mem_of_getElem? (i := 323) (by decide +kernel)⟩
theorem lw_p13 : lw_okq (⟨"OnceLedger", "refusalOf", "(IIZ)I"⟩, 15) := ⟨⟨by decide +kernel, by decide +kernel⟩, List.mem_of_getElem? (i := 10) (by decide +kernel), List.mem_of_getElem? (i := 330) (by decide +kernel), List.mem_of_getElem? (i := 331) (by decide +kernel)⟩
theorem lw_p14 : lw_okq (⟨"OnceLedger", "isRegistered", "(I)Z"⟩, 15) := ⟨⟨by decide +kernel, by decide +kernel⟩, List.mem_of_getElem? (i := 10) (by decide +kernel), List.mem_of_getElem? (i := 334) (by decide +kernel), List.mem_of_getElem? (i := 335) (by decide +kernel)⟩
theorem lw_p15 : lw_okq (⟨"OnceLedger", "takeSent", "(IIIIZ)I"⟩, 15) := ⟨⟨by decide +kernel, by decide +kernel⟩, List.mem_of_getElem? (i := 10) (by decide +kernel), List.mem_of_getElem? (i := 342) (by decide +kernel), List.mem_of_getElem? (i := 343) (by decide +kernel)⟩
def lw_privs_1 : List (MethodName × Nat) := [(⟨"OnceLedger", "build", "(III)V"⟩, 15), (⟨"OnceLedger", "forget", "()V"⟩, 15), (⟨"OnceLedger", "isKey", "(I)Z"⟩, 15), (⟨"OnceLedger", "decide", "(IZ)V"⟩, 15), (⟨"OnceLedger", "writeToBook", "(IIIII)V"⟩, 15), (⟨"OnceLedger", "learn", "(I)V"⟩, 15), (⟨"OnceLedger", "markLaters", "(III)V"⟩, 15), (⟨"OnceLedger", "setMark", "(II)V"⟩, 15), (⟨"OnceLedger", "finish", "(I)V"⟩, 15), (⟨"OnceLedger", "writeToLog", "(IIIIILOnceLedger$ByteRow;)I"⟩, 15), (⟨"OnceLedger", "bookHasRoom", "(I)Z"⟩, 15), (⟨"OnceLedger", "openTransactions", "()I"⟩, 15), (⟨"OnceLedger", "raiseEpoch", "(I)V"⟩, 15), (⟨"OnceLedger", "refusalOf", "(IIZ)I"⟩, 15), (⟨"OnceLedger", "isRegistered", "(I)Z"⟩, 15), (⟨"OnceLedger", "takeSent", "(IIIIZ)I"⟩, 15)]
theorem lw_r1 : ∀ q ∈ lw_privs_1, lw_okq q := List.forall_mem_cons.mpr ⟨lw_p0, List.forall_mem_cons.mpr ⟨lw_p1, List.forall_mem_cons.mpr ⟨lw_p2, List.forall_mem_cons.mpr ⟨lw_p3, List.forall_mem_cons.mpr ⟨lw_p4, List.forall_mem_cons.mpr ⟨lw_p5, List.forall_mem_cons.mpr ⟨lw_p6, List.forall_mem_cons.mpr ⟨lw_p7, List.forall_mem_cons.mpr ⟨lw_p8, List.forall_mem_cons.mpr ⟨lw_p9, List.forall_mem_cons.mpr ⟨lw_p10, List.forall_mem_cons.mpr ⟨lw_p11, List.forall_mem_cons.mpr ⟨lw_p12, List.forall_mem_cons.mpr ⟨lw_p13, List.forall_mem_cons.mpr ⟨lw_p14, List.forall_mem_cons.mpr ⟨lw_p15, fun _ h => absurd h List.not_mem_nil⟩⟩⟩⟩⟩⟩⟩⟩⟩⟩⟩⟩⟩⟩⟩⟩
theorem lw_p16 : lw_okq (⟨"OnceLedger", "isPartition", "(I)Z"⟩, 15) := ⟨⟨by decide +kernel, by decide +kernel⟩, List.mem_of_getElem? (i := 10) (by decide +kernel), List.mem_of_getElem? (i := 346) (by decide +kernel), List.mem_of_getElem? (i := 347) (by decide +kernel)⟩
theorem lw_p17 : lw_okq (⟨"OnceLedger", "logHasRoom", "(IZ)Z"⟩, 15) := ⟨⟨by decide +kernel, by decide +kernel⟩, List.mem_of_getElem? (i := 10) (by decide +kernel), List.mem_of_getElem? (i := 362) (by decide +kernel), List.mem_of_getElem? (i := 363) (by decide +kernel)⟩
theorem lw_p18 : lw_okq (⟨"OnceLedger", "openThatAdded", "(I)I"⟩, 15) := ⟨⟨by decide +kernel, by decide +kernel⟩, List.mem_of_getElem? (i := 10) (by decide +kernel), List.mem_of_getElem? (i := 366) (by decide +kernel), List.mem_of_getElem? (i := 367) (by decide +kernel)⟩
theorem lw_p19 : lw_okq (⟨"OnceLedger", "isPlace", "(II)Z"⟩, 15) := ⟨⟨by decide +kernel, by decide +kernel⟩, List.mem_of_getElem? (i := 10) (by decide +kernel), List.mem_of_getElem? (i := 374) (by decide +kernel), List.mem_of_getElem? (i := 375) (by decide +kernel)⟩
theorem lw_p20 : lw_okq (⟨"OnceLedger", "placeOf", "(II)I"⟩, 15) := ⟨⟨by decide +kernel, by decide +kernel⟩, List.mem_of_getElem? (i := 10) (by decide +kernel), List.mem_of_getElem? (i := 378) (by decide +kernel), List.mem_of_getElem? (i := 379) (by decide +kernel)⟩
theorem lw_p21 : lw_okq (⟨"OnceLedger", "endOverdue", "()I"⟩, 15) := ⟨⟨by decide +kernel, by decide +kernel⟩, List.mem_of_getElem? (i := 10) (by decide +kernel), List.mem_of_getElem? (i := 399) (by decide +kernel), List.mem_of_getElem? (i := 400) (by decide +kernel)⟩
theorem lw_p22 : lw_okq (⟨"OnceLedger", "firstToEnd", "(Z)I"⟩, 15) := ⟨⟨by decide +kernel, by decide +kernel⟩, List.mem_of_getElem? (i := 10) (by decide +kernel), List.mem_of_getElem? (i := 403) (by decide +kernel), List.mem_of_getElem? (i := 404) (by decide +kernel)⟩
theorem lw_p23 : lw_okq (⟨"OnceLedger", "rowOf", "(I)LOnceLedger$ByteRow;"⟩, 15) := ⟨⟨by decide +kernel, by decide +kernel⟩, List.mem_of_getElem? (i := 10) (by decide +kernel), List.mem_of_getElem? (i := 445) (by decide +kernel), List.mem_of_getElem? (i := 446) (by decide +kernel)⟩
theorem lw_p24 : lw_okq (⟨"OnceLedger", "finishDecided", "()I"⟩, 15) := ⟨⟨by decide +kernel, by decide +kernel⟩, List.mem_of_getElem? (i := 10) (by decide +kernel), List.mem_of_getElem? (i := 475) (by decide +kernel), List.mem_of_getElem? (i := 476) (by decide +kernel)⟩
theorem lw_p25 : lw_okq (⟨"OnceLedger", "registeredProducers", "()I"⟩, 15) := ⟨⟨by decide +kernel, by decide +kernel⟩, List.mem_of_getElem? (i := 10) (by decide +kernel), List.mem_of_getElem? (i := 513) (by decide +kernel), List.mem_of_getElem? (i := 514) (by decide +kernel)⟩
theorem lw_p26 : lw_okq (⟨"OnceLedgerModel", "forgets", "()V"⟩, 34) := ⟨⟨by decide +kernel, by decide +kernel⟩, List.mem_of_getElem? (i := 517) (by decide +kernel), List.mem_of_getElem? (i := 528) (by decide +kernel), List.mem_of_getElem? (i := 529) (by decide +kernel)⟩
theorem lw_p27 : lw_okq (⟨"OnceLedgerModel", "ends", "(IZ)V"⟩, 34) := ⟨⟨by decide +kernel, by decide +kernel⟩, List.mem_of_getElem? (i := 517) (by decide +kernel), List.mem_of_getElem? (i := 640) (by decide +kernel), List.mem_of_getElem? (i := 641) (by decide +kernel)⟩
theorem lw_p28 : lw_okq (⟨"OnceLedgerModel", "add", "(IIIIII)I"⟩, 34) := ⟨⟨by decide +kernel, by decide +kernel⟩, List.mem_of_getElem? (i := 517) (by decide +kernel), List.mem_of_getElem? (i := 644) (by decide +kernel), List.mem_of_getElem? (i := 645) (by decide +kernel)⟩
theorem lw_p29 : lw_okq (⟨"OnceLedgerModel", "finishes", "(IZ)V"⟩, 34) := ⟨⟨by decide +kernel, by decide +kernel⟩, List.mem_of_getElem? (i := 517) (by decide +kernel), List.mem_of_getElem? (i := 648) (by decide +kernel), List.mem_of_getElem? (i := 649) (by decide +kernel)⟩
theorem lw_p30 : lw_okq (⟨"OnceLedgerModel", "closes", "(IZ)V"⟩, 34) := ⟨⟨by decide +kernel, by decide +kernel⟩, List.mem_of_getElem? (i := 517) (by decide +kernel), List.mem_of_getElem? (i := 652) (by decide +kernel), List.mem_of_getElem? (i := 653) (by decide +kernel)⟩
theorem lw_p31 : lw_okq (⟨"OnceLedgerModel", "marksOf", "(I)V"⟩, 34) := ⟨⟨by decide +kernel, by decide +kernel⟩, List.mem_of_getElem? (i := 517) (by decide +kernel), List.mem_of_getElem? (i := 656) (by decide +kernel), List.mem_of_getElem? (i := 657) (by decide +kernel)⟩
def lw_privs_2 : List (MethodName × Nat) := [(⟨"OnceLedger", "isPartition", "(I)Z"⟩, 15), (⟨"OnceLedger", "logHasRoom", "(IZ)Z"⟩, 15), (⟨"OnceLedger", "openThatAdded", "(I)I"⟩, 15), (⟨"OnceLedger", "isPlace", "(II)Z"⟩, 15), (⟨"OnceLedger", "placeOf", "(II)I"⟩, 15), (⟨"OnceLedger", "endOverdue", "()I"⟩, 15), (⟨"OnceLedger", "firstToEnd", "(Z)I"⟩, 15), (⟨"OnceLedger", "rowOf", "(I)LOnceLedger$ByteRow;"⟩, 15), (⟨"OnceLedger", "finishDecided", "()I"⟩, 15), (⟨"OnceLedger", "registeredProducers", "()I"⟩, 15), (⟨"OnceLedgerModel", "forgets", "()V"⟩, 34), (⟨"OnceLedgerModel", "ends", "(IZ)V"⟩, 34), (⟨"OnceLedgerModel", "add", "(IIIIII)I"⟩, 34), (⟨"OnceLedgerModel", "finishes", "(IZ)V"⟩, 34), (⟨"OnceLedgerModel", "closes", "(IZ)V"⟩, 34), (⟨"OnceLedgerModel", "marksOf", "(I)V"⟩, 34)]
theorem lw_r2 : ∀ q ∈ lw_privs_2, lw_okq q := List.forall_mem_cons.mpr ⟨lw_p16, List.forall_mem_cons.mpr ⟨lw_p17, List.forall_mem_cons.mpr ⟨lw_p18, List.forall_mem_cons.mpr ⟨lw_p19, List.forall_mem_cons.mpr ⟨lw_p20, List.forall_mem_cons.mpr ⟨lw_p21, List.forall_mem_cons.mpr ⟨lw_p22, List.forall_mem_cons.mpr ⟨lw_p23, List.forall_mem_cons.mpr ⟨lw_p24, List.forall_mem_cons.mpr ⟨lw_p25, List.forall_mem_cons.mpr ⟨lw_p26, List.forall_mem_cons.mpr ⟨lw_p27, List.forall_mem_cons.mpr ⟨lw_p28, List.forall_mem_cons.mpr ⟨lw_p29, List.forall_mem_cons.mpr ⟨lw_p30, List.forall_mem_cons.mpr ⟨lw_p31, fun _ h => absurd h List.not_mem_nil⟩⟩⟩⟩⟩⟩⟩⟩⟩⟩⟩⟩⟩⟩⟩⟩
theorem lw_p32 : lw_okq (⟨"OnceLedgerModel", "opened", "()I"⟩, 34) := ⟨⟨by decide +kernel, by decide +kernel⟩, List.mem_of_getElem? (i := 517) (by decide +kernel), List.mem_of_getElem? (i := 660) (by decide +kernel), List.mem_of_getElem? (i := 661) (by decide +kernel)⟩
theorem lw_p33 : lw_okq (⟨"OnceLedgerModel", "bookHas", "(II)Z"⟩, 34) := ⟨⟨by decide +kernel, by decide +kernel⟩, List.mem_of_getElem? (i := 517) (by decide +kernel), List.mem_of_getElem? (i := 664) (by decide +kernel), List.mem_of_getElem? (i := 665) (by decide +kernel)⟩
theorem lw_p34 : lw_okq (⟨"OnceLedgerModel", "bytesFrom", "(II)I"⟩, 34) := ⟨⟨by decide +kernel, by decide +kernel⟩, List.mem_of_getElem? (i := 517) (by decide +kernel), List.mem_of_getElem? (i := 668) (by decide +kernel), List.mem_of_getElem? (i := 669) (by decide +kernel)⟩
theorem lw_p35 : lw_okq (⟨"OnceLedgerModel", "sizeOf", "(I)I"⟩, 34) := ⟨⟨by decide +kernel, by decide +kernel⟩, List.mem_of_getElem? (i := 517) (by decide +kernel), List.mem_of_getElem? (i := 672) (by decide +kernel), List.mem_of_getElem? (i := 673) (by decide +kernel)⟩
theorem lw_p36 : lw_okq (⟨"OnceLedgerModel", "registers", "(I)V"⟩, 34) := ⟨⟨by decide +kernel, by decide +kernel⟩, List.mem_of_getElem? (i := 517) (by decide +kernel), List.mem_of_getElem? (i := 676) (by decide +kernel), List.mem_of_getElem? (i := 677) (by decide +kernel)⟩
theorem lw_p37 : lw_okq (⟨"OnceLedgerModel", "refused", "(II)I"⟩, 34) := ⟨⟨by decide +kernel, by decide +kernel⟩, List.mem_of_getElem? (i := 517) (by decide +kernel), List.mem_of_getElem? (i := 684) (by decide +kernel), List.mem_of_getElem? (i := 685) (by decide +kernel)⟩
theorem lw_p38 : lw_okq (⟨"OnceLedgerModel", "begins", "(III)V"⟩, 34) := ⟨⟨by decide +kernel, by decide +kernel⟩, List.mem_of_getElem? (i := 517) (by decide +kernel), List.mem_of_getElem? (i := 688) (by decide +kernel), List.mem_of_getElem? (i := 689) (by decide +kernel)⟩
theorem lw_p39 : lw_okq (⟨"OnceLedgerModel", "again", "(III)I"⟩, 34) := ⟨⟨by decide +kernel, by decide +kernel⟩, List.mem_of_getElem? (i := 517) (by decide +kernel), List.mem_of_getElem? (i := 696) (by decide +kernel), List.mem_of_getElem? (i := 697) (by decide +kernel)⟩
theorem lw_p40 : lw_okq (⟨"OnceLedgerModel", "offsetOf", "(I)I"⟩, 34) := ⟨⟨by decide +kernel, by decide +kernel⟩, List.mem_of_getElem? (i := 517) (by decide +kernel), List.mem_of_getElem? (i := 700) (by decide +kernel), List.mem_of_getElem? (i := 701) (by decide +kernel)⟩
theorem lw_p41 : lw_okq (⟨"OnceLedgerModel", "nextOf", "(II)I"⟩, 34) := ⟨⟨by decide +kernel, by decide +kernel⟩, List.mem_of_getElem? (i := 517) (by decide +kernel), List.mem_of_getElem? (i := 704) (by decide +kernel), List.mem_of_getElem? (i := 705) (by decide +kernel)⟩
theorem lw_p42 : lw_okq (⟨"OnceLedgerModel", "openedAt", "(I)I"⟩, 34) := ⟨⟨by decide +kernel, by decide +kernel⟩, List.mem_of_getElem? (i := 517) (by decide +kernel), List.mem_of_getElem? (i := 708) (by decide +kernel), List.mem_of_getElem? (i := 709) (by decide +kernel)⟩
theorem lw_p43 : lw_okq (⟨"OnceLedgerModel", "isPartition", "(I)Z"⟩, 34) := ⟨⟨by decide +kernel, by decide +kernel⟩, List.mem_of_getElem? (i := 517) (by decide +kernel), List.mem_of_getElem? (i := 719) (by decide +kernel), List.mem_of_getElem? (i := 720) (by decide +kernel)⟩
theorem lw_p44 : lw_okq (⟨"OnceLedgerModel", "later", "(III)V"⟩, 34) := ⟨⟨by decide +kernel, by decide +kernel⟩, List.mem_of_getElem? (i := 517) (by decide +kernel), List.mem_of_getElem? (i := 723) (by decide +kernel), List.mem_of_getElem? (i := 724) (by decide +kernel)⟩
theorem lw_p45 : lw_okq (⟨"OnceLedgerModel", "stable", "(I)I"⟩, 34) := ⟨⟨by decide +kernel, by decide +kernel⟩, List.mem_of_getElem? (i := 517) (by decide +kernel), List.mem_of_getElem? (i := 748) (by decide +kernel), List.mem_of_getElem? (i := 749) (by decide +kernel)⟩
theorem lw_p46 : lw_okq (⟨"OnceLedgerModel", "isSeen", "(IZII)Z"⟩, 34) := ⟨⟨by decide +kernel, by decide +kernel⟩, List.mem_of_getElem? (i := 517) (by decide +kernel), List.mem_of_getElem? (i := 752) (by decide +kernel), List.mem_of_getElem? (i := 753) (by decide +kernel)⟩
theorem lw_p47 : lw_okq (⟨"OnceLedgerModel", "unsynced", "()I"⟩, 34) := ⟨⟨by decide +kernel, by decide +kernel⟩, List.mem_of_getElem? (i := 517) (by decide +kernel), List.mem_of_getElem? (i := 768) (by decide +kernel), List.mem_of_getElem? (i := 769) (by decide +kernel)⟩
def lw_privs_3 : List (MethodName × Nat) := [(⟨"OnceLedgerModel", "opened", "()I"⟩, 34), (⟨"OnceLedgerModel", "bookHas", "(II)Z"⟩, 34), (⟨"OnceLedgerModel", "bytesFrom", "(II)I"⟩, 34), (⟨"OnceLedgerModel", "sizeOf", "(I)I"⟩, 34), (⟨"OnceLedgerModel", "registers", "(I)V"⟩, 34), (⟨"OnceLedgerModel", "refused", "(II)I"⟩, 34), (⟨"OnceLedgerModel", "begins", "(III)V"⟩, 34), (⟨"OnceLedgerModel", "again", "(III)I"⟩, 34), (⟨"OnceLedgerModel", "offsetOf", "(I)I"⟩, 34), (⟨"OnceLedgerModel", "nextOf", "(II)I"⟩, 34), (⟨"OnceLedgerModel", "openedAt", "(I)I"⟩, 34), (⟨"OnceLedgerModel", "isPartition", "(I)Z"⟩, 34), (⟨"OnceLedgerModel", "later", "(III)V"⟩, 34), (⟨"OnceLedgerModel", "stable", "(I)I"⟩, 34), (⟨"OnceLedgerModel", "isSeen", "(IZII)Z"⟩, 34), (⟨"OnceLedgerModel", "unsynced", "()I"⟩, 34)]
theorem lw_r3 : ∀ q ∈ lw_privs_3, lw_okq q := List.forall_mem_cons.mpr ⟨lw_p32, List.forall_mem_cons.mpr ⟨lw_p33, List.forall_mem_cons.mpr ⟨lw_p34, List.forall_mem_cons.mpr ⟨lw_p35, List.forall_mem_cons.mpr ⟨lw_p36, List.forall_mem_cons.mpr ⟨lw_p37, List.forall_mem_cons.mpr ⟨lw_p38, List.forall_mem_cons.mpr ⟨lw_p39, List.forall_mem_cons.mpr ⟨lw_p40, List.forall_mem_cons.mpr ⟨lw_p41, List.forall_mem_cons.mpr ⟨lw_p42, List.forall_mem_cons.mpr ⟨lw_p43, List.forall_mem_cons.mpr ⟨lw_p44, List.forall_mem_cons.mpr ⟨lw_p45, List.forall_mem_cons.mpr ⟨lw_p46, List.forall_mem_cons.mpr ⟨lw_p47, fun _ h => absurd h List.not_mem_nil⟩⟩⟩⟩⟩⟩⟩⟩⟩⟩⟩⟩⟩⟩⟩⟩
theorem lw_p48 : lw_okq (⟨"OnceLedgerModel", "tells", "(I)V"⟩, 34) := ⟨⟨by decide +kernel, by decide +kernel⟩, List.mem_of_getElem? (i := 517) (by decide +kernel), List.mem_of_getElem? (i := 780) (by decide +kernel), List.mem_of_getElem? (i := 781) (by decide +kernel)⟩
theorem lw_p49 : lw_okq (⟨"OnceLedgerModel", "manyOf", "(I)I"⟩, 34) := ⟨⟨by decide +kernel, by decide +kernel⟩, List.mem_of_getElem? (i := 517) (by decide +kernel), List.mem_of_getElem? (i := 788) (by decide +kernel), List.mem_of_getElem? (i := 789) (by decide +kernel)⟩
theorem lw_p50 : lw_okq (⟨"OnceLedgerModel", "bytesOf", "(I)I"⟩, 34) := ⟨⟨by decide +kernel, by decide +kernel⟩, List.mem_of_getElem? (i := 517) (by decide +kernel), List.mem_of_getElem? (i := 792) (by decide +kernel), List.mem_of_getElem? (i := 793) (by decide +kernel)⟩
theorem lw_p51 : lw_okq (⟨"OnceLedgerModel", "seenOf", "(I)I"⟩, 34) := ⟨⟨by decide +kernel, by decide +kernel⟩, List.mem_of_getElem? (i := 517) (by decide +kernel), List.mem_of_getElem? (i := 796) (by decide +kernel), List.mem_of_getElem? (i := 797) (by decide +kernel)⟩
theorem lw_p52 : lw_okq (⟨"OnceLedgerModel", "byteAt", "(II)I"⟩, 34) := ⟨⟨by decide +kernel, by decide +kernel⟩, List.mem_of_getElem? (i := 517) (by decide +kernel), List.mem_of_getElem? (i := 816) (by decide +kernel), List.mem_of_getElem? (i := 817) (by decide +kernel)⟩
theorem lw_p53 : lw_okq (⟨"OnceLedgerModel", "behind", "(II)I"⟩, 34) := ⟨⟨by decide +kernel, by decide +kernel⟩, List.mem_of_getElem? (i := 517) (by decide +kernel), List.mem_of_getElem? (i := 820) (by decide +kernel), List.mem_of_getElem? (i := 821) (by decide +kernel)⟩
def lw_privs_4 : List (MethodName × Nat) := [(⟨"OnceLedgerModel", "tells", "(I)V"⟩, 34), (⟨"OnceLedgerModel", "manyOf", "(I)I"⟩, 34), (⟨"OnceLedgerModel", "bytesOf", "(I)I"⟩, 34), (⟨"OnceLedgerModel", "seenOf", "(I)I"⟩, 34), (⟨"OnceLedgerModel", "byteAt", "(II)I"⟩, 34), (⟨"OnceLedgerModel", "behind", "(II)I"⟩, 34)]
theorem lw_r4 : ∀ q ∈ lw_privs_4, lw_okq q := List.forall_mem_cons.mpr ⟨lw_p48, List.forall_mem_cons.mpr ⟨lw_p49, List.forall_mem_cons.mpr ⟨lw_p50, List.forall_mem_cons.mpr ⟨lw_p51, List.forall_mem_cons.mpr ⟨lw_p52, List.forall_mem_cons.mpr ⟨lw_p53, fun _ h => absurd h List.not_mem_nil⟩⟩⟩⟩⟩⟩
def lw_privs : List (MethodName × Nat) := lw_privs_1 ++ (lw_privs_2 ++ (lw_privs_3 ++ (lw_privs_4)))
def lw_tbl : List Cond := k2_sels lw_privs ++ tables_1
theorem lw_privs_ok : ∀ q ∈ lw_privs, lw_okq q := by
  show ∀ q ∈ lw_privs_1 ++ (lw_privs_2 ++ (lw_privs_3 ++ (lw_privs_4))), lw_okq q
  exact List.forall_mem_append.mpr ⟨lw_r1, List.forall_mem_append.mpr ⟨lw_r2, List.forall_mem_append.mpr ⟨lw_r3, lw_r4⟩⟩⟩
/-! names out of the task's NAMES.whole: classes, fields, methods -/
def RX0 : String := "OnceLedger$ByteRow"
def TX0 : u_T := fun k => match k with
  | 0 => ("OnceLedger$ByteRow", "bytes", "[B", true)
  | _ => ("OnceLedger$ByteRow", "length", "I", false)
def tyX0 : Nat → FieldType := fun k => match k with
  | 0 => .array .byte
  | _ => .int
abbrev wsX00 : List Cond := u_ws RX0 TX0 2
theorem nmX0 : ∀ a, a < 2 → ∀ b, b < 2 → a ≠ b → (TX0 a).2.1 ≠ (TX0 b).2.1 := by decide +kernel
theorem tyX0_ok : ∀ k, k < 2 → parseFieldDescriptor (TX0 k).2.2.1 = some (tyX0 k) := by decide +kernel
abbrev cX0_init : ByteArray := prog_2_method_1_code
def yX0_init : MethodName := ⟨RX0, "<init>", "(I)V"⟩
abbrev cX0_clear : ByteArray := prog_2_method_2_code
def yX0_clear : MethodName := ⟨RX0, "clear", "()V"⟩
abbrev cX0_cutTo : ByteArray := prog_2_method_3_code
def yX0_cutTo : MethodName := ⟨RX0, "cutTo", "(I)V"⟩
abbrev cX0_at : ByteArray := prog_2_method_4_code
def yX0_at : MethodName := ⟨RX0, "at", "(I)I"⟩
abbrev cX0_add : ByteArray := prog_2_method_5_code
def yX0_add : MethodName := ⟨RX0, "add", "(I)V"⟩
abbrev cX0_addNumber : ByteArray := prog_2_method_6_code
def yX0_addNumber : MethodName := ⟨RX0, "addNumber", "(II)V"⟩
abbrev cX0_number : ByteArray := prog_2_method_7_code
def yX0_number : MethodName := ⟨RX0, "number", "(II)I"⟩
abbrev cX0_seal : ByteArray := prog_2_method_8_code
def yX0_seal : MethodName := ⟨RX0, "seal", "(I)V"⟩
def RX1 : String := "OnceLedger$Log"
def TX1 : u_T := fun k => match k with
  | 0 => ("OnceLedger$Log", "row", "LOnceLedger$ByteRow;", true)
  | 1 => ("OnceLedger$Log", "ends", "[I", true)
  | 2 => ("OnceLedger$Log", "committed", "[Z", true)
  | 3 => ("OnceLedger$Log", "fates", "[I", true)
  | _ => ("OnceLedger$Log", "entries", "I", false)
def tyX1 : Nat → FieldType := fun k => match k with
  | 0 => .object "OnceLedger$ByteRow"
  | 1 => .array .int
  | 2 => .array .boolean
  | 3 => .array .int
  | _ => .int
abbrev wsX10 : List Cond := u_ws RX1 TX1 5
theorem nmX1 : ∀ a, a < 5 → ∀ b, b < 5 → a ≠ b → (TX1 a).2.1 ≠ (TX1 b).2.1 := by decide +kernel
theorem tyX1_ok : ∀ k, k < 5 → parseFieldDescriptor (TX1 k).2.2.1 = some (tyX1 k) := by decide +kernel
abbrev cX1_init : ByteArray := prog_3_method_1_code
def yX1_init : MethodName := ⟨RX1, "<init>", "()V"⟩
abbrev cX1_clear : ByteArray := prog_3_method_2_code
def yX1_clear : MethodName := ⟨RX1, "clear", "()V"⟩
abbrev cX1_append : ByteArray := prog_3_method_3_code
def yX1_append : MethodName := ⟨RX1, "append", "(IIIILOnceLedger$ByteRow;)V"⟩
abbrev cX1_has : ByteArray := prog_3_method_4_code
def yX1_has : MethodName := ⟨RX1, "has", "(I)Z"⟩
abbrev cX1_startOf : ByteArray := prog_3_method_5_code
def yX1_startOf : MethodName := ⟨RX1, "startOf", "(I)I"⟩
abbrev cX1_field : ByteArray := prog_3_method_6_code
def yX1_field : MethodName := ⟨RX1, "field", "(III)I"⟩
abbrev cX1_kindOf : ByteArray := prog_3_method_7_code
def yX1_kindOf : MethodName := ⟨RX1, "kindOf", "(I)I"⟩
abbrev cX1_isSeen : ByteArray := prog_3_method_8_code
def yX1_isSeen : MethodName := ⟨RX1, "isSeen", "(I)Z"⟩
abbrev cX1_dropBroken : ByteArray := prog_3_method_9_code
def yX1_dropBroken : MethodName := ⟨RX1, "dropBroken", "()V"⟩
abbrev cX1_cutBroken : ByteArray := prog_3_method_10_code
def yX1_cutBroken : MethodName := ⟨RX1, "cutBroken", "()I"⟩
abbrev cX1_isSentBy : ByteArray := prog_3_method_11_code
def yX1_isSentBy : MethodName := ⟨RX1, "isSentBy", "(III)Z"⟩
abbrev cX1_nextOf : ByteArray := prog_3_method_12_code
def yX1_nextOf : MethodName := ⟨RX1, "nextOf", "(II)I"⟩
abbrev cX1_offsetOfRecent : ByteArray := prog_3_method_13_code
def yX1_offsetOfRecent : MethodName := ⟨RX1, "offsetOfRecent", "(III)I"⟩
abbrev cX1_hasEndOf : ByteArray := prog_3_method_14_code
def yX1_hasEndOf : MethodName := ⟨RX1, "hasEndOf", "(I)Z"⟩
abbrev cX1_stable : ByteArray := prog_3_method_15_code
def yX1_stable : MethodName := ⟨RX1, "stable", "()I"⟩
abbrev cX1_committedEntries : ByteArray := prog_3_method_16_code
def yX1_committedEntries : MethodName := ⟨RX1, "committedEntries", "()I"⟩
abbrev cX1_firstCommitted : ByteArray := prog_3_method_17_code
def yX1_firstCommitted : MethodName := ⟨RX1, "firstCommitted", "(I)I"⟩
abbrev cX1_firstSeen : ByteArray := prog_3_method_18_code
def yX1_firstSeen : MethodName := ⟨RX1, "firstSeen", "(I)I"⟩
abbrev cX1_copyPayload : ByteArray := prog_3_method_19_code
def yX1_copyPayload : MethodName := ⟨RX1, "copyPayload", "(ILOnceLedger$ByteRow;)V"⟩
def RX2 : String := "OnceLedger$Producer"
def TX2 : u_T := fun k => match k with
  | 0 => ("OnceLedger$Producer", "epoch", "I", false)
  | 1 => ("OnceLedger$Producer", "transaction", "I", false)
  | 2 => ("OnceLedger$Producer", "began", "I", false)
  | 3 => ("OnceLedger$Producer", "beganAt", "I", false)
  | 4 => ("OnceLedger$Producer", "added", "I", false)
  | 5 => ("OnceLedger$Producer", "laters", "I", false)
  | _ => ("OnceLedger$Producer", "decision", "I", false)
def tyX2 : Nat → FieldType := fun k => match k with
  | 0 => .int
  | 1 => .int
  | 2 => .int
  | 3 => .int
  | 4 => .int
  | 5 => .int
  | _ => .int
abbrev wsX20 : List Cond := u_ws RX2 TX2 7
theorem nmX2 : ∀ a, a < 7 → ∀ b, b < 7 → a ≠ b → (TX2 a).2.1 ≠ (TX2 b).2.1 := by decide +kernel
theorem tyX2_ok : ∀ k, k < 7 → parseFieldDescriptor (TX2 k).2.2.1 = some (tyX2 k) := by decide +kernel
abbrev cX2_init : ByteArray := prog_4_method_1_code
def yX2_init : MethodName := ⟨RX2, "<init>", "()V"⟩
abbrev cX2_forget : ByteArray := prog_4_method_2_code
def yX2_forget : MethodName := ⟨RX2, "forget", "()V"⟩
abbrev cX2_openTransaction : ByteArray := prog_4_method_3_code
def yX2_openTransaction : MethodName := ⟨RX2, "openTransaction", "(III)V"⟩
abbrev cX2_closeTransaction : ByteArray := prog_4_method_4_code
def yX2_closeTransaction : MethodName := ⟨RX2, "closeTransaction", "()V"⟩
abbrev cX2_isOpen : ByteArray := prog_4_method_5_code
def yX2_isOpen : MethodName := ⟨RX2, "isOpen", "()Z"⟩
abbrev cX2_hasAdded : ByteArray := prog_4_method_6_code
def yX2_hasAdded : MethodName := ⟨RX2, "hasAdded", "(I)Z"⟩
def RX3 : String := "OnceLedger$Unsynced"
def TX3 : u_T := fun k => match k with
  | 0 => ("OnceLedger$Unsynced", "files", "[I", true)
  | 1 => ("OnceLedger$Unsynced", "sizes", "[I", true)
  | 2 => ("OnceLedger$Unsynced", "byFile", "[I", true)
  | 3 => ("OnceLedger$Unsynced", "pieces", "I", false)
  | _ => ("OnceLedger$Unsynced", "bytes", "I", false)
def tyX3 : Nat → FieldType := fun k => match k with
  | 0 => .array .int
  | 1 => .array .int
  | 2 => .array .int
  | 3 => .int
  | _ => .int
abbrev wsX30 : List Cond := u_ws RX3 TX3 5
theorem nmX3 : ∀ a, a < 5 → ∀ b, b < 5 → a ≠ b → (TX3 a).2.1 ≠ (TX3 b).2.1 := by decide +kernel
theorem tyX3_ok : ∀ k, k < 5 → parseFieldDescriptor (TX3 k).2.2.1 = some (tyX3 k) := by decide +kernel
abbrev cX3_init : ByteArray := prog_5_method_1_code
def yX3_init : MethodName := ⟨RX3, "<init>", "()V"⟩
abbrev cX3_clear : ByteArray := prog_5_method_2_code
def yX3_clear : MethodName := ⟨RX3, "clear", "()V"⟩
abbrev cX3_note : ByteArray := prog_5_method_3_code
def yX3_note : MethodName := ⟨RX3, "note", "(II)V"⟩
abbrev cX3_bytesOf : ByteArray := prog_5_method_4_code
def yX3_bytesOf : MethodName := ⟨RX3, "bytesOf", "(I)I"⟩
abbrev cX3_keptOf : ByteArray := prog_5_method_5_code
def yX3_keptOf : MethodName := ⟨RX3, "keptOf", "(II)I"⟩
def RX4 : String := "OnceLedger"
def TX4 : u_T := fun k => match k with
  | 0 => ("OnceLedger", "tape", "LOnceLedger$ByteRow;", true)
  | 1 => ("OnceLedger", "fetched", "LOnceLedger$ByteRow;", true)
  | 2 => ("OnceLedger", "noPayload", "LOnceLedger$ByteRow;", true)
  | 3 => ("OnceLedger", "logs", "[LOnceLedger$Log;", true)
  | 4 => ("OnceLedger", "book", "LOnceLedger$ByteRow;", true)
  | 5 => ("OnceLedger", "unsynced", "LOnceLedger$Unsynced;", true)
  | 6 => ("OnceLedger", "producers", "[LOnceLedger$Producer;", true)
  | 7 => ("OnceLedger", "marks", "[I", true)
  | 8 => ("OnceLedger", "partitions", "I", false)
  | 9 => ("OnceLedger", "capacity", "I", false)
  | 10 => ("OnceLedger", "timeout", "I", false)
  | 11 => ("OnceLedger", "clock", "I", false)
  | 12 => ("OnceLedger", "closed", "Z", false)
  | 13 => ("OnceLedger", "cutBytes", "I", false)
  | _ => ("OnceLedger", "nextTransaction", "I", false)
def tyX4 : Nat → FieldType := fun k => match k with
  | 0 => .object "OnceLedger$ByteRow"
  | 1 => .object "OnceLedger$ByteRow"
  | 2 => .object "OnceLedger$ByteRow"
  | 3 => .array (.object "OnceLedger$Log")
  | 4 => .object "OnceLedger$ByteRow"
  | 5 => .object "OnceLedger$Unsynced"
  | 6 => .array (.object "OnceLedger$Producer")
  | 7 => .array .int
  | 8 => .int
  | 9 => .int
  | 10 => .int
  | 11 => .int
  | 12 => .boolean
  | 13 => .int
  | _ => .int
abbrev wsX40 : List Cond := u_ws RX4 TX4 15
theorem nmX4 : ∀ a, a < 15 → ∀ b, b < 15 → a ≠ b → (TX4 a).2.1 ≠ (TX4 b).2.1 := by decide +kernel
theorem tyX4_ok : ∀ k, k < 15 → parseFieldDescriptor (TX4 k).2.2.1 = some (tyX4 k) := by decide +kernel
abbrev cX4_init : ByteArray := prog_1_method_1_code
def yX4_init : MethodName := ⟨RX4, "<init>", "()V"⟩
abbrev cX4_format : ByteArray := prog_1_method_2_code
def yX4_format : MethodName := ⟨RX4, "format", "(III)Z"⟩
abbrev cX4_feed : ByteArray := prog_1_method_3_code
def yX4_feed : MethodName := ⟨RX4, "feed", "(IJJ)I"⟩
abbrev cX4_register : ByteArray := prog_1_method_4_code
def yX4_register : MethodName := ⟨RX4, "register", "(I)I"⟩
abbrev cX4_begin : ByteArray := prog_1_method_5_code
def yX4_begin : MethodName := ⟨RX4, "begin", "(II)I"⟩
abbrev cX4_send : ByteArray := prog_1_method_6_code
def yX4_send : MethodName := ⟨RX4, "send", "(IIIIZ)I"⟩
abbrev cX4_later : ByteArray := prog_1_method_7_code
def yX4_later : MethodName := ⟨RX4, "later", "(IIIII)I"⟩
abbrev cX4_end : ByteArray := prog_1_method_8_code
def yX4_end : MethodName := ⟨RX4, "end", "(IIZ)I"⟩
abbrev cX4_mark : ByteArray := prog_1_method_9_code
def yX4_mark : MethodName := ⟨RX4, "mark", "(III)I"⟩
abbrev cX4_marked : ByteArray := prog_1_method_10_code
def yX4_marked : MethodName := ⟨RX4, "marked", "(II)I"⟩
abbrev cX4_tick : ByteArray := prog_1_method_11_code
def yX4_tick : MethodName := ⟨RX4, "tick", "(I)I"⟩
abbrev cX4_fetch : ByteArray := prog_1_method_12_code
def yX4_fetch : MethodName := ⟨RX4, "fetch", "(IIZ)I"⟩
abbrev cX4_answer : ByteArray := prog_1_method_13_code
def yX4_answer : MethodName := ⟨RX4, "answer", "(I)I"⟩
abbrev cX4_sync : ByteArray := prog_1_method_14_code
def yX4_sync : MethodName := ⟨RX4, "sync", "()I"⟩
abbrev cX4_crash : ByteArray := prog_1_method_15_code
def yX4_crash : MethodName := ⟨RX4, "crash", "(I)I"⟩
abbrev cX4_open : ByteArray := prog_1_method_16_code
def yX4_open : MethodName := ⟨RX4, "open", "()I"⟩
abbrev cX4_partition : ByteArray := prog_1_method_17_code
def yX4_partition : MethodName := ⟨RX4, "partition", "(II)I"⟩
abbrev cX4_entry : ByteArray := prog_1_method_18_code
def yX4_entry : MethodName := ⟨RX4, "entry", "(III)I"⟩
abbrev cX4_producer : ByteArray := prog_1_method_19_code
def yX4_producer : MethodName := ⟨RX4, "producer", "(II)I"⟩
abbrev cX4_next : ByteArray := prog_1_method_20_code
def yX4_next : MethodName := ⟨RX4, "next", "(II)I"⟩
abbrev cX4_byteOf : ByteArray := prog_1_method_21_code
def yX4_byteOf : MethodName := ⟨RX4, "byteOf", "(II)I"⟩
abbrev cX4_count : ByteArray := prog_1_method_22_code
def yX4_count : MethodName := ⟨RX4, "count", "(I)I"⟩
abbrev cX4_build : ByteArray := prog_1_method_23_code
def yX4_build : MethodName := ⟨RX4, "build", "(III)V"⟩
abbrev cX4_forget : ByteArray := prog_1_method_24_code
def yX4_forget : MethodName := ⟨RX4, "forget", "()V"⟩
abbrev cX4_isKey : ByteArray := prog_1_method_25_code
def yX4_isKey : MethodName := ⟨RX4, "isKey", "(I)Z"⟩
abbrev cX4_isRegistered : ByteArray := prog_1_method_26_code
def yX4_isRegistered : MethodName := ⟨RX4, "isRegistered", "(I)Z"⟩
abbrev cX4_isPartition : ByteArray := prog_1_method_27_code
def yX4_isPartition : MethodName := ⟨RX4, "isPartition", "(I)Z"⟩
abbrev cX4_isPlace : ByteArray := prog_1_method_28_code
def yX4_isPlace : MethodName := ⟨RX4, "isPlace", "(II)Z"⟩
abbrev cX4_placeOf : ByteArray := prog_1_method_29_code
def yX4_placeOf : MethodName := ⟨RX4, "placeOf", "(II)I"⟩
abbrev cX4_rowOf : ByteArray := prog_1_method_30_code
def yX4_rowOf : MethodName := ⟨RX4, "rowOf", "(I)LOnceLedger$ByteRow;"⟩
abbrev cX4_refusalOf : ByteArray := prog_1_method_31_code
def yX4_refusalOf : MethodName := ⟨RX4, "refusalOf", "(IIZ)I"⟩
abbrev cX4_takeSent : ByteArray := prog_1_method_32_code
def yX4_takeSent : MethodName := ⟨RX4, "takeSent", "(IIIIZ)I"⟩
abbrev cX4_logHasRoom : ByteArray := prog_1_method_33_code
def yX4_logHasRoom : MethodName := ⟨RX4, "logHasRoom", "(IZ)Z"⟩
abbrev cX4_bookHasRoom : ByteArray := prog_1_method_34_code
def yX4_bookHasRoom : MethodName := ⟨RX4, "bookHasRoom", "(I)Z"⟩
abbrev cX4_registeredProducers : ByteArray := prog_1_method_35_code
def yX4_registeredProducers : MethodName := ⟨RX4, "registeredProducers", "()I"⟩
abbrev cX4_openTransactions : ByteArray := prog_1_method_36_code
def yX4_openTransactions : MethodName := ⟨RX4, "openTransactions", "()I"⟩
abbrev cX4_openThatAdded : ByteArray := prog_1_method_37_code
def yX4_openThatAdded : MethodName := ⟨RX4, "openThatAdded", "(I)I"⟩
abbrev cX4_writeToLog : ByteArray := prog_1_method_38_code
def yX4_writeToLog : MethodName := ⟨RX4, "writeToLog", "(IIIIILOnceLedger$ByteRow;)I"⟩
abbrev cX4_writeToBook : ByteArray := prog_1_method_39_code
def yX4_writeToBook : MethodName := ⟨RX4, "writeToBook", "(IIIII)V"⟩
abbrev cX4_learn : ByteArray := prog_1_method_40_code
def yX4_learn : MethodName := ⟨RX4, "learn", "(I)V"⟩
abbrev cX4_markLaters : ByteArray := prog_1_method_41_code
def yX4_markLaters : MethodName := ⟨RX4, "markLaters", "(III)V"⟩
abbrev cX4_setMark : ByteArray := prog_1_method_42_code
def yX4_setMark : MethodName := ⟨RX4, "setMark", "(II)V"⟩
abbrev cX4_raiseEpoch : ByteArray := prog_1_method_43_code
def yX4_raiseEpoch : MethodName := ⟨RX4, "raiseEpoch", "(I)V"⟩
abbrev cX4_decide : ByteArray := prog_1_method_44_code
def yX4_decide : MethodName := ⟨RX4, "decide", "(IZ)V"⟩
abbrev cX4_finish : ByteArray := prog_1_method_45_code
def yX4_finish : MethodName := ⟨RX4, "finish", "(I)V"⟩
abbrev cX4_endOverdue : ByteArray := prog_1_method_46_code
def yX4_endOverdue : MethodName := ⟨RX4, "endOverdue", "()I"⟩
abbrev cX4_finishDecided : ByteArray := prog_1_method_47_code
def yX4_finishDecided : MethodName := ⟨RX4, "finishDecided", "()I"⟩
abbrev cX4_firstToEnd : ByteArray := prog_1_method_48_code
def yX4_firstToEnd : MethodName := ⟨RX4, "firstToEnd", "(Z)I"⟩
def RX5 : String := "OnceLedgerModel"
def TX5 : u_T := fun k => match k with
  | 0 => ("OnceLedgerModel", "partitions", "I", false)
  | 1 => ("OnceLedgerModel", "capacity", "I", false)
  | 2 => ("OnceLedgerModel", "timeout", "I", false)
  | 3 => ("OnceLedgerModel", "clock", "I", false)
  | 4 => ("OnceLedgerModel", "closed", "Z", false)
  | 5 => ("OnceLedgerModel", "cut", "I", false)
  | 6 => ("OnceLedgerModel", "many", "I", false)
  | 7 => ("OnceLedgerModel", "synced", "I", false)
  | 8 => ("OnceLedgerModel", "file", "[I", true)
  | 9 => ("OnceLedgerModel", "kind", "[I", true)
  | 10 => ("OnceLedgerModel", "key", "[I", true)
  | 11 => ("OnceLedgerModel", "epoch", "[I", true)
  | 12 => ("OnceLedgerModel", "a", "[I", true)
  | 13 => ("OnceLedgerModel", "b", "[I", true)
  | 14 => ("OnceLedgerModel", "of", "[I", true)
  | 15 => ("OnceLedgerModel", "payload", "[B", true)
  | 16 => ("OnceLedgerModel", "torn", "I", false)
  | 17 => ("OnceLedgerModel", "is", "[Z", true)
  | 18 => ("OnceLedgerModel", "now", "[I", true)
  | 19 => ("OnceLedgerModel", "open", "[I", true)
  | 20 => ("OnceLedgerModel", "began", "[I", true)
  | 21 => ("OnceLedgerModel", "added", "[I", true)
  | 22 => ("OnceLedgerModel", "next", "I", false)
  | 23 => ("OnceLedgerModel", "marks", "[I", true)
  | 24 => ("OnceLedgerModel", "ended", "[I", true)
  | 25 => ("OnceLedgerModel", "laters", "I", false)
  | 26 => ("OnceLedgerModel", "laterOf", "[I", true)
  | 27 => ("OnceLedgerModel", "laterPlace", "[I", true)
  | 28 => ("OnceLedgerModel", "laterOffset", "[I", true)
  | 29 => ("OnceLedgerModel", "tape", "[B", true)
  | 30 => ("OnceLedgerModel", "taped", "I", false)
  | 31 => ("OnceLedgerModel", "answer", "[B", true)
  | 32 => ("OnceLedgerModel", "answered", "I", false)
  | _ => ("OnceLedgerModel", "decided", "[I", true)
def tyX5 : Nat → FieldType := fun k => match k with
  | 0 => .int
  | 1 => .int
  | 2 => .int
  | 3 => .int
  | 4 => .boolean
  | 5 => .int
  | 6 => .int
  | 7 => .int
  | 8 => .array .int
  | 9 => .array .int
  | 10 => .array .int
  | 11 => .array .int
  | 12 => .array .int
  | 13 => .array .int
  | 14 => .array .int
  | 15 => .array .byte
  | 16 => .int
  | 17 => .array .boolean
  | 18 => .array .int
  | 19 => .array .int
  | 20 => .array .int
  | 21 => .array .int
  | 22 => .int
  | 23 => .array .int
  | 24 => .array .int
  | 25 => .int
  | 26 => .array .int
  | 27 => .array .int
  | 28 => .array .int
  | 29 => .array .byte
  | 30 => .int
  | 31 => .array .byte
  | 32 => .int
  | _ => .array .int
abbrev wsX50 : List Cond := u_ws RX5 TX5 34
theorem nmX5 : ∀ a, a < 34 → ∀ b, b < 34 → a ≠ b → (TX5 a).2.1 ≠ (TX5 b).2.1 := by decide +kernel
theorem tyX5_ok : ∀ k, k < 34 → parseFieldDescriptor (TX5 k).2.2.1 = some (tyX5 k) := by decide +kernel
abbrev cX5_init : ByteArray := prog_7_method_1_code
def yX5_init : MethodName := ⟨RX5, "<init>", "()V"⟩
abbrev cX5_forgets : ByteArray := prog_7_method_2_code
def yX5_forgets : MethodName := ⟨RX5, "forgets", "()V"⟩
abbrev cX5_format : ByteArray := prog_7_method_3_code
def yX5_format : MethodName := ⟨RX5, "format", "(III)Z"⟩
abbrev cX5_sizeOf : ByteArray := prog_7_method_4_code
def yX5_sizeOf : MethodName := ⟨RX5, "sizeOf", "(I)I"⟩
abbrev cX5_bytesFrom : ByteArray := prog_7_method_5_code
def yX5_bytesFrom : MethodName := ⟨RX5, "bytesFrom", "(II)I"⟩
abbrev cX5_unsynced : ByteArray := prog_7_method_6_code
def yX5_unsynced : MethodName := ⟨RX5, "unsynced", "()I"⟩
abbrev cX5_add : ByteArray := prog_7_method_7_code
def yX5_add : MethodName := ⟨RX5, "add", "(IIIIII)I"⟩
abbrev cX5_opened : ByteArray := prog_7_method_8_code
def yX5_opened : MethodName := ⟨RX5, "opened", "()I"⟩
abbrev cX5_openedAt : ByteArray := prog_7_method_9_code
def yX5_openedAt : MethodName := ⟨RX5, "openedAt", "(I)I"⟩
abbrev cX5_bookHas : ByteArray := prog_7_method_10_code
def yX5_bookHas : MethodName := ⟨RX5, "bookHas", "(II)Z"⟩
abbrev cX5_refused : ByteArray := prog_7_method_11_code
def yX5_refused : MethodName := ⟨RX5, "refused", "(II)I"⟩
abbrev cX5_registers : ByteArray := prog_7_method_12_code
def yX5_registers : MethodName := ⟨RX5, "registers", "(I)V"⟩
abbrev cX5_marksOf : ByteArray := prog_7_method_13_code
def yX5_marksOf : MethodName := ⟨RX5, "marksOf", "(I)V"⟩
abbrev cX5_finishes : ByteArray := prog_7_method_14_code
def yX5_finishes : MethodName := ⟨RX5, "finishes", "(IZ)V"⟩
abbrev cX5_closes : ByteArray := prog_7_method_15_code
def yX5_closes : MethodName := ⟨RX5, "closes", "(IZ)V"⟩
abbrev cX5_ends : ByteArray := prog_7_method_16_code
def yX5_ends : MethodName := ⟨RX5, "ends", "(IZ)V"⟩
abbrev cX5_register : ByteArray := prog_7_method_17_code
def yX5_register : MethodName := ⟨RX5, "register", "(I)I"⟩
abbrev cX5_begins : ByteArray := prog_7_method_18_code
def yX5_begins : MethodName := ⟨RX5, "begins", "(III)V"⟩
abbrev cX5_begin : ByteArray := prog_7_method_19_code
def yX5_begin : MethodName := ⟨RX5, "begin", "(II)I"⟩
abbrev cX5_offsetOf : ByteArray := prog_7_method_20_code
def yX5_offsetOf : MethodName := ⟨RX5, "offsetOf", "(I)I"⟩
abbrev cX5_nextOf : ByteArray := prog_7_method_21_code
def yX5_nextOf : MethodName := ⟨RX5, "nextOf", "(II)I"⟩
abbrev cX5_again : ByteArray := prog_7_method_22_code
def yX5_again : MethodName := ⟨RX5, "again", "(III)I"⟩
abbrev cX5_send : ByteArray := prog_7_method_23_code
def yX5_send : MethodName := ⟨RX5, "send", "(IIIIZ)I"⟩
abbrev cX5_isGroup : ByteArray := prog_7_method_24_code
def yX5_isGroup : MethodName := ⟨RX5, "isGroup", "(I)Z"⟩
abbrev cX5_isPartition : ByteArray := prog_7_method_25_code
def yX5_isPartition : MethodName := ⟨RX5, "isPartition", "(I)Z"⟩
abbrev cX5_later : ByteArray := prog_7_method_26_code
def yX5_later : MethodName := ⟨RX5, "later", "(III)V"⟩
abbrev cX5_later_ : ByteArray := prog_7_method_27_code
def yX5_later_ : MethodName := ⟨RX5, "later", "(IIIII)I"⟩
abbrev cX5_end : ByteArray := prog_7_method_28_code
def yX5_end : MethodName := ⟨RX5, "end", "(IIZ)I"⟩
abbrev cX5_mark : ByteArray := prog_7_method_29_code
def yX5_mark : MethodName := ⟨RX5, "mark", "(III)I"⟩
abbrev cX5_marked : ByteArray := prog_7_method_30_code
def yX5_marked : MethodName := ⟨RX5, "marked", "(II)I"⟩
abbrev cX5_tick : ByteArray := prog_7_method_31_code
def yX5_tick : MethodName := ⟨RX5, "tick", "(I)I"⟩
abbrev cX5_manyOf : ByteArray := prog_7_method_32_code
def yX5_manyOf : MethodName := ⟨RX5, "manyOf", "(I)I"⟩
abbrev cX5_stable : ByteArray := prog_7_method_33_code
def yX5_stable : MethodName := ⟨RX5, "stable", "(I)I"⟩
abbrev cX5_isSeen : ByteArray := prog_7_method_34_code
def yX5_isSeen : MethodName := ⟨RX5, "isSeen", "(IZII)Z"⟩
abbrev cX5_fetch : ByteArray := prog_7_method_35_code
def yX5_fetch : MethodName := ⟨RX5, "fetch", "(IIZ)I"⟩
abbrev cX5_answer : ByteArray := prog_7_method_36_code
def yX5_answer : MethodName := ⟨RX5, "answer", "(I)I"⟩
abbrev cX5_feed : ByteArray := prog_7_method_37_code
def yX5_feed : MethodName := ⟨RX5, "feed", "(IJJ)I"⟩
abbrev cX5_sync : ByteArray := prog_7_method_38_code
def yX5_sync : MethodName := ⟨RX5, "sync", "()I"⟩
abbrev cX5_crash : ByteArray := prog_7_method_39_code
def yX5_crash : MethodName := ⟨RX5, "crash", "(I)I"⟩
abbrev cX5_tells : ByteArray := prog_7_method_40_code
def yX5_tells : MethodName := ⟨RX5, "tells", "(I)V"⟩
abbrev cX5_open : ByteArray := prog_7_method_41_code
def yX5_open : MethodName := ⟨RX5, "open", "()I"⟩
abbrev cX5_partition : ByteArray := prog_7_method_42_code
def yX5_partition : MethodName := ⟨RX5, "partition", "(II)I"⟩
abbrev cX5_bytesOf : ByteArray := prog_7_method_43_code
def yX5_bytesOf : MethodName := ⟨RX5, "bytesOf", "(I)I"⟩
abbrev cX5_seenOf : ByteArray := prog_7_method_44_code
def yX5_seenOf : MethodName := ⟨RX5, "seenOf", "(I)I"⟩
abbrev cX5_entry : ByteArray := prog_7_method_45_code
def yX5_entry : MethodName := ⟨RX5, "entry", "(III)I"⟩
abbrev cX5_producer : ByteArray := prog_7_method_46_code
def yX5_producer : MethodName := ⟨RX5, "producer", "(II)I"⟩
abbrev cX5_next : ByteArray := prog_7_method_47_code
def yX5_next : MethodName := ⟨RX5, "next", "(II)I"⟩
abbrev cX5_byteIn : ByteArray := prog_7_method_48_code
def yX5_byteIn : MethodName := ⟨RX5, "byteIn", "(III)I"⟩
abbrev cX5_behind : ByteArray := prog_7_method_49_code
def yX5_behind : MethodName := ⟨RX5, "behind", "(II)I"⟩
abbrev cX5_byteAt : ByteArray := prog_7_method_50_code
def yX5_byteAt : MethodName := ⟨RX5, "byteAt", "(II)I"⟩
abbrev cX5_byteOf : ByteArray := prog_7_method_51_code
def yX5_byteOf : MethodName := ⟨RX5, "byteOf", "(II)I"⟩
abbrev cX5_count : ByteArray := prog_7_method_52_code
def yX5_count : MethodName := ⟨RX5, "count", "(I)I"⟩
def RJ9 : String := "java/lang/Math"
def TJ9 : u_T := fun k => match k with
  | _ => ("", "", "", false)
def tyJ9 : Nat → FieldType := fun k => match k with
  | _ => .int
abbrev wsJ90 : List Cond := u_ws RJ9 TJ9 0
theorem nmJ9 : ∀ a, a < 0 → ∀ b, b < 0 → a ≠ b → (TJ9 a).2.1 ≠ (TJ9 b).2.1 := by decide +kernel
theorem tyJ9_ok : ∀ k, k < 0 → parseFieldDescriptor (TJ9 k).2.2.1 = some (tyJ9 k) := by decide +kernel
abbrev cJ9_max_7cf53 : ByteArray := prog_8_method_65_code
def yJ9_max_7cf53 : MethodName := ⟨RJ9, "max", "(II)I"⟩
abbrev cJ9_min_7cf53 : ByteArray := prog_8_method_69_code
def yJ9_min_7cf53 : MethodName := ⟨RJ9, "min", "(II)I"⟩
def RJ7 : String := "java/util/Arrays"
def TJ7 : u_T := fun k => match k with
  | _ => ("", "", "", false)
def tyJ7 : Nat → FieldType := fun k => match k with
  | _ => .int
abbrev wsJ70 : List Cond := u_ws RJ7 TJ7 0
theorem nmJ7 : ∀ a, a < 0 → ∀ b, b < 0 → a ≠ b → (TJ7 a).2.1 ≠ (TJ7 b).2.1 := by decide +kernel
theorem tyJ7_ok : ∀ k, k < 0 → parseFieldDescriptor (TJ7 k).2.2.1 = some (tyJ7 k) := by decide +kernel
abbrev cJ7_fill_53178 : ByteArray := prog_9_method_103_code
def yJ7_fill_53178 : MethodName := ⟨RJ7, "fill", "([II)V"⟩
def RL : String := "OnceLedgerLaw"
abbrev cL_law : ByteArray := code
def yL_law : MethodName := ⟨RL, "law", "([I)Z"⟩
abbrev vwCl : List vw_C := [(RX0, TX0, 2), (RX1, TX1, 5), (RX2, TX2, 7), (RX3, TX3, 5), (RX4, TX4, 15), (RX5, TX5, 34)]
theorem iX0 : ∀ w ∈ wsX00, w ∈ lw_tbl := by decide +kernel
theorem iX1 : ∀ w ∈ wsX10, w ∈ lw_tbl := by decide +kernel
theorem iX2 : ∀ w ∈ wsX20, w ∈ lw_tbl := by decide +kernel
theorem iX3 : ∀ w ∈ wsX30, w ∈ lw_tbl := by decide +kernel
theorem iX4 : ∀ w ∈ wsX40, w ∈ lw_tbl := by decide +kernel
theorem iX5 : ∀ w ∈ wsX50, w ∈ lw_tbl := by decide +kernel
