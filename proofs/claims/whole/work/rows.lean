section
-- ===== PART A: goes FIRST, ahead of the names: the tables' words, and 'selects' of the private methods out of them =====
/-- a private method of a class that the tables say can be made, by its rows of tables_1 -/
def lw_okq (q : MethodName × Nat) : Prop := (q.1.cls ≠ "java/lang/invoke/MethodHandle" ∧ q.1.cls ≠ "java/lang/invoke/VarHandle") ∧ Cond.instantiable q.1.cls q.2 ∈ tables_1 ∧ Cond.privateMethod q.1 ∈ tables_1 ∧ Cond.instanceMethod q.1 ∈ tables_1
theorem lw_p0 : lw_okq (⟨"OnceLedger", "build", "(III)V"⟩, 15) := ⟨⟨by decide +kernel, by decide +kernel⟩, List.mem_of_getElem? (i := 10) (by decide +kernel), List.mem_of_getElem? (i := 125) (by decide +kernel), List.mem_of_getElem? (i := 126) (by decide +kernel)⟩
theorem lw_p1 : lw_okq (⟨"OnceLedger", "forget", "()V"⟩, 15) := ⟨⟨by decide +kernel, by decide +kernel⟩, List.mem_of_getElem? (i := 10) (by decide +kernel), List.mem_of_getElem? (i := 145) (by decide +kernel), List.mem_of_getElem? (i := 146) (by decide +kernel)⟩
theorem lw_p2 : lw_okq (⟨"OnceLedger", "isKey", "(I)Z"⟩, 15) := ⟨⟨by decide +kernel, by decide +kernel⟩, List.mem_of_getElem? (i := 10) (by decide +kernel), List.mem_of_getElem? (i := 220) (by decide +kernel), List.mem_of_getElem? (i := 221) (by decide +kernel)⟩
theorem lw_p3 : lw_okq (⟨"OnceLedger", "decide", "(IZ)V"⟩, 15) := ⟨⟨by decide +kernel, by decide +kernel⟩, List.mem_of_getElem? (i := 10) (by decide +kernel), List.mem_of_getElem? (i := 228) (by decide +kernel), List.mem_of_getElem? (i := 229) (by decide +kernel)⟩
theorem lw_p4 : lw_okq (⟨"OnceLedger", "writeToBook", "(IIIII)V"⟩, 15) := ⟨⟨by decide +kernel, by decide +kernel⟩, List.mem_of_getElem? (i := 10) (by decide +kernel), List.mem_of_getElem? (i := 232) (by decide +kernel), List.mem_of_getElem? (i := 233) (by decide +kernel)⟩
theorem lw_p5 : lw_okq (⟨"OnceLedger", "learn", "(I)V"⟩, 15) := ⟨⟨by decide +kernel, by decide +kernel⟩, List.mem_of_getElem? (i := 10) (by decide +kernel), List.mem_of_getElem? (i := 249) (by decide +kernel), List.mem_of_getElem? (i := 250) (by decide +kernel)⟩
theorem lw_p6 : lw_okq (⟨"OnceLedger", "markLaters", "(III)V"⟩, 15) := ⟨⟨by decide +kernel, by decide +kernel⟩, List.mem_of_getElem? (i := 10) (by decide +kernel), List.mem_of_getElem? (i := 261) (by decide +kernel), List.mem_of_getElem? (i := 262) (by decide +kernel)⟩
theorem lw_p7 : lw_okq (⟨"OnceLedger", "setMark", "(II)V"⟩, 15) := ⟨⟨by decide +kernel, by decide +kernel⟩, List.mem_of_getElem? (i := 10) (by decide +kernel), List.mem_of_getElem? (i := 265) (by decide +kernel), List.mem_of_getElem? (i := 266) (by decide +kernel)⟩
theorem lw_p8 : lw_okq (⟨"OnceLedger", "finish", "(I)V"⟩, 15) := ⟨⟨by decide +kernel, by decide +kernel⟩, List.mem_of_getElem? (i := 10) (by decide +kernel), List.mem_of_getElem? (i := 270) (by decide +kernel), List.mem_of_getElem? (i := 271) (by decide +kernel)⟩
theorem lw_p9 : lw_okq (⟨"OnceLedger", "writeToLog", "(IIIIILOnceLedger$ByteRow;)I"⟩, 15) := ⟨⟨by decide +kernel, by decide +kernel⟩, List.mem_of_getElem? (i := 10) (by decide +kernel), List.mem_of_getElem? (i := 299) (by decide +kernel), List.mem_of_getElem? (i := 300) (by decide +kernel)⟩
theorem lw_p10 : lw_okq (⟨"OnceLedger", "bookHasRoom", "(I)Z"⟩, 15) := ⟨⟨by decide +kernel, by decide +kernel⟩, List.mem_of_getElem? (i := 10) (by decide +kernel), List.mem_of_getElem? (i := 314) (by decide +kernel), List.mem_of_getElem? (i := 315) (by decide +kernel)⟩
theorem lw_p11 : lw_okq (⟨"OnceLedger", "openTransactions", "()I"⟩, 15) := ⟨⟨by decide +kernel, by decide +kernel⟩, List.mem_of_getElem? (i := 10) (by decide +kernel), List.mem_of_getElem? (i := 318) (by decide +kernel), List.mem_of_getElem? (i := 319) (by decide +kernel)⟩
theorem lw_p12 : lw_okq (⟨"OnceLedger", "raiseEpoch", "(I)V"⟩, 15) := ⟨⟨by decide +kernel, by decide +kernel⟩, List.mem_of_getElem? (i := 10) (by decide +kernel), List.mem_of_getElem? (i := 322) (by decide +kernel), List.mem_of_getElem? (i := 323) (by decide +kernel)⟩
theorem lw_p13 : lw_okq (⟨"OnceLedger", "refusalOf", "(IIZ)I"⟩, 15) := ⟨⟨by decide +kernel, by decide +kernel⟩, List.mem_of_getElem? (i := 10) (by decide +kernel), List.mem_of_getElem? (i := 330) (by decide +kernel), List.mem_of_getElem? (i := 331) (by decide +kernel)⟩
theorem lw_p14 : lw_okq (⟨"OnceLedger", "isRegistered", "(I)Z"⟩, 15) := ⟨⟨by decide +kernel, by decide +kernel⟩, List.mem_of_getElem? (i := 10) (by decide +kernel), List.mem_of_getElem? (i := 334) (by decide +kernel), List.mem_of_getElem? (i := 335) (by decide +kernel)⟩
theorem lw_p15 : lw_okq (⟨"OnceLedger", "takeSent", "(IIIIZ)I"⟩, 15) := ⟨⟨by decide +kernel, by decide +kernel⟩, List.mem_of_getElem? (i := 10) (by decide +kernel), List.mem_of_getElem? (i := 342) (by decide +kernel), List.mem_of_getElem? (i := 343) (by decide +kernel)⟩
def lw_privs_1 : List (MethodName × Nat) := [(⟨"OnceLedger", "build", "(III)V"⟩, 15), (⟨"OnceLedger", "forget", "()V"⟩, 15), (⟨"OnceLedger", "isKey", "(I)Z"⟩, 15), (⟨"OnceLedger", "decide", "(IZ)V"⟩, 15), (⟨"OnceLedger", "writeToBook", "(IIIII)V"⟩, 15), (⟨"OnceLedger", "learn", "(I)V"⟩, 15), (⟨"OnceLedger", "markLaters", "(III)V"⟩, 15), (⟨"OnceLedger", "setMark", "(II)V"⟩, 15), (⟨"OnceLedger", "finish", "(I)V"⟩, 15), (⟨"OnceLedger", "writeToLog", "(IIIIILOnceLedger$ByteRow;)I"⟩, 15), (⟨"OnceLedger", "bookHasRoom", "(I)Z"⟩, 15), (⟨"OnceLedger", "openTransactions", "()I"⟩, 15), (⟨"OnceLedger", "raiseEpoch", "(I)V"⟩, 15), (⟨"OnceLedger", "refusalOf", "(IIZ)I"⟩, 15), (⟨"OnceLedger", "isRegistered", "(I)Z"⟩, 15), (⟨"OnceLedger", "takeSent", "(IIIIZ)I"⟩, 15)]
theorem lw_r1 : ∀ q ∈ lw_privs_1, lw_okq q := List.forall_mem_cons.mpr ⟨lw_p0, List.forall_mem_cons.mpr ⟨lw_p1, List.forall_mem_cons.mpr ⟨lw_p2, List.forall_mem_cons.mpr ⟨lw_p3, List.forall_mem_cons.mpr ⟨lw_p4, List.forall_mem_cons.mpr ⟨lw_p5, List.forall_mem_cons.mpr ⟨lw_p6, List.forall_mem_cons.mpr ⟨lw_p7, List.forall_mem_cons.mpr ⟨lw_p8, List.forall_mem_cons.mpr ⟨lw_p9, List.forall_mem_cons.mpr ⟨lw_p10, List.forall_mem_cons.mpr ⟨lw_p11, List.forall_mem_cons.mpr ⟨lw_p12, List.forall_mem_cons.mpr ⟨lw_p13, List.forall_mem_cons.mpr ⟨lw_p14, List.forall_mem_cons.mpr ⟨lw_p15, fun _ h => absurd h List.not_mem_nil⟩⟩⟩⟩⟩⟩⟩⟩⟩⟩⟩⟩⟩⟩⟩⟩
theorem lw_p16 : lw_okq (⟨"OnceLedger", "isPartition", "(I)Z"⟩, 15) := ⟨⟨by decide +kernel, by decide +kernel⟩, List.mem_of_getElem? (i := 10) (by decide +kernel), List.mem_of_getElem? (i := 346) (by decide +kernel), List.mem_of_getElem? (i := 347) (by decide +kernel)⟩
theorem lw_p17 : lw_okq (⟨"OnceLedger", "logHasRoom", "(IZ)Z"⟩, 15) := ⟨⟨by decide +kernel, by decide +kernel⟩, List.mem_of_getElem? (i := 10) (by decide +kernel), List.mem_of_getElem? (i := 362) (by decide +kernel), List.mem_of_getElem? (i := 363) (by decide +kernel)⟩
theorem lw_p18 : lw_okq (⟨"OnceLedger", "openThatAdded", "(I)I"⟩, 15) := ⟨⟨by decide +kernel, by decide +kernel⟩, List.mem_of_getElem? (i := 10) (by decide +kernel), List.mem_of_getElem? (i := 366) (by decide +kernel), List.mem_of_getElem? (i := 367) (by decide +kernel)⟩
theorem lw_p19 : lw_okq (⟨"OnceLedger", "isPlace", "(II)Z"⟩, 15) := ⟨⟨by decide +kernel, by decide +kernel⟩, List.mem_of_getElem? (i := 10) (by decide +kernel), List.mem_of_getElem? (i := 374) (by decide +kernel), List.mem_of_getElem? (i := 375) (by decide +kernel)⟩
theorem lw_p20 : lw_okq (⟨"OnceLedger", "placeOf", "(II)I"⟩, 15) := ⟨⟨by decide +kernel, by decide +kernel⟩, List.mem_of_getElem? (i := 10) (by decide +kernel), List.mem_of_getElem? (i := 378) (by decide +kernel), List.mem_of_getElem? (i := 379) (by decide +kernel)⟩
theorem lw_p21 : lw_okq (⟨"OnceLedger", "endOverdue", "()I"⟩, 15) := ⟨⟨by decide +kernel, by decide +kernel⟩, List.mem_of_getElem? (i := 10) (by decide +kernel), List.mem_of_getElem? (i := 399) (by decide +kernel), List.mem_of_getElem? (i := 400) (by decide +kernel)⟩
theorem lw_p22 : lw_okq (⟨"OnceLedger", "firstToEnd", "(Z)I"⟩, 15) := ⟨⟨by decide +kernel, by decide +kernel⟩, List.mem_of_getElem? (i := 10) (by decide +kernel), List.mem_of_getElem? (i := 403) (by decide +kernel), List.mem_of_getElem? (i := 404) (by decide +kernel)⟩
theorem lw_p23 : lw_okq (⟨"OnceLedger", "rowOf", "(I)LOnceLedger$ByteRow;"⟩, 15) := ⟨⟨by decide +kernel, by decide +kernel⟩, List.mem_of_getElem? (i := 10) (by decide +kernel), List.mem_of_getElem? (i := 445) (by decide +kernel), List.mem_of_getElem? (i := 446) (by decide +kernel)⟩
theorem lw_p24 : lw_okq (⟨"OnceLedger", "finishDecided", "()I"⟩, 15) := ⟨⟨by decide +kernel, by decide +kernel⟩, List.mem_of_getElem? (i := 10) (by decide +kernel), List.mem_of_getElem? (i := 475) (by decide +kernel), List.mem_of_getElem? (i := 476) (by decide +kernel)⟩
theorem lw_p25 : lw_okq (⟨"OnceLedger", "registeredProducers", "()I"⟩, 15) := ⟨⟨by decide +kernel, by decide +kernel⟩, List.mem_of_getElem? (i := 10) (by decide +kernel), List.mem_of_getElem? (i := 513) (by decide +kernel), List.mem_of_getElem? (i := 514) (by decide +kernel)⟩
theorem lw_p26 : lw_okq (⟨"OnceLedgerModel", "forgets", "()V"⟩, 34) := ⟨⟨by decide +kernel, by decide +kernel⟩, List.mem_of_getElem? (i := 517) (by decide +kernel), List.mem_of_getElem? (i := 528) (by decide +kernel), List.mem_of_getElem? (i := 529) (by decide +kernel)⟩
theorem lw_p27 : lw_okq (⟨"OnceLedgerModel", "ends", "(IZ)V"⟩, 34) := ⟨⟨by decide +kernel, by decide +kernel⟩, List.mem_of_getElem? (i := 517) (by decide +kernel), List.mem_of_getElem? (i := 640) (by decide +kernel), List.mem_of_getElem? (i := 641) (by decide +kernel)⟩
theorem lw_p28 : lw_okq (⟨"OnceLedgerModel", "add", "(IIIIII)I"⟩, 34) := ⟨⟨by decide +kernel, by decide +kernel⟩, List.mem_of_getElem? (i := 517) (by decide +kernel), List.mem_of_getElem? (i := 644) (by decide +kernel), List.mem_of_getElem? (i := 645) (by decide +kernel)⟩
theorem lw_p29 : lw_okq (⟨"OnceLedgerModel", "finishes", "(IZ)V"⟩, 34) := ⟨⟨by decide +kernel, by decide +kernel⟩, List.mem_of_getElem? (i := 517) (by decide +kernel), List.mem_of_getElem? (i := 648) (by decide +kernel), List.mem_of_getElem? (i := 649) (by decide +kernel)⟩
theorem lw_p30 : lw_okq (⟨"OnceLedgerModel", "closes", "(IZ)V"⟩, 34) := ⟨⟨by decide +kernel, by decide +kernel⟩, List.mem_of_getElem? (i := 517) (by decide +kernel), List.mem_of_getElem? (i := 652) (by decide +kernel), List.mem_of_getElem? (i := 653) (by decide +kernel)⟩
theorem lw_p31 : lw_okq (⟨"OnceLedgerModel", "marksOf", "(I)V"⟩, 34) := ⟨⟨by decide +kernel, by decide +kernel⟩, List.mem_of_getElem? (i := 517) (by decide +kernel), List.mem_of_getElem? (i := 656) (by decide +kernel), List.mem_of_getElem? (i := 657) (by decide +kernel)⟩
def lw_privs_2 : List (MethodName × Nat) := [(⟨"OnceLedger", "isPartition", "(I)Z"⟩, 15), (⟨"OnceLedger", "logHasRoom", "(IZ)Z"⟩, 15), (⟨"OnceLedger", "openThatAdded", "(I)I"⟩, 15), (⟨"OnceLedger", "isPlace", "(II)Z"⟩, 15), (⟨"OnceLedger", "placeOf", "(II)I"⟩, 15), (⟨"OnceLedger", "endOverdue", "()I"⟩, 15), (⟨"OnceLedger", "firstToEnd", "(Z)I"⟩, 15), (⟨"OnceLedger", "rowOf", "(I)LOnceLedger$ByteRow;"⟩, 15), (⟨"OnceLedger", "finishDecided", "()I"⟩, 15), (⟨"OnceLedger", "registeredProducers", "()I"⟩, 15), (⟨"OnceLedgerModel", "forgets", "()V"⟩, 34), (⟨"OnceLedgerModel", "ends", "(IZ)V"⟩, 34), (⟨"OnceLedgerModel", "add", "(IIIIII)I"⟩, 34), (⟨"OnceLedgerModel", "finishes", "(IZ)V"⟩, 34), (⟨"OnceLedgerModel", "closes", "(IZ)V"⟩, 34), (⟨"OnceLedgerModel", "marksOf", "(I)V"⟩, 34)]
theorem lw_r2 : ∀ q ∈ lw_privs_2, lw_okq q := List.forall_mem_cons.mpr ⟨lw_p16, List.forall_mem_cons.mpr ⟨lw_p17, List.forall_mem_cons.mpr ⟨lw_p18, List.forall_mem_cons.mpr ⟨lw_p19, List.forall_mem_cons.mpr ⟨lw_p20, List.forall_mem_cons.mpr ⟨lw_p21, List.forall_mem_cons.mpr ⟨lw_p22, List.forall_mem_cons.mpr ⟨lw_p23, List.forall_mem_cons.mpr ⟨lw_p24, List.forall_mem_cons.mpr ⟨lw_p25, List.forall_mem_cons.mpr ⟨lw_p26, List.forall_mem_cons.mpr ⟨lw_p27, List.forall_mem_cons.mpr ⟨lw_p28, List.forall_mem_cons.mpr ⟨lw_p29, List.forall_mem_cons.mpr ⟨lw_p30, List.forall_mem_cons.mpr ⟨lw_p31, fun _ h => absurd h List.not_mem_nil⟩⟩⟩⟩⟩⟩⟩⟩⟩⟩⟩⟩⟩⟩⟩⟩
theorem lw_p32 : lw_okq (⟨"OnceLedgerModel", "opened", "()I"⟩, 34) := ⟨⟨by decide +kernel, by decide +kernel⟩, List.mem_of_getElem? (i := 517) (by decide +kernel), List.mem_of_getElem? (i := 660) (by decide +kernel), List.mem_of_getElem? (i := 661) (by decide +kernel)⟩
theorem lw_p33 : lw_okq (⟨"OnceLedgerModel", "bookHas", "(II)Z"⟩, 34) := ⟨⟨by decide +kernel, by decide +kernel⟩, List.mem_of_getElem? (i := 517) (by decide +kernel), List.mem_of_getElem? (i := 664) (by decide +kernel), List.mem_of_getElem? (i := 665) (by decide +kernel)⟩
theorem lw_p34 : lw_okq (⟨"OnceLedgerModel", "bytesFrom", "(II)I"⟩, 34) := ⟨⟨by decide +kernel, by decide +kernel⟩, List.mem_of_getElem? (i := 517) (by decide +kernel), List.mem_of_getElem? (i := 668) (by decide +kernel), List.mem_of_getElem? (i := 669) (by decide +kernel)⟩
theorem lw_p35 : lw_okq (⟨"OnceLedgerModel", "sizeOf", "(I)I"⟩, 34) := ⟨⟨by decide +kernel, by decide +kernel⟩, List.mem_of_getElem? (i := 517) (by decide +kernel), List.mem_of_getElem? (i := 672) (by decide +kernel), List.mem_of_getElem? (i := 673) (by decide +kernel)⟩
theorem lw_p36 : lw_okq (⟨"OnceLedgerModel", "registers", "(I)V"⟩, 34) := ⟨⟨by decide +kernel, by decide +kernel⟩, List.mem_of_getElem? (i := 517) (by decide +kernel), List.mem_of_getElem? (i := 676) (by decide +kernel), List.mem_of_getElem? (i := 677) (by decide +kernel)⟩
theorem lw_p37 : lw_okq (⟨"OnceLedgerModel", "refused", "(II)I"⟩, 34) := ⟨⟨by decide +kernel, by decide +kernel⟩, List.mem_of_getElem? (i := 517) (by decide +kernel), List.mem_of_getElem? (i := 684) (by decide +kernel), List.mem_of_getElem? (i := 685) (by decide +kernel)⟩
theorem lw_p38 : lw_okq (⟨"OnceLedgerModel", "begins", "(III)V"⟩, 34) := ⟨⟨by decide +kernel, by decide +kernel⟩, List.mem_of_getElem? (i := 517) (by decide +kernel), List.mem_of_getElem? (i := 688) (by decide +kernel), List.mem_of_getElem? (i := 689) (by decide +kernel)⟩
theorem lw_p39 : lw_okq (⟨"OnceLedgerModel", "again", "(III)I"⟩, 34) := ⟨⟨by decide +kernel, by decide +kernel⟩, List.mem_of_getElem? (i := 517) (by decide +kernel), List.mem_of_getElem? (i := 696) (by decide +kernel), List.mem_of_getElem? (i := 697) (by decide +kernel)⟩
theorem lw_p40 : lw_okq (⟨"OnceLedgerModel", "offsetOf", "(I)I"⟩, 34) := ⟨⟨by decide +kernel, by decide +kernel⟩, List.mem_of_getElem? (i := 517) (by decide +kernel), List.mem_of_getElem? (i := 700) (by decide +kernel), List.mem_of_getElem? (i := 701) (by decide +kernel)⟩
theorem lw_p41 : lw_okq (⟨"OnceLedgerModel", "nextOf", "(II)I"⟩, 34) := ⟨⟨by decide +kernel, by decide +kernel⟩, List.mem_of_getElem? (i := 517) (by decide +kernel), List.mem_of_getElem? (i := 704) (by decide +kernel), List.mem_of_getElem? (i := 705) (by decide +kernel)⟩
theorem lw_p42 : lw_okq (⟨"OnceLedgerModel", "openedAt", "(I)I"⟩, 34) := ⟨⟨by decide +kernel, by decide +kernel⟩, List.mem_of_getElem? (i := 517) (by decide +kernel), List.mem_of_getElem? (i := 708) (by decide +kernel), List.mem_of_getElem? (i := 709) (by decide +kernel)⟩
theorem lw_p43 : lw_okq (⟨"OnceLedgerModel", "isPartition", "(I)Z"⟩, 34) := ⟨⟨by decide +kernel, by decide +kernel⟩, List.mem_of_getElem? (i := 517) (by decide +kernel), List.mem_of_getElem? (i := 719) (by decide +kernel), List.mem_of_getElem? (i := 720) (by decide +kernel)⟩
theorem lw_p44 : lw_okq (⟨"OnceLedgerModel", "later", "(III)V"⟩, 34) := ⟨⟨by decide +kernel, by decide +kernel⟩, List.mem_of_getElem? (i := 517) (by decide +kernel), List.mem_of_getElem? (i := 723) (by decide +kernel), List.mem_of_getElem? (i := 724) (by decide +kernel)⟩
theorem lw_p45 : lw_okq (⟨"OnceLedgerModel", "stable", "(I)I"⟩, 34) := ⟨⟨by decide +kernel, by decide +kernel⟩, List.mem_of_getElem? (i := 517) (by decide +kernel), List.mem_of_getElem? (i := 748) (by decide +kernel), List.mem_of_getElem? (i := 749) (by decide +kernel)⟩
theorem lw_p46 : lw_okq (⟨"OnceLedgerModel", "isSeen", "(IZII)Z"⟩, 34) := ⟨⟨by decide +kernel, by decide +kernel⟩, List.mem_of_getElem? (i := 517) (by decide +kernel), List.mem_of_getElem? (i := 752) (by decide +kernel), List.mem_of_getElem? (i := 753) (by decide +kernel)⟩
theorem lw_p47 : lw_okq (⟨"OnceLedgerModel", "unsynced", "()I"⟩, 34) := ⟨⟨by decide +kernel, by decide +kernel⟩, List.mem_of_getElem? (i := 517) (by decide +kernel), List.mem_of_getElem? (i := 768) (by decide +kernel), List.mem_of_getElem? (i := 769) (by decide +kernel)⟩
def lw_privs_3 : List (MethodName × Nat) := [(⟨"OnceLedgerModel", "opened", "()I"⟩, 34), (⟨"OnceLedgerModel", "bookHas", "(II)Z"⟩, 34), (⟨"OnceLedgerModel", "bytesFrom", "(II)I"⟩, 34), (⟨"OnceLedgerModel", "sizeOf", "(I)I"⟩, 34), (⟨"OnceLedgerModel", "registers", "(I)V"⟩, 34), (⟨"OnceLedgerModel", "refused", "(II)I"⟩, 34), (⟨"OnceLedgerModel", "begins", "(III)V"⟩, 34), (⟨"OnceLedgerModel", "again", "(III)I"⟩, 34), (⟨"OnceLedgerModel", "offsetOf", "(I)I"⟩, 34), (⟨"OnceLedgerModel", "nextOf", "(II)I"⟩, 34), (⟨"OnceLedgerModel", "openedAt", "(I)I"⟩, 34), (⟨"OnceLedgerModel", "isPartition", "(I)Z"⟩, 34), (⟨"OnceLedgerModel", "later", "(III)V"⟩, 34), (⟨"OnceLedgerModel", "stable", "(I)I"⟩, 34), (⟨"OnceLedgerModel", "isSeen", "(IZII)Z"⟩, 34), (⟨"OnceLedgerModel", "unsynced", "()I"⟩, 34)]
theorem lw_r3 : ∀ q ∈ lw_privs_3, lw_okq q := List.forall_mem_cons.mpr ⟨lw_p32, List.forall_mem_cons.mpr ⟨lw_p33, List.forall_mem_cons.mpr ⟨lw_p34, List.forall_mem_cons.mpr ⟨lw_p35, List.forall_mem_cons.mpr ⟨lw_p36, List.forall_mem_cons.mpr ⟨lw_p37, List.forall_mem_cons.mpr ⟨lw_p38, List.forall_mem_cons.mpr ⟨lw_p39, List.forall_mem_cons.mpr ⟨lw_p40, List.forall_mem_cons.mpr ⟨lw_p41, List.forall_mem_cons.mpr ⟨lw_p42, List.forall_mem_cons.mpr ⟨lw_p43, List.forall_mem_cons.mpr ⟨lw_p44, List.forall_mem_cons.mpr ⟨lw_p45, List.forall_mem_cons.mpr ⟨lw_p46, List.forall_mem_cons.mpr ⟨lw_p47, fun _ h => absurd h List.not_mem_nil⟩⟩⟩⟩⟩⟩⟩⟩⟩⟩⟩⟩⟩⟩⟩⟩
theorem lw_p48 : lw_okq (⟨"OnceLedgerModel", "tells", "(I)V"⟩, 34) := ⟨⟨by decide +kernel, by decide +kernel⟩, List.mem_of_getElem? (i := 517) (by decide +kernel), List.mem_of_getElem? (i := 780) (by decide +kernel), List.mem_of_getElem? (i := 781) (by decide +kernel)⟩
theorem lw_p49 : lw_okq (⟨"OnceLedgerModel", "manyOf", "(I)I"⟩, 34) := ⟨⟨by decide +kernel, by decide +kernel⟩, List.mem_of_getElem? (i := 517) (by decide +kernel), List.mem_of_getElem? (i := 788) (by decide +kernel), List.mem_of_getElem? (i := 789) (by decide +kernel)⟩
theorem lw_p50 : lw_okq (⟨"OnceLedgerModel", "bytesOf", "(I)I"⟩, 34) := ⟨⟨by decide +kernel, by decide +kernel⟩, List.mem_of_getElem? (i := 517) (by decide +kernel), List.mem_of_getElem? (i := 792) (by decide +kernel), List.mem_of_getElem? (i := 793) (by decide +kernel)⟩
theorem lw_p51 : lw_okq (⟨"OnceLedgerModel", "seenOf", "(I)I"⟩, 34) := ⟨⟨by decide +kernel, by decide +kernel⟩, List.mem_of_getElem? (i := 517) (by decide +kernel), List.mem_of_getElem? (i := 796) (by decide +kernel), List.mem_of_getElem? (i := 797) (by decide +kernel)⟩
theorem lw_p52 : lw_okq (⟨"OnceLedgerModel", "byteAt", "(II)I"⟩, 34) := ⟨⟨by decide +kernel, by decide +kernel⟩, List.mem_of_getElem? (i := 517) (by decide +kernel), List.mem_of_getElem? (i := 816) (by decide +kernel), List.mem_of_getElem? (i := 817) (by decide +kernel)⟩
theorem lw_p53 : lw_okq (⟨"OnceLedgerModel", "behind", "(II)I"⟩, 34) := ⟨⟨by decide +kernel, by decide +kernel⟩, List.mem_of_getElem? (i := 517) (by decide +kernel), List.mem_of_getElem? (i := 820) (by decide +kernel), List.mem_of_getElem? (i := 821) (by decide +kernel)⟩
def lw_privs_4 : List (MethodName × Nat) := [(⟨"OnceLedgerModel", "tells", "(I)V"⟩, 34), (⟨"OnceLedgerModel", "manyOf", "(I)I"⟩, 34), (⟨"OnceLedgerModel", "bytesOf", "(I)I"⟩, 34), (⟨"OnceLedgerModel", "seenOf", "(I)I"⟩, 34), (⟨"OnceLedgerModel", "byteAt", "(II)I"⟩, 34), (⟨"OnceLedgerModel", "behind", "(II)I"⟩, 34)]
theorem lw_r4 : ∀ q ∈ lw_privs_4, lw_okq q := List.forall_mem_cons.mpr ⟨lw_p48, List.forall_mem_cons.mpr ⟨lw_p49, List.forall_mem_cons.mpr ⟨lw_p50, List.forall_mem_cons.mpr ⟨lw_p51, List.forall_mem_cons.mpr ⟨lw_p52, List.forall_mem_cons.mpr ⟨lw_p53, fun _ h => absurd h List.not_mem_nil⟩⟩⟩⟩⟩⟩
def lw_privs : List (MethodName × Nat) := lw_privs_1 ++ (lw_privs_2 ++ (lw_privs_3 ++ (lw_privs_4)))
def lw_tbl : List Cond := k2_sels lw_privs ++ tables_1
theorem lw_privs_ok : ∀ q ∈ lw_privs, lw_okq q := by
  show ∀ q ∈ lw_privs_1 ++ (lw_privs_2 ++ (lw_privs_3 ++ (lw_privs_4))), lw_okq q
  exact List.forall_mem_append.mpr ⟨lw_r1, List.forall_mem_append.mpr ⟨lw_r2, List.forall_mem_append.mpr ⟨lw_r3, lw_r4⟩⟩⟩
/-! names out of the task's NAMES.whole: classes, fields, methods -/
def RX0 : String := "OnceLedger$ByteRow"
def TX0 : u_T := fun k => match k with
  | 0 => ("OnceLedger$ByteRow", "bytes", "[B", true)
  | _ => ("OnceLedger$ByteRow", "length", "I", false)
def tyX0 : Nat → FieldType := fun k => match k with
  | 0 => .array .byte
  | _ => .int
abbrev wsX00 : List Cond := u_ws RX0 TX0 2
theorem nmX0 : ∀ a, a < 2 → ∀ b, b < 2 → a ≠ b → (TX0 a).2.1 ≠ (TX0 b).2.1 := by decide +kernel
theorem tyX0_ok : ∀ k, k < 2 → parseFieldDescriptor (TX0 k).2.2.1 = some (tyX0 k) := by decide +kernel
abbrev cX0_init : ByteArray := prog_2_method_1_code
def yX0_init : MethodName := ⟨RX0, "<init>", "(I)V"⟩
abbrev cX0_clear : ByteArray := prog_2_method_2_code
def yX0_clear : MethodName := ⟨RX0, "clear", "()V"⟩
abbrev cX0_cutTo : ByteArray := prog_2_method_3_code
def yX0_cutTo : MethodName := ⟨RX0, "cutTo", "(I)V"⟩
abbrev cX0_at : ByteArray := prog_2_method_4_code
def yX0_at : MethodName := ⟨RX0, "at", "(I)I"⟩
abbrev cX0_add : ByteArray := prog_2_method_5_code
def yX0_add : MethodName := ⟨RX0, "add", "(I)V"⟩
abbrev cX0_addNumber : ByteArray := prog_2_method_6_code
def yX0_addNumber : MethodName := ⟨RX0, "addNumber", "(II)V"⟩
abbrev cX0_number : ByteArray := prog_2_method_7_code
def yX0_number : MethodName := ⟨RX0, "number", "(II)I"⟩
abbrev cX0_seal : ByteArray := prog_2_method_8_code
def yX0_seal : MethodName := ⟨RX0, "seal", "(I)V"⟩
def RX1 : String := "OnceLedger$Log"
def TX1 : u_T := fun k => match k with
  | 0 => ("OnceLedger$Log", "row", "LOnceLedger$ByteRow;", true)
  | 1 => ("OnceLedger$Log", "ends", "[I", true)
  | 2 => ("OnceLedger$Log", "committed", "[Z", true)
  | 3 => ("OnceLedger$Log", "fates", "[I", true)
  | _ => ("OnceLedger$Log", "entries", "I", false)
def tyX1 : Nat → FieldType := fun k => match k with
  | 0 => .object "OnceLedger$ByteRow"
  | 1 => .array .int
  | 2 => .array .boolean
  | 3 => .array .int
  | _ => .int
abbrev wsX10 : List Cond := u_ws RX1 TX1 5
theorem nmX1 : ∀ a, a < 5 → ∀ b, b < 5 → a ≠ b → (TX1 a).2.1 ≠ (TX1 b).2.1 := by decide +kernel
theorem tyX1_ok : ∀ k, k < 5 → parseFieldDescriptor (TX1 k).2.2.1 = some (tyX1 k) := by decide +kernel
abbrev cX1_init : ByteArray := prog_3_method_1_code
def yX1_init : MethodName := ⟨RX1, "<init>", "()V"⟩
abbrev cX1_clear : ByteArray := prog_3_method_2_code
def yX1_clear : MethodName := ⟨RX1, "clear", "()V"⟩
abbrev cX1_append : ByteArray := prog_3_method_3_code
def yX1_append : MethodName := ⟨RX1, "append", "(IIIILOnceLedger$ByteRow;)V"⟩
abbrev cX1_has : ByteArray := prog_3_method_4_code
def yX1_has : MethodName := ⟨RX1, "has", "(I)Z"⟩
abbrev cX1_startOf : ByteArray := prog_3_method_5_code
def yX1_startOf : MethodName := ⟨RX1, "startOf", "(I)I"⟩
abbrev cX1_field : ByteArray := prog_3_method_6_code
def yX1_field : MethodName := ⟨RX1, "field", "(III)I"⟩
abbrev cX1_kindOf : ByteArray := prog_3_method_7_code
def yX1_kindOf : MethodName := ⟨RX1, "kindOf", "(I)I"⟩
abbrev cX1_isSeen : ByteArray := prog_3_method_8_code
def yX1_isSeen : MethodName := ⟨RX1, "isSeen", "(I)Z"⟩
abbrev cX1_dropBroken : ByteArray := prog_3_method_9_code
def yX1_dropBroken : MethodName := ⟨RX1, "dropBroken", "()V"⟩
abbrev cX1_cutBroken : ByteArray := prog_3_method_10_code
def yX1_cutBroken : MethodName := ⟨RX1, "cutBroken", "()I"⟩
abbrev cX1_isSentBy : ByteArray := prog_3_method_11_code
def yX1_isSentBy : MethodName := ⟨RX1, "isSentBy", "(III)Z"⟩
abbrev cX1_nextOf : ByteArray := prog_3_method_12_code
def yX1_nextOf : MethodName := ⟨RX1, "nextOf", "(II)I"⟩
abbrev cX1_offsetOfRecent : ByteArray := prog_3_method_13_code
def yX1_offsetOfRecent : MethodName := ⟨RX1, "offsetOfRecent", "(III)I"⟩
abbrev cX1_hasEndOf : ByteArray := prog_3_method_14_code
def yX1_hasEndOf : MethodName := ⟨RX1, "hasEndOf", "(I)Z"⟩
abbrev cX1_stable : ByteArray := prog_3_method_15_code
def yX1_stable : MethodName := ⟨RX1, "stable", "()I"⟩
abbrev cX1_committedEntries : ByteArray := prog_3_method_16_code
def yX1_committedEntries : MethodName := ⟨RX1, "committedEntries", "()I"⟩
abbrev cX1_firstCommitted : ByteArray := prog_3_method_17_code
def yX1_firstCommitted : MethodName := ⟨RX1, "firstCommitted", "(I)I"⟩
abbrev cX1_firstSeen : ByteArray := prog_3_method_18_code
def yX1_firstSeen : MethodName := ⟨RX1, "firstSeen", "(I)I"⟩
abbrev cX1_copyPayload : ByteArray := prog_3_method_19_code
def yX1_copyPayload : MethodName := ⟨RX1, "copyPayload", "(ILOnceLedger$ByteRow;)V"⟩
def RX2 : String := "OnceLedger$Producer"
def TX2 : u_T := fun k => match k with
  | 0 => ("OnceLedger$Producer", "epoch", "I", false)
  | 1 => ("OnceLedger$Producer", "transaction", "I", false)
  | 2 => ("OnceLedger$Producer", "began", "I", false)
  | 3 => ("OnceLedger$Producer", "beganAt", "I", false)
  | 4 => ("OnceLedger$Producer", "added", "I", false)
  | 5 => ("OnceLedger$Producer", "laters", "I", false)
  | _ => ("OnceLedger$Producer", "decision", "I", false)
def tyX2 : Nat → FieldType := fun k => match k with
  | 0 => .int
  | 1 => .int
  | 2 => .int
  | 3 => .int
  | 4 => .int
  | 5 => .int
  | _ => .int
abbrev wsX20 : List Cond := u_ws RX2 TX2 7
theorem nmX2 : ∀ a, a < 7 → ∀ b, b < 7 → a ≠ b → (TX2 a).2.1 ≠ (TX2 b).2.1 := by decide +kernel
theorem tyX2_ok : ∀ k, k < 7 → parseFieldDescriptor (TX2 k).2.2.1 = some (tyX2 k) := by decide +kernel
abbrev cX2_init : ByteArray := prog_4_method_1_code
def yX2_init : MethodName := ⟨RX2, "<init>", "()V"⟩
abbrev cX2_forget : ByteArray := prog_4_method_2_code
def yX2_forget : MethodName := ⟨RX2, "forget", "()V"⟩
abbrev cX2_openTransaction : ByteArray := prog_4_method_3_code
def yX2_openTransaction : MethodName := ⟨RX2, "openTransaction", "(III)V"⟩
abbrev cX2_closeTransaction : ByteArray := prog_4_method_4_code
def yX2_closeTransaction : MethodName := ⟨RX2, "closeTransaction", "()V"⟩
abbrev cX2_isOpen : ByteArray := prog_4_method_5_code
def yX2_isOpen : MethodName := ⟨RX2, "isOpen", "()Z"⟩
abbrev cX2_hasAdded : ByteArray := prog_4_method_6_code
def yX2_hasAdded : MethodName := ⟨RX2, "hasAdded", "(I)Z"⟩
def RX3 : String := "OnceLedger$Unsynced"
def TX3 : u_T := fun k => match k with
  | 0 => ("OnceLedger$Unsynced", "files", "[I", true)
  | 1 => ("OnceLedger$Unsynced", "sizes", "[I", true)
  | 2 => ("OnceLedger$Unsynced", "byFile", "[I", true)
  | 3 => ("OnceLedger$Unsynced", "pieces", "I", false)
  | _ => ("OnceLedger$Unsynced", "bytes", "I", false)
def tyX3 : Nat → FieldType := fun k => match k with
  | 0 => .array .int
  | 1 => .array .int
  | 2 => .array .int
  | 3 => .int
  | _ => .int
abbrev wsX30 : List Cond := u_ws RX3 TX3 5
theorem nmX3 : ∀ a, a < 5 → ∀ b, b < 5 → a ≠ b → (TX3 a).2.1 ≠ (TX3 b).2.1 := by decide +kernel
theorem tyX3_ok : ∀ k, k < 5 → parseFieldDescriptor (TX3 k).2.2.1 = some (tyX3 k) := by decide +kernel
abbrev cX3_init : ByteArray := prog_5_method_1_code
def yX3_init : MethodName := ⟨RX3, "<init>", "()V"⟩
abbrev cX3_clear : ByteArray := prog_5_method_2_code
def yX3_clear : MethodName := ⟨RX3, "clear", "()V"⟩
abbrev cX3_note : ByteArray := prog_5_method_3_code
def yX3_note : MethodName := ⟨RX3, "note", "(II)V"⟩
abbrev cX3_bytesOf : ByteArray := prog_5_method_4_code
def yX3_bytesOf : MethodName := ⟨RX3, "bytesOf", "(I)I"⟩
abbrev cX3_keptOf : ByteArray := prog_5_method_5_code
def yX3_keptOf : MethodName := ⟨RX3, "keptOf", "(II)I"⟩
def RX4 : String := "OnceLedger"
def TX4 : u_T := fun k => match k with
  | 0 => ("OnceLedger", "tape", "LOnceLedger$ByteRow;", true)
  | 1 => ("OnceLedger", "fetched", "LOnceLedger$ByteRow;", true)
  | 2 => ("OnceLedger", "noPayload", "LOnceLedger$ByteRow;", true)
  | 3 => ("OnceLedger", "logs", "[LOnceLedger$Log;", true)
  | 4 => ("OnceLedger", "book", "LOnceLedger$ByteRow;", true)
  | 5 => ("OnceLedger", "unsynced", "LOnceLedger$Unsynced;", true)
  | 6 => ("OnceLedger", "producers", "[LOnceLedger$Producer;", true)
  | 7 => ("OnceLedger", "marks", "[I", true)
  | 8 => ("OnceLedger", "partitions", "I", false)
  | 9 => ("OnceLedger", "capacity", "I", false)
  | 10 => ("OnceLedger", "timeout", "I", false)
  | 11 => ("OnceLedger", "clock", "I", false)
  | 12 => ("OnceLedger", "closed", "Z", false)
  | 13 => ("OnceLedger", "cutBytes", "I", false)
  | _ => ("OnceLedger", "nextTransaction", "I", false)
def tyX4 : Nat → FieldType := fun k => match k with
  | 0 => .object "OnceLedger$ByteRow"
  | 1 => .object "OnceLedger$ByteRow"
  | 2 => .object "OnceLedger$ByteRow"
  | 3 => .array (.object "OnceLedger$Log")
  | 4 => .object "OnceLedger$ByteRow"
  | 5 => .object "OnceLedger$Unsynced"
  | 6 => .array (.object "OnceLedger$Producer")
  | 7 => .array .int
  | 8 => .int
  | 9 => .int
  | 10 => .int
  | 11 => .int
  | 12 => .boolean
  | 13 => .int
  | _ => .int
abbrev wsX40 : List Cond := u_ws RX4 TX4 15
theorem nmX4 : ∀ a, a < 15 → ∀ b, b < 15 → a ≠ b → (TX4 a).2.1 ≠ (TX4 b).2.1 := by decide +kernel
theorem tyX4_ok : ∀ k, k < 15 → parseFieldDescriptor (TX4 k).2.2.1 = some (tyX4 k) := by decide +kernel
abbrev cX4_init : ByteArray := prog_1_method_1_code
def yX4_init : MethodName := ⟨RX4, "<init>", "()V"⟩
abbrev cX4_format : ByteArray := prog_1_method_2_code
def yX4_format : MethodName := ⟨RX4, "format", "(III)Z"⟩
abbrev cX4_feed : ByteArray := prog_1_method_3_code
def yX4_feed : MethodName := ⟨RX4, "feed", "(IJJ)I"⟩
abbrev cX4_register : ByteArray := prog_1_method_4_code
def yX4_register : MethodName := ⟨RX4, "register", "(I)I"⟩
abbrev cX4_begin : ByteArray := prog_1_method_5_code
def yX4_begin : MethodName := ⟨RX4, "begin", "(II)I"⟩
abbrev cX4_send : ByteArray := prog_1_method_6_code
def yX4_send : MethodName := ⟨RX4, "send", "(IIIIZ)I"⟩
abbrev cX4_later : ByteArray := prog_1_method_7_code
def yX4_later : MethodName := ⟨RX4, "later", "(IIIII)I"⟩
abbrev cX4_end : ByteArray := prog_1_method_8_code
def yX4_end : MethodName := ⟨RX4, "end", "(IIZ)I"⟩
abbrev cX4_mark : ByteArray := prog_1_method_9_code
def yX4_mark : MethodName := ⟨RX4, "mark", "(III)I"⟩
abbrev cX4_marked : ByteArray := prog_1_method_10_code
def yX4_marked : MethodName := ⟨RX4, "marked", "(II)I"⟩
abbrev cX4_tick : ByteArray := prog_1_method_11_code
def yX4_tick : MethodName := ⟨RX4, "tick", "(I)I"⟩
abbrev cX4_fetch : ByteArray := prog_1_method_12_code
def yX4_fetch : MethodName := ⟨RX4, "fetch", "(IIZ)I"⟩
abbrev cX4_answer : ByteArray := prog_1_method_13_code
def yX4_answer : MethodName := ⟨RX4, "answer", "(I)I"⟩
abbrev cX4_sync : ByteArray := prog_1_method_14_code
def yX4_sync : MethodName := ⟨RX4, "sync", "()I"⟩
abbrev cX4_crash : ByteArray := prog_1_method_15_code
def yX4_crash : MethodName := ⟨RX4, "crash", "(I)I"⟩
abbrev cX4_open : ByteArray := prog_1_method_16_code
def yX4_open : MethodName := ⟨RX4, "open", "()I"⟩
abbrev cX4_partition : ByteArray := prog_1_method_17_code
def yX4_partition : MethodName := ⟨RX4, "partition", "(II)I"⟩
abbrev cX4_entry : ByteArray := prog_1_method_18_code
def yX4_entry : MethodName := ⟨RX4, "entry", "(III)I"⟩
abbrev cX4_producer : ByteArray := prog_1_method_19_code
def yX4_producer : MethodName := ⟨RX4, "producer", "(II)I"⟩
abbrev cX4_next : ByteArray := prog_1_method_20_code
def yX4_next : MethodName := ⟨RX4, "next", "(II)I"⟩
abbrev cX4_byteOf : ByteArray := prog_1_method_21_code
def yX4_byteOf : MethodName := ⟨RX4, "byteOf", "(II)I"⟩
abbrev cX4_count : ByteArray := prog_1_method_22_code
def yX4_count : MethodName := ⟨RX4, "count", "(I)I"⟩
abbrev cX4_build : ByteArray := prog_1_method_23_code
def yX4_build : MethodName := ⟨RX4, "build", "(III)V"⟩
abbrev cX4_forget : ByteArray := prog_1_method_24_code
def yX4_forget : MethodName := ⟨RX4, "forget", "()V"⟩
abbrev cX4_isKey : ByteArray := prog_1_method_25_code
def yX4_isKey : MethodName := ⟨RX4, "isKey", "(I)Z"⟩
abbrev cX4_isRegistered : ByteArray := prog_1_method_26_code
def yX4_isRegistered : MethodName := ⟨RX4, "isRegistered", "(I)Z"⟩
abbrev cX4_isPartition : ByteArray := prog_1_method_27_code
def yX4_isPartition : MethodName := ⟨RX4, "isPartition", "(I)Z"⟩
abbrev cX4_isPlace : ByteArray := prog_1_method_28_code
def yX4_isPlace : MethodName := ⟨RX4, "isPlace", "(II)Z"⟩
abbrev cX4_placeOf : ByteArray := prog_1_method_29_code
def yX4_placeOf : MethodName := ⟨RX4, "placeOf", "(II)I"⟩
abbrev cX4_rowOf : ByteArray := prog_1_method_30_code
def yX4_rowOf : MethodName := ⟨RX4, "rowOf", "(I)LOnceLedger$ByteRow;"⟩
abbrev cX4_refusalOf : ByteArray := prog_1_method_31_code
def yX4_refusalOf : MethodName := ⟨RX4, "refusalOf", "(IIZ)I"⟩
abbrev cX4_takeSent : ByteArray := prog_1_method_32_code
def yX4_takeSent : MethodName := ⟨RX4, "takeSent", "(IIIIZ)I"⟩
abbrev cX4_logHasRoom : ByteArray := prog_1_method_33_code
def yX4_logHasRoom : MethodName := ⟨RX4, "logHasRoom", "(IZ)Z"⟩
abbrev cX4_bookHasRoom : ByteArray := prog_1_method_34_code
def yX4_bookHasRoom : MethodName := ⟨RX4, "bookHasRoom", "(I)Z"⟩
abbrev cX4_registeredProducers : ByteArray := prog_1_method_35_code
def yX4_registeredProducers : MethodName := ⟨RX4, "registeredProducers", "()I"⟩
abbrev cX4_openTransactions : ByteArray := prog_1_method_36_code
def yX4_openTransactions : MethodName := ⟨RX4, "openTransactions", "()I"⟩
abbrev cX4_openThatAdded : ByteArray := prog_1_method_37_code
def yX4_openThatAdded : MethodName := ⟨RX4, "openThatAdded", "(I)I"⟩
abbrev cX4_writeToLog : ByteArray := prog_1_method_38_code
def yX4_writeToLog : MethodName := ⟨RX4, "writeToLog", "(IIIIILOnceLedger$ByteRow;)I"⟩
abbrev cX4_writeToBook : ByteArray := prog_1_method_39_code
def yX4_writeToBook : MethodName := ⟨RX4, "writeToBook", "(IIIII)V"⟩
abbrev cX4_learn : ByteArray := prog_1_method_40_code
def yX4_learn : MethodName := ⟨RX4, "learn", "(I)V"⟩
abbrev cX4_markLaters : ByteArray := prog_1_method_41_code
def yX4_markLaters : MethodName := ⟨RX4, "markLaters", "(III)V"⟩
abbrev cX4_setMark : ByteArray := prog_1_method_42_code
def yX4_setMark : MethodName := ⟨RX4, "setMark", "(II)V"⟩
abbrev cX4_raiseEpoch : ByteArray := prog_1_method_43_code
def yX4_raiseEpoch : MethodName := ⟨RX4, "raiseEpoch", "(I)V"⟩
abbrev cX4_decide : ByteArray := prog_1_method_44_code
def yX4_decide : MethodName := ⟨RX4, "decide", "(IZ)V"⟩
abbrev cX4_finish : ByteArray := prog_1_method_45_code
def yX4_finish : MethodName := ⟨RX4, "finish", "(I)V"⟩
abbrev cX4_endOverdue : ByteArray := prog_1_method_46_code
def yX4_endOverdue : MethodName := ⟨RX4, "endOverdue", "()I"⟩
abbrev cX4_finishDecided : ByteArray := prog_1_method_47_code
def yX4_finishDecided : MethodName := ⟨RX4, "finishDecided", "()I"⟩
abbrev cX4_firstToEnd : ByteArray := prog_1_method_48_code
def yX4_firstToEnd : MethodName := ⟨RX4, "firstToEnd", "(Z)I"⟩
def RX5 : String := "OnceLedgerModel"
def TX5 : u_T := fun k => match k with
  | 0 => ("OnceLedgerModel", "partitions", "I", false)
  | 1 => ("OnceLedgerModel", "capacity", "I", false)
  | 2 => ("OnceLedgerModel", "timeout", "I", false)
  | 3 => ("OnceLedgerModel", "clock", "I", false)
  | 4 => ("OnceLedgerModel", "closed", "Z", false)
  | 5 => ("OnceLedgerModel", "cut", "I", false)
  | 6 => ("OnceLedgerModel", "many", "I", false)
  | 7 => ("OnceLedgerModel", "synced", "I", false)
  | 8 => ("OnceLedgerModel", "file", "[I", true)
  | 9 => ("OnceLedgerModel", "kind", "[I", true)
  | 10 => ("OnceLedgerModel", "key", "[I", true)
  | 11 => ("OnceLedgerModel", "epoch", "[I", true)
  | 12 => ("OnceLedgerModel", "a", "[I", true)
  | 13 => ("OnceLedgerModel", "b", "[I", true)
  | 14 => ("OnceLedgerModel", "of", "[I", true)
  | 15 => ("OnceLedgerModel", "payload", "[B", true)
  | 16 => ("OnceLedgerModel", "torn", "I", false)
  | 17 => ("OnceLedgerModel", "is", "[Z", true)
  | 18 => ("OnceLedgerModel", "now", "[I", true)
  | 19 => ("OnceLedgerModel", "open", "[I", true)
  | 20 => ("OnceLedgerModel", "began", "[I", true)
  | 21 => ("OnceLedgerModel", "added", "[I", true)
  | 22 => ("OnceLedgerModel", "next", "I", false)
  | 23 => ("OnceLedgerModel", "marks", "[I", true)
  | 24 => ("OnceLedgerModel", "ended", "[I", true)
  | 25 => ("OnceLedgerModel", "laters", "I", false)
  | 26 => ("OnceLedgerModel", "laterOf", "[I", true)
  | 27 => ("OnceLedgerModel", "laterPlace", "[I", true)
  | 28 => ("OnceLedgerModel", "laterOffset", "[I", true)
  | 29 => ("OnceLedgerModel", "tape", "[B", true)
  | 30 => ("OnceLedgerModel", "taped", "I", false)
  | 31 => ("OnceLedgerModel", "answer", "[B", true)
  | 32 => ("OnceLedgerModel", "answered", "I", false)
  | _ => ("OnceLedgerModel", "decided", "[I", true)
def tyX5 : Nat → FieldType := fun k => match k with
  | 0 => .int
  | 1 => .int
  | 2 => .int
  | 3 => .int
  | 4 => .boolean
  | 5 => .int
  | 6 => .int
  | 7 => .int
  | 8 => .array .int
  | 9 => .array .int
  | 10 => .array .int
  | 11 => .array .int
  | 12 => .array .int
  | 13 => .array .int
  | 14 => .array .int
  | 15 => .array .byte
  | 16 => .int
  | 17 => .array .boolean
  | 18 => .array .int
  | 19 => .array .int
  | 20 => .array .int
  | 21 => .array .int
  | 22 => .int
  | 23 => .array .int
  | 24 => .array .int
  | 25 => .int
  | 26 => .array .int
  | 27 => .array .int
  | 28 => .array .int
  | 29 => .array .byte
  | 30 => .int
  | 31 => .array .byte
  | 32 => .int
  | _ => .array .int
abbrev wsX50 : List Cond := u_ws RX5 TX5 34
theorem nmX5 : ∀ a, a < 34 → ∀ b, b < 34 → a ≠ b → (TX5 a).2.1 ≠ (TX5 b).2.1 := by decide +kernel
theorem tyX5_ok : ∀ k, k < 34 → parseFieldDescriptor (TX5 k).2.2.1 = some (tyX5 k) := by decide +kernel
abbrev cX5_init : ByteArray := prog_7_method_1_code
def yX5_init : MethodName := ⟨RX5, "<init>", "()V"⟩
abbrev cX5_forgets : ByteArray := prog_7_method_2_code
def yX5_forgets : MethodName := ⟨RX5, "forgets", "()V"⟩
abbrev cX5_format : ByteArray := prog_7_method_3_code
def yX5_format : MethodName := ⟨RX5, "format", "(III)Z"⟩
abbrev cX5_sizeOf : ByteArray := prog_7_method_4_code
def yX5_sizeOf : MethodName := ⟨RX5, "sizeOf", "(I)I"⟩
abbrev cX5_bytesFrom : ByteArray := prog_7_method_5_code
def yX5_bytesFrom : MethodName := ⟨RX5, "bytesFrom", "(II)I"⟩
abbrev cX5_unsynced : ByteArray := prog_7_method_6_code
def yX5_unsynced : MethodName := ⟨RX5, "unsynced", "()I"⟩
abbrev cX5_add : ByteArray := prog_7_method_7_code
def yX5_add : MethodName := ⟨RX5, "add", "(IIIIII)I"⟩
abbrev cX5_opened : ByteArray := prog_7_method_8_code
def yX5_opened : MethodName := ⟨RX5, "opened", "()I"⟩
abbrev cX5_openedAt : ByteArray := prog_7_method_9_code
def yX5_openedAt : MethodName := ⟨RX5, "openedAt", "(I)I"⟩
abbrev cX5_bookHas : ByteArray := prog_7_method_10_code
def yX5_bookHas : MethodName := ⟨RX5, "bookHas", "(II)Z"⟩
abbrev cX5_refused : ByteArray := prog_7_method_11_code
def yX5_refused : MethodName := ⟨RX5, "refused", "(II)I"⟩
abbrev cX5_registers : ByteArray := prog_7_method_12_code
def yX5_registers : MethodName := ⟨RX5, "registers", "(I)V"⟩
abbrev cX5_marksOf : ByteArray := prog_7_method_13_code
def yX5_marksOf : MethodName := ⟨RX5, "marksOf", "(I)V"⟩
abbrev cX5_finishes : ByteArray := prog_7_method_14_code
def yX5_finishes : MethodName := ⟨RX5, "finishes", "(IZ)V"⟩
abbrev cX5_closes : ByteArray := prog_7_method_15_code
def yX5_closes : MethodName := ⟨RX5, "closes", "(IZ)V"⟩
abbrev cX5_ends : ByteArray := prog_7_method_16_code
def yX5_ends : MethodName := ⟨RX5, "ends", "(IZ)V"⟩
abbrev cX5_register : ByteArray := prog_7_method_17_code
def yX5_register : MethodName := ⟨RX5, "register", "(I)I"⟩
abbrev cX5_begins : ByteArray := prog_7_method_18_code
def yX5_begins : MethodName := ⟨RX5, "begins", "(III)V"⟩
abbrev cX5_begin : ByteArray := prog_7_method_19_code
def yX5_begin : MethodName := ⟨RX5, "begin", "(II)I"⟩
abbrev cX5_offsetOf : ByteArray := prog_7_method_20_code
def yX5_offsetOf : MethodName := ⟨RX5, "offsetOf", "(I)I"⟩
abbrev cX5_nextOf : ByteArray := prog_7_method_21_code
def yX5_nextOf : MethodName := ⟨RX5, "nextOf", "(II)I"⟩
abbrev cX5_again : ByteArray := prog_7_method_22_code
def yX5_again : MethodName := ⟨RX5, "again", "(III)I"⟩
abbrev cX5_send : ByteArray := prog_7_method_23_code
def yX5_send : MethodName := ⟨RX5, "send", "(IIIIZ)I"⟩
abbrev cX5_isGroup : ByteArray := prog_7_method_24_code
def yX5_isGroup : MethodName := ⟨RX5, "isGroup", "(I)Z"⟩
abbrev cX5_isPartition : ByteArray := prog_7_method_25_code
def yX5_isPartition : MethodName := ⟨RX5, "isPartition", "(I)Z"⟩
abbrev cX5_later : ByteArray := prog_7_method_26_code
def yX5_later : MethodName := ⟨RX5, "later", "(III)V"⟩
abbrev cX5_later_ : ByteArray := prog_7_method_27_code
def yX5_later_ : MethodName := ⟨RX5, "later", "(IIIII)I"⟩
abbrev cX5_end : ByteArray := prog_7_method_28_code
def yX5_end : MethodName := ⟨RX5, "end", "(IIZ)I"⟩
abbrev cX5_mark : ByteArray := prog_7_method_29_code
def yX5_mark : MethodName := ⟨RX5, "mark", "(III)I"⟩
abbrev cX5_marked : ByteArray := prog_7_method_30_code
def yX5_marked : MethodName := ⟨RX5, "marked", "(II)I"⟩
abbrev cX5_tick : ByteArray := prog_7_method_31_code
def yX5_tick : MethodName := ⟨RX5, "tick", "(I)I"⟩
abbrev cX5_manyOf : ByteArray := prog_7_method_32_code
def yX5_manyOf : MethodName := ⟨RX5, "manyOf", "(I)I"⟩
abbrev cX5_stable : ByteArray := prog_7_method_33_code
def yX5_stable : MethodName := ⟨RX5, "stable", "(I)I"⟩
abbrev cX5_isSeen : ByteArray := prog_7_method_34_code
def yX5_isSeen : MethodName := ⟨RX5, "isSeen", "(IZII)Z"⟩
abbrev cX5_fetch : ByteArray := prog_7_method_35_code
def yX5_fetch : MethodName := ⟨RX5, "fetch", "(IIZ)I"⟩
abbrev cX5_answer : ByteArray := prog_7_method_36_code
def yX5_answer : MethodName := ⟨RX5, "answer", "(I)I"⟩
abbrev cX5_feed : ByteArray := prog_7_method_37_code
def yX5_feed : MethodName := ⟨RX5, "feed", "(IJJ)I"⟩
abbrev cX5_sync : ByteArray := prog_7_method_38_code
def yX5_sync : MethodName := ⟨RX5, "sync", "()I"⟩
abbrev cX5_crash : ByteArray := prog_7_method_39_code
def yX5_crash : MethodName := ⟨RX5, "crash", "(I)I"⟩
abbrev cX5_tells : ByteArray := prog_7_method_40_code
def yX5_tells : MethodName := ⟨RX5, "tells", "(I)V"⟩
abbrev cX5_open : ByteArray := prog_7_method_41_code
def yX5_open : MethodName := ⟨RX5, "open", "()I"⟩
abbrev cX5_partition : ByteArray := prog_7_method_42_code
def yX5_partition : MethodName := ⟨RX5, "partition", "(II)I"⟩
abbrev cX5_bytesOf : ByteArray := prog_7_method_43_code
def yX5_bytesOf : MethodName := ⟨RX5, "bytesOf", "(I)I"⟩
abbrev cX5_seenOf : ByteArray := prog_7_method_44_code
def yX5_seenOf : MethodName := ⟨RX5, "seenOf", "(I)I"⟩
abbrev cX5_entry : ByteArray := prog_7_method_45_code
def yX5_entry : MethodName := ⟨RX5, "entry", "(III)I"⟩
abbrev cX5_producer : ByteArray := prog_7_method_46_code
def yX5_producer : MethodName := ⟨RX5, "producer", "(II)I"⟩
abbrev cX5_next : ByteArray := prog_7_method_47_code
def yX5_next : MethodName := ⟨RX5, "next", "(II)I"⟩
abbrev cX5_byteIn : ByteArray := prog_7_method_48_code
def yX5_byteIn : MethodName := ⟨RX5, "byteIn", "(III)I"⟩
abbrev cX5_behind : ByteArray := prog_7_method_49_code
def yX5_behind : MethodName := ⟨RX5, "behind", "(II)I"⟩
abbrev cX5_byteAt : ByteArray := prog_7_method_50_code
def yX5_byteAt : MethodName := ⟨RX5, "byteAt", "(II)I"⟩
abbrev cX5_byteOf : ByteArray := prog_7_method_51_code
def yX5_byteOf : MethodName := ⟨RX5, "byteOf", "(II)I"⟩
abbrev cX5_count : ByteArray := prog_7_method_52_code
def yX5_count : MethodName := ⟨RX5, "count", "(I)I"⟩
def RJ9 : String := "java/lang/Math"
def TJ9 : u_T := fun k => match k with
  | _ => ("", "", "", false)
def tyJ9 : Nat → FieldType := fun k => match k with
  | _ => .int
abbrev wsJ90 : List Cond := u_ws RJ9 TJ9 0
theorem nmJ9 : ∀ a, a < 0 → ∀ b, b < 0 → a ≠ b → (TJ9 a).2.1 ≠ (TJ9 b).2.1 := by decide +kernel
theorem tyJ9_ok : ∀ k, k < 0 → parseFieldDescriptor (TJ9 k).2.2.1 = some (tyJ9 k) := by decide +kernel
abbrev cJ9_max_7cf53 : ByteArray := prog_8_method_65_code
def yJ9_max_7cf53 : MethodName := ⟨RJ9, "max", "(II)I"⟩
abbrev cJ9_min_7cf53 : ByteArray := prog_8_method_69_code
def yJ9_min_7cf53 : MethodName := ⟨RJ9, "min", "(II)I"⟩
def RJ7 : String := "java/util/Arrays"
def TJ7 : u_T := fun k => match k with
  | _ => ("", "", "", false)
def tyJ7 : Nat → FieldType := fun k => match k with
  | _ => .int
abbrev wsJ70 : List Cond := u_ws RJ7 TJ7 0
theorem nmJ7 : ∀ a, a < 0 → ∀ b, b < 0 → a ≠ b → (TJ7 a).2.1 ≠ (TJ7 b).2.1 := by decide +kernel
theorem tyJ7_ok : ∀ k, k < 0 → parseFieldDescriptor (TJ7 k).2.2.1 = some (tyJ7 k) := by decide +kernel
abbrev cJ7_fill_53178 : ByteArray := prog_9_method_103_code
def yJ7_fill_53178 : MethodName := ⟨RJ7, "fill", "([II)V"⟩
def RL : String := "OnceLedgerLaw"
abbrev cL_law : ByteArray := code
def yL_law : MethodName := ⟨RL, "law", "([I)Z"⟩
abbrev vwCl : List vw_C := [(RX0, TX0, 2), (RX1, TX1, 5), (RX2, TX2, 7), (RX3, TX3, 5), (RX4, TX4, 15), (RX5, TX5, 34)]
theorem iX0 : ∀ w ∈ wsX00, w ∈ lw_tbl := by decide +kernel
theorem iX1 : ∀ w ∈ wsX10, w ∈ lw_tbl := by decide +kernel
theorem iX2 : ∀ w ∈ wsX20, w ∈ lw_tbl := by decide +kernel
theorem iX3 : ∀ w ∈ wsX30, w ∈ lw_tbl := by decide +kernel
theorem iX4 : ∀ w ∈ wsX40, w ∈ lw_tbl := by decide +kernel
theorem iX5 : ∀ w ∈ wsX50, w ∈ lw_tbl := by decide +kernel
end
section
/-! TABLES, written by wip/gen/tables.py: the methods with their instructions, and what each link of a class file names; every row is checked against the Statement by the kernel. -/
abbrev ix_T : Type := List (Nat × Instr × Nat)
/-- class, name, code, locals, answer, parameters, kind (0 virtual, 1 static, 2 constructor), instructions, places of its words -/
abbrev ix_M : Type := Nat × MethodName × ByteArray × Nat × Option FieldType × Nat × Nat × ix_T × Nat × Nat × Nat
def ix_tok (c : ByteArray) (T : ix_T) : Bool := T.all (fun q => decide (decode c q.1 = .ok q.2))
def ix_RC : Nat → String := fun k => match k with
  | 0 => RX0
  | 1 => RX1
  | 2 => RX2
  | 3 => RX3
  | 4 => RX4
  | 5 => RX5
  | 6 => RL
  | 7 => RJ9
  | _ => RJ7
def mT_X0_init : ix_T := [(0, .aload_n 0, 1), (1, .invokespecial 3, 3), (4, .aload_n 0, 1), (5, .iload_n 1, 1), (6, .iconst 0, 1), (7, .invokestatic 9, 3), (10, .newarray .byte, 2), (12, .putfield 15, 3), (15, .return_, 1)]
theorem mT_X0_init_ok : ix_tok cX0_init mT_X0_init = true := by decide +kernel
def mD_X0_init : ix_M := (0, yX0_init, cX0_init, 2, none, 1, 2, mT_X0_init, 75, 74, 74)
def mT_X0_clear : ix_T := [(0, .aload_n 0, 1), (1, .iconst 0, 1), (2, .putfield 21, 3), (5, .return_, 1)]
theorem mT_X0_clear_ok : ix_tok cX0_clear mT_X0_clear = true := by decide +kernel
def mD_X0_clear : ix_M := (0, yX0_clear, cX0_clear, 1, none, 0, 0, mT_X0_clear, 189, 187, 188)
def mT_X0_cutTo : ix_T := [(0, .iload_n 1, 1), (1, .ifCond .lt 16, 3), (4, .iload_n 1, 1), (5, .aload_n 0, 1), (6, .getfield 21, 3), (9, .if_icmp .ge 8, 3), (12, .aload_n 0, 1), (13, .iload_n 1, 1), (14, .putfield 21, 3), (17, .return_, 1)]
theorem mT_X0_cutTo_ok : ix_tok cX0_cutTo mT_X0_cutTo = true := by decide +kernel
def mD_X0_cutTo : ix_M := (0, yX0_cutTo, cX0_cutTo, 2, none, 1, 0, mT_X0_cutTo, 514, 512, 513)
def mT_X0_at : ix_T := [(0, .iload_n 1, 1), (1, .ifCond .lt 24, 3), (4, .iload_n 1, 1), (5, .aload_n 0, 1), (6, .getfield 21, 3), (9, .if_icmp .ge 16, 3), (12, .aload_n 0, 1), (13, .getfield 15, 3), (16, .iload_n 1, 1), (17, .baload, 1), (18, .sipush 255, 3), (21, .iand, 1), (22, .goto 4, 3), (25, .iconst (-1), 1), (26, .ireturn, 1)]
theorem mT_X0_at_ok : ix_tok cX0_at mT_X0_at = true := by decide +kernel
def mD_X0_at : ix_M := (0, yX0_at, cX0_at, 2, (some (.int)), 1, 0, mT_X0_at, 364, 362, 363)
def mT_X0_add : ix_T := [(0, .aload_n 0, 1), (1, .getfield 21, 3), (4, .aload_n 0, 1), (5, .getfield 15, 3), (8, .arraylength, 1), (9, .if_icmp .ge 24, 3), (12, .aload_n 0, 1), (13, .getfield 15, 3), (16, .aload_n 0, 1), (17, .getfield 21, 3), (20, .iload_n 1, 1), (21, .i2b, 1), (22, .bastore, 1), (23, .aload_n 0, 1), (24, .dup, 1), (25, .getfield 21, 3), (28, .iconst 1, 1), (29, .iadd, 1), (30, .putfield 21, 3), (33, .return_, 1)]
theorem mT_X0_add_ok : ix_tok cX0_add mT_X0_add = true := by decide +kernel
def mD_X0_add : ix_M := (0, yX0_add, cX0_add, 2, none, 1, 0, mT_X0_add, 268, 266, 267)
def mT_X0_addNumber : ix_T := [(0, .bipush 8, 2), (2, .iload_n 2, 1), (3, .iconst 1, 1), (4, .isub, 1), (5, .imul, 1), (6, .istore_n 3, 1), (7, .iload_n 3, 1), (8, .ifCond .lt 16, 3), (11, .aload_n 0, 1), (12, .iload_n 1, 1), (13, .iload_n 3, 1), (14, .iushr, 1), (15, .invokevirtual 25, 3), (18, .iinc 3 (-8), 3), (21, .goto (-14), 3), (24, .return_, 1)]
theorem mT_X0_addNumber_ok : ix_tok cX0_addNumber mT_X0_addNumber = true := by decide +kernel
def mD_X0_addNumber : ix_M := (0, yX0_addNumber, cX0_addNumber, 4, none, 2, 0, mT_X0_addNumber, 292, 290, 291)
def mT_X0_number : ix_T := [(0, .iconst 0, 1), (1, .istore_n 3, 1), (2, .iload_n 1, 1), (3, .ifCond .lt 47, 3), (6, .iload_n 1, 1), (7, .aload_n 0, 1), (8, .getfield 21, 3), (11, .iload_n 2, 1), (12, .isub, 1), (13, .if_icmp .gt 37, 3), (16, .iconst 0, 1), (17, .istore 4, 2), (19, .iload 4, 2), (21, .iload_n 2, 1), (22, .if_icmp .ge 28, 3), (25, .iload_n 3, 1), (26, .bipush 8, 2), (28, .ishl, 1), (29, .aload_n 0, 1), (30, .getfield 15, 3), (33, .iload_n 1, 1), (34, .iload 4, 2), (36, .iadd, 1), (37, .baload, 1), (38, .sipush 255, 3), (41, .iand, 1), (42, .ior, 1), (43, .istore_n 3, 1), (44, .iinc 4 1, 3), (47, .goto (-28), 3), (50, .iload_n 3, 1), (51, .ireturn, 1)]
theorem mT_X0_number_ok : ix_tok cX0_number mT_X0_number = true := by decide +kernel
def mD_X0_number : ix_M := (0, yX0_number, cX0_number, 5, (some (.int)), 2, 0, mT_X0_number, 309, 307, 308)
def mT_X0_seal : ix_T := [(0, .iload_n 1, 1), (1, .ifCond .lt 13, 3), (4, .iload_n 1, 1), (5, .aload_n 0, 1), (6, .getfield 21, 3), (9, .iconst 4, 1), (10, .isub, 1), (11, .if_icmp .le 4, 3), (14, .return_, 1), (15, .bipush 17, 2), (17, .istore_n 2, 1), (18, .iload_n 1, 1), (19, .iconst 4, 1), (20, .iadd, 1), (21, .istore_n 3, 1), (22, .iload_n 3, 1), (23, .aload_n 0, 1), (24, .getfield 21, 3), (27, .if_icmp .ge 25, 3), (30, .iload_n 2, 1), (31, .bipush 31, 2), (33, .imul, 1), (34, .aload_n 0, 1), (35, .getfield 15, 3), (38, .iload_n 3, 1), (39, .baload, 1), (40, .sipush 255, 3), (43, .iand, 1), (44, .iadd, 1), (45, .istore_n 2, 1), (46, .iinc 3 1, 3), (49, .goto (-27), 3), (52, .iconst 0, 1), (53, .istore_n 3, 1), (54, .iload_n 3, 1), (55, .iconst 4, 1), (56, .if_icmp .ge 27, 3), (59, .aload_n 0, 1), (60, .getfield 15, 3), (63, .iload_n 1, 1), (64, .iload_n 3, 1), (65, .iadd, 1), (66, .iload_n 2, 1), (67, .bipush 24, 2), (69, .bipush 8, 2), (71, .iload_n 3, 1), (72, .imul, 1), (73, .isub, 1), (74, .iushr, 1), (75, .i2b, 1), (76, .bastore, 1), (77, .iinc 3 1, 3), (80, .goto (-26), 3), (83, .return_, 1)]
theorem mT_X0_seal_ok : ix_tok cX0_seal mT_X0_seal = true := by decide +kernel
def mD_X0_seal : ix_M := (0, yX0_seal, cX0_seal, 4, none, 1, 0, mT_X0_seal, 297, 295, 296)
def mT_X1_init : ix_T := [(0, .aload_n 0, 1), (1, .invokespecial 3, 3), (4, .aload_n 0, 1), (5, .new 9, 3), (8, .dup, 1), (9, .sipush 4000, 3), (12, .invokespecial 11, 3), (15, .putfield 14, 3), (18, .aload_n 0, 1), (19, .sipush 285, 3), (22, .newarray .int, 2), (24, .putfield 20, 3), (27, .aload_n 0, 1), (28, .sipush 285, 3), (31, .newarray .boolean, 2), (33, .putfield 24, 3), (36, .aload_n 0, 1), (37, .bipush 32, 2), (39, .newarray .int, 2), (41, .putfield 28, 3), (44, .return_, 1)]
theorem mT_X1_init_ok : ix_tok cX1_init mT_X1_init = true := by decide +kernel
def mD_X1_init : ix_M := (1, yX1_init, cX1_init, 1, none, 0, 2, mT_X1_init, 121, 120, 120)
def mT_X1_clear : ix_T := [(0, .aload_n 0, 1), (1, .getfield 14, 3), (4, .invokevirtual 31, 3), (7, .aload_n 0, 1), (8, .iconst 0, 1), (9, .putfield 34, 3), (12, .return_, 1)]
theorem mT_X1_clear_ok : ix_tok cX1_clear mT_X1_clear = true := by decide +kernel
def mD_X1_clear : ix_M := (1, yX1_clear, cX1_clear, 1, none, 0, 0, mT_X1_clear, 185, 183, 184)
def mT_X1_append : ix_T := [(0, .aload_n 0, 1), (1, .getfield 34, 3), (4, .sipush 285, 3), (7, .if_icmp .lt 4, 3), (10, .return_, 1), (11, .aload_n 0, 1), (12, .getfield 14, 3), (15, .getfield 38, 3), (18, .istore 6, 2), (20, .aload_n 0, 1), (21, .getfield 14, 3), (24, .iconst 0, 1), (25, .iconst 4, 1), (26, .invokevirtual 41, 3), (29, .aload_n 0, 1), (30, .getfield 14, 3), (33, .aload 5, 2), (35, .getfield 38, 3), (38, .iconst 2, 1), (39, .invokevirtual 41, 3), (42, .aload_n 0, 1), (43, .getfield 14, 3), (46, .iload_n 1, 1), (47, .iconst 1, 1), (48, .invokevirtual 41, 3), (51, .aload_n 0, 1), (52, .getfield 14, 3), (55, .iload_n 2, 1), (56, .iconst 1, 1), (57, .invokevirtual 41, 3), (60, .aload_n 0, 1), (61, .getfield 14, 3), (64, .iload_n 3, 1), (65, .iconst 2, 1), (66, .invokevirtual 41, 3), (69, .aload_n 0, 1), (70, .getfield 14, 3), (73, .iload 4, 2), (75, .iconst 4, 1), (76, .invokevirtual 41, 3), (79, .iconst 0, 1), (80, .istore 7, 2), (82, .iload 7, 2), (84, .aload 5, 2), (86, .getfield 38, 3), (89, .if_icmp .ge 23, 3), (92, .aload_n 0, 1), (93, .getfield 14, 3), (96, .aload 5, 2), (98, .iload 7, 2), (100, .invokevirtual 45, 3), (103, .invokevirtual 49, 3), (106, .iinc 7 1, 3), (109, .goto (-27), 3), (112, .aload_n 0, 1), (113, .getfield 14, 3), (116, .iload 6, 2), (118, .invokevirtual 52, 3), (121, .aload_n 0, 1), (122, .getfield 20, 3), (125, .aload_n 0, 1), (126, .getfield 34, 3), (129, .aload_n 0, 1), (130, .getfield 14, 3), (133, .getfield 38, 3), (136, .iastore, 1), (137, .aload_n 0, 1), (138, .dup, 1), (139, .getfield 34, 3), (142, .iconst 1, 1), (143, .iadd, 1), (144, .putfield 34, 3), (147, .return_, 1)]
theorem mT_X1_append_ok : ix_tok cX1_append mT_X1_append = true := by decide +kernel
def mD_X1_append : ix_M := (1, yX1_append, cX1_append, 8, none, 5, 0, mT_X1_append, 359, 357, 358)
def mT_X1_has : ix_T := [(0, .iload_n 1, 1), (1, .ifCond .lt 15, 3), (4, .iload_n 1, 1), (5, .aload_n 0, 1), (6, .getfield 34, 3), (9, .if_icmp .ge 7, 3), (12, .iconst 1, 1), (13, .goto 4, 3), (16, .iconst 0, 1), (17, .ireturn, 1)]
theorem mT_X1_has_ok : ix_tok cX1_has mT_X1_has = true := by decide +kernel
def mD_X1_has : ix_M := (1, yX1_has, cX1_has, 2, (some (.boolean)), 1, 0, mT_X1_has, 548, 546, 547)
def mT_X1_startOf : ix_T := [(0, .iload_n 1, 1), (1, .iconst 1, 1), (2, .if_icmp .lt 22, 3), (5, .iload_n 1, 1), (6, .aload_n 0, 1), (7, .getfield 34, 3), (10, .if_icmp .gt 14, 3), (13, .aload_n 0, 1), (14, .getfield 20, 3), (17, .iload_n 1, 1), (18, .iconst 1, 1), (19, .isub, 1), (20, .iaload, 1), (21, .goto 4, 3), (24, .iconst 0, 1), (25, .ireturn, 1)]
theorem mT_X1_startOf_ok : ix_tok cX1_startOf mT_X1_startOf = true := by decide +kernel
def mD_X1_startOf : ix_M := (1, yX1_startOf, cX1_startOf, 2, (some (.int)), 1, 0, mT_X1_startOf, 346, 344, 345)
def mT_X1_field : ix_T := [(0, .aload_n 0, 1), (1, .getfield 14, 3), (4, .aload_n 0, 1), (5, .iload_n 1, 1), (6, .invokevirtual 55, 3), (9, .iload_n 2, 1), (10, .iadd, 1), (11, .iload_n 3, 1), (12, .invokevirtual 58, 3), (15, .ireturn, 1)]
theorem mT_X1_field_ok : ix_tok cX1_field mT_X1_field = true := by decide +kernel
def mD_X1_field : ix_M := (1, yX1_field, cX1_field, 4, (some (.int)), 3, 0, mT_X1_field, 351, 349, 350)
def mT_X1_kindOf : ix_T := [(0, .aload_n 0, 1), (1, .getfield 14, 3), (4, .aload_n 0, 1), (5, .iload_n 1, 1), (6, .invokevirtual 55, 3), (9, .bipush 6, 2), (11, .iadd, 1), (12, .iconst 1, 1), (13, .invokevirtual 58, 3), (16, .ireturn, 1)]
theorem mT_X1_kindOf_ok : ix_tok cX1_kindOf mT_X1_kindOf = true := by decide +kernel
def mD_X1_kindOf : ix_M := (1, yX1_kindOf, cX1_kindOf, 2, (some (.int)), 1, 0, mT_X1_kindOf, 342, 340, 341)
def mT_X1_isSeen : ix_T := [(0, .aload_n 0, 1), (1, .iload_n 1, 1), (2, .invokevirtual 62, 3), (5, .istore_n 2, 1), (6, .iload_n 2, 1), (7, .ifCond .eq 8, 3), (10, .iload_n 2, 1), (11, .iconst 1, 1), (12, .if_icmp .ne 7, 3), (15, .iconst 1, 1), (16, .goto 4, 3), (19, .iconst 0, 1), (20, .ireturn, 1)]
theorem mT_X1_isSeen_ok : ix_tok cX1_isSeen mT_X1_isSeen = true := by decide +kernel
def mD_X1_isSeen : ix_M := (1, yX1_isSeen, cX1_isSeen, 3, (some (.boolean)), 1, 0, mT_X1_isSeen, 338, 336, 337)
def mT_X1_dropBroken : ix_T := [(0, .aload_n 0, 1), (1, .getfield 34, 3), (4, .iconst 1, 1), (5, .isub, 1), (6, .istore_n 1, 1), (7, .iload_n 1, 1), (8, .ifCond .lt 30, 3), (11, .aload_n 0, 1), (12, .getfield 20, 3), (15, .iload_n 1, 1), (16, .iaload, 1), (17, .aload_n 0, 1), (18, .getfield 14, 3), (21, .getfield 38, 3), (24, .if_icmp .le 14, 3), (27, .aload_n 0, 1), (28, .iload_n 1, 1), (29, .putfield 34, 3), (32, .iinc 1 (-1), 3), (35, .goto (-28), 3), (38, .return_, 1)]
theorem mT_X1_dropBroken_ok : ix_tok cX1_dropBroken mT_X1_dropBroken = true := by decide +kernel
def mD_X1_dropBroken : ix_M := (1, yX1_dropBroken, cX1_dropBroken, 2, none, 0, 0, mT_X1_dropBroken, 518, 516, 517)
def mT_X1_cutBroken : ix_T := [(0, .aload_n 0, 1), (1, .aload_n 0, 1), (2, .getfield 34, 3), (5, .invokevirtual 55, 3), (8, .istore_n 1, 1), (9, .aload_n 0, 1), (10, .getfield 14, 3), (13, .getfield 38, 3), (16, .iload_n 1, 1), (17, .isub, 1), (18, .istore_n 2, 1), (19, .aload_n 0, 1), (20, .getfield 14, 3), (23, .iload_n 1, 1), (24, .invokevirtual 65, 3), (27, .iload_n 2, 1), (28, .ireturn, 1)]
theorem mT_X1_cutBroken_ok : ix_tok cX1_cutBroken mT_X1_cutBroken = true := by decide +kernel
def mD_X1_cutBroken : ix_M := (1, yX1_cutBroken, cX1_cutBroken, 3, (some (.int)), 0, 0, mT_X1_cutBroken, 526, 524, 525)
def mT_X1_isSentBy : ix_T := [(0, .aload_n 0, 1), (1, .iload_n 1, 1), (2, .invokevirtual 68, 3), (5, .ifCond .eq 31, 3), (8, .aload_n 0, 1), (9, .iload_n 1, 1), (10, .bipush 7, 2), (12, .iconst 1, 1), (13, .invokevirtual 72, 3), (16, .iload_n 2, 1), (17, .if_icmp .ne 19, 3), (20, .aload_n 0, 1), (21, .iload_n 1, 1), (22, .bipush 8, 2), (24, .iconst 2, 1), (25, .invokevirtual 72, 3), (28, .iload_n 3, 1), (29, .if_icmp .ne 7, 3), (32, .iconst 1, 1), (33, .goto 4, 3), (36, .iconst 0, 1), (37, .ireturn, 1)]
theorem mT_X1_isSentBy_ok : ix_tok cX1_isSentBy mT_X1_isSentBy = true := by decide +kernel
def mD_X1_isSentBy : ix_M := (1, yX1_isSentBy, cX1_isSentBy, 4, (some (.boolean)), 3, 0, mT_X1_isSentBy, 410, 408, 409)
def mT_X1_nextOf : ix_T := [(0, .aload_n 0, 1), (1, .getfield 34, 3), (4, .iconst 1, 1), (5, .isub, 1), (6, .istore_n 3, 1), (7, .iload_n 3, 1), (8, .ifCond .lt 30, 3), (11, .aload_n 0, 1), (12, .iload_n 3, 1), (13, .iload_n 1, 1), (14, .iload_n 2, 1), (15, .invokevirtual 76, 3), (18, .ifCond .eq 14, 3), (21, .aload_n 0, 1), (22, .iload_n 3, 1), (23, .bipush 10, 2), (25, .iconst 4, 1), (26, .invokevirtual 72, 3), (29, .iconst 1, 1), (30, .iadd, 1), (31, .ireturn, 1), (32, .iinc 3 (-1), 3), (35, .goto (-28), 3), (38, .iconst 0, 1), (39, .ireturn, 1)]
theorem mT_X1_nextOf_ok : ix_tok cX1_nextOf mT_X1_nextOf = true := by decide +kernel
def mD_X1_nextOf : ix_M := (1, yX1_nextOf, cX1_nextOf, 4, (some (.int)), 2, 0, mT_X1_nextOf, 414, 412, 413)
def mT_X1_offsetOfRecent : ix_T := [(0, .iconst 0, 1), (1, .istore 4, 2), (3, .aload_n 0, 1), (4, .getfield 34, 3), (7, .iconst 1, 1), (8, .isub, 1), (9, .istore 5, 2), (11, .iload 5, 2), (13, .ifCond .lt 45, 3), (16, .iload 4, 2), (18, .iconst 5, 1), (19, .if_icmp .ge 39, 3), (22, .aload_n 0, 1), (23, .iload 5, 2), (25, .iload_n 1, 1), (26, .iload_n 2, 1), (27, .invokevirtual 76, 3), (30, .ifCond .eq 22, 3), (33, .aload_n 0, 1), (34, .iload 5, 2), (36, .bipush 10, 2), (38, .iconst 4, 1), (39, .invokevirtual 72, 3), (42, .iload_n 3, 1), (43, .if_icmp .ne 6, 3), (46, .iload 5, 2), (48, .ireturn, 1), (49, .iinc 4 1, 3), (52, .iinc 5 (-1), 3), (55, .goto (-44), 3), (58, .iconst (-1), 1), (59, .ireturn, 1)]
theorem mT_X1_offsetOfRecent_ok : ix_tok cX1_offsetOfRecent mT_X1_offsetOfRecent = true := by decide +kernel
def mD_X1_offsetOfRecent : ix_M := (1, yX1_offsetOfRecent, cX1_offsetOfRecent, 6, (some (.int)), 3, 0, mT_X1_offsetOfRecent, 406, 404, 405)
def mT_X1_hasEndOf : ix_T := [(0, .aload_n 0, 1), (1, .getfield 34, 3), (4, .iconst 1, 1), (5, .isub, 1), (6, .istore_n 2, 1), (7, .iload_n 2, 1), (8, .ifCond .lt 31, 3), (11, .aload_n 0, 1), (12, .iload_n 2, 1), (13, .invokevirtual 68, 3), (16, .ifCond .ne 17, 3), (19, .aload_n 0, 1), (20, .iload_n 2, 1), (21, .bipush 10, 2), (23, .iconst 4, 1), (24, .invokevirtual 72, 3), (27, .iload_n 1, 1), (28, .if_icmp .ne 5, 3), (31, .iconst 1, 1), (32, .ireturn, 1), (33, .iinc 2 (-1), 3), (36, .goto (-29), 3), (39, .iconst 0, 1), (40, .ireturn, 1)]
theorem mT_X1_hasEndOf_ok : ix_tok cX1_hasEndOf mT_X1_hasEndOf = true := by decide +kernel
def mD_X1_hasEndOf : ix_M := (1, yX1_hasEndOf, cX1_hasEndOf, 3, (some (.boolean)), 1, 0, mT_X1_hasEndOf, 334, 332, 333)
def mT_X1_stable : ix_T := [(0, .aload_n 0, 1), (1, .getfield 28, 3), (4, .iconst (-1), 1), (5, .invokestatic 80, 3), (8, .aload_n 0, 1), (9, .getfield 34, 3), (12, .istore_n 1, 1), (13, .aload_n 0, 1), (14, .getfield 34, 3), (17, .iconst 1, 1), (18, .isub, 1), (19, .istore_n 2, 1), (20, .iload_n 2, 1), (21, .ifCond .lt 97, 3), (24, .aload_n 0, 1), (25, .iload_n 2, 1), (26, .invokevirtual 62, 3), (29, .istore_n 3, 1), (30, .aload_n 0, 1), (31, .iload_n 2, 1), (32, .bipush 7, 2), (34, .iconst 1, 1), (35, .invokevirtual 72, 3), (38, .bipush 31, 2), (40, .invokestatic 86, 3), (43, .istore 4, 2), (45, .aload_n 0, 1), (46, .getfield 24, 3), (49, .iload_n 2, 1), (50, .iload_n 3, 1), (51, .ifCond .eq 19, 3), (54, .iload_n 3, 1), (55, .iconst 1, 1), (56, .if_icmp .ne 18, 3), (59, .aload_n 0, 1), (60, .getfield 28, 3), (63, .iload 4, 2), (65, .iaload, 1), (66, .iconst 2, 1), (67, .if_icmp .ne 7, 3), (70, .iconst 1, 1), (71, .goto 4, 3), (74, .iconst 0, 1), (75, .bastore, 1), (76, .iload_n 3, 1), (77, .iconst 1, 1), (78, .if_icmp .ne 16, 3), (81, .aload_n 0, 1), (82, .getfield 28, 3), (85, .iload 4, 2), (87, .iaload, 1), (88, .iconst (-1), 1), (89, .if_icmp .ne 5, 3), (92, .iload_n 2, 1), (93, .istore_n 1, 1), (94, .iload_n 3, 1), (95, .iconst 2, 1), (96, .if_icmp .eq 8, 3), (99, .iload_n 3, 1), (100, .iconst 3, 1), (101, .if_icmp .ne 11, 3), (104, .aload_n 0, 1), (105, .getfield 28, 3), (108, .iload 4, 2), (110, .iload_n 3, 1), (111, .iastore, 1), (112, .iinc 2 (-1), 3), (115, .goto (-95), 3), (118, .iload_n 1, 1), (119, .ireturn, 1)]
theorem mT_X1_stable_ok : ix_tok cX1_stable mT_X1_stable = true := by decide +kernel
def mD_X1_stable : ix_M := (1, yX1_stable, cX1_stable, 5, (some (.int)), 0, 0, mT_X1_stable, 471, 469, 470)
def mT_X1_committedEntries : ix_T := [(0, .aload_n 0, 1), (1, .invokevirtual 91, 3), (4, .istore_n 1, 1), (5, .iconst 0, 1), (6, .istore_n 2, 1), (7, .iconst 0, 1), (8, .istore_n 3, 1), (9, .iload_n 3, 1), (10, .iload_n 1, 1), (11, .if_icmp .ge 26, 3), (14, .iload_n 2, 1), (15, .aload_n 0, 1), (16, .getfield 24, 3), (19, .iload_n 3, 1), (20, .baload, 1), (21, .ifCond .eq 7, 3), (24, .iconst 1, 1), (25, .goto 4, 3), (28, .iconst 0, 1), (29, .iadd, 1), (30, .istore_n 2, 1), (31, .iinc 3 1, 3), (34, .goto (-25), 3), (37, .iload_n 2, 1), (38, .ireturn, 1)]
theorem mT_X1_committedEntries_ok : ix_tok cX1_committedEntries mT_X1_committedEntries = true := by decide +kernel
def mD_X1_committedEntries : ix_M := (1, yX1_committedEntries, cX1_committedEntries, 4, (some (.int)), 0, 0, mT_X1_committedEntries, 540, 538, 539)
def mT_X1_firstCommitted : ix_T := [(0, .aload_n 0, 1), (1, .invokevirtual 91, 3), (4, .istore_n 2, 1), (5, .iload_n 1, 1), (6, .iconst 0, 1), (7, .invokestatic 95, 3), (10, .istore_n 3, 1), (11, .iload_n 3, 1), (12, .iload_n 2, 1), (13, .if_icmp .ge 20, 3), (16, .aload_n 0, 1), (17, .getfield 24, 3), (20, .iload_n 3, 1), (21, .baload, 1), (22, .ifCond .eq 5, 3), (25, .iload_n 3, 1), (26, .ireturn, 1), (27, .iinc 3 1, 3), (30, .goto (-19), 3), (33, .iconst (-1), 1), (34, .ireturn, 1)]
theorem mT_X1_firstCommitted_ok : ix_tok cX1_firstCommitted mT_X1_firstCommitted = true := by decide +kernel
def mD_X1_firstCommitted : ix_M := (1, yX1_firstCommitted, cX1_firstCommitted, 4, (some (.int)), 1, 0, mT_X1_firstCommitted, 467, 465, 466)
def mT_X1_firstSeen : ix_T := [(0, .iload_n 1, 1), (1, .iconst 0, 1), (2, .invokestatic 95, 3), (5, .istore_n 2, 1), (6, .iload_n 2, 1), (7, .aload_n 0, 1), (8, .getfield 34, 3), (11, .if_icmp .ge 19, 3), (14, .aload_n 0, 1), (15, .iload_n 2, 1), (16, .invokevirtual 68, 3), (19, .ifCond .eq 5, 3), (22, .iload_n 2, 1), (23, .ireturn, 1), (24, .iinc 2 1, 3), (27, .goto (-21), 3), (30, .iconst (-1), 1), (31, .ireturn, 1)]
theorem mT_X1_firstSeen_ok : ix_tok cX1_firstSeen mT_X1_firstSeen = true := by decide +kernel
def mD_X1_firstSeen : ix_M := (1, yX1_firstSeen, cX1_firstSeen, 3, (some (.int)), 1, 0, mT_X1_firstSeen, 480, 478, 479)
def mT_X1_copyPayload : ix_T := [(0, .aload_n 0, 1), (1, .iload_n 1, 1), (2, .invokevirtual 55, 3), (5, .bipush 14, 2), (7, .iadd, 1), (8, .istore_n 3, 1), (9, .aload_n 0, 1), (10, .iload_n 1, 1), (11, .iconst 4, 1), (12, .iconst 2, 1), (13, .invokevirtual 72, 3), (16, .bipush 40, 2), (18, .invokestatic 86, 3), (21, .istore 4, 2), (23, .iconst 0, 1), (24, .istore 5, 2), (26, .iload 5, 2), (28, .iload 4, 2), (30, .if_icmp .ge 24, 3), (33, .aload_n 2, 1), (34, .aload_n 0, 1), (35, .getfield 14, 3), (38, .iload_n 3, 1), (39, .iload 5, 2), (41, .iadd, 1), (42, .invokevirtual 45, 3), (45, .invokevirtual 49, 3), (48, .iinc 5 1, 3), (51, .goto (-25), 3), (54, .return_, 1)]
theorem mT_X1_copyPayload_ok : ix_tok cX1_copyPayload mT_X1_copyPayload = true := by decide +kernel
def mD_X1_copyPayload : ix_M := (1, yX1_copyPayload, cX1_copyPayload, 6, none, 2, 0, mT_X1_copyPayload, 484, 482, 483)
def mT_X2_init : ix_T := [(0, .aload_n 0, 1), (1, .invokespecial 3, 3), (4, .return_, 1)]
theorem mT_X2_init_ok : ix_tok cX2_init mT_X2_init = true := by decide +kernel
def mD_X2_init : ix_M := (2, yX2_init, cX2_init, 1, none, 0, 2, mT_X2_init, 147, 146, 146)
def mT_X2_forget : ix_T := [(0, .aload_n 0, 1), (1, .iconst (-1), 1), (2, .putfield 9, 3), (5, .aload_n 0, 1), (6, .invokevirtual 15, 3), (9, .return_, 1)]
theorem mT_X2_forget_ok : ix_tok cX2_forget mT_X2_forget = true := by decide +kernel
def mD_X2_forget : ix_M := (2, yX2_forget, cX2_forget, 1, none, 0, 0, mT_X2_forget, 205, 203, 204)
def mT_X2_openTransaction : ix_T := [(0, .aload_n 0, 1), (1, .iload_n 1, 1), (2, .putfield 18, 3), (5, .aload_n 0, 1), (6, .iload_n 2, 1), (7, .putfield 21, 3), (10, .aload_n 0, 1), (11, .iload_n 3, 1), (12, .putfield 24, 3), (15, .return_, 1)]
theorem mT_X2_openTransaction_ok : ix_tok cX2_openTransaction mT_X2_openTransaction = true := by decide +kernel
def mD_X2_openTransaction : ix_M := (2, yX2_openTransaction, cX2_openTransaction, 4, none, 3, 0, mT_X2_openTransaction, 313, 311, 312)
def mT_X2_closeTransaction : ix_T := [(0, .aload_n 0, 1), (1, .iconst (-1), 1), (2, .putfield 18, 3), (5, .aload_n 0, 1), (6, .iconst (-1), 1), (7, .putfield 21, 3), (10, .aload_n 0, 1), (11, .iconst 0, 1), (12, .putfield 27, 3), (15, .aload_n 0, 1), (16, .iconst 0, 1), (17, .putfield 30, 3), (20, .aload_n 0, 1), (21, .iconst (-1), 1), (22, .putfield 33, 3), (25, .return_, 1)]
theorem mT_X2_closeTransaction_ok : ix_tok cX2_closeTransaction mT_X2_closeTransaction = true := by decide +kernel
def mD_X2_closeTransaction : ix_M := (2, yX2_closeTransaction, cX2_closeTransaction, 1, none, 0, 0, mT_X2_closeTransaction, 209, 207, 208)
def mT_X2_isOpen : ix_T := [(0, .aload_n 0, 1), (1, .getfield 18, 3), (4, .iconst (-1), 1), (5, .if_icmp .eq 7, 3), (8, .iconst 1, 1), (9, .goto 4, 3), (12, .iconst 0, 1), (13, .ireturn, 1)]
theorem mT_X2_isOpen_ok : ix_tok cX2_isOpen mT_X2_isOpen = true := by decide +kernel
def mD_X2_isOpen : ix_M := (2, yX2_isOpen, cX2_isOpen, 1, (some (.boolean)), 0, 0, mT_X2_isOpen, 280, 278, 279)
def mT_X2_hasAdded : ix_T := [(0, .aload_n 0, 1), (1, .getfield 27, 3), (4, .iload_n 1, 1), (5, .ishr, 1), (6, .iconst 1, 1), (7, .iand, 1), (8, .iconst 1, 1), (9, .if_icmp .ne 7, 3), (12, .iconst 1, 1), (13, .goto 4, 3), (16, .iconst 0, 1), (17, .ireturn, 1)]
theorem mT_X2_hasAdded_ok : ix_tok cX2_hasAdded mT_X2_hasAdded = true := by decide +kernel
def mD_X2_hasAdded : ix_M := (2, yX2_hasAdded, cX2_hasAdded, 2, (some (.boolean)), 1, 0, mT_X2_hasAdded, 330, 328, 329)
def mT_X3_init : ix_T := [(0, .aload_n 0, 1), (1, .invokespecial 3, 3), (4, .aload_n 0, 1), (5, .sipush 3280, 3), (8, .newarray .int, 2), (10, .putfield 9, 3), (13, .aload_n 0, 1), (14, .sipush 3280, 3), (17, .newarray .int, 2), (19, .putfield 15, 3), (22, .aload_n 0, 1), (23, .bipush 9, 2), (25, .newarray .int, 2), (27, .putfield 18, 3), (30, .return_, 1)]
theorem mT_X3_init_ok : ix_tok cX3_init mT_X3_init = true := by decide +kernel
def mD_X3_init : ix_M := (3, yX3_init, cX3_init, 1, none, 0, 2, mT_X3_init, 96, 95, 95)
def mT_X3_clear : ix_T := [(0, .aload_n 0, 1), (1, .iconst 0, 1), (2, .putfield 21, 3), (5, .aload_n 0, 1), (6, .iconst 0, 1), (7, .putfield 25, 3), (10, .aload_n 0, 1), (11, .getfield 18, 3), (14, .iconst 0, 1), (15, .invokestatic 28, 3), (18, .return_, 1)]
theorem mT_X3_clear_ok : ix_tok cX3_clear mT_X3_clear = true := by decide +kernel
def mD_X3_clear : ix_M := (3, yX3_clear, cX3_clear, 1, none, 0, 0, mT_X3_clear, 194, 192, 193)
def mT_X3_note : ix_T := [(0, .aload_n 0, 1), (1, .getfield 21, 3), (4, .sipush 3280, 3), (7, .if_icmp .ge 66, 3), (10, .iload_n 1, 1), (11, .ifCond .lt 62, 3), (14, .iload_n 1, 1), (15, .aload_n 0, 1), (16, .getfield 18, 3), (19, .arraylength, 1), (20, .if_icmp .ge 53, 3), (23, .aload_n 0, 1), (24, .getfield 9, 3), (27, .aload_n 0, 1), (28, .getfield 21, 3), (31, .iload_n 1, 1), (32, .iastore, 1), (33, .aload_n 0, 1), (34, .getfield 15, 3), (37, .aload_n 0, 1), (38, .getfield 21, 3), (41, .iload_n 2, 1), (42, .iastore, 1), (43, .aload_n 0, 1), (44, .dup, 1), (45, .getfield 21, 3), (48, .iconst 1, 1), (49, .iadd, 1), (50, .putfield 21, 3), (53, .aload_n 0, 1), (54, .dup, 1), (55, .getfield 25, 3), (58, .iload_n 2, 1), (59, .iadd, 1), (60, .putfield 25, 3), (63, .aload_n 0, 1), (64, .getfield 18, 3), (67, .iload_n 1, 1), (68, .dup2, 1), (69, .iaload, 1), (70, .iload_n 2, 1), (71, .iadd, 1), (72, .iastore, 1), (73, .return_, 1)]
theorem mT_X3_note_ok : ix_tok cX3_note mT_X3_note = true := by decide +kernel
def mD_X3_note : ix_M := (3, yX3_note, cX3_note, 3, none, 2, 0, mT_X3_note, 301, 299, 300)
def mT_X3_bytesOf : ix_T := [(0, .iload_n 1, 1), (1, .ifCond .lt 21, 3), (4, .iload_n 1, 1), (5, .aload_n 0, 1), (6, .getfield 18, 3), (9, .arraylength, 1), (10, .if_icmp .ge 12, 3), (13, .aload_n 0, 1), (14, .getfield 18, 3), (17, .iload_n 1, 1), (18, .iaload, 1), (19, .goto 4, 3), (22, .iconst 0, 1), (23, .ireturn, 1)]
theorem mT_X3_bytesOf_ok : ix_tok cX3_bytesOf mT_X3_bytesOf = true := by decide +kernel
def mD_X3_bytesOf : ix_M := (3, yX3_bytesOf, cX3_bytesOf, 2, (some (.int)), 1, 0, mT_X3_bytesOf, 505, 503, 504)
def mT_X3_keptOf : ix_T := [(0, .iload_n 2, 1), (1, .istore_n 3, 1), (2, .iconst 0, 1), (3, .istore 4, 2), (5, .iconst 0, 1), (6, .istore 5, 2), (8, .iload 5, 2), (10, .aload_n 0, 1), (11, .getfield 21, 3), (14, .if_icmp .ge 53, 3), (17, .iload_n 3, 1), (18, .ifCond .le 49, 3), (21, .aload_n 0, 1), (22, .getfield 15, 3), (25, .iload 5, 2), (27, .iaload, 1), (28, .iload_n 3, 1), (29, .invokestatic 34, 3), (32, .istore 6, 2), (34, .iload 4, 2), (36, .aload_n 0, 1), (37, .getfield 9, 3), (40, .iload 5, 2), (42, .iaload, 1), (43, .iload_n 1, 1), (44, .if_icmp .ne 8, 3), (47, .iload 6, 2), (49, .goto 4, 3), (52, .iconst 0, 1), (53, .iadd, 1), (54, .istore 4, 2), (56, .iload_n 3, 1), (57, .iload 6, 2), (59, .isub, 1), (60, .istore_n 3, 1), (61, .iinc 5 1, 3), (64, .goto (-56), 3), (67, .iload 4, 2), (69, .ireturn, 1)]
theorem mT_X3_keptOf_ok : ix_tok cX3_keptOf mT_X3_keptOf = true := by decide +kernel
def mD_X3_keptOf : ix_M := (3, yX3_keptOf, cX3_keptOf, 7, (some (.int)), 2, 0, mT_X3_keptOf, 509, 507, 508)
def mT_X4_init : ix_T := [(0, .aload_n 0, 1), (1, .invokespecial 3, 3), (4, .aload_n 0, 1), (5, .new 9, 3), (8, .dup, 1), (9, .bipush 40, 2), (11, .invokespecial 11, 3), (14, .putfield 14, 3), (17, .aload_n 0, 1), (18, .new 9, 3), (21, .dup, 1), (22, .bipush 40, 2), (24, .invokespecial 11, 3), (27, .putfield 18, 3), (30, .aload_n 0, 1), (31, .new 9, 3), (34, .dup, 1), (35, .iconst 0, 1), (36, .invokespecial 11, 3), (39, .putfield 21, 3), (42, .aload_n 0, 1), (43, .bipush 8, 2), (45, .anewarray 24, 3), (48, .putfield 26, 3), (51, .aload_n 0, 1), (52, .new 9, 3), (55, .dup, 1), (56, .sipush 16000, 3), (59, .invokespecial 11, 3), (62, .putfield 30, 3), (65, .aload_n 0, 1), (66, .new 33, 3), (69, .dup, 1), (70, .invokespecial 35, 3), (73, .putfield 36, 3), (76, .aload_n 0, 1), (77, .bipush 32, 2), (79, .anewarray 40, 3), (82, .putfield 42, 3), (85, .aload_n 0, 1), (86, .bipush 64, 2), (88, .newarray .int, 2), (90, .putfield 46, 3), (93, .iconst 0, 1), (94, .istore_n 1, 1), (95, .iload_n 1, 1), (96, .bipush 8, 2), (98, .if_icmp .ge 22, 3), (101, .aload_n 0, 1), (102, .getfield 26, 3), (105, .iload_n 1, 1), (106, .new 24, 3), (109, .dup, 1), (110, .invokespecial 50, 3), (113, .aastore, 1), (114, .iinc 1 1, 3), (117, .goto (-22), 3), (120, .iconst 0, 1), (121, .istore_n 1, 1), (122, .iload_n 1, 1), (123, .bipush 32, 2), (125, .if_icmp .ge 22, 3), (128, .aload_n 0, 1), (129, .getfield 42, 3), (132, .iload_n 1, 1), (133, .new 40, 3), (136, .dup, 1), (137, .invokespecial 51, 3), (140, .aastore, 1), (141, .iinc 1 1, 3), (144, .goto (-22), 3), (147, .aload_n 0, 1), (148, .iconst 4, 1), (149, .sipush 2000, 3), (152, .bipush 100, 2), (154, .invokevirtual 52, 3), (157, .return_, 1)]
theorem mT_X4_init_ok : ix_tok cX4_init mT_X4_init = true := by decide +kernel
def mD_X4_init : ix_M := (4, yX4_init, cX4_init, 2, none, 0, 2, mT_X4_init, 67, 66, 66)
def mT_X4_format : ix_T := [(0, .iload_n 1, 1), (1, .iconst 1, 1), (2, .if_icmp .lt 34, 3), (5, .iload_n 1, 1), (6, .bipush 8, 2), (8, .if_icmp .gt 28, 3), (11, .iload_n 2, 1), (12, .bipush 100, 2), (14, .if_icmp .lt 22, 3), (17, .iload_n 2, 1), (18, .sipush 4000, 3), (21, .if_icmp .gt 15, 3), (24, .iload_n 3, 1), (25, .iconst 1, 1), (26, .if_icmp .lt 10, 3), (29, .iload_n 3, 1), (30, .sipush 1000, 3), (33, .if_icmp .le 5, 3), (36, .iconst 0, 1), (37, .ireturn, 1), (38, .aload_n 0, 1), (39, .iload_n 1, 1), (40, .iload_n 2, 1), (41, .iload_n 3, 1), (42, .invokevirtual 52, 3), (45, .iconst 1, 1), (46, .ireturn, 1)]
theorem mT_X4_format_ok : ix_tok cX4_format mT_X4_format = true := by decide +kernel
def mD_X4_format : ix_M := (4, yX4_format, cX4_format, 4, (some (.boolean)), 3, 0, mT_X4_format, 260, 258, 259)
def mT_X4_feed : ix_T := [(0, .iload_n 1, 1), (1, .iconst 1, 1), (2, .if_icmp .lt 23, 3), (5, .iload_n 1, 1), (6, .bipush 16, 2), (8, .if_icmp .gt 17, 3), (11, .aload_n 0, 1), (12, .getfield 14, 3), (15, .getfield 56, 3), (18, .iload_n 1, 1), (19, .iadd, 1), (20, .bipush 40, 2), (22, .if_icmp .le 5, 3), (25, .iconst (-1), 1), (26, .ireturn, 1), (27, .iconst 0, 1), (28, .istore 6, 2), (30, .iload 6, 2), (32, .iload_n 1, 1), (33, .if_icmp .ge 43, 3), (36, .iload 6, 2), (38, .bipush 8, 2), (40, .if_icmp .ge 7, 3), (43, .lload_n 2, 1), (44, .goto 5, 3), (47, .lload 4, 2), (49, .lstore 7, 2), (51, .aload_n 0, 1), (52, .getfield 14, 3), (55, .lload 7, 2), (57, .bipush 8, 2), (59, .iload 6, 2), (61, .bipush 7, 2), (63, .iand, 1), (64, .imul, 1), (65, .lushr, 1), (66, .l2i, 1), (67, .invokevirtual 60, 3), (70, .iinc 6 1, 3), (73, .goto (-43), 3), (76, .aload_n 0, 1), (77, .getfield 14, 3), (80, .getfield 56, 3), (83, .ireturn, 1)]
theorem mT_X4_feed_ok : ix_tok cX4_feed mT_X4_feed = true := by decide +kernel
def mD_X4_feed : ix_M := (4, yX4_feed, cX4_feed, 9, (some (.int)), 3, 0, mT_X4_feed, 264, 262, 263)
def mT_X4_register : ix_T := [(0, .aload_n 0, 1), (1, .getfield 63, 3), (4, .ifCond .eq 5, 3), (7, .iconst (-1), 1), (8, .ireturn, 1), (9, .aload_n 0, 1), (10, .iload_n 1, 1), (11, .invokevirtual 67, 3), (14, .ifCond .ne 6, 3), (17, .bipush (-2), 2), (19, .ireturn, 1), (20, .aload_n 0, 1), (21, .getfield 42, 3), (24, .iload_n 1, 1), (25, .aaload, 1), (26, .invokevirtual 71, 3), (29, .ifCond .eq 17, 3), (32, .aload_n 0, 1), (33, .iload_n 1, 1), (34, .iconst 0, 1), (35, .invokevirtual 75, 3), (38, .aload_n 0, 1), (39, .iload_n 1, 1), (40, .invokevirtual 79, 3), (43, .goto 14, 3), (46, .aload_n 0, 1), (47, .iconst 0, 1), (48, .invokevirtual 82, 3), (51, .ifCond .ne 6, 3), (54, .bipush (-8), 2), (56, .ireturn, 1), (57, .aload_n 0, 1), (58, .iload_n 1, 1), (59, .invokevirtual 85, 3), (62, .aload_n 0, 1), (63, .getfield 42, 3), (66, .iload_n 1, 1), (67, .aaload, 1), (68, .getfield 88, 3), (71, .ireturn, 1)]
theorem mT_X4_register_ok : ix_tok cX4_register mT_X4_register = true := by decide +kernel
def mD_X4_register : ix_M := (4, yX4_register, cX4_register, 2, (some (.int)), 1, 0, mT_X4_register, 272, 270, 271)
def mT_X4_begin : ix_T := [(0, .aload_n 0, 1), (1, .iload_n 1, 1), (2, .iload_n 2, 1), (3, .iconst 1, 1), (4, .invokevirtual 91, 3), (7, .istore_n 3, 1), (8, .iload_n 3, 1), (9, .ifCond .eq 5, 3), (12, .iload_n 3, 1), (13, .ireturn, 1), (14, .aload_n 0, 1), (15, .getfield 42, 3), (18, .iload_n 1, 1), (19, .aaload, 1), (20, .invokevirtual 71, 3), (23, .ifCond .eq 6, 3), (26, .bipush (-4), 2), (28, .ireturn, 1), (29, .aload_n 0, 1), (30, .iconst 1, 1), (31, .invokevirtual 82, 3), (34, .ifCond .ne 6, 3), (37, .bipush (-8), 2), (39, .ireturn, 1), (40, .aload_n 0, 1), (41, .getfield 95, 3), (44, .istore 4, 2), (46, .aload_n 0, 1), (47, .iconst 1, 1), (48, .iload_n 1, 1), (49, .iload_n 2, 1), (50, .aload_n 0, 1), (51, .getfield 98, 3), (54, .iload 4, 2), (56, .invokevirtual 101, 3), (59, .iload 4, 2), (61, .ireturn, 1)]
theorem mT_X4_begin_ok : ix_tok cX4_begin mT_X4_begin = true := by decide +kernel
def mD_X4_begin : ix_M := (4, yX4_begin, cX4_begin, 5, (some (.int)), 2, 0, mT_X4_begin, 382, 380, 381)
def mT_X4_send : ix_T := [(0, .aload_n 0, 1), (1, .iload_n 1, 1), (2, .iload_n 2, 1), (3, .iload_n 3, 1), (4, .iload 4, 2), (6, .iload 5, 2), (8, .invokevirtual 105, 3), (11, .istore 6, 2), (13, .aload_n 0, 1), (14, .getfield 14, 3), (17, .invokevirtual 109, 3), (20, .iload 6, 2), (22, .ireturn, 1)]
theorem mT_X4_send_ok : ix_tok cX4_send mT_X4_send = true := by decide +kernel
def mD_X4_send : ix_M := (4, yX4_send, cX4_send, 7, (some (.int)), 5, 0, mT_X4_send, 394, 392, 393)
def mT_X4_later : ix_T := [(0, .aload_n 0, 1), (1, .iload_n 1, 1), (2, .iload_n 2, 1), (3, .aload_n 0, 1), (4, .iload_n 3, 1), (5, .iload 4, 2), (7, .invokevirtual 112, 3), (10, .ifCond .eq 12, 3), (13, .iload 5, 2), (15, .ifCond .lt 7, 3), (18, .iconst 1, 1), (19, .goto 4, 3), (22, .iconst 0, 1), (23, .invokevirtual 91, 3), (26, .istore 6, 2), (28, .iload 6, 2), (30, .ifCond .eq 6, 3), (33, .iload 6, 2), (35, .ireturn, 1), (36, .aload_n 0, 1), (37, .getfield 42, 3), (40, .iload_n 1, 1), (41, .aaload, 1), (42, .invokevirtual 71, 3), (45, .ifCond .ne 6, 3), (48, .bipush (-5), 2), (50, .ireturn, 1), (51, .aload_n 0, 1), (52, .iconst 0, 1), (53, .invokevirtual 82, 3), (56, .ifCond .ne 6, 3), (59, .bipush (-8), 2), (61, .ireturn, 1), (62, .aload_n 0, 1), (63, .iconst 3, 1), (64, .iload_n 1, 1), (65, .iload_n 2, 1), (66, .aload_n 0, 1), (67, .iload_n 3, 1), (68, .iload 4, 2), (70, .invokevirtual 116, 3), (73, .iload 5, 2), (75, .invokevirtual 101, 3), (78, .iconst 0, 1), (79, .ireturn, 1)]
theorem mT_X4_later_ok : ix_tok cX4_later mT_X4_later = true := by decide +kernel
def mD_X4_later : ix_M := (4, yX4_later, cX4_later, 7, (some (.int)), 5, 0, mT_X4_later, 426, 424, 425)
def mT_X4_end : ix_T := [(0, .aload_n 0, 1), (1, .iload_n 1, 1), (2, .iload_n 2, 1), (3, .iconst 1, 1), (4, .invokevirtual 91, 3), (7, .istore 4, 2), (9, .iload 4, 2), (11, .ifCond .eq 6, 3), (14, .iload 4, 2), (16, .ireturn, 1), (17, .aload_n 0, 1), (18, .getfield 42, 3), (21, .iload_n 1, 1), (22, .aaload, 1), (23, .invokevirtual 71, 3), (26, .ifCond .ne 6, 3), (29, .bipush (-5), 2), (31, .ireturn, 1), (32, .aload_n 0, 1), (33, .iload_n 1, 1), (34, .iload_n 3, 1), (35, .invokevirtual 75, 3), (38, .aload_n 0, 1), (39, .iload_n 1, 1), (40, .invokevirtual 79, 3), (43, .iconst 0, 1), (44, .ireturn, 1)]
theorem mT_X4_end_ok : ix_tok cX4_end mT_X4_end = true := by decide +kernel
def mD_X4_end : ix_M := (4, yX4_end, cX4_end, 5, (some (.int)), 3, 0, mT_X4_end, 438, 436, 437)
def mT_X4_mark : ix_T := [(0, .aload_n 0, 1), (1, .getfield 63, 3), (4, .ifCond .eq 5, 3), (7, .iconst (-1), 1), (8, .ireturn, 1), (9, .aload_n 0, 1), (10, .iload_n 1, 1), (11, .iload_n 2, 1), (12, .invokevirtual 112, 3), (15, .ifCond .eq 7, 3), (18, .iload_n 3, 1), (19, .ifCond .ge 6, 3), (22, .bipush (-2), 2), (24, .ireturn, 1), (25, .aload_n 0, 1), (26, .iconst 0, 1), (27, .invokevirtual 82, 3), (30, .ifCond .ne 6, 3), (33, .bipush (-8), 2), (35, .ireturn, 1), (36, .aload_n 0, 1), (37, .bipush 6, 2), (39, .iconst 0, 1), (40, .iconst 0, 1), (41, .aload_n 0, 1), (42, .iload_n 1, 1), (43, .iload_n 2, 1), (44, .invokevirtual 116, 3), (47, .iload_n 3, 1), (48, .invokevirtual 101, 3), (51, .iconst 0, 1), (52, .ireturn, 1)]
theorem mT_X4_mark_ok : ix_tok cX4_mark mT_X4_mark = true := by decide +kernel
def mD_X4_mark : ix_M := (4, yX4_mark, cX4_mark, 4, (some (.int)), 3, 0, mT_X4_mark, 442, 440, 441)
def mT_X4_marked : ix_T := [(0, .aload_n 0, 1), (1, .getfield 63, 3), (4, .ifCond .ne 12, 3), (7, .aload_n 0, 1), (8, .iload_n 1, 1), (9, .iload_n 2, 1), (10, .invokevirtual 112, 3), (13, .ifCond .ne 5, 3), (16, .iconst (-1), 1), (17, .ireturn, 1), (18, .aload_n 0, 1), (19, .getfield 46, 3), (22, .aload_n 0, 1), (23, .iload_n 1, 1), (24, .iload_n 2, 1), (25, .invokevirtual 116, 3), (28, .iaload, 1), (29, .ireturn, 1)]
theorem mT_X4_marked_ok : ix_tok cX4_marked mT_X4_marked = true := by decide +kernel
def mD_X4_marked : ix_M := (4, yX4_marked, cX4_marked, 3, (some (.int)), 2, 0, mT_X4_marked, 446, 444, 445)
def mT_X4_tick : ix_T := [(0, .iload_n 1, 1), (1, .ifCond .lt 21, 3), (4, .iload_n 1, 1), (5, .sipush 1000, 3), (8, .if_icmp .gt 14, 3), (11, .aload_n 0, 1), (12, .getfield 98, 3), (15, .iload_n 1, 1), (16, .iadd, 1), (17, .ldc 120, 2), (19, .if_icmp .le 6, 3), (22, .bipush (-2), 2), (24, .ireturn, 1), (25, .aload_n 0, 1), (26, .dup, 1), (27, .getfield 98, 3), (30, .iload_n 1, 1), (31, .iadd, 1), (32, .putfield 98, 3), (35, .aload_n 0, 1), (36, .getfield 63, 3), (39, .ifCond .eq 7, 3), (42, .iconst 0, 1), (43, .goto 7, 3), (46, .aload_n 0, 1), (47, .invokevirtual 121, 3), (50, .ireturn, 1)]
theorem mT_X4_tick_ok : ix_tok cX4_tick mT_X4_tick = true := by decide +kernel
def mD_X4_tick : ix_M := (4, yX4_tick, cX4_tick, 2, (some (.int)), 1, 0, mT_X4_tick, 450, 448, 449)
def mT_X4_fetch : ix_T := [(0, .aload_n 0, 1), (1, .getfield 18, 3), (4, .invokevirtual 109, 3), (7, .aload_n 0, 1), (8, .getfield 63, 3), (11, .ifCond .ne 15, 3), (14, .aload_n 0, 1), (15, .iload_n 1, 1), (16, .invokevirtual 125, 3), (19, .ifCond .eq 7, 3), (22, .iload_n 2, 1), (23, .ifCond .ge 5, 3), (26, .iconst (-1), 1), (27, .ireturn, 1), (28, .aload_n 0, 1), (29, .getfield 26, 3), (32, .iload_n 1, 1), (33, .aaload, 1), (34, .astore 4, 2), (36, .iload_n 3, 1), (37, .ifCond .eq 12, 3), (40, .aload 4, 2), (42, .iload_n 2, 1), (43, .invokevirtual 128, 3), (46, .goto 9, 3), (49, .aload 4, 2), (51, .iload_n 2, 1), (52, .invokevirtual 132, 3), (55, .istore 5, 2), (57, .iload 5, 2), (59, .iconst (-1), 1), (60, .if_icmp .eq 14, 3), (63, .aload 4, 2), (65, .iload 5, 2), (67, .aload_n 0, 1), (68, .getfield 18, 3), (71, .invokevirtual 135, 3), (74, .iload 5, 2), (76, .ireturn, 1)]
theorem mT_X4_fetch_ok : ix_tok cX4_fetch mT_X4_fetch = true := by decide +kernel
def mD_X4_fetch : ix_M := (4, yX4_fetch, cX4_fetch, 6, (some (.int)), 3, 0, mT_X4_fetch, 463, 461, 462)
def mT_X4_answer : ix_T := [(0, .aload_n 0, 1), (1, .getfield 18, 3), (4, .iload_n 1, 1), (5, .invokevirtual 139, 3), (8, .ireturn, 1)]
theorem mT_X4_answer_ok : ix_tok cX4_answer mT_X4_answer = true := by decide +kernel
def mD_X4_answer : ix_M := (4, yX4_answer, cX4_answer, 2, (some (.int)), 1, 0, mT_X4_answer, 488, 486, 487)
def mT_X4_sync : ix_T := [(0, .aload_n 0, 1), (1, .getfield 63, 3), (4, .ifCond .eq 5, 3), (7, .iconst (-1), 1), (8, .ireturn, 1), (9, .aload_n 0, 1), (10, .getfield 36, 3), (13, .getfield 142, 3), (16, .istore_n 1, 1), (17, .aload_n 0, 1), (18, .getfield 36, 3), (21, .invokevirtual 145, 3), (24, .iload_n 1, 1), (25, .ireturn, 1)]
theorem mT_X4_sync_ok : ix_tok cX4_sync mT_X4_sync = true := by decide +kernel
def mD_X4_sync : ix_M := (4, yX4_sync, cX4_sync, 2, (some (.int)), 0, 0, mT_X4_sync, 493, 491, 492)
def mT_X4_crash : ix_T := [(0, .aload_n 0, 1), (1, .getfield 63, 3), (4, .ifCond .eq 5, 3), (7, .iconst (-1), 1), (8, .ireturn, 1), (9, .aload_n 0, 1), (10, .getfield 36, 3), (13, .getfield 142, 3), (16, .istore_n 2, 1), (17, .iload_n 1, 1), (18, .ifCond .lt 8, 3), (21, .iload_n 1, 1), (22, .iload_n 2, 1), (23, .if_icmp .le 6, 3), (26, .bipush (-2), 2), (28, .ireturn, 1), (29, .iconst 0, 1), (30, .istore_n 3, 1), (31, .iload_n 3, 1), (32, .aload_n 0, 1), (33, .getfield 146, 3), (36, .if_icmp .gt 45, 3), (39, .aload_n 0, 1), (40, .iload_n 3, 1), (41, .invokevirtual 149, 3), (44, .astore 4, 2), (46, .aload 4, 2), (48, .aload 4, 2), (50, .getfield 56, 3), (53, .aload_n 0, 1), (54, .getfield 36, 3), (57, .iload_n 3, 1), (58, .invokevirtual 153, 3), (61, .isub, 1), (62, .aload_n 0, 1), (63, .getfield 36, 3), (66, .iload_n 3, 1), (67, .iload_n 1, 1), (68, .invokevirtual 156, 3), (71, .iadd, 1), (72, .invokevirtual 159, 3), (75, .iinc 3 1, 3), (78, .goto (-47), 3), (81, .iconst 0, 1), (82, .istore_n 3, 1), (83, .iload_n 3, 1), (84, .aload_n 0, 1), (85, .getfield 146, 3), (88, .if_icmp .ge 18, 3), (91, .aload_n 0, 1), (92, .getfield 26, 3), (95, .iload_n 3, 1), (96, .aaload, 1), (97, .invokevirtual 162, 3), (100, .iinc 3 1, 3), (103, .goto (-20), 3), (106, .aload_n 0, 1), (107, .getfield 36, 3), (110, .invokevirtual 145, 3), (113, .aload_n 0, 1), (114, .invokevirtual 165, 3), (117, .aload_n 0, 1), (118, .iconst 1, 1), (119, .putfield 63, 3), (122, .iload_n 2, 1), (123, .iload_n 1, 1), (124, .isub, 1), (125, .ireturn, 1)]
theorem mT_X4_crash_ok : ix_tok cX4_crash mT_X4_crash = true := by decide +kernel
def mD_X4_crash : ix_M := (4, yX4_crash, cX4_crash, 5, (some (.int)), 1, 0, mT_X4_crash, 497, 495, 496)
def mT_X4_open : ix_T := [(0, .aload_n 0, 1), (1, .getfield 63, 3), (4, .ifCond .ne 5, 3), (7, .iconst (-1), 1), (8, .ireturn, 1), (9, .aload_n 0, 1), (10, .iconst 0, 1), (11, .putfield 63, 3), (14, .aload_n 0, 1), (15, .aload_n 0, 1), (16, .getfield 30, 3), (19, .getfield 56, 3), (22, .bipush 16, 2), (24, .irem, 1), (25, .putfield 168, 3), (28, .aload_n 0, 1), (29, .getfield 30, 3), (32, .aload_n 0, 1), (33, .getfield 30, 3), (36, .getfield 56, 3), (39, .aload_n 0, 1), (40, .getfield 168, 3), (43, .isub, 1), (44, .invokevirtual 159, 3), (47, .iconst 0, 1), (48, .istore_n 1, 1), (49, .iload_n 1, 1), (50, .aload_n 0, 1), (51, .getfield 146, 3), (54, .if_icmp .ge 27, 3), (57, .aload_n 0, 1), (58, .dup, 1), (59, .getfield 168, 3), (62, .aload_n 0, 1), (63, .getfield 26, 3), (66, .iload_n 1, 1), (67, .aaload, 1), (68, .invokevirtual 171, 3), (71, .iadd, 1), (72, .putfield 168, 3), (75, .iinc 1 1, 3), (78, .goto (-29), 3), (81, .iconst 0, 1), (82, .istore_n 1, 1), (83, .iload_n 1, 1), (84, .aload_n 0, 1), (85, .getfield 30, 3), (88, .getfield 56, 3), (91, .if_icmp .ge 14, 3), (94, .aload_n 0, 1), (95, .iload_n 1, 1), (96, .invokevirtual 174, 3), (99, .iinc 1 16, 3), (102, .goto (-19), 3), (105, .aload_n 0, 1), (106, .invokevirtual 177, 3), (109, .ireturn, 1)]
theorem mT_X4_open_ok : ix_tok cX4_open mT_X4_open = true := by decide +kernel
def mD_X4_open : ix_M := (4, yX4_open, cX4_open, 2, (some (.int)), 0, 0, mT_X4_open, 522, 520, 521)
def mT_X4_partition : ix_T := [(0, .aload_n 0, 1), (1, .iload_n 1, 1), (2, .invokevirtual 125, 3), (5, .ifCond .ne 5, 3), (8, .iconst (-1), 1), (9, .ireturn, 1), (10, .aload_n 0, 1), (11, .getfield 26, 3), (14, .iload_n 1, 1), (15, .aaload, 1), (16, .astore_n 3, 1), (17, .iload_n 2, 1), (18, .tableswitch 109 0 5 #[38, 43, 59, 67, 76, 92], 38), (56, .aload_n 3, 1), (57, .getfield 180, 3), (60, .ireturn, 1), (61, .aload_n 0, 1), (62, .getfield 63, 3), (65, .ifCond .eq 7, 3), (68, .iconst (-1), 1), (69, .goto 7, 3), (72, .aload_n 3, 1), (73, .invokevirtual 183, 3), (76, .ireturn, 1), (77, .aload_n 3, 1), (78, .getfield 186, 3), (81, .getfield 56, 3), (84, .ireturn, 1), (85, .aload_n 0, 1), (86, .getfield 36, 3), (89, .iload_n 1, 1), (90, .invokevirtual 153, 3), (93, .ireturn, 1), (94, .aload_n 0, 1), (95, .getfield 63, 3), (98, .ifCond .eq 7, 3), (101, .iconst (-1), 1), (102, .goto 7, 3), (105, .aload_n 3, 1), (106, .invokevirtual 189, 3), (109, .ireturn, 1), (110, .aload_n 0, 1), (111, .getfield 63, 3), (114, .ifCond .eq 7, 3), (117, .iconst (-1), 1), (118, .goto 8, 3), (121, .aload_n 0, 1), (122, .iload_n 1, 1), (123, .invokevirtual 192, 3), (126, .ireturn, 1), (127, .iconst (-1), 1), (128, .ireturn, 1)]
theorem mT_X4_partition_ok : ix_tok cX4_partition mT_X4_partition = true := by decide +kernel
def mD_X4_partition : ix_M := (4, yX4_partition, cX4_partition, 4, (some (.int)), 2, 0, mT_X4_partition, 535, 533, 534)
def mT_X4_entry : ix_T := [(0, .aload_n 0, 1), (1, .iload_n 1, 1), (2, .invokevirtual 125, 3), (5, .ifCond .eq 16, 3), (8, .aload_n 0, 1), (9, .getfield 26, 3), (12, .iload_n 1, 1), (13, .aaload, 1), (14, .iload_n 2, 1), (15, .invokevirtual 195, 3), (18, .ifCond .ne 5, 3), (21, .iconst (-1), 1), (22, .ireturn, 1), (23, .aload_n 0, 1), (24, .getfield 26, 3), (27, .iload_n 1, 1), (28, .aaload, 1), (29, .astore 4, 2), (31, .iload_n 3, 1), (32, .tableswitch 85 0 4 #[36, 46, 56, 66, 76], 36), (68, .aload 4, 2), (70, .iload_n 2, 1), (71, .bipush 6, 2), (73, .iconst 1, 1), (74, .invokevirtual 198, 3), (77, .ireturn, 1), (78, .aload 4, 2), (80, .iload_n 2, 1), (81, .bipush 7, 2), (83, .iconst 1, 1), (84, .invokevirtual 198, 3), (87, .ireturn, 1), (88, .aload 4, 2), (90, .iload_n 2, 1), (91, .bipush 8, 2), (93, .iconst 2, 1), (94, .invokevirtual 198, 3), (97, .ireturn, 1), (98, .aload 4, 2), (100, .iload_n 2, 1), (101, .bipush 10, 2), (103, .iconst 4, 1), (104, .invokevirtual 198, 3), (107, .ireturn, 1), (108, .aload 4, 2), (110, .iload_n 2, 1), (111, .iconst 4, 1), (112, .iconst 2, 1), (113, .invokevirtual 198, 3), (116, .ireturn, 1), (117, .iconst (-1), 1), (118, .ireturn, 1)]
theorem mT_X4_entry_ok : ix_tok cX4_entry mT_X4_entry = true := by decide +kernel
def mD_X4_entry : ix_M := (4, yX4_entry, cX4_entry, 5, (some (.int)), 3, 0, mT_X4_entry, 544, 542, 543)
def mT_X4_producer : ix_T := [(0, .aload_n 0, 1), (1, .getfield 63, 3), (4, .ifCond .ne 11, 3), (7, .aload_n 0, 1), (8, .iload_n 1, 1), (9, .invokevirtual 202, 3), (12, .ifCond .ne 5, 3), (15, .iconst (-1), 1), (16, .ireturn, 1), (17, .aload_n 0, 1), (18, .getfield 42, 3), (21, .iload_n 1, 1), (22, .aaload, 1), (23, .astore_n 3, 1), (24, .iload_n 2, 1), (25, .tableswitch 60 0 4 #[35, 40, 45, 50, 55], 35), (60, .aload_n 3, 1), (61, .getfield 88, 3), (64, .ireturn, 1), (65, .aload_n 3, 1), (66, .getfield 205, 3), (69, .ireturn, 1), (70, .aload_n 3, 1), (71, .getfield 208, 3), (74, .ireturn, 1), (75, .aload_n 3, 1), (76, .getfield 211, 3), (79, .ireturn, 1), (80, .aload_n 3, 1), (81, .getfield 214, 3), (84, .ireturn, 1), (85, .iconst (-1), 1), (86, .ireturn, 1)]
theorem mT_X4_producer_ok : ix_tok cX4_producer mT_X4_producer = true := by decide +kernel
def mD_X4_producer : ix_M := (4, yX4_producer, cX4_producer, 4, (some (.int)), 2, 0, mT_X4_producer, 553, 551, 552)
def mT_X4_next : ix_T := [(0, .aload_n 0, 1), (1, .getfield 63, 3), (4, .ifCond .ne 19, 3), (7, .aload_n 0, 1), (8, .iload_n 1, 1), (9, .invokevirtual 202, 3), (12, .ifCond .eq 11, 3), (15, .aload_n 0, 1), (16, .iload_n 2, 1), (17, .invokevirtual 125, 3), (20, .ifCond .ne 5, 3), (23, .iconst (-1), 1), (24, .ireturn, 1), (25, .aload_n 0, 1), (26, .getfield 26, 3), (29, .iload_n 2, 1), (30, .aaload, 1), (31, .iload_n 1, 1), (32, .aload_n 0, 1), (33, .getfield 42, 3), (36, .iload_n 1, 1), (37, .aaload, 1), (38, .getfield 88, 3), (41, .invokevirtual 217, 3), (44, .ireturn, 1)]
theorem mT_X4_next_ok : ix_tok cX4_next mT_X4_next = true := by decide +kernel
def mD_X4_next : ix_M := (4, yX4_next, cX4_next, 3, (some (.int)), 2, 0, mT_X4_next, 557, 555, 556)
def mT_X4_byteOf : ix_T := [(0, .iload_n 1, 1), (1, .ifCond .lt 11, 3), (4, .iload_n 1, 1), (5, .aload_n 0, 1), (6, .getfield 146, 3), (9, .if_icmp .le 5, 3), (12, .iconst (-1), 1), (13, .ireturn, 1), (14, .aload_n 0, 1), (15, .iload_n 1, 1), (16, .invokevirtual 149, 3), (19, .iload_n 2, 1), (20, .invokevirtual 139, 3), (23, .ireturn, 1)]
theorem mT_X4_byteOf_ok : ix_tok cX4_byteOf mT_X4_byteOf = true := by decide +kernel
def mD_X4_byteOf : ix_M := (4, yX4_byteOf, cX4_byteOf, 3, (some (.int)), 2, 0, mT_X4_byteOf, 561, 559, 560)
def mT_X4_count : ix_T := [(0, .iload_n 1, 1), (1, .tableswitch 173 0 11 #[63, 68, 73, 78, 83, 91, 99, 107, 120, 125, 141, 157], 63), (64, .aload_n 0, 1), (65, .getfield 146, 3), (68, .ireturn, 1), (69, .aload_n 0, 1), (70, .getfield 220, 3), (73, .ireturn, 1), (74, .aload_n 0, 1), (75, .getfield 223, 3), (78, .ireturn, 1), (79, .aload_n 0, 1), (80, .getfield 98, 3), (83, .ireturn, 1), (84, .aload_n 0, 1), (85, .getfield 36, 3), (88, .getfield 142, 3), (91, .ireturn, 1), (92, .aload_n 0, 1), (93, .getfield 30, 3), (96, .getfield 56, 3), (99, .ireturn, 1), (100, .aload_n 0, 1), (101, .getfield 14, 3), (104, .getfield 56, 3), (107, .ireturn, 1), (108, .aload_n 0, 1), (109, .getfield 63, 3), (112, .ifCond .eq 7, 3), (115, .iconst 1, 1), (116, .goto 4, 3), (119, .iconst 0, 1), (120, .ireturn, 1), (121, .aload_n 0, 1), (122, .getfield 168, 3), (125, .ireturn, 1), (126, .aload_n 0, 1), (127, .getfield 63, 3), (130, .ifCond .eq 7, 3), (133, .iconst (-1), 1), (134, .goto 7, 3), (137, .aload_n 0, 1), (138, .invokevirtual 226, 3), (141, .ireturn, 1), (142, .aload_n 0, 1), (143, .getfield 63, 3), (146, .ifCond .eq 7, 3), (149, .iconst (-1), 1), (150, .goto 7, 3), (153, .aload_n 0, 1), (154, .invokevirtual 229, 3), (157, .ireturn, 1), (158, .aload_n 0, 1), (159, .getfield 63, 3), (162, .ifCond .eq 7, 3), (165, .iconst (-1), 1), (166, .goto 7, 3), (169, .aload_n 0, 1), (170, .getfield 95, 3), (173, .ireturn, 1), (174, .iconst (-1), 1), (175, .ireturn, 1)]
theorem mT_X4_count_ok : ix_tok cX4_count mT_X4_count = true := by decide +kernel
def mD_X4_count : ix_M := (4, yX4_count, cX4_count, 2, (some (.int)), 1, 0, mT_X4_count, 565, 563, 564)
def mT_X4_build : ix_T := [(0, .aload_n 0, 1), (1, .iload_n 1, 1), (2, .putfield 146, 3), (5, .aload_n 0, 1), (6, .iload_n 2, 1), (7, .putfield 220, 3), (10, .aload_n 0, 1), (11, .iload_n 3, 1), (12, .putfield 223, 3), (15, .aload_n 0, 1), (16, .iconst 0, 1), (17, .putfield 98, 3), (20, .aload_n 0, 1), (21, .iconst 0, 1), (22, .putfield 63, 3), (25, .aload_n 0, 1), (26, .iconst 0, 1), (27, .putfield 168, 3), (30, .iconst 0, 1), (31, .istore 4, 2), (33, .iload 4, 2), (35, .bipush 8, 2), (37, .if_icmp .ge 19, 3), (40, .aload_n 0, 1), (41, .getfield 26, 3), (44, .iload 4, 2), (46, .aaload, 1), (47, .invokevirtual 232, 3), (50, .iinc 4 1, 3), (53, .goto (-20), 3), (56, .aload_n 0, 1), (57, .getfield 30, 3), (60, .invokevirtual 109, 3), (63, .aload_n 0, 1), (64, .getfield 36, 3), (67, .invokevirtual 145, 3), (70, .aload_n 0, 1), (71, .getfield 18, 3), (74, .invokevirtual 109, 3), (77, .aload_n 0, 1), (78, .invokevirtual 165, 3), (81, .return_, 1)]
theorem mT_X4_build_ok : ix_tok cX4_build mT_X4_build = true := by decide +kernel
def mD_X4_build : ix_M := (4, yX4_build, cX4_build, 5, none, 3, 0, mT_X4_build, 181, 180, 0)
def mT_X4_forget : ix_T := [(0, .iconst 0, 1), (1, .istore_n 1, 1), (2, .iload_n 1, 1), (3, .bipush 32, 2), (5, .if_icmp .ge 18, 3), (8, .aload_n 0, 1), (9, .getfield 42, 3), (12, .iload_n 1, 1), (13, .aaload, 1), (14, .invokevirtual 233, 3), (17, .iinc 1 1, 3), (20, .goto (-18), 3), (23, .aload_n 0, 1), (24, .getfield 46, 3), (27, .iconst (-1), 1), (28, .invokestatic 234, 3), (31, .aload_n 0, 1), (32, .iconst 0, 1), (33, .putfield 95, 3), (36, .return_, 1)]
theorem mT_X4_forget_ok : ix_tok cX4_forget mT_X4_forget = true := by decide +kernel
def mD_X4_forget : ix_M := (4, yX4_forget, cX4_forget, 2, none, 0, 0, mT_X4_forget, 201, 200, 1)
def mT_X4_isKey : ix_T := [(0, .iload_n 1, 1), (1, .ifCond .lt 13, 3), (4, .iload_n 1, 1), (5, .bipush 32, 2), (7, .if_icmp .ge 7, 3), (10, .iconst 1, 1), (11, .goto 4, 3), (14, .iconst 0, 1), (15, .ireturn, 1)]
theorem mT_X4_isKey_ok : ix_tok cX4_isKey mT_X4_isKey = true := by decide +kernel
def mD_X4_isKey : ix_M := (4, yX4_isKey, cX4_isKey, 2, (some (.boolean)), 1, 0, mT_X4_isKey, 276, 275, 2)
def mT_X4_isRegistered : ix_T := [(0, .aload_n 0, 1), (1, .iload_n 1, 1), (2, .invokevirtual 67, 3), (5, .ifCond .eq 20, 3), (8, .aload_n 0, 1), (9, .getfield 42, 3), (12, .iload_n 1, 1), (13, .aaload, 1), (14, .getfield 88, 3), (17, .iconst (-1), 1), (18, .if_icmp .eq 7, 3), (21, .iconst 1, 1), (22, .goto 4, 3), (25, .iconst 0, 1), (26, .ireturn, 1)]
theorem mT_X4_isRegistered_ok : ix_tok cX4_isRegistered mT_X4_isRegistered = true := by decide +kernel
def mD_X4_isRegistered : ix_M := (4, yX4_isRegistered, cX4_isRegistered, 2, (some (.boolean)), 1, 0, mT_X4_isRegistered, 390, 389, 14)
def mT_X4_isPartition : ix_T := [(0, .iload_n 1, 1), (1, .ifCond .lt 15, 3), (4, .iload_n 1, 1), (5, .aload_n 0, 1), (6, .getfield 146, 3), (9, .if_icmp .ge 7, 3), (12, .iconst 1, 1), (13, .goto 4, 3), (16, .iconst 0, 1), (17, .ireturn, 1)]
theorem mT_X4_isPartition_ok : ix_tok cX4_isPartition mT_X4_isPartition = true := by decide +kernel
def mD_X4_isPartition : ix_M := (4, yX4_isPartition, cX4_isPartition, 2, (some (.boolean)), 1, 0, mT_X4_isPartition, 402, 401, 16)
def mT_X4_isPlace : ix_T := [(0, .iload_n 1, 1), (1, .ifCond .lt 21, 3), (4, .iload_n 1, 1), (5, .bipush 8, 2), (7, .if_icmp .ge 15, 3), (10, .aload_n 0, 1), (11, .iload_n 2, 1), (12, .invokevirtual 125, 3), (15, .ifCond .eq 7, 3), (18, .iconst 1, 1), (19, .goto 4, 3), (22, .iconst 0, 1), (23, .ireturn, 1)]
theorem mT_X4_isPlace_ok : ix_tok cX4_isPlace mT_X4_isPlace = true := by decide +kernel
def mD_X4_isPlace : ix_M := (4, yX4_isPlace, cX4_isPlace, 3, (some (.boolean)), 2, 0, mT_X4_isPlace, 430, 429, 19)
def mT_X4_placeOf : ix_T := [(0, .bipush 8, 2), (2, .iload_n 1, 1), (3, .imul, 1), (4, .iload_n 2, 1), (5, .iadd, 1), (6, .ireturn, 1)]
theorem mT_X4_placeOf_ok : ix_tok cX4_placeOf mT_X4_placeOf = true := by decide +kernel
def mD_X4_placeOf : ix_M := (4, yX4_placeOf, cX4_placeOf, 3, (some (.int)), 2, 0, mT_X4_placeOf, 434, 433, 20)
def mT_X4_rowOf : ix_T := [(0, .aload_n 0, 1), (1, .iload_n 1, 1), (2, .invokevirtual 125, 3), (5, .ifCond .eq 15, 3), (8, .aload_n 0, 1), (9, .getfield 26, 3), (12, .iload_n 1, 1), (13, .aaload, 1), (14, .getfield 186, 3), (17, .goto 7, 3), (20, .aload_n 0, 1), (21, .getfield 30, 3), (24, .areturn, 1)]
theorem mT_X4_rowOf_ok : ix_tok cX4_rowOf mT_X4_rowOf = true := by decide +kernel
def mD_X4_rowOf : ix_M := (4, yX4_rowOf, cX4_rowOf, 2, (some (.object "OnceLedger$ByteRow")), 1, 0, mT_X4_rowOf, 501, 500, 23)
def mT_X4_refusalOf : ix_T := [(0, .aload_n 0, 1), (1, .getfield 63, 3), (4, .ifCond .eq 5, 3), (7, .iconst (-1), 1), (8, .ireturn, 1), (9, .iload_n 3, 1), (10, .ifCond .eq 11, 3), (13, .aload_n 0, 1), (14, .iload_n 1, 1), (15, .invokevirtual 202, 3), (18, .ifCond .ne 6, 3), (21, .bipush (-2), 2), (23, .ireturn, 1), (24, .aload_n 0, 1), (25, .getfield 42, 3), (28, .iload_n 1, 1), (29, .aaload, 1), (30, .getfield 88, 3), (33, .iload_n 2, 1), (34, .if_icmp .ne 7, 3), (37, .iconst 0, 1), (38, .goto 5, 3), (41, .bipush (-3), 2), (43, .ireturn, 1)]
theorem mT_X4_refusalOf_ok : ix_tok cX4_refusalOf mT_X4_refusalOf = true := by decide +kernel
def mD_X4_refusalOf : ix_M := (4, yX4_refusalOf, cX4_refusalOf, 4, (some (.int)), 3, 0, mT_X4_refusalOf, 386, 385, 13)
def mT_X4_takeSent : ix_T := [(0, .aload_n 0, 1), (1, .iload_n 1, 1), (2, .iload_n 2, 1), (3, .aload_n 0, 1), (4, .iload_n 3, 1), (5, .invokevirtual 125, 3), (8, .invokevirtual 91, 3), (11, .istore 6, 2), (13, .iload 6, 2), (15, .ifCond .eq 6, 3), (18, .iload 6, 2), (20, .ireturn, 1), (21, .aload_n 0, 1), (22, .getfield 42, 3), (25, .iload_n 1, 1), (26, .aaload, 1), (27, .astore 7, 2), (29, .aload 7, 2), (31, .invokevirtual 71, 3), (34, .iload 5, 2), (36, .if_icmp .eq 6, 3), (39, .bipush (-5), 2), (41, .ireturn, 1), (42, .aload_n 0, 1), (43, .getfield 26, 3), (46, .iload_n 3, 1), (47, .aaload, 1), (48, .iload_n 1, 1), (49, .iload_n 2, 1), (50, .iload 4, 2), (52, .invokevirtual 240, 3), (55, .istore 8, 2), (57, .iload 8, 2), (59, .iconst (-1), 1), (60, .if_icmp .eq 6, 3), (63, .iload 8, 2), (65, .ireturn, 1), (66, .iload 4, 2), (68, .aload_n 0, 1), (69, .getfield 26, 3), (72, .iload_n 3, 1), (73, .aaload, 1), (74, .iload_n 1, 1), (75, .iload_n 2, 1), (76, .invokevirtual 217, 3), (79, .if_icmp .eq 6, 3), (82, .bipush (-6), 2), (84, .ireturn, 1), (85, .iload 5, 2), (87, .ifCond .eq 16, 3), (90, .aload 7, 2), (92, .iload_n 3, 1), (93, .invokevirtual 243, 3), (96, .ifCond .ne 7, 3), (99, .iconst 1, 1), (100, .goto 4, 3), (103, .iconst 0, 1), (104, .istore 9, 2), (106, .aload_n 0, 1), (107, .iload_n 3, 1), (108, .iload 9, 2), (110, .invokevirtual 246, 3), (113, .ifCond .eq 16, 3), (116, .iload 9, 2), (118, .ifCond .eq 14, 3), (121, .aload_n 0, 1), (122, .iconst 0, 1), (123, .invokevirtual 82, 3), (126, .ifCond .ne 6, 3), (129, .bipush (-8), 2), (131, .ireturn, 1), (132, .iload 9, 2), (134, .ifCond .eq 12, 3), (137, .aload_n 0, 1), (138, .iconst 2, 1), (139, .iload_n 1, 1), (140, .iload_n 2, 1), (141, .iload_n 3, 1), (142, .iconst 0, 1), (143, .invokevirtual 101, 3), (146, .aload_n 0, 1), (147, .iload_n 3, 1), (148, .iload 5, 2), (150, .ifCond .eq 7, 3), (153, .iconst 1, 1), (154, .goto 4, 3), (157, .iconst 0, 1), (158, .iload_n 1, 1), (159, .iload_n 2, 1), (160, .iload 4, 2), (162, .aload_n 0, 1), (163, .getfield 14, 3), (166, .invokevirtual 250, 3), (169, .ireturn, 1)]
theorem mT_X4_takeSent_ok : ix_tok cX4_takeSent mT_X4_takeSent = true := by decide +kernel
def mD_X4_takeSent : ix_M := (4, yX4_takeSent, cX4_takeSent, 10, (some (.int)), 5, 0, mT_X4_takeSent, 398, 397, 15)
def mT_X4_logHasRoom : ix_T := [(0, .aload_n 0, 1), (1, .iload_n 1, 1), (2, .invokevirtual 192, 3), (5, .iload_n 2, 1), (6, .ifCond .eq 7, 3), (9, .iconst 1, 1), (10, .goto 4, 3), (13, .iconst 0, 1), (14, .iadd, 1), (15, .istore_n 3, 1), (16, .aload_n 0, 1), (17, .getfield 26, 3), (20, .iload_n 1, 1), (21, .aaload, 1), (22, .getfield 186, 3), (25, .getfield 56, 3), (28, .bipush 14, 2), (30, .iadd, 1), (31, .aload_n 0, 1), (32, .getfield 14, 3), (35, .getfield 56, 3), (38, .iadd, 1), (39, .bipush 14, 2), (41, .iload_n 3, 1), (42, .imul, 1), (43, .iadd, 1), (44, .aload_n 0, 1), (45, .getfield 220, 3), (48, .if_icmp .gt 7, 3), (51, .iconst 1, 1), (52, .goto 4, 3), (55, .iconst 0, 1), (56, .ireturn, 1)]
theorem mT_X4_logHasRoom_ok : ix_tok cX4_logHasRoom mT_X4_logHasRoom = true := by decide +kernel
def mD_X4_logHasRoom : ix_M := (4, yX4_logHasRoom, cX4_logHasRoom, 4, (some (.boolean)), 2, 0, mT_X4_logHasRoom, 418, 417, 17)
def mT_X4_bookHasRoom : ix_T := [(0, .aload_n 0, 1), (1, .invokevirtual 229, 3), (4, .iload_n 1, 1), (5, .iadd, 1), (6, .istore_n 2, 1), (7, .aload_n 0, 1), (8, .getfield 30, 3), (11, .getfield 56, 3), (14, .bipush 16, 2), (16, .iadd, 1), (17, .bipush 48, 2), (19, .iload_n 2, 1), (20, .imul, 1), (21, .iadd, 1), (22, .sipush 16000, 3), (25, .if_icmp .gt 7, 3), (28, .iconst 1, 1), (29, .goto 4, 3), (32, .iconst 0, 1), (33, .ireturn, 1)]
theorem mT_X4_bookHasRoom_ok : ix_tok cX4_bookHasRoom mT_X4_bookHasRoom = true := by decide +kernel
def mD_X4_bookHasRoom : ix_M := (4, yX4_bookHasRoom, cX4_bookHasRoom, 3, (some (.boolean)), 1, 0, mT_X4_bookHasRoom, 370, 369, 10)
def mT_X4_registeredProducers : ix_T := [(0, .iconst 0, 1), (1, .istore_n 1, 1), (2, .iconst 0, 1), (3, .istore_n 2, 1), (4, .iload_n 2, 1), (5, .bipush 32, 2), (7, .if_icmp .ge 25, 3), (10, .iload_n 1, 1), (11, .aload_n 0, 1), (12, .iload_n 2, 1), (13, .invokevirtual 202, 3), (16, .ifCond .eq 7, 3), (19, .iconst 1, 1), (20, .goto 4, 3), (23, .iconst 0, 1), (24, .iadd, 1), (25, .istore_n 1, 1), (26, .iinc 2 1, 3), (29, .goto (-25), 3), (32, .iload_n 1, 1), (33, .ireturn, 1)]
theorem mT_X4_registeredProducers_ok : ix_tok cX4_registeredProducers mT_X4_registeredProducers = true := by decide +kernel
def mD_X4_registeredProducers : ix_M := (4, yX4_registeredProducers, cX4_registeredProducers, 3, (some (.int)), 0, 0, mT_X4_registeredProducers, 569, 568, 25)
def mT_X4_openTransactions : ix_T := [(0, .iconst 0, 1), (1, .istore_n 1, 1), (2, .iconst 0, 1), (3, .istore_n 2, 1), (4, .iload_n 2, 1), (5, .bipush 32, 2), (7, .if_icmp .ge 29, 3), (10, .iload_n 1, 1), (11, .aload_n 0, 1), (12, .getfield 42, 3), (15, .iload_n 2, 1), (16, .aaload, 1), (17, .invokevirtual 71, 3), (20, .ifCond .eq 7, 3), (23, .iconst 1, 1), (24, .goto 4, 3), (27, .iconst 0, 1), (28, .iadd, 1), (29, .istore_n 1, 1), (30, .iinc 2 1, 3), (33, .goto (-29), 3), (36, .iload_n 1, 1), (37, .ireturn, 1)]
theorem mT_X4_openTransactions_ok : ix_tok cX4_openTransactions mT_X4_openTransactions = true := by decide +kernel
def mD_X4_openTransactions : ix_M := (4, yX4_openTransactions, cX4_openTransactions, 3, (some (.int)), 0, 0, mT_X4_openTransactions, 374, 373, 11)
def mT_X4_openThatAdded : ix_T := [(0, .iconst 0, 1), (1, .istore_n 2, 1), (2, .iconst 0, 1), (3, .istore_n 3, 1), (4, .iload_n 3, 1), (5, .bipush 32, 2), (7, .if_icmp .ge 30, 3), (10, .iload_n 2, 1), (11, .aload_n 0, 1), (12, .getfield 42, 3), (15, .iload_n 3, 1), (16, .aaload, 1), (17, .iload_n 1, 1), (18, .invokevirtual 243, 3), (21, .ifCond .eq 7, 3), (24, .iconst 1, 1), (25, .goto 4, 3), (28, .iconst 0, 1), (29, .iadd, 1), (30, .istore_n 2, 1), (31, .iinc 3 1, 3), (34, .goto (-30), 3), (37, .iload_n 2, 1), (38, .ireturn, 1)]
theorem mT_X4_openThatAdded_ok : ix_tok cX4_openThatAdded mT_X4_openThatAdded = true := by decide +kernel
def mD_X4_openThatAdded : ix_M := (4, yX4_openThatAdded, cX4_openThatAdded, 4, (some (.int)), 1, 0, mT_X4_openThatAdded, 422, 421, 18)
def mT_X4_writeToLog : ix_T := [(0, .aload_n 0, 1), (1, .getfield 26, 3), (4, .iload_n 1, 1), (5, .aaload, 1), (6, .astore 7, 2), (8, .aload 7, 2), (10, .getfield 186, 3), (13, .getfield 56, 3), (16, .istore 8, 2), (18, .aload 7, 2), (20, .iload_n 2, 1), (21, .iload_n 3, 1), (22, .iload 4, 2), (24, .iload 5, 2), (26, .aload 6, 2), (28, .invokevirtual 254, 3), (31, .aload_n 0, 1), (32, .getfield 36, 3), (35, .iload_n 1, 1), (36, .aload 7, 2), (38, .getfield 186, 3), (41, .getfield 56, 3), (44, .iload 8, 2), (46, .isub, 1), (47, .invokevirtual 258, 3), (50, .aload 7, 2), (52, .getfield 180, 3), (55, .iconst 1, 1), (56, .isub, 1), (57, .ireturn, 1)]
theorem mT_X4_writeToLog_ok : ix_tok cX4_writeToLog mT_X4_writeToLog = true := by decide +kernel
def mD_X4_writeToLog : ix_M := (4, yX4_writeToLog, cX4_writeToLog, 9, (some (.int)), 6, 0, mT_X4_writeToLog, 355, 354, 9)
def mT_X4_writeToBook : ix_T := [(0, .aload_n 0, 1), (1, .getfield 30, 3), (4, .getfield 56, 3), (7, .istore 6, 2), (9, .aload_n 0, 1), (10, .getfield 30, 3), (13, .iconst 0, 1), (14, .iconst 4, 1), (15, .invokevirtual 262, 3), (18, .aload_n 0, 1), (19, .getfield 30, 3), (22, .iload_n 1, 1), (23, .iconst 1, 1), (24, .invokevirtual 262, 3), (27, .aload_n 0, 1), (28, .getfield 30, 3), (31, .iload_n 2, 1), (32, .iconst 1, 1), (33, .invokevirtual 262, 3), (36, .aload_n 0, 1), (37, .getfield 30, 3), (40, .iload_n 3, 1), (41, .iconst 2, 1), (42, .invokevirtual 262, 3), (45, .aload_n 0, 1), (46, .getfield 30, 3), (49, .iload 4, 2), (51, .iconst 4, 1), (52, .invokevirtual 262, 3), (55, .aload_n 0, 1), (56, .getfield 30, 3), (59, .iload 5, 2), (61, .iconst 4, 1), (62, .invokevirtual 262, 3), (65, .aload_n 0, 1), (66, .getfield 30, 3), (69, .iload 6, 2), (71, .invokevirtual 265, 3), (74, .aload_n 0, 1), (75, .getfield 36, 3), (78, .aload_n 0, 1), (79, .getfield 146, 3), (82, .aload_n 0, 1), (83, .getfield 30, 3), (86, .getfield 56, 3), (89, .iload 6, 2), (91, .isub, 1), (92, .invokevirtual 258, 3), (95, .aload_n 0, 1), (96, .iload 6, 2), (98, .invokevirtual 174, 3), (101, .return_, 1)]
theorem mT_X4_writeToBook_ok : ix_tok cX4_writeToBook mT_X4_writeToBook = true := by decide +kernel
def mD_X4_writeToBook : ix_M := (4, yX4_writeToBook, cX4_writeToBook, 7, none, 5, 0, mT_X4_writeToBook, 288, 287, 4)
def mT_X4_learn : ix_T := [(0, .aload_n 0, 1), (1, .getfield 30, 3), (4, .iload_n 1, 1), (5, .iconst 5, 1), (6, .iadd, 1), (7, .iconst 1, 1), (8, .invokevirtual 268, 3), (11, .istore_n 2, 1), (12, .aload_n 0, 1), (13, .iload_n 2, 1), (14, .invokevirtual 67, 3), (17, .ifCond .ne 4, 3), (20, .return_, 1), (21, .aload_n 0, 1), (22, .getfield 42, 3), (25, .iload_n 2, 1), (26, .aaload, 1), (27, .astore_n 3, 1), (28, .aload_n 0, 1), (29, .getfield 30, 3), (32, .iload_n 1, 1), (33, .bipush 8, 2), (35, .iadd, 1), (36, .iconst 4, 1), (37, .invokevirtual 268, 3), (40, .istore 4, 2), (42, .aload_n 0, 1), (43, .getfield 30, 3), (46, .iload_n 1, 1), (47, .bipush 12, 2), (49, .iadd, 1), (50, .iconst 4, 1), (51, .invokevirtual 268, 3), (54, .istore 5, 2), (56, .aload_n 0, 1), (57, .getfield 30, 3), (60, .iload_n 1, 1), (61, .iconst 4, 1), (62, .iadd, 1), (63, .iconst 1, 1), (64, .invokevirtual 268, 3), (67, .tableswitch 154 0 6 #[41, 60, 80, 96, 109, 118, 143], 41), (108, .aload_n 3, 1), (109, .aload_n 0, 1), (110, .getfield 30, 3), (113, .iload_n 1, 1), (114, .bipush 6, 2), (116, .iadd, 1), (117, .iconst 2, 1), (118, .invokevirtual 268, 3), (121, .putfield 88, 3), (124, .goto 97, 3), (127, .aload_n 3, 1), (128, .iload 5, 2), (130, .iload 4, 2), (132, .iload_n 1, 1), (133, .invokevirtual 271, 3), (136, .aload_n 0, 1), (137, .iload 5, 2), (139, .iconst 1, 1), (140, .iadd, 1), (141, .putfield 95, 3), (144, .goto 77, 3), (147, .aload_n 3, 1), (148, .dup, 1), (149, .getfield 211, 3), (152, .iconst 1, 1), (153, .iload 4, 2), (155, .ishl, 1), (156, .ior, 1), (157, .putfield 211, 3), (160, .goto 61, 3), (163, .aload_n 3, 1), (164, .dup, 1), (165, .getfield 214, 3), (168, .iconst 1, 1), (169, .iadd, 1), (170, .putfield 214, 3), (173, .goto 48, 3), (176, .aload_n 3, 1), (177, .iload 4, 2), (179, .putfield 274, 3), (182, .goto 39, 3), (185, .aload_n 3, 1), (186, .getfield 274, 3), (189, .iconst 1, 1), (190, .if_icmp .ne 13, 3), (193, .aload_n 0, 1), (194, .iload_n 2, 1), (195, .aload_n 3, 1), (196, .getfield 277, 3), (199, .iload_n 1, 1), (200, .invokevirtual 280, 3), (203, .aload_n 3, 1), (204, .invokevirtual 283, 3), (207, .goto 14, 3), (210, .aload_n 0, 1), (211, .iload 4, 2), (213, .iload 5, 2), (215, .invokevirtual 286, 3), (218, .goto 3, 3), (221, .return_, 1)]
theorem mT_X4_learn_ok : ix_tok cX4_learn mT_X4_learn = true := by decide +kernel
def mD_X4_learn : ix_M := (4, yX4_learn, cX4_learn, 6, none, 1, 0, mT_X4_learn, 305, 304, 5)
def mT_X4_markLaters : ix_T := [(0, .iload_n 2, 1), (1, .istore 4, 2), (3, .iload 4, 2), (5, .iload_n 3, 1), (6, .if_icmp .ge 71, 3), (9, .aload_n 0, 1), (10, .getfield 30, 3), (13, .iload 4, 2), (15, .iconst 4, 1), (16, .iadd, 1), (17, .iconst 1, 1), (18, .invokevirtual 268, 3), (21, .iconst 3, 1), (22, .if_icmp .ne 49, 3), (25, .aload_n 0, 1), (26, .getfield 30, 3), (29, .iload 4, 2), (31, .iconst 5, 1), (32, .iadd, 1), (33, .iconst 1, 1), (34, .invokevirtual 268, 3), (37, .iload_n 1, 1), (38, .if_icmp .ne 33, 3), (41, .aload_n 0, 1), (42, .aload_n 0, 1), (43, .getfield 30, 3), (46, .iload 4, 2), (48, .bipush 8, 2), (50, .iadd, 1), (51, .iconst 4, 1), (52, .invokevirtual 268, 3), (55, .aload_n 0, 1), (56, .getfield 30, 3), (59, .iload 4, 2), (61, .bipush 12, 2), (63, .iadd, 1), (64, .iconst 4, 1), (65, .invokevirtual 268, 3), (68, .invokevirtual 286, 3), (71, .iinc 4 16, 3), (74, .goto (-71), 3), (77, .return_, 1)]
theorem mT_X4_markLaters_ok : ix_tok cX4_markLaters mT_X4_markLaters = true := by decide +kernel
def mD_X4_markLaters : ix_M := (4, yX4_markLaters, cX4_markLaters, 5, none, 3, 0, mT_X4_markLaters, 317, 316, 6)
def mT_X4_setMark : ix_T := [(0, .iload_n 1, 1), (1, .ifCond .lt 19, 3), (4, .iload_n 1, 1), (5, .aload_n 0, 1), (6, .getfield 46, 3), (9, .arraylength, 1), (10, .if_icmp .ge 10, 3), (13, .aload_n 0, 1), (14, .getfield 46, 3), (17, .iload_n 1, 1), (18, .iload_n 2, 1), (19, .iastore, 1), (20, .return_, 1)]
theorem mT_X4_setMark_ok : ix_tok cX4_setMark mT_X4_setMark = true := by decide +kernel
def mD_X4_setMark : ix_M := (4, yX4_setMark, cX4_setMark, 3, none, 2, 0, mT_X4_setMark, 321, 320, 7)
def mT_X4_raiseEpoch : ix_T := [(0, .aload_n 0, 1), (1, .iconst 0, 1), (2, .iload_n 1, 1), (3, .aload_n 0, 1), (4, .getfield 42, 3), (7, .iload_n 1, 1), (8, .aaload, 1), (9, .getfield 88, 3), (12, .iconst 1, 1), (13, .iadd, 1), (14, .iconst 0, 1), (15, .iconst 0, 1), (16, .invokevirtual 101, 3), (19, .return_, 1)]
theorem mT_X4_raiseEpoch_ok : ix_tok cX4_raiseEpoch mT_X4_raiseEpoch = true := by decide +kernel
def mD_X4_raiseEpoch : ix_M := (4, yX4_raiseEpoch, cX4_raiseEpoch, 2, none, 1, 0, mT_X4_raiseEpoch, 378, 377, 12)
def mT_X4_decide : ix_T := [(0, .aload_n 0, 1), (1, .getfield 42, 3), (4, .iload_n 1, 1), (5, .aaload, 1), (6, .astore_n 3, 1), (7, .aload_n 0, 1), (8, .iconst 4, 1), (9, .iload_n 1, 1), (10, .aload_n 3, 1), (11, .getfield 88, 3), (14, .iload_n 2, 1), (15, .ifCond .eq 7, 3), (18, .iconst 1, 1), (19, .goto 4, 3), (22, .iconst 0, 1), (23, .aload_n 3, 1), (24, .getfield 205, 3), (27, .invokevirtual 101, 3), (30, .return_, 1)]
theorem mT_X4_decide_ok : ix_tok cX4_decide mT_X4_decide = true := by decide +kernel
def mD_X4_decide : ix_M := (4, yX4_decide, cX4_decide, 4, none, 2, 0, mT_X4_decide, 284, 283, 3)
def mT_X4_finish : ix_T := [(0, .aload_n 0, 1), (1, .getfield 42, 3), (4, .iload_n 1, 1), (5, .aaload, 1), (6, .astore_n 2, 1), (7, .aload_n 2, 1), (8, .getfield 274, 3), (11, .iconst 1, 1), (12, .if_icmp .ne 7, 3), (15, .iconst 2, 1), (16, .goto 4, 3), (19, .iconst 3, 1), (20, .istore_n 3, 1), (21, .iconst 0, 1), (22, .istore 4, 2), (24, .iload 4, 2), (26, .aload_n 0, 1), (27, .getfield 146, 3), (30, .if_icmp .ge 56, 3), (33, .aload_n 2, 1), (34, .iload 4, 2), (36, .invokevirtual 243, 3), (39, .ifCond .eq 41, 3), (42, .aload_n 0, 1), (43, .getfield 26, 3), (46, .iload 4, 2), (48, .aaload, 1), (49, .aload_n 2, 1), (50, .getfield 205, 3), (53, .invokevirtual 289, 3), (56, .ifCond .ne 24, 3), (59, .aload_n 0, 1), (60, .iload 4, 2), (62, .iload_n 3, 1), (63, .iload_n 1, 1), (64, .aload_n 2, 1), (65, .getfield 88, 3), (68, .aload_n 2, 1), (69, .getfield 205, 3), (72, .aload_n 0, 1), (73, .getfield 21, 3), (76, .invokevirtual 250, 3), (79, .pop, 1), (80, .iinc 4 1, 3), (83, .goto (-59), 3), (86, .aload_n 0, 1), (87, .iconst 5, 1), (88, .iload_n 1, 1), (89, .aload_n 2, 1), (90, .getfield 88, 3), (93, .iconst 0, 1), (94, .aload_n 2, 1), (95, .getfield 205, 3), (98, .invokevirtual 101, 3), (101, .return_, 1)]
theorem mT_X4_finish_ok : ix_tok cX4_finish mT_X4_finish = true := by decide +kernel
def mD_X4_finish : ix_M := (4, yX4_finish, cX4_finish, 5, none, 1, 0, mT_X4_finish, 326, 325, 8)
def mT_X4_endOverdue : ix_T := [(0, .iconst 0, 1), (1, .istore_n 1, 1), (2, .iconst 0, 1), (3, .istore_n 2, 1), (4, .iload_n 2, 1), (5, .bipush 32, 2), (7, .if_icmp .ge 42, 3), (10, .aload_n 0, 1), (11, .iconst 0, 1), (12, .invokevirtual 292, 3), (15, .istore_n 3, 1), (16, .iload_n 3, 1), (17, .iconst (-1), 1), (18, .if_icmp .ne 6, 3), (21, .goto 28, 3), (24, .aload_n 0, 1), (25, .iload_n 3, 1), (26, .iconst 0, 1), (27, .invokevirtual 75, 3), (30, .aload_n 0, 1), (31, .iload_n 3, 1), (32, .invokevirtual 79, 3), (35, .aload_n 0, 1), (36, .iload_n 3, 1), (37, .invokevirtual 85, 3), (40, .iinc 1 1, 3), (43, .iinc 2 1, 3), (46, .goto (-42), 3), (49, .iload_n 1, 1), (50, .ireturn, 1)]
theorem mT_X4_endOverdue_ok : ix_tok cX4_endOverdue mT_X4_endOverdue = true := by decide +kernel
def mD_X4_endOverdue : ix_M := (4, yX4_endOverdue, cX4_endOverdue, 4, (some (.int)), 0, 0, mT_X4_endOverdue, 455, 454, 21)
def mT_X4_finishDecided : ix_T := [(0, .iconst 0, 1), (1, .istore_n 1, 1), (2, .iconst 0, 1), (3, .istore_n 2, 1), (4, .iload_n 2, 1), (5, .bipush 32, 2), (7, .if_icmp .ge 31, 3), (10, .aload_n 0, 1), (11, .iconst 1, 1), (12, .invokevirtual 292, 3), (15, .istore_n 3, 1), (16, .iload_n 3, 1), (17, .iconst (-1), 1), (18, .if_icmp .ne 6, 3), (21, .goto 17, 3), (24, .aload_n 0, 1), (25, .iload_n 3, 1), (26, .invokevirtual 79, 3), (29, .iinc 1 1, 3), (32, .iinc 2 1, 3), (35, .goto (-31), 3), (38, .iload_n 1, 1), (39, .ireturn, 1)]
theorem mT_X4_finishDecided_ok : ix_tok cX4_finishDecided mT_X4_finishDecided = true := by decide +kernel
def mD_X4_finishDecided : ix_M := (4, yX4_finishDecided, cX4_finishDecided, 4, (some (.int)), 0, 0, mT_X4_finishDecided, 531, 530, 24)
def mT_X4_firstToEnd : ix_T := [(0, .iconst (-1), 1), (1, .istore_n 2, 1), (2, .iconst 0, 1), (3, .istore_n 3, 1), (4, .iload_n 3, 1), (5, .bipush 32, 2), (7, .if_icmp .ge 99, 3), (10, .aload_n 0, 1), (11, .getfield 42, 3), (14, .iload_n 3, 1), (15, .aaload, 1), (16, .astore 4, 2), (18, .iload_n 1, 1), (19, .ifCond .eq 20, 3), (22, .aload 4, 2), (24, .getfield 274, 3), (27, .iconst (-1), 1), (28, .if_icmp .eq 7, 3), (31, .iconst 1, 1), (32, .goto 29, 3), (35, .iconst 0, 1), (36, .goto 25, 3), (39, .aload_n 0, 1), (40, .getfield 98, 3), (43, .aload 4, 2), (45, .getfield 208, 3), (48, .isub, 1), (49, .aload_n 0, 1), (50, .getfield 223, 3), (53, .if_icmp .le 7, 3), (56, .iconst 1, 1), (57, .goto 4, 3), (60, .iconst 0, 1), (61, .istore 5, 2), (63, .aload 4, 2), (65, .invokevirtual 71, 3), (68, .ifCond .eq 32, 3), (71, .iload 5, 2), (73, .ifCond .eq 27, 3), (76, .iload_n 2, 1), (77, .iconst (-1), 1), (78, .if_icmp .eq 20, 3), (81, .aload 4, 2), (83, .getfield 205, 3), (86, .aload_n 0, 1), (87, .getfield 42, 3), (90, .iload_n 2, 1), (91, .aaload, 1), (92, .getfield 205, 3), (95, .if_icmp .ge 5, 3), (98, .iload_n 3, 1), (99, .istore_n 2, 1), (100, .iinc 3 1, 3), (103, .goto (-99), 3), (106, .iload_n 2, 1), (107, .ireturn, 1)]
theorem mT_X4_firstToEnd_ok : ix_tok cX4_firstToEnd mT_X4_firstToEnd = true := by decide +kernel
def mD_X4_firstToEnd : ix_M := (4, yX4_firstToEnd, cX4_firstToEnd, 6, (some (.int)), 1, 0, mT_X4_firstToEnd, 459, 458, 22)
def mT_X5_init : ix_T := [(0, .aload_n 0, 1), (1, .invokespecial 1, 3), (4, .aload_n 0, 1), (5, .sipush 4200, 3), (8, .newarray .int, 2), (10, .putfield 9, 3), (13, .aload_n 0, 1), (14, .sipush 4200, 3), (17, .newarray .int, 2), (19, .putfield 13, 3), (22, .aload_n 0, 1), (23, .sipush 4200, 3), (26, .newarray .int, 2), (28, .putfield 16, 3), (31, .aload_n 0, 1), (32, .sipush 4200, 3), (35, .newarray .int, 2), (37, .putfield 19, 3), (40, .aload_n 0, 1), (41, .sipush 4200, 3), (44, .newarray .int, 2), (46, .putfield 22, 3), (49, .aload_n 0, 1), (50, .sipush 4200, 3), (53, .newarray .int, 2), (55, .putfield 25, 3), (58, .aload_n 0, 1), (59, .sipush 4200, 3), (62, .newarray .int, 2), (64, .putfield 28, 3), (67, .aload_n 0, 1), (68, .ldc 31, 2), (70, .newarray .byte, 2), (72, .putfield 32, 3), (75, .aload_n 0, 1), (76, .bipush 32, 2), (78, .newarray .boolean, 2), (80, .putfield 36, 3), (83, .aload_n 0, 1), (84, .bipush 32, 2), (86, .newarray .int, 2), (88, .putfield 40, 3), (91, .aload_n 0, 1), (92, .bipush 32, 2), (94, .newarray .int, 2), (96, .putfield 43, 3), (99, .aload_n 0, 1), (100, .bipush 32, 2), (102, .newarray .int, 2), (104, .putfield 46, 3), (107, .aload_n 0, 1), (108, .bipush 32, 2), (110, .newarray .int, 2), (112, .putfield 49, 3), (115, .aload_n 0, 1), (116, .bipush 64, 2), (118, .newarray .int, 2), (120, .putfield 52, 3), (123, .aload_n 0, 1), (124, .sipush 1100, 3), (127, .newarray .int, 2), (129, .putfield 55, 3), (132, .aload_n 0, 1), (133, .sipush 1100, 3), (136, .newarray .int, 2), (138, .putfield 58, 3), (141, .aload_n 0, 1), (142, .sipush 1100, 3), (145, .newarray .int, 2), (147, .putfield 61, 3), (150, .aload_n 0, 1), (151, .sipush 1100, 3), (154, .newarray .int, 2), (156, .putfield 64, 3), (159, .aload_n 0, 1), (160, .bipush 40, 2), (162, .newarray .byte, 2), (164, .putfield 67, 3), (167, .aload_n 0, 1), (168, .bipush 40, 2), (170, .newarray .byte, 2), (172, .putfield 70, 3), (175, .aload_n 0, 1), (176, .sipush 1100, 3), (179, .newarray .int, 2), (181, .putfield 73, 3), (184, .aload_n 0, 1), (185, .iconst 4, 1), (186, .sipush 2000, 3), (189, .bipush 100, 2), (191, .invokevirtual 76, 3), (194, .istore_n 1, 1), (195, .return_, 1)]
theorem mT_X5_init_ok : ix_tok cX5_init mT_X5_init = true := by decide +kernel
def mD_X5_init : ix_M := (5, yX5_init, cX5_init, 2, none, 0, 2, mT_X5_init, 574, 573, 573)
def mT_X5_forgets : ix_T := [(0, .aload_n 0, 1), (1, .iconst 0, 1), (2, .putfield 80, 3), (5, .aload_n 0, 1), (6, .iconst 0, 1), (7, .putfield 84, 3), (10, .iconst 0, 1), (11, .istore_n 1, 1), (12, .iload_n 1, 1), (13, .bipush 32, 2), (15, .if_icmp .ge 44, 3), (18, .aload_n 0, 1), (19, .getfield 36, 3), (22, .iload_n 1, 1), (23, .iconst 0, 1), (24, .bastore, 1), (25, .aload_n 0, 1), (26, .getfield 40, 3), (29, .iload_n 1, 1), (30, .iconst 0, 1), (31, .iastore, 1), (32, .aload_n 0, 1), (33, .getfield 43, 3), (36, .iload_n 1, 1), (37, .iconst (-1), 1), (38, .iastore, 1), (39, .aload_n 0, 1), (40, .getfield 46, 3), (43, .iload_n 1, 1), (44, .iconst 0, 1), (45, .iastore, 1), (46, .aload_n 0, 1), (47, .getfield 49, 3), (50, .iload_n 1, 1), (51, .iconst 0, 1), (52, .iastore, 1), (53, .iinc 1 1, 3), (56, .goto (-44), 3), (59, .iconst 0, 1), (60, .istore_n 1, 1), (61, .iload_n 1, 1), (62, .bipush 64, 2), (64, .if_icmp .ge 16, 3), (67, .aload_n 0, 1), (68, .getfield 52, 3), (71, .iload_n 1, 1), (72, .iconst (-1), 1), (73, .iastore, 1), (74, .iinc 1 1, 3), (77, .goto (-16), 3), (80, .return_, 1)]
theorem mT_X5_forgets_ok : ix_tok cX5_forgets mT_X5_forgets = true := by decide +kernel
def mD_X5_forgets : ix_M := (5, yX5_forgets, cX5_forgets, 2, none, 0, 0, mT_X5_forgets, 584, 583, 26)
def mT_X5_format : ix_T := [(0, .iload_n 1, 1), (1, .iconst 1, 1), (2, .if_icmp .lt 34, 3), (5, .iload_n 1, 1), (6, .bipush 8, 2), (8, .if_icmp .gt 28, 3), (11, .iload_n 2, 1), (12, .bipush 100, 2), (14, .if_icmp .lt 22, 3), (17, .iload_n 2, 1), (18, .sipush 4000, 3), (21, .if_icmp .gt 15, 3), (24, .iload_n 3, 1), (25, .iconst 1, 1), (26, .if_icmp .lt 10, 3), (29, .iload_n 3, 1), (30, .sipush 1000, 3), (33, .if_icmp .le 5, 3), (36, .iconst 0, 1), (37, .ireturn, 1), (38, .aload_n 0, 1), (39, .iload_n 1, 1), (40, .putfield 87, 3), (43, .aload_n 0, 1), (44, .iload_n 2, 1), (45, .putfield 90, 3), (48, .aload_n 0, 1), (49, .iload_n 3, 1), (50, .putfield 93, 3), (53, .aload_n 0, 1), (54, .iconst 0, 1), (55, .putfield 96, 3), (58, .aload_n 0, 1), (59, .iconst 0, 1), (60, .putfield 99, 3), (63, .aload_n 0, 1), (64, .iconst 0, 1), (65, .putfield 103, 3), (68, .aload_n 0, 1), (69, .iconst 0, 1), (70, .putfield 106, 3), (73, .aload_n 0, 1), (74, .iconst 0, 1), (75, .putfield 109, 3), (78, .aload_n 0, 1), (79, .iconst 0, 1), (80, .putfield 112, 3), (83, .aload_n 0, 1), (84, .iconst 0, 1), (85, .putfield 115, 3), (88, .aload_n 0, 1), (89, .invokevirtual 118, 3), (92, .iconst 1, 1), (93, .ireturn, 1)]
theorem mT_X5_format_ok : ix_tok cX5_format mT_X5_format = true := by decide +kernel
def mD_X5_format : ix_M := (5, yX5_format, cX5_format, 4, (some (.boolean)), 3, 0, mT_X5_format, 580, 578, 579)
def mT_X5_sizeOf : ix_T := [(0, .aload_n 0, 1), (1, .getfield 9, 3), (4, .iload_n 1, 1), (5, .iaload, 1), (6, .aload_n 0, 1), (7, .getfield 87, 3), (10, .if_icmp .ne 8, 3), (13, .bipush 16, 2), (15, .goto 12, 3), (18, .bipush 14, 2), (20, .aload_n 0, 1), (21, .getfield 25, 3), (24, .iload_n 1, 1), (25, .iaload, 1), (26, .iadd, 1), (27, .ireturn, 1)]
theorem mT_X5_sizeOf_ok : ix_tok cX5_sizeOf mT_X5_sizeOf = true := by decide +kernel
def mD_X5_sizeOf : ix_M := (5, yX5_sizeOf, cX5_sizeOf, 2, (some (.int)), 1, 0, mT_X5_sizeOf, 728, 727, 35)
def mT_X5_bytesFrom : ix_T := [(0, .iconst 0, 1), (1, .istore_n 3, 1), (2, .iload_n 2, 1), (3, .istore 4, 2), (5, .iload 4, 2), (7, .aload_n 0, 1), (8, .getfield 106, 3), (11, .if_icmp .ge 33, 3), (14, .iload_n 3, 1), (15, .aload_n 0, 1), (16, .getfield 9, 3), (19, .iload 4, 2), (21, .iaload, 1), (22, .iload_n 1, 1), (23, .if_icmp .ne 12, 3), (26, .aload_n 0, 1), (27, .iload 4, 2), (29, .invokevirtual 121, 3), (32, .goto 4, 3), (35, .iconst 0, 1), (36, .iadd, 1), (37, .istore_n 3, 1), (38, .iinc 4 1, 3), (41, .goto (-36), 3), (44, .iload_n 3, 1), (45, .ireturn, 1)]
theorem mT_X5_bytesFrom_ok : ix_tok cX5_bytesFrom mT_X5_bytesFrom = true := by decide +kernel
def mD_X5_bytesFrom : ix_M := (5, yX5_bytesFrom, cX5_bytesFrom, 5, (some (.int)), 2, 0, mT_X5_bytesFrom, 724, 723, 34)
def mT_X5_unsynced : ix_T := [(0, .iconst 0, 1), (1, .istore_n 1, 1), (2, .aload_n 0, 1), (3, .getfield 109, 3), (6, .istore_n 2, 1), (7, .iload_n 2, 1), (8, .aload_n 0, 1), (9, .getfield 106, 3), (12, .if_icmp .ge 17, 3), (15, .iload_n 1, 1), (16, .aload_n 0, 1), (17, .iload_n 2, 1), (18, .invokevirtual 121, 3), (21, .iadd, 1), (22, .istore_n 1, 1), (23, .iinc 2 1, 3), (26, .goto (-19), 3), (29, .iload_n 1, 1), (30, .ireturn, 1)]
theorem mT_X5_unsynced_ok : ix_tok cX5_unsynced mT_X5_unsynced = true := by decide +kernel
def mD_X5_unsynced : ix_M := (5, yX5_unsynced, cX5_unsynced, 3, (some (.int)), 0, 0, mT_X5_unsynced, 824, 823, 47)
def mT_X5_add : ix_T := [(0, .aload_n 0, 1), (1, .getfield 106, 3), (4, .istore 7, 2), (6, .aload_n 0, 1), (7, .dup, 1), (8, .getfield 106, 3), (11, .iconst 1, 1), (12, .iadd, 1), (13, .putfield 106, 3), (16, .aload_n 0, 1), (17, .getfield 9, 3), (20, .iload 7, 2), (22, .iload_n 1, 1), (23, .iastore, 1), (24, .aload_n 0, 1), (25, .getfield 13, 3), (28, .iload 7, 2), (30, .iload_n 2, 1), (31, .iastore, 1), (32, .aload_n 0, 1), (33, .getfield 16, 3), (36, .iload 7, 2), (38, .iload_n 3, 1), (39, .iastore, 1), (40, .aload_n 0, 1), (41, .getfield 19, 3), (44, .iload 7, 2), (46, .iload 4, 2), (48, .iastore, 1), (49, .aload_n 0, 1), (50, .getfield 22, 3), (53, .iload 7, 2), (55, .iload 5, 2), (57, .iastore, 1), (58, .aload_n 0, 1), (59, .getfield 25, 3), (62, .iload 7, 2), (64, .iload 6, 2), (66, .iastore, 1), (67, .aload_n 0, 1), (68, .getfield 28, 3), (71, .iload 7, 2), (73, .iconst (-1), 1), (74, .iastore, 1), (75, .iload 7, 2), (77, .ireturn, 1)]
theorem mT_X5_add_ok : ix_tok cX5_add mT_X5_add = true := by decide +kernel
def mD_X5_add : ix_M := (5, yX5_add, cX5_add, 8, (some (.int)), 6, 0, mT_X5_add, 700, 699, 28)
def mT_X5_opened : ix_T := [(0, .iconst 0, 1), (1, .istore_n 1, 1), (2, .iconst 0, 1), (3, .istore_n 2, 1), (4, .iload_n 2, 1), (5, .bipush 32, 2), (7, .if_icmp .ge 27, 3), (10, .iload_n 1, 1), (11, .aload_n 0, 1), (12, .getfield 43, 3), (15, .iload_n 2, 1), (16, .iaload, 1), (17, .iconst (-1), 1), (18, .if_icmp .ne 7, 3), (21, .iconst 0, 1), (22, .goto 4, 3), (25, .iconst 1, 1), (26, .iadd, 1), (27, .istore_n 1, 1), (28, .iinc 2 1, 3), (31, .goto (-27), 3), (34, .iload_n 1, 1), (35, .ireturn, 1)]
theorem mT_X5_opened_ok : ix_tok cX5_opened mT_X5_opened = true := by decide +kernel
def mD_X5_opened : ix_M := (5, yX5_opened, cX5_opened, 3, (some (.int)), 0, 0, mT_X5_opened, 716, 715, 32)
def mT_X5_openedAt : ix_T := [(0, .iconst 0, 1), (1, .istore_n 2, 1), (2, .iconst 0, 1), (3, .istore_n 3, 1), (4, .iload_n 3, 1), (5, .bipush 32, 2), (7, .if_icmp .ge 41, 3), (10, .iload_n 2, 1), (11, .aload_n 0, 1), (12, .getfield 43, 3), (15, .iload_n 3, 1), (16, .iaload, 1), (17, .iconst (-1), 1), (18, .if_icmp .eq 21, 3), (21, .aload_n 0, 1), (22, .getfield 49, 3), (25, .iload_n 3, 1), (26, .iaload, 1), (27, .iload_n 1, 1), (28, .ishr, 1), (29, .iconst 1, 1), (30, .iand, 1), (31, .iconst 1, 1), (32, .if_icmp .ne 7, 3), (35, .iconst 1, 1), (36, .goto 4, 3), (39, .iconst 0, 1), (40, .iadd, 1), (41, .istore_n 2, 1), (42, .iinc 3 1, 3), (45, .goto (-41), 3), (48, .iload_n 2, 1), (49, .ireturn, 1)]
theorem mT_X5_openedAt_ok : ix_tok cX5_openedAt mT_X5_openedAt = true := by decide +kernel
def mD_X5_openedAt : ix_M := (5, yX5_openedAt, cX5_openedAt, 4, (some (.int)), 1, 0, mT_X5_openedAt, 764, 763, 42)
def mT_X5_bookHas : ix_T := [(0, .aload_n 0, 1), (1, .aload_n 0, 1), (2, .getfield 87, 3), (5, .iconst 0, 1), (6, .invokevirtual 125, 3), (9, .iload_n 1, 1), (10, .iadd, 1), (11, .bipush 48, 2), (13, .iload_n 2, 1), (14, .imul, 1), (15, .iadd, 1), (16, .sipush 16000, 3), (19, .if_icmp .gt 7, 3), (22, .iconst 1, 1), (23, .goto 4, 3), (26, .iconst 0, 1), (27, .ireturn, 1)]
theorem mT_X5_bookHas_ok : ix_tok cX5_bookHas mT_X5_bookHas = true := by decide +kernel
def mD_X5_bookHas : ix_M := (5, yX5_bookHas, cX5_bookHas, 3, (some (.boolean)), 2, 0, mT_X5_bookHas, 720, 719, 33)
def mT_X5_refused : ix_T := [(0, .aload_n 0, 1), (1, .getfield 99, 3), (4, .ifCond .eq 5, 3), (7, .iconst (-1), 1), (8, .ireturn, 1), (9, .iload_n 1, 1), (10, .ifCond .lt 18, 3), (13, .iload_n 1, 1), (14, .bipush 31, 2), (16, .if_icmp .gt 12, 3), (19, .aload_n 0, 1), (20, .getfield 36, 3), (23, .iload_n 1, 1), (24, .baload, 1), (25, .ifCond .ne 6, 3), (28, .bipush (-2), 2), (30, .ireturn, 1), (31, .aload_n 0, 1), (32, .getfield 40, 3), (35, .iload_n 1, 1), (36, .iaload, 1), (37, .iload_n 2, 1), (38, .if_icmp .ne 7, 3), (41, .iconst 0, 1), (42, .goto 5, 3), (45, .bipush (-3), 2), (47, .ireturn, 1)]
theorem mT_X5_refused_ok : ix_tok cX5_refused mT_X5_refused = true := by decide +kernel
def mD_X5_refused : ix_M := (5, yX5_refused, cX5_refused, 3, (some (.int)), 2, 0, mT_X5_refused, 740, 739, 37)
def mT_X5_registers : ix_T := [(0, .aload_n 0, 1), (1, .getfield 40, 3), (4, .iload_n 1, 1), (5, .aload_n 0, 1), (6, .getfield 36, 3), (9, .iload_n 1, 1), (10, .baload, 1), (11, .ifCond .eq 14, 3), (14, .aload_n 0, 1), (15, .getfield 40, 3), (18, .iload_n 1, 1), (19, .iaload, 1), (20, .iconst 1, 1), (21, .iadd, 1), (22, .goto 4, 3), (25, .iconst 0, 1), (26, .iastore, 1), (27, .aload_n 0, 1), (28, .getfield 36, 3), (31, .iload_n 1, 1), (32, .iconst 1, 1), (33, .bastore, 1), (34, .aload_n 0, 1), (35, .aload_n 0, 1), (36, .getfield 87, 3), (39, .iconst 0, 1), (40, .iload_n 1, 1), (41, .aload_n 0, 1), (42, .getfield 40, 3), (45, .iload_n 1, 1), (46, .iaload, 1), (47, .iconst 0, 1), (48, .iconst 0, 1), (49, .invokevirtual 129, 3), (52, .istore_n 2, 1), (53, .return_, 1)]
theorem mT_X5_registers_ok : ix_tok cX5_registers mT_X5_registers = true := by decide +kernel
def mD_X5_registers : ix_M := (5, yX5_registers, cX5_registers, 3, none, 1, 0, mT_X5_registers, 732, 731, 36)
def mT_X5_marksOf : ix_T := [(0, .iconst 0, 1), (1, .istore_n 2, 1), (2, .iload_n 2, 1), (3, .aload_n 0, 1), (4, .getfield 84, 3), (7, .if_icmp .ge 36, 3), (10, .aload_n 0, 1), (11, .getfield 58, 3), (14, .iload_n 2, 1), (15, .iaload, 1), (16, .iload_n 1, 1), (17, .if_icmp .ne 20, 3), (20, .aload_n 0, 1), (21, .getfield 52, 3), (24, .aload_n 0, 1), (25, .getfield 61, 3), (28, .iload_n 2, 1), (29, .iaload, 1), (30, .aload_n 0, 1), (31, .getfield 64, 3), (34, .iload_n 2, 1), (35, .iaload, 1), (36, .iastore, 1), (37, .iinc 2 1, 3), (40, .goto (-38), 3), (43, .return_, 1)]
theorem mT_X5_marksOf_ok : ix_tok cX5_marksOf mT_X5_marksOf = true := by decide +kernel
def mD_X5_marksOf : ix_M := (5, yX5_marksOf, cX5_marksOf, 3, none, 1, 0, mT_X5_marksOf, 712, 711, 31)
def mT_X5_finishes : ix_T := [(0, .aload_n 0, 1), (1, .getfield 43, 3), (4, .iload_n 1, 1), (5, .iaload, 1), (6, .istore_n 3, 1), (7, .iconst 0, 1), (8, .istore 4, 2), (10, .iload 4, 2), (12, .aload_n 0, 1), (13, .getfield 87, 3), (16, .if_icmp .ge 122, 3), (19, .iconst 0, 1), (20, .istore 5, 2), (22, .iconst 0, 1), (23, .istore 6, 2), (25, .iload 6, 2), (27, .aload_n 0, 1), (28, .getfield 106, 3), (31, .if_icmp .ge 55, 3), (34, .iload 5, 2), (36, .ifCond .ne 37, 3), (39, .aload_n 0, 1), (40, .getfield 9, 3), (43, .iload 6, 2), (45, .iaload, 1), (46, .iload 4, 2), (48, .if_icmp .ne 29, 3), (51, .aload_n 0, 1), (52, .getfield 13, 3), (55, .iload 6, 2), (57, .iaload, 1), (58, .iconst 1, 1), (59, .if_icmp .le 18, 3), (62, .aload_n 0, 1), (63, .getfield 22, 3), (66, .iload 6, 2), (68, .iaload, 1), (69, .iload_n 3, 1), (70, .if_icmp .ne 7, 3), (73, .iconst 1, 1), (74, .goto 4, 3), (77, .iconst 0, 1), (78, .istore 5, 2), (80, .iinc 6 1, 3), (83, .goto (-58), 3), (86, .aload_n 0, 1), (87, .getfield 49, 3), (90, .iload_n 1, 1), (91, .iaload, 1), (92, .iload 4, 2), (94, .ishr, 1), (95, .iconst 1, 1), (96, .iand, 1), (97, .iconst 1, 1), (98, .if_icmp .ne 34, 3), (101, .iload 5, 2), (103, .ifCond .ne 29, 3), (106, .aload_n 0, 1), (107, .iload 4, 2), (109, .iload_n 2, 1), (110, .ifCond .eq 7, 3), (113, .iconst 2, 1), (114, .goto 4, 3), (117, .iconst 3, 1), (118, .iload_n 1, 1), (119, .aload_n 0, 1), (120, .getfield 40, 3), (123, .iload_n 1, 1), (124, .iaload, 1), (125, .iload_n 3, 1), (126, .iconst 0, 1), (127, .invokevirtual 129, 3), (130, .istore 6, 2), (132, .iinc 4 1, 3), (135, .goto (-125), 3), (138, .aload_n 0, 1), (139, .aload_n 0, 1), (140, .getfield 87, 3), (143, .iconst 5, 1), (144, .iload_n 1, 1), (145, .aload_n 0, 1), (146, .getfield 40, 3), (149, .iload_n 1, 1), (150, .iaload, 1), (151, .iconst 0, 1), (152, .iload_n 3, 1), (153, .invokevirtual 129, 3), (156, .istore 4, 2), (158, .aload_n 0, 1), (159, .iload_n 1, 1), (160, .iload_n 2, 1), (161, .invokevirtual 133, 3), (164, .return_, 1)]
theorem mT_X5_finishes_ok : ix_tok cX5_finishes mT_X5_finishes = true := by decide +kernel
def mD_X5_finishes : ix_M := (5, yX5_finishes, cX5_finishes, 7, none, 2, 0, mT_X5_finishes, 704, 703, 29)
def mT_X5_closes : ix_T := [(0, .aload_n 0, 1), (1, .getfield 43, 3), (4, .iload_n 1, 1), (5, .iaload, 1), (6, .istore_n 3, 1), (7, .aload_n 0, 1), (8, .getfield 55, 3), (11, .iload_n 3, 1), (12, .iload_n 2, 1), (13, .ifCond .eq 7, 3), (16, .iconst 1, 1), (17, .goto 4, 3), (20, .iconst 2, 1), (21, .iastore, 1), (22, .iload_n 2, 1), (23, .ifCond .eq 8, 3), (26, .aload_n 0, 1), (27, .iload_n 3, 1), (28, .invokevirtual 137, 3), (31, .aload_n 0, 1), (32, .getfield 43, 3), (35, .iload_n 1, 1), (36, .iconst (-1), 1), (37, .iastore, 1), (38, .aload_n 0, 1), (39, .getfield 49, 3), (42, .iload_n 1, 1), (43, .iconst 0, 1), (44, .iastore, 1), (45, .return_, 1)]
theorem mT_X5_closes_ok : ix_tok cX5_closes mT_X5_closes = true := by decide +kernel
def mD_X5_closes : ix_M := (5, yX5_closes, cX5_closes, 4, none, 2, 0, mT_X5_closes, 708, 707, 30)
def mT_X5_ends : ix_T := [(0, .aload_n 0, 1), (1, .aload_n 0, 1), (2, .getfield 87, 3), (5, .iconst 4, 1), (6, .iload_n 1, 1), (7, .aload_n 0, 1), (8, .getfield 40, 3), (11, .iload_n 1, 1), (12, .iaload, 1), (13, .iload_n 2, 1), (14, .ifCond .eq 7, 3), (17, .iconst 1, 1), (18, .goto 4, 3), (21, .iconst 0, 1), (22, .aload_n 0, 1), (23, .getfield 43, 3), (26, .iload_n 1, 1), (27, .iaload, 1), (28, .invokevirtual 129, 3), (31, .istore_n 3, 1), (32, .aload_n 0, 1), (33, .iload_n 1, 1), (34, .iload_n 2, 1), (35, .invokevirtual 141, 3), (38, .return_, 1)]
theorem mT_X5_ends_ok : ix_tok cX5_ends mT_X5_ends = true := by decide +kernel
def mD_X5_ends : ix_M := (5, yX5_ends, cX5_ends, 4, none, 2, 0, mT_X5_ends, 696, 695, 27)
def mT_X5_register : ix_T := [(0, .aload_n 0, 1), (1, .getfield 99, 3), (4, .ifCond .eq 5, 3), (7, .iconst (-1), 1), (8, .ireturn, 1), (9, .iload_n 1, 1), (10, .ifCond .lt 9, 3), (13, .iload_n 1, 1), (14, .bipush 31, 2), (16, .if_icmp .le 6, 3), (19, .bipush (-2), 2), (21, .ireturn, 1), (22, .aload_n 0, 1), (23, .getfield 43, 3), (26, .iload_n 1, 1), (27, .iaload, 1), (28, .iconst (-1), 1), (29, .if_icmp .eq 12, 3), (32, .aload_n 0, 1), (33, .iload_n 1, 1), (34, .iconst 0, 1), (35, .invokevirtual 144, 3), (38, .goto 19, 3), (41, .aload_n 0, 1), (42, .bipush 16, 2), (44, .aload_n 0, 1), (45, .invokevirtual 147, 3), (48, .invokevirtual 151, 3), (51, .ifCond .ne 6, 3), (54, .bipush (-8), 2), (56, .ireturn, 1), (57, .aload_n 0, 1), (58, .iload_n 1, 1), (59, .invokevirtual 155, 3), (62, .aload_n 0, 1), (63, .getfield 40, 3), (66, .iload_n 1, 1), (67, .iaload, 1), (68, .ireturn, 1)]
theorem mT_X5_register_ok : ix_tok cX5_register mT_X5_register = true := by decide +kernel
def mD_X5_register : ix_M := (5, yX5_register, cX5_register, 2, (some (.int)), 1, 0, mT_X5_register, 692, 690, 691)
def mT_X5_begins : ix_T := [(0, .aload_n 0, 1), (1, .getfield 43, 3), (4, .iload_n 1, 1), (5, .iload_n 2, 1), (6, .iastore, 1), (7, .aload_n 0, 1), (8, .getfield 46, 3), (11, .iload_n 1, 1), (12, .iload_n 3, 1), (13, .iastore, 1), (14, .aload_n 0, 1), (15, .getfield 49, 3), (18, .iload_n 1, 1), (19, .iconst 0, 1), (20, .iastore, 1), (21, .aload_n 0, 1), (22, .getfield 55, 3), (25, .iload_n 2, 1), (26, .iconst 0, 1), (27, .iastore, 1), (28, .aload_n 0, 1), (29, .iload_n 2, 1), (30, .iconst 1, 1), (31, .iadd, 1), (32, .putfield 80, 3), (35, .return_, 1)]
theorem mT_X5_begins_ok : ix_tok cX5_begins mT_X5_begins = true := by decide +kernel
def mD_X5_begins : ix_M := (5, yX5_begins, cX5_begins, 4, none, 3, 0, mT_X5_begins, 744, 743, 38)
def mT_X5_begin : ix_T := [(0, .aload_n 0, 1), (1, .iload_n 1, 1), (2, .iload_n 2, 1), (3, .invokevirtual 158, 3), (6, .istore_n 3, 1), (7, .iload_n 3, 1), (8, .ifCond .eq 5, 3), (11, .iload_n 3, 1), (12, .ireturn, 1), (13, .aload_n 0, 1), (14, .getfield 43, 3), (17, .iload_n 1, 1), (18, .iaload, 1), (19, .iconst (-1), 1), (20, .if_icmp .eq 6, 3), (23, .bipush (-4), 2), (25, .ireturn, 1), (26, .aload_n 0, 1), (27, .bipush 16, 2), (29, .aload_n 0, 1), (30, .invokevirtual 147, 3), (33, .iconst 1, 1), (34, .iadd, 1), (35, .invokevirtual 151, 3), (38, .ifCond .ne 6, 3), (41, .bipush (-8), 2), (43, .ireturn, 1), (44, .aload_n 0, 1), (45, .aload_n 0, 1), (46, .getfield 87, 3), (49, .iconst 1, 1), (50, .iload_n 1, 1), (51, .iload_n 2, 1), (52, .aload_n 0, 1), (53, .getfield 96, 3), (56, .aload_n 0, 1), (57, .getfield 80, 3), (60, .invokevirtual 129, 3), (63, .istore 4, 2), (65, .aload_n 0, 1), (66, .iload_n 1, 1), (67, .aload_n 0, 1), (68, .getfield 80, 3), (71, .aload_n 0, 1), (72, .getfield 96, 3), (75, .invokevirtual 161, 3), (78, .aload_n 0, 1), (79, .getfield 43, 3), (82, .iload_n 1, 1), (83, .iaload, 1), (84, .ireturn, 1)]
theorem mT_X5_begin_ok : ix_tok cX5_begin mT_X5_begin = true := by decide +kernel
def mD_X5_begin : ix_M := (5, yX5_begin, cX5_begin, 5, (some (.int)), 2, 0, mT_X5_begin, 736, 734, 735)
def mT_X5_offsetOf : ix_T := [(0, .iconst 0, 1), (1, .istore_n 2, 1), (2, .iconst 0, 1), (3, .istore_n 3, 1), (4, .iload_n 3, 1), (5, .iload_n 1, 1), (6, .if_icmp .ge 32, 3), (9, .iload_n 2, 1), (10, .aload_n 0, 1), (11, .getfield 9, 3), (14, .iload_n 3, 1), (15, .iaload, 1), (16, .aload_n 0, 1), (17, .getfield 9, 3), (20, .iload_n 1, 1), (21, .iaload, 1), (22, .if_icmp .ne 7, 3), (25, .iconst 1, 1), (26, .goto 4, 3), (29, .iconst 0, 1), (30, .iadd, 1), (31, .istore_n 2, 1), (32, .iinc 3 1, 3), (35, .goto (-31), 3), (38, .iload_n 2, 1), (39, .ireturn, 1)]
theorem mT_X5_offsetOf_ok : ix_tok cX5_offsetOf mT_X5_offsetOf = true := by decide +kernel
def mD_X5_offsetOf : ix_M := (5, yX5_offsetOf, cX5_offsetOf, 4, (some (.int)), 1, 0, mT_X5_offsetOf, 756, 755, 40)
def mT_X5_nextOf : ix_T := [(0, .aload_n 0, 1), (1, .getfield 106, 3), (4, .iconst 1, 1), (5, .isub, 1), (6, .istore_n 3, 1), (7, .iload_n 3, 1), (8, .ifCond .lt 63, 3), (11, .aload_n 0, 1), (12, .getfield 9, 3), (15, .iload_n 3, 1), (16, .iaload, 1), (17, .iload_n 2, 1), (18, .if_icmp .ne 47, 3), (21, .aload_n 0, 1), (22, .getfield 13, 3), (25, .iload_n 3, 1), (26, .iaload, 1), (27, .iconst 1, 1), (28, .if_icmp .gt 37, 3), (31, .aload_n 0, 1), (32, .getfield 16, 3), (35, .iload_n 3, 1), (36, .iaload, 1), (37, .iload_n 1, 1), (38, .if_icmp .ne 27, 3), (41, .aload_n 0, 1), (42, .getfield 19, 3), (45, .iload_n 3, 1), (46, .iaload, 1), (47, .aload_n 0, 1), (48, .getfield 40, 3), (51, .iload_n 1, 1), (52, .iaload, 1), (53, .if_icmp .ne 12, 3), (56, .aload_n 0, 1), (57, .getfield 22, 3), (60, .iload_n 3, 1), (61, .iaload, 1), (62, .iconst 1, 1), (63, .iadd, 1), (64, .ireturn, 1), (65, .iinc 3 (-1), 3), (68, .goto (-61), 3), (71, .iconst 0, 1), (72, .ireturn, 1)]
theorem mT_X5_nextOf_ok : ix_tok cX5_nextOf mT_X5_nextOf = true := by decide +kernel
def mD_X5_nextOf : ix_M := (5, yX5_nextOf, cX5_nextOf, 4, (some (.int)), 2, 0, mT_X5_nextOf, 760, 759, 41)
def mT_X5_again : ix_T := [(0, .iconst 5, 1), (1, .istore 4, 2), (3, .aload_n 0, 1), (4, .getfield 106, 3), (7, .iconst 1, 1), (8, .isub, 1), (9, .istore 5, 2), (11, .iload 5, 2), (13, .ifCond .lt 84, 3), (16, .iload 4, 2), (18, .ifCond .le 79, 3), (21, .aload_n 0, 1), (22, .getfield 9, 3), (25, .iload 5, 2), (27, .iaload, 1), (28, .iload_n 2, 1), (29, .if_icmp .ne 62, 3), (32, .aload_n 0, 1), (33, .getfield 13, 3), (36, .iload 5, 2), (38, .iaload, 1), (39, .iconst 1, 1), (40, .if_icmp .gt 51, 3), (43, .aload_n 0, 1), (44, .getfield 16, 3), (47, .iload 5, 2), (49, .iaload, 1), (50, .iload_n 1, 1), (51, .if_icmp .ne 40, 3), (54, .aload_n 0, 1), (55, .getfield 19, 3), (58, .iload 5, 2), (60, .iaload, 1), (61, .aload_n 0, 1), (62, .getfield 40, 3), (65, .iload_n 1, 1), (66, .iaload, 1), (67, .if_icmp .ne 24, 3), (70, .aload_n 0, 1), (71, .getfield 22, 3), (74, .iload 5, 2), (76, .iaload, 1), (77, .iload_n 3, 1), (78, .if_icmp .ne 10, 3), (81, .aload_n 0, 1), (82, .iload 5, 2), (84, .invokevirtual 165, 3), (87, .ireturn, 1), (88, .iinc 4 (-1), 3), (91, .iinc 5 (-1), 3), (94, .goto (-83), 3), (97, .iconst (-1), 1), (98, .ireturn, 1)]
theorem mT_X5_again_ok : ix_tok cX5_again mT_X5_again = true := by decide +kernel
def mD_X5_again : ix_M := (5, yX5_again, cX5_again, 6, (some (.int)), 3, 0, mT_X5_again, 752, 751, 39)
def mT_X5_send : ix_T := [(0, .aload_n 0, 1), (1, .getfield 168, 3), (4, .istore 6, 2), (6, .aload_n 0, 1), (7, .iconst 0, 1), (8, .putfield 168, 3), (11, .aload_n 0, 1), (12, .getfield 99, 3), (15, .ifCond .eq 5, 3), (18, .iconst (-1), 1), (19, .ireturn, 1), (20, .iload_n 1, 1), (21, .ifCond .lt 30, 3), (24, .iload_n 1, 1), (25, .bipush 31, 2), (27, .if_icmp .gt 24, 3), (30, .aload_n 0, 1), (31, .getfield 36, 3), (34, .iload_n 1, 1), (35, .baload, 1), (36, .ifCond .eq 15, 3), (39, .iload_n 3, 1), (40, .ifCond .lt 11, 3), (43, .iload_n 3, 1), (44, .aload_n 0, 1), (45, .getfield 87, 3), (48, .if_icmp .lt 6, 3), (51, .bipush (-2), 2), (53, .ireturn, 1), (54, .aload_n 0, 1), (55, .getfield 40, 3), (58, .iload_n 1, 1), (59, .iaload, 1), (60, .iload_n 2, 1), (61, .if_icmp .eq 6, 3), (64, .bipush (-3), 2), (66, .ireturn, 1), (67, .iload 5, 2), (69, .aload_n 0, 1), (70, .getfield 43, 3), (73, .iload_n 1, 1), (74, .iaload, 1), (75, .iconst (-1), 1), (76, .if_icmp .ne 7, 3), (79, .iconst 1, 1), (80, .goto 4, 3), (83, .iconst 0, 1), (84, .if_icmp .ne 6, 3), (87, .bipush (-5), 2), (89, .ireturn, 1), (90, .aload_n 0, 1), (91, .iload_n 1, 1), (92, .iload_n 3, 1), (93, .iload 4, 2), (95, .invokevirtual 171, 3), (98, .istore 7, 2), (100, .iload 7, 2), (102, .iconst (-1), 1), (103, .if_icmp .eq 6, 3), (106, .iload 7, 2), (108, .ireturn, 1), (109, .iload 4, 2), (111, .aload_n 0, 1), (112, .iload_n 1, 1), (113, .iload_n 3, 1), (114, .invokevirtual 175, 3), (117, .if_icmp .eq 6, 3), (120, .bipush (-6), 2), (122, .ireturn, 1), (123, .iload 5, 2), (125, .ifCond .eq 20, 3), (128, .aload_n 0, 1), (129, .getfield 49, 3), (132, .iload_n 1, 1), (133, .iaload, 1), (134, .iload_n 3, 1), (135, .ishr, 1), (136, .iconst 1, 1), (137, .iand, 1), (138, .ifCond .ne 7, 3), (141, .iconst 1, 1), (142, .goto 4, 3), (145, .iconst 0, 1), (146, .istore 8, 2), (148, .aload_n 0, 1), (149, .iload_n 3, 1), (150, .iconst 0, 1), (151, .invokevirtual 125, 3), (154, .bipush 14, 2), (156, .iadd, 1), (157, .iload 6, 2), (159, .iadd, 1), (160, .bipush 14, 2), (162, .aload_n 0, 1), (163, .iload_n 3, 1), (164, .invokevirtual 178, 3), (167, .iload 8, 2), (169, .ifCond .eq 7, 3), (172, .iconst 1, 1), (173, .goto 4, 3), (176, .iconst 0, 1), (177, .iadd, 1), (178, .imul, 1), (179, .iadd, 1), (180, .istore 9, 2), (182, .iload 9, 2), (184, .aload_n 0, 1), (185, .getfield 90, 3), (188, .if_icmp .gt 21, 3), (191, .iload 8, 2), (193, .ifCond .eq 19, 3), (196, .aload_n 0, 1), (197, .bipush 16, 2), (199, .aload_n 0, 1), (200, .invokevirtual 147, 3), (203, .invokevirtual 151, 3), (206, .ifCond .ne 6, 3), (209, .bipush (-8), 2), (211, .ireturn, 1), (212, .iload 8, 2), (214, .ifCond .eq 30, 3), (217, .aload_n 0, 1), (218, .aload_n 0, 1), (219, .getfield 87, 3), (222, .iconst 2, 1), (223, .iload_n 1, 1), (224, .iload_n 2, 1), (225, .iload_n 3, 1), (226, .iconst 0, 1), (227, .invokevirtual 129, 3), (230, .istore 10, 2), (232, .aload_n 0, 1), (233, .getfield 49, 3), (236, .iload_n 1, 1), (237, .dup2, 1), (238, .iaload, 1), (239, .iconst 1, 1), (240, .iload_n 3, 1), (241, .ishl, 1), (242, .ior, 1), (243, .iastore, 1), (244, .aload_n 0, 1), (245, .iload_n 3, 1), (246, .iload 5, 2), (248, .ifCond .eq 7, 3), (251, .iconst 1, 1), (252, .goto 4, 3), (255, .iconst 0, 1), (256, .iload_n 1, 1), (257, .iload_n 2, 1), (258, .iload 4, 2), (260, .iload 6, 2), (262, .invokevirtual 129, 3), (265, .istore 10, 2), (267, .aload_n 0, 1), (268, .getfield 28, 3), (271, .iload 10, 2), (273, .iload 5, 2), (275, .ifCond .eq 12, 3), (278, .aload_n 0, 1), (279, .getfield 43, 3), (282, .iload_n 1, 1), (283, .iaload, 1), (284, .goto 4, 3), (287, .iconst (-1), 1), (288, .iastore, 1), (289, .iconst 0, 1), (290, .istore 11, 2), (292, .iload 11, 2), (294, .iload 6, 2), (296, .if_icmp .ge 29, 3), (299, .aload_n 0, 1), (300, .getfield 32, 3), (303, .bipush 40, 2), (305, .iload 10, 2), (307, .imul, 1), (308, .iload 11, 2), (310, .iadd, 1), (311, .aload_n 0, 1), (312, .getfield 67, 3), (315, .iload 11, 2), (317, .baload, 1), (318, .bastore, 1), (319, .iinc 11 1, 3), (322, .goto (-30), 3), (325, .aload_n 0, 1), (326, .iload 10, 2), (328, .invokevirtual 165, 3), (331, .ireturn, 1)]
theorem mT_X5_send_ok : ix_tok cX5_send mT_X5_send = true := by decide +kernel
def mD_X5_send : ix_M := (5, yX5_send, cX5_send, 12, (some (.int)), 5, 0, mT_X5_send, 748, 746, 747)
def mT_X5_isGroup : ix_T := [(0, .iload_n 0, 1), (1, .ifCond .lt 13, 3), (4, .iload_n 0, 1), (5, .bipush 7, 2), (7, .if_icmp .gt 7, 3), (10, .iconst 1, 1), (11, .goto 4, 3), (14, .iconst 0, 1), (15, .ireturn, 1)]
theorem mT_X5_isGroup_ok : ix_tok cX5_isGroup mT_X5_isGroup = true := by decide +kernel
def mD_X5_isGroup : ix_M := (5, yX5_isGroup, cX5_isGroup, 1, (some (.boolean)), 1, 1, mT_X5_isGroup, 771, 770, 770)
def mT_X5_isPartition : ix_T := [(0, .iload_n 1, 1), (1, .ifCond .lt 15, 3), (4, .iload_n 1, 1), (5, .aload_n 0, 1), (6, .getfield 87, 3), (9, .if_icmp .ge 7, 3), (12, .iconst 1, 1), (13, .goto 4, 3), (16, .iconst 0, 1), (17, .ireturn, 1)]
theorem mT_X5_isPartition_ok : ix_tok cX5_isPartition mT_X5_isPartition = true := by decide +kernel
def mD_X5_isPartition : ix_M := (5, yX5_isPartition, cX5_isPartition, 2, (some (.boolean)), 1, 0, mT_X5_isPartition, 775, 774, 43)
def mT_X5_later : ix_T := [(0, .aload_n 0, 1), (1, .getfield 58, 3), (4, .aload_n 0, 1), (5, .getfield 84, 3), (8, .iload_n 1, 1), (9, .iastore, 1), (10, .aload_n 0, 1), (11, .getfield 61, 3), (14, .aload_n 0, 1), (15, .getfield 84, 3), (18, .iload_n 2, 1), (19, .iastore, 1), (20, .aload_n 0, 1), (21, .getfield 64, 3), (24, .aload_n 0, 1), (25, .getfield 84, 3), (28, .iload_n 3, 1), (29, .iastore, 1), (30, .aload_n 0, 1), (31, .dup, 1), (32, .getfield 84, 3), (35, .iconst 1, 1), (36, .iadd, 1), (37, .putfield 84, 3), (40, .return_, 1)]
theorem mT_X5_later_ok : ix_tok cX5_later mT_X5_later = true := by decide +kernel
def mD_X5_later : ix_M := (5, yX5_later, cX5_later, 4, none, 3, 0, mT_X5_later, 779, 778, 44)
def mT_X5_later_ : ix_T := [(0, .aload_n 0, 1), (1, .getfield 99, 3), (4, .ifCond .eq 5, 3), (7, .iconst (-1), 1), (8, .ireturn, 1), (9, .iload_n 3, 1), (10, .invokestatic 181, 3), (13, .ifCond .eq 17, 3), (16, .aload_n 0, 1), (17, .iload 4, 2), (19, .invokevirtual 185, 3), (22, .ifCond .eq 8, 3), (25, .iload 5, 2), (27, .ifCond .ge 6, 3), (30, .bipush (-2), 2), (32, .ireturn, 1), (33, .aload_n 0, 1), (34, .iload_n 1, 1), (35, .iload_n 2, 1), (36, .invokevirtual 158, 3), (39, .istore 6, 2), (41, .iload 6, 2), (43, .ifCond .eq 6, 3), (46, .iload 6, 2), (48, .ireturn, 1), (49, .aload_n 0, 1), (50, .getfield 43, 3), (53, .iload_n 1, 1), (54, .iaload, 1), (55, .iconst (-1), 1), (56, .if_icmp .ne 6, 3), (59, .bipush (-5), 2), (61, .ireturn, 1), (62, .aload_n 0, 1), (63, .bipush 16, 2), (65, .aload_n 0, 1), (66, .invokevirtual 147, 3), (69, .invokevirtual 151, 3), (72, .ifCond .ne 6, 3), (75, .bipush (-8), 2), (77, .ireturn, 1), (78, .aload_n 0, 1), (79, .aload_n 0, 1), (80, .getfield 87, 3), (83, .iconst 3, 1), (84, .iload_n 1, 1), (85, .iload_n 2, 1), (86, .bipush 8, 2), (88, .iload_n 3, 1), (89, .imul, 1), (90, .iload 4, 2), (92, .iadd, 1), (93, .iload 5, 2), (95, .invokevirtual 129, 3), (98, .istore 7, 2), (100, .aload_n 0, 1), (101, .aload_n 0, 1), (102, .getfield 43, 3), (105, .iload_n 1, 1), (106, .iaload, 1), (107, .bipush 8, 2), (109, .iload_n 3, 1), (110, .imul, 1), (111, .iload 4, 2), (113, .iadd, 1), (114, .iload 5, 2), (116, .invokevirtual 188, 3), (119, .iconst 0, 1), (120, .ireturn, 1)]
theorem mT_X5_later__ok : ix_tok cX5_later_ mT_X5_later_ = true := by decide +kernel
def mD_X5_later_ : ix_M := (5, yX5_later_, cX5_later_, 8, (some (.int)), 5, 0, mT_X5_later_, 768, 766, 767)
def mT_X5_end : ix_T := [(0, .aload_n 0, 1), (1, .iload_n 1, 1), (2, .iload_n 2, 1), (3, .invokevirtual 158, 3), (6, .istore 4, 2), (8, .iload 4, 2), (10, .ifCond .eq 6, 3), (13, .iload 4, 2), (15, .ireturn, 1), (16, .aload_n 0, 1), (17, .getfield 43, 3), (20, .iload_n 1, 1), (21, .iaload, 1), (22, .iconst (-1), 1), (23, .if_icmp .ne 6, 3), (26, .bipush (-5), 2), (28, .ireturn, 1), (29, .aload_n 0, 1), (30, .iload_n 1, 1), (31, .iload_n 3, 1), (32, .invokevirtual 144, 3), (35, .iconst 0, 1), (36, .ireturn, 1)]
theorem mT_X5_end_ok : ix_tok cX5_end mT_X5_end = true := by decide +kernel
def mD_X5_end : ix_M := (5, yX5_end, cX5_end, 5, (some (.int)), 3, 0, mT_X5_end, 783, 781, 782)
def mT_X5_mark : ix_T := [(0, .aload_n 0, 1), (1, .getfield 99, 3), (4, .ifCond .eq 5, 3), (7, .iconst (-1), 1), (8, .ireturn, 1), (9, .iload_n 1, 1), (10, .invokestatic 181, 3), (13, .ifCond .eq 15, 3), (16, .aload_n 0, 1), (17, .iload_n 2, 1), (18, .invokevirtual 185, 3), (21, .ifCond .eq 7, 3), (24, .iload_n 3, 1), (25, .ifCond .ge 6, 3), (28, .bipush (-2), 2), (30, .ireturn, 1), (31, .aload_n 0, 1), (32, .bipush 16, 2), (34, .aload_n 0, 1), (35, .invokevirtual 147, 3), (38, .invokevirtual 151, 3), (41, .ifCond .ne 6, 3), (44, .bipush (-8), 2), (46, .ireturn, 1), (47, .aload_n 0, 1), (48, .aload_n 0, 1), (49, .getfield 87, 3), (52, .bipush 6, 2), (54, .iconst 0, 1), (55, .iconst 0, 1), (56, .bipush 8, 2), (58, .iload_n 1, 1), (59, .imul, 1), (60, .iload_n 2, 1), (61, .iadd, 1), (62, .iload_n 3, 1), (63, .invokevirtual 129, 3), (66, .istore 4, 2), (68, .aload_n 0, 1), (69, .getfield 52, 3), (72, .bipush 8, 2), (74, .iload_n 1, 1), (75, .imul, 1), (76, .iload_n 2, 1), (77, .iadd, 1), (78, .iload_n 3, 1), (79, .iastore, 1), (80, .iconst 0, 1), (81, .ireturn, 1)]
theorem mT_X5_mark_ok : ix_tok cX5_mark mT_X5_mark = true := by decide +kernel
def mD_X5_mark : ix_M := (5, yX5_mark, cX5_mark, 5, (some (.int)), 3, 0, mT_X5_mark, 787, 785, 786)
def mT_X5_marked : ix_T := [(0, .aload_n 0, 1), (1, .getfield 99, 3), (4, .ifCond .ne 18, 3), (7, .iload_n 1, 1), (8, .invokestatic 181, 3), (11, .ifCond .eq 11, 3), (14, .aload_n 0, 1), (15, .iload_n 2, 1), (16, .invokevirtual 185, 3), (19, .ifCond .ne 7, 3), (22, .iconst (-1), 1), (23, .goto 14, 3), (26, .aload_n 0, 1), (27, .getfield 52, 3), (30, .bipush 8, 2), (32, .iload_n 1, 1), (33, .imul, 1), (34, .iload_n 2, 1), (35, .iadd, 1), (36, .iaload, 1), (37, .ireturn, 1)]
theorem mT_X5_marked_ok : ix_tok cX5_marked mT_X5_marked = true := by decide +kernel
def mD_X5_marked : ix_M := (5, yX5_marked, cX5_marked, 3, (some (.int)), 2, 0, mT_X5_marked, 791, 789, 790)
def mT_X5_tick : ix_T := [(0, .iload_n 1, 1), (1, .ifCond .lt 21, 3), (4, .iload_n 1, 1), (5, .sipush 1000, 3), (8, .if_icmp .gt 14, 3), (11, .aload_n 0, 1), (12, .getfield 96, 3), (15, .iload_n 1, 1), (16, .iadd, 1), (17, .ldc 191, 2), (19, .if_icmp .le 6, 3), (22, .bipush (-2), 2), (24, .ireturn, 1), (25, .aload_n 0, 1), (26, .dup, 1), (27, .getfield 96, 3), (30, .iload_n 1, 1), (31, .iadd, 1), (32, .putfield 96, 3), (35, .iconst 0, 1), (36, .istore_n 2, 1), (37, .iconst 0, 1), (38, .istore_n 3, 1), (39, .iload_n 3, 1), (40, .aload_n 0, 1), (41, .getfield 80, 3), (44, .if_icmp .ge 78, 3), (47, .aload_n 0, 1), (48, .getfield 99, 3), (51, .ifCond .ne 71, 3), (54, .iconst 0, 1), (55, .istore 4, 2), (57, .iload 4, 2), (59, .bipush 32, 2), (61, .if_icmp .ge 55, 3), (64, .aload_n 0, 1), (65, .getfield 43, 3), (68, .iload 4, 2), (70, .iaload, 1), (71, .iload_n 3, 1), (72, .if_icmp .ne 38, 3), (75, .aload_n 0, 1), (76, .getfield 96, 3), (79, .aload_n 0, 1), (80, .getfield 46, 3), (83, .iload 4, 2), (85, .iaload, 1), (86, .isub, 1), (87, .aload_n 0, 1), (88, .getfield 93, 3), (91, .if_icmp .le 19, 3), (94, .aload_n 0, 1), (95, .iload 4, 2), (97, .iconst 0, 1), (98, .invokevirtual 144, 3), (101, .aload_n 0, 1), (102, .iload 4, 2), (104, .invokevirtual 155, 3), (107, .iinc 2 1, 3), (110, .iinc 4 1, 3), (113, .goto (-56), 3), (116, .iinc 3 1, 3), (119, .goto (-80), 3), (122, .iload_n 2, 1), (123, .ireturn, 1)]
theorem mT_X5_tick_ok : ix_tok cX5_tick mT_X5_tick = true := by decide +kernel
def mD_X5_tick : ix_M := (5, yX5_tick, cX5_tick, 5, (some (.int)), 1, 0, mT_X5_tick, 795, 793, 794)
def mT_X5_manyOf : ix_T := [(0, .iconst 0, 1), (1, .istore_n 2, 1), (2, .iconst 0, 1), (3, .istore_n 3, 1), (4, .iload_n 3, 1), (5, .aload_n 0, 1), (6, .getfield 106, 3), (9, .if_icmp .ge 27, 3), (12, .iload_n 2, 1), (13, .aload_n 0, 1), (14, .getfield 9, 3), (17, .iload_n 3, 1), (18, .iaload, 1), (19, .iload_n 1, 1), (20, .if_icmp .ne 7, 3), (23, .iconst 1, 1), (24, .goto 4, 3), (27, .iconst 0, 1), (28, .iadd, 1), (29, .istore_n 2, 1), (30, .iinc 3 1, 3), (33, .goto (-29), 3), (36, .iload_n 2, 1), (37, .ireturn, 1)]
theorem mT_X5_manyOf_ok : ix_tok cX5_manyOf mT_X5_manyOf = true := by decide +kernel
def mD_X5_manyOf : ix_M := (5, yX5_manyOf, cX5_manyOf, 4, (some (.int)), 1, 0, mT_X5_manyOf, 844, 843, 49)
def mT_X5_stable : ix_T := [(0, .iconst 0, 1), (1, .istore_n 2, 1), (2, .iconst 0, 1), (3, .istore_n 3, 1), (4, .iload_n 3, 1), (5, .aload_n 0, 1), (6, .getfield 106, 3), (9, .if_icmp .ge 51, 3), (12, .aload_n 0, 1), (13, .getfield 9, 3), (16, .iload_n 3, 1), (17, .iaload, 1), (18, .iload_n 1, 1), (19, .if_icmp .eq 6, 3), (22, .goto 32, 3), (25, .aload_n 0, 1), (26, .getfield 13, 3), (29, .iload_n 3, 1), (30, .iaload, 1), (31, .iconst 1, 1), (32, .if_icmp .ne 19, 3), (35, .aload_n 0, 1), (36, .getfield 55, 3), (39, .aload_n 0, 1), (40, .getfield 28, 3), (43, .iload_n 3, 1), (44, .iaload, 1), (45, .iaload, 1), (46, .ifCond .ne 5, 3), (49, .iload_n 2, 1), (50, .ireturn, 1), (51, .iinc 2 1, 3), (54, .iinc 3 1, 3), (57, .goto (-53), 3), (60, .iload_n 2, 1), (61, .ireturn, 1)]
theorem mT_X5_stable_ok : ix_tok cX5_stable mT_X5_stable = true := by decide +kernel
def mD_X5_stable : ix_M := (5, yX5_stable, cX5_stable, 4, (some (.int)), 1, 0, mT_X5_stable, 804, 803, 45)
def mT_X5_isSeen : ix_T := [(0, .aload_n 0, 1), (1, .getfield 13, 3), (4, .iload_n 1, 1), (5, .iaload, 1), (6, .iconst 1, 1), (7, .if_icmp .le 5, 3), (10, .iconst 0, 1), (11, .ireturn, 1), (12, .iload_n 2, 1), (13, .ifCond .eq 33, 3), (16, .iload_n 3, 1), (17, .iload 4, 2), (19, .if_icmp .ge 31, 3), (22, .aload_n 0, 1), (23, .getfield 13, 3), (26, .iload_n 1, 1), (27, .iaload, 1), (28, .ifCond .eq 18, 3), (31, .aload_n 0, 1), (32, .getfield 55, 3), (35, .aload_n 0, 1), (36, .getfield 28, 3), (39, .iload_n 1, 1), (40, .iaload, 1), (41, .iaload, 1), (42, .iconst 1, 1), (43, .if_icmp .ne 7, 3), (46, .iconst 1, 1), (47, .goto 4, 3), (50, .iconst 0, 1), (51, .ireturn, 1)]
theorem mT_X5_isSeen_ok : ix_tok cX5_isSeen mT_X5_isSeen = true := by decide +kernel
def mD_X5_isSeen : ix_M := (5, yX5_isSeen, cX5_isSeen, 5, (some (.boolean)), 4, 0, mT_X5_isSeen, 808, 807, 46)
def mT_X5_fetch : ix_T := [(0, .aload_n 0, 1), (1, .iconst 0, 1), (2, .putfield 115, 3), (5, .aload_n 0, 1), (6, .getfield 99, 3), (9, .ifCond .ne 15, 3), (12, .aload_n 0, 1), (13, .iload_n 1, 1), (14, .invokevirtual 185, 3), (17, .ifCond .eq 7, 3), (20, .iload_n 2, 1), (21, .ifCond .ge 5, 3), (24, .iconst (-1), 1), (25, .ireturn, 1), (26, .aload_n 0, 1), (27, .iload_n 1, 1), (28, .invokevirtual 192, 3), (31, .istore 4, 2), (33, .iconst 0, 1), (34, .istore 5, 2), (36, .iconst 0, 1), (37, .istore 6, 2), (39, .iload 6, 2), (41, .aload_n 0, 1), (42, .getfield 106, 3), (45, .if_icmp .ge 98, 3), (48, .aload_n 0, 1), (49, .getfield 9, 3), (52, .iload 6, 2), (54, .iaload, 1), (55, .iload_n 1, 1), (56, .if_icmp .eq 6, 3), (59, .goto 78, 3), (62, .iload 5, 2), (64, .iload_n 2, 1), (65, .if_icmp .lt 69, 3), (68, .aload_n 0, 1), (69, .iload 6, 2), (71, .iload_n 3, 1), (72, .iload 5, 2), (74, .iload 4, 2), (76, .invokevirtual 195, 3), (79, .ifCond .eq 55, 3), (82, .aload_n 0, 1), (83, .aload_n 0, 1), (84, .getfield 25, 3), (87, .iload 6, 2), (89, .iaload, 1), (90, .putfield 115, 3), (93, .iconst 0, 1), (94, .istore 7, 2), (96, .iload 7, 2), (98, .aload_n 0, 1), (99, .getfield 115, 3), (102, .if_icmp .ge 29, 3), (105, .aload_n 0, 1), (106, .getfield 70, 3), (109, .iload 7, 2), (111, .aload_n 0, 1), (112, .getfield 32, 3), (115, .bipush 40, 2), (117, .iload 6, 2), (119, .imul, 1), (120, .iload 7, 2), (122, .iadd, 1), (123, .baload, 1), (124, .bastore, 1), (125, .iinc 7 1, 3), (128, .goto (-32), 3), (131, .iload 5, 2), (133, .ireturn, 1), (134, .iinc 5 1, 3), (137, .iinc 6 1, 3), (140, .goto (-101), 3), (143, .iconst (-1), 1), (144, .ireturn, 1)]
theorem mT_X5_fetch_ok : ix_tok cX5_fetch mT_X5_fetch = true := by decide +kernel
def mD_X5_fetch : ix_M := (5, yX5_fetch, cX5_fetch, 8, (some (.int)), 3, 0, mT_X5_fetch, 800, 798, 799)
def mT_X5_answer : ix_T := [(0, .iload_n 1, 1), (1, .ifCond .lt 11, 3), (4, .iload_n 1, 1), (5, .aload_n 0, 1), (6, .getfield 115, 3), (9, .if_icmp .lt 7, 3), (12, .iconst (-1), 1), (13, .goto 13, 3), (16, .aload_n 0, 1), (17, .getfield 70, 3), (20, .iload_n 1, 1), (21, .baload, 1), (22, .sipush 255, 3), (25, .iand, 1), (26, .ireturn, 1)]
theorem mT_X5_answer_ok : ix_tok cX5_answer mT_X5_answer = true := by decide +kernel
def mD_X5_answer : ix_M := (5, yX5_answer, cX5_answer, 2, (some (.int)), 1, 0, mT_X5_answer, 812, 810, 811)
def mT_X5_feed : ix_T := [(0, .iload_n 1, 1), (1, .iconst 1, 1), (2, .if_icmp .lt 20, 3), (5, .iload_n 1, 1), (6, .bipush 16, 2), (8, .if_icmp .gt 14, 3), (11, .aload_n 0, 1), (12, .getfield 168, 3), (15, .iload_n 1, 1), (16, .iadd, 1), (17, .bipush 40, 2), (19, .if_icmp .le 5, 3), (22, .iconst (-1), 1), (23, .ireturn, 1), (24, .iconst 0, 1), (25, .istore 6, 2), (27, .iload 6, 2), (29, .iload_n 1, 1), (30, .if_icmp .ge 52, 3), (33, .aload_n 0, 1), (34, .getfield 67, 3), (37, .aload_n 0, 1), (38, .getfield 168, 3), (41, .iload 6, 2), (43, .bipush 8, 2), (45, .if_icmp .ge 7, 3), (48, .lload_n 2, 1), (49, .goto 5, 3), (52, .lload 4, 2), (54, .bipush 8, 2), (56, .iload 6, 2), (58, .bipush 8, 2), (60, .irem, 1), (61, .imul, 1), (62, .lshr, 1), (63, .l2i, 1), (64, .i2b, 1), (65, .bastore, 1), (66, .aload_n 0, 1), (67, .dup, 1), (68, .getfield 168, 3), (71, .iconst 1, 1), (72, .iadd, 1), (73, .putfield 168, 3), (76, .iinc 6 1, 3), (79, .goto (-52), 3), (82, .aload_n 0, 1), (83, .getfield 168, 3), (86, .ireturn, 1)]
theorem mT_X5_feed_ok : ix_tok cX5_feed mT_X5_feed = true := by decide +kernel
def mD_X5_feed : ix_M := (5, yX5_feed, cX5_feed, 7, (some (.int)), 3, 0, mT_X5_feed, 816, 814, 815)
def mT_X5_sync : ix_T := [(0, .aload_n 0, 1), (1, .getfield 99, 3), (4, .ifCond .eq 5, 3), (7, .iconst (-1), 1), (8, .ireturn, 1), (9, .aload_n 0, 1), (10, .invokevirtual 199, 3), (13, .istore_n 1, 1), (14, .aload_n 0, 1), (15, .aload_n 0, 1), (16, .getfield 106, 3), (19, .putfield 109, 3), (22, .iload_n 1, 1), (23, .ireturn, 1)]
theorem mT_X5_sync_ok : ix_tok cX5_sync mT_X5_sync = true := by decide +kernel
def mD_X5_sync : ix_M := (5, yX5_sync, cX5_sync, 2, (some (.int)), 0, 0, mT_X5_sync, 820, 818, 819)
def mT_X5_crash : ix_T := [(0, .aload_n 0, 1), (1, .getfield 99, 3), (4, .ifCond .eq 5, 3), (7, .iconst (-1), 1), (8, .ireturn, 1), (9, .aload_n 0, 1), (10, .invokevirtual 199, 3), (13, .istore_n 2, 1), (14, .iload_n 1, 1), (15, .ifCond .lt 8, 3), (18, .iload_n 1, 1), (19, .iload_n 2, 1), (20, .if_icmp .le 6, 3), (23, .bipush (-2), 2), (25, .ireturn, 1), (26, .iload_n 1, 1), (27, .istore_n 3, 1), (28, .aload_n 0, 1), (29, .getfield 109, 3), (32, .istore 4, 2), (34, .iload 4, 2), (36, .aload_n 0, 1), (37, .getfield 106, 3), (40, .if_icmp .ge 28, 3), (43, .aload_n 0, 1), (44, .iload 4, 2), (46, .invokevirtual 121, 3), (49, .iload_n 3, 1), (50, .if_icmp .gt 18, 3), (53, .iload_n 3, 1), (54, .aload_n 0, 1), (55, .iload 4, 2), (57, .invokevirtual 121, 3), (60, .isub, 1), (61, .istore_n 3, 1), (62, .iinc 4 1, 3), (65, .goto (-31), 3), (68, .aload_n 0, 1), (69, .iload 4, 2), (71, .putfield 106, 3), (74, .aload_n 0, 1), (75, .iload 4, 2), (77, .putfield 109, 3), (80, .aload_n 0, 1), (81, .iload_n 3, 1), (82, .putfield 112, 3), (85, .aload_n 0, 1), (86, .iconst 1, 1), (87, .putfield 99, 3), (90, .aload_n 0, 1), (91, .invokevirtual 118, 3), (94, .iload_n 2, 1), (95, .iload_n 1, 1), (96, .isub, 1), (97, .ireturn, 1)]
theorem mT_X5_crash_ok : ix_tok cX5_crash mT_X5_crash = true := by decide +kernel
def mD_X5_crash : ix_M := (5, yX5_crash, cX5_crash, 5, (some (.int)), 1, 0, mT_X5_crash, 828, 826, 827)
def mT_X5_tells : ix_T := [(0, .aload_n 0, 1), (1, .getfield 16, 3), (4, .iload_n 1, 1), (5, .iaload, 1), (6, .istore_n 2, 1), (7, .aload_n 0, 1), (8, .getfield 13, 3), (11, .iload_n 1, 1), (12, .iaload, 1), (13, .tableswitch 183 0 5 #[39, 61, 81, 101, 126, 155], 39), (52, .aload_n 0, 1), (53, .getfield 36, 3), (56, .iload_n 2, 1), (57, .iconst 1, 1), (58, .bastore, 1), (59, .aload_n 0, 1), (60, .getfield 40, 3), (63, .iload_n 2, 1), (64, .aload_n 0, 1), (65, .getfield 19, 3), (68, .iload_n 1, 1), (69, .iaload, 1), (70, .iastore, 1), (71, .goto 142, 3), (74, .aload_n 0, 1), (75, .iload_n 2, 1), (76, .aload_n 0, 1), (77, .getfield 25, 3), (80, .iload_n 1, 1), (81, .iaload, 1), (82, .aload_n 0, 1), (83, .getfield 22, 3), (86, .iload_n 1, 1), (87, .iaload, 1), (88, .invokevirtual 161, 3), (91, .goto 122, 3), (94, .aload_n 0, 1), (95, .getfield 49, 3), (98, .iload_n 2, 1), (99, .dup2, 1), (100, .iaload, 1), (101, .iconst 1, 1), (102, .aload_n 0, 1), (103, .getfield 22, 3), (106, .iload_n 1, 1), (107, .iaload, 1), (108, .ishl, 1), (109, .ior, 1), (110, .iastore, 1), (111, .goto 102, 3), (114, .aload_n 0, 1), (115, .aload_n 0, 1), (116, .getfield 43, 3), (119, .iload_n 2, 1), (120, .iaload, 1), (121, .aload_n 0, 1), (122, .getfield 22, 3), (125, .iload_n 1, 1), (126, .iaload, 1), (127, .aload_n 0, 1), (128, .getfield 25, 3), (131, .iload_n 1, 1), (132, .iaload, 1), (133, .invokevirtual 188, 3), (136, .goto 77, 3), (139, .aload_n 0, 1), (140, .getfield 73, 3), (143, .aload_n 0, 1), (144, .getfield 25, 3), (147, .iload_n 1, 1), (148, .iaload, 1), (149, .aload_n 0, 1), (150, .getfield 22, 3), (153, .iload_n 1, 1), (154, .iaload, 1), (155, .iconst 1, 1), (156, .if_icmp .ne 7, 3), (159, .iconst 1, 1), (160, .goto 4, 3), (163, .iconst 2, 1), (164, .iastore, 1), (165, .goto 48, 3), (168, .aload_n 0, 1), (169, .iload_n 2, 1), (170, .aload_n 0, 1), (171, .getfield 73, 3), (174, .aload_n 0, 1), (175, .getfield 25, 3), (178, .iload_n 1, 1), (179, .iaload, 1), (180, .iaload, 1), (181, .iconst 1, 1), (182, .if_icmp .ne 7, 3), (185, .iconst 1, 1), (186, .goto 4, 3), (189, .iconst 0, 1), (190, .invokevirtual 133, 3), (193, .goto 20, 3), (196, .aload_n 0, 1), (197, .getfield 52, 3), (200, .aload_n 0, 1), (201, .getfield 22, 3), (204, .iload_n 1, 1), (205, .iaload, 1), (206, .aload_n 0, 1), (207, .getfield 25, 3), (210, .iload_n 1, 1), (211, .iaload, 1), (212, .iastore, 1), (213, .return_, 1)]
theorem mT_X5_tells_ok : ix_tok cX5_tells mT_X5_tells = true := by decide +kernel
def mD_X5_tells : ix_M := (5, yX5_tells, cX5_tells, 3, none, 1, 0, mT_X5_tells, 836, 835, 48)
def mT_X5_open : ix_T := [(0, .aload_n 0, 1), (1, .getfield 99, 3), (4, .ifCond .ne 5, 3), (7, .iconst (-1), 1), (8, .ireturn, 1), (9, .aload_n 0, 1), (10, .iconst 0, 1), (11, .putfield 99, 3), (14, .aload_n 0, 1), (15, .aload_n 0, 1), (16, .getfield 112, 3), (19, .putfield 103, 3), (22, .aload_n 0, 1), (23, .iconst 0, 1), (24, .putfield 112, 3), (27, .iconst 0, 1), (28, .istore_n 1, 1), (29, .iload_n 1, 1), (30, .sipush 1100, 3), (33, .if_icmp .ge 16, 3), (36, .aload_n 0, 1), (37, .getfield 73, 3), (40, .iload_n 1, 1), (41, .iconst 0, 1), (42, .iastore, 1), (43, .iinc 1 1, 3), (46, .goto (-17), 3), (49, .iconst 0, 1), (50, .istore_n 1, 1), (51, .iload_n 1, 1), (52, .aload_n 0, 1), (53, .getfield 106, 3), (56, .if_icmp .ge 27, 3), (59, .aload_n 0, 1), (60, .getfield 9, 3), (63, .iload_n 1, 1), (64, .iaload, 1), (65, .aload_n 0, 1), (66, .getfield 87, 3), (69, .if_icmp .ne 8, 3), (72, .aload_n 0, 1), (73, .iload_n 1, 1), (74, .invokevirtual 202, 3), (77, .iinc 1 1, 3), (80, .goto (-29), 3), (83, .iconst 0, 1), (84, .istore_n 1, 1), (85, .iconst 0, 1), (86, .istore_n 2, 1), (87, .iload_n 2, 1), (88, .aload_n 0, 1), (89, .getfield 80, 3), (92, .if_icmp .ge 65, 3), (95, .iconst 0, 1), (96, .istore_n 3, 1), (97, .iload_n 3, 1), (98, .bipush 32, 2), (100, .if_icmp .ge 51, 3), (103, .aload_n 0, 1), (104, .getfield 43, 3), (107, .iload_n 3, 1), (108, .iaload, 1), (109, .iload_n 2, 1), (110, .if_icmp .ne 35, 3), (113, .aload_n 0, 1), (114, .getfield 73, 3), (117, .iload_n 2, 1), (118, .iaload, 1), (119, .ifCond .eq 26, 3), (122, .aload_n 0, 1), (123, .iload_n 3, 1), (124, .aload_n 0, 1), (125, .getfield 73, 3), (128, .iload_n 2, 1), (129, .iaload, 1), (130, .iconst 1, 1), (131, .if_icmp .ne 7, 3), (134, .iconst 1, 1), (135, .goto 4, 3), (138, .iconst 0, 1), (139, .invokevirtual 141, 3), (142, .iinc 1 1, 3), (145, .iinc 3 1, 3), (148, .goto (-51), 3), (151, .iinc 2 1, 3), (154, .goto (-67), 3), (157, .iload_n 1, 1), (158, .ireturn, 1)]
theorem mT_X5_open_ok : ix_tok cX5_open mT_X5_open = true := by decide +kernel
def mD_X5_open : ix_M := (5, yX5_open, cX5_open, 4, (some (.int)), 0, 0, mT_X5_open, 832, 830, 831)
def mT_X5_partition : ix_T := [(0, .aload_n 0, 1), (1, .iload_n 1, 1), (2, .invokevirtual 185, 3), (5, .ifCond .ne 5, 3), (8, .iconst (-1), 1), (9, .ireturn, 1), (10, .iload_n 2, 1), (11, .tableswitch 110 0 5 #[37, 43, 60, 66, 76, 93], 37), (48, .aload_n 0, 1), (49, .iload_n 1, 1), (50, .invokevirtual 205, 3), (53, .ireturn, 1), (54, .aload_n 0, 1), (55, .getfield 99, 3), (58, .ifCond .eq 7, 3), (61, .iconst (-1), 1), (62, .goto 8, 3), (65, .aload_n 0, 1), (66, .iload_n 1, 1), (67, .invokevirtual 192, 3), (70, .ireturn, 1), (71, .aload_n 0, 1), (72, .iload_n 1, 1), (73, .invokevirtual 208, 3), (76, .ireturn, 1), (77, .aload_n 0, 1), (78, .iload_n 1, 1), (79, .aload_n 0, 1), (80, .getfield 109, 3), (83, .invokevirtual 125, 3), (86, .ireturn, 1), (87, .aload_n 0, 1), (88, .getfield 99, 3), (91, .ifCond .eq 7, 3), (94, .iconst (-1), 1), (95, .goto 8, 3), (98, .aload_n 0, 1), (99, .iload_n 1, 1), (100, .invokevirtual 211, 3), (103, .ireturn, 1), (104, .aload_n 0, 1), (105, .getfield 99, 3), (108, .ifCond .eq 7, 3), (111, .iconst (-1), 1), (112, .goto 8, 3), (115, .aload_n 0, 1), (116, .iload_n 1, 1), (117, .invokevirtual 178, 3), (120, .ireturn, 1), (121, .iconst (-1), 1), (122, .ireturn, 1)]
theorem mT_X5_partition_ok : ix_tok cX5_partition mT_X5_partition = true := by decide +kernel
def mD_X5_partition : ix_M := (5, yX5_partition, cX5_partition, 3, (some (.int)), 2, 0, mT_X5_partition, 840, 838, 839)
def mT_X5_bytesOf : ix_T := [(0, .aload_n 0, 1), (1, .iload_n 1, 1), (2, .iconst 0, 1), (3, .invokevirtual 125, 3), (6, .aload_n 0, 1), (7, .getfield 112, 3), (10, .ifCond .le 23, 3), (13, .aload_n 0, 1), (14, .getfield 9, 3), (17, .aload_n 0, 1), (18, .getfield 106, 3), (21, .iaload, 1), (22, .iload_n 1, 1), (23, .if_icmp .ne 10, 3), (26, .aload_n 0, 1), (27, .getfield 112, 3), (30, .goto 4, 3), (33, .iconst 0, 1), (34, .iadd, 1), (35, .ireturn, 1)]
theorem mT_X5_bytesOf_ok : ix_tok cX5_bytesOf mT_X5_bytesOf = true := by decide +kernel
def mD_X5_bytesOf : ix_M := (5, yX5_bytesOf, cX5_bytesOf, 2, (some (.int)), 1, 0, mT_X5_bytesOf, 848, 847, 50)
def mT_X5_seenOf : ix_T := [(0, .aload_n 0, 1), (1, .iload_n 1, 1), (2, .invokevirtual 192, 3), (5, .istore_n 2, 1), (6, .iconst 0, 1), (7, .istore_n 3, 1), (8, .iconst 0, 1), (9, .istore 4, 2), (11, .iconst 0, 1), (12, .istore 5, 2), (14, .iload 5, 2), (16, .aload_n 0, 1), (17, .getfield 106, 3), (20, .if_icmp .ge 45, 3), (23, .aload_n 0, 1), (24, .getfield 9, 3), (27, .iload 5, 2), (29, .iaload, 1), (30, .iload_n 1, 1), (31, .if_icmp .ne 28, 3), (34, .iload 4, 2), (36, .aload_n 0, 1), (37, .iload 5, 2), (39, .iconst 1, 1), (40, .iload_n 3, 1), (41, .iload_n 2, 1), (42, .invokevirtual 195, 3), (45, .ifCond .eq 7, 3), (48, .iconst 1, 1), (49, .goto 4, 3), (52, .iconst 0, 1), (53, .iadd, 1), (54, .istore 4, 2), (56, .iinc 3 1, 3), (59, .iinc 5 1, 3), (62, .goto (-48), 3), (65, .iload 4, 2), (67, .ireturn, 1)]
theorem mT_X5_seenOf_ok : ix_tok cX5_seenOf mT_X5_seenOf = true := by decide +kernel
def mD_X5_seenOf : ix_M := (5, yX5_seenOf, cX5_seenOf, 6, (some (.int)), 1, 0, mT_X5_seenOf, 852, 851, 51)
def mT_X5_entry : ix_T := [(0, .aload_n 0, 1), (1, .iload_n 1, 1), (2, .invokevirtual 185, 3), (5, .ifCond .eq 7, 3), (8, .iload_n 2, 1), (9, .ifCond .ge 5, 3), (12, .iconst (-1), 1), (13, .ireturn, 1), (14, .iload_n 2, 1), (15, .istore 4, 2), (17, .iconst 0, 1), (18, .istore 5, 2), (20, .iload 5, 2), (22, .aload_n 0, 1), (23, .getfield 106, 3), (26, .if_icmp .ge 107, 3), (29, .aload_n 0, 1), (30, .getfield 9, 3), (33, .iload 5, 2), (35, .iaload, 1), (36, .iload_n 1, 1), (37, .if_icmp .eq 6, 3), (40, .goto 87, 3), (43, .iload 4, 2), (45, .ifCond .ne 79, 3), (48, .iload_n 3, 1), (49, .ifCond .ne 13, 3), (52, .aload_n 0, 1), (53, .getfield 13, 3), (56, .iload 5, 2), (58, .iaload, 1), (59, .goto 64, 3), (62, .iload_n 3, 1), (63, .iconst 1, 1), (64, .if_icmp .ne 13, 3), (67, .aload_n 0, 1), (68, .getfield 16, 3), (71, .iload 5, 2), (73, .iaload, 1), (74, .goto 49, 3), (77, .iload_n 3, 1), (78, .iconst 2, 1), (79, .if_icmp .ne 13, 3), (82, .aload_n 0, 1), (83, .getfield 19, 3), (86, .iload 5, 2), (88, .iaload, 1), (89, .goto 34, 3), (92, .iload_n 3, 1), (93, .iconst 3, 1), (94, .if_icmp .ne 13, 3), (97, .aload_n 0, 1), (98, .getfield 22, 3), (101, .iload 5, 2), (103, .iaload, 1), (104, .goto 19, 3), (107, .iload_n 3, 1), (108, .iconst 4, 1), (109, .if_icmp .ne 13, 3), (112, .aload_n 0, 1), (113, .getfield 25, 3), (116, .iload 5, 2), (118, .iaload, 1), (119, .goto 4, 3), (122, .iconst (-1), 1), (123, .ireturn, 1), (124, .iinc 4 (-1), 3), (127, .iinc 5 1, 3), (130, .goto (-110), 3), (133, .iconst (-1), 1), (134, .ireturn, 1)]
theorem mT_X5_entry_ok : ix_tok cX5_entry mT_X5_entry = true := by decide +kernel
def mD_X5_entry : ix_M := (5, yX5_entry, cX5_entry, 6, (some (.int)), 3, 0, mT_X5_entry, 856, 854, 855)
def mT_X5_producer : ix_T := [(0, .aload_n 0, 1), (1, .getfield 99, 3), (4, .ifCond .ne 22, 3), (7, .iload_n 1, 1), (8, .ifCond .lt 18, 3), (11, .iload_n 1, 1), (12, .bipush 31, 2), (14, .if_icmp .gt 12, 3), (17, .aload_n 0, 1), (18, .getfield 36, 3), (21, .iload_n 1, 1), (22, .baload, 1), (23, .ifCond .ne 5, 3), (26, .iconst (-1), 1), (27, .ireturn, 1), (28, .iload_n 2, 1), (29, .tableswitch 147 0 4 #[35, 42, 49, 70, 91], 35), (64, .aload_n 0, 1), (65, .getfield 40, 3), (68, .iload_n 1, 1), (69, .iaload, 1), (70, .ireturn, 1), (71, .aload_n 0, 1), (72, .getfield 43, 3), (75, .iload_n 1, 1), (76, .iaload, 1), (77, .ireturn, 1), (78, .aload_n 0, 1), (79, .getfield 43, 3), (82, .iload_n 1, 1), (83, .iaload, 1), (84, .iconst (-1), 1), (85, .if_icmp .ne 7, 3), (88, .iconst (-1), 1), (89, .goto 9, 3), (92, .aload_n 0, 1), (93, .getfield 46, 3), (96, .iload_n 1, 1), (97, .iaload, 1), (98, .ireturn, 1), (99, .aload_n 0, 1), (100, .getfield 43, 3), (103, .iload_n 1, 1), (104, .iaload, 1), (105, .iconst (-1), 1), (106, .if_icmp .ne 7, 3), (109, .iconst 0, 1), (110, .goto 9, 3), (113, .aload_n 0, 1), (114, .getfield 49, 3), (117, .iload_n 1, 1), (118, .iaload, 1), (119, .ireturn, 1), (120, .iconst 0, 1), (121, .istore_n 3, 1), (122, .iconst 0, 1), (123, .istore 4, 2), (125, .iload 4, 2), (127, .aload_n 0, 1), (128, .getfield 84, 3), (131, .if_icmp .ge 43, 3), (134, .aload_n 0, 1), (135, .getfield 43, 3), (138, .iload_n 1, 1), (139, .iaload, 1), (140, .iconst (-1), 1), (141, .if_icmp .eq 33, 3), (144, .iload_n 3, 1), (145, .aload_n 0, 1), (146, .getfield 58, 3), (149, .iload 4, 2), (151, .iaload, 1), (152, .aload_n 0, 1), (153, .getfield 43, 3), (156, .iload_n 1, 1), (157, .iaload, 1), (158, .if_icmp .ne 7, 3), (161, .iconst 1, 1), (162, .goto 4, 3), (165, .iconst 0, 1), (166, .iadd, 1), (167, .istore_n 3, 1), (168, .iinc 4 1, 3), (171, .goto (-46), 3), (174, .iload_n 3, 1), (175, .ireturn, 1), (176, .iconst (-1), 1), (177, .ireturn, 1)]
theorem mT_X5_producer_ok : ix_tok cX5_producer mT_X5_producer = true := by decide +kernel
def mD_X5_producer : ix_M := (5, yX5_producer, cX5_producer, 5, (some (.int)), 2, 0, mT_X5_producer, 860, 858, 859)
def mT_X5_next : ix_T := [(0, .aload_n 0, 1), (1, .getfield 99, 3), (4, .ifCond .ne 30, 3), (7, .iload_n 1, 1), (8, .ifCond .lt 26, 3), (11, .iload_n 1, 1), (12, .bipush 31, 2), (14, .if_icmp .gt 20, 3), (17, .aload_n 0, 1), (18, .getfield 36, 3), (21, .iload_n 1, 1), (22, .baload, 1), (23, .ifCond .eq 11, 3), (26, .aload_n 0, 1), (27, .iload_n 2, 1), (28, .invokevirtual 185, 3), (31, .ifCond .ne 7, 3), (34, .iconst (-1), 1), (35, .goto 9, 3), (38, .aload_n 0, 1), (39, .iload_n 1, 1), (40, .iload_n 2, 1), (41, .invokevirtual 175, 3), (44, .ireturn, 1)]
theorem mT_X5_next_ok : ix_tok cX5_next mT_X5_next = true := by decide +kernel
def mD_X5_next : ix_M := (5, yX5_next, cX5_next, 3, (some (.int)), 2, 0, mT_X5_next, 864, 862, 863)
def mT_X5_byteIn : ix_T := [(0, .iload_n 0, 1), (1, .bipush 8, 2), (3, .iload_n 1, 1), (4, .iconst 1, 1), (5, .isub, 1), (6, .iload_n 2, 1), (7, .isub, 1), (8, .imul, 1), (9, .ishr, 1), (10, .sipush 255, 3), (13, .iand, 1), (14, .ireturn, 1)]
theorem mT_X5_byteIn_ok : ix_tok cX5_byteIn mT_X5_byteIn = true := by decide +kernel
def mD_X5_byteIn : ix_M := (5, yX5_byteIn, cX5_byteIn, 3, (some (.int)), 3, 1, mT_X5_byteIn, 879, 878, 878)
def mT_X5_behind : ix_T := [(0, .aload_n 0, 1), (1, .getfield 9, 3), (4, .iload_n 1, 1), (5, .iaload, 1), (6, .aload_n 0, 1), (7, .getfield 87, 3), (10, .if_icmp .ne 92, 3), (13, .iload_n 2, 1), (14, .iconst 4, 1), (15, .if_icmp .ne 12, 3), (18, .aload_n 0, 1), (19, .getfield 13, 3), (22, .iload_n 1, 1), (23, .iaload, 1), (24, .goto 77, 3), (27, .iload_n 2, 1), (28, .iconst 5, 1), (29, .if_icmp .ne 12, 3), (32, .aload_n 0, 1), (33, .getfield 16, 3), (36, .iload_n 1, 1), (37, .iaload, 1), (38, .goto 63, 3), (41, .iload_n 2, 1), (42, .bipush 8, 2), (44, .if_icmp .ge 20, 3), (47, .aload_n 0, 1), (48, .getfield 19, 3), (51, .iload_n 1, 1), (52, .iaload, 1), (53, .iconst 2, 1), (54, .iload_n 2, 1), (55, .bipush 6, 2), (57, .isub, 1), (58, .invokestatic 214, 3), (61, .goto 40, 3), (64, .iload_n 2, 1), (65, .bipush 12, 2), (67, .if_icmp .ge 20, 3), (70, .aload_n 0, 1), (71, .getfield 22, 3), (74, .iload_n 1, 1), (75, .iaload, 1), (76, .iconst 4, 1), (77, .iload_n 2, 1), (78, .bipush 8, 2), (80, .isub, 1), (81, .invokestatic 214, 3), (84, .goto 17, 3), (87, .aload_n 0, 1), (88, .getfield 25, 3), (91, .iload_n 1, 1), (92, .iaload, 1), (93, .iconst 4, 1), (94, .iload_n 2, 1), (95, .bipush 12, 2), (97, .isub, 1), (98, .invokestatic 214, 3), (101, .ireturn, 1), (102, .iload_n 2, 1), (103, .bipush 6, 2), (105, .if_icmp .ge 17, 3), (108, .aload_n 0, 1), (109, .getfield 25, 3), (112, .iload_n 1, 1), (113, .iaload, 1), (114, .iconst 2, 1), (115, .iload_n 2, 1), (116, .iconst 4, 1), (117, .isub, 1), (118, .invokestatic 214, 3), (121, .ireturn, 1), (122, .iload_n 2, 1), (123, .bipush 8, 2), (125, .if_icmp .ge 25, 3), (128, .iload_n 2, 1), (129, .bipush 6, 2), (131, .if_icmp .ne 12, 3), (134, .aload_n 0, 1), (135, .getfield 13, 3), (138, .iload_n 1, 1), (139, .iaload, 1), (140, .goto 9, 3), (143, .aload_n 0, 1), (144, .getfield 16, 3), (147, .iload_n 1, 1), (148, .iaload, 1), (149, .ireturn, 1), (150, .iload_n 2, 1), (151, .bipush 10, 2), (153, .if_icmp .ge 20, 3), (156, .aload_n 0, 1), (157, .getfield 19, 3), (160, .iload_n 1, 1), (161, .iaload, 1), (162, .iconst 2, 1), (163, .iload_n 2, 1), (164, .bipush 8, 2), (166, .isub, 1), (167, .invokestatic 214, 3), (170, .goto 44, 3), (173, .iload_n 2, 1), (174, .bipush 14, 2), (176, .if_icmp .ge 20, 3), (179, .aload_n 0, 1), (180, .getfield 22, 3), (183, .iload_n 1, 1), (184, .iaload, 1), (185, .iconst 4, 1), (186, .iload_n 2, 1), (187, .bipush 10, 2), (189, .isub, 1), (190, .invokestatic 214, 3), (193, .goto 21, 3), (196, .aload_n 0, 1), (197, .getfield 32, 3), (200, .bipush 40, 2), (202, .iload_n 1, 1), (203, .imul, 1), (204, .iload_n 2, 1), (205, .iadd, 1), (206, .bipush 14, 2), (208, .isub, 1), (209, .baload, 1), (210, .sipush 255, 3), (213, .iand, 1), (214, .ireturn, 1)]
theorem mT_X5_behind_ok : ix_tok cX5_behind mT_X5_behind = true := by decide +kernel
def mD_X5_behind : ix_M := (5, yX5_behind, cX5_behind, 3, (some (.int)), 2, 0, mT_X5_behind, 876, 875, 53)
def mT_X5_byteAt : ix_T := [(0, .iload_n 2, 1), (1, .iconst 4, 1), (2, .if_icmp .lt 10, 3), (5, .aload_n 0, 1), (6, .iload_n 1, 1), (7, .iload_n 2, 1), (8, .invokevirtual 217, 3), (11, .ireturn, 1), (12, .bipush 17, 2), (14, .istore_n 3, 1), (15, .iconst 4, 1), (16, .istore 4, 2), (18, .iload 4, 2), (20, .aload_n 0, 1), (21, .iload_n 1, 1), (22, .invokevirtual 121, 3), (25, .if_icmp .ge 22, 3), (28, .iload_n 3, 1), (29, .bipush 31, 2), (31, .imul, 1), (32, .aload_n 0, 1), (33, .iload_n 1, 1), (34, .iload 4, 2), (36, .invokevirtual 217, 3), (39, .iadd, 1), (40, .istore_n 3, 1), (41, .iinc 4 1, 3), (44, .goto (-26), 3), (47, .iload_n 3, 1), (48, .iconst 4, 1), (49, .iload_n 2, 1), (50, .invokestatic 214, 3), (53, .ireturn, 1)]
theorem mT_X5_byteAt_ok : ix_tok cX5_byteAt mT_X5_byteAt = true := by decide +kernel
def mD_X5_byteAt : ix_M := (5, yX5_byteAt, cX5_byteAt, 5, (some (.int)), 2, 0, mT_X5_byteAt, 872, 871, 52)
def mT_X5_byteOf : ix_T := [(0, .iload_n 1, 1), (1, .ifCond .lt 24, 3), (4, .iload_n 1, 1), (5, .aload_n 0, 1), (6, .getfield 87, 3), (9, .if_icmp .gt 16, 3), (12, .iload_n 2, 1), (13, .ifCond .lt 12, 3), (16, .iload_n 2, 1), (17, .aload_n 0, 1), (18, .iload_n 1, 1), (19, .invokevirtual 208, 3), (22, .if_icmp .lt 5, 3), (25, .iconst (-1), 1), (26, .ireturn, 1), (27, .iload_n 2, 1), (28, .istore_n 3, 1), (29, .iconst 0, 1), (30, .istore 4, 2), (32, .iload 4, 2), (34, .aload_n 0, 1), (35, .getfield 106, 3), (38, .if_icmp .ge 50, 3), (41, .aload_n 0, 1), (42, .getfield 9, 3), (45, .iload 4, 2), (47, .iaload, 1), (48, .iload_n 1, 1), (49, .if_icmp .eq 6, 3), (52, .goto 30, 3), (55, .iload_n 3, 1), (56, .aload_n 0, 1), (57, .iload 4, 2), (59, .invokevirtual 121, 3), (62, .if_icmp .ge 11, 3), (65, .aload_n 0, 1), (66, .iload 4, 2), (68, .iload_n 3, 1), (69, .invokevirtual 220, 3), (72, .ireturn, 1), (73, .iload_n 3, 1), (74, .aload_n 0, 1), (75, .iload 4, 2), (77, .invokevirtual 121, 3), (80, .isub, 1), (81, .istore_n 3, 1), (82, .iinc 4 1, 3), (85, .goto (-53), 3), (88, .aload_n 0, 1), (89, .aload_n 0, 1), (90, .getfield 106, 3), (93, .iload_n 3, 1), (94, .invokevirtual 220, 3), (97, .ireturn, 1)]
theorem mT_X5_byteOf_ok : ix_tok cX5_byteOf mT_X5_byteOf = true := by decide +kernel
def mD_X5_byteOf : ix_M := (5, yX5_byteOf, cX5_byteOf, 5, (some (.int)), 2, 0, mT_X5_byteOf, 868, 866, 867)
def mT_X5_count : ix_T := [(0, .iconst 0, 1), (1, .istore_n 2, 1), (2, .iconst 0, 1), (3, .istore_n 3, 1), (4, .iload_n 3, 1), (5, .bipush 32, 2), (7, .if_icmp .ge 26, 3), (10, .iload_n 2, 1), (11, .aload_n 0, 1), (12, .getfield 36, 3), (15, .iload_n 3, 1), (16, .baload, 1), (17, .ifCond .eq 7, 3), (20, .iconst 1, 1), (21, .goto 4, 3), (24, .iconst 0, 1), (25, .iadd, 1), (26, .istore_n 2, 1), (27, .iinc 3 1, 3), (30, .goto (-26), 3), (33, .iload_n 1, 1), (34, .tableswitch 164 0 11 #[62, 67, 72, 77, 82, 87, 96, 101, 114, 119, 132, 148], 62), (96, .aload_n 0, 1), (97, .getfield 87, 3), (100, .ireturn, 1), (101, .aload_n 0, 1), (102, .getfield 90, 3), (105, .ireturn, 1), (106, .aload_n 0, 1), (107, .getfield 93, 3), (110, .ireturn, 1), (111, .aload_n 0, 1), (112, .getfield 96, 3), (115, .ireturn, 1), (116, .aload_n 0, 1), (117, .invokevirtual 199, 3), (120, .ireturn, 1), (121, .aload_n 0, 1), (122, .aload_n 0, 1), (123, .getfield 87, 3), (126, .invokevirtual 208, 3), (129, .ireturn, 1), (130, .aload_n 0, 1), (131, .getfield 168, 3), (134, .ireturn, 1), (135, .aload_n 0, 1), (136, .getfield 99, 3), (139, .ifCond .eq 7, 3), (142, .iconst 1, 1), (143, .goto 4, 3), (146, .iconst 0, 1), (147, .ireturn, 1), (148, .aload_n 0, 1), (149, .getfield 103, 3), (152, .ireturn, 1), (153, .aload_n 0, 1), (154, .getfield 99, 3), (157, .ifCond .eq 7, 3), (160, .iconst (-1), 1), (161, .goto 4, 3), (164, .iload_n 2, 1), (165, .ireturn, 1), (166, .aload_n 0, 1), (167, .getfield 99, 3), (170, .ifCond .eq 7, 3), (173, .iconst (-1), 1), (174, .goto 7, 3), (177, .aload_n 0, 1), (178, .invokevirtual 147, 3), (181, .ireturn, 1), (182, .aload_n 0, 1), (183, .getfield 99, 3), (186, .ifCond .eq 7, 3), (189, .iconst (-1), 1), (190, .goto 7, 3), (193, .aload_n 0, 1), (194, .getfield 80, 3), (197, .ireturn, 1), (198, .iconst (-1), 1), (199, .ireturn, 1)]
theorem mT_X5_count_ok : ix_tok cX5_count mT_X5_count = true := by decide +kernel
def mD_X5_count : ix_M := (5, yX5_count, cX5_count, 4, (some (.int)), 1, 0, mT_X5_count, 883, 881, 882)
def mT_J7_fill_53178 : ix_T := [(0, .iconst 0, 1), (1, .istore_n 2, 1), (2, .aload_n 0, 1), (3, .arraylength, 1), (4, .istore_n 3, 1), (5, .iload_n 2, 1), (6, .iload_n 3, 1), (7, .if_icmp .ge 13, 3), (10, .aload_n 0, 1), (11, .iload_n 2, 1), (12, .iload_n 1, 1), (13, .iastore, 1), (14, .iinc 2 1, 3), (17, .goto (-12), 3), (20, .return_, 1)]
theorem mT_J7_fill_53178_ok : ix_tok cJ7_fill_53178 mT_J7_fill_53178 = true := by decide +kernel
def mD_J7_fill_53178 : ix_M := (8, yJ7_fill_53178, cJ7_fill_53178, 4, none, 2, 1, mT_J7_fill_53178, 197, 196, 196)
def mT_L_law_0 : ix_T := [(0, .new 7, 3), (3, .dup, 1), (4, .invokespecial 9, 3), (7, .astore_n 1, 1), (8, .new 10, 3), (11, .dup, 1), (12, .invokespecial 12, 3), (15, .astore_n 2, 1), (16, .iconst 0, 1), (17, .istore_n 3, 1), (18, .iload_n 3, 1), (19, .aload_n 0, 1), (20, .arraylength, 1), (21, .bipush 6, 2), (23, .isub, 1), (24, .if_icmp .gt 945, 3), (27, .aload_n 0, 1), (28, .iload_n 3, 1), (29, .iaload, 1), (30, .bipush 31, 2), (32, .iand, 1), (33, .tableswitch 930 0 20 #[99, 142, 245, 268, 301, 380, 443, 502, 545, 578, 601, 660, 683, 696, 719, 732, 765, 808, 841, 874, 907], 99), (132, .aload_n 1, 1), (133, .aload_n 0, 1), (134, .iload_n 3, 1), (135, .iconst 1, 1), (136, .iadd, 1), (137, .iaload, 1), (138, .aload_n 0, 1), (139, .iload_n 3, 1), (140, .iconst 2, 1), (141, .iadd, 1), (142, .iaload, 1), (143, .aload_n 0, 1), (144, .iload_n 3, 1), (145, .iconst 3, 1), (146, .iadd, 1), (147, .iaload, 1), (148, .invokevirtual 13, 3), (151, .aload_n 2, 1)]
theorem mT_L_law_0_ok : ix_tok cL_law mT_L_law_0 = true := by decide +kernel
def mT_L_law_1 : ix_T := [(152, .aload_n 0, 1), (153, .iload_n 3, 1), (154, .iconst 1, 1), (155, .iadd, 1), (156, .iaload, 1), (157, .aload_n 0, 1), (158, .iload_n 3, 1), (159, .iconst 2, 1), (160, .iadd, 1), (161, .iaload, 1), (162, .aload_n 0, 1), (163, .iload_n 3, 1), (164, .iconst 3, 1), (165, .iadd, 1), (166, .iaload, 1), (167, .invokevirtual 17, 3), (170, .if_icmp .eq 793, 3), (173, .iconst 0, 1), (174, .ireturn, 1), (175, .aload_n 1, 1), (176, .aload_n 0, 1), (177, .iload_n 3, 1), (178, .iconst 1, 1), (179, .iadd, 1), (180, .iaload, 1), (181, .aload_n 0, 1), (182, .iload_n 3, 1), (183, .iconst 2, 1), (184, .iadd, 1), (185, .iaload, 1), (186, .i2l, 1), (187, .bipush 32, 2), (189, .lshl, 1), (190, .aload_n 0, 1), (191, .iload_n 3, 1), (192, .iconst 3, 1), (193, .iadd, 1), (194, .iaload, 1), (195, .i2l, 1), (196, .ldc2_w 18, 3)]
theorem mT_L_law_1_ok : ix_tok cL_law mT_L_law_1 = true := by decide +kernel
def mT_L_law_2 : ix_T := [(199, .land, 1), (200, .lor, 1), (201, .aload_n 0, 1), (202, .iload_n 3, 1), (203, .iconst 4, 1), (204, .iadd, 1), (205, .iaload, 1), (206, .i2l, 1), (207, .bipush 32, 2), (209, .lshl, 1), (210, .aload_n 0, 1), (211, .iload_n 3, 1), (212, .iconst 5, 1), (213, .iadd, 1), (214, .iaload, 1), (215, .i2l, 1), (216, .ldc2_w 18, 3), (219, .land, 1), (220, .lor, 1), (221, .invokevirtual 20, 3), (224, .aload_n 2, 1), (225, .aload_n 0, 1), (226, .iload_n 3, 1), (227, .iconst 1, 1), (228, .iadd, 1), (229, .iaload, 1), (230, .aload_n 0, 1), (231, .iload_n 3, 1), (232, .iconst 2, 1), (233, .iadd, 1), (234, .iaload, 1), (235, .i2l, 1), (236, .bipush 32, 2), (238, .lshl, 1), (239, .aload_n 0, 1), (240, .iload_n 3, 1), (241, .iconst 3, 1), (242, .iadd, 1), (243, .iaload, 1), (244, .i2l, 1)]
theorem mT_L_law_2_ok : ix_tok cL_law mT_L_law_2 = true := by decide +kernel
def mT_L_law_3 : ix_T := [(245, .ldc2_w 18, 3), (248, .land, 1), (249, .lor, 1), (250, .aload_n 0, 1), (251, .iload_n 3, 1), (252, .iconst 4, 1), (253, .iadd, 1), (254, .iaload, 1), (255, .i2l, 1), (256, .bipush 32, 2), (258, .lshl, 1), (259, .aload_n 0, 1), (260, .iload_n 3, 1), (261, .iconst 5, 1), (262, .iadd, 1), (263, .iaload, 1), (264, .i2l, 1), (265, .ldc2_w 18, 3), (268, .land, 1), (269, .lor, 1), (270, .invokevirtual 24, 3), (273, .if_icmp .eq 690, 3), (276, .iconst 0, 1), (277, .ireturn, 1), (278, .aload_n 1, 1), (279, .aload_n 0, 1), (280, .iload_n 3, 1), (281, .iconst 1, 1), (282, .iadd, 1), (283, .iaload, 1), (284, .invokevirtual 25, 3), (287, .aload_n 2, 1), (288, .aload_n 0, 1), (289, .iload_n 3, 1), (290, .iconst 1, 1), (291, .iadd, 1), (292, .iaload, 1), (293, .invokevirtual 29, 3), (296, .if_icmp .eq 667, 3), (299, .iconst 0, 1)]
theorem mT_L_law_3_ok : ix_tok cL_law mT_L_law_3 = true := by decide +kernel
def mT_L_law_4 : ix_T := [(300, .ireturn, 1), (301, .aload_n 1, 1), (302, .aload_n 0, 1), (303, .iload_n 3, 1), (304, .iconst 1, 1), (305, .iadd, 1), (306, .iaload, 1), (307, .aload_n 0, 1), (308, .iload_n 3, 1), (309, .iconst 2, 1), (310, .iadd, 1), (311, .iaload, 1), (312, .invokevirtual 30, 3), (315, .aload_n 2, 1), (316, .aload_n 0, 1), (317, .iload_n 3, 1), (318, .iconst 1, 1), (319, .iadd, 1), (320, .iaload, 1), (321, .aload_n 0, 1), (322, .iload_n 3, 1), (323, .iconst 2, 1), (324, .iadd, 1), (325, .iaload, 1), (326, .invokevirtual 34, 3), (329, .if_icmp .eq 634, 3), (332, .iconst 0, 1), (333, .ireturn, 1), (334, .aload_n 1, 1), (335, .aload_n 0, 1), (336, .iload_n 3, 1), (337, .iconst 1, 1), (338, .iadd, 1), (339, .iaload, 1), (340, .aload_n 0, 1), (341, .iload_n 3, 1), (342, .iconst 2, 1), (343, .iadd, 1), (344, .iaload, 1), (345, .aload_n 0, 1)]
theorem mT_L_law_4_ok : ix_tok cL_law mT_L_law_4 = true := by decide +kernel
def mT_L_law_5 : ix_T := [(346, .iload_n 3, 1), (347, .iconst 3, 1), (348, .iadd, 1), (349, .iaload, 1), (350, .aload_n 0, 1), (351, .iload_n 3, 1), (352, .iconst 4, 1), (353, .iadd, 1), (354, .iaload, 1), (355, .aload_n 0, 1), (356, .iload_n 3, 1), (357, .iconst 5, 1), (358, .iadd, 1), (359, .iaload, 1), (360, .ifCond .eq 7, 3), (363, .iconst 1, 1), (364, .goto 4, 3), (367, .iconst 0, 1), (368, .invokevirtual 35, 3), (371, .aload_n 2, 1), (372, .aload_n 0, 1), (373, .iload_n 3, 1), (374, .iconst 1, 1), (375, .iadd, 1), (376, .iaload, 1), (377, .aload_n 0, 1), (378, .iload_n 3, 1), (379, .iconst 2, 1), (380, .iadd, 1), (381, .iaload, 1), (382, .aload_n 0, 1), (383, .iload_n 3, 1), (384, .iconst 3, 1), (385, .iadd, 1), (386, .iaload, 1), (387, .aload_n 0, 1), (388, .iload_n 3, 1), (389, .iconst 4, 1), (390, .iadd, 1), (391, .iaload, 1)]
theorem mT_L_law_5_ok : ix_tok cL_law mT_L_law_5 = true := by decide +kernel
def mT_L_law_6 : ix_T := [(392, .aload_n 0, 1), (393, .iload_n 3, 1), (394, .iconst 5, 1), (395, .iadd, 1), (396, .iaload, 1), (397, .ifCond .eq 7, 3), (400, .iconst 1, 1), (401, .goto 4, 3), (404, .iconst 0, 1), (405, .invokevirtual 39, 3), (408, .if_icmp .eq 555, 3), (411, .iconst 0, 1), (412, .ireturn, 1), (413, .aload_n 1, 1), (414, .aload_n 0, 1), (415, .iload_n 3, 1), (416, .iconst 1, 1), (417, .iadd, 1), (418, .iaload, 1), (419, .aload_n 0, 1), (420, .iload_n 3, 1), (421, .iconst 2, 1), (422, .iadd, 1), (423, .iaload, 1), (424, .aload_n 0, 1), (425, .iload_n 3, 1), (426, .iconst 3, 1), (427, .iadd, 1), (428, .iaload, 1), (429, .aload_n 0, 1), (430, .iload_n 3, 1), (431, .iconst 4, 1), (432, .iadd, 1), (433, .iaload, 1), (434, .aload_n 0, 1), (435, .iload_n 3, 1), (436, .iconst 5, 1), (437, .iadd, 1), (438, .iaload, 1), (439, .invokevirtual 40, 3)]
theorem mT_L_law_6_ok : ix_tok cL_law mT_L_law_6 = true := by decide +kernel
def mT_L_law_7 : ix_T := [(442, .aload_n 2, 1), (443, .aload_n 0, 1), (444, .iload_n 3, 1), (445, .iconst 1, 1), (446, .iadd, 1), (447, .iaload, 1), (448, .aload_n 0, 1), (449, .iload_n 3, 1), (450, .iconst 2, 1), (451, .iadd, 1), (452, .iaload, 1), (453, .aload_n 0, 1), (454, .iload_n 3, 1), (455, .iconst 3, 1), (456, .iadd, 1), (457, .iaload, 1), (458, .aload_n 0, 1), (459, .iload_n 3, 1), (460, .iconst 4, 1), (461, .iadd, 1), (462, .iaload, 1), (463, .aload_n 0, 1), (464, .iload_n 3, 1), (465, .iconst 5, 1), (466, .iadd, 1), (467, .iaload, 1), (468, .invokevirtual 44, 3), (471, .if_icmp .eq 492, 3), (474, .iconst 0, 1), (475, .ireturn, 1), (476, .aload_n 1, 1), (477, .aload_n 0, 1), (478, .iload_n 3, 1), (479, .iconst 1, 1), (480, .iadd, 1), (481, .iaload, 1), (482, .aload_n 0, 1), (483, .iload_n 3, 1), (484, .iconst 2, 1), (485, .iadd, 1)]
theorem mT_L_law_7_ok : ix_tok cL_law mT_L_law_7 = true := by decide +kernel
def mT_L_law_8 : ix_T := [(486, .iaload, 1), (487, .aload_n 0, 1), (488, .iload_n 3, 1), (489, .iconst 3, 1), (490, .iadd, 1), (491, .iaload, 1), (492, .ifCond .eq 7, 3), (495, .iconst 1, 1), (496, .goto 4, 3), (499, .iconst 0, 1), (500, .invokevirtual 45, 3), (503, .aload_n 2, 1), (504, .aload_n 0, 1), (505, .iload_n 3, 1), (506, .iconst 1, 1), (507, .iadd, 1), (508, .iaload, 1), (509, .aload_n 0, 1), (510, .iload_n 3, 1), (511, .iconst 2, 1), (512, .iadd, 1), (513, .iaload, 1), (514, .aload_n 0, 1), (515, .iload_n 3, 1), (516, .iconst 3, 1), (517, .iadd, 1), (518, .iaload, 1), (519, .ifCond .eq 7, 3), (522, .iconst 1, 1), (523, .goto 4, 3), (526, .iconst 0, 1), (527, .invokevirtual 49, 3), (530, .if_icmp .eq 433, 3), (533, .iconst 0, 1), (534, .ireturn, 1), (535, .aload_n 1, 1), (536, .aload_n 0, 1), (537, .iload_n 3, 1), (538, .iconst 1, 1), (539, .iadd, 1)]
theorem mT_L_law_8_ok : ix_tok cL_law mT_L_law_8 = true := by decide +kernel
def mT_L_law_9 : ix_T := [(540, .iaload, 1), (541, .aload_n 0, 1), (542, .iload_n 3, 1), (543, .iconst 2, 1), (544, .iadd, 1), (545, .iaload, 1), (546, .aload_n 0, 1), (547, .iload_n 3, 1), (548, .iconst 3, 1), (549, .iadd, 1), (550, .iaload, 1), (551, .invokevirtual 50, 3), (554, .aload_n 2, 1), (555, .aload_n 0, 1), (556, .iload_n 3, 1), (557, .iconst 1, 1), (558, .iadd, 1), (559, .iaload, 1), (560, .aload_n 0, 1), (561, .iload_n 3, 1), (562, .iconst 2, 1), (563, .iadd, 1), (564, .iaload, 1), (565, .aload_n 0, 1), (566, .iload_n 3, 1), (567, .iconst 3, 1), (568, .iadd, 1), (569, .iaload, 1), (570, .invokevirtual 54, 3), (573, .if_icmp .eq 390, 3), (576, .iconst 0, 1), (577, .ireturn, 1), (578, .aload_n 1, 1), (579, .aload_n 0, 1), (580, .iload_n 3, 1), (581, .iconst 1, 1), (582, .iadd, 1), (583, .iaload, 1), (584, .aload_n 0, 1), (585, .iload_n 3, 1)]
theorem mT_L_law_9_ok : ix_tok cL_law mT_L_law_9 = true := by decide +kernel
def mT_L_law_10 : ix_T := [(586, .iconst 2, 1), (587, .iadd, 1), (588, .iaload, 1), (589, .invokevirtual 55, 3), (592, .aload_n 2, 1), (593, .aload_n 0, 1), (594, .iload_n 3, 1), (595, .iconst 1, 1), (596, .iadd, 1), (597, .iaload, 1), (598, .aload_n 0, 1), (599, .iload_n 3, 1), (600, .iconst 2, 1), (601, .iadd, 1), (602, .iaload, 1), (603, .invokevirtual 58, 3), (606, .if_icmp .eq 357, 3), (609, .iconst 0, 1), (610, .ireturn, 1), (611, .aload_n 1, 1), (612, .aload_n 0, 1), (613, .iload_n 3, 1), (614, .iconst 1, 1), (615, .iadd, 1), (616, .iaload, 1), (617, .invokevirtual 59, 3), (620, .aload_n 2, 1), (621, .aload_n 0, 1), (622, .iload_n 3, 1), (623, .iconst 1, 1), (624, .iadd, 1), (625, .iaload, 1), (626, .invokevirtual 62, 3), (629, .if_icmp .eq 334, 3), (632, .iconst 0, 1), (633, .ireturn, 1), (634, .aload_n 1, 1), (635, .aload_n 0, 1), (636, .iload_n 3, 1), (637, .iconst 1, 1)]
theorem mT_L_law_10_ok : ix_tok cL_law mT_L_law_10 = true := by decide +kernel
def mT_L_law_11 : ix_T := [(638, .iadd, 1), (639, .iaload, 1), (640, .aload_n 0, 1), (641, .iload_n 3, 1), (642, .iconst 2, 1), (643, .iadd, 1), (644, .iaload, 1), (645, .aload_n 0, 1), (646, .iload_n 3, 1), (647, .iconst 3, 1), (648, .iadd, 1), (649, .iaload, 1), (650, .ifCond .eq 7, 3), (653, .iconst 1, 1), (654, .goto 4, 3), (657, .iconst 0, 1), (658, .invokevirtual 63, 3), (661, .aload_n 2, 1), (662, .aload_n 0, 1), (663, .iload_n 3, 1), (664, .iconst 1, 1), (665, .iadd, 1), (666, .iaload, 1), (667, .aload_n 0, 1), (668, .iload_n 3, 1), (669, .iconst 2, 1), (670, .iadd, 1), (671, .iaload, 1), (672, .aload_n 0, 1), (673, .iload_n 3, 1), (674, .iconst 3, 1), (675, .iadd, 1), (676, .iaload, 1), (677, .ifCond .eq 7, 3), (680, .iconst 1, 1), (681, .goto 4, 3), (684, .iconst 0, 1), (685, .invokevirtual 66, 3), (688, .if_icmp .eq 275, 3), (691, .iconst 0, 1)]
theorem mT_L_law_11_ok : ix_tok cL_law mT_L_law_11 = true := by decide +kernel
def mT_L_law_12 : ix_T := [(692, .ireturn, 1), (693, .aload_n 1, 1), (694, .aload_n 0, 1), (695, .iload_n 3, 1), (696, .iconst 1, 1), (697, .iadd, 1), (698, .iaload, 1), (699, .invokevirtual 67, 3), (702, .aload_n 2, 1), (703, .aload_n 0, 1), (704, .iload_n 3, 1), (705, .iconst 1, 1), (706, .iadd, 1), (707, .iaload, 1), (708, .invokevirtual 70, 3), (711, .if_icmp .eq 252, 3), (714, .iconst 0, 1), (715, .ireturn, 1), (716, .aload_n 1, 1), (717, .invokevirtual 71, 3), (720, .aload_n 2, 1), (721, .invokevirtual 75, 3), (724, .if_icmp .eq 239, 3), (727, .iconst 0, 1), (728, .ireturn, 1), (729, .aload_n 1, 1), (730, .aload_n 0, 1), (731, .iload_n 3, 1), (732, .iconst 1, 1), (733, .iadd, 1), (734, .iaload, 1), (735, .invokevirtual 76, 3), (738, .aload_n 2, 1), (739, .aload_n 0, 1), (740, .iload_n 3, 1), (741, .iconst 1, 1), (742, .iadd, 1), (743, .iaload, 1), (744, .invokevirtual 79, 3), (747, .if_icmp .eq 216, 3)]
theorem mT_L_law_12_ok : ix_tok cL_law mT_L_law_12 = true := by decide +kernel
def mT_L_law_13 : ix_T := [(750, .iconst 0, 1), (751, .ireturn, 1), (752, .aload_n 1, 1), (753, .invokevirtual 80, 3), (756, .aload_n 2, 1), (757, .invokevirtual 83, 3), (760, .if_icmp .eq 203, 3), (763, .iconst 0, 1), (764, .ireturn, 1), (765, .aload_n 1, 1), (766, .aload_n 0, 1), (767, .iload_n 3, 1), (768, .iconst 1, 1), (769, .iadd, 1), (770, .iaload, 1), (771, .aload_n 0, 1), (772, .iload_n 3, 1), (773, .iconst 2, 1), (774, .iadd, 1), (775, .iaload, 1), (776, .invokevirtual 84, 3), (779, .aload_n 2, 1), (780, .aload_n 0, 1), (781, .iload_n 3, 1), (782, .iconst 1, 1), (783, .iadd, 1), (784, .iaload, 1), (785, .aload_n 0, 1), (786, .iload_n 3, 1), (787, .iconst 2, 1), (788, .iadd, 1), (789, .iaload, 1), (790, .invokevirtual 87, 3), (793, .if_icmp .eq 170, 3), (796, .iconst 0, 1), (797, .ireturn, 1), (798, .aload_n 1, 1), (799, .aload_n 0, 1), (800, .iload_n 3, 1), (801, .iconst 1, 1)]
theorem mT_L_law_13_ok : ix_tok cL_law mT_L_law_13 = true := by decide +kernel
def mT_L_law_14 : ix_T := [(802, .iadd, 1), (803, .iaload, 1), (804, .aload_n 0, 1), (805, .iload_n 3, 1), (806, .iconst 2, 1), (807, .iadd, 1), (808, .iaload, 1), (809, .aload_n 0, 1), (810, .iload_n 3, 1), (811, .iconst 3, 1), (812, .iadd, 1), (813, .iaload, 1), (814, .invokevirtual 88, 3), (817, .aload_n 2, 1), (818, .aload_n 0, 1), (819, .iload_n 3, 1), (820, .iconst 1, 1), (821, .iadd, 1), (822, .iaload, 1), (823, .aload_n 0, 1), (824, .iload_n 3, 1), (825, .iconst 2, 1), (826, .iadd, 1), (827, .iaload, 1), (828, .aload_n 0, 1), (829, .iload_n 3, 1), (830, .iconst 3, 1), (831, .iadd, 1), (832, .iaload, 1), (833, .invokevirtual 91, 3), (836, .if_icmp .eq 127, 3), (839, .iconst 0, 1), (840, .ireturn, 1), (841, .aload_n 1, 1), (842, .aload_n 0, 1), (843, .iload_n 3, 1), (844, .iconst 1, 1), (845, .iadd, 1), (846, .iaload, 1), (847, .aload_n 0, 1)]
theorem mT_L_law_14_ok : ix_tok cL_law mT_L_law_14 = true := by decide +kernel
def mT_L_law_15 : ix_T := [(848, .iload_n 3, 1), (849, .iconst 2, 1), (850, .iadd, 1), (851, .iaload, 1), (852, .invokevirtual 92, 3), (855, .aload_n 2, 1), (856, .aload_n 0, 1), (857, .iload_n 3, 1), (858, .iconst 1, 1), (859, .iadd, 1), (860, .iaload, 1), (861, .aload_n 0, 1), (862, .iload_n 3, 1), (863, .iconst 2, 1), (864, .iadd, 1), (865, .iaload, 1), (866, .invokevirtual 95, 3), (869, .if_icmp .eq 94, 3), (872, .iconst 0, 1), (873, .ireturn, 1), (874, .aload_n 1, 1), (875, .aload_n 0, 1), (876, .iload_n 3, 1), (877, .iconst 1, 1), (878, .iadd, 1), (879, .iaload, 1), (880, .aload_n 0, 1), (881, .iload_n 3, 1), (882, .iconst 2, 1), (883, .iadd, 1), (884, .iaload, 1), (885, .invokevirtual 96, 3), (888, .aload_n 2, 1), (889, .aload_n 0, 1), (890, .iload_n 3, 1), (891, .iconst 1, 1), (892, .iadd, 1), (893, .iaload, 1), (894, .aload_n 0, 1), (895, .iload_n 3, 1)]
theorem mT_L_law_15_ok : ix_tok cL_law mT_L_law_15 = true := by decide +kernel
def mT_L_law_16 : ix_T := [(896, .iconst 2, 1), (897, .iadd, 1), (898, .iaload, 1), (899, .invokevirtual 99, 3), (902, .if_icmp .eq 61, 3), (905, .iconst 0, 1), (906, .ireturn, 1), (907, .aload_n 1, 1), (908, .aload_n 0, 1), (909, .iload_n 3, 1), (910, .iconst 1, 1), (911, .iadd, 1), (912, .iaload, 1), (913, .aload_n 0, 1), (914, .iload_n 3, 1), (915, .iconst 2, 1), (916, .iadd, 1), (917, .iaload, 1), (918, .invokevirtual 100, 3), (921, .aload_n 2, 1), (922, .aload_n 0, 1), (923, .iload_n 3, 1), (924, .iconst 1, 1), (925, .iadd, 1), (926, .iaload, 1), (927, .aload_n 0, 1), (928, .iload_n 3, 1), (929, .iconst 2, 1), (930, .iadd, 1), (931, .iaload, 1), (932, .invokevirtual 103, 3), (935, .if_icmp .eq 28, 3), (938, .iconst 0, 1), (939, .ireturn, 1), (940, .aload_n 1, 1), (941, .aload_n 0, 1), (942, .iload_n 3, 1), (943, .iconst 1, 1), (944, .iadd, 1), (945, .iaload, 1)]
theorem mT_L_law_16_ok : ix_tok cL_law mT_L_law_16 = true := by decide +kernel
def mT_L_law_17 : ix_T := [(946, .invokevirtual 104, 3), (949, .aload_n 2, 1), (950, .aload_n 0, 1), (951, .iload_n 3, 1), (952, .iconst 1, 1), (953, .iadd, 1), (954, .iaload, 1), (955, .invokevirtual 107, 3), (958, .if_icmp .eq 5, 3), (961, .iconst 0, 1), (962, .ireturn, 1), (963, .iinc 3 6, 3), (966, .goto (-948), 3), (969, .iconst 1, 1), (970, .ireturn, 1)]
theorem mT_L_law_17_ok : ix_tok cL_law mT_L_law_17 = true := by decide +kernel
def mT_L_law : ix_T := mT_L_law_0 ++ mT_L_law_1 ++ mT_L_law_2 ++ mT_L_law_3 ++ mT_L_law_4 ++ mT_L_law_5 ++ mT_L_law_6 ++ mT_L_law_7 ++ mT_L_law_8 ++ mT_L_law_9 ++ mT_L_law_10 ++ mT_L_law_11 ++ mT_L_law_12 ++ mT_L_law_13 ++ mT_L_law_14 ++ mT_L_law_15 ++ mT_L_law_16 ++ mT_L_law_17
theorem mT_L_law_ok : ix_tok cL_law mT_L_law = true := by simp only [mT_L_law, ix_tok, List.all_append, Bool.and_eq_true]; exact ⟨⟨⟨⟨⟨⟨⟨⟨⟨⟨⟨⟨⟨⟨⟨⟨⟨mT_L_law_0_ok, mT_L_law_1_ok⟩, mT_L_law_2_ok⟩, mT_L_law_3_ok⟩, mT_L_law_4_ok⟩, mT_L_law_5_ok⟩, mT_L_law_6_ok⟩, mT_L_law_7_ok⟩, mT_L_law_8_ok⟩, mT_L_law_9_ok⟩, mT_L_law_10_ok⟩, mT_L_law_11_ok⟩, mT_L_law_12_ok⟩, mT_L_law_13_ok⟩, mT_L_law_14_ok⟩, mT_L_law_15_ok⟩, mT_L_law_16_ok⟩, mT_L_law_17_ok⟩
def mNs : List ix_M := [mD_X0_init, mD_X0_clear, mD_X0_cutTo, mD_X0_at, mD_X0_add, mD_X0_addNumber, mD_X0_number, mD_X0_seal, mD_X1_init, mD_X1_clear, mD_X1_append, mD_X1_has, mD_X1_startOf, mD_X1_field, mD_X1_kindOf, mD_X1_isSeen, mD_X1_dropBroken, mD_X1_cutBroken, mD_X1_isSentBy, mD_X1_nextOf, mD_X1_offsetOfRecent, mD_X1_hasEndOf, mD_X1_stable, mD_X1_committedEntries, mD_X1_firstCommitted, mD_X1_firstSeen, mD_X1_copyPayload, mD_X2_init, mD_X2_forget, mD_X2_openTransaction, mD_X2_closeTransaction, mD_X2_isOpen, mD_X2_hasAdded, mD_X3_init, mD_X3_clear, mD_X3_note, mD_X3_bytesOf, mD_X3_keptOf, mD_X4_init, mD_X4_format, mD_X4_feed, mD_X4_register, mD_X4_begin, mD_X4_send, mD_X4_later, mD_X4_end, mD_X4_mark, mD_X4_marked, mD_X4_tick, mD_X4_fetch, mD_X4_answer, mD_X4_sync, mD_X4_crash, mD_X4_open, mD_X4_partition, mD_X4_entry, mD_X4_producer, mD_X4_next, mD_X4_byteOf, mD_X4_count, mD_X4_build, mD_X4_forget, mD_X4_isKey, mD_X4_isRegistered, mD_X4_isPartition, mD_X4_isPlace, mD_X4_placeOf, mD_X4_rowOf, mD_X4_refusalOf, mD_X4_takeSent, mD_X4_logHasRoom, mD_X4_bookHasRoom, mD_X4_registeredProducers, mD_X4_openTransactions, mD_X4_openThatAdded, mD_X4_writeToLog, mD_X4_writeToBook, mD_X4_learn, mD_X4_markLaters, mD_X4_setMark, mD_X4_raiseEpoch, mD_X4_decide, mD_X4_finish, mD_X4_endOverdue, mD_X4_finishDecided, mD_X4_firstToEnd, mD_X5_init, mD_X5_forgets, mD_X5_format, mD_X5_sizeOf, mD_X5_bytesFrom, mD_X5_unsynced, mD_X5_add, mD_X5_opened, mD_X5_openedAt, mD_X5_bookHas, mD_X5_refused, mD_X5_registers, mD_X5_marksOf, mD_X5_finishes, mD_X5_closes, mD_X5_ends, mD_X5_register, mD_X5_begins, mD_X5_begin, mD_X5_offsetOf, mD_X5_nextOf, mD_X5_again, mD_X5_send, mD_X5_isGroup, mD_X5_isPartition, mD_X5_later, mD_X5_later_, mD_X5_end, mD_X5_mark, mD_X5_marked, mD_X5_tick, mD_X5_manyOf, mD_X5_stable, mD_X5_isSeen, mD_X5_fetch, mD_X5_answer, mD_X5_feed, mD_X5_sync, mD_X5_crash, mD_X5_tells, mD_X5_open, mD_X5_partition, mD_X5_bytesOf, mD_X5_seenOf, mD_X5_entry, mD_X5_producer, mD_X5_next, mD_X5_byteIn, mD_X5_behind, mD_X5_byteAt, mD_X5_byteOf, mD_X5_count, mD_J7_fill_53178]
/-- fields: class, pool, nest mate, class of the field, slot, place of the word -/
def ix_FT : List (Nat × Nat × Nat × Nat × Nat × Nat) := [(0, 15, 0, 0, 0, 80), (0, 21, 0, 0, 1, 81), (4, 56, 1, 0, 1, 82), (1, 38, 1, 0, 1, 83), (3, 9, 0, 3, 0, 98), (3, 15, 0, 3, 1, 99), (3, 18, 0, 3, 2, 100), (3, 21, 0, 3, 3, 101), (3, 25, 0, 3, 4, 102), (4, 142, 1, 3, 4, 103), (1, 14, 0, 1, 0, 125), (4, 186, 1, 1, 0, 126), (1, 20, 0, 1, 1, 127), (1, 24, 0, 1, 2, 128), (1, 28, 0, 1, 3, 129), (1, 34, 0, 1, 4, 130), (4, 180, 1, 1, 4, 131), (2, 9, 0, 2, 0, 149), (4, 88, 1, 2, 0, 150), (2, 18, 0, 2, 1, 151), (4, 205, 1, 2, 1, 152), (2, 21, 0, 2, 2, 153), (4, 208, 1, 2, 2, 154), (2, 24, 0, 2, 3, 155), (4, 277, 1, 2, 3, 156), (2, 27, 0, 2, 4, 157), (4, 211, 1, 2, 4, 158), (2, 30, 0, 2, 5, 159), (4, 214, 1, 2, 5, 160), (2, 33, 0, 2, 6, 161), (4, 274, 1, 2, 6, 162), (4, 14, 0, 4, 0, 211), (4, 18, 0, 4, 1, 212), (4, 21, 0, 4, 2, 213), (4, 26, 0, 4, 3, 214), (4, 30, 0, 4, 4, 215), (4, 36, 0, 4, 5, 216), (4, 42, 0, 4, 6, 217), (4, 46, 0, 4, 7, 218), (4, 146, 0, 4, 8, 219), (4, 220, 0, 4, 9, 220), (4, 223, 0, 4, 10, 221), (4, 98, 0, 4, 11, 222), (4, 63, 0, 4, 12, 223), (4, 168, 0, 4, 13, 224), (4, 95, 0, 4, 14, 225), (5, 87, 0, 5, 0, 585), (5, 90, 0, 5, 1, 586), (5, 93, 0, 5, 2, 587), (5, 96, 0, 5, 3, 588), (5, 99, 0, 5, 4, 589), (5, 103, 0, 5, 5, 590), (5, 106, 0, 5, 6, 591), (5, 109, 0, 5, 7, 592), (5, 9, 0, 5, 8, 593), (5, 13, 0, 5, 9, 594), (5, 16, 0, 5, 10, 595), (5, 19, 0, 5, 11, 596), (5, 22, 0, 5, 12, 597), (5, 25, 0, 5, 13, 598), (5, 28, 0, 5, 14, 599), (5, 32, 0, 5, 15, 600), (5, 112, 0, 5, 16, 601), (5, 36, 0, 5, 17, 602), (5, 40, 0, 5, 18, 603), (5, 43, 0, 5, 19, 604), (5, 46, 0, 5, 20, 605), (5, 49, 0, 5, 21, 606), (5, 80, 0, 5, 22, 607), (5, 52, 0, 5, 23, 608), (5, 55, 0, 5, 24, 609), (5, 84, 0, 5, 25, 610), (5, 58, 0, 5, 26, 611), (5, 61, 0, 5, 27, 612), (5, 64, 0, 5, 28, 613), (5, 67, 0, 5, 29, 614), (5, 168, 0, 5, 30, 615), (5, 70, 0, 5, 31, 616), (5, 115, 0, 5, 32, 617), (5, 73, 0, 5, 33, 618)]
/-- methods: class, pool, 0 link, 1 nest mate, 2 Object(), 3 Math.max, 4 Math.min, number of the method, place of the word -/
def ix_MT : List (Nat × Nat × Nat × Nat × Nat) := [(6, 9, 0, 38, 65), (4, 3, 2, 0, 68), (4, 11, 0, 0, 73), (0, 3, 2, 0, 76), (0, 9, 3, 0, 77), (4, 35, 1, 33, 94), (3, 3, 2, 0, 97), (4, 50, 1, 8, 119), (1, 3, 2, 0, 122), (1, 11, 0, 0, 124), (4, 51, 1, 27, 145), (2, 3, 2, 0, 148), (4, 52, 0, 60, 178), (4, 232, 0, 9, 182), (1, 31, 0, 1, 186), (4, 109, 0, 1, 190), (4, 145, 0, 34, 191), (3, 28, 0, 138, 195), (4, 165, 0, 61, 198), (4, 233, 0, 28, 202), (2, 15, 0, 30, 206), (4, 234, 0, 138, 210), (6, 13, 0, 39, 257), (6, 20, 0, 40, 261), (4, 60, 0, 4, 265), (6, 25, 0, 41, 269), (4, 67, 0, 62, 273), (4, 71, 0, 31, 277), (4, 75, 0, 81, 281), (4, 101, 0, 76, 285), (4, 262, 0, 5, 289), (0, 25, 0, 4, 293), (4, 265, 0, 7, 294), (4, 258, 0, 35, 298), (4, 174, 0, 77, 302), (4, 268, 0, 6, 306), (4, 271, 0, 29, 310), (4, 280, 0, 78, 314), (4, 286, 0, 79, 318), (4, 283, 0, 30, 322), (4, 79, 0, 82, 323), (4, 243, 0, 32, 327), (4, 289, 0, 21, 331), (1, 68, 0, 15, 335), (1, 62, 0, 14, 339), (1, 55, 0, 12, 343), (1, 58, 0, 6, 347), (1, 72, 0, 13, 348), (4, 250, 0, 75, 352), (4, 254, 0, 10, 356), (1, 41, 0, 5, 360), (1, 45, 0, 3, 361), (1, 49, 0, 4, 365), (1, 52, 0, 7, 366), (4, 82, 0, 71, 367), (4, 229, 0, 73, 371), (4, 85, 0, 80, 375), (6, 30, 0, 42, 379), (4, 91, 0, 68, 383), (4, 202, 0, 63, 387), (6, 35, 0, 43, 391), (4, 105, 0, 69, 395), (4, 125, 0, 64, 399), (4, 240, 0, 20, 403), (1, 76, 0, 18, 407), (4, 217, 0, 19, 411), (4, 246, 0, 70, 415), (4, 192, 0, 74, 419), (6, 40, 0, 44, 423), (4, 112, 0, 65, 427), (4, 116, 0, 66, 431), (6, 45, 0, 45, 435), (6, 50, 0, 46, 439), (6, 55, 0, 47, 443), (6, 59, 0, 48, 447), (4, 121, 0, 83, 452), (4, 292, 0, 85, 456), (6, 63, 0, 49, 460), (4, 128, 0, 24, 464), (1, 91, 0, 22, 468), (1, 80, 0, 138, 472), (1, 86, 4, 0, 473), (1, 95, 3, 0, 476), (4, 132, 0, 25, 477), (4, 135, 0, 26, 481), (6, 67, 0, 50, 485), (4, 139, 0, 3, 489), (6, 71, 0, 51, 490), (6, 76, 0, 52, 494), (4, 149, 0, 67, 498), (4, 153, 0, 36, 502), (4, 156, 0, 37, 506), (3, 34, 4, 0, 510), (4, 159, 0, 2, 511), (4, 162, 0, 16, 515), (6, 80, 0, 53, 519), (4, 171, 0, 17, 523), (1, 65, 0, 2, 527), (4, 177, 0, 84, 528), (6, 84, 0, 54, 532), (4, 183, 0, 22, 536), (4, 189, 0, 23, 537), (6, 88, 0, 55, 541), (4, 195, 0, 11, 545), (4, 198, 0, 13, 549), (6, 92, 0, 56, 550), (6, 96, 0, 57, 554), (6, 100, 0, 58, 558), (6, 104, 0, 59, 562), (4, 226, 0, 72, 566), (6, 12, 0, 86, 572), (5, 1, 2, 0, 575), (5, 76, 0, 88, 577), (5, 118, 0, 87, 581), (6, 17, 0, 88, 688), (6, 29, 0, 102, 689), (5, 144, 0, 101, 693), (5, 129, 0, 92, 697), (5, 141, 0, 99, 701), (5, 133, 0, 100, 705), (5, 137, 0, 98, 709), (5, 147, 0, 93, 713), (5, 151, 0, 95, 717), (5, 125, 0, 90, 721), (5, 121, 0, 89, 725), (5, 155, 0, 97, 729), (6, 34, 0, 104, 733), (5, 158, 0, 96, 737), (5, 161, 0, 103, 741), (6, 39, 0, 108, 745), (5, 171, 0, 107, 749), (5, 165, 0, 105, 753), (5, 175, 0, 106, 757), (5, 178, 0, 94, 761), (6, 44, 0, 112, 765), (5, 181, 0, 109, 769), (5, 185, 0, 110, 772), (5, 188, 0, 111, 776), (6, 49, 0, 113, 780), (6, 54, 0, 114, 784), (6, 58, 0, 115, 788), (6, 62, 0, 116, 792), (6, 66, 0, 120, 797), (5, 192, 0, 118, 801), (5, 195, 0, 119, 805), (6, 70, 0, 121, 809), (6, 24, 0, 122, 813), (6, 75, 0, 123, 817), (5, 199, 0, 91, 821), (6, 79, 0, 124, 825), (6, 83, 0, 126, 829), (5, 202, 0, 125, 833), (6, 87, 0, 127, 837), (5, 205, 0, 117, 841), (5, 208, 0, 128, 845), (5, 211, 0, 129, 849), (6, 91, 0, 130, 853), (6, 95, 0, 131, 857), (6, 99, 0, 132, 861), (6, 103, 0, 136, 865), (5, 220, 0, 135, 869), (5, 217, 0, 134, 873), (5, 214, 0, 133, 877), (6, 107, 0, 137, 880)]
/-- classes: class, pool, class, place of the word -/
def ix_CT : List (Nat × Nat × Nat × Nat) := [(6, 7, 4, 63), (4, 9, 0, 71), (4, 24, 1, 90), (4, 33, 3, 92), (4, 40, 2, 116), (1, 9, 0, 123), (6, 10, 5, 570)]
def ix_KT : List (Nat × Nat × Int32 × Nat) := [(4, 120, 1000000, 451), (5, 31, 168000, 576), (5, 191, 1000000, 796)]
def ix_KL : List (Nat × Nat × Int64 × Nat) := [(6, 18, 4294967295, 884)]
def ix_ini : List Nat := [56, 59, 60, 58, 55, 62, 54, 57, 61]
def ix_ins : List Nat := [72, 118, 144, 93, 64, 571]
/-- places of the words of Math.max (static, code), Math.min; of Object() (instance, code) -/
def ix_mw : List Nat := [78, 79, 474, 475, 69, 70, 57, 115, 89, 143]
end
section
/-! THE MACHINE OVER AN ABSTRACT HEAP: a reference is the number of a cell; the law's script is .retAddr 0 -/
abbrev ix_E : Type := (FieldType × vp_A) ⊕ (Nat × List Value)
abbrev ix_H : Type := Nat × Nat × (Nat → ix_E)
abbrev ix_L : Type := List (Nat × Value)
abbrev ix_F : Type := Nat × ix_L × List Value × ix_H
abbrev ix_O : Type := Option Value × ix_H
abbrev ix_R : Type := ix_F ⊕ (ix_O ⊕ (Nat × List Value × ix_F))
abbrev ix_S : Type := Option (Nat × (Nat → Int32))
def ix_get (ls : ix_L) (k : Nat) : Option Value := (ls.find? (fun q => q.1 == k)).map (fun q => q.2)
def ix_put1 (ls : ix_L) (i : Nat) (v : Value) : ix_L := (i, v) :: ls.filter (fun q => !(q.1 == i) && !(q.1 + 1 == i && q.2.category == 2))
def ix_put2 (ls : ix_L) (i : Nat) (v : Value) : ix_L := (i, v) :: ls.filter (fun q => !(q.1 == i) && (!(q.1 == i + 1) && !(q.1 + 1 == i && q.2.category == 2)))
def ix_set (h : ix_H) (k : Nat) (x : ix_E) : ix_H := (h.1, h.2.1, va_up h.2.2 k x)
def ix_new (h : ix_H) (n : Nat) (x : ix_E) : ix_H := (h.1 + 1, h.2.1 + n, va_up h.2.2 h.1 x)
def ix_at (T : ix_T) (pc : Nat) : Option (Instr × Nat) := (T.find? (fun q => q.1 == pc)).map (fun q => q.2)
def ix_fld (cn idx : Nat) : Option (Nat × Nat × Nat × Nat) := (ix_FT.find? (fun q => q.1 == cn && q.2.1 == idx)).map (fun q => q.2.2)
def ix_mth (cn idx : Nat) : Option (Nat × Nat × Nat) := (ix_MT.find? (fun q => q.1 == cn && q.2.1 == idx)).map (fun q => q.2.2)
def ix_cls (cn idx : Nat) : Option (Nat × Nat) := (ix_CT.find? (fun q => q.1 == cn && q.2.1 == idx)).map (fun q => q.2.2)
def ix_con (cn idx : Nat) : Option (Int32 × Nat) := (ix_KT.find? (fun q => q.1 == cn && q.2.1 == idx)).map (fun q => q.2.2)
def ix_cnl (cn idx : Nat) : Option (Int64 × Nat) := (ix_KL.find? (fun q => q.1 == cn && q.2.1 == idx)).map (fun q => q.2.2)
def ix_jmp (pc : Nat) (off : Int) : Option Nat := if 0 ≤ (pc : Int) + off then some ((pc : Int) + off).toNat else none
def ix_len : Instr → Nat
  | .bipush _ => 2 | .iload _ => 2 | .lload _ => 2 | .aload _ => 2 | .istore _ => 2 | .lstore _ => 2 | .astore _ => 2 | .ldc _ => 2 | .newarray _ => 2
  | .sipush _ => 3 | .iinc _ _ => 3 | .ifCond _ _ => 3 | .if_icmp _ _ => 3 | .goto _ => 3 | .getfield _ => 3 | .putfield _ => 3 | .invokevirtual _ => 3 | .invokespecial _ => 3 | .invokestatic _ => 3 | .new _ => 3 | .anewarray _ => 3 | .ldc2_w _ => 3
  | _ => 1
def ix_tln (T : ix_T) : Bool := T.all (fun x => match x.2.1 with | .tableswitch _ _ _ _ => true | i => x.2.2 == ix_len i)
def ix_cmp (c : ClassFile.Cond) (x y : Int32) : Bool := match c with
  | .eq => decide (x = y) | .ne => decide (¬ x = y) | .lt => decide (x < y) | .ge => decide (y ≤ x) | .gt => decide (y < x) | .le => decide (x ≤ y)
def ix_pure (i : Instr) (st : List Value) : Option (List Value) := match i with
  | .iconst n => some (.int (Int32.ofInt n) :: st)
  | .bipush n => some (.int (Int8.ofInt n).toInt32 :: st)
  | .sipush n => some (.int (Int16.ofInt n).toInt32 :: st)
  | .iadd => (match st with | .int y :: .int x :: r => some (.int (x + y) :: r) | _ => none)
  | .isub => (match st with | .int y :: .int x :: r => some (.int (x - y) :: r) | _ => none)
  | .imul => (match st with | .int y :: .int x :: r => some (.int (x * y) :: r) | _ => none)
  | .iand => (match st with | .int y :: .int x :: r => some (.int (x &&& y) :: r) | _ => none)
  | .ior => (match st with | .int y :: .int x :: r => some (.int (x ||| y) :: r) | _ => none)
  | .ixor => (match st with | .int y :: .int x :: r => some (.int (x ^^^ y) :: r) | _ => none)
  | .ishl => (match st with | .int y :: .int x :: r => some (.int (x <<< (y &&& 31)) :: r) | _ => none)
  | .ishr => (match st with | .int y :: .int x :: r => some (.int (x >>> (y &&& 31)) :: r) | _ => none)
  | .iushr => (match st with | .int y :: .int x :: r => some (.int (x.toUInt32 >>> (y.toUInt32 &&& Int32.toUInt32 31)).toInt32 :: r) | _ => none)
  | .irem => (match st with | .int y :: .int x :: r => if y = 0 then none else some (.int (x - x / y * y) :: r) | _ => none)
  | .idiv => (match st with | .int y :: .int x :: r => if y = 0 then none else some (.int (x / y) :: r) | _ => none)
  | .ineg => (match st with | .int x :: r => some (.int (-x) :: r) | _ => none)
  | .i2l => (match st with | .int x :: r => some (.long x.toInt64 :: r) | _ => none)
  | .l2i => (match st with | .long x :: r => some (.int x.toInt32 :: r) | _ => none)
  | .i2b => (match st with | .int x :: r => some (.int x.toInt8.toInt32 :: r) | _ => none)
  | .land => (match st with | .long y :: .long x :: r => some (.long (x &&& y) :: r) | _ => none)
  | .lor => (match st with | .long y :: .long x :: r => some (.long (x ||| y) :: r) | _ => none)
  | .lshl => (match st with | .int y :: .long x :: r => some (.long (x <<< (y.toInt64 &&& 63)) :: r) | _ => none)
  | .lshr => (match st with | .int y :: .long x :: r => some (.long (x >>> (y.toInt64 &&& 63)) :: r) | _ => none)
  | .lushr => (match st with | .int y :: .long x :: r => some (.long (x.toUInt64 >>> (y.toInt64.toUInt64 &&& Int64.toUInt64 63)).toInt64 :: r) | _ => none)
  | .dup => (match st with | v :: r => if v.category = 1 then some (v :: v :: r) else none | _ => none)
  | .pop => (match st with | v :: r => if v.category = 1 then some r else none | _ => none)
  | .dup2 => (match st with | v :: w :: r => if v.category = 1 ∧ w.category = 1 then some (v :: w :: v :: w :: r) else none | _ => none)
  | _ => none
/-- the types of the fields, and which are final -/
def ix_ty : Nat → Nat → FieldType := fun ci => match ci with
  | 0 => tyX0 | 1 => tyX1 | 2 => tyX2 | 3 => tyX3 | 4 => tyX4 | _ => tyX5
def ix_TT : Nat → u_T := fun ci => match ci with
  | 0 => TX0 | 1 => TX1 | 2 => TX2 | 3 => TX3 | 4 => TX4 | _ => TX5
def ix_NN : Nat → Nat := fun ci => match ci with
  | 0 => 2 | 1 => 5 | 2 => 7 | 3 => 5 | 4 => 15 | _ => 34
def ix_ok (ty : FieldType) (v : Value) : Bool := match ty, v with
  | .int, .int _ => true
  | .boolean, .int x => decide (x = 0 ∨ x = 1)
  | .object _, .ref _ => true
  | .array _, .ref _ => true
  | _, _ => false
def ix_def (ty : FieldType) : Value := match ty with
  | .int => .int 0 | .boolean => .int 0 | .byte => .int 0 | _ => .null
def ix_blank (ci : Nat) : List Value := (List.range (ix_NN ci)).map (fun k => ix_def (ix_ty ci k))
def ix_ldI (pc n : Nat) (ls : ix_L) (st : List Value) (h : ix_H) (k : Nat) : Option ix_R := match ix_get ls k with
  | some (.int x) => some (.inl (pc + n, ls, .int x :: st, h)) | _ => none
def ix_ldL (pc n : Nat) (ls : ix_L) (st : List Value) (h : ix_H) (k : Nat) : Option ix_R := match ix_get ls k with
  | some (.long x) => some (.inl (pc + n, ls, .long x :: st, h)) | _ => none
def ix_ldA (pc n : Nat) (ls : ix_L) (st : List Value) (h : ix_H) (k : Nat) : Option ix_R := match ix_get ls k with
  | some (.ref x) => some (.inl (pc + n, ls, .ref x :: st, h)) | some (.retAddr x) => some (.inl (pc + n, ls, .retAddr x :: st, h)) | _ => none
def ix_stI (mL pc n : Nat) (ls : ix_L) (st : List Value) (h : ix_H) (k : Nat) : Option ix_R := match st with
  | .int x :: r => if k < mL then some (.inl (pc + n, ix_put1 ls k (.int x), r, h)) else none | _ => none
def ix_stL (mL pc n : Nat) (ls : ix_L) (st : List Value) (h : ix_H) (k : Nat) : Option ix_R := match st with
  | .long x :: r => if k + 1 < mL then some (.inl (pc + n, ix_put2 ls k (.long x), r, h)) else none | _ => none
def ix_stA (mL pc n : Nat) (ls : ix_L) (st : List Value) (h : ix_H) (k : Nat) : Option ix_R := match st with
  | .ref x :: r => if k < mL then some (.inl (pc + n, ix_put1 ls k (.ref x), r, h)) else none | _ => none
def ix_goto (pc : Nat) (off : Int) (ls : ix_L) (st : List Value) (h : ix_H) : Option ix_R := match ix_jmp pc off with
  | some t => some (.inl (t, ls, st, h)) | none => none
def ix_br (b : Bool) (pc : Nat) (off : Int) (ls : ix_L) (st : List Value) (h : ix_H) : Option ix_R := match ix_jmp pc off with
  | some t => some (.inl (if b then t else pc + 3, ls, st, h)) | none => none
def ix_gf (cn idx pc : Nat) (ls : ix_L) (st : List Value) (h : ix_H) : Option ix_R := match st with
  | .ref a :: r => (match h.2.2 a, ix_fld cn idx with
    | .inr (ci, fs), some (_, cj, k, _) => if ci = cj then (match fs[k]? with | some v => some (.inl (pc + 3, ls, v :: r, h)) | none => none) else none
    | _, _ => none)
  | _ => none
def ix_pf (cn kd idx pc : Nat) (ls : ix_L) (st : List Value) (h : ix_H) : Option ix_R := match st with
  | v :: .ref a :: r => (match h.2.2 a, ix_fld cn idx with
    | .inr (ci, fs), some (nest, cj, k, _) =>
      if ci = cj ∧ k < fs.length ∧ ix_ok (ix_ty ci k) v = true ∧ ((ix_TT ci k).2.2.2 = true → kd = 2 ∧ cn = ci ∧ nest = 0)
      then some (.inl (pc + 3, ls, r, ix_set h a (.inr (ci, fs.set k v)))) else none
    | _, _ => none)
  | _ => none
def ix_al (S : ix_S) (pc : Nat) (ls : ix_L) (st : List Value) (h : ix_H) : Option ix_R := match st with
  | .ref a :: r => (match h.2.2 a with
    | .inl (.int, n, .inl _) => some (.inl (pc + 1, ls, .int (Int32.ofNat n) :: r, h))
    | .inl (.byte, n, .inl _) => some (.inl (pc + 1, ls, .int (Int32.ofNat n) :: r, h))
    | .inl (.boolean, n, .inl _) => some (.inl (pc + 1, ls, .int (Int32.ofNat n) :: r, h))
    | _ => none)
  | .retAddr _ :: r => (match S with | some (L, _) => some (.inl (pc + 1, ls, .int (Int32.ofNat L) :: r, h)) | none => none)
  | _ => none
def ix_ia (S : ix_S) (pc : Nat) (ls : ix_L) (st : List Value) (h : ix_H) : Option ix_R := match st with
  | .int i :: .ref a :: r => (match h.2.2 a with
    | .inl (.int, n, .inl f) => if i < 0 ∨ n ≤ i.toNatClampNeg then none else some (.inl (pc + 1, ls, .int (f i.toNatClampNeg) :: r, h)) | _ => none)
  | .int i :: .retAddr _ :: r => (match S with
    | some (L, xs) => if i < 0 ∨ L ≤ i.toNatClampNeg then none else some (.inl (pc + 1, ls, .int (xs i.toNatClampNeg) :: r, h)) | none => none)
  | _ => none
def ix_ba (pc : Nat) (ls : ix_L) (st : List Value) (h : ix_H) : Option ix_R := match st with
  | .int i :: .ref a :: r => (match h.2.2 a with
    | .inl (.byte, n, .inl f) => if i < 0 ∨ n ≤ i.toNatClampNeg then none else some (.inl (pc + 1, ls, .int (f i.toNatClampNeg) :: r, h))
    | .inl (.boolean, n, .inl f) => if i < 0 ∨ n ≤ i.toNatClampNeg then none else some (.inl (pc + 1, ls, .int (f i.toNatClampNeg) :: r, h))
    | _ => none)
  | _ => none
def ix_aa (pc : Nat) (ls : ix_L) (st : List Value) (h : ix_H) : Option ix_R := match st with
  | .int i :: .ref a :: r => (match h.2.2 a with
    | .inl (.object C, n, .inr (.inr (.inr (.inr f)))) => if i < 0 ∨ n ≤ i.toNatClampNeg ∨ ¬ (C = RX1 ∨ C = RX2) then none else (match f i.toNatClampNeg with
      | some y => some (.inl (pc + 1, ls, .ref y :: r, h)) | none => none)
    | _ => none)
  | _ => none
def ix_is (pc : Nat) (ls : ix_L) (st : List Value) (h : ix_H) : Option ix_R := match st with
  | .int x :: .int i :: .ref a :: r => (match h.2.2 a with
    | .inl (.int, n, .inl f) => if i < 0 ∨ n ≤ i.toNatClampNeg then none else some (.inl (pc + 1, ls, r, ix_set h a (.inl (.int, n, .inl (upd f i.toNatClampNeg x))))) | _ => none)
  | _ => none
def ix_bs (pc : Nat) (ls : ix_L) (st : List Value) (h : ix_H) : Option ix_R := match st with
  | .int x :: .int i :: .ref a :: r => (match h.2.2 a with
    | .inl (.byte, n, .inl f) => if i < 0 ∨ n ≤ i.toNatClampNeg then none else some (.inl (pc + 1, ls, r, ix_set h a (.inl (.byte, n, .inl (upd f i.toNatClampNeg x.toInt8.toInt32)))))
    | .inl (.boolean, n, .inl f) => if i < 0 ∨ n ≤ i.toNatClampNeg then none else some (.inl (pc + 1, ls, r, ix_set h a (.inl (.boolean, n, .inl (upd f i.toNatClampNeg (x &&& 1))))))
    | _ => none)
  | _ => none
def ix_as (pc : Nat) (ls : ix_L) (st : List Value) (h : ix_H) : Option ix_R := match st with
  | .ref v :: .int i :: .ref a :: r => (match h.2.2 a, h.2.2 v with
    | .inl (.object C, n, .inr (.inr (.inr (.inr f)))), .inr (ci, _) => if i < 0 ∨ n ≤ i.toNatClampNeg then none else if (ci = 1 ∨ ci = 2) ∧ ix_RC ci = C then some (.inl (pc + 1, ls, r, ix_set h a (.inl (.object C, n, .inr (.inr (.inr (.inr (va_up f i.toNatClampNeg (some v)))))))))
      else none
    | _, _ => none)
  | _ => none
def ix_na (ty : FieldType) (pc : Nat) (ls : ix_L) (st : List Value) (h : ix_H) : Option ix_R := match st with
  | .int n :: r => if n < 0 ∨ 200000 < n.toNatClampNeg ∨ ¬ (ty = .int ∨ ty = .byte ∨ ty = .boolean) then none else some (.inl (pc + 2, ls, .ref h.1 :: r, ix_new h n.toNatClampNeg (.inl (ty, n.toNatClampNeg, .inl (fun _ => 0)))))
  | _ => none
def ix_nq (cn idx pc : Nat) (ls : ix_L) (st : List Value) (h : ix_H) : Option ix_R := match st, ix_cls cn idx with
  | .int n :: r, some (ci, _) => if n < 0 ∨ 200000 < n.toNatClampNeg ∨ ¬ (ci = 1 ∨ ci = 2) then none else some (.inl (pc + 3, ls, .ref h.1 :: r, ix_new h n.toNatClampNeg (.inl (.object (ix_RC ci), n.toNatClampNeg, .inr (.inr (.inr (.inr (fun _ => none))))))))
  | _, _ => none
def ix_no (cn idx pc : Nat) (ls : ix_L) (st : List Value) (h : ix_H) : Option ix_R := match ix_cls cn idx with
  | some (ci, _) => if ci ≤ 5 then some (.inl (pc + 3, ls, .ref h.1 :: st, ix_new h (ix_NN ci) (.inr (ci, ix_blank ci)))) else none
  | none => none
def ix_rcv (h : ix_H) (cn : Nat) (as : List Value) : Bool := match as with
  | .ref a :: _ => (match h.2.2 a with | .inr (ci, _) => ci == cn | _ => false)
  | _ => false
/-- a call: kd the kind that the instruction asks for -/
def ix_call (cn kd idx pc : Nat) (ls : ix_L) (st : List Value) (h : ix_H) : Option ix_R := match ix_mth cn idx with
  | none => none
  | some (nest, y, _) => if nest = 2 then (match st with
      | .ref _ :: r => if kd = 2 ∧ (r.map fun v => v.category).sum ≤ 8 then some (.inl (pc + 3, ls, r, h)) else none
      | _ => none)
    else if nest = 3 then (match st with
      | .int y :: .int x :: r => if kd = 1 ∧ (r.map fun v => v.category).sum ≤ 8 then some (.inl (pc + 3, ls, .int (if x < y then y else x) :: r, h)) else none
      | _ => none)
    else if nest = 4 then (match st with
      | .int y :: .int x :: r => if kd = 1 ∧ (r.map fun v => v.category).sum ≤ 8 then some (.inl (pc + 3, ls, .int (if y < x then y else x) :: r, h)) else none
      | _ => none)
    else (match mNs[y]? with
      | none => none
      | some q =>
        let np := q.2.2.2.2.2.1 + (if kd = 1 then 0 else 1)
        if q.2.2.2.2.2.2.1 = kd ∧ np ≤ st.length ∧ ((st.drop np).map fun v => v.category).sum ≤ 8 ∧ (nest = 1 → kd = 2) ∧ (nest = 0 ∨ nest = 1) ∧
            (kd = 1 ∨ ix_rcv h q.1 (st.take np).reverse = true)
        then some (.inr (.inr (y, (st.take np).reverse, (pc + 3, ls, st.drop np, h)))) else none)
def ix_exec (S : ix_S) (q : ix_M) (i : Instr) (pc : Nat) (ls : ix_L) (st : List Value) (h : ix_H) : Option ix_R := match i with
  | .iload k => ix_ldI pc 2 ls st h k
  | .iload_n k => ix_ldI pc 1 ls st h k
  | .lload k => ix_ldL pc 2 ls st h k
  | .lload_n k => ix_ldL pc 1 ls st h k
  | .aload k => ix_ldA pc 2 ls st h k
  | .aload_n k => ix_ldA pc 1 ls st h k
  | .istore k => ix_stI q.2.2.2.1 pc 2 ls st h k
  | .istore_n k => ix_stI q.2.2.2.1 pc 1 ls st h k
  | .lstore k => ix_stL q.2.2.2.1 pc 2 ls st h k
  | .lstore_n k => ix_stL q.2.2.2.1 pc 1 ls st h k
  | .astore k => ix_stA q.2.2.2.1 pc 2 ls st h k
  | .astore_n k => ix_stA q.2.2.2.1 pc 1 ls st h k
  | .iinc k c => (match ix_get ls k with | some (.int x) => if k < q.2.2.2.1 then some (.inl (pc + 3, ix_put1 ls k (.int (x + Int32.ofInt c)), st, h)) else none | _ => none)
  | .goto off => ix_goto pc off ls st h
  | .ifCond c off => (match st with | .int x :: r => ix_br (ix_cmp c x 0) pc off ls r h | _ => none)
  | .if_icmp c off => (match st with | .int y :: .int x :: r => ix_br (ix_cmp c x y) pc off ls r h | _ => none)
  | .tableswitch d lo hi offs => (match st with
    | .int x :: r => if x.toInt < lo ∨ hi < x.toInt then ix_goto pc d ls r h else (match offs[(x.toInt - lo).toNat]? with | some o => ix_goto pc o ls r h | none => none)
    | _ => none)
  | .ldc idx => (match ix_con q.1 idx with | some (v, _) => some (.inl (pc + 2, ls, .int v :: st, h)) | none => none)
  | .ldc2_w idx => (match ix_cnl q.1 idx with | some (v, _) => some (.inl (pc + 3, ls, .long v :: st, h)) | none => none)
  | .getfield idx => ix_gf q.1 idx pc ls st h
  | .putfield idx => ix_pf q.1 q.2.2.2.2.2.2.1 idx pc ls st h
  | .arraylength => ix_al S pc ls st h
  | .iaload => ix_ia S pc ls st h
  | .baload => ix_ba pc ls st h
  | .aaload => ix_aa pc ls st h
  | .iastore => ix_is pc ls st h
  | .bastore => ix_bs pc ls st h
  | .aastore => ix_as pc ls st h
  | .newarray t => ix_na (newarray.typeOf t) pc ls st h
  | .anewarray idx => ix_nq q.1 idx pc ls st h
  | .new idx => ix_no q.1 idx pc ls st h
  | .invokevirtual idx => ix_call q.1 0 idx pc ls st h
  | .invokestatic idx => ix_call q.1 1 idx pc ls st h
  | .invokespecial idx => ix_call q.1 2 idx pc ls st h
  | .ireturn => (match st, q.2.2.2.2.1 with | [.int v], some ty => if ix_ok ty (.int v) = true then some (.inr (.inl (some (.int v), h))) else none | _, _ => none)
  | .areturn => (match st, q.2.2.2.2.1 with | [.ref v], some (.object _) => some (.inr (.inl (some (.ref v), h))) | _, _ => none)
  | .return_ => (match st, q.2.2.2.2.1 with | [], none => some (.inr (.inl (none, h))) | _, _ => none)
  | i => (match ix_pure i st with | some st' => some (.inl (pc + ix_len i, ls, st', h)) | none => none)
def ix_step (S : ix_S) (q : ix_M) (f : ix_F) : Option ix_R := match ix_at q.2.2.2.2.2.2.2.1 f.1 with
  | some (i, _) => ix_exec S q i f.1 f.2.1 f.2.2.1 f.2.2.2
  | none => none
def ix_run (S : ix_S) (C : Nat → List Value → ix_H → ix_O → Prop) (q : ix_M) : Nat → ix_F → ix_O → Prop
  | 0, _, _ => False
  | n + 1, f, o => match ix_step S q f with
    | none => False
    | some (.inl g) => ix_run S C q n g o
    | some (.inr (.inl u)) => u = o
    | some (.inr (.inr (y, as, (pc, ls, st, h)))) => ∃ (v : Option Value) (h' : ix_H), C y as h (v, h') ∧ ix_run S C q n (pc, ls, v.toList ++ st, h') o
/-- method number y, with these arguments, at this heap, comes to its end with that answer and that heap; at most d calls stand open -/
def ix_ev : Nat → Nat → List Value → ix_H → ix_O → Prop
  | 0, _, _, _, _ => False
  | d + 1, y, as, h, o => ∃ (q : ix_M) (n : Nat), mNs[y]? = some q ∧ ix_run none (ix_ev d) q n (0, lv_args 0 as, [], h) o
/-- inside a method, with calls of depth d -/
def ix_J (S : ix_S) (d : Nat) (q : ix_M) (f : ix_F) (o : ix_O) : Prop := ∃ n, ix_run S (ix_ev d) q n f o
end
section
/-! THE ABSTRACT HEAP ON THE MACHINE'S -/
def ix_cv (b base : Nat) : Value → Value
  | .ref k => .ref (base + k)
  | .retAddr _ => .ref b
  | .int x => .int x
  | .long x => .long x
  | .float x => .float x
  | .double x => .double x
  | .null => .null
theorem ix_cv_cat (b base : Nat) (v : Value) : (ix_cv b base v).category = v.category := by cases v <;> rfl
abbrev ix_cp (b base : Nat) (x : Nat × Value) : Nat × Value := (x.1, ix_cv b base x.2)
def ix_ca (base : Nat) (x : (Nat → Int32) ⊕ (Nat → Int64) ⊕ (Nat → UInt32) ⊕ (Nat → UInt64) ⊕ (Nat → Option Nat)) : (Nat → Int32) ⊕ (Nat → Int64) ⊕ (Nat → UInt32) ⊕ (Nat → UInt64) ⊕ (Nat → Option Nat) := match x with
  | .inl f => .inl f
  | .inr (.inl f) => .inr (.inl f)
  | .inr (.inr (.inl f)) => .inr (.inr (.inl f))
  | .inr (.inr (.inr (.inl f))) => .inr (.inr (.inr (.inl f)))
  | .inr (.inr (.inr (.inr f))) => .inr (.inr (.inr (.inr (fun i => (f i).map (fun k => base + k)))))
def ix_ce (b base : Nat) (aC : FieldType → ClassId) (x : ix_E) : va_E := match x with
  | .inl (ty, n, f) => .inl (aC ty, n, ix_ca base f)
  | .inr (ci, fs) => .inr (ci, fs.map (ix_cv b base))
def ix_ws (b base : Nat) (aC : FieldType → ClassId) (h : ix_H) : va_W := (List.range h.1).map (fun k => (base + k, ix_ce b base aC (h.2.2 k)))
def ix_A (base : Nat) : Nat → Prop := fun x => base ≤ x
section IXA
variable {b base : Nat} {aC : FieldType → ClassId} {h : ix_H}
theorem ix_ws_get {k : Nat} (hk : k < h.1) : (ix_ws b base aC h)[k]? = some (base + k, ix_ce b base aC (h.2.2 k)) := by
  simp [ix_ws, hk]
theorem ix_ws_inv {k : Nat} {x : Nat × va_E} (hx : (ix_ws b base aC h)[k]? = some x) : k < h.1 ∧ x = (base + k, ix_ce b base aC (h.2.2 k)) := by
  have hk : k < h.1 := by
    have := (List.getElem?_eq_some_iff.mp hx).1
    simpa [ix_ws] using this
  rw [ix_ws_get hk] at hx
  exact ⟨hk, (Option.some.inj hx).symm⟩
theorem ix_ws_set {k : Nat} (hk : k < h.1) (x : ix_E) : (ix_ws b base aC h).set k (base + k, ix_ce b base aC x) = ix_ws b base aC (ix_set h k x) := by
  apply List.ext_getElem?
  intro j
  by_cases hj : j < h.1
  · rw [ix_ws_get (h := ix_set h k x) (show j < (ix_set h k x).1 from hj), List.getElem?_set]
    by_cases e : k = j
    · subst e
      rw [if_pos rfl, if_pos (by simp [ix_ws, hk])]
      simp [ix_set, va_up]
    · rw [if_neg e, ix_ws_get hj]
      simp [ix_set, va_up, Ne.symm e]
  · rw [List.getElem?_eq_none (by simp [ix_ws]; omega), List.getElem?_eq_none (by simp [ix_ws, ix_set]; omega)]
theorem ix_ws_new (n : Nat) (x : ix_E) : ix_ws b base aC h ++ [(base + h.1, ix_ce b base aC x)] = ix_ws b base aC (ix_new h n x) := by
  simp only [ix_ws, ix_new, List.range_succ, List.map_append, List.map_cons, List.map_nil]
  congr 1
  · apply List.map_congr_left
    intro k hk
    have : k ≠ h.1 := by have := List.mem_range.mp hk; omega
    simp [va_up, this]
  · simp [va_up]
theorem ix_wD : va_D (ix_A base) (ix_ws b base aC h) := by
  refine ⟨fun i j x y hx hy hxy => ?_, fun k x hx => ?_⟩
  · obtain ⟨-, rfl⟩ := ix_ws_inv hx
    obtain ⟨-, rfl⟩ := ix_ws_inv hy
    have : base + i = base + j := hxy
    omega
  · obtain ⟨-, rfl⟩ := ix_ws_inv hx
    exact Nat.le_add_right _ _
end IXA
/-- an unused cell -/
def ix_no_ : ix_E := .inr (99, [])
def ix_I (D : va_G) (b base : Nat) (aC : FieldType → ClassId) (H0 : Heap) (h : ix_H) (H : Heap) (locs : List Loc) : Prop :=
  H.size = base + h.1 ∧ (∀ k, h.1 ≤ k → h.2.2 k = ix_no_) ∧ va_P D vwCl (ix_ws b base aC h) H ∧ va_S (ix_A base) H0 H locs
section IXB
variable {D : va_G} {b base : Nat} {aC : FieldType → ClassId} {H0 : Heap} {h : ix_H} {H : Heap} {locs : List Loc}
theorem ix_I.lt (hI : ix_I D b base aC H0 h H locs) {a : Nat} (hx : h.2.2 a ≠ ix_no_) : a < h.1 := Nat.lt_of_not_le fun z => hx (hI.2.1 a z)
theorem ix_I.set (hI : ix_I D b base aC H0 h H locs) {a : Nat} (ha : a < h.1) {x : ix_E} {H1 : Heap} {k : Nat} (he : va_at D vwCl (base + a, ix_ce b base aC x) H1) (z : H1.size = H.size) (oq : ∀ y : Nat, y ≠ base + a → H1[y]? = H[y]?) :
    ix_I D b base aC H0 (ix_set h a x) H1 (locs ++ [⟨base + a, k⟩]) := by
  refine ⟨z.trans hI.1, fun j hj => ?_, ?_, hI.2.2.2.put z oq (Nat.le_add_right _ _)⟩
  · have hj : h.1 ≤ j := hj
    have : j ≠ a := by omega
    simp only [ix_set, va_up, this, if_false]
    exact hI.2.1 j hj
  · rw [← ix_ws_set ha]
    exact hI.2.2.1.set ix_wD (ix_ws_get ha) he oq
theorem ix_I.new (hI : ix_I D b base aC H0 h H locs) {x : ix_E} {H1 : Heap} (n : Nat) (he : va_at D vwCl (base + h.1, ix_ce b base aC x) H1) (z : H1.size = H.size + 1) (o1 : ∀ y : Nat, y < H.size → H1[y]? = H[y]?) :
    ix_I D b base aC H0 (ix_new h n x) H1 locs := by
  obtain ⟨i1, i2, i3, i4⟩ := hI
  refine ⟨?_, fun j hj => ?_, ?_, Nat.le_trans i4.1 (by omega), fun y h1 h2 => (o1 y (Nat.lt_of_lt_of_le h1 i4.1)).trans (i4.2.1 y h1 h2), i4.2.2⟩
  · show H1.size = base + (h.1 + 1)
    omega
  · have hj : h.1 + 1 ≤ j := hj
    have : j ≠ h.1 := by omega
    simp only [ix_new, va_up, this, if_false]
    exact i2 j (by omega)
  · rw [← ix_ws_new n x]
    refine (i3.kept fun k y hy => o1 y.1 (i3 k y hy).lt).app fun k y hy => ?_
    have hz : k < 1 := (List.getElem?_eq_some_iff.mp hy).1
    rw [show k = 0 by omega] at hy
    cases hy
    exact he
end IXB
theorem ix_get_mem {ls : ix_L} {k : Nat} {v : Value} (h : ix_get ls k = some v) : (k, v) ∈ ls := by
  unfold ix_get at h
  cases hf : ls.find? (fun x => x.1 == k) with
  | none => rw [hf] at h; cases h
  | some x =>
    rw [hf] at h
    have h1 := List.find?_some hf
    have h2 := List.mem_of_find?_eq_some hf
    obtain ⟨i, w⟩ := x
    simp at h1 h
    subst h1; subst h
    exact h2
theorem ix_put1_map (b base : Nat) (ls : ix_L) (i : Nat) (v : Value) : (i, ix_cv b base v) :: (ls.map (ix_cp b base)).filter (fun x => !(x.1 == i) && !(x.1 + 1 == i && x.2.category == 2)) = (ix_put1 ls i v).map (ix_cp b base) := by
  simp only [ix_put1, List.map_cons, List.filter_map]
  congr 2
  apply List.filter_congr
  intro x _
  simp [ix_cp, ix_cv_cat]
theorem ix_put2_map (b base : Nat) (ls : ix_L) (i : Nat) (v : Value) : (i, ix_cv b base v) :: (ls.map (ix_cp b base)).filter (fun x => !(x.1 == i) && (!(x.1 == i + 1) && !(x.1 + 1 == i && x.2.category == 2))) = (ix_put2 ls i v).map (ix_cp b base) := by
  simp only [ix_put2, List.map_cons, List.filter_map]
  congr 2
  apply List.filter_congr
  intro x _
  simp [ix_cp, ix_cv_cat]
theorem ix_args_map (b base : Nat) (as : List Value) : ∀ i : Nat, lv_args i (as.map (ix_cv b base)) = (lv_args i as).map (ix_cp b base) := by
  induction as with
  | nil => intro i; rfl
  | cons v as ih =>
    intro i
    simp only [List.map_cons, lv_args, ix_cv_cat, ih]
/-! the words -/
def ix_tb : List Jvm.Cond := lw_tbl.filter goodWord
def ix_nst : List Jvm.Cond := lw_tbl.filter (fun w => match w with | .fieldLinkNest _ _ _ _ _ _ => true | .methodLinkNest _ _ _ _ => true | _ => false)
def ix_tys (aC : FieldType → ClassId) : List (ClassId × FieldType) := [(aC .int, .int), (aC .byte, .byte), (aC .boolean, .boolean), (aC (.object RX1), .object RX1), (aC (.object RX2), .object RX2)]
def ix_K (D : va_G) (aC : FieldType → ClassId) (U : State) : Prop := va_K D vwCl (ix_tys aC) U ∧ (∀ w ∈ ix_nst, va_Nw w U) ∧ va_AO RX1 U ∧ va_AO RX2 U
theorem ix_tb_good : GoodIn ix_tb ix_tb := fun w hw => ⟨hw, good_of_word (List.mem_filter.mp hw).2⟩
theorem ix_K.warm {D : va_G} {aC : FieldType → ClassId} {s U : State} (hW : s.WarmedH U.vm) (h : ix_K D aC s) : ix_K D aC U := by
  obtain ⟨h1, h2, h3, h4⟩ := h
  refine ⟨va_K.moved hW.alike h1, fun w hw => ?_, h3.moved hW.alike, h4.moved hW.alike⟩
  have h5 := h2 w hw
  have h6 := (List.mem_filter.mp hw).2
  cases w <;> first | (cases h6; done) | exact va_Nw.warmF hW h5 | exact va_Nw.warmM hW h5
theorem ix_K.calling {D : va_G} {aC : FieldType → ClassId} {U : State} {g : JFrame} {mk : MethodId} {a : Array Value} (h : ix_K D aC U) : ix_K D aC (U.calling g mk a) := by
  obtain ⟨h1, h2, h3, h4⟩ := h
  refine ⟨va_K.moved (u := U) (U := U.calling g mk a) (Vm.Alike.refl U.vm) h1, fun w hw => ?_, h3.moved (u := U) (U := U.calling g mk a) (Vm.Alike.refl U.vm), h4.moved (u := U) (U := U.calling g mk a) (Vm.Alike.refl U.vm)⟩
  have h5 := h2 w hw
  have h6 := (List.mem_filter.mp hw).2
  cases w <;> first | (cases h6; done) | exact va_Nw.same rfl (u := U) (U := U.calling g mk a) rfl h5
/-! the tables against the Statement -/
def ix_fok (t : Nat × Nat × Nat × Nat × Nat × Nat) : Bool := match t with
  | (cn, idx, nest, ci, k, i) => decide (ci ≤ 5) && decide (k < ix_NN ci) && decide (lw_tbl[i]? = some (if nest = 0 then .fieldLink (ix_RC cn) idx (ix_TT ci k).1 (ix_TT ci k).2.1 (ix_TT ci k).2.2.1 else .fieldLinkNest (ix_RC cn) idx (ix_TT ci k).1 (ix_TT ci k).2.1 (ix_TT ci k).2.2.1 "OnceLedger"))
theorem ix_FT_ok : ix_FT.all ix_fok = true := by decide +kernel
def ix_kok (t : Nat × Nat × Int32 × Nat) : Bool := match t with
  | (cn, idx, v, i) => decide (lw_tbl[i]? = some (.constant (ix_RC cn) idx v))
theorem ix_KT_ok : ix_KT.all ix_kok = true := by decide +kernel
def ix_lok (t : Nat × Nat × Int64 × Nat) : Bool := match t with
  | (cn, idx, v, i) => decide (lw_tbl[i]? = some (.constantLong (ix_RC cn) idx v))
theorem ix_KL_ok : ix_KL.all ix_lok = true := by decide +kernel
def ix_cok (t : Nat × Nat × Nat × Nat) : Bool := match t with
  | (cn, idx, ci, i) => decide (ci ≤ 5) && decide (lw_tbl[i]? = some (.classLink (ix_RC cn) idx (ix_RC ci)))
theorem ix_CT_ok : ix_CT.all ix_cok = true := by decide +kernel
def ix_hok (t : Nat × Nat × Nat × Nat × Nat) : Bool := match t with
  | (cn, idx, nest, y, i) => if nest = 2 then decide (lw_tbl[i]? = some (.methodLink (ix_RC cn) idx objectInit)) else if nest = 3 then decide (lw_tbl[i]? = some (.methodLink (ix_RC cn) idx Lib.Math.max.name)) else if nest = 4 then decide (lw_tbl[i]? = some (.methodLink (ix_RC cn) idx Lib.Math.min.name)) else match mNs[y]? with
    | none => false
    | some q => decide (lw_tbl[i]? = some (if nest = 0 then .methodLink (ix_RC cn) idx q.2.1 else .methodLinkNest (ix_RC cn) idx q.2.1 "OnceLedger"))
theorem ix_MT_ok : ix_MT.all ix_hok = true := by decide +kernel
theorem ix_ins_ok : ∀ ci, ci < 6 → lw_tbl[ix_ins.getD ci 0]? = some (.instantiable (ix_RC ci) (ix_NN ci)) ∧ lw_tbl[ix_ini.getD ci 0]? = some (.initialized (ix_RC ci)) := by decide +kernel
theorem ix_mw_ok : lw_tbl[ix_mw.getD 0 0]? = some (.static Lib.Math.max.name) ∧ lw_tbl[ix_mw.getD 1 0]? = some (.code Lib.Math.max.name Lib.Math.max.code 2 (some .int)) ∧ lw_tbl[ix_mw.getD 2 0]? = some (.static Lib.Math.min.name) ∧ lw_tbl[ix_mw.getD 3 0]? = some (.code Lib.Math.min.name Lib.Math.min.code 2 (some .int)) ∧ lw_tbl[ix_mw.getD 4 0]? = some (.instanceMethod objectInit) ∧ lw_tbl[ix_mw.getD 5 0]? = some (.code objectInit ⟨#[0xb1]⟩ 1 none) ∧ lw_tbl[ix_mw.getD 6 0]? = some (.initialized "java/lang/Math") ∧ lw_tbl[ix_mw.getD 7 0]? = some (.arrayClass .int) ∧ lw_tbl[ix_mw.getD 8 0]? = some (.arrayClass .byte) ∧ lw_tbl[ix_mw.getD 9 0]? = some (.arrayClass .boolean) := by decide +kernel
end
section
/-! the methods' words, one by one -/
def ix_mok (q : ix_M) : Bool := match q with
  | (cn, nm, cc, mL, rt, np, kd, T, ic, ii, is) => decide (lw_tbl[ic]? = some (.code nm cc mL rt)) && decide (lw_tbl[ii]? = some (if kd = 1 then .static nm else .instanceMethod nm)) && decide (kd = 0 → lw_tbl[is]? = some (.selects (ix_RC cn) nm nm)) && decide (nm.cls = ix_RC cn) && decide (plainName nm.cls = true) && decide (mL ≤ 19) && decide (nm.cls ≠ "java/lang/invoke/MethodHandle" ∧ nm.cls ≠ "java/lang/invoke/VarHandle") && decide ((parseMethodDescriptor nm.desc).map (fun d => d.parameters.length) = some np) && decide (kd = 2 → nm.name = "<init>" ∧ rt = none) && decide (kd ≤ 2) && ix_tln T && decide (lw_tbl[ix_ini.getD cn 0]? = some (.initialized nm.cls))
theorem mD_X0_init_ok : ix_mok mD_X0_init = true := by decide +kernel
theorem mD_X0_clear_ok : ix_mok mD_X0_clear = true := by decide +kernel
theorem mD_X0_cutTo_ok : ix_mok mD_X0_cutTo = true := by decide +kernel
theorem mD_X0_at_ok : ix_mok mD_X0_at = true := by decide +kernel
theorem mD_X0_add_ok : ix_mok mD_X0_add = true := by decide +kernel
theorem mD_X0_addNumber_ok : ix_mok mD_X0_addNumber = true := by decide +kernel
theorem mD_X0_number_ok : ix_mok mD_X0_number = true := by decide +kernel
theorem mD_X0_seal_ok : ix_mok mD_X0_seal = true := by decide +kernel
theorem mD_X1_init_ok : ix_mok mD_X1_init = true := by decide +kernel
theorem mD_X1_clear_ok : ix_mok mD_X1_clear = true := by decide +kernel
theorem mD_X1_append_ok : ix_mok mD_X1_append = true := by decide +kernel
theorem mD_X1_has_ok : ix_mok mD_X1_has = true := by decide +kernel
theorem mD_X1_startOf_ok : ix_mok mD_X1_startOf = true := by decide +kernel
theorem mD_X1_field_ok : ix_mok mD_X1_field = true := by decide +kernel
theorem mD_X1_kindOf_ok : ix_mok mD_X1_kindOf = true := by decide +kernel
theorem mD_X1_isSeen_ok : ix_mok mD_X1_isSeen = true := by decide +kernel
theorem mD_X1_dropBroken_ok : ix_mok mD_X1_dropBroken = true := by decide +kernel
theorem mD_X1_cutBroken_ok : ix_mok mD_X1_cutBroken = true := by decide +kernel
theorem mD_X1_isSentBy_ok : ix_mok mD_X1_isSentBy = true := by decide +kernel
theorem mD_X1_nextOf_ok : ix_mok mD_X1_nextOf = true := by decide +kernel
theorem mD_X1_offsetOfRecent_ok : ix_mok mD_X1_offsetOfRecent = true := by decide +kernel
theorem mD_X1_hasEndOf_ok : ix_mok mD_X1_hasEndOf = true := by decide +kernel
theorem mD_X1_stable_ok : ix_mok mD_X1_stable = true := by decide +kernel
theorem mD_X1_committedEntries_ok : ix_mok mD_X1_committedEntries = true := by decide +kernel
theorem mD_X1_firstCommitted_ok : ix_mok mD_X1_firstCommitted = true := by decide +kernel
theorem mD_X1_firstSeen_ok : ix_mok mD_X1_firstSeen = true := by decide +kernel
theorem mD_X1_copyPayload_ok : ix_mok mD_X1_copyPayload = true := by decide +kernel
theorem mD_X2_init_ok : ix_mok mD_X2_init = true := by decide +kernel
theorem mD_X2_forget_ok : ix_mok mD_X2_forget = true := by decide +kernel
theorem mD_X2_openTransaction_ok : ix_mok mD_X2_openTransaction = true := by decide +kernel
theorem mD_X2_closeTransaction_ok : ix_mok mD_X2_closeTransaction = true := by decide +kernel
theorem mD_X2_isOpen_ok : ix_mok mD_X2_isOpen = true := by decide +kernel
theorem mD_X2_hasAdded_ok : ix_mok mD_X2_hasAdded = true := by decide +kernel
theorem mD_X3_init_ok : ix_mok mD_X3_init = true := by decide +kernel
theorem mD_X3_clear_ok : ix_mok mD_X3_clear = true := by decide +kernel
theorem mD_X3_note_ok : ix_mok mD_X3_note = true := by decide +kernel
theorem mD_X3_bytesOf_ok : ix_mok mD_X3_bytesOf = true := by decide +kernel
theorem mD_X3_keptOf_ok : ix_mok mD_X3_keptOf = true := by decide +kernel
theorem mD_X4_init_ok : ix_mok mD_X4_init = true := by decide +kernel
theorem mD_X4_format_ok : ix_mok mD_X4_format = true := by decide +kernel
theorem mD_X4_feed_ok : ix_mok mD_X4_feed = true := by decide +kernel
theorem mD_X4_register_ok : ix_mok mD_X4_register = true := by decide +kernel
theorem mD_X4_begin_ok : ix_mok mD_X4_begin = true := by decide +kernel
theorem mD_X4_send_ok : ix_mok mD_X4_send = true := by decide +kernel
theorem mD_X4_later_ok : ix_mok mD_X4_later = true := by decide +kernel
theorem mD_X4_end_ok : ix_mok mD_X4_end = true := by decide +kernel
theorem mD_X4_mark_ok : ix_mok mD_X4_mark = true := by decide +kernel
theorem mD_X4_marked_ok : ix_mok mD_X4_marked = true := by decide +kernel
theorem mD_X4_tick_ok : ix_mok mD_X4_tick = true := by decide +kernel
theorem mD_X4_fetch_ok : ix_mok mD_X4_fetch = true := by decide +kernel
theorem mD_X4_answer_ok : ix_mok mD_X4_answer = true := by decide +kernel
theorem mD_X4_sync_ok : ix_mok mD_X4_sync = true := by decide +kernel
theorem mD_X4_crash_ok : ix_mok mD_X4_crash = true := by decide +kernel
theorem mD_X4_open_ok : ix_mok mD_X4_open = true := by decide +kernel
theorem mD_X4_partition_ok : ix_mok mD_X4_partition = true := by decide +kernel
theorem mD_X4_entry_ok : ix_mok mD_X4_entry = true := by decide +kernel
theorem mD_X4_producer_ok : ix_mok mD_X4_producer = true := by decide +kernel
theorem mD_X4_next_ok : ix_mok mD_X4_next = true := by decide +kernel
theorem mD_X4_byteOf_ok : ix_mok mD_X4_byteOf = true := by decide +kernel
theorem mD_X4_count_ok : ix_mok mD_X4_count = true := by decide +kernel
theorem mD_X4_build_ok : ix_mok mD_X4_build = true := by decide +kernel
theorem mD_X4_forget_ok : ix_mok mD_X4_forget = true := by decide +kernel
theorem mD_X4_isKey_ok : ix_mok mD_X4_isKey = true := by decide +kernel
theorem mD_X4_isRegistered_ok : ix_mok mD_X4_isRegistered = true := by decide +kernel
theorem mD_X4_isPartition_ok : ix_mok mD_X4_isPartition = true := by decide +kernel
theorem mD_X4_isPlace_ok : ix_mok mD_X4_isPlace = true := by decide +kernel
theorem mD_X4_placeOf_ok : ix_mok mD_X4_placeOf = true := by decide +kernel
theorem mD_X4_rowOf_ok : ix_mok mD_X4_rowOf = true := by decide +kernel
theorem mD_X4_refusalOf_ok : ix_mok mD_X4_refusalOf = true := by decide +kernel
theorem mD_X4_takeSent_ok : ix_mok mD_X4_takeSent = true := by decide +kernel
theorem mD_X4_logHasRoom_ok : ix_mok mD_X4_logHasRoom = true := by decide +kernel
theorem mD_X4_bookHasRoom_ok : ix_mok mD_X4_bookHasRoom = true := by decide +kernel
theorem mD_X4_registeredProducers_ok : ix_mok mD_X4_registeredProducers = true := by decide +kernel
theorem mD_X4_openTransactions_ok : ix_mok mD_X4_openTransactions = true := by decide +kernel
theorem mD_X4_openThatAdded_ok : ix_mok mD_X4_openThatAdded = true := by decide +kernel
theorem mD_X4_writeToLog_ok : ix_mok mD_X4_writeToLog = true := by decide +kernel
theorem mD_X4_writeToBook_ok : ix_mok mD_X4_writeToBook = true := by decide +kernel
theorem mD_X4_learn_ok : ix_mok mD_X4_learn = true := by decide +kernel
theorem mD_X4_markLaters_ok : ix_mok mD_X4_markLaters = true := by decide +kernel
theorem mD_X4_setMark_ok : ix_mok mD_X4_setMark = true := by decide +kernel
theorem mD_X4_raiseEpoch_ok : ix_mok mD_X4_raiseEpoch = true := by decide +kernel
theorem mD_X4_decide_ok : ix_mok mD_X4_decide = true := by decide +kernel
theorem mD_X4_finish_ok : ix_mok mD_X4_finish = true := by decide +kernel
theorem mD_X4_endOverdue_ok : ix_mok mD_X4_endOverdue = true := by decide +kernel
theorem mD_X4_finishDecided_ok : ix_mok mD_X4_finishDecided = true := by decide +kernel
theorem mD_X4_firstToEnd_ok : ix_mok mD_X4_firstToEnd = true := by decide +kernel
theorem mD_X5_init_ok : ix_mok mD_X5_init = true := by decide +kernel
theorem mD_X5_forgets_ok : ix_mok mD_X5_forgets = true := by decide +kernel
theorem mD_X5_format_ok : ix_mok mD_X5_format = true := by decide +kernel
theorem mD_X5_sizeOf_ok : ix_mok mD_X5_sizeOf = true := by decide +kernel
theorem mD_X5_bytesFrom_ok : ix_mok mD_X5_bytesFrom = true := by decide +kernel
theorem mD_X5_unsynced_ok : ix_mok mD_X5_unsynced = true := by decide +kernel
theorem mD_X5_add_ok : ix_mok mD_X5_add = true := by decide +kernel
theorem mD_X5_opened_ok : ix_mok mD_X5_opened = true := by decide +kernel
theorem mD_X5_openedAt_ok : ix_mok mD_X5_openedAt = true := by decide +kernel
theorem mD_X5_bookHas_ok : ix_mok mD_X5_bookHas = true := by decide +kernel
theorem mD_X5_refused_ok : ix_mok mD_X5_refused = true := by decide +kernel
theorem mD_X5_registers_ok : ix_mok mD_X5_registers = true := by decide +kernel
theorem mD_X5_marksOf_ok : ix_mok mD_X5_marksOf = true := by decide +kernel
theorem mD_X5_finishes_ok : ix_mok mD_X5_finishes = true := by decide +kernel
theorem mD_X5_closes_ok : ix_mok mD_X5_closes = true := by decide +kernel
theorem mD_X5_ends_ok : ix_mok mD_X5_ends = true := by decide +kernel
theorem mD_X5_register_ok : ix_mok mD_X5_register = true := by decide +kernel
theorem mD_X5_begins_ok : ix_mok mD_X5_begins = true := by decide +kernel
theorem mD_X5_begin_ok : ix_mok mD_X5_begin = true := by decide +kernel
theorem mD_X5_offsetOf_ok : ix_mok mD_X5_offsetOf = true := by decide +kernel
theorem mD_X5_nextOf_ok : ix_mok mD_X5_nextOf = true := by decide +kernel
theorem mD_X5_again_ok : ix_mok mD_X5_again = true := by decide +kernel
theorem mD_X5_send_ok : ix_mok mD_X5_send = true := by decide +kernel
theorem mD_X5_isGroup_ok : ix_mok mD_X5_isGroup = true := by decide +kernel
theorem mD_X5_isPartition_ok : ix_mok mD_X5_isPartition = true := by decide +kernel
theorem mD_X5_later_ok : ix_mok mD_X5_later = true := by decide +kernel
theorem mD_X5_later__ok : ix_mok mD_X5_later_ = true := by decide +kernel
theorem mD_X5_end_ok : ix_mok mD_X5_end = true := by decide +kernel
theorem mD_X5_mark_ok : ix_mok mD_X5_mark = true := by decide +kernel
theorem mD_X5_marked_ok : ix_mok mD_X5_marked = true := by decide +kernel
theorem mD_X5_tick_ok : ix_mok mD_X5_tick = true := by decide +kernel
theorem mD_X5_manyOf_ok : ix_mok mD_X5_manyOf = true := by decide +kernel
theorem mD_X5_stable_ok : ix_mok mD_X5_stable = true := by decide +kernel
theorem mD_X5_isSeen_ok : ix_mok mD_X5_isSeen = true := by decide +kernel
theorem mD_X5_fetch_ok : ix_mok mD_X5_fetch = true := by decide +kernel
theorem mD_X5_answer_ok : ix_mok mD_X5_answer = true := by decide +kernel
theorem mD_X5_feed_ok : ix_mok mD_X5_feed = true := by decide +kernel
theorem mD_X5_sync_ok : ix_mok mD_X5_sync = true := by decide +kernel
theorem mD_X5_crash_ok : ix_mok mD_X5_crash = true := by decide +kernel
theorem mD_X5_tells_ok : ix_mok mD_X5_tells = true := by decide +kernel
theorem mD_X5_open_ok : ix_mok mD_X5_open = true := by decide +kernel
theorem mD_X5_partition_ok : ix_mok mD_X5_partition = true := by decide +kernel
theorem mD_X5_bytesOf_ok : ix_mok mD_X5_bytesOf = true := by decide +kernel
theorem mD_X5_seenOf_ok : ix_mok mD_X5_seenOf = true := by decide +kernel
theorem mD_X5_entry_ok : ix_mok mD_X5_entry = true := by decide +kernel
theorem mD_X5_producer_ok : ix_mok mD_X5_producer = true := by decide +kernel
theorem mD_X5_next_ok : ix_mok mD_X5_next = true := by decide +kernel
theorem mD_X5_byteIn_ok : ix_mok mD_X5_byteIn = true := by decide +kernel
theorem mD_X5_behind_ok : ix_mok mD_X5_behind = true := by decide +kernel
theorem mD_X5_byteAt_ok : ix_mok mD_X5_byteAt = true := by decide +kernel
theorem mD_X5_byteOf_ok : ix_mok mD_X5_byteOf = true := by decide +kernel
theorem mD_X5_count_ok : ix_mok mD_X5_count = true := by decide +kernel
theorem mD_J7_fill_53178_ok : ix_mok mD_J7_fill_53178 = true := by decide +kernel
theorem ix_mNs_ok : ∀ q ∈ mNs, ix_mok q = true := by
  intro q hq
  simp only [mNs, List.mem_cons, List.not_mem_nil, or_false] at hq
  rcases hq with rfl | rfl | rfl | rfl | rfl | rfl | rfl | rfl | rfl | rfl | rfl | rfl | rfl | rfl | rfl | rfl | rfl | rfl | rfl | rfl | rfl | rfl | rfl | rfl | rfl | rfl | rfl | rfl | rfl | rfl | rfl | rfl | rfl | rfl | rfl | rfl | rfl | rfl | rfl | rfl | rfl | rfl | rfl | rfl | rfl | rfl | rfl | rfl | rfl | rfl | rfl | rfl | rfl | rfl | rfl | rfl | rfl | rfl | rfl | rfl | rfl | rfl | rfl | rfl | rfl | rfl | rfl | rfl | rfl | rfl | rfl | rfl | rfl | rfl | rfl | rfl | rfl | rfl | rfl | rfl | rfl | rfl | rfl | rfl | rfl | rfl | rfl | rfl | rfl | rfl | rfl | rfl | rfl | rfl | rfl | rfl | rfl | rfl | rfl | rfl | rfl | rfl | rfl | rfl | rfl | rfl | rfl | rfl | rfl | rfl | rfl | rfl | rfl | rfl | rfl | rfl | rfl | rfl | rfl | rfl | rfl | rfl | rfl | rfl | rfl | rfl | rfl | rfl | rfl | rfl | rfl | rfl | rfl | rfl | rfl | rfl | rfl | rfl | rfl
  · exact mD_X0_init_ok
  · exact mD_X0_clear_ok
  · exact mD_X0_cutTo_ok
  · exact mD_X0_at_ok
  · exact mD_X0_add_ok
  · exact mD_X0_addNumber_ok
  · exact mD_X0_number_ok
  · exact mD_X0_seal_ok
  · exact mD_X1_init_ok
  · exact mD_X1_clear_ok
  · exact mD_X1_append_ok
  · exact mD_X1_has_ok
  · exact mD_X1_startOf_ok
  · exact mD_X1_field_ok
  · exact mD_X1_kindOf_ok
  · exact mD_X1_isSeen_ok
  · exact mD_X1_dropBroken_ok
  · exact mD_X1_cutBroken_ok
  · exact mD_X1_isSentBy_ok
  · exact mD_X1_nextOf_ok
  · exact mD_X1_offsetOfRecent_ok
  · exact mD_X1_hasEndOf_ok
  · exact mD_X1_stable_ok
  · exact mD_X1_committedEntries_ok
  · exact mD_X1_firstCommitted_ok
  · exact mD_X1_firstSeen_ok
  · exact mD_X1_copyPayload_ok
  · exact mD_X2_init_ok
  · exact mD_X2_forget_ok
  · exact mD_X2_openTransaction_ok
  · exact mD_X2_closeTransaction_ok
  · exact mD_X2_isOpen_ok
  · exact mD_X2_hasAdded_ok
  · exact mD_X3_init_ok
  · exact mD_X3_clear_ok
  · exact mD_X3_note_ok
  · exact mD_X3_bytesOf_ok
  · exact mD_X3_keptOf_ok
  · exact mD_X4_init_ok
  · exact mD_X4_format_ok
  · exact mD_X4_feed_ok
  · exact mD_X4_register_ok
  · exact mD_X4_begin_ok
  · exact mD_X4_send_ok
  · exact mD_X4_later_ok
  · exact mD_X4_end_ok
  · exact mD_X4_mark_ok
  · exact mD_X4_marked_ok
  · exact mD_X4_tick_ok
  · exact mD_X4_fetch_ok
  · exact mD_X4_answer_ok
  · exact mD_X4_sync_ok
  · exact mD_X4_crash_ok
  · exact mD_X4_open_ok
  · exact mD_X4_partition_ok
  · exact mD_X4_entry_ok
  · exact mD_X4_producer_ok
  · exact mD_X4_next_ok
  · exact mD_X4_byteOf_ok
  · exact mD_X4_count_ok
  · exact mD_X4_build_ok
  · exact mD_X4_forget_ok
  · exact mD_X4_isKey_ok
  · exact mD_X4_isRegistered_ok
  · exact mD_X4_isPartition_ok
  · exact mD_X4_isPlace_ok
  · exact mD_X4_placeOf_ok
  · exact mD_X4_rowOf_ok
  · exact mD_X4_refusalOf_ok
  · exact mD_X4_takeSent_ok
  · exact mD_X4_logHasRoom_ok
  · exact mD_X4_bookHasRoom_ok
  · exact mD_X4_registeredProducers_ok
  · exact mD_X4_openTransactions_ok
  · exact mD_X4_openThatAdded_ok
  · exact mD_X4_writeToLog_ok
  · exact mD_X4_writeToBook_ok
  · exact mD_X4_learn_ok
  · exact mD_X4_markLaters_ok
  · exact mD_X4_setMark_ok
  · exact mD_X4_raiseEpoch_ok
  · exact mD_X4_decide_ok
  · exact mD_X4_finish_ok
  · exact mD_X4_endOverdue_ok
  · exact mD_X4_finishDecided_ok
  · exact mD_X4_firstToEnd_ok
  · exact mD_X5_init_ok
  · exact mD_X5_forgets_ok
  · exact mD_X5_format_ok
  · exact mD_X5_sizeOf_ok
  · exact mD_X5_bytesFrom_ok
  · exact mD_X5_unsynced_ok
  · exact mD_X5_add_ok
  · exact mD_X5_opened_ok
  · exact mD_X5_openedAt_ok
  · exact mD_X5_bookHas_ok
  · exact mD_X5_refused_ok
  · exact mD_X5_registers_ok
  · exact mD_X5_marksOf_ok
  · exact mD_X5_finishes_ok
  · exact mD_X5_closes_ok
  · exact mD_X5_ends_ok
  · exact mD_X5_register_ok
  · exact mD_X5_begins_ok
  · exact mD_X5_begin_ok
  · exact mD_X5_offsetOf_ok
  · exact mD_X5_nextOf_ok
  · exact mD_X5_again_ok
  · exact mD_X5_send_ok
  · exact mD_X5_isGroup_ok
  · exact mD_X5_isPartition_ok
  · exact mD_X5_later_ok
  · exact mD_X5_later__ok
  · exact mD_X5_end_ok
  · exact mD_X5_mark_ok
  · exact mD_X5_marked_ok
  · exact mD_X5_tick_ok
  · exact mD_X5_manyOf_ok
  · exact mD_X5_stable_ok
  · exact mD_X5_isSeen_ok
  · exact mD_X5_fetch_ok
  · exact mD_X5_answer_ok
  · exact mD_X5_feed_ok
  · exact mD_X5_sync_ok
  · exact mD_X5_crash_ok
  · exact mD_X5_tells_ok
  · exact mD_X5_open_ok
  · exact mD_X5_partition_ok
  · exact mD_X5_bytesOf_ok
  · exact mD_X5_seenOf_ok
  · exact mD_X5_entry_ok
  · exact mD_X5_producer_ok
  · exact mD_X5_next_ok
  · exact mD_X5_byteIn_ok
  · exact mD_X5_behind_ok
  · exact mD_X5_byteAt_ok
  · exact mD_X5_byteOf_ok
  · exact mD_X5_count_ok
  · exact mD_J7_fill_53178_ok
end
section
/-! EACH INSTRUCTION OF THE INTERPRETER IS A STEP OF THE MACHINE -/
theorem ix_mNs_tok : ∀ q ∈ mNs, ix_tok q.2.2.1 q.2.2.2.2.2.2.2.1 = true := by
  intro q hq
  simp only [mNs, List.mem_cons, List.not_mem_nil, or_false] at hq
  rcases hq with rfl | rfl | rfl | rfl | rfl | rfl | rfl | rfl | rfl | rfl | rfl | rfl | rfl | rfl | rfl | rfl | rfl | rfl | rfl | rfl | rfl | rfl | rfl | rfl | rfl | rfl | rfl | rfl | rfl | rfl | rfl | rfl | rfl | rfl | rfl | rfl | rfl | rfl | rfl | rfl | rfl | rfl | rfl | rfl | rfl | rfl | rfl | rfl | rfl | rfl | rfl | rfl | rfl | rfl | rfl | rfl | rfl | rfl | rfl | rfl | rfl | rfl | rfl | rfl | rfl | rfl | rfl | rfl | rfl | rfl | rfl | rfl | rfl | rfl | rfl | rfl | rfl | rfl | rfl | rfl | rfl | rfl | rfl | rfl | rfl | rfl | rfl | rfl | rfl | rfl | rfl | rfl | rfl | rfl | rfl | rfl | rfl | rfl | rfl | rfl | rfl | rfl | rfl | rfl | rfl | rfl | rfl | rfl | rfl | rfl | rfl | rfl | rfl | rfl | rfl | rfl | rfl | rfl | rfl | rfl | rfl | rfl | rfl | rfl | rfl | rfl | rfl | rfl | rfl | rfl | rfl | rfl | rfl | rfl | rfl | rfl | rfl | rfl | rfl
  · exact mT_X0_init_ok
  · exact mT_X0_clear_ok
  · exact mT_X0_cutTo_ok
  · exact mT_X0_at_ok
  · exact mT_X0_add_ok
  · exact mT_X0_addNumber_ok
  · exact mT_X0_number_ok
  · exact mT_X0_seal_ok
  · exact mT_X1_init_ok
  · exact mT_X1_clear_ok
  · exact mT_X1_append_ok
  · exact mT_X1_has_ok
  · exact mT_X1_startOf_ok
  · exact mT_X1_field_ok
  · exact mT_X1_kindOf_ok
  · exact mT_X1_isSeen_ok
  · exact mT_X1_dropBroken_ok
  · exact mT_X1_cutBroken_ok
  · exact mT_X1_isSentBy_ok
  · exact mT_X1_nextOf_ok
  · exact mT_X1_offsetOfRecent_ok
  · exact mT_X1_hasEndOf_ok
  · exact mT_X1_stable_ok
  · exact mT_X1_committedEntries_ok
  · exact mT_X1_firstCommitted_ok
  · exact mT_X1_firstSeen_ok
  · exact mT_X1_copyPayload_ok
  · exact mT_X2_init_ok
  · exact mT_X2_forget_ok
  · exact mT_X2_openTransaction_ok
  · exact mT_X2_closeTransaction_ok
  · exact mT_X2_isOpen_ok
  · exact mT_X2_hasAdded_ok
  · exact mT_X3_init_ok
  · exact mT_X3_clear_ok
  · exact mT_X3_note_ok
  · exact mT_X3_bytesOf_ok
  · exact mT_X3_keptOf_ok
  · exact mT_X4_init_ok
  · exact mT_X4_format_ok
  · exact mT_X4_feed_ok
  · exact mT_X4_register_ok
  · exact mT_X4_begin_ok
  · exact mT_X4_send_ok
  · exact mT_X4_later_ok
  · exact mT_X4_end_ok
  · exact mT_X4_mark_ok
  · exact mT_X4_marked_ok
  · exact mT_X4_tick_ok
  · exact mT_X4_fetch_ok
  · exact mT_X4_answer_ok
  · exact mT_X4_sync_ok
  · exact mT_X4_crash_ok
  · exact mT_X4_open_ok
  · exact mT_X4_partition_ok
  · exact mT_X4_entry_ok
  · exact mT_X4_producer_ok
  · exact mT_X4_next_ok
  · exact mT_X4_byteOf_ok
  · exact mT_X4_count_ok
  · exact mT_X4_build_ok
  · exact mT_X4_forget_ok
  · exact mT_X4_isKey_ok
  · exact mT_X4_isRegistered_ok
  · exact mT_X4_isPartition_ok
  · exact mT_X4_isPlace_ok
  · exact mT_X4_placeOf_ok
  · exact mT_X4_rowOf_ok
  · exact mT_X4_refusalOf_ok
  · exact mT_X4_takeSent_ok
  · exact mT_X4_logHasRoom_ok
  · exact mT_X4_bookHasRoom_ok
  · exact mT_X4_registeredProducers_ok
  · exact mT_X4_openTransactions_ok
  · exact mT_X4_openThatAdded_ok
  · exact mT_X4_writeToLog_ok
  · exact mT_X4_writeToBook_ok
  · exact mT_X4_learn_ok
  · exact mT_X4_markLaters_ok
  · exact mT_X4_setMark_ok
  · exact mT_X4_raiseEpoch_ok
  · exact mT_X4_decide_ok
  · exact mT_X4_finish_ok
  · exact mT_X4_endOverdue_ok
  · exact mT_X4_finishDecided_ok
  · exact mT_X4_firstToEnd_ok
  · exact mT_X5_init_ok
  · exact mT_X5_forgets_ok
  · exact mT_X5_format_ok
  · exact mT_X5_sizeOf_ok
  · exact mT_X5_bytesFrom_ok
  · exact mT_X5_unsynced_ok
  · exact mT_X5_add_ok
  · exact mT_X5_opened_ok
  · exact mT_X5_openedAt_ok
  · exact mT_X5_bookHas_ok
  · exact mT_X5_refused_ok
  · exact mT_X5_registers_ok
  · exact mT_X5_marksOf_ok
  · exact mT_X5_finishes_ok
  · exact mT_X5_closes_ok
  · exact mT_X5_ends_ok
  · exact mT_X5_register_ok
  · exact mT_X5_begins_ok
  · exact mT_X5_begin_ok
  · exact mT_X5_offsetOf_ok
  · exact mT_X5_nextOf_ok
  · exact mT_X5_again_ok
  · exact mT_X5_send_ok
  · exact mT_X5_isGroup_ok
  · exact mT_X5_isPartition_ok
  · exact mT_X5_later_ok
  · exact mT_X5_later__ok
  · exact mT_X5_end_ok
  · exact mT_X5_mark_ok
  · exact mT_X5_marked_ok
  · exact mT_X5_tick_ok
  · exact mT_X5_manyOf_ok
  · exact mT_X5_stable_ok
  · exact mT_X5_isSeen_ok
  · exact mT_X5_fetch_ok
  · exact mT_X5_answer_ok
  · exact mT_X5_feed_ok
  · exact mT_X5_sync_ok
  · exact mT_X5_crash_ok
  · exact mT_X5_tells_ok
  · exact mT_X5_open_ok
  · exact mT_X5_partition_ok
  · exact mT_X5_bytesOf_ok
  · exact mT_X5_seenOf_ok
  · exact mT_X5_entry_ok
  · exact mT_X5_producer_ok
  · exact mT_X5_next_ok
  · exact mT_X5_byteIn_ok
  · exact mT_X5_behind_ok
  · exact mT_X5_byteAt_ok
  · exact mT_X5_byteOf_ok
  · exact mT_X5_count_ok
  · exact mT_J7_fill_53178_ok
theorem ix_dec {T : ix_T} {cc : ByteArray} {pc n : Nat} {i : Instr} (hT : ix_tok cc T = true) (h : ix_at T pc = some (i, n)) : decode cc pc = .ok (i, n) ∧ (pc, i, n) ∈ T := by
  unfold ix_at at h
  cases hf : T.find? (fun x => x.1 == pc) with
  | none => rw [hf] at h; cases h
  | some x =>
    rw [hf] at h
    have h1 := List.find?_some hf
    have h2 := List.mem_of_find?_eq_some hf
    obtain ⟨j, w⟩ := x
    simp at h1 h
    subst h1; subst h
    have h3 := List.all_eq_true.mp hT _ h2
    exact ⟨of_decide_eq_true h3, h2⟩
theorem ix_cls_facts : ∀ ci, ci ≤ 5 → vwCl[ci]? = some (ix_RC ci, ix_TT ci, ix_NN ci) ∧ (∀ w ∈ u_ws (ix_RC ci) (ix_TT ci) (ix_NN ci), w ∈ ix_tb) ∧ (∀ a, a < ix_NN ci → ∀ b, b < ix_NN ci → a ≠ b → (ix_TT ci a).2.1 ≠ (ix_TT ci b).2.1) ∧ ∀ k, k < ix_NN ci → parseFieldDescriptor (ix_TT ci k).2.2.1 = some (ix_ty ci k) := by
  intro ci h
  rcases (by omega : ci = 0 ∨ ci = 1 ∨ ci = 2 ∨ ci = 3 ∨ ci = 4 ∨ ci = 5) with rfl | rfl | rfl | rfl | rfl | rfl
  · exact ⟨rfl, fun w hw => List.mem_filter.mpr ⟨iX0 w hw, (by decide +kernel : ∀ w ∈ wsX00, goodWord w = true) w hw⟩, nmX0, tyX0_ok⟩
  · exact ⟨rfl, fun w hw => List.mem_filter.mpr ⟨iX1 w hw, (by decide +kernel : ∀ w ∈ wsX10, goodWord w = true) w hw⟩, nmX1, tyX1_ok⟩
  · exact ⟨rfl, fun w hw => List.mem_filter.mpr ⟨iX2 w hw, (by decide +kernel : ∀ w ∈ wsX20, goodWord w = true) w hw⟩, nmX2, tyX2_ok⟩
  · exact ⟨rfl, fun w hw => List.mem_filter.mpr ⟨iX3 w hw, (by decide +kernel : ∀ w ∈ wsX30, goodWord w = true) w hw⟩, nmX3, tyX3_ok⟩
  · exact ⟨rfl, fun w hw => List.mem_filter.mpr ⟨iX4 w hw, (by decide +kernel : ∀ w ∈ wsX40, goodWord w = true) w hw⟩, nmX4, tyX4_ok⟩
  · exact ⟨rfl, fun w hw => List.mem_filter.mpr ⟨iX5 w hw, (by decide +kernel : ∀ w ∈ wsX50, goodWord w = true) w hw⟩, nmX5, tyX5_ok⟩
theorem ix_fld_ok {cn idx nest ci k i : Nat} (h : ix_fld cn idx = some (nest, ci, k, i)) : ci ≤ 5 ∧ k < ix_NN ci ∧ lw_tbl[i]? = some (if nest = 0 then .fieldLink (ix_RC cn) idx (ix_TT ci k).1 (ix_TT ci k).2.1 (ix_TT ci k).2.2.1 else .fieldLinkNest (ix_RC cn) idx (ix_TT ci k).1 (ix_TT ci k).2.1 (ix_TT ci k).2.2.1 "OnceLedger") := by
  unfold ix_fld at h
  cases hf : ix_FT.find? (fun x => x.1 == cn && x.2.1 == idx) with
  | none => rw [hf] at h; cases h
  | some x =>
    rw [hf] at h
    have h1 := List.find?_some hf
    have h2 := List.all_eq_true.mp ix_FT_ok _ (List.mem_of_find?_eq_some hf)
    obtain ⟨a1, a2, a3, a4, a5, a6⟩ := x
    simp only [Option.map_some, Option.some.injEq, Prod.mk.injEq] at h
    obtain ⟨rfl, rfl, rfl, rfl⟩ := h
    simp only [Bool.and_eq_true, beq_iff_eq] at h1
    obtain ⟨rfl, rfl⟩ := h1
    simp only [ix_fok, Bool.and_eq_true, decide_eq_true_eq] at h2
    exact ⟨h2.1.1, h2.1.2, h2.2⟩
theorem ix_con_ok {cn idx i : Nat} {v : Int32} (h : ix_con cn idx = some (v, i)) : lw_tbl[i]? = some (.constant (ix_RC cn) idx v) := by
  unfold ix_con at h
  cases hf : ix_KT.find? (fun x => x.1 == cn && x.2.1 == idx) with
  | none => rw [hf] at h; cases h
  | some x =>
    rw [hf] at h
    have h1 := List.find?_some hf
    have h2 := List.all_eq_true.mp ix_KT_ok _ (List.mem_of_find?_eq_some hf)
    obtain ⟨a1, a2, a3, a4⟩ := x
    simp only [Option.map_some, Option.some.injEq, Prod.mk.injEq] at h
    obtain ⟨rfl, rfl⟩ := h
    simp only [Bool.and_eq_true, beq_iff_eq] at h1
    obtain ⟨rfl, rfl⟩ := h1
    simpa only [ix_kok, decide_eq_true_eq] using h2
theorem ix_cnl_ok {cn idx i : Nat} {v : Int64} (h : ix_cnl cn idx = some (v, i)) : lw_tbl[i]? = some (.constantLong (ix_RC cn) idx v) := by
  unfold ix_cnl at h
  cases hf : ix_KL.find? (fun x => x.1 == cn && x.2.1 == idx) with
  | none => rw [hf] at h; cases h
  | some x =>
    rw [hf] at h
    have h1 := List.find?_some hf
    have h2 := List.all_eq_true.mp ix_KL_ok _ (List.mem_of_find?_eq_some hf)
    obtain ⟨a1, a2, a3, a4⟩ := x
    simp only [Option.map_some, Option.some.injEq, Prod.mk.injEq] at h
    obtain ⟨rfl, rfl⟩ := h
    simp only [Bool.and_eq_true, beq_iff_eq] at h1
    obtain ⟨rfl, rfl⟩ := h1
    simpa only [ix_lok, decide_eq_true_eq] using h2
theorem ix_cls_ok {cn idx ci i : Nat} (h : ix_cls cn idx = some (ci, i)) : ci ≤ 5 ∧ lw_tbl[i]? = some (.classLink (ix_RC cn) idx (ix_RC ci)) := by
  unfold ix_cls at h
  cases hf : ix_CT.find? (fun x => x.1 == cn && x.2.1 == idx) with
  | none => rw [hf] at h; cases h
  | some x =>
    rw [hf] at h
    have h1 := List.find?_some hf
    have h2 := List.all_eq_true.mp ix_CT_ok _ (List.mem_of_find?_eq_some hf)
    obtain ⟨a1, a2, a3, a4⟩ := x
    simp only [Option.map_some, Option.some.injEq, Prod.mk.injEq] at h
    obtain ⟨rfl, rfl⟩ := h
    simp only [Bool.and_eq_true, beq_iff_eq] at h1
    obtain ⟨rfl, rfl⟩ := h1
    simpa only [ix_cok, Bool.and_eq_true, decide_eq_true_eq] using h2
theorem ix_mth_ok {cn idx nest y i : Nat} (h : ix_mth cn idx = some (nest, y, i)) : (nest = 2 → lw_tbl[i]? = some (.methodLink (ix_RC cn) idx objectInit)) ∧ (nest = 3 → lw_tbl[i]? = some (.methodLink (ix_RC cn) idx Lib.Math.max.name)) ∧ (nest = 4 → lw_tbl[i]? = some (.methodLink (ix_RC cn) idx Lib.Math.min.name)) ∧ (¬ nest = 2 → ¬ nest = 3 → ¬ nest = 4 → ∃ q, mNs[y]? = some q ∧ lw_tbl[i]? = some (if nest = 0 then .methodLink (ix_RC cn) idx q.2.1 else .methodLinkNest (ix_RC cn) idx q.2.1 "OnceLedger")) := by
  unfold ix_mth at h
  cases hf : ix_MT.find? (fun x => x.1 == cn && x.2.1 == idx) with
  | none => rw [hf] at h; cases h
  | some x =>
    rw [hf] at h
    have h1 := List.find?_some hf
    have h2 := List.all_eq_true.mp ix_MT_ok _ (List.mem_of_find?_eq_some hf)
    obtain ⟨a1, a2, a3, a4, a5⟩ := x
    simp only [Option.map_some, Option.some.injEq, Prod.mk.injEq] at h
    obtain ⟨rfl, rfl, rfl⟩ := h
    simp only [Bool.and_eq_true, beq_iff_eq] at h1
    obtain ⟨rfl, rfl⟩ := h1
    unfold ix_hok at h2
    refine ⟨fun z => ?_, fun z => ?_, fun z => ?_, fun z z3 z4 => ?_⟩
    · simp only [z, if_true, decide_eq_true_eq] at h2
      exact h2
    · subst z
      simpa using h2
    · subst z
      simpa using h2
    · simp only [z, z3, z4, if_false] at h2
      cases hq : mNs[a4]? with
      | none => simp [hq] at h2
      | some q =>
        simp only [hq, decide_eq_true_eq] at h2
        exact ⟨q, rfl, h2⟩
theorem ix_ok_fit {b base : Nat} {ty : FieldType} {v : Value} (h : ix_ok ty v = true) : narrow ty (ix_cv b base v) = ix_cv b base v ∧ fits ty (ix_cv b base v) = true := by
  unfold ix_ok at h
  split at h
  · exact ⟨rfl, rfl⟩
  · have h := of_decide_eq_true h
    rcases h with rfl | rfl
    · exact (by decide +kernel : narrow .boolean (.int 0) = .int 0 ∧ fits .boolean (.int 0) = true)
    · exact (by decide +kernel : narrow .boolean (.int 1) = .int 1 ∧ fits .boolean (.int 1) = true)
  · exact ⟨rfl, rfl⟩
  · exact ⟨rfl, rfl⟩
  · cases h
/-- the machine at every state that an abstract frame pictures -/
def ix_W (p : Program) (l : Launch) (e : Env) (R : Room) (s : State) (m : MethodId) (args : Array Value) (below : List Frame) (meth : Method) (c : Code) (Q : State → Prop) (D : va_G) (b base : Nat) (aC : FieldType → ClassId) (q : ix_M) (h0 : ix_H) (f : ix_F) : Prop :=
  ∀ (H : Heap) (locs : List Loc) (la : Array Slot), ix_I D b base aC s.heap f.2.2.2 H locs → lv_has la q.2.2.2.1 (f.2.1.map (ix_cp b base)) → W p l e R s m args below meth c H locs (f.2.2.2.1 - h0.1) (f.2.2.2.2.1 - h0.2.1) Q (F0 m f.1 la (f.2.2.1.map (ix_cv b base)))
/-- what holds of the method that runs -/
def ix_X (p : Program) (R : Room) (s : State) (m : MethodId) (args : Array Value) (meth : Method) (c : Code) (D : va_G) (b base : Nat) (aC : FieldType → ClassId) (q : ix_M) (S : ix_S) : Prop :=
  p.tables.exec = Jvm.exec ∧ c.code = q.2.2.1 ∧ meth.sig.returnType = q.2.2.2.2.1 ∧ c.maxLocals = q.2.2.2.1 ∧ s.vm.findClass (ix_RC q.1) = some m.cls ∧ (∀ w ∈ ix_tb, w.before args s = true) ∧ ix_K D aC s ∧
  (∀ (L : Nat) (xs : Nat → Int32), S = some (L, xs) → va_X b L xs s s.heap ∧ b < s.heap.size ∧ b < base) ∧ (q.2.2.2.2.2.2.1 = 2 → meth.name = "<init>") ∧ meth.locks = false ∧ ix_tok q.2.2.1 q.2.2.2.2.2.2.2.1 = true ∧ ix_tln q.2.2.2.2.2.2.2.1 = true ∧ 1 ≤ R.frames ∧ 38 ≤ R.locals
section IXW
variable {p : Program} {l : Launch} {e : Env} {R : Room} {s : State} {m : MethodId} {args : Array Value} {below : List Frame} {meth : Method} {c : Code} {Q : State → Prop}
variable {D : va_G} {b base : Nat} {aC : FieldType → ClassId} {q : ix_M} {h0 : ix_H} {S : ix_S} {pc : Nat} {ls : ix_L} {st : List Value} {h : ix_H} {f : ix_F}
theorem ix_word {w : Jvm.Cond} {i : Nat} (hts : ∀ w ∈ ix_tb, w.before args s = true) (h : lw_tbl[i]? = some w) (hg : goodWord w = true) : w.before args s = true := hts _ (List.mem_filter.mpr ⟨List.mem_of_getElem? h, hg⟩)
theorem ix_w_pure {H : Heap} {locs : List Loc} {cells slots : Nat} {la : Array Slot} {cc : ByteArray} (hx : p.tables.exec = Jvm.exec) (hb : c.code = cc) {i : Instr} {st' : List Value} (hp : ix_pure i st = some st') (hd : decode cc pc = .ok (i, ix_len i))
    (k : W p l e R s m args below meth c H locs cells slots Q (F0 m (pc + ix_len i) la (st'.map (ix_cv b base)))) : W p l e R s m args below meth c H locs cells slots Q (F0 m pc la (st.map (ix_cv b base))) := by
  unfold ix_pure at hp
  split at hp
  · cases hp; exact lv_iconst hx hb hd rfl k
  · cases hp; exact lv_bipush hx hb hd rfl k
  · cases hp; exact lv_sipush hx hb hd rfl k
  · split at hp
    · cases hp; exact lv_iadd hx hb hd k
    · cases hp
  · split at hp
    · cases hp; exact lv_isub hx hb hd k
    · cases hp
  · split at hp
    · cases hp; exact lv_imul hx hb hd k
    · cases hp
  · split at hp
    · cases hp; exact lv_iand hx hb hd k
    · cases hp
  · split at hp
    · cases hp; exact lv_ior hx hb hd k
    · cases hp
  · split at hp
    · cases hp; exact lv_ixor hx hb hd k
    · cases hp
  · split at hp
    · cases hp; exact lv_ishl hx hb hd k
    · cases hp
  · split at hp
    · cases hp; exact lv_ishr hx hb hd k
    · cases hp
  · split at hp
    · cases hp; exact lv_iushr hx hb hd rfl k
    · cases hp
  · split at hp
    · split at hp
      · cases hp
      · rename_i hz; cases hp; exact lv_irem hx hb hd hz k
    · cases hp
  · split at hp
    · split at hp
      · cases hp
      · rename_i hz; cases hp; exact lv_idiv hx hb hd hz k
    · cases hp
  · split at hp
    · cases hp; exact lv_ineg hx hb hd k
    · cases hp
  · split at hp
    · cases hp; exact lv_i2l hx hb hd rfl k
    · cases hp
  · split at hp
    · cases hp; exact lv_l2i hx hb hd rfl k
    · cases hp
  · split at hp
    · cases hp; exact lv_i2b hx hb hd rfl k
    · cases hp
  · split at hp
    · cases hp; exact lv_land hx hb hd k
    · cases hp
  · split at hp
    · cases hp; exact lv_lor hx hb hd k
    · cases hp
  · split at hp
    · cases hp; exact lv_lshl hx hb hd rfl k
    · cases hp
  · split at hp
    · cases hp; exact lv_lshr hx hb hd rfl k
    · cases hp
  · split at hp
    · cases hp; exact lv_lushr hx hb hd rfl k
    · cases hp
  · split at hp
    · split at hp
      · rename_i hz; cases hp; exact lv_dup hx hb hd (by rw [ix_cv_cat]; exact hz) k
      · cases hp
    · cases hp
  · split at hp
    · split at hp
      · rename_i hz; cases hp; exact lv_pop hx hb hd (by rw [ix_cv_cat]; exact hz) k
      · cases hp
    · cases hp
  · split at hp
    · split at hp
      · rename_i hz; cases hp; exact lv_dup2_11 hx hb hd (by rw [ix_cv_cat]; exact hz.1) (by rw [ix_cv_cat]; exact hz.2) k
      · cases hp
    · cases hp
  · cases hp
end IXW
end
section
/-! THE HEAP'S INSTRUCTIONS -/
section IXH
variable {p : Program} {l : Launch} {e : Env} {R : Room} {s : State} {m : MethodId} {args : Array Value} {below : List Frame} {meth : Method} {c : Code} {Q : State → Prop}
variable {D : va_G} {b base : Nat} {aC : FieldType → ClassId} {q : ix_M} {h0 : ix_H} {S : ix_S} {pc : Nat} {ls : ix_L} {st : List Value} {h : ix_H} {f : ix_F} {idx : Nat}
theorem ix_no_obj {ci : Nat} {fs : List Value} (h5 : ci ≤ 5) : (Sum.inr (ci, fs) : ix_E) ≠ ix_no_ := by
  intro z
  simp only [ix_no_, Sum.inr.injEq, Prod.mk.injEq] at z
  omega
theorem ix_no_arr {t : FieldType × vp_A} : (Sum.inl t : ix_E) ≠ ix_no_ := by
  intro z
  simp [ix_no_] at z
set_option maxHeartbeats 4000000 in
theorem ix_w_gf (X : ix_X p R s m args meth c D b base aC q S) (hr : ix_gf q.1 idx pc ls st h = some (.inl f)) (hd : decode q.2.2.1 pc = .ok (.getfield idx, 3)) (kk : ix_W p l e R s m args below meth c Q D b base aC q h0 f) : ix_W p l e R s m args below meth c Q D b base aC q h0 (pc, ls, st, h) := by
  obtain ⟨hx, hb, -, -, hown, hts, hK, -⟩ := X
  intro H locs la hI hl
  unfold ix_gf at hr
  split at hr
  · rename_i a r
    split at hr
    · rename_i ci fs nest cj k i hcell hfld
      split at hr
      · rename_i hci
        subst hci
        split at hr
        · rename_i v hv
          cases hr
          obtain ⟨c5, hk, hw⟩ := ix_fld_ok hfld
          obtain ⟨hc, hin, -, -⟩ := ix_cls_facts ci c5
          have ha : a < h.1 := hI.lt (by show h.2.2 a ≠ ix_no_; rw [hcell]; exact ix_no_obj c5)
          have he : (ix_ws b base aC h)[a]? = some (base + a, .inr (ci, fs.map (ix_cv b base))) := by rw [ix_ws_get ha, hcell]; rfl
          have hv' : (fs.map (ix_cv b base))[k]? = some (ix_cv b base v) := by rw [List.getElem?_map, hv]; rfl
          by_cases hn : nest = 0
          · rw [if_pos hn] at hw
            exact va_get (D := D) hx hb hts hin hown hK.1 hI.2.2.1 a he hc k hk (ix_word hts hw rfl) (fun _ z => z) hv' hd (kk H locs la hI hl)
          · rw [if_neg hn] at hw
            exact va_getN (D := D) hx hb hts hin hown hK.1 hI.2.2.1 a he hc k hk (va_Nw.use rfl (hK.2.1 _ (List.mem_filter.mpr ⟨List.mem_of_getElem? hw, rfl⟩))) (fun _ z => z) hv' hd (kk H locs la hI hl)
        · cases hr
      · cases hr
    · cases hr
  · cases hr
theorem ix_I_fset {H0 H H1 : Heap} {locs : List Loc} (hI : ix_I D b base aC H0 h H locs) {a ci k : Nat} {fs : List Value} {v : Value} {C : String} {T : u_T} {N : Nat} (ha : a < h.1) (hc : vwCl[ci]? = some (C, T, N)) (hap : ∀ x y, x < N → y < N → x ≠ y → D.2 ci x ≠ D.2 ci y) (hk : k < N) (hl : k < fs.length) {cell : Cell} (q2 : cell.cls = D.1 ci) (q3 : cell.vm = .none) (q4 : ∀ k, k < N → cell.slots[D.2 ci k]? = some (vp_V (fs.map (ix_cv b base)) k))
    (e1 : H1[base + a]? = some (cell.setSlot (D.2 ci k) (ix_cv b base v))) (e2 : H1.size = H.size) (e3 : ∀ y : Nat, y ≠ base + a → H1[y]? = H[y]?) : ix_I D b base aC H0 (ix_set h a (.inr (ci, fs.set k v))) H1 (locs ++ [⟨base + a, D.2 ci k⟩]) := by
  refine hI.set ha (x := .inr (ci, fs.set k v)) ?_ e2 e3
  refine ⟨_, hc, t_OB.to (V := updV (vp_V (fs.map (ix_cv b base))) k (ix_cv b base v)) ⟨_, e1, q2, q3, t_set q4 hap hk (ix_cv b base v)⟩ (fun j _ => ?_)⟩
  rw [vp_updV_set (by rw [List.length_map]; exact hl)]
  rw [List.map_set]
set_option maxHeartbeats 4000000 in
theorem ix_w_pf (X : ix_X p R s m args meth c D b base aC q S) (hr : ix_pf q.1 q.2.2.2.2.2.2.1 idx pc ls st h = some (.inl f)) (hd : decode q.2.2.1 pc = .ok (.putfield idx, 3)) (kk : ix_W p l e R s m args below meth c Q D b base aC q h0 f) : ix_W p l e R s m args below meth c Q D b base aC q h0 (pc, ls, st, h) := by
  obtain ⟨hx, hb, -, -, hown, hts, hK, -, hini, -⟩ := X
  intro H locs la hI hl
  unfold ix_pf at hr
  split at hr
  · rename_i v a r
    split at hr
    · rename_i ci fs nest cj k i hcell hfld
      split at hr
      · rename_i hcond
        obtain ⟨rfl, hkl, hok, hfin⟩ := hcond
        cases hr
        obtain ⟨c5, hk, hw⟩ := ix_fld_ok hfld
        obtain ⟨hc, hin, hnm, hty⟩ := ix_cls_facts ci c5
        have ha : a < h.1 := hI.lt (by show h.2.2 a ≠ ix_no_; rw [hcell]; exact ix_no_obj c5)
        have he : (ix_ws b base aC h)[a]? = some (base + a, .inr (ci, fs.map (ix_cv b base))) := by rw [ix_ws_get ha, hcell]; rfl
        obtain ⟨hn, hfit⟩ := ix_ok_fit (b := b) (base := base) hok
        have hap := va_apart (own := ix_RC q.1) hts hin (ix_ty ci) hty hnm hK.1 hc
        obtain ⟨r', g1, cell, q1, q2, q3, q4⟩ := hI.2.2.1 a _ he
        have hr' : r' = (ix_RC ci, ix_TT ci, ix_NN ci) := Option.some.inj (g1.symm.trans hc)
        subst hr'
        obtain ⟨hS, hfc, kC, hkC, hkind⟩ := hK.1.1 ci _ hc
        obtain ⟨cf, kf, fi, fl, hi, hsl⟩ := hS k hk
        have hlay := hts _ (hin _ (u_in_lay hk))
        unfold u_lay at hlay
        have hst := (u_facts hfc hkC (u_lays hts hin hk) hi).1
        have hd' := hty k hk
        have fin : ∀ H1 : Heap, H1[base + a]? = some (cell.setSlot fl.slot (ix_cv b base v)) → H1.size = H.size → (∀ y : Nat, y ≠ base + a → H1[y]? = H[y]?) → W p l e R s m args below meth c H1 (locs ++ [⟨base + a, fl.slot⟩]) (h.1 - h0.1) (h.2.1 - h0.2.1) Q (F0 m (pc + 3) la (r.map (ix_cv b base))) := by
          intro H1 e1 e2 e3
          rw [hsl] at e1 ⊢
          exact kk H1 _ la (ix_I_fset hI ha hc hap hk hkl q2 q3 q4 e1 e2 e3) hl
        by_cases hF : (ix_TT ci k).2.2.2 = true
        · obtain ⟨hkd, hcn, hnest⟩ := hfin hF
          rw [if_pos hnest] at hw
          rw [if_pos hF] at hlay
          have hcf : m.cls = cf := by
            obtain ⟨_, _, c', _, _, _, -, -, hf', -, -, -, hown2, -⟩ := Cond.laysFinal_spec hlay
            have z1 : c' = cf := by have := hi.symm.trans hf'; simp at this; exact this.1.symm
            have hdecl : (ix_TT ci k).1 = ix_RC q.1 := by
              rw [hcn]
              have : ∀ ci, ci ≤ 5 → ∀ k, k < ix_NN ci → (ix_TT ci k).1 = ix_RC ci := by decide +kernel
              exact this ci c5 k hk
            rw [hdecl] at hown2
            rw [← z1]; exact Option.some.inj (hown.symm.trans hown2)
          have h6 := u_fits hfc hkC hkind (Or.inr hlay) hi hd' hn hfit
          exact W.putFinK hx hb hown (ix_word hts hw rfl) hi hst hcf (hini hkd) (by rw [q2]; exact h6) q1 q3 (by rw [hsl]; exact k2_hasslot (q4 k hk)) rfl rfl hd fin
        · rw [if_neg hF] at hlay
          have h6 := u_store hfc hkC hkind hlay hi hd' hn hfit
          by_cases hnest : nest = 0
          · rw [if_pos hnest] at hw
            exact W.putK hx hb (f := fl) ⟨hown, ix_word hts hw rfl, ⟨_, _, _, hi⟩, hst⟩ (by rw [q2]; exact h6) q1 q3 (by rw [hsl]; exact k2_hasslot (q4 k hk)) rfl rfl hd fin
          · rw [if_neg hnest] at hw
            exact va_WputK hx hb (f := fl) hown (va_Nw.use rfl (hK.2.1 _ (List.mem_filter.mpr ⟨List.mem_of_getElem? hw, rfl⟩))) hi hst (by rw [q2]; exact h6) q1 q3 (by rw [hsl]; exact k2_hasslot (q4 k hk)) rfl rfl hd fin
      · cases hr
    · cases hr
  · cases hr
end IXH
end
section
/-! ARRAYS AND NEW CELLS -/
theorem ix_blank_cv (b base ci : Nat) : (ix_blank ci).map (ix_cv b base) = ix_blank ci := by
  unfold ix_blank
  rw [List.map_map]
  apply List.map_congr_left
  intro k _
  show ix_cv b base (ix_def (ix_ty ci k)) = ix_def (ix_ty ci k)
  unfold ix_def
  split <;> rfl
theorem ix_blank_ok : ∀ ci, ci ≤ 5 → ∀ j, j < ix_NN ci → defaultValue (ix_ty ci j) = vp_V (ix_blank ci) j := by decide +kernel
section IXR
variable {p : Program} {l : Launch} {e : Env} {R : Room} {s : State} {m : MethodId} {args : Array Value} {below : List Frame} {meth : Method} {c : Code} {Q : State → Prop}
variable {D : va_G} {b base : Nat} {aC : FieldType → ClassId} {q : ix_M} {h0 : ix_H} {S : ix_S} {pc : Nat} {ls : ix_L} {st : List Value} {h : ix_H} {f : ix_F} {idx : Nat}
set_option maxHeartbeats 4000000 in
theorem ix_w_al (X : ix_X p R s m args meth c D b base aC q S) (hr : ix_al S pc ls st h = some (.inl f)) (hd : decode q.2.2.1 pc = .ok (.arraylength, 1)) (kk : ix_W p l e R s m args below meth c Q D b base aC q h0 f) : ix_W p l e R s m args below meth c Q D b base aC q h0 (pc, ls, st, h) := by
  obtain ⟨hx, hb, -, -, hown, hts, hK, hX, -⟩ := X
  intro H locs la hI hl
  unfold ix_al at hr
  split at hr
  · rename_i a r
    split at hr
    · rename_i n g hcell
      cases hr
      have ha : a < h.1 := hI.lt (by show h.2.2 a ≠ ix_no_; rw [hcell]; exact ix_no_arr)
      have he : (ix_ws b base aC h)[a]? = some (base + a, .inl (aC .int, n, .inl g)) := by rw [ix_ws_get ha, hcell]; rfl
      exact va_alen hx hb hK.1 hI.2.2.1 a 0 he rfl rfl hd (kk H locs la hI hl)
    · rename_i n g hcell
      cases hr
      have ha : a < h.1 := hI.lt (by show h.2.2 a ≠ ix_no_; rw [hcell]; exact ix_no_arr)
      have he : (ix_ws b base aC h)[a]? = some (base + a, .inl (aC .byte, n, .inl g)) := by rw [ix_ws_get ha, hcell]; rfl
      exact va_alen hx hb hK.1 hI.2.2.1 a 1 he rfl rfl hd (kk H locs la hI hl)
    · rename_i n g hcell
      cases hr
      have ha : a < h.1 := hI.lt (by show h.2.2 a ≠ ix_no_; rw [hcell]; exact ix_no_arr)
      have he : (ix_ws b base aC h)[a]? = some (base + a, .inl (aC .boolean, n, .inl g)) := by rw [ix_ws_get ha, hcell]; rfl
      exact va_alen hx hb hK.1 hI.2.2.1 a 2 he rfl rfl hd (kk H locs la hI hl)
    · cases hr
  · split at hr
    · rename_i L xs
      cases hr
      obtain ⟨x1, x2, x3⟩ := hX L xs rfl
      exact va_slen hx hb x1 x2 (fun z => by unfold ix_A at z; omega) hI.2.2.2 hd (kk H locs la hI hl)
    · cases hr
  · cases hr
set_option maxHeartbeats 4000000 in
theorem ix_w_ia (X : ix_X p R s m args meth c D b base aC q S) (hr : ix_ia S pc ls st h = some (.inl f)) (hd : decode q.2.2.1 pc = .ok (.iaload, 1)) (kk : ix_W p l e R s m args below meth c Q D b base aC q h0 f) : ix_W p l e R s m args below meth c Q D b base aC q h0 (pc, ls, st, h) := by
  obtain ⟨hx, hb, -, -, hown, hts, hK, hX, -⟩ := X
  intro H locs la hI hl
  unfold ix_ia at hr
  split at hr
  · rename_i i a r
    split at hr
    · rename_i n g hcell
      split at hr
      · cases hr
      · rename_i hin
        cases hr
        have ha : a < h.1 := hI.lt (by show h.2.2 a ≠ ix_no_; rw [hcell]; exact ix_no_arr)
        have he : (ix_ws b base aC h)[a]? = some (base + a, .inl (aC .int, n, .inl g)) := by rw [ix_ws_get ha, hcell]; rfl
        exact va_iald hx hb hK.1 hI.2.2.1 a 0 he rfl hin hd (kk H locs la hI hl)
    · cases hr
  · split at hr
    · rename_i L xs
      split at hr
      · cases hr
      · rename_i hin
        cases hr
        obtain ⟨x1, x2, x3⟩ := hX L xs rfl
        exact va_sld hx hb x1 x2 (fun z => by unfold ix_A at z; omega) hI.2.2.2 hin hd (kk H locs la hI hl)
    · cases hr
  · cases hr
set_option maxHeartbeats 4000000 in
theorem ix_w_ba (X : ix_X p R s m args meth c D b base aC q S) (hr : ix_ba pc ls st h = some (.inl f)) (hd : decode q.2.2.1 pc = .ok (.baload, 1)) (kk : ix_W p l e R s m args below meth c Q D b base aC q h0 f) : ix_W p l e R s m args below meth c Q D b base aC q h0 (pc, ls, st, h) := by
  obtain ⟨hx, hb, -, -, hown, hts, hK, hX, -⟩ := X
  intro H locs la hI hl
  unfold ix_ba at hr
  split at hr
  · rename_i i a r
    split at hr
    · rename_i n g hcell
      split at hr
      · cases hr
      · rename_i hin
        cases hr
        have ha : a < h.1 := hI.lt (by show h.2.2 a ≠ ix_no_; rw [hcell]; exact ix_no_arr)
        have he : (ix_ws b base aC h)[a]? = some (base + a, .inl (aC .byte, n, .inl g)) := by rw [ix_ws_get ha, hcell]; rfl
        exact va_bald hx hb hK.1 hI.2.2.1 a 1 he rfl hin hd (kk H locs la hI hl)
    · rename_i n g hcell
      split at hr
      · cases hr
      · rename_i hin
        cases hr
        have ha : a < h.1 := hI.lt (by show h.2.2 a ≠ ix_no_; rw [hcell]; exact ix_no_arr)
        have he : (ix_ws b base aC h)[a]? = some (base + a, .inl (aC .boolean, n, .inl g)) := by rw [ix_ws_get ha, hcell]; rfl
        exact va_zald hx hb hK.1 hI.2.2.1 a 2 he rfl hin hd (kk H locs la hI hl)
    · cases hr
  · cases hr
set_option maxHeartbeats 4000000 in
theorem ix_w_aa (X : ix_X p R s m args meth c D b base aC q S) (hr : ix_aa pc ls st h = some (.inl f)) (hd : decode q.2.2.1 pc = .ok (.aaload, 1)) (kk : ix_W p l e R s m args below meth c Q D b base aC q h0 f) : ix_W p l e R s m args below meth c Q D b base aC q h0 (pc, ls, st, h) := by
  obtain ⟨hx, hb, -, -, hown, hts, hK, hX, -⟩ := X
  intro H locs la hI hl
  unfold ix_aa at hr
  split at hr
  · rename_i i a r
    split at hr
    · rename_i C n g hcell
      split at hr
      · cases hr
      · rename_i hin
        split at hr
        · rename_i y hy
          cases hr
          have ha : a < h.1 := hI.lt (by show h.2.2 a ≠ ix_no_; rw [hcell]; exact ix_no_arr)
          have he : (ix_ws b base aC h)[a]? = some (base + a, .inl (aC (.object C), n, .inr (.inr (.inr (.inr (fun i => (g i).map (fun k => base + k))))))) := by rw [ix_ws_get ha, hcell]; rfl
          have hC : C = RX1 ∨ C = RX2 := Classical.byContradiction fun z => hin (Or.inr (Or.inr z))
          have hin' : vp_in i n := fun z => hin (z.elim Or.inl (fun z => Or.inr (Or.inl z)))
          have k1 := kk H locs la hI hl
          have k2 : W p l e R s m args below meth c H locs (h.1 - h0.1) (h.2.1 - h0.2.1) Q (F0 m (pc + 1) la (va_rf ((g i.toNatClampNeg).map (fun k => base + k)) :: r.map (ix_cv b base))) := by rw [hy]; exact k1
          rcases hC with rfl | rfl
          · exact va_aldq hx hb hK.1 hI.2.2.1 a 3 he rfl hin' hd k2
          · exact va_aldq hx hb hK.1 hI.2.2.1 a 4 he rfl hin' hd k2
        · cases hr
    · cases hr
  · cases hr
theorem ix_at_i {H1 : Heap} {a n i : Nat} {g g' : Nat → Int32} {v : Int32} {ty : FieldType} {cell : Cell} (hc : cell = vp_cell (aC ty) (n, .inl g)) (e : H1[base + a]? = some (cell.setSlot i (.int v))) (hg : g' = upd g i v) : va_at D vwCl (base + a, ix_ce b base aC (.inl (ty, n, .inl g'))) H1 := by
  show H1[base + a]? = some (vp_cell (aC ty) (n, .inl g'))
  rw [e, hc, vp_cell_i, vp_cell_i, arrV_store, hg]
  congr 2
  funext x
  by_cases hq : x = i
  · subst hq; simp [updV, upd]
  · simp [updV, upd, hq]
set_option maxHeartbeats 4000000 in
theorem ix_w_is (X : ix_X p R s m args meth c D b base aC q S) (hr : ix_is pc ls st h = some (.inl f)) (hd : decode q.2.2.1 pc = .ok (.iastore, 1)) (kk : ix_W p l e R s m args below meth c Q D b base aC q h0 f) : ix_W p l e R s m args below meth c Q D b base aC q h0 (pc, ls, st, h) := by
  obtain ⟨hx, hb, -, -, hown, hts, hK, hX, -⟩ := X
  intro H locs la hI hl
  unfold ix_is at hr
  split at hr
  · rename_i x i a r
    split at hr
    · rename_i n g hcell
      split at hr
      · cases hr
      · rename_i hin
        cases hr
        have ha : a < h.1 := hI.lt (by show h.2.2 a ≠ ix_no_; rw [hcell]; exact ix_no_arr)
        have he : (ix_ws b base aC h)[a]? = some (base + a, .inl (aC .int, n, .inl g)) := by rw [ix_ws_get ha, hcell]; rfl
        exact W.iast hx hb (hI.2.2.1 a _ he) ((hK.1.2 0 _ rfl).1 n (fun j => .int (g j))) (fun z => by cases z) (by show ¬ (i < 0 ∨ (arrV _ _ _).slots.size ≤ _); rw [arrV_size]; exact hin) rfl rfl hd
          fun H1 e1 z oq => kk H1 _ la (hI.set ha (ix_at_i rfl e1 rfl) z oq) hl
    · cases hr
  · cases hr
set_option maxHeartbeats 4000000 in
theorem ix_w_bs (X : ix_X p R s m args meth c D b base aC q S) (hr : ix_bs pc ls st h = some (.inl f)) (hd : decode q.2.2.1 pc = .ok (.bastore, 1)) (kk : ix_W p l e R s m args below meth c Q D b base aC q h0 f) : ix_W p l e R s m args below meth c Q D b base aC q h0 (pc, ls, st, h) := by
  obtain ⟨hx, hb, -, -, hown, hts, hK, hX, -⟩ := X
  intro H locs la hI hl
  unfold ix_bs at hr
  split at hr
  · rename_i x i a r
    split at hr
    · rename_i n g hcell
      split at hr
      · cases hr
      · rename_i hin
        cases hr
        have ha : a < h.1 := hI.lt (by show h.2.2 a ≠ ix_no_; rw [hcell]; exact ix_no_arr)
        have he : (ix_ws b base aC h)[a]? = some (base + a, .inl (aC .byte, n, .inl g)) := by rw [ix_ws_get ha, hcell]; rfl
        exact W.bast hx hb (hI.2.2.1 a _ he) ((hK.1.2 1 _ rfl).1 n (fun j => .int (g j))) (fun z => by cases z) (by show ¬ (i < 0 ∨ (arrV _ _ _).slots.size ≤ _); rw [arrV_size]; exact hin) rfl rfl hd
          fun H1 e1 z oq => kk H1 _ la (hI.set ha (ix_at_i rfl e1 rfl) z oq) hl
    · rename_i n g hcell
      split at hr
      · cases hr
      · rename_i hin
        cases hr
        have ha : a < h.1 := hI.lt (by show h.2.2 a ≠ ix_no_; rw [hcell]; exact ix_no_arr)
        have he : (ix_ws b base aC h)[a]? = some (base + a, .inl (aC .boolean, n, .inl g)) := by rw [ix_ws_get ha, hcell]; rfl
        exact W.zast hx hb (hI.2.2.1 a _ he) ((hK.1.2 2 _ rfl).1 n (fun j => .int (g j))) (fun z => by cases z) (by show ¬ (i < 0 ∨ (arrV _ _ _).slots.size ≤ _); rw [arrV_size]; exact hin) rfl rfl hd
          fun H1 e1 z oq => kk H1 _ la (hI.set ha (ix_at_i rfl e1 rfl) z oq) hl
    · cases hr
  · cases hr
set_option maxHeartbeats 4000000 in
theorem ix_w_as (X : ix_X p R s m args meth c D b base aC q S) (hr : ix_as pc ls st h = some (.inl f)) (hd : decode q.2.2.1 pc = .ok (.aastore, 1)) (kk : ix_W p l e R s m args below meth c Q D b base aC q h0 f) : ix_W p l e R s m args below meth c Q D b base aC q h0 (pc, ls, st, h) := by
  obtain ⟨hx, hb, -, -, hown, hts, hK, hX, -⟩ := X
  intro H locs la hI hl
  unfold ix_as at hr
  split at hr
  · rename_i v i a r
    split at hr
    · rename_i C n g ci vs hcell hcv
      split at hr
      · cases hr
      · rename_i hin
        split at hr
        · rename_i hC
          obtain ⟨hci, rfl⟩ := hC
          cases hr
          have c5 : ci ≤ 5 := by omega
          have ha : a < h.1 := hI.lt (by show h.2.2 a ≠ ix_no_; rw [hcell]; exact ix_no_arr)
          have hv : v < h.1 := hI.lt (by show h.2.2 v ≠ ix_no_; rw [hcv]; exact ix_no_obj c5)
          have he : (ix_ws b base aC h)[a]? = some (base + a, .inl (aC (.object (ix_RC ci)), n, .inr (.inr (.inr (.inr (fun i => (g i).map (fun k => base + k))))))) := by rw [ix_ws_get ha, hcell]; rfl
          have hev : (ix_ws b base aC h)[v]? = some (base + v, .inr (ci, vs.map (ix_cv b base))) := by rw [ix_ws_get hv, hcv]; rfl
          obtain ⟨hc, -⟩ := ix_cls_facts ci c5
          have ht : ∃ t0 : Nat, (ix_tys aC)[t0]? = some (aC (.object (ix_RC ci)), .object (ix_RC ci)) := by
            rcases hci with rfl | rfl
            · exact ⟨3, rfl⟩
            · exact ⟨4, rfl⟩
          obtain ⟨t0, ht⟩ := ht
          have hlt : i.toNatClampNeg < n := Nat.not_le.mp fun z => hin (Or.inr z)
          have hi0 : ¬ i < 0 := fun z => hin (Or.inl z)
          obtain ⟨r', hr', cellV, g1, g2, g3, -⟩ := hI.2.2.1 v _ hev
          have hcls := (hK.1.1 ci _ hc).2
          obtain ⟨kA, comp, k1, k2, k3, -⟩ := (hK.1.2 t0 _ ht).2
          have hcomp : comp = D.1 ci := Option.some.inj (k3.symm.trans hcls.1)
          subst hcomp
          obtain ⟨kC, hkC, -⟩ := hcls.2
          refine W.aast hx hb (hI.2.2.1 a _ he) (fun z h => by cases h) (fun h => by cases h) k1 k2 rfl hkC ⟨hi0, by show _ < (arrV _ _ _).slots.size; rw [arrV_size]; exact hlt⟩ g1 (fun z h => by rw [g3] at h; cases h) (by rw [g2]; exact hkC) (by rw [g2]; exact va_assign hcls) rfl rfl hd fun H1 e1 z oq => ?_
          refine kk H1 _ la (hI.set ha ?_ z oq) hl
          show H1[base + a]? = some (vp_cell _ (n, .inr (.inr (.inr (.inr _)))))
          rw [e1]
          show some ((vp_cell _ (n, .inr (.inr (.inr (.inr _))))).setSlot _ _) = _
          rw [vp_cell_q, vp_cell_q, arrV_store]
          congr 2
          funext x
          by_cases hq : x = i.toNatClampNeg
          · subst hq; simp [updV, va_up, va_rf]
          · simp [updV, va_up, hq]
        · cases hr
    · cases hr
  · cases hr
set_option maxHeartbeats 4000000 in
theorem ix_w_na (X : ix_X p R s m args meth c D b base aC q S) {t : ArrayType} (hr : ix_na (newarray.typeOf t) pc ls st h = some (.inl f)) (hd : decode q.2.2.1 pc = .ok (.newarray t, 2)) (hlo : h0.1 ≤ h.1 ∧ h0.2.1 ≤ h.2.1) (hhi : f.2.2.2.1 - h0.1 ≤ R.cells ∧ f.2.2.2.2.1 - h0.2.1 ≤ R.slots) (kk : ix_W p l e R s m args below meth c Q D b base aC q h0 f) : ix_W p l e R s m args below meth c Q D b base aC q h0 (pc, ls, st, h) := by
  obtain ⟨hx, hb, -, -, hown, hts, hK, hX, -⟩ := X
  intro H locs la hI hl
  unfold ix_na at hr
  split at hr
  · rename_i n r
    split at hr
    · cases hr
    · rename_i hc
      cases hr
      have hn0 : ¬ n < 0 := fun z => hc (Or.inl z)
      have hn1 : n.toNatClampNeg ≤ 200000 := Nat.le_of_not_lt fun z => hc (Or.inr (Or.inl z))
      have hty : newarray.typeOf t = .int ∨ newarray.typeOf t = .byte ∨ newarray.typeOf t = .boolean := Classical.byContradiction fun z => hc (Or.inr (Or.inr z))
      simp only [ix_new] at hhi
      have key : ∀ (t0 i0 : Nat) (ty : FieldType), newarray.typeOf t = ty → lw_tbl[i0]? = some (.arrayClass ty) → (ix_tys aC)[t0]? = some (aC ty, ty) → (∀ cA, va_RA s cA ty = (s.vm.findClass ("[" ++ ty.toString) = some cA)) → componentBytes ty ≤ 8 → defaultValue ty = .int 0 → W p l e R s m args below meth c H locs (h.1 - h0.1) (h.2.1 - h0.2.1) Q (F0 m pc la ((.int n :: r).map (ix_cv b base))) := by
        intro t0 i0 ty hty hw ht hRA hcb hdv
        subst hty
        refine va_newaK hx hb (ix_word hts hw rfl) rfl hd (rest := r.map (ix_cv b base)) rfl hn0 rfl (Nat.le_trans (Nat.mul_le_mul hn1 hcb) (by decide)) (by omega) (by omega) hI.1 fun H1 cA e1 z1 o1 hAr hNm => ?_
        have hcA : cA = aC (newarray.typeOf t) := by
          have h5 := (hK.1.2 t0 _ ht).2
          rw [hRA] at h5
          exact Option.some.inj (hNm.symm.trans h5)
        subst hcA
        refine W.cs (by show h.1 - h0.1 + 1 = h.1 + 1 - h0.1; omega) (by show _ = h.2.1 + n.toNatClampNeg - h0.2.1; omega) (kk H1 locs la (hI.new _ ?_ (by rw [z1, hI.1]) (fun y hy => o1 y (by rw [← hI.1]; exact hy))) hl)
        show H1[base + h.1]? = some (vp_cell _ (_, .inl _))
        rw [e1, vp_cell_i, hdv]
      rcases hty with hty | hty | hty
      · exact key 0 _ .int hty ix_mw_ok.2.2.2.2.2.2.2.1 rfl (fun _ => rfl) (by decide) rfl
      · exact key 1 _ .byte hty ix_mw_ok.2.2.2.2.2.2.2.2.1 rfl (fun _ => rfl) (by decide) rfl
      · exact key 2 _ .boolean hty ix_mw_ok.2.2.2.2.2.2.2.2.2 rfl (fun _ => rfl) (by decide) rfl
  · cases hr
set_option maxHeartbeats 4000000 in
theorem ix_w_nq (X : ix_X p R s m args meth c D b base aC q S) (hr : ix_nq q.1 idx pc ls st h = some (.inl f)) (hd : decode q.2.2.1 pc = .ok (.anewarray idx, 3)) (hlo : h0.1 ≤ h.1 ∧ h0.2.1 ≤ h.2.1) (hhi : f.2.2.2.1 - h0.1 ≤ R.cells ∧ f.2.2.2.2.1 - h0.2.1 ≤ R.slots) (kk : ix_W p l e R s m args below meth c Q D b base aC q h0 f) : ix_W p l e R s m args below meth c Q D b base aC q h0 (pc, ls, st, h) := by
  obtain ⟨hx, hb, -, -, hown, hts, hK, hX, -⟩ := X
  intro H locs la hI hl
  unfold ix_nq at hr
  split at hr
  · rename_i n r ci i hcl
    split at hr
    · cases hr
    · rename_i hc
      cases hr
      obtain ⟨c5, hw⟩ := ix_cls_ok hcl
      have hn0 : ¬ n < 0 := fun z => hc (Or.inl z)
      have hn1 : n.toNatClampNeg ≤ 200000 := Nat.le_of_not_lt fun z => hc (Or.inr (Or.inl z))
      have hci : ci = 1 ∨ ci = 2 := Classical.byContradiction fun z => hc (Or.inr (Or.inr z))
      simp only [ix_new] at hhi
      have ht : (∃ t0 : Nat, (ix_tys aC)[t0]? = some (aC (.object (ix_RC ci)), .object (ix_RC ci))) ∧ va_AO (ix_RC ci) s := by
        rcases hci with rfl | rfl
        · exact ⟨⟨3, rfl⟩, hK.2.2.1⟩
        · exact ⟨⟨4, rfl⟩, hK.2.2.2⟩
      obtain ⟨⟨t0, ht⟩, hAO⟩ := ht
      show W p l e R s m args below meth c H locs (h.1 - h0.1) (h.2.1 - h0.2.1) Q (F0 m pc la ((.int n :: r).map (ix_cv b base)))
      refine W.anew hx hb hown (ix_word hts hw rfl) (va_AO.use hAO) rfl hd (rest := r.map (ix_cv b base)) rfl hn0 (Nat.le_trans (Nat.mul_le_mul_right 4 hn1) (by decide)) (by omega) (by omega) fun cA kA comp f1 f2 f3 f4 => ?_
      have hcA : cA = aC (.object (ix_RC ci)) := by
        obtain ⟨_, _, -, -, -, h5⟩ := (hK.1.2 t0 _ ht).2
        exact Option.some.inj (f1.symm.trans h5)
      subst hcA
      rw [show H.size = base + h.1 from hI.1]
      refine W.cs (by show h.1 - h0.1 + 1 = h.1 + 1 - h0.1; omega) (by show _ = h.2.1 + n.toNatClampNeg - h0.2.1; omega) (kk _ locs la (hI.new _ ?_ (by rw [Array.size_push]) (fun y hy => by rw [Array.getElem?_push, if_neg (Nat.ne_of_lt hy)])) hl)
      show (H.push _)[base + h.1]? = some (vp_cell _ (_, .inr (.inr (.inr (.inr _)))))
      rw [← hI.1, Array.getElem?_push_size, arrV_new, vp_cell_q]
      rfl
  · cases hr
set_option maxHeartbeats 4000000 in
theorem ix_w_no (X : ix_X p R s m args meth c D b base aC q S) (hr : ix_no q.1 idx pc ls st h = some (.inl f)) (hd : decode q.2.2.1 pc = .ok (.new idx, 3)) (hlo : h0.1 ≤ h.1 ∧ h0.2.1 ≤ h.2.1) (hhi : f.2.2.2.1 - h0.1 ≤ R.cells ∧ f.2.2.2.2.1 - h0.2.1 ≤ R.slots) (kk : ix_W p l e R s m args below meth c Q D b base aC q h0 f) : ix_W p l e R s m args below meth c Q D b base aC q h0 (pc, ls, st, h) := by
  obtain ⟨hx, hb, -, -, hown, hts, hK, hX, -⟩ := X
  intro H locs la hI hl
  unfold ix_no at hr
  split at hr
  · rename_i ci i hcl
    split at hr
    · rename_i c5
      cases hr
      obtain ⟨-, hw⟩ := ix_cls_ok hcl
      obtain ⟨hc, hin, hnm, hty⟩ := ix_cls_facts ci c5
      obtain ⟨w1, w2⟩ := ix_ins_ok ci (by omega)
      simp only [ix_new] at hhi
      have hKn := hK.1.1 ci _ hc
      show W p l e R s m args below meth c H locs (h.1 - h0.1) (h.2.1 - h0.2.1) Q (F0 m pc la (st.map (ix_cv b base)))
      refine W.newcK hx hb hown (ix_word hts hw rfl) (ix_word hts w1 rfl) (ix_word hts w2 rfl) rfl hd (by omega) (by omega) hKn.2.1 hI.1 fun H1 kC hkC e1 z1 o1 => ?_
      refine W.cs (by show h.1 - h0.1 + 1 = h.1 + 1 - h0.1; omega) (by show _ = h.2.1 + ix_NN ci - h0.2.1; omega) (kk H1 locs la (hI.new _ ?_ (by rw [z1, hI.1]) (fun y hy => o1 y (by rw [← hI.1]; exact hy))) hl)
      show va_at D vwCl (base + h.1, .inr (ci, (ix_blank ci).map (ix_cv b base))) H1
      rw [ix_blank_cv]
      exact ⟨_, hc, (u_born (ix_ty ci) hts hin hKn hkC e1 hty).to (ix_blank_ok ci c5)⟩
    · cases hr
  · cases hr
end IXR
end
section
/-! ONE STEP -/
section IXE
variable {p : Program} {l : Launch} {e : Env} {R : Room} {s : State} {m : MethodId} {args : Array Value} {below : List Frame} {meth : Method} {c : Code} {Q : State → Prop}
variable {D : va_G} {b base : Nat} {aC : FieldType → ClassId} {q : ix_M} {h0 : ix_H} {S : ix_S} {pc : Nat} {ls : ix_L} {st : List Value} {h : ix_H} {f : ix_F} {idx : Nat}
theorem ix_jmp_ok {pc t : Nat} {off : Int} (h : ix_jmp pc off = some t) : (pc : Int) + off = (t : Int) := by
  unfold ix_jmp at h
  split at h
  · rename_i z
    cases h
    omega
  · cases h
theorem ix_goto_ok {off : Int} (hr : ix_goto pc off ls st h = some (.inl f)) : ∃ t : Nat, (pc : Int) + off = (t : Int) ∧ f = (t, ls, st, h) := by
  unfold ix_goto at hr
  split at hr
  · rename_i t ht
    cases hr
    exact ⟨t, ix_jmp_ok ht, rfl⟩
  · cases hr
theorem ix_br_ok {bb : Bool} {off : Int} (hr : ix_br bb pc off ls st h = some (.inl f)) : ∃ t : Nat, (pc : Int) + off = (t : Int) ∧ f = (if bb then t else pc + 3, ls, st, h) := by
  unfold ix_br at hr
  split at hr
  · rename_i t ht
    cases hr
    exact ⟨t, ix_jmp_ok ht, rfl⟩
  · cases hr
theorem ix_lcl {la : Array Slot} {nL k : Nat} {v : Value} (hl : lv_has la nL (ls.map (ix_cp b base))) (hg : ix_get ls k = some v) : la[k]? = some (.val (ix_cv b base v)) := hl.2.2 (k, ix_cv b base v) (List.mem_map.mpr ⟨(k, v), ix_get_mem hg, rfl⟩)

set_option maxHeartbeats 4000000 in
theorem ix_w_if (hx : p.tables.exec = Jvm.exec) (hb : c.code = q.2.2.1) {cd : ClassFile.Cond} {off : Int} {x : Int32} (hr : ix_br (ix_cmp cd x 0) pc off ls st h = some (.inl f)) (hd : decode q.2.2.1 pc = .ok (.ifCond cd off, 3)) (kk : ix_W p l e R s m args below meth c Q D b base aC q h0 f) : ix_W p l e R s m args below meth c Q D b base aC q h0 (pc, ls, .int x :: st, h) := by
  intro H locs la hI hl
  obtain ⟨t, ht, rfl⟩ := ix_br_ok hr
  have kk1 := kk H locs la hI hl
  cases cd
  · refine lv_if_eq hx hb hd ht (fun z => ?_) (fun z => ?_)
    · rw [show ix_cmp .eq x 0 = true from decide_eq_true z] at kk1; exact kk1
    · rw [show ix_cmp .eq x 0 = false from decide_eq_false z] at kk1; exact kk1
  · refine lv_if_ne hx hb hd ht (fun z => ?_) (fun z => ?_)
    · rw [show ix_cmp .ne x 0 = true from decide_eq_true z] at kk1; exact kk1
    · rw [show ix_cmp .ne x 0 = false from decide_eq_false (fun w => w z)] at kk1; exact kk1
  · refine lv_if_lt hx hb hd ht (fun z => ?_) (fun z => ?_)
    · rw [show ix_cmp .lt x 0 = true from decide_eq_true z] at kk1; exact kk1
    · rw [show ix_cmp .lt x 0 = false from decide_eq_false z] at kk1; exact kk1
  · refine lv_if_ge hx hb hd ht (fun z => ?_) (fun z => ?_)
    · rw [show ix_cmp .ge x 0 = true from decide_eq_true z] at kk1; exact kk1
    · rw [show ix_cmp .ge x 0 = false from decide_eq_false z] at kk1; exact kk1
  · refine lv_if_gt hx hb hd ht (fun z => ?_) (fun z => ?_)
    · rw [show ix_cmp .gt x 0 = true from decide_eq_true z] at kk1; exact kk1
    · rw [show ix_cmp .gt x 0 = false from decide_eq_false z] at kk1; exact kk1
  · refine lv_if_le hx hb hd ht (fun z => ?_) (fun z => ?_)
    · rw [show ix_cmp .le x 0 = true from decide_eq_true z] at kk1; exact kk1
    · rw [show ix_cmp .le x 0 = false from decide_eq_false z] at kk1; exact kk1
set_option maxHeartbeats 4000000 in
theorem ix_w_ic (hx : p.tables.exec = Jvm.exec) (hb : c.code = q.2.2.1) {cd : ClassFile.Cond} {off : Int} {x y : Int32} (hr : ix_br (ix_cmp cd x y) pc off ls st h = some (.inl f)) (hd : decode q.2.2.1 pc = .ok (.if_icmp cd off, 3)) (kk : ix_W p l e R s m args below meth c Q D b base aC q h0 f) : ix_W p l e R s m args below meth c Q D b base aC q h0 (pc, ls, .int y :: .int x :: st, h) := by
  intro H locs la hI hl
  obtain ⟨t, ht, rfl⟩ := ix_br_ok hr
  have kk1 := kk H locs la hI hl
  cases cd
  · refine lv_icmp_eq hx hb hd ht (fun z => ?_) (fun z => ?_)
    · rw [show ix_cmp .eq x y = true from decide_eq_true z] at kk1; exact kk1
    · rw [show ix_cmp .eq x y = false from decide_eq_false z] at kk1; exact kk1
  · refine lv_icmp_ne hx hb hd ht (fun z => ?_) (fun z => ?_)
    · rw [show ix_cmp .ne x y = true from decide_eq_true z] at kk1; exact kk1
    · rw [show ix_cmp .ne x y = false from decide_eq_false (fun w => w z)] at kk1; exact kk1
  · refine lv_icmp_lt hx hb hd ht (fun z => ?_) (fun z => ?_)
    · rw [show ix_cmp .lt x y = true from decide_eq_true z] at kk1; exact kk1
    · rw [show ix_cmp .lt x y = false from decide_eq_false z] at kk1; exact kk1
  · refine lv_icmp_ge hx hb hd ht (fun z => ?_) (fun z => ?_)
    · rw [show ix_cmp .ge x y = true from decide_eq_true z] at kk1; exact kk1
    · rw [show ix_cmp .ge x y = false from decide_eq_false z] at kk1; exact kk1
  · refine lv_icmp_gt hx hb hd ht (fun z => ?_) (fun z => ?_)
    · rw [show ix_cmp .gt x y = true from decide_eq_true z] at kk1; exact kk1
    · rw [show ix_cmp .gt x y = false from decide_eq_false z] at kk1; exact kk1
  · refine lv_icmp_le hx hb hd ht (fun z => ?_) (fun z => ?_)
    · rw [show ix_cmp .le x y = true from decide_eq_true z] at kk1; exact kk1
    · rw [show ix_cmp .le x y = false from decide_eq_false z] at kk1; exact kk1
theorem ix_sum_cv (r : List Value) : ((r.map (ix_cv b base)).map fun v => v.category).sum = (r.map fun v => v.category).sum := by
  rw [List.map_map]
  congr 1
  apply List.map_congr_left
  intro v _
  exact ix_cv_cat b base v
set_option maxHeartbeats 4000000 in
/-- what a call does at once: Object(), Math.max, Math.min -/
theorem ix_w_c0 (X : ix_X p R s m args meth c D b base aC q S) {i : Instr} {kd : Nat} (hi : (kd = 0 ∧ i = .invokevirtual idx) ∨ (kd = 1 ∧ i = .invokestatic idx) ∨ (kd = 2 ∧ i = .invokespecial idx)) (hr : ix_call q.1 kd idx pc ls st h = some (.inl f)) (hd : decode q.2.2.1 pc = .ok (i, 3)) (hhi : f.2.2.2.1 - h0.1 ≤ R.cells ∧ f.2.2.2.2.1 - h0.2.1 ≤ R.slots) (kk : ix_W p l e R s m args below meth c Q D b base aC q h0 f) : ix_W p l e R s m args below meth c Q D b base aC q h0 (pc, ls, st, h) := by
  obtain ⟨hx, hb, -, hml, hown, hts, hK, hX, -, -, -, -, hfr, hlo⟩ := X
  obtain ⟨w1, w2, w3, w4, w5, w6, w7, -⟩ := ix_mw_ok
  intro H locs la hI hl
  unfold ix_call at hr
  split at hr
  · cases hr
  · rename_i nest y i0 hm
    obtain ⟨m2, m3, m4, -⟩ := ix_mth_ok hm
    split at hr
    · rename_i hn
      split at hr
      · split at hr
        · rename_i a r hc
          obtain ⟨rfl, hs⟩ := hc
          cases hr
          have hi : i = .invokespecial idx := by rcases hi with ⟨z, -⟩ | ⟨z, -⟩ | ⟨-, z⟩ <;> first | exact z | (cases z)
          subst hi
          refine W.objInit hx hb hown (ix_word hts (m2 hn) rfl) (ix_word hts w5 rfl) (ix_word hts w6 rfl) rfl (by rw [hml]; exact hl.1) rfl hd hfr ?_ (kk H locs la hI hl)
          have hz : 2 * (F0 m pc la ((Value.ref a :: r).map (ix_cv b base))).monitorRoom + ((r.map (ix_cv b base)).map fun v => v.category).sum ≤ 8 := lv_room (by rw [ix_sum_cv]; exact hs)
          show 2 * (F0 m pc la ((Value.ref a :: r).map (ix_cv b base))).monitorRoom + ((r.map (ix_cv b base)).map fun v => v.category).sum + 12 ≤ R.locals
          omega
        · cases hr
      · cases hr
    · split at hr
      · rename_i hn
        split at hr
        · split at hr
          · rename_i y x r hc
            obtain ⟨rfl, hs⟩ := hc
            cases hr
            have hi : i = .invokestatic idx := by rcases hi with ⟨z, -⟩ | ⟨-, z⟩ | ⟨z, -⟩ <;> first | exact z | (cases z)
            subst hi
            refine va_mmax hx hb (by rw [hml]; exact hl.1.symm) hown (ix_word hts (m3 hn) rfl) (ix_word hts w1 rfl) (ix_word hts w7 rfl) (ix_word hts w2 rfl) hfr ?_ hhi.1 hhi.2 hd (kk H locs la hI hl)
            rw [ix_sum_cv]; omega
          · cases hr
        · cases hr
      · split at hr
        · rename_i hn
          split at hr
          · split at hr
            · rename_i y x r hc
              obtain ⟨rfl, hs⟩ := hc
              cases hr
              have hi : i = .invokestatic idx := by rcases hi with ⟨z, -⟩ | ⟨-, z⟩ | ⟨z, -⟩ <;> first | exact z | (cases z)
              subst hi
              refine va_mmin hx hb (by rw [hml]; exact hl.1.symm) hown (ix_word hts (m4 hn) rfl) (ix_word hts w3 rfl) (ix_word hts w7 rfl) (ix_word hts w4 rfl) hfr ?_ hhi.1 hhi.2 hd (kk H locs la hI hl)
              rw [ix_sum_cv]; omega
            · cases hr
          · cases hr
        · split at hr
          · cases hr
          · simp only at hr
            generalize (if kd = 1 then 0 else 1 : Nat) = z1 at hr
            split at hr <;> cases hr
set_option maxHeartbeats 8000000 in
theorem ix_w_exec (X : ix_X p R s m args meth c D b base aC q S) {i : Instr} {n : Nat} (hr : ix_exec S q i pc ls st h = some (.inl f)) (hd : decode q.2.2.1 pc = .ok (i, n)) (hn : (∃ d lo hi offs, i = .tableswitch d lo hi offs) ∨ n = ix_len i) (hlo : h0.1 ≤ h.1 ∧ h0.2.1 ≤ h.2.1) (hhi : f.2.2.2.1 - h0.1 ≤ R.cells ∧ f.2.2.2.2.1 - h0.2.1 ≤ R.slots) (kk : ix_W p l e R s m args below meth c Q D b base aC q h0 f) : ix_W p l e R s m args below meth c Q D b base aC q h0 (pc, ls, st, h) := by
  have hx := X.1
  have hb := X.2.1
  unfold ix_exec at hr
  split at hr
  · obtain rfl : n = _ := by rcases hn with ⟨_, _, _, _, z⟩ | z; cases z; exact z
    intro H locs la hI hl
    unfold ix_ldI at hr
    split at hr
    · rename_i x hg; cases hr; exact lv_iload hx hb hd (ix_lcl hl hg) (kk H locs la hI hl)
    · cases hr
  · obtain rfl : n = _ := by rcases hn with ⟨_, _, _, _, z⟩ | z; cases z; exact z
    intro H locs la hI hl
    unfold ix_ldI at hr
    split at hr
    · rename_i x hg; cases hr; exact lv_iload_n hx hb hd rfl (ix_lcl hl hg) (kk H locs la hI hl)
    · cases hr
  · obtain rfl : n = _ := by rcases hn with ⟨_, _, _, _, z⟩ | z; cases z; exact z
    intro H locs la hI hl
    unfold ix_ldL at hr
    split at hr
    · rename_i x hg; cases hr; exact lv_lload hx hb hd (ix_lcl hl hg) (kk H locs la hI hl)
    · cases hr
  · obtain rfl : n = _ := by rcases hn with ⟨_, _, _, _, z⟩ | z; cases z; exact z
    intro H locs la hI hl
    unfold ix_ldL at hr
    split at hr
    · rename_i x hg; cases hr; exact lv_lload_n hx hb hd rfl (ix_lcl hl hg) (kk H locs la hI hl)
    · cases hr
  · obtain rfl : n = _ := by rcases hn with ⟨_, _, _, _, z⟩ | z; cases z; exact z
    intro H locs la hI hl
    unfold ix_ldA at hr
    split at hr
    · rename_i x hg; cases hr; exact lv_aload hx hb hd (ix_lcl hl hg) (kk H locs la hI hl)
    · rename_i x hg; cases hr; exact lv_aload hx hb hd (ix_lcl hl hg) (kk H locs la hI hl)
    · cases hr
  · obtain rfl : n = _ := by rcases hn with ⟨_, _, _, _, z⟩ | z; cases z; exact z
    intro H locs la hI hl
    unfold ix_ldA at hr
    split at hr
    · rename_i x hg; cases hr; exact lv_aload_n hx hb hd rfl (ix_lcl hl hg) (kk H locs la hI hl)
    · rename_i x hg; cases hr; exact lv_aload_n hx hb hd rfl (ix_lcl hl hg) (kk H locs la hI hl)
    · cases hr
  · obtain rfl : n = _ := by rcases hn with ⟨_, _, _, _, z⟩ | z; cases z; exact z
    intro H locs la hI hl
    unfold ix_stI at hr
    split at hr
    · split at hr
      · rename_i x r hk; cases hr; exact lv_istore hx hb hd hl hk (ix_put1_map b base ls _ (.int x)) (fun la' hl' => kk H locs la' hI hl')
      · cases hr
    · cases hr
  · obtain rfl : n = _ := by rcases hn with ⟨_, _, _, _, z⟩ | z; cases z; exact z
    intro H locs la hI hl
    unfold ix_stI at hr
    split at hr
    · split at hr
      · rename_i x r hk; cases hr; exact lv_istore_n hx hb hd rfl hl hk (ix_put1_map b base ls _ (.int x)) (fun la' hl' => kk H locs la' hI hl')
      · cases hr
    · cases hr
  · obtain rfl : n = _ := by rcases hn with ⟨_, _, _, _, z⟩ | z; cases z; exact z
    intro H locs la hI hl
    unfold ix_stL at hr
    split at hr
    · split at hr
      · rename_i x r hk; cases hr; exact lv_lstore hx hb hd hl hk (ix_put2_map b base ls _ (.long x)) (fun la' hl' => kk H locs la' hI hl')
      · cases hr
    · cases hr
  · obtain rfl : n = _ := by rcases hn with ⟨_, _, _, _, z⟩ | z; cases z; exact z
    intro H locs la hI hl
    unfold ix_stL at hr
    split at hr
    · split at hr
      · rename_i x r hk; cases hr; exact lv_lstore_n hx hb hd rfl hl hk (ix_put2_map b base ls _ (.long x)) (fun la' hl' => kk H locs la' hI hl')
      · cases hr
    · cases hr
  · obtain rfl : n = _ := by rcases hn with ⟨_, _, _, _, z⟩ | z; cases z; exact z
    intro H locs la hI hl
    unfold ix_stA at hr
    split at hr
    · split at hr
      · rename_i x r hk; cases hr; exact lv_astore hx hb hd hl hk (ix_put1_map b base ls _ (.ref x)) (fun la' hl' => kk H locs la' hI hl')
      · cases hr
    · cases hr
  · obtain rfl : n = _ := by rcases hn with ⟨_, _, _, _, z⟩ | z; cases z; exact z
    intro H locs la hI hl
    unfold ix_stA at hr
    split at hr
    · split at hr
      · rename_i x r hk; cases hr; exact lv_astore_n hx hb hd rfl hl hk (ix_put1_map b base ls _ (.ref x)) (fun la' hl' => kk H locs la' hI hl')
      · cases hr
    · cases hr
  · obtain rfl : n = _ := by rcases hn with ⟨_, _, _, _, z⟩ | z; cases z; exact z
    intro H locs la hI hl
    split at hr
    · rename_i x hg
      split at hr
      · rename_i hk
        cases hr
        obtain ⟨j, hj⟩ := List.getElem?_of_mem (List.mem_map.mpr ⟨_, ix_get_mem hg, rfl⟩ : (_, ix_cv b base (.int x)) ∈ ls.map (ix_cp b base))
        exact lv_iinc hx hb hd hl hj rfl hk (ix_put1_map b base ls _ (.int _)) (fun la' hl' => kk H locs la' hI hl')
      · cases hr
    · cases hr
  · obtain rfl : n = _ := by rcases hn with ⟨_, _, _, _, z⟩ | z; cases z; exact z
    intro H locs la hI hl
    obtain ⟨t, ht, rfl⟩ := ix_goto_ok hr
    exact lv_goto hx hb hd ht (kk H locs la hI hl)
  · obtain rfl : n = _ := by rcases hn with ⟨_, _, _, _, z⟩ | z; cases z; exact z
    split at hr
    · exact ix_w_if hx hb hr hd kk
    · cases hr
  · obtain rfl : n = _ := by rcases hn with ⟨_, _, _, _, z⟩ | z; cases z; exact z
    split at hr
    · exact ix_w_ic hx hb hr hd kk
    · cases hr
  · intro H locs la hI hl
    split at hr
    · split at hr
      · rename_i hz; obtain ⟨t, ht, rfl⟩ := ix_goto_ok hr; exact lv_tableOut hx hb hd hz ht (kk H locs la hI hl)
      · rename_i hz
        split at hr
        · rename_i o ho; obtain ⟨t, ht, rfl⟩ := ix_goto_ok hr; exact lv_tableIn hx hb hd (fun z => hz (Or.inl z)) (fun z => hz (Or.inr z)) ho ht (kk H locs la hI hl)
        · cases hr
    · cases hr
  · obtain rfl : n = _ := by rcases hn with ⟨_, _, _, _, z⟩ | z; cases z; exact z
    intro H locs la hI hl
    split at hr
    · rename_i v i0 hv; cases hr; exact lv_ldc hx hb X.2.2.2.2.1 (ix_word X.2.2.2.2.2.1 (ix_con_ok hv) rfl) hd (kk H locs la hI hl)
    · cases hr
  · obtain rfl : n = _ := by rcases hn with ⟨_, _, _, _, z⟩ | z; cases z; exact z
    intro H locs la hI hl
    split at hr
    · rename_i v i0 hv; cases hr; exact lv_ldc2 hx hb X.2.2.2.2.1 (ix_word X.2.2.2.2.2.1 (ix_cnl_ok hv) rfl) hd (kk H locs la hI hl)
    · cases hr
  · obtain rfl : n = _ := by rcases hn with ⟨_, _, _, _, z⟩ | z; cases z; exact z
    exact ix_w_gf X hr hd kk
  · obtain rfl : n = _ := by rcases hn with ⟨_, _, _, _, z⟩ | z; cases z; exact z
    exact ix_w_pf X hr hd kk
  · obtain rfl : n = _ := by rcases hn with ⟨_, _, _, _, z⟩ | z; cases z; exact z
    exact ix_w_al X hr hd kk
  · obtain rfl : n = _ := by rcases hn with ⟨_, _, _, _, z⟩ | z; cases z; exact z
    exact ix_w_ia X hr hd kk
  · obtain rfl : n = _ := by rcases hn with ⟨_, _, _, _, z⟩ | z; cases z; exact z
    exact ix_w_ba X hr hd kk
  · obtain rfl : n = _ := by rcases hn with ⟨_, _, _, _, z⟩ | z; cases z; exact z
    exact ix_w_aa X hr hd kk
  · obtain rfl : n = _ := by rcases hn with ⟨_, _, _, _, z⟩ | z; cases z; exact z
    exact ix_w_is X hr hd kk
  · obtain rfl : n = _ := by rcases hn with ⟨_, _, _, _, z⟩ | z; cases z; exact z
    exact ix_w_bs X hr hd kk
  · obtain rfl : n = _ := by rcases hn with ⟨_, _, _, _, z⟩ | z; cases z; exact z
    exact ix_w_as X hr hd kk
  · obtain rfl : n = _ := by rcases hn with ⟨_, _, _, _, z⟩ | z; cases z; exact z
    exact ix_w_na X hr hd hlo hhi kk
  · obtain rfl : n = _ := by rcases hn with ⟨_, _, _, _, z⟩ | z; cases z; exact z
    exact ix_w_nq X hr hd hlo hhi kk
  · obtain rfl : n = _ := by rcases hn with ⟨_, _, _, _, z⟩ | z; cases z; exact z
    exact ix_w_no X hr hd hlo hhi kk
  · obtain rfl : n = _ := by rcases hn with ⟨_, _, _, _, z⟩ | z; cases z; exact z
    exact ix_w_c0 X (Or.inl ⟨rfl, rfl⟩) hr hd hhi kk
  · obtain rfl : n = _ := by rcases hn with ⟨_, _, _, _, z⟩ | z; cases z; exact z
    exact ix_w_c0 X (Or.inr (Or.inl ⟨rfl, rfl⟩)) hr hd hhi kk
  · obtain rfl : n = _ := by rcases hn with ⟨_, _, _, _, z⟩ | z; cases z; exact z
    exact ix_w_c0 X (Or.inr (Or.inr ⟨rfl, rfl⟩)) hr hd hhi kk
  · split at hr
    · split at hr <;> cases hr
    · cases hr
  · split at hr <;> cases hr
  · split at hr <;> cases hr
  · split at hr
    · rename_i st' hp
      cases hr
      intro H locs la hI hl
      rcases hn with ⟨d, lo, hi, offs, rfl⟩ | rfl
      · cases hp
      · exact ix_w_pure hx hb hp hd (kk H locs la hI hl)
    · cases hr
end IXE
end
section
/-! CALLS, AND THE WHOLE: what the interpreter comes to, the machine comes to -/
/-- method number y, with these arguments, at this heap, comes to its end with that answer and that heap; at most d calls stand open -/
def ix_Ev : Nat → Nat → List Value → ix_H → ix_O → Prop
  | 0, _, _, _, _ => False
  | d + 1, y, as, h, o => ∃ (q : ix_M) (n : Nat), mNs[y]? = some q ∧ (lg_sl as).length ≤ q.2.2.2.1 ∧ ix_run none (ix_Ev d) q n (0, lv_args 0 as, [], h) o
/-- inside a method, with calls of depth d -/
def ix_G (S : ix_S) (d : Nat) (q : ix_M) (f : ix_F) (o : ix_O) : Prop := ∃ n, ix_run S (ix_Ev d) q n f o
theorem ix_mcn : mNs.all (fun q => decide (q.1 ≤ 8)) = true := by decide +kernel
def ix_hp (r : ix_R) : ix_H := match r with
  | .inl f => f.2.2.2
  | .inr (.inl o) => o.2
  | .inr (.inr (_, _, f)) => f.2.2.2
set_option maxHeartbeats 8000000 in
theorem ix_exec_mono {S : ix_S} {q : ix_M} {i : Instr} {pc : Nat} {ls : ix_L} {st : List Value} {h : ix_H} {r : ix_R} (hr : ix_exec S q i pc ls st h = some r) : h.1 ≤ (ix_hp r).1 ∧ h.2.1 ≤ (ix_hp r).2.1 := by
  unfold ix_exec at hr
  split at hr
  all_goals (first | unfold ix_ldI at hr | unfold ix_ldL at hr | unfold ix_ldA at hr | unfold ix_stI at hr | unfold ix_stL at hr | unfold ix_stA at hr | unfold ix_gf at hr | unfold ix_pf at hr | unfold ix_al at hr | unfold ix_ia at hr | unfold ix_ba at hr | unfold ix_aa at hr | unfold ix_is at hr | unfold ix_bs at hr | unfold ix_as at hr | unfold ix_na at hr | unfold ix_nq at hr | unfold ix_no at hr | (unfold ix_call at hr; simp only at hr) | skip)
  all_goals (try unfold ix_goto at hr)
  all_goals (try unfold ix_br at hr)
  all_goals (repeat' split at hr)
  all_goals first
    | (cases hr; done)
    | (cases hr; exact ⟨Nat.le_refl _, Nat.le_refl _⟩)
    | (cases hr; exact ⟨Nat.le_succ _, Nat.le_add_right _ _⟩)
theorem ix_step_mono {S : ix_S} {q : ix_M} {f : ix_F} {r : ix_R} (hr : ix_step S q f = some r) : f.2.2.2.1 ≤ (ix_hp r).1 ∧ f.2.2.2.2.1 ≤ (ix_hp r).2.1 := by
  unfold ix_step at hr
  split at hr
  · exact ix_exec_mono hr
  · cases hr
theorem ix_run_mono {S : ix_S} {C : Nat → List Value → ix_H → ix_O → Prop} {q : ix_M} (hC : ∀ y as h o, C y as h o → h.1 ≤ o.2.1 ∧ h.2.1 ≤ o.2.2.1) : ∀ (n : Nat) (f : ix_F) (o : ix_O), ix_run S C q n f o → f.2.2.2.1 ≤ o.2.1 ∧ f.2.2.2.2.1 ≤ o.2.2.1 := by
  intro n
  induction n with
  | zero => intro f o h; exact h.elim
  | succ n ih =>
    intro f o h
    unfold ix_run at h
    split at h
    · exact h.elim
    · rename_i g hs
      have h1 := ix_step_mono hs
      have h2 := ih g o h
      exact ⟨Nat.le_trans h1.1 h2.1, Nat.le_trans h1.2 h2.2⟩
    · rename_i u hs
      have h1 := ix_step_mono hs
      subst h
      exact h1
    · rename_i y as pc ls st h' hs
      have h1 := ix_step_mono hs
      obtain ⟨v, h2, hc, hn⟩ := h
      have h3 := hC _ _ _ _ hc
      have h4 := ih _ o hn
      exact ⟨Nat.le_trans h1.1 (Nat.le_trans h3.1 h4.1), Nat.le_trans h1.2 (Nat.le_trans h3.2 h4.2)⟩
theorem ix_Ev_mono : ∀ (d y : Nat) (as : List Value) (h : ix_H) (o : ix_O), ix_Ev d y as h o → h.1 ≤ o.2.1 ∧ h.2.1 ≤ o.2.2.1 := by
  intro d
  induction d with
  | zero => intro y as h o z; exact z.elim
  | succ d ih =>
    intro y as h o z
    obtain ⟨q, n, -, -, hr⟩ := z
    exact ix_run_mono ih n _ o hr
def ix_HP (D : va_G) (b base : Nat) (aC : FieldType → ClassId) (h : ix_H) (H : Heap) : Prop := H.size = base + h.1 ∧ (∀ k, h.1 ≤ k → h.2.2 k = ix_no_) ∧ va_P D vwCl (ix_ws b base aC h) H
def ix_Pc (D : va_G) (b base : Nat) (aC : FieldType → ClassId) (as : List Value) (h : ix_H) : Array Value → State → Prop := fun a U => a = (as.map (ix_cv b base)).toArray ∧ ix_HP D b base aC h U.heap ∧ ix_K D aC U
def ix_Qc (D : va_G) (b base : Nat) (aC : FieldType → ClassId) (o : ix_O) : Array Value → State → Outcome → State → Prop := fun _ st oc t => oc = .returned (o.1.map (ix_cv b base)) ∧ ix_HP D b base aC o.2 t.heap ∧ va_F (ix_A base) st t
def ix_rm (d : Nat) (h : ix_H) (o : ix_O) : Room := { frames := d, cells := o.2.1 - h.1, slots := o.2.2.1 - h.2.1, locals := 38 * d }
def ix_Met (l : Launch) (D : va_G) (b base : Nat) (aC : FieldType → ClassId) (d y : Nat) (as : List Value) (h : ix_H) (o : ix_O) : Prop := ∃ q, mNs[y]? = some q ∧ Met l q.2.1 (.code q.2.1 q.2.2.1 q.2.2.2.1 q.2.2.2.2.1 :: ix_tb) (ix_rm d h o) (ix_Pc D b base aC as h) (ix_Qc D b base aC o) (o.2.1 - h.1) (o.2.2.1 - h.2.1) (ix_A base)
theorem ix_Pc_blind {D : va_G} {b base : Nat} {aC : FieldType → ClassId} {as : List Value} {h : ix_H} : FrameBlind (ix_Pc D b base aC as h) := fun _ _ _ _ z => ⟨z.1, z.2.1, z.2.2.calling⟩
section IXC
variable {p : Program} {l : Launch} {e : Env} {R : Room} {s : State} {m : MethodId} {args : Array Value} {below : List Frame} {meth : Method} {c : Code} {Q : State → Prop}
variable {D : va_G} {b base : Nat} {aC : FieldType → ClassId} {q : ix_M} {h0 : ix_H} {S : ix_S} {pc : Nat} {ls : ix_L} {st : List Value} {h : ix_H} {idx : Nat}
theorem ix_run_fin {H : Heap} {locs : List Loc} {la : Array Slot} {rest stk : List Value} {o : ix_O} {a' : Array Value} (hlo : h0.1 ≤ h.1 ∧ h0.2.1 ≤ h.2.1) (hmo : h.1 ≤ o.2.1 ∧ h.2.1 ≤ o.2.2.1) (hS : va_S (ix_A base) s.heap H locs) (hl : lv_has la q.2.2.2.1 (ls.map (ix_cp b base)))
    (hrun : va_Run p l e R s m args below meth c H locs (h.1 - h0.1) (h.2.1 - h0.2.1) (o.2.1 - h.1) (o.2.2.1 - h.2.1) (F0 m pc la stk) (rest.map (ix_cv b base)) (ix_Qc D b base aC o a') (ix_A base))
    (kk : ix_W p l e R s m args below meth c Q D b base aC q h0 (pc + 3, ls, o.1.toList ++ rest, o.2)) : W p l e R s m args below meth c H locs (h.1 - h0.1) (h.2.1 - h0.2.1) Q (F0 m pc la stk) := by
  intro T hT XX
  obtain ⟨v, st₀, t, T', L, z0, X', hL, e1, e2, ⟨hv, hrep, hF⟩, stp⟩ := hrun T hT XX
  cases hv
  rw [← e1] at hrep
  have hF1 : H.size ≤ T'.heap.size := by rw [e1, ← z0]; exact hF.1
  have hF2 : ∀ y : Nat, y < H.size → ¬ ix_A base y → T'.heap[y]? = H[y]? := by
    intro y y1 y2
    rw [e1, ← z0]
    exact hF.2 y (by rw [z0]; exact y1) y2
  have hI' : ix_I D b base aC s.heap o.2 T'.heap (locs ++ L) := by
    refine ⟨hrep.1, hrep.2.1, hrep.2.2, Nat.le_trans hS.1 hF1, fun y y1 y2 => ?_, fun y hy => ?_⟩
    · rw [hF2 y (Nat.lt_of_lt_of_le y1 hS.1) y2]
      exact hS.2.1 y y1 y2
    · rcases List.mem_append.mp hy with z | z
      · exact hS.2.2 y z
      · exact hL y z
  have k1 := kk T'.heap (locs ++ L) la hI' hl
  have k2 : W p l e R s m args below meth c T'.heap (locs ++ L) (h.1 - h0.1 + (o.2.1 - h.1)) (h.2.1 - h0.2.1 + (o.2.2.1 - h.2.1)) Q { (F0 m pc la stk) with pc := (F0 m pc la stk).pc + 3, stack := (o.1.map (ix_cv b base)).toList ++ rest.map (ix_cv b base) } := by
    refine W.cs (by show _ = o.2.1 - h0.1; omega) (by show _ = o.2.2.1 - h0.2.1; omega) (W.eq ?_ k1)
    show F0 m (pc + 3) la _ = F0 m (pc + 3) la _
    congr 1
    cases o.1 <;> simp
  obtain ⟨t2, a1, b1⟩ := k2 T' rfl X'
  exact ⟨t2, stp t2 a1, b1⟩
set_option maxHeartbeats 8000000 in
theorem ix_w_call (X : ix_X p R s m args meth c D b base aC q S) {i : Instr} {kd d y : Nat} {as : List Value} {g : ix_F} {o : ix_O} (hi : (kd = 0 ∧ i = .invokevirtual idx) ∨ (kd = 1 ∧ i = .invokestatic idx) ∨ (kd = 2 ∧ i = .invokespecial idx)) (hr : ix_call q.1 kd idx pc ls st h = some (.inr (.inr (y, as, g)))) (hd : decode q.2.2.1 pc = .ok (i, 3))
    (hM : ix_Met l D b base aC d y as h o) (hR : d + 1 ≤ R.frames ∧ 38 * d + 38 ≤ R.locals) (hlo : h0.1 ≤ h.1 ∧ h0.2.1 ≤ h.2.1) (hmo : h.1 ≤ o.2.1 ∧ h.2.1 ≤ o.2.2.1) (hhi : o.2.1 - h0.1 ≤ R.cells ∧ o.2.2.1 - h0.2.1 ≤ R.slots) (kk : ix_W p l e R s m args below meth c Q D b base aC q h0 (g.1, g.2.1, o.1.toList ++ g.2.2.1, o.2)) : ix_W p l e R s m args below meth c Q D b base aC q h0 (pc, ls, st, h) := by
  obtain ⟨hx, hb, -, hml, hown, hts, hK, hX, -⟩ := X
  intro H locs la hI hl
  unfold ix_call at hr
  split at hr
  · cases hr
  · rename_i nest y' i0 hm
    obtain ⟨-, -, -, m5⟩ := ix_mth_ok hm
    split at hr
    · split at hr
      · split at hr <;> cases hr
      · cases hr
    · rename_i n2
      split at hr
      · split at hr
        · split at hr <;> cases hr
        · cases hr
      · rename_i n3
        split at hr
        · split at hr
          · split at hr <;> cases hr
          · cases hr
        · rename_i n4
          split at hr
          · cases hr
          · rename_i qq hqq
            simp only at hr
            generalize hz : (if kd = 1 then 0 else 1 : Nat) = z1 at hr
            split at hr
            · rename_i hcond
              obtain ⟨hkd, hnp, hsum, hn1, hn01, hrcv⟩ := hcond
              cases hr
              obtain ⟨q1, hq1, hw⟩ := m5 n2 n3 n4
              obtain rfl : qq = q1 := Option.some.inj (hqq.symm.trans hq1)
              obtain ⟨q2, hq2, hMet⟩ := hM
              obtain rfl : qq = q2 := Option.some.inj (hqq.symm.trans hq2)
              have hmem := List.mem_of_getElem? hqq
              have hok := ix_mNs_ok _ hmem
              have hcn8 := of_decide_eq_true (List.all_eq_true.mp ix_mcn _ hmem)
              obtain ⟨cn, nm, cc, mL, rt, np, kd', T, ic, ii, isl⟩ := qq
              simp only [ix_mok, Bool.and_eq_true, decide_eq_true_eq] at hok
              obtain ⟨⟨⟨⟨⟨⟨⟨⟨⟨⟨⟨o1, o2⟩, o3⟩, o4⟩, o5⟩, o6⟩, o7⟩, o8⟩, o9⟩, o10⟩, o11⟩, o12⟩ := hok
              simp only at hkd hnp hsum hrcv hMet hw kk hcn8
              subst hkd
              have wcode : (Jvm.Cond.code nm cc mL rt).before args s = true := ix_word hts o1 rfl
              have wini : (Jvm.Cond.initialized nm.cls).before args s = true := ix_word hts o12 rfl
              have hG : GoodIn ix_tb (.code nm cc mL rt :: ix_tb) := by
                intro w hw
                rcases List.mem_cons.mp hw with rfl | hw
                · exact ⟨List.mem_filter.mpr ⟨List.mem_of_getElem? o1, rfl⟩, good_of_word rfl⟩
                · exact ix_tb_good w hw
              have hRR : (ix_rm d h o).frames + 1 ≤ R.frames ∧ 8 + (mL + 11) + (ix_rm d h o).locals ≤ R.locals := ⟨hR.1, by show 8 + (mL + 11) + 38 * d ≤ R.locals; omega⟩
              have hf : h.1 - h0.1 + (o.2.1 - h.1) ≤ R.cells ∧ h.2.1 - h0.2.1 + (o.2.2.1 - h.2.1) ≤ R.slots := ⟨by omega, by omega⟩
              have hHP : ix_HP D b base aC h H := ⟨hI.1, hI.2.1, hI.2.2.1⟩
              rcases hi with ⟨rfl, rfl⟩ | ⟨rfl, rfl⟩ | ⟨rfl, rfl⟩
              · -- virtual
                have hn0 : nest = 0 := by rcases hn01 with z | z; exact z; have := hn1 z; omega
                rw [if_pos hn0] at hw
                obtain rfl : 1 = z1 := hz
                simp only [Nat.zero_ne_one, false_or] at hrcv
                have hst : st = (st.take (np + 1)).reverse.reverse ++ st.drop (np + 1) := by rw [List.reverse_reverse, List.take_append_drop]
                have hlen : (st.take (np + 1)).reverse.length = np + 1 := by rw [List.length_reverse, List.length_take]; omega
                generalize (st.take (np + 1)).reverse = as at hrcv hMet hst hlen
                generalize st.drop (np + 1) = rest at hsum kk hst
                subst hst
                unfold ix_rcv at hrcv
                split at hrcv
                · rename_i a As
                  split at hrcv
                  · rename_i ci fs hcell
                    have hci : ci = cn := by simpa using hrcv
                    subst hci
                    have ha : a < h.1 := hI.lt (by
                      show h.2.2 a ≠ ix_no_
                      rw [hcell]
                      intro z
                      simp only [ix_no_, Sum.inr.injEq, Prod.mk.injEq] at z
                      omega)
                    have he : (ix_ws b base aC h)[a]? = some (base + a, .inr (ci, fs.map (ix_cv b base))) := by rw [ix_ws_get ha, hcell]; rfl
                    obtain ⟨r', hr', -⟩ := hI.2.2.1 a _ he
                    have c5 : ci ≤ 5 := by
                      have := (List.getElem?_eq_some_iff.mp hr').1
                      have h6 : vwCl.length = 6 := rfl
                      omega
                    obtain ⟨hc, -⟩ := ix_cls_facts ci c5
                    have wsel := o3 rfl
                    rw [show (if (0 : Nat) = 1 then Jvm.Cond.static nm else Jvm.Cond.instanceMethod nm) = Jvm.Cond.instanceMethod nm from rfl] at o2
                    refine ix_run_fin (rest := rest) (a' := (Value.ref (base + a) :: As.map (ix_cv b base)).toArray) hlo hmo hI.2.2.2 hl (va_runV (C := ix_RC ci) (b := base + a) (As := As.map (ix_cv b base)) (bytes := cc) (maxL := mL) (ret := rt) (n := np) ⟨hx, hb, hml, hown, hts⟩ hMet ⟨callB_of np hts hG rfl rfl rfl wini (ix_word hts hw rfl) ⟨o7.1, o7.2, o8⟩ hRR, ix_word hts o2 rfl, ix_word hts wsel rfl⟩ ⟨ix_Pc_blind, va_recv hK.1 hI.2.2.1 hc he, fun U hU hW => ⟨rfl, by rw [hU]; exact hHP, hK.warm hW⟩⟩ rfl (by rw [List.length_map]; simpa using hlen) hl.1 ?_ (lv_room (by rw [ix_sum_cv]; exact hsum)) hd hf) kk
                    simp [ix_cv]
                  · cases hrcv
                · cases hrcv
              · -- static
                have hn0 : nest = 0 := by rcases hn01 with z | z; exact z; have := hn1 z; omega
                rw [if_pos hn0] at hw
                obtain rfl : 0 = z1 := hz
                simp only [Nat.add_zero] at hnp hsum kk hMet
                have hst : st = (st.take np).reverse.reverse ++ st.drop np := by rw [List.reverse_reverse, List.take_append_drop]
                have hlen : (st.take np).reverse.length = np := by rw [List.length_reverse, List.length_take]; omega
                generalize (st.take np).reverse = as at hMet hst hlen
                generalize st.drop np = rest at hsum kk hst
                subst hst
                rw [show (if (1 : Nat) = 1 then Jvm.Cond.static nm else Jvm.Cond.instanceMethod nm) = Jvm.Cond.static nm from rfl] at o2
                refine ix_run_fin (rest := rest) (a' := (as.map (ix_cv b base)).toArray) hlo hmo hI.2.2.2 hl (va_runS (As := as.map (ix_cv b base)) (bytes := cc) (maxL := mL) (ret := rt) (n := np) ⟨hx, hb, hml, hown, hts⟩ hMet ⟨callB_of np hts hG rfl rfl rfl wini (ix_word hts hw rfl) ⟨o7.1, o7.2, o8⟩ hRR, ix_word hts o2 rfl⟩ ⟨ix_Pc_blind, fun U hU hW => ⟨rfl, by rw [hU]; exact hHP, hK.warm hW⟩⟩ rfl (by rw [List.length_map]; exact hlen) hl.1 ?_ (lv_room (by rw [ix_sum_cv]; exact hsum)) hd hf) kk
                simp
              · -- constructor
                obtain rfl : 1 = z1 := hz
                simp only [show ¬ ((2 : Nat) = 1) by decide, false_or] at hrcv
                have hst : st = (st.take (np + 1)).reverse.reverse ++ st.drop (np + 1) := by rw [List.reverse_reverse, List.take_append_drop]
                have hlen : (st.take (np + 1)).reverse.length = np + 1 := by rw [List.length_reverse, List.length_take]; omega
                generalize (st.take (np + 1)).reverse = as at hrcv hMet hst hlen
                generalize st.drop (np + 1) = rest at hsum kk hst
                subst hst
                obtain ⟨hnm, rfl⟩ := o9 rfl
                rw [show (if (2 : Nat) = 1 then Jvm.Cond.static nm else Jvm.Cond.instanceMethod nm) = Jvm.Cond.instanceMethod nm from rfl] at o2
                unfold ix_rcv at hrcv
                split at hrcv
                · rename_i a As
                  by_cases hn0 : nest = 0
                  · rw [if_pos hn0] at hw
                    refine ix_run_fin (rest := rest) (a' := (Value.ref (base + a) :: As.map (ix_cv b base)).toArray) hlo hmo hI.2.2.2 hl (va_runI (b := base + a) (As := As.map (ix_cv b base)) (bytes := cc) (maxL := mL) (n := np) ⟨hx, hb, hml, hown, hts⟩ hMet ⟨callB_of np hts hG rfl rfl rfl wini (ix_word hts hw rfl) ⟨o7.1, o7.2, o8⟩ hRR, hnm, ix_word hts o2 rfl⟩ ⟨ix_Pc_blind, fun U hU hW => ⟨rfl, by rw [hU]; exact hHP, hK.warm hW⟩⟩ rfl (by rw [List.length_map]; simpa using hlen) hl.1 ?_ (lv_room (by rw [ix_sum_cv]; exact hsum)) hd hf) kk
                    simp [ix_cv]
                  · rw [if_neg hn0] at hw
                    refine ix_run_fin (rest := rest) (a' := (Value.ref (base + a) :: As.map (ix_cv b base)).toArray) hlo hmo hI.2.2.2 hl (va_runIN (b := base + a) (As := As.map (ix_cv b base)) (bytes := cc) (maxL := mL) (n := np) ⟨hx, hb, hml, hown, hts⟩ hMet ⟨va_cnB np hts hG rfl rfl rfl (hK.2.1 _ (List.mem_filter.mpr ⟨List.mem_of_getElem? hw, rfl⟩)) wini ⟨o7.1, o7.2, o8⟩ hRR, hnm, ix_word hts o2 rfl⟩ ⟨ix_Pc_blind, fun U hU hW => ⟨rfl, by rw [hU]; exact hHP, hK.warm hW⟩⟩ rfl (by rw [List.length_map]; simpa using hlen) hl.1 ?_ (lv_room (by rw [ix_sum_cv]; exact hsum)) hd hf) kk
                    simp [ix_cv]
                · cases hrcv
            · cases hr
end IXC
end
section
/-! WHAT THE INTERPRETER COMES TO, THE MACHINE COMES TO -/
theorem ix_sl_len (b base : Nat) (as : List Value) : (lg_sl (as.map (ix_cv b base))).length = (lg_sl as).length := by
  induction as with
  | nil => rfl
  | cons v as ih =>
    have h1 : lg_sl (v :: as) = (if v.category = 2 then [.val v, .second] else [.val v]) ++ lg_sl as := rfl
    have h2 : lg_sl ((v :: as).map (ix_cv b base)) = (if (ix_cv b base v).category = 2 then [.val (ix_cv b base v), .second] else [.val (ix_cv b base v)]) ++ lg_sl (as.map (ix_cv b base)) := rfl
    rw [h1, h2, List.length_append, List.length_append, ih, ix_cv_cat]
    split <;> rfl
theorem ix_tln_ok {T : ix_T} {pc n : Nat} {i : Instr} (hT : ix_tln T = true) (h : (pc, i, n) ∈ T) : (∃ d lo hi offs, i = .tableswitch d lo hi offs) ∨ n = ix_len i := by
  have h1 := List.all_eq_true.mp hT _ h
  simp only at h1
  split at h1
  · exact Or.inl ⟨_, _, _, _, rfl⟩
  · exact Or.inr (by simpa using h1)
theorem ix_call_h {cn kd idx pc y : Nat} {ls : ix_L} {st as : List Value} {h : ix_H} {g : ix_F} (hr : ix_call cn kd idx pc ls st h = some (.inr (.inr (y, as, g)))) : g.2.2.2 = h := by
  unfold ix_call at hr
  simp only at hr
  repeat' split at hr
  all_goals first
    | (cases hr; done)
    | (cases hr; rfl)
set_option maxHeartbeats 8000000 in
theorem ix_exec_call {S : ix_S} {q : ix_M} {i : Instr} {pc : Nat} {ls : ix_L} {st : List Value} {h : ix_H} {w : Nat × List Value × ix_F} (hr : ix_exec S q i pc ls st h = some (.inr (.inr w))) : ∃ kd idx, ((kd = 0 ∧ i = .invokevirtual idx) ∨ (kd = 1 ∧ i = .invokestatic idx) ∨ (kd = 2 ∧ i = .invokespecial idx)) ∧ ix_call q.1 kd idx pc ls st h = some (.inr (.inr w)) := by
  unfold ix_exec at hr
  split at hr
  all_goals first
    | exact ⟨0, _, Or.inl ⟨rfl, rfl⟩, hr⟩
    | exact ⟨1, _, Or.inr (Or.inl ⟨rfl, rfl⟩), hr⟩
    | exact ⟨2, _, Or.inr (Or.inr ⟨rfl, rfl⟩), hr⟩
    | skip
  all_goals (first | unfold ix_ldI at hr | unfold ix_ldL at hr | unfold ix_ldA at hr | unfold ix_stI at hr | unfold ix_stL at hr | unfold ix_stA at hr | unfold ix_gf at hr | unfold ix_pf at hr | unfold ix_al at hr | unfold ix_ia at hr | unfold ix_ba at hr | unfold ix_aa at hr | unfold ix_is at hr | unfold ix_bs at hr | unfold ix_as at hr | unfold ix_na at hr | unfold ix_nq at hr | unfold ix_no at hr | skip)
  all_goals (try unfold ix_goto at hr)
  all_goals (try unfold ix_br at hr)
  all_goals (repeat' split at hr)
  all_goals (cases hr; done)
section IXM
variable {p : Program} {l : Launch} {e : Env} {R : Room} {s : State} {m : MethodId} {args : Array Value} {below : List Frame} {meth : Method} {c : Code} {Q : State → Prop}
variable {D : va_G} {b base : Nat} {aC : FieldType → ClassId} {q : ix_M} {h0 : ix_H} {S : ix_S}
/-- a run of the interpreter, with what its calls come to and its own end given -/
theorem ix_W_run (X : ix_X p R s m args meth c D b base aC q S) {d : Nat} (hM : ∀ (y : Nat) (as : List Value) (h : ix_H) (o : ix_O), ix_Ev d y as h o → ix_Met l D b base aC d y as h o) (hR : d + 1 ≤ R.frames ∧ 38 * d + 38 ≤ R.locals) {o : ix_O} (hhi : o.2.1 - h0.1 ≤ R.cells ∧ o.2.2.1 - h0.2.1 ≤ R.slots)
    (hret : ∀ f : ix_F, ix_step S q f = some (.inr (.inl o)) → ix_W p l e R s m args below meth c Q D b base aC q h0 f) :
    ∀ (n : Nat) (f : ix_F), ix_run S (ix_Ev d) q n f o → h0.1 ≤ f.2.2.2.1 ∧ h0.2.1 ≤ f.2.2.2.2.1 → ix_W p l e R s m args below meth c Q D b base aC q h0 f := by
  intro n
  induction n with
  | zero => intro f z; exact z.elim
  | succ n ih =>
    intro f z hlo
    unfold ix_run at z
    split at z
    · exact z.elim
    · rename_i g hs
      have hm := ix_step_mono hs
      have hm2 := ix_run_mono (ix_Ev_mono d) n g o z
      have kk := ih g z ⟨Nat.le_trans hlo.1 hm.1, Nat.le_trans hlo.2 hm.2⟩
      unfold ix_step at hs
      split at hs
      · rename_i i n' hat
        obtain ⟨hd, hmem⟩ := ix_dec X.2.2.2.2.2.2.2.2.2.2.1 hat
        have hn := ix_tln_ok X.2.2.2.2.2.2.2.2.2.2.2.1 hmem
        obtain ⟨pc, ls, st, h⟩ := f
        exact ix_w_exec X hs hd hn hlo ⟨by omega, by omega⟩ kk
      · cases hs
    · rename_i u hs
      subst z
      exact hret f hs
    · rename_i y as pc' ls' st' h' hs
      obtain ⟨v, h2, hc, hn⟩ := z
      have hm1 := ix_Ev_mono d _ _ _ _ hc
      have hm2 := ix_run_mono (ix_Ev_mono d) n _ o hn
      unfold ix_step at hs
      split at hs
      · rename_i i n' hat
        obtain ⟨hd, hmem⟩ := ix_dec X.2.2.2.2.2.2.2.2.2.2.1 hat
        have hnl := ix_tln_ok X.2.2.2.2.2.2.2.2.2.2.2.1 hmem
        obtain ⟨kd, idx, hi, hcall⟩ := ix_exec_call hs
        have hh : h' = f.2.2.2 := ix_call_h hcall
        subst hh
        have kk := ih _ hn ⟨Nat.le_trans hlo.1 hm1.1, Nat.le_trans hlo.2 hm1.2⟩
        have hn3 : n' = 3 := by
          rcases hi with ⟨-, rfl⟩ | ⟨-, rfl⟩ | ⟨-, rfl⟩ <;> (rcases hnl with ⟨_, _, _, _, z⟩ | z; cases z; exact z)
        subst hn3
        obtain ⟨pc, ls, st, h⟩ := f
        simp only at hm1 hm2 hlo
        exact ix_w_call X hi hcall hd (hM _ _ _ _ hc) hR hlo hm1 ⟨by have := hm2.1; show h2.1 - h0.1 ≤ R.cells; omega, by have := hm2.2; show h2.2.1 - h0.2.1 ≤ R.slots; omega⟩ kk
      · cases hs
theorem ix_w_ret (X : ix_X p R s m args meth c D b base aC q S) {f : ix_F} {o : ix_O} (hr : ix_step S q f = some (.inr (.inl o))) :
    ix_W p l e R s m args below meth c (MQ below (ix_Qc D b base aC o) args s (o.2.1 - h0.1) (o.2.2.1 - h0.2.1) (ix_A base)) D b base aC q h0 f := by
  unfold ix_step at hr
  split at hr
  · rename_i i n hat
    obtain ⟨hd, hmem⟩ := ix_dec X.2.2.2.2.2.2.2.2.2.2.1 hat
    have hnl := ix_tln_ok X.2.2.2.2.2.2.2.2.2.2.2.1 hmem
    obtain ⟨hx, hb, hret, -, -, -, -, -, -, hlk, -⟩ := X
    obtain ⟨pc, ls, st, h⟩ := f
    intro H locs la hI hl
    simp only at hr
    unfold ix_exec at hr
    split at hr
    all_goals (first | unfold ix_ldI at hr | unfold ix_ldL at hr | unfold ix_ldA at hr | unfold ix_stI at hr | unfold ix_stL at hr | unfold ix_stA at hr | unfold ix_gf at hr | unfold ix_pf at hr | unfold ix_al at hr | unfold ix_ia at hr | unfold ix_ba at hr | unfold ix_aa at hr | unfold ix_is at hr | unfold ix_bs at hr | unfold ix_as at hr | unfold ix_na at hr | unfold ix_nq at hr | unfold ix_no at hr | (unfold ix_call at hr; simp only at hr) | skip)
    all_goals (try unfold ix_goto at hr)
    all_goals (try unfold ix_br at hr)
    all_goals (repeat' split at hr)
    all_goals first
      | (cases hr; done)
      | skip
    · rename_i v ty hrt hok
      cases hr
      have hn1 : n = 1 := by rcases hnl with ⟨_, _, _, _, z⟩ | z; cases z; exact z
      subst hn1
      exact W.zret hx hb (hret.trans hrt) (ix_ok_fit (b := b) (base := base) hok).1 (fun t ht hW => ⟨rfl, by rw [ht]; exact ⟨hI.1, hI.2.1, hI.2.2.1⟩, hI.2.2.2.F ht⟩) hI.2.2.2.2.2 hd hlk
    · rename_i v C hrt
      cases hr
      have hn1 : n = 1 := by rcases hnl with ⟨_, _, _, _, z⟩ | z; cases z; exact z
      subst hn1
      exact W.aret hx hb (hret.trans hrt) (Or.inl ⟨_, rfl⟩) (Or.inr ⟨_, rfl⟩) (fun t ht hW => ⟨rfl, by rw [ht]; exact ⟨hI.1, hI.2.1, hI.2.2.1⟩, hI.2.2.2.F ht⟩) hI.2.2.2.2.2 hd hlk
    · rename_i hrt
      cases hr
      have hn1 : n = 1 := by rcases hnl with ⟨_, _, _, _, z⟩ | z; cases z; exact z
      subst hn1
      exact W.vret hx hb (hret.trans hrt) (fun t ht hW => ⟨rfl, by rw [ht]; exact ⟨hI.1, hI.2.1, hI.2.2.1⟩, hI.2.2.2.F ht⟩) hI.2.2.2.2.2 hd hlk
  · cases hr
end IXM
set_option maxHeartbeats 4000000 in
/-- THE INTERPRETER IS SOUND -/
theorem ix_sound (l : Launch) (D : va_G) (b base : Nat) (aC : FieldType → ClassId) : ∀ (d y : Nat) (as : List Value) (h : ix_H) (o : ix_O), ix_Ev d y as h o → ix_Met l D b base aC d y as h o := by
  intro d
  induction d with
  | zero => intro y as h o z; exact z.elim
  | succ d ih =>
    intro y as h o z
    have hmo := ix_Ev_mono _ _ _ _ _ z
    obtain ⟨q, n, hq, hlen, hrun⟩ := z
    refine ⟨q, hq, ?_⟩
    have hmem := List.mem_of_getElem? hq
    have hok := ix_mNs_ok _ hmem
    have htok := ix_mNs_tok _ hmem
    obtain ⟨cn, nm, cc, mL, rt, np, kd, T, ic, ii, isl⟩ := q
    simp only [ix_mok, Bool.and_eq_true, decide_eq_true_eq] at hok
    obtain ⟨⟨⟨⟨⟨⟨⟨⟨⟨⟨⟨o1, o2⟩, o3⟩, o4⟩, o5⟩, o6⟩, o7⟩, o8⟩, o9⟩, o10⟩, o11⟩, o12⟩ := hok
    simp only at htok hlen ⊢
    refine Met.ofW (cc := cc) (maxL := mL) (ret := rt) o5 rfl ?_
    intro p e s m args below meth c s₁ B hml hv
    obtain ⟨rfl, hHP, hK⟩ := hv
    have hts := atoms_spec (ws := .code nm cc mL rt :: ix_tb) B.pre
    have hown : s.vm.findClass nm.cls = some m.cls := findClass_of_methodNamed B.named
    have hname : meth.name = nm.name := (name_of_methodNamed B.named B.method).1
    have X : ix_X p (ix_rm (d + 1) h o) s m (as.map (ix_cv b base)).toArray meth c D b base aC (cn, nm, cc, mL, rt, np, kd, T, ic, ii, isl) none :=
      ⟨B.exec, B.bytes, B.returns, hml, by rw [← o4]; exact hown, fun w hw => hts w (List.mem_cons_of_mem _ hw), hK, fun L xs z => (by cases z), fun z => by rw [hname]; exact (o9 z).1, B.notSynchronized, htok, o11, Nat.succ_le_succ (Nat.zero_le d), by show 38 ≤ 38 * (d + 1); omega⟩
    rw [lg_entry_eq]
    have hl := lv_entry (as.map (ix_cv b base)) (n := mL) (by rw [ix_sl_len]; exact hlen)
    rw [ix_args_map] at hl
    have hW := ix_W_run (below := below) (e := e) (h0 := h) (Q := MQ below (ix_Qc D b base aC o) (as.map (ix_cv b base)).toArray s (o.2.1 - h.1) (o.2.2.1 - h.2.1) (ix_A base)) X (fun y as h o z => ih y as h o z) ⟨Nat.le_refl _, by show 38 * d + 38 ≤ 38 * (d + 1); omega⟩ (o := o) ⟨Nat.le_refl _, Nat.le_refl _⟩ (fun f hf => ix_w_ret X hf) n _ hrun ⟨Nat.le_refl _, Nat.le_refl _⟩
    have k1 := hW s.heap [] _ ⟨hHP.1, hHP.2.1, hHP.2.2, va_S.rf⟩ hl
    exact W.cs (by show 0 = h.1 - h.1; omega) (by show 0 = h.2.1 - h.2.1; omega) k1
end
section
/-! THE CLAIM OUT OF A RUN OF THE INTERPRETER -/
def mD_law : ix_M := (6, yL_law, cL_law, 4, some .boolean, 1, 1, mT_L_law, 0, 0, 0)
/-- WHAT IS LEFT TO PROVE, without the machine: the interpreter runs the law to its end, with 1, in the claim's room -/
def ix_claim : Prop := ∀ (L : Nat) (xs : Nat → Int32), L ≤ 3072 → ∃ (n : Nat) (hF : ix_H), ix_run (some (L, xs)) (ix_Ev 8) mD_law n (0, [(0, .retAddr 0)], [], (0, 0, fun _ => ix_no_)) (some (.int 1), hF) ∧ hF.1 ≤ 600000 ∧ hF.2.1 ≤ 7302250
/-! THE CLAIM OUT OF ONE WALK OF THE LAW'S BODY. Your part is whole_start (and what it stands on); all else here is the same for every law, but numbers. -/
def R_law : String := "OnceLedgerLaw"
def lw_P (b : Addr) (xs : List Int32) (args : Array Value) (s : State) : Prop := args = #[.ref b] ∧ s.IntsAt b xs ∧ xs.length ≤ 3072 ∧ (Jvm.Cond.and given_1 narrow_1).before args s = true
def lw_Q (_ : Array Value) (s : State) (o : Outcome) (t : State) : Prop := o = .returned (some (.int 1)) ∧ Framed s o t [] 600000 7302250
def lw_Z (below : List Frame) (a : Array Value) (s : State) : State → Prop := fun t => ∃ o, t.status = .running ∧ Ended t below o ∧ lw_Q a s o t
/-- the law's own end, with 1 on the stack, nothing written that was there before, its room as the claim has it -/
theorem lw_ret {p : Program} {l : Launch} {e : Env} {s : State} {m : MethodId} {below : List Frame} {meth : Method} {c : Code} {b : Nat} (hx : p.tables.exec = Jvm.exec) (hb : c.code = code) (hr : meth.sig.returnType = ret) (hlocks : meth.locks = false) {pc : Nat} {H : Heap} {ls : Array Slot} (hdg : decode code pc = .ok (.ireturn, 1)) : W p l e room_1 s m #[Value.ref b] below meth c H [] 600000 7302250 (lw_Z below #[Value.ref b] s) (F0 m pc ls [.int 1]) := by
  intro T hT X
  obtain ⟨fs, hret, hrun, hended, hW, hframe⟩ := X.leave (v := some (.int 1)) (hlocks := hlocks) (fun h => by rw [hr] at h; cases h)
  have hmeth' : T.vm.method? m = some meth := X.method'
  refine ⟨T.setFrames fs, ?_, .returned (some (.int 1)), hrun, hended, rfl, ⟨_, rfl⟩, hW, hframe⟩
  jvm_step X.here [X.here.top, hx, hb, hdg, hmeth', hr, ret, narrow_b1]
  (try refine ⟨rfl, ?_⟩); (try refine ⟨rfl, ?_⟩)
  first | (intro acts; rw [hret _ acts rfl rfl rfl]) | rw [hret _ _ rfl rfl rfl]
  exact Steps.refl _
/-- what holds at the law's entry: the machine, the code, the tables' words (any of lw_tbl by 'hts w (by decide +kernel)'), the script of L ints xs at the cell b, what the Statement gives of the start (any of its parts by flat_of_before) -/
def lw_At (p : Program) (s : State) (m : MethodId) (meth : Method) (c : Code) (b L : Nat) (xs : Nat → Int32) : Prop :=
  p.tables.exec = Jvm.exec ∧ c.code = code ∧ meth.sig.returnType = ret ∧ c.maxLocals = 4 ∧ s.vm.findClass R_law = some m.cls ∧ (∀ w ∈ lw_tbl, w.before #[Value.ref b] s = true) ∧ va_X b L xs s s.heap ∧ b < s.heap.size ∧ meth.locks = false ∧ (Jvm.Cond.and given_1 narrow_1).before #[Value.ref b] s = true
theorem mT_L_law_tln : ix_tln mT_L_law = true := by decide +kernel
theorem ix_law_ret {S : ix_S} {f : ix_F} {o : ix_O} {v : Int32} (ho : o.1 = some (.int v)) (hr : ix_step S mD_law f = some (.inr (.inl o))) : decode cL_law f.1 = .ok (.ireturn, 1) ∧ f.2.2.1 = [.int v] ∧ o.2 = f.2.2.2 := by
  unfold ix_step at hr
  split at hr
  · rename_i i n hat
    obtain ⟨hd, hmem⟩ := ix_dec (cc := cL_law) mT_L_law_ok hat
    have hnl := ix_tln_ok mT_L_law_tln hmem
    obtain ⟨pc, ls, st, h⟩ := f
    simp only at hr hd ⊢
    unfold ix_exec at hr
    split at hr
    all_goals (first | unfold ix_ldI at hr | unfold ix_ldL at hr | unfold ix_ldA at hr | unfold ix_stI at hr | unfold ix_stL at hr | unfold ix_stA at hr | unfold ix_gf at hr | unfold ix_pf at hr | unfold ix_al at hr | unfold ix_ia at hr | unfold ix_ba at hr | unfold ix_aa at hr | unfold ix_is at hr | unfold ix_bs at hr | unfold ix_as at hr | unfold ix_na at hr | unfold ix_nq at hr | unfold ix_no at hr | (unfold ix_call at hr; simp only at hr) | skip)
    all_goals (try unfold ix_goto at hr)
    all_goals (try unfold ix_br at hr)
    all_goals (repeat' split at hr)
    all_goals first
      | (cases hr; done)
      | skip
    · cases hr
      cases ho
      have hn1 : n = 1 := by rcases hnl with ⟨_, _, _, _, z⟩ | z; cases z; exact z
      subst hn1
      exact ⟨hd, rfl, rfl⟩
    · cases hr
      cases ho
    · cases hr
      cases ho
  · cases hr
set_option maxHeartbeats 4000000 in
theorem whole_start_of (hp : ix_claim) {p : Program} {e : Env} {s : State} {m : MethodId} {below : List Frame} {meth : Method} {c : Code} (l : Launch) {b L : Nat} {xs : Nat → Int32} (hL : L ≤ 3072) (C0 : lw_At p s m meth c b L xs) : W p l e room_1 s m #[Value.ref b] below meth c s.heap [] 0 0 (lw_Z below #[Value.ref b] s) (entryFrame m ([Value.ref b] : List Value).toArray 4) := by
  obtain ⟨hx, hb, hr, hml, hown, hts, hX, hbl, hlocks, hgv⟩ := id C0
  have hts' : ∀ w ∈ ix_tb, w.before #[Value.ref b] s = true := fun w hw => hts w (List.mem_filter.mp hw).1
  have hcl : ∀ ci, ci ≤ 5 → ∃ (cC : ClassId) (iS : Nat → Nat), u_Kn s (ix_RC ci) (ix_TT ci) (ix_NN ci) cC iS := fun ci h5 => u_known hts' (ix_cls_facts ci h5).2.1 (ix_word hts' (ix_ins_ok ci (by omega)).1 rfl)
  obtain ⟨dC, dI, hKc⟩ : ∃ (dC : Nat → ClassId) (dI : Nat → Nat → Nat), ∀ (k : Nat) (q : vw_C), vwCl[k]? = some q → u_Kn s q.1 q.2.1 q.2.2 (dC k) (dI k) := by
    refine ⟨fun k => if h : k ≤ 5 then (hcl k h).choose else 0, fun k => if h : k ≤ 5 then (hcl k h).choose_spec.choose else fun _ => 0, ?_⟩
    intro k q hq
    have h6 := (List.getElem?_eq_some_iff.mp hq).1
    have h7 : vwCl.length = 6 := rfl
    have h5 : k ≤ 5 := by omega
    rw [(ix_cls_facts k h5).1] at hq
    cases hq
    simp only [h5, dite_true]
    exact (hcl k h5).choose_spec.choose_spec
  have hprim : ∀ (i : Nat) (t : FieldType), lw_tbl[i]? = some (.arrayClass t) → (∀ cA, va_RA s cA t = (s.vm.findClass ("[" ++ t.toString) = some cA)) → ∃ cA : ClassId, ArrOfT s cA t ∧ va_RA s cA t := by
    intro i t hw hRA
    obtain ⟨cA, kA, comp, f1, f2, f3⟩ := Cond.arrayClass_spec (ix_word hts' hw rfl)
    exact ⟨cA, fun n z => ⟨fun k h => (by cases h), kA, f2, comp, f3⟩, by rw [hRA]; exact f1⟩
  have hAO : va_AO RX1 s ∧ va_AO RX2 s := ⟨va_AO.of (hts (.arrayOver (.object RX1)) (by decide +kernel)), va_AO.of (hts (.arrayOver (.object RX2)) (by decide +kernel))⟩
  have hobj : ∀ C : String, va_AO C s → ∃ cA : ClassId, ArrOfT s cA (.object C) ∧ va_RA s cA (.object C) := by
    intro C h
    obtain ⟨comp, cA, kA, f4, -, f2, f3, f1⟩ := Cond.arrayOver_spec h
    exact ⟨cA, fun n z => ⟨fun k h => (by cases h), kA, f2, comp, f3⟩, kA, comp, f2, f3, f4, f1⟩
  obtain ⟨w7, w8, w9⟩ := ix_mw_ok.2.2.2.2.2.2.2
  obtain ⟨a0, b0⟩ := hprim _ .int w7 (fun _ => rfl)
  obtain ⟨a1, b1⟩ := hprim _ .byte w8 (fun _ => rfl)
  obtain ⟨a2, b2⟩ := hprim _ .boolean w9 (fun _ => rfl)
  obtain ⟨a3, b3⟩ := hobj RX1 hAO.1
  obtain ⟨a4, b4⟩ := hobj RX2 hAO.2
  obtain ⟨aC, c0, c1, c2, c3, c4⟩ : ∃ aC : FieldType → ClassId, aC .int = a0 ∧ aC .byte = a1 ∧ aC .boolean = a2 ∧ aC (.object RX1) = a3 ∧ aC (.object RX2) = a4 := by
    refine ⟨fun t => if t = .int then a0 else if t = .byte then a1 else if t = .boolean then a2 else if t = .object RX1 then a3 else a4, rfl, rfl, rfl, ?_, ?_⟩
    · simp
    · simp [show ¬ (RX2 = RX1) by decide +kernel]
  have hK : ix_K (dC, dI) aC s := by
    refine ⟨⟨hKc, fun k q hq => ?_⟩, fun w hw => ?_, hAO⟩
    · unfold ix_tys at hq
      rw [c0, c1, c2, c3, c4] at hq
      match k, hq with
      | 0, hq => cases hq; exact b0
      | 1, hq => cases hq; exact b1
      | 2, hq => cases hq; exact b2
      | 3, hq => cases hq; exact b3
      | 4, hq => cases hq; exact b4
      | k + 5, hq => simp at hq
    · have h5 := hts w (List.mem_filter.mp hw).1
      have h6 := (List.mem_filter.mp hw).2
      cases w <;> first | (cases h6; done) | exact va_Nw.of rfl h5
  have X : ix_X p room_1 s m #[Value.ref b] meth c (dC, dI) b s.heap.size aC mD_law (some (L, xs)) :=
    ⟨hx, hb, hr, hml, hown, hts', hK, fun L' xs' z => (by cases z; exact ⟨hX, hbl, hbl⟩), fun z => absurd z (by decide), hlocks, mT_L_law_ok, mT_L_law_tln, by decide, by decide⟩
  obtain ⟨n, hF, hrun, hc, hs⟩ := hp L xs hL
  have hW := ix_W_run (l := l) (e := e) (below := below) (h0 := (0, 0, fun _ => ix_no_)) (Q := lw_Z below #[Value.ref b] s) X (d := 8) (ix_sound l (dC, dI) b s.heap.size aC 8) ⟨by decide, by decide⟩ (o := (some (.int 1), hF)) ⟨hc, hs⟩ (fun f hf => by
    obtain ⟨r1, r2, r3⟩ := ix_law_ret rfl hf
    intro H locs la hI hl
    rw [r2]
    refine va_forget hI.2.2.2.2.2 (W.widen (k := 600000) (n := 7302250) ?_ ?_ (lw_ret hx hb hr hlocks r1))
    · rw [← r3]; exact hc
    · rw [← r3]; exact hs) n _ hrun ⟨Nat.le_refl _, Nat.le_refl _⟩
  rw [lg_entry_eq]
  have hl := lv_entry ([.ref b]) (n := 4) (Nat.le_of_ble_eq_true rfl)
  exact hW s.heap [] _ ⟨rfl, fun _ _ => rfl, fun k q h => by simp [ix_ws] at h, va_S.rf⟩ hl
end
section
/-! RULES FOR RUNS OF THE INTERPRETER -/
def ix_rl (ls : ix_L) (r : ix_R) : ix_R := match r with
  | .inl (pc, _, st, h) => .inl (pc, ls, st, h)
  | .inr (.inl o) => .inr (.inl o)
  | .inr (.inr (y, as, (pc, _, st, h))) => .inr (.inr (y, as, (pc, ls, st, h)))
def ix_nd (ls : ix_L) : Prop := (ls.map (fun x => x.1)).Nodup
def ix_le (k l : ix_L) : Prop := ix_nd k ∧ ∀ i v, ix_get k i = some v → ix_get l i = some v
theorem ix_get_cons (i k : Nat) (v : Value) (l : ix_L) : ix_get ((i, v) :: l) k = if i = k then some v else ix_get l k := by
  unfold ix_get
  by_cases h : i = k
  · subst h; simp
  · have : (i == k) = false := by simpa using h
    simp [List.find?_cons, this, h]
theorem ix_get_filter {P : Nat × Value → Bool} {l : ix_L} {k : Nat} {v : Value} (h : ix_get l k = some v) (hp : P (k, v) = true) : ix_get (l.filter P) k = some v := by
  induction l with
  | nil => simp [ix_get] at h
  | cons x l ih =>
    obtain ⟨i, w⟩ := x
    rw [ix_get_cons] at h
    by_cases e : i = k
    · subst e
      rw [if_pos rfl] at h
      cases h
      rw [List.filter_cons_of_pos hp, ix_get_cons, if_pos rfl]
    · rw [if_neg e] at h
      by_cases hx : P (i, w) = true
      · rw [List.filter_cons_of_pos hx, ix_get_cons, if_neg e]
        exact ih h
      · rw [List.filter_cons_of_neg hx]
        exact ih h
theorem ix_get_filter' {P : Nat × Value → Bool} {l : ix_L} {k : Nat} {v : Value} (hn : ix_nd l) (h : ix_get (l.filter P) k = some v) : ix_get l k = some v ∧ P (k, v) = true := by
  induction l with
  | nil => simp [ix_get] at h
  | cons x l ih =>
    obtain ⟨i, w⟩ := x
    have hn2 : ix_nd l := (List.nodup_cons.mp hn).2
    have hni : i ∉ l.map (fun x => x.1) := (List.nodup_cons.mp hn).1
    by_cases hx : P (i, w) = true
    · rw [List.filter_cons_of_pos hx, ix_get_cons] at h
      rw [ix_get_cons]
      by_cases e : i = k
      · subst e
        rw [if_pos rfl] at h ⊢
        cases h
        exact ⟨rfl, hx⟩
      · rw [if_neg e] at h ⊢
        exact ih hn2 h
    · rw [List.filter_cons_of_neg hx] at h
      obtain ⟨h1, h2⟩ := ih hn2 h
      have hk : k ∈ l.map (fun x => x.1) := List.mem_map.mpr ⟨(k, v), ix_get_mem h1, rfl⟩
      have e : ¬ i = k := fun z => hni (z ▸ hk)
      rw [ix_get_cons, if_neg e]
      exact ⟨h1, h2⟩
theorem ix_nd_filter {P : Nat × Value → Bool} {l : ix_L} (hn : ix_nd l) : ix_nd (l.filter P) := List.Nodup.sublist (List.Sublist.map _ List.filter_sublist) hn
theorem ix_le_put1 {k l : ix_L} (h : ix_le k l) (i : Nat) (v : Value) : ix_le (ix_put1 k i v) (ix_put1 l i v) := by
  obtain ⟨hn, hg⟩ := h
  refine ⟨List.nodup_cons.mpr ⟨fun z => ?_, ix_nd_filter hn⟩, fun j w hj => ?_⟩
  · obtain ⟨x, hx, e⟩ := List.mem_map.mp z
    have := (List.mem_filter.mp hx).2
    simp [e] at this
  · unfold ix_put1 at hj ⊢
    rw [ix_get_cons] at hj ⊢
    by_cases e : i = j
    · rw [if_pos e] at hj ⊢; exact hj
    · rw [if_neg e] at hj ⊢
      obtain ⟨h1, h2⟩ := ix_get_filter' hn hj
      exact ix_get_filter (hg _ _ h1) h2
theorem ix_le_put2 {k l : ix_L} (h : ix_le k l) (i : Nat) (v : Value) : ix_le (ix_put2 k i v) (ix_put2 l i v) := by
  obtain ⟨hn, hg⟩ := h
  refine ⟨List.nodup_cons.mpr ⟨fun z => ?_, ix_nd_filter hn⟩, fun j w hj => ?_⟩
  · obtain ⟨x, hx, e⟩ := List.mem_map.mp z
    have := (List.mem_filter.mp hx).2
    simp [e] at this
  · unfold ix_put2 at hj ⊢
    rw [ix_get_cons] at hj ⊢
    by_cases e : i = j
    · rw [if_pos e] at hj ⊢; exact hj
    · rw [if_neg e] at hj ⊢
      obtain ⟨h1, h2⟩ := ix_get_filter' hn hj
      exact ix_get_filter (hg _ _ h1) h2
/-- results with fewer locals -/
def ix_lr (r r' : ix_R) : Prop := match r, r' with
  | .inl (pc, ls, st, h), .inl (pc', ls', st', h') => pc = pc' ∧ ix_le ls ls' ∧ st = st' ∧ h = h'
  | .inr (.inl o), .inr (.inl o') => o = o'
  | .inr (.inr (y, as, (pc, ls, st, h))), .inr (.inr (y', as', (pc', ls', st', h'))) => y = y' ∧ as = as' ∧ pc = pc' ∧ ix_le ls ls' ∧ st = st' ∧ h = h'
  | _, _ => False
theorem ix_lr_rl {k l : ix_L} (h : ix_le k l) {x : Option ix_R} {y : Option ix_R} {r : ix_R} (hx : x = some r) (hy : y = x.map (ix_rl l)) (hr : ix_rl k r = r) : ∃ r', y = some r' ∧ ix_lr r r' := by
  subst hx
  refine ⟨_, hy, ?_⟩
  rcases r with ⟨pc, ls, st, hh⟩ | o | ⟨y', as, pc, ls, st, hh⟩
  · cases hr; exact ⟨rfl, h, rfl, rfl⟩
  · rfl
  · cases hr; exact ⟨rfl, rfl, rfl, h, rfl, rfl⟩
end
section
/-! MORE LOCALS DO NO HARM -/
set_option maxHeartbeats 2000000 in
theorem ix_goto_rl (pc : Nat) (off : Int) (k l : ix_L) (st : List Value) (h : ix_H) : ix_goto pc off l st h = (ix_goto pc off k st h).map (ix_rl l) := by
  unfold ix_goto
  repeat' split
  all_goals first | rfl | simp_all [ix_rl]
set_option maxHeartbeats 2000000 in
theorem ix_br_rl (b : Bool) (pc : Nat) (off : Int) (k l : ix_L) (st : List Value) (h : ix_H) : ix_br b pc off l st h = (ix_br b pc off k st h).map (ix_rl l) := by
  unfold ix_br
  repeat' split
  all_goals first | rfl | simp_all [ix_rl]
set_option maxHeartbeats 2000000 in
theorem ix_gf_rl (cn idx pc : Nat) (k l : ix_L) (st : List Value) (h : ix_H) : ix_gf cn idx pc l st h = (ix_gf cn idx pc k st h).map (ix_rl l) := by
  unfold ix_gf
  repeat' split
  all_goals first | rfl | simp_all [ix_rl]
set_option maxHeartbeats 2000000 in
theorem ix_pf_rl (cn kd idx pc : Nat) (k l : ix_L) (st : List Value) (h : ix_H) : ix_pf cn kd idx pc l st h = (ix_pf cn kd idx pc k st h).map (ix_rl l) := by
  unfold ix_pf
  repeat' split
  all_goals first | rfl | simp_all [ix_rl]
set_option maxHeartbeats 2000000 in
theorem ix_al_rl (S : ix_S) (pc : Nat) (k l : ix_L) (st : List Value) (h : ix_H) : ix_al S pc l st h = (ix_al S pc k st h).map (ix_rl l) := by
  unfold ix_al
  repeat' split
  all_goals first | rfl | simp_all [ix_rl]
set_option maxHeartbeats 2000000 in
theorem ix_ia_rl (S : ix_S) (pc : Nat) (k l : ix_L) (st : List Value) (h : ix_H) : ix_ia S pc l st h = (ix_ia S pc k st h).map (ix_rl l) := by
  unfold ix_ia
  repeat' split
  all_goals first | rfl | simp_all [ix_rl]
set_option maxHeartbeats 2000000 in
theorem ix_ba_rl (pc : Nat) (k l : ix_L) (st : List Value) (h : ix_H) : ix_ba pc l st h = (ix_ba pc k st h).map (ix_rl l) := by
  unfold ix_ba
  repeat' split
  all_goals first | rfl | simp_all [ix_rl]
set_option maxHeartbeats 2000000 in
theorem ix_aa_rl (pc : Nat) (k l : ix_L) (st : List Value) (h : ix_H) : ix_aa pc l st h = (ix_aa pc k st h).map (ix_rl l) := by
  unfold ix_aa
  repeat' split
  all_goals first | rfl | simp_all [ix_rl]
set_option maxHeartbeats 2000000 in
theorem ix_is_rl (pc : Nat) (k l : ix_L) (st : List Value) (h : ix_H) : ix_is pc l st h = (ix_is pc k st h).map (ix_rl l) := by
  unfold ix_is
  repeat' split
  all_goals first | rfl | simp_all [ix_rl]
set_option maxHeartbeats 2000000 in
theorem ix_bs_rl (pc : Nat) (k l : ix_L) (st : List Value) (h : ix_H) : ix_bs pc l st h = (ix_bs pc k st h).map (ix_rl l) := by
  unfold ix_bs
  repeat' split
  all_goals first | rfl | simp_all [ix_rl]
set_option maxHeartbeats 2000000 in
theorem ix_as_rl (pc : Nat) (k l : ix_L) (st : List Value) (h : ix_H) : ix_as pc l st h = (ix_as pc k st h).map (ix_rl l) := by
  unfold ix_as
  repeat' split
  all_goals first | rfl | simp_all [ix_rl]
set_option maxHeartbeats 2000000 in
theorem ix_na_rl (ty : FieldType) (pc : Nat) (k l : ix_L) (st : List Value) (h : ix_H) : ix_na ty pc l st h = (ix_na ty pc k st h).map (ix_rl l) := by
  unfold ix_na
  repeat' split
  all_goals first | rfl | simp_all [ix_rl]
set_option maxHeartbeats 2000000 in
theorem ix_nq_rl (cn idx pc : Nat) (k l : ix_L) (st : List Value) (h : ix_H) : ix_nq cn idx pc l st h = (ix_nq cn idx pc k st h).map (ix_rl l) := by
  unfold ix_nq
  repeat' split
  all_goals first | rfl | simp_all [ix_rl]
set_option maxHeartbeats 2000000 in
theorem ix_no_rl (cn idx pc : Nat) (k l : ix_L) (st : List Value) (h : ix_H) : ix_no cn idx pc l st h = (ix_no cn idx pc k st h).map (ix_rl l) := by
  unfold ix_no
  repeat' split
  all_goals first | rfl | simp_all [ix_rl]
set_option maxHeartbeats 2000000 in
theorem ix_call_rl (cn kd idx pc : Nat) (k l : ix_L) (st : List Value) (h : ix_H) : ix_call cn kd idx pc l st h = (ix_call cn kd idx pc k st h).map (ix_rl l) := by
  unfold ix_call
  simp only
  repeat' split
  all_goals first | rfl | simp_all [ix_rl]
def ix_loc : Instr → Bool
  | .iload _ => true | .iload_n _ => true | .lload _ => true | .lload_n _ => true | .aload _ => true | .aload_n _ => true
  | .istore _ => true | .istore_n _ => true | .lstore _ => true | .lstore_n _ => true | .astore _ => true | .astore_n _ => true
  | .iinc _ _ => true | _ => false
set_option maxHeartbeats 8000000 in
theorem ix_exec_rl (S : ix_S) (q : ix_M) (i : Instr) (pc : Nat) (k l : ix_L) (st : List Value) (h : ix_H) (hi : ix_loc i = false) : ix_exec S q i pc l st h = (ix_exec S q i pc k st h).map (ix_rl l) := by
  cases i
  all_goals first
    | exact absurd (show true = false from hi) (by decide)
    | exact ix_goto_rl _ _ k l st h
    | exact ix_gf_rl _ _ _ k l st h
    | exact ix_pf_rl _ _ _ _ k l st h
    | exact ix_al_rl _ _ k l st h
    | exact ix_ia_rl _ _ k l st h
    | exact ix_ba_rl _ k l st h
    | exact ix_aa_rl _ k l st h
    | exact ix_is_rl _ k l st h
    | exact ix_bs_rl _ k l st h
    | exact ix_as_rl _ k l st h
    | exact ix_na_rl _ _ k l st h
    | exact ix_nq_rl _ _ _ k l st h
    | exact ix_no_rl _ _ _ k l st h
    | exact ix_call_rl _ _ _ _ k l st h
    | (show (match ix_pure _ st with | some st' => _ | none => none) = _; cases ix_pure _ st <;> rfl)
    | (simp only [ix_exec]; split <;> first | rfl | exact ix_br_rl _ _ _ k l _ h)
    | (simp only [ix_exec]; repeat' split) <;> first | rfl | exact ix_goto_rl _ _ k l _ h | simp_all [ix_rl]

theorem ix_exec_le {S : ix_S} {q : ix_M} {i : Instr} {pc : Nat} {k l : ix_L} {st : List Value} {h : ix_H} {r : ix_R} (hle : ix_le k l) (hr : ix_exec S q i pc k st h = some r) : ∃ r', ix_exec S q i pc l st h = some r' ∧ ix_lr r r' := by
  by_cases hi : ix_loc i = false
  · refine ix_lr_rl hle hr (ix_exec_rl S q i pc k l st h hi) ?_
    have h1 := ix_exec_rl S q i pc k k st h hi
    rw [hr] at h1
    exact (Option.some.inj h1).symm
  · skip
    cases i
    all_goals first
      | exact absurd (show false = false from rfl) hi
      | skip
    case iload x =>
      show ∃ r', ix_ldI pc 2 l st h x = some r' ∧ ix_lr r r'
      replace hr : ix_ldI pc 2 k st h x = some r := hr
      unfold ix_ldI at hr ⊢
      split at hr
      · rename_i v hv; cases hr; rw [hle.2 _ _ hv]; exact ⟨_, rfl, rfl, hle, rfl, rfl⟩
      · cases hr
    case iload_n x =>
      show ∃ r', ix_ldI pc 1 l st h x = some r' ∧ ix_lr r r'
      replace hr : ix_ldI pc 1 k st h x = some r := hr
      unfold ix_ldI at hr ⊢
      split at hr
      · rename_i v hv; cases hr; rw [hle.2 _ _ hv]; exact ⟨_, rfl, rfl, hle, rfl, rfl⟩
      · cases hr
    case lload x =>
      show ∃ r', ix_ldL pc 2 l st h x = some r' ∧ ix_lr r r'
      replace hr : ix_ldL pc 2 k st h x = some r := hr
      unfold ix_ldL at hr ⊢
      split at hr
      · rename_i v hv; cases hr; rw [hle.2 _ _ hv]; exact ⟨_, rfl, rfl, hle, rfl, rfl⟩
      · cases hr
    case lload_n x =>
      show ∃ r', ix_ldL pc 1 l st h x = some r' ∧ ix_lr r r'
      replace hr : ix_ldL pc 1 k st h x = some r := hr
      unfold ix_ldL at hr ⊢
      split at hr
      · rename_i v hv; cases hr; rw [hle.2 _ _ hv]; exact ⟨_, rfl, rfl, hle, rfl, rfl⟩
      · cases hr
    case aload x =>
      show ∃ r', ix_ldA pc 2 l st h x = some r' ∧ ix_lr r r'
      replace hr : ix_ldA pc 2 k st h x = some r := hr
      unfold ix_ldA at hr ⊢
      split at hr
      · rename_i v hv; cases hr; rw [hle.2 _ _ hv]; exact ⟨_, rfl, rfl, hle, rfl, rfl⟩
      · rename_i v hv; cases hr; rw [hle.2 _ _ hv]; exact ⟨_, rfl, rfl, hle, rfl, rfl⟩
      · cases hr
    case aload_n x =>
      show ∃ r', ix_ldA pc 1 l st h x = some r' ∧ ix_lr r r'
      replace hr : ix_ldA pc 1 k st h x = some r := hr
      unfold ix_ldA at hr ⊢
      split at hr
      · rename_i v hv; cases hr; rw [hle.2 _ _ hv]; exact ⟨_, rfl, rfl, hle, rfl, rfl⟩
      · rename_i v hv; cases hr; rw [hle.2 _ _ hv]; exact ⟨_, rfl, rfl, hle, rfl, rfl⟩
      · cases hr
    case istore x =>
      show ∃ r', ix_stI _ pc 2 l st h x = some r' ∧ ix_lr r r'
      replace hr : ix_stI _ pc 2 k st h x = some r := hr
      unfold ix_stI at hr ⊢
      split at hr
      · split at hr
        · rename_i hk; cases hr; simp only [hk, if_true]; exact ⟨_, rfl, rfl, ix_le_put1 hle _ _, rfl, rfl⟩
        · cases hr
      · cases hr
    case istore_n x =>
      show ∃ r', ix_stI _ pc 1 l st h x = some r' ∧ ix_lr r r'
      replace hr : ix_stI _ pc 1 k st h x = some r := hr
      unfold ix_stI at hr ⊢
      split at hr
      · split at hr
        · rename_i hk; cases hr; simp only [hk, if_true]; exact ⟨_, rfl, rfl, ix_le_put1 hle _ _, rfl, rfl⟩
        · cases hr
      · cases hr
    case lstore x =>
      show ∃ r', ix_stL _ pc 2 l st h x = some r' ∧ ix_lr r r'
      replace hr : ix_stL _ pc 2 k st h x = some r := hr
      unfold ix_stL at hr ⊢
      split at hr
      · split at hr
        · rename_i hk; cases hr; simp only [hk, if_true]; exact ⟨_, rfl, rfl, ix_le_put2 hle _ _, rfl, rfl⟩
        · cases hr
      · cases hr
    case lstore_n x =>
      show ∃ r', ix_stL _ pc 1 l st h x = some r' ∧ ix_lr r r'
      replace hr : ix_stL _ pc 1 k st h x = some r := hr
      unfold ix_stL at hr ⊢
      split at hr
      · split at hr
        · rename_i hk; cases hr; simp only [hk, if_true]; exact ⟨_, rfl, rfl, ix_le_put2 hle _ _, rfl, rfl⟩
        · cases hr
      · cases hr
    case astore x =>
      show ∃ r', ix_stA _ pc 2 l st h x = some r' ∧ ix_lr r r'
      replace hr : ix_stA _ pc 2 k st h x = some r := hr
      unfold ix_stA at hr ⊢
      split at hr
      · split at hr
        · rename_i hk; cases hr; simp only [hk, if_true]; exact ⟨_, rfl, rfl, ix_le_put1 hle _ _, rfl, rfl⟩
        · cases hr
      · cases hr
    case astore_n x =>
      show ∃ r', ix_stA _ pc 1 l st h x = some r' ∧ ix_lr r r'
      replace hr : ix_stA _ pc 1 k st h x = some r := hr
      unfold ix_stA at hr ⊢
      split at hr
      · split at hr
        · rename_i hk; cases hr; simp only [hk, if_true]; exact ⟨_, rfl, rfl, ix_le_put1 hle _ _, rfl, rfl⟩
        · cases hr
      · cases hr
    case iinc x c =>
      simp only [ix_exec] at hr ⊢
      split at hr
      · rename_i v hv
        split at hr
        · rename_i hk
          cases hr
          rw [hle.2 _ _ hv]
          simp only [hk, if_true]
          exact ⟨_, rfl, rfl, ix_le_put1 hle _ _, rfl, rfl⟩
        · cases hr
      · cases hr
theorem ix_step_le {S : ix_S} {q : ix_M} {pc : Nat} {k l : ix_L} {st : List Value} {h : ix_H} {r : ix_R} (hle : ix_le k l) (hr : ix_step S q (pc, k, st, h) = some r) : ∃ r', ix_step S q (pc, l, st, h) = some r' ∧ ix_lr r r' := by
  unfold ix_step at hr ⊢
  simp only at hr ⊢
  split at hr
  · exact ix_exec_le hle hr
  · cases hr
theorem ix_run_le {S : ix_S} {C : Nat → List Value → ix_H → ix_O → Prop} {q : ix_M} {o : ix_O} : ∀ (n pc : Nat) (k l : ix_L) (st : List Value) (h : ix_H), ix_le k l → ix_run S C q n (pc, k, st, h) o → ix_run S C q n (pc, l, st, h) o := by
  intro n
  induction n with
  | zero => intro pc k l st h _ z; exact z.elim
  | succ n ih =>
    intro pc k l st h hle z
    unfold ix_run at z ⊢
    split at z
    · exact z.elim
    · rename_i g hs
      obtain ⟨r', hr', hlr⟩ := ix_step_le hle hs
      rw [hr']
      obtain ⟨pc1, k1, st1, h1⟩ := g
      rcases r' with ⟨pc2, l2, st2, h2⟩ | r' | r'
      · obtain ⟨rfl, hl, rfl, rfl⟩ := hlr
        exact ih _ _ _ _ _ hl z
      · exact hlr.elim
      · exact hlr.elim
    · rename_i u hs
      obtain ⟨r', hr', hlr⟩ := ix_step_le hle hs
      rw [hr']
      rcases r' with r' | o' | r'
      · exact hlr.elim
      · exact (hlr : u = o').symm.trans z
      · exact hlr.elim
    · rename_i y as pc1 k1 st1 h1 hs
      obtain ⟨r', hr', hlr⟩ := ix_step_le hle hs
      rw [hr']
      rcases r' with r' | o' | ⟨y2, as2, pc2, l2, st2, h2⟩
      · exact hlr.elim
      · exact hlr.elim
      · obtain ⟨rfl, rfl, rfl, hl, rfl, rfl⟩ := hlr
        obtain ⟨v, h', hc, hn⟩ := z
        exact ⟨v, h', hc, ih _ _ _ _ _ hl hn⟩
end
