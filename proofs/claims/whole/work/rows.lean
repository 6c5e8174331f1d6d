section
-- ===== PART A: goes FIRST, ahead of the names: the tables' words, and 'selects' of the private methods out of them =====
/-- a private method of a class that the tables say can be made, by its rows of tables_1 -/
def lw_okq (q : MethodName × Nat) : Prop := (q.1.cls ≠ "java/lang/invoke/MethodHandle" ∧ q.1.cls ≠ "java/lang/invoke/VarHandle") ∧ Cond.instantiable q.1.cls q.2 ∈ tables_1 ∧ Cond.privateMethod q.1 ∈ tables_1 ∧ Cond.instanceMethod q.1 ∈ tables_1
theorem lw_p0 : lw_okq (⟨"OnceLedger", "build", "(III)V"⟩, 15) := ⟨⟨by decide +kernel, by decide +kernel⟩, List.mem_of_getElem? (i := 10) (by decide +kernel), List.mem_of_getElem? (i := 125) (by decide +kernel), List.mem_of_getElem? (i := 126) (by decide +kernel)⟩
theorem lw_p1 : lw_okq (⟨"OnceLedger", "forget", "()V"⟩, 15) := ⟨⟨by decide +kernel, by decide +kernel⟩, List.mem_of_getElem? (i := 10) (by decide +kernel), List.mem_of_getElem? (i := 145) (by decide +kernel), List.mem_of_getElem? (i := 146) (by decide +kernel)⟩
theorem lw_p2 : lw_okq (⟨"OnceLedger", "isKey", "(I)Z"⟩, 15) := ⟨⟨by decide +kernel, by decide +kernel⟩, List.mem_of_getElem? (i := 10) (by decide +kernel), List.mem_of_getElem? (i := 220) (by decide +kernel), List.mem_of_getElem? (i := 221) (by decide +kernel)⟩
theorem lw_p3 : lw_okq (⟨"OnceLedger", "decide", "(IZ)V"⟩, 15) := ⟨⟨by decide +kernel, by decide +kernel⟩, List.mem_of_getElem? (i := 10) (by decide +kernel), List.mem_of_getElem? (i := 228) (by decide +kernel), List.mem_of_getElem? (i := 229) (by decide +kernel)⟩
theorem lw_p4 : lw_okq (⟨"OnceLedger", "writeToBook", "(IIIII)V"⟩, 15) := ⟨⟨by decide +kernel, by decide +kernel⟩, List.mem_of_getElem? (i := 10) (by decide +kernel), List.mem_of_getElem? (i := 232) (by decide +kernel), List.mem_of_getElem? (i := 233) (by decide +kernel)⟩
theorem lw_p5 : lw_okq (⟨"OnceLedger", "learn", "(I)V"⟩, 15) := ⟨⟨by decide +kernel, by decide +kernel⟩, List.mem_of_getElem? (i := 10) (by decide +kernel), List.mem_of_getElem? (i := 249) (by decide +kernel), List.mem_of_getElem? (i := 250) (by decide +kernel)⟩
theorem lw_p6 : lw_okq (⟨"OnceLedger", "markLaters", "(III)V"⟩, 15) := ⟨⟨by decide +kernel, by decide +kernel⟩, List.mem_of_getElem? (i := 10) (by decide +kernel), List.mem_of_getElem? (i := 261) (by decide +kernel), List.mem_of_getElem? (i := 262) (by decide +kernel)⟩
theorem lw_p7 : lw_okq (⟨"OnceLedger", "setMark", "(II)V"⟩, 15) := ⟨⟨by decide +kernel, by decide +kernel⟩, List.mem_of_getElem? (i := 10) (by decide +kernel), List.mem_of_getElem? (i := 265) (by decide +kernel), List.mem_of_getElem? (i := 266) (by decide +kernel)⟩
theorem lw_p8 : lw_okq (⟨"OnceLedger", "finish", "(I)V"⟩, 15) := ⟨⟨by decide +kernel, by decide +kernel⟩, List.mem_of_getElem? (i := 10) (by decide +kernel), List.mem_of_getElem? (i := 270) (by decide +kernel), List.mem_of_getElem? (i := 271) (by decide +kernel)⟩
theorem lw_p9 : lw_okq (⟨"OnceLedger", "writeToLog", "(IIIIILOnceLedger$ByteRow;)I"⟩, 15) := ⟨⟨by decide +kernel, by decide +kernel⟩, List.mem_of_getElem? (i := 10) (by decide +kernel), List.mem_of_getElem? (i := 299) (by decide +kernel), List.mem_of_getElem? (i := 300) (by decide +kernel)⟩
theorem lw_p10 : lw_okq (⟨"OnceLedger", "bookHasRoom", "(I)Z"⟩, 15) := ⟨⟨by decide +kernel, by decide +kernel⟩, List.mem_of_getElem? (i := 10) (by decide +kernel), List.mem_of_getElem? (i := 314) (by decide +kernel), List.mem_of_getElem? (i := 315) (by decide +kernel)⟩
theorem lw_p11 : lw_okq (⟨"OnceLedger", "openTransactions", "()I"⟩, 15) := ⟨⟨by decide +kernel, by decide +kernel⟩, List.mem_of_getElem? (i := 10) (by decide +kernel), List.mem_of_getElem? (i := 318) (by decide +kernel), List.mem_of_getElem? (i := 319) (by decide +kernel)⟩
theorem lw_p12 : lw_okq (⟨"OnceLedger", "raiseEpoch", "(I)V"⟩, 15) := ⟨⟨by decide +kernel, by decide +kernel⟩, List.mem_of_getElem? (i := 10) (by decide +kernel), List.mem_of_getElem? (i := 322) (by decide +kernel), List.mem_of_getElem? (i := 323) (by decide +kernel)⟩
theorem lw_p13 : lw_okq (⟨"OnceLedger", "refusalOf", "(IIZ)I"⟩, 15) := ⟨⟨by decide +kernel, by decide +kernel⟩, List.mem_of_getElem? (i := 10) (by decide +kernel), List.mem_of_getElem? (i := 330) (by decide +kernel), List.mem_of_getElem? (i := 331) (by decide +kernel)⟩
theorem lw_p14 : lw_okq (⟨"OnceLedger", "isRegistered", "(I)Z"⟩, 15) := ⟨⟨by decide +kernel, by decide +kernel⟩, List.mem_of_getElem? (i := 10) (by decide +kernel), List.mem_of_getElem? (i := 334) (by decide +kernel), List.mem_of_getElem? (i := 335) (by decide +kernel)⟩
theorem lw_p15 : lw_okq (⟨"OnceLedger", "takeSent", "(IIIIZ)I"⟩, 15) := ⟨⟨by decide +kernel, by decide +kernel⟩, List.mem_of_getElem? (i := 10) (by decide +kernel), List.mem_of_getElem? (i := 342) (by decide +kernel), List.mem_of_getElem? (i := 343) (by decide +kernel)⟩
def lw_privs_1 : List (MethodName × Nat) := [(⟨"OnceLedger", "build", "(III)V"⟩, 15), (⟨"OnceLedger", "forget", "()V"⟩, 15), (⟨"OnceLedger", "isKey", "(I)Z"⟩, 15), (⟨"OnceLedger", "decide", "(IZ)V"⟩, 15), (⟨"OnceLedger", "writeToBook", "(IIIII)V"⟩, 15), (⟨"OnceLedger", "learn", "(I)V"⟩, 15), (⟨"OnceLedger", "markLaters", "(III)V"⟩, 15), (⟨"OnceLedger", "setMark", "(II)V"⟩, 15), (⟨"OnceLedger", "finish", "(I)V"⟩, 15), (⟨"OnceLedger", "writeToLog", "(IIIIILOnceLedger$ByteRow;)I"⟩, 15), (⟨"OnceLedger", "bookHasRoom", "(I)Z"⟩, 15), (⟨"OnceLedger", "openTransactions", "()I"⟩, 15), (⟨"OnceLedger", "raiseEpoch", "(I)V"⟩, 15), (⟨"OnceLedger", "refusalOf", "(IIZ)I"⟩, 15), (⟨"OnceLedger", "isRegistered", "(I)Z"⟩, 15), (⟨"OnceLedger", "takeSent", "(IIIIZ)I"⟩, 15)]
theorem lw_r1 : ∀ q ∈ lw_privs_1, lw_okq q := List.forall_mem_cons.mpr ⟨lw_p0, List.forall_mem_cons.mpr ⟨lw_p1, List.forall_mem_cons.mpr ⟨lw_p2, List.forall_mem_cons.mpr ⟨lw_p3, List.forall_mem_cons.mpr ⟨lw_p4, List.forall_mem_cons.mpr ⟨lw_p5, List.forall_mem_cons.mpr ⟨lw_p6, List.forall_mem_cons.mpr ⟨lw_p7, List.forall_mem_cons.mpr ⟨lw_p8, List.forall_mem_cons.mpr ⟨lw_p9, List.forall_mem_cons.mpr ⟨lw_p10, List.forall_mem_cons.mpr ⟨lw_p11, List.forall_mem_cons.mpr ⟨lw_p12, List.forall_mem_cons.mpr ⟨lw_p13, List.forall_mem_cons.mpr ⟨lw_p14, List.forall_mem_cons.mpr ⟨lw_p15, fun _ h => absurd h List.not_mem_nil⟩⟩⟩⟩⟩⟩⟩⟩⟩⟩⟩⟩⟩⟩⟩⟩
theorem lw_p16 : lw_okq (⟨"OnceLedger", "isPartition", "(I)Z"⟩, 15) := ⟨⟨by decide +kernel, by decide +kernel⟩, List.mem_of_getElem? (i := 10) (by decide +kernel), List.mem_of_getElem? (i := 346) (by decide +kernel), List.mem_of_getElem? (i := 347) (by decide +kernel)⟩
theorem lw_p17 : lw_okq (⟨"OnceLedger", "logHasRoom", "(IZ)Z"⟩, 15) := ⟨⟨by decide +kernel, by decide +kernel⟩, List.mem_of_getElem? (i := 10) (by decide +kernel), List.mem_of_getElem? (i := 362) (by decide +kernel), List.mem_of_getElem? (i := 363) (by decide +kernel)⟩
theorem lw_p18 : lw_okq (⟨"OnceLedger", "openThatAdded", "(I)I"⟩, 15) := ⟨⟨by decide +kernel, by decide +kernel⟩, List.mem_of_getElem? (i := 10) (by decide +kernel), List.mem_of_getElem? (i := 366) (by decide +kernel), List.mem_of_getElem? (i := 367) (by decide +kernel)⟩
theorem lw_p19 : lw_okq (⟨"OnceLedger", "isPlace", "(II)Z"⟩, 15) := ⟨⟨by decide +kernel, by decide +kernel⟩, List.mem_of_getElem? (i := 10) (by decide +kernel), List.mem_of_getElem? (i := 374) (by decide +kernel), List.mem_of_getElem? (i := 375) (by decide +kernel)⟩
theorem lw_p20 : lw_okq (⟨"OnceLedger", "placeOf", "(II)I"⟩, 15) := ⟨⟨by decide +kernel, by decide +kernel⟩, List.mem_of_getElem? (i := 10) (by decide +kernel), List.mem_of_getElem? (i := 378) (by decide +kernel), List.mem_of_getElem? (i := 379) (by decide +kernel)⟩
theorem lw_p21 : lw_okq (⟨"OnceLedger", "endOverdue", "()I"⟩, 15) := ⟨⟨by decide +kernel, by decide +kernel⟩, List.mem_of_getElem? (i := 10) (by decide +kernel), List.mem_of_getElem? (i := 399) (by decide +kernel), List.mem_of_getElem? (i := 400) (by decide +kernel)⟩
theorem lw_p22 : lw_okq (⟨"OnceLedger", "firstToEnd", "(Z)I"⟩, 15) := ⟨⟨by decide +kernel, by decide +kernel⟩, List.mem_of_getElem? (i := 10) (by decide +kernel), List.mem_of_getElem? (i := 403) (by decide +kernel), List.mem_of_getElem? (i := 404) (by decide +kernel)⟩
theorem lw_p23 : lw_okq (⟨"OnceLedger", "rowOf", "(I)LOnceLedger$ByteRow;"⟩, 15) := ⟨⟨by decide +kernel, by decide +kernel⟩, List.mem_of_getElem? (i := 10) (by decide +kernel), List.mem_of_getElem? (i := 445) (by decide +kernel), List.mem_of_getElem? (i := 446) (by decide +kernel)⟩
theorem lw_p24 : lw_okq (⟨"OnceLedger", "finishDecided", "()I"⟩, 15) := ⟨⟨by decide +kernel, by decide +kernel⟩, List.mem_of_getElem? (i := 10) (by decide +kernel), List.mem_of_getElem? (i := 475) (by decide +kernel), List.mem_of_getElem? (i := 476) (by decide +kernel)⟩
theorem lw_p25 : lw_okq (⟨"OnceLedger", "registeredProducers", "()I"⟩, 15) := ⟨⟨by decide +kernel, by decide +kernel⟩, List.mem_of_getElem? (i := 10) (by decide +kernel), List.mem_of_getElem? (i := 513) (by decide +kernel), List.mem_of_getElem? (i := 514) (by decide +kernel)⟩
theorem lw_p26 : lw_okq (⟨"OnceLedgerModel", "forgets", "()V"⟩, 34) := ⟨⟨by decide +kernel, by decide +kernel⟩, List.mem_of_getElem? (i := 517) (by decide +kernel), List.mem_of_getElem? (i := 528) (by decide +kernel), List.mem_of_getElem? (i := 529) (by decide +kernel)⟩
theorem lw_p27 : lw_okq (⟨"OnceLedgerModel", "ends", "(IZ)V"⟩, 34) := ⟨⟨by decide +kernel, by decide +kernel⟩, List.mem_of_getElem? (i := 517) (by decide +kernel), List.mem_of_getElem? (i := 640) (by decide +kernel), List.mem_of_getElem? (i := 641) (by decide +kernel)⟩
theorem lw_p28 : lw_okq (⟨"OnceLedgerModel", "add", "(IIIIII)I"⟩, 34) := ⟨⟨by decide +kernel, by decide +kernel⟩, List.mem_of_getElem? (i := 517) (by decide +kernel), List.mem_of_getElem? (i := 644) (by decide +kernel), List.mem_of_getElem? (i := 645) (by decide +kernel)⟩
theorem lw_p29 : lw_okq (⟨"OnceLedgerModel", "finishes", "(IZ)V"⟩, 34) := ⟨⟨by decide +kernel, by decide +kernel⟩, List.mem_of_getElem? (i := 517) (by decide +kernel), List.mem_of_getElem? (i := 648) (by decide +kernel), List.mem_of_getElem? (i := 649) (by decide +kernel)⟩
theorem lw_p30 : lw_okq (⟨"OnceLedgerModel", "closes", "(IZ)V"⟩, 34) := ⟨⟨by decide +kernel, by decide +kernel⟩, List.mem_of_getElem? (i := 517) (by decide +kernel), List.mem_of_getElem? (i := 652) (by decide +kernel), List.mem_of_getElem? (i := 653) (by decide +kernel)⟩
theorem lw_p31 : lw_okq (⟨"OnceLedgerModel", "marksOf", "(I)V"⟩, 34) := ⟨⟨by decide +kernel, by decide +kernel⟩, List.mem_of_getElem? (i := 517) (by decide +kernel), List.mem_of_getElem? (i := 656) (by decide +kernel), List.mem_of_getElem? (i := 657) (by decide +kernel)⟩
def lw_privs_2 : List (MethodName × Nat) := [(⟨"OnceLedger", "isPartition", "(I)Z"⟩, 15), (⟨"OnceLedger", "logHasRoom", "(IZ)Z"⟩, 15), (⟨"OnceLedger", "openThatAdded", "(I)I"⟩, 15), (⟨"OnceLedger", "isPlace", "(II)Z"⟩, 15), (⟨"OnceLedger", "placeOf", "(II)I"⟩, 15), (⟨"OnceLedger", "endOverdue", "()I"⟩, 15), (⟨"OnceLedger", "firstToEnd", "(Z)I"⟩, 15), (⟨"OnceLedger", "rowOf", "(I)LOnceLedger$ByteRow;"⟩, 15), (⟨"OnceLedger", "finishDecided", "()I"⟩, 15), (⟨"OnceLedger", "registeredProducers", "()I"⟩, 15), (⟨"OnceLedgerModel", "forgets", "()V"⟩, 34), (⟨"OnceLedgerModel", "ends", "(IZ)V"⟩, 34), (⟨"OnceLedgerModel", "add", "(IIIIII)I"⟩, 34), (⟨"OnceLedgerModel", "finishes", "(IZ)V"⟩, 34), (⟨"OnceLedgerModel", "closes", "(IZ)V"⟩, 34), (⟨"OnceLedgerModel", "marksOf", "(I)V"⟩, 34)]
theorem lw_r2 : ∀ q ∈ lw_privs_2, lw_okq q := List.forall_mem_cons.mpr ⟨lw_p16, List.forall_mem_cons.mpr ⟨lw_p17, List.forall_mem_cons.mpr ⟨lw_p18, List.forall_mem_cons.mpr ⟨lw_p19, List.forall_mem_cons.mpr ⟨lw_p20, List.forall_mem_cons.mpr ⟨lw_p21, List.forall_mem_cons.mpr ⟨lw_p22, List.forall_mem_cons.mpr ⟨lw_p23, List.forall_mem_cons.mpr ⟨lw_p24, List.forall_mem_cons.mpr ⟨lw_p25, List.forall_mem_cons.mpr ⟨lw_p26, List.forall_mem_cons.mpr ⟨lw_p27, List.forall_mem_cons.mpr ⟨lw_p28, List.forall_mem_cons.mpr ⟨lw_p29, List.forall_mem_cons.mpr ⟨lw_p30, List.forall_mem_cons.mpr ⟨lw_p31, fun _ h => absurd h List.not_mem_nil⟩⟩⟩⟩⟩⟩⟩⟩⟩⟩⟩⟩⟩⟩⟩⟩
theorem lw_p32 : lw_okq (⟨"OnceLedgerModel", "opened", "()I"⟩, 34) := ⟨⟨by decide +kernel, by decide +kernel⟩, List.mem_of_getElem? (i := 517) (by decide +kernel), List.mem_of_getElem? (i := 660) (by decide +kernel), List.mem_of_getElem? (i := 661) (by decide +kernel)⟩
theorem lw_p33 : lw_okq (⟨"OnceLedgerModel", "bookHas", "(II)Z"⟩, 34) := ⟨⟨by decide +kernel, by decide +kernel⟩, List.mem_of_getElem? (i := 517) (by decide +kernel), List.mem_of_getElem? (i := 664) (by decide +kernel), List.mem_of_getElem? (i := 665) (by decide +kernel)⟩
theorem lw_p34 : lw_okq (⟨"OnceLedgerModel", "bytesFrom", "(II)I"⟩, 34) := ⟨⟨by decide +kernel, by decide +kernel⟩, List.mem_of_getElem? (i := 517) (by decide +kernel), List.mem_of_getElem? (i := 668) (by decide +kernel), List.mem_of_getElem? (i := 669) (by decide +kernel)⟩
theorem lw_p35 : lw_okq (⟨"OnceLedgerModel", "sizeOf", "(I)I"⟩, 34) := ⟨⟨by decide +kernel, by decide +kernel⟩, List.mem_of_getElem? (i := 517) (by decide +kernel), List.mem_of_getElem? (i := 672) (by decide +kernel), List.mem_of_getElem? (i := 673) (by decide +kernel)⟩
theorem lw_p36 : lw_okq (⟨"OnceLedgerModel", "registers", "(I)V"⟩, 34) := ⟨⟨by decide +kernel, by decide +kernel⟩, List.mem_of_getElem? (i := 517) (by decide +kernel), List.mem_of_getElem? (i := 676) (by decide +kernel), List.mem_of_getElem? (i := 677) (by decide +kernel)⟩
theorem lw_p37 : lw_okq (⟨"OnceLedgerModel", "refused", "(II)I"⟩, 34) := ⟨⟨by decide +kernel, by decide +kernel⟩, List.mem_of_getElem? (i := 517) (by decide +kernel), List.mem_of_getElem? (i := 684) (by decide +kernel), List.mem_of_getElem? (i := 685) (by decide +kernel)⟩
theorem lw_p38 : lw_okq (⟨"OnceLedgerModel", "begins", "(III)V"⟩, 34) := ⟨⟨by decide +kernel, by decide +kernel⟩, List.mem_of_getElem? (i := 517) (by decide +kernel), List.mem_of_getElem? (i := 688) (by decide +kernel), List.mem_of_getElem? (i := 689) (by decide +kernel)⟩
theorem lw_p39 : lw_okq (⟨"OnceLedgerModel", "again", "(III)I"⟩, 34) := ⟨⟨by decide +kernel, by decide +kernel⟩, List.mem_of_getElem? (i := 517) (by decide +kernel), List.mem_of_getElem? (i := 696) (by decide +kernel), List.mem_of_getElem? (i := 697) (by decide +kernel)⟩
theorem lw_p40 : lw_okq (⟨"OnceLedgerModel", "offsetOf", "(I)I"⟩, 34) := ⟨⟨by decide +kernel, by decide +kernel⟩, List.mem_of_getElem? (i := 517) (by decide +kernel), List.mem_of_getElem? (i := 700) (by decide +kernel), List.mem_of_getElem? (i := 701) (by decide +kernel)⟩
theorem lw_p41 : lw_okq (⟨"OnceLedgerModel", "nextOf", "(II)I"⟩, 34) := ⟨⟨by decide +kernel, by decide +kernel⟩, List.mem_of_getElem? (i := 517) (by decide +kernel), List.mem_of_getElem? (i := 704) (by decide +kernel), List.mem_of_getElem? (i := 705) (by decide +kernel)⟩
theorem lw_p42 : lw_okq (⟨"OnceLedgerModel", "openedAt", "(I)I"⟩, 34) := ⟨⟨by decide +kernel, by decide +kernel⟩, List.mem_of_getElem? (i := 517) (by decide +kernel), List.mem_of_getElem? (i := 708) (by decide +kernel), List.mem_of_getElem? (i := 709) (by decide +kernel)⟩
theorem lw_p43 : lw_okq (⟨"OnceLedgerModel", "isPartition", "(I)Z"⟩, 34) := ⟨⟨by decide +kernel, by decide +kernel⟩, List.mem_of_getElem? (i := 517) (by decide +kernel), List.mem_of_getElem? (i := 719) (by decide +kernel), List.mem_of_getElem? (i := 720) (by decide +kernel)⟩
theorem lw_p44 : lw_okq (⟨"OnceLedgerModel", "later", "(III)V"⟩, 34) := ⟨⟨by decide +kernel, by decide +kernel⟩, List.mem_of_getElem? (i := 517) (by decide +kernel), List.mem_of_getElem? (i := 723) (by decide +kernel), List.mem_of_getElem? (i := 724) (by decide +kernel)⟩
theorem lw_p45 : lw_okq (⟨"OnceLedgerModel", "stable", "(I)I"⟩, 34) := ⟨⟨by decide +kernel, by decide +kernel⟩, List.mem_of_getElem? (i := 517) (by decide +kernel), List.mem_of_getElem? (i := 748) (by decide +kernel), List.mem_of_getElem? (i := 749) (by decide +kernel)⟩
theorem lw_p46 : lw_okq (⟨"OnceLedgerModel", "isSeen", "(IZII)Z"⟩, 34) := ⟨⟨by decide +kernel, by decide +kernel⟩, List.mem_of_getElem? (i := 517) (by decide +kernel), List.mem_of_getElem? (i := 752) (by decide +kernel), List.mem_of_getElem? (i := 753) (by decide +kernel)⟩
theorem lw_p47 : lw_okq (⟨"OnceLedgerModel", "unsynced", "()I"⟩, 34) := ⟨⟨by decide +kernel, by decide +kernel⟩, List.mem_of_getElem? (i := 517) (by decide +kernel), List.mem_of_getElem? (i := 768) (by decide +kernel), List.mem_of_getElem? (i := 769) (by decide +kernel)⟩
def lw_privs_3 : List (MethodName × Nat) := [(⟨"OnceLedgerModel", "opened", "()I"⟩, 34), (⟨"OnceLedgerModel", "bookHas", "(II)Z"⟩, 34), (⟨"OnceLedgerModel", "bytesFrom", "(II)I"⟩, 34), (⟨"OnceLedgerModel", "sizeOf", "(I)I"⟩, 34), (⟨"OnceLedgerModel", "registers", "(I)V"⟩, 34), (⟨"OnceLedgerModel", "refused", "(II)I"⟩, 34), (⟨"OnceLedgerModel", "begins", "(III)V"⟩, 34), (⟨"OnceLedgerModel", "again", "(III)I"⟩, 34), (⟨"OnceLedgerModel", "offsetOf", "(I)I"⟩, 34), (⟨"OnceLedgerModel", "nextOf", "(II)I"⟩, 34), (⟨"OnceLedgerModel", "openedAt", "(I)I"⟩, 34), (⟨"OnceLedgerModel", "isPartition", "(I)Z"⟩, 34), (⟨"OnceLedgerModel", "later", "(III)V"⟩, 34), (⟨"OnceLedgerModel", "stable", "(I)I"⟩, 34), (⟨"OnceLedgerModel", "isSeen", "(IZII)Z"⟩, 34), (⟨"OnceLedgerModel", "unsynced", "()I"⟩, 34)]
theorem lw_r3 : ∀ q ∈ lw_privs_3, lw_okq q := List.forall_mem_cons.mpr ⟨lw_p32, List.forall_mem_cons.mpr ⟨lw_p33, List.forall_mem_cons.mpr ⟨lw_p34, List.forall_mem_cons.mpr ⟨lw_p35, List.forall_mem_cons.mpr ⟨lw_p36, List.forall_mem_cons.mpr ⟨lw_p37, List.forall_mem_cons.mpr ⟨lw_p38, List.forall_mem_cons.mpr ⟨lw_p39, List.forall_mem_cons.mpr ⟨lw_p40, List.forall_mem_cons.mpr ⟨lw_p41, List.forall_mem_cons.mpr ⟨lw_p42, List.forall_mem_cons.mpr ⟨lw_p43, List.forall_mem_cons.mpr ⟨lw_p44, List.forall_mem_cons.mpr ⟨lw_p45, List.forall_mem_cons.mpr ⟨lw_p46, List.forall_mem_cons.mpr ⟨lw_p47, fun _ h => absurd h List.not_mem_nil⟩⟩⟩⟩⟩⟩⟩⟩⟩⟩⟩⟩⟩⟩⟩⟩
theorem lw_p48 : lw_okq (⟨"OnceLedgerModel", "tells", "(I)V"⟩, 34) := ⟨⟨by decide +kernel, by decide +kernel⟩, List.mem_of_getElem? (i := 517) (by decide +kernel), List.mem_of_getElem? (i := 780) (by decide +kernel), List.mem_of_getElem? (i := 781) (by decide +kernel)⟩
theorem lw_p49 : lw_okq (⟨"OnceLedgerModel", "manyOf", "(I)I"⟩, 34) := ⟨⟨by decide +kernel, by decide +kernel⟩, List.mem_of_getElem? (i := 517) (by decide +kernel), List.mem_of_getElem? (i := 788) (by decide +kernel), List.mem_of_getElem? (i := 789) (by decide +kernel)⟩
theorem lw_p50 : lw_okq (⟨"OnceLedgerModel", "bytesOf", "(I)I"⟩, 34) := ⟨⟨by decide +kernel, by decide +kernel⟩, List.mem_of_getElem? (i := 517) (by decide +kernel), List.mem_of_getElem? (i := 792) (by decide +kernel), List.mem_of_getElem? (i := 793) (by decide +kernel)⟩
theorem lw_p51 : lw_okq (⟨"OnceLedgerModel", "seenOf", "(I)I"⟩, 34) := ⟨⟨by decide +kernel, by decide +kernel⟩, List.mem_of_getElem? (i := 517) (by decide +kernel), List.mem_of_getElem? (i := 796) (by decide +kernel), List.mem_of_getElem? (i := 797) (by decide +kernel)⟩
theorem lw_p52 : lw_okq (⟨"OnceLedgerModel", "byteAt", "(II)I"⟩, 34) := ⟨⟨by decide +kernel, by decide +kernel⟩, List.mem_of_getElem? (i := 517) (by decide +kernel), List.mem_of_getElem? (i := 816) (by decide +kernel), List.mem_of_getElem? (i := 817) (by decide +kernel)⟩
theorem lw_p53 : lw_okq (⟨"OnceLedgerModel", "behind", "(II)I"⟩, 34) := ⟨⟨by decide +kernel, by decide +kernel⟩, List.mem_of_getElem? (i := 517) (by decide +kernel), List.mem_of_getElem? (i := 820) (by decide +kernel), List.mem_of_getElem? (i := 821) (by decide +kernel)⟩
def lw_privs_4 : List (MethodName × Nat) := [(⟨"OnceLedgerModel", "tells", "(I)V"⟩, 34), (⟨"OnceLedgerModel", "manyOf", "(I)I"⟩, 34), (⟨"OnceLedgerModel", "bytesOf", "(I)I"⟩, 34), (⟨"OnceLedgerModel", "seenOf", "(I)I"⟩, 34), (⟨"OnceLedgerModel", "byteAt", "(II)I"⟩, 34), (⟨"OnceLedgerModel", "behind", "(II)I"⟩, 34)]
theorem lw_r4 : ∀ q ∈ lw_privs_4, lw_okq q := List.forall_mem_cons.mpr ⟨lw_p48, List.forall_mem_cons.mpr ⟨lw_p49, List.forall_mem_cons.mpr ⟨lw_p50, List.forall_mem_cons.mpr ⟨lw_p51, List.forall_mem_cons.mpr ⟨lw_p52, List.forall_mem_cons.mpr ⟨lw_p53, fun _ h => absurd h List.not_mem_nil⟩⟩⟩⟩⟩⟩
def lw_privs : List (MethodName × Nat) := lw_privs_1 ++ (lw_privs_2 ++ (lw_privs_3 ++ (lw_privs_4)))
def lw_tbl : List Cond := k2_sels lw_privs ++ tables_1
theorem lw_privs_ok : ∀ q ∈ lw_privs, lw_okq q := by
  show ∀ q ∈ lw_privs_1 ++ (lw_privs_2 ++ (lw_privs_3 ++ (lw_privs_4))), lw_okq q
  exact List.forall_mem_append.mpr ⟨lw_r1, List.forall_mem_append.mpr ⟨lw_r2, List.forall_mem_append.mpr ⟨lw_r3, lw_r4⟩⟩⟩
/-! names out of the task's NAMES.whole: classes, fields, methods -/
def RX0 : String := "OnceLedger$ByteRow"
def TX0 : u_T := fun k => match k with
  | 0 => ("OnceLedger$ByteRow", "bytes", "[B", true)
  | _ => ("OnceLedger$ByteRow", "length", "I", false)
def tyX0 : Nat → FieldType := fun k => match k with
  | 0 => .array .byte
  | _ => .int
abbrev wsX00 : List Cond := u_ws RX0 TX0 2
theorem nmX0 : ∀ a, a < 2 → ∀ b, b < 2 → a ≠ b → (TX0 a).2.1 ≠ (TX0 b).2.1 := by decide +kernel
theorem tyX0_ok : ∀ k, k < 2 → parseFieldDescriptor (TX0 k).2.2.1 = some (tyX0 k) := by decide +kernel
abbrev cX0_init : ByteArray := prog_2_method_1_code
def yX0_init : MethodName := ⟨RX0, "<init>", "(I)V"⟩
abbrev cX0_clear : ByteArray := prog_2_method_2_code
def yX0_clear : MethodName := ⟨RX0, "clear", "()V"⟩
abbrev cX0_cutTo : ByteArray := prog_2_method_3_code
def yX0_cutTo : MethodName := ⟨RX0, "cutTo", "(I)V"⟩
abbrev cX0_at : ByteArray := prog_2_method_4_code
def yX0_at : MethodName := ⟨RX0, "at", "(I)I"⟩
abbrev cX0_add : ByteArray := prog_2_method_5_code
def yX0_add : MethodName := ⟨RX0, "add", "(I)V"⟩
abbrev cX0_addNumber : ByteArray := prog_2_method_6_code
def yX0_addNumber : MethodName := ⟨RX0, "addNumber", "(II)V"⟩
abbrev cX0_number : ByteArray := prog_2_method_7_code
def yX0_number : MethodName := ⟨RX0, "number", "(II)I"⟩
abbrev cX0_seal : ByteArray := prog_2_method_8_code
def yX0_seal : MethodName := ⟨RX0, "seal", "(I)V"⟩
def RX1 : String := "OnceLedger$Log"
def TX1 : u_T := fun k => match k with
  | 0 => ("OnceLedger$Log", "row", "LOnceLedger$ByteRow;", true)
  | 1 => ("OnceLedger$Log", "ends", "[I", true)
  | 2 => ("OnceLedger$Log", "committed", "[Z", true)
  | 3 => ("OnceLedger$Log", "fates", "[I", true)
  | _ => ("OnceLedger$Log", "entries", "I", false)
def tyX1 : Nat → FieldType := fun k => match k with
  | 0 => .object "OnceLedger$ByteRow"
  | 1 => .array .int
  | 2 => .array .boolean
  | 3 => .array .int
  | _ => .int
abbrev wsX10 : List Cond := u_ws RX1 TX1 5
theorem nmX1 : ∀ a, a < 5 → ∀ b, b < 5 → a ≠ b → (TX1 a).2.1 ≠ (TX1 b).2.1 := by decide +kernel
theorem tyX1_ok : ∀ k, k < 5 → parseFieldDescriptor (TX1 k).2.2.1 = some (tyX1 k) := by decide +kernel
abbrev cX1_init : ByteArray := prog_3_method_1_code
def yX1_init : MethodName := ⟨RX1, "<init>", "()V"⟩
abbrev cX1_clear : ByteArray := prog_3_method_2_code
def yX1_clear : MethodName := ⟨RX1, "clear", "()V"⟩
abbrev cX1_append : ByteArray := prog_3_method_3_code
def yX1_append : MethodName := ⟨RX1, "append", "(IIIILOnceLedger$ByteRow;)V"⟩
abbrev cX1_has : ByteArray := prog_3_method_4_code
def yX1_has : MethodName := ⟨RX1, "has", "(I)Z"⟩
abbrev cX1_startOf : ByteArray := prog_3_method_5_code
def yX1_startOf : MethodName := ⟨RX1, "startOf", "(I)I"⟩
abbrev cX1_field : ByteArray := prog_3_method_6_code
def yX1_field : MethodName := ⟨RX1, "field", "(III)I"⟩
abbrev cX1_kindOf : ByteArray := prog_3_method_7_code
def yX1_kindOf : MethodName := ⟨RX1, "kindOf", "(I)I"⟩
abbrev cX1_isSeen : ByteArray := prog_3_method_8_code
def yX1_isSeen : MethodName := ⟨RX1, "isSeen", "(I)Z"⟩
abbrev cX1_dropBroken : ByteArray := prog_3_method_9_code
def yX1_dropBroken : MethodName := ⟨RX1, "dropBroken", "()V"⟩
abbrev cX1_cutBroken : ByteArray := prog_3_method_10_code
def yX1_cutBroken : MethodName := ⟨RX1, "cutBroken", "()I"⟩
abbrev cX1_isSentBy : ByteArray := prog_3_method_11_code
def yX1_isSentBy : MethodName := ⟨RX1, "isSentBy", "(III)Z"⟩
abbrev cX1_nextOf : ByteArray := prog_3_method_12_code
def yX1_nextOf : MethodName := ⟨RX1, "nextOf", "(II)I"⟩
abbrev cX1_offsetOfRecent : ByteArray := prog_3_method_13_code
def yX1_offsetOfRecent : MethodName := ⟨RX1, "offsetOfRecent", "(III)I"⟩
abbrev cX1_hasEndOf : ByteArray := prog_3_method_14_code
def yX1_hasEndOf : MethodName := ⟨RX1, "hasEndOf", "(I)Z"⟩
abbrev cX1_stable : ByteArray := prog_3_method_15_code
def yX1_stable : MethodName := ⟨RX1, "stable", "()I"⟩
abbrev cX1_committedEntries : ByteArray := prog_3_method_16_code
def yX1_committedEntries : MethodName := ⟨RX1, "committedEntries", "()I"⟩
abbrev cX1_firstCommitted : ByteArray := prog_3_method_17_code
def yX1_firstCommitted : MethodName := ⟨RX1, "firstCommitted", "(I)I"⟩
abbrev cX1_firstSeen : ByteArray := prog_3_method_18_code
def yX1_firstSeen : MethodName := ⟨RX1, "firstSeen", "(I)I"⟩
abbrev cX1_copyPayload : ByteArray := prog_3_method_19_code
def yX1_copyPayload : MethodName := ⟨RX1, "copyPayload", "(ILOnceLedger$ByteRow;)V"⟩
def RX2 : String := "OnceLedger$Producer"
def TX2 : u_T := fun k => match k with
  | 0 => ("OnceLedger$Producer", "epoch", "I", false)
  | 1 => ("OnceLedger$Producer", "transaction", "I", false)
  | 2 => ("OnceLedger$Producer", "began", "I", false)
  | 3 => ("OnceLedger$Producer", "beganAt", "I", false)
  | 4 => ("OnceLedger$Producer", "added", "I", false)
  | 5 => ("OnceLedger$Producer", "laters", "I", false)
  | _ => ("OnceLedger$Producer", "decision", "I", false)
def tyX2 : Nat → FieldType := fun k => match k with
  | 0 => .int
  | 1 => .int
  | 2 => .int
  | 3 => .int
  | 4 => .int
  | 5 => .int
  | _ => .int
abbrev wsX20 : List Cond := u_ws RX2 TX2 7
theorem nmX2 : ∀ a, a < 7 → ∀ b, b < 7 → a ≠ b → (TX2 a).2.1 ≠ (TX2 b).2.1 := by decide +kernel
theorem tyX2_ok : ∀ k, k < 7 → parseFieldDescriptor (TX2 k).2.2.1 = some (tyX2 k) := by decide +kernel
abbrev cX2_init : ByteArray := prog_4_method_1_code
def yX2_init : MethodName := ⟨RX2, "<init>", "()V"⟩
abbrev cX2_forget : ByteArray := prog_4_method_2_code
def yX2_forget : MethodName := ⟨RX2, "forget", "()V"⟩
abbrev cX2_openTransaction : ByteArray := prog_4_method_3_code
def yX2_openTransaction : MethodName := ⟨RX2, "openTransaction", "(III)V"⟩
abbrev cX2_closeTransaction : ByteArray := prog_4_method_4_code
def yX2_closeTransaction : MethodName := ⟨RX2, "closeTransaction", "()V"⟩
abbrev cX2_isOpen : ByteArray := prog_4_method_5_code
def yX2_isOpen : MethodName := ⟨RX2, "isOpen", "()Z"⟩
abbrev cX2_hasAdded : ByteArray := prog_4_method_6_code
def yX2_hasAdded : MethodName := ⟨RX2, "hasAdded", "(I)Z"⟩
def RX3 : String := "OnceLedger$Unsynced"
def TX3 : u_T := fun k => match k with
  | 0 => ("OnceLedger$Unsynced", "files", "[I", true)
  | 1 => ("OnceLedger$Unsynced", "sizes", "[I", true)
  | 2 => ("OnceLedger$Unsynced", "byFile", "[I", true)
  | 3 => ("OnceLedger$Unsynced", "pieces", "I", false)
  | _ => ("OnceLedger$Unsynced", "bytes", "I", false)
def tyX3 : Nat → FieldType := fun k => match k with
  | 0 => .array .int
  | 1 => .array .int
  | 2 => .array .int
  | 3 => .int
  | _ => .int
abbrev wsX30 : List Cond := u_ws RX3 TX3 5
theorem nmX3 : ∀ a, a < 5 → ∀ b, b < 5 → a ≠ b → (TX3 a).2.1 ≠ (TX3 b).2.1 := by decide +kernel
theorem tyX3_ok : ∀ k, k < 5 → parseFieldDescriptor (TX3 k).2.2.1 = some (tyX3 k) := by decide +kernel
abbrev cX3_init : ByteArray := prog_5_method_1_code
def yX3_init : MethodName := ⟨RX3, "<init>", "()V"⟩
abbrev cX3_clear : ByteArray := prog_5_method_2_code
def yX3_clear : MethodName := ⟨RX3, "clear", "()V"⟩
abbrev cX3_note : ByteArray := prog_5_method_3_code
def yX3_note : MethodName := ⟨RX3, "note", "(II)V"⟩
abbrev cX3_bytesOf : ByteArray := prog_5_method_4_code
def yX3_bytesOf : MethodName := ⟨RX3, "bytesOf", "(I)I"⟩
abbrev cX3_keptOf : ByteArray := prog_5_method_5_code
def yX3_keptOf : MethodName := ⟨RX3, "keptOf", "(II)I"⟩
def RX4 : String := "OnceLedger"
def TX4 : u_T := fun k => match k with
  | 0 => ("OnceLedger", "tape", "LOnceLedger$ByteRow;", true)
  | 1 => ("OnceLedger", "fetched", "LOnceLedger$ByteRow;", true)
  | 2 => ("OnceLedger", "noPayload", "LOnceLedger$ByteRow;", true)
  | 3 => ("OnceLedger", "logs", "[LOnceLedger$Log;", true)
  | 4 => ("OnceLedger", "book", "LOnceLedger$ByteRow;", true)
  | 5 => ("OnceLedger", "unsynced", "LOnceLedger$Unsynced;", true)
  | 6 => ("OnceLedger", "producers", "[LOnceLedger$Producer;", true)
  | 7 => ("OnceLedger", "marks", "[I", true)
  | 8 => ("OnceLedger", "partitions", "I", false)
  | 9 => ("OnceLedger", "capacity", "I", false)
  | 10 => ("OnceLedger", "timeout", "I", false)
  | 11 => ("OnceLedger", "clock", "I", false)
  | 12 => ("OnceLedger", "closed", "Z", false)
  | 13 => ("OnceLedger", "cutBytes", "I", false)
  | _ => ("OnceLedger", "nextTransaction", "I", false)
def tyX4 : Nat → FieldType := fun k => match k with
  | 0 => .object "OnceLedger$ByteRow"
  | 1 => .object "OnceLedger$ByteRow"
  | 2 => .object "OnceLedger$ByteRow"
  | 3 => .array (.object "OnceLedger$Log")
  | 4 => .object "OnceLedger$ByteRow"
  | 5 => .object "OnceLedger$Unsynced"
  | 6 => .array (.object "OnceLedger$Producer")
  | 7 => .array .int
  | 8 => .int
  | 9 => .int
  | 10 => .int
  | 11 => .int
  | 12 => .boolean
  | 13 => .int
  | _ => .int
abbrev wsX40 : List Cond := u_ws RX4 TX4 15
theorem nmX4 : ∀ a, a < 15 → ∀ b, b < 15 → a ≠ b → (TX4 a).2.1 ≠ (TX4 b).2.1 := by decide +kernel
theorem tyX4_ok : ∀ k, k < 15 → parseFieldDescriptor (TX4 k).2.2.1 = some (tyX4 k) := by decide +kernel
abbrev cX4_init : ByteArray := prog_1_method_1_code
def yX4_init : MethodName := ⟨RX4, "<init>", "()V"⟩
abbrev cX4_format : ByteArray := prog_1_method_2_code
def yX4_format : MethodName := ⟨RX4, "format", "(III)Z"⟩
abbrev cX4_feed : ByteArray := prog_1_method_3_code
def yX4_feed : MethodName := ⟨RX4, "feed", "(IJJ)I"⟩
abbrev cX4_register : ByteArray := prog_1_method_4_code
def yX4_register : MethodName := ⟨RX4, "register", "(I)I"⟩
abbrev cX4_begin : ByteArray := prog_1_method_5_code
def yX4_begin : MethodName := ⟨RX4, "begin", "(II)I"⟩
abbrev cX4_send : ByteArray := prog_1_method_6_code
def yX4_send : MethodName := ⟨RX4, "send", "(IIIIZ)I"⟩
abbrev cX4_later : ByteArray := prog_1_method_7_code
def yX4_later : MethodName := ⟨RX4, "later", "(IIIII)I"⟩
abbrev cX4_end : ByteArray := prog_1_method_8_code
def yX4_end : MethodName := ⟨RX4, "end", "(IIZ)I"⟩
abbrev cX4_mark : ByteArray := prog_1_method_9_code
def yX4_mark : MethodName := ⟨RX4, "mark", "(III)I"⟩
abbrev cX4_marked : ByteArray := prog_1_method_10_code
def yX4_marked : MethodName := ⟨RX4, "marked", "(II)I"⟩
abbrev cX4_tick : ByteArray := prog_1_method_11_code
def yX4_tick : MethodName := ⟨RX4, "tick", "(I)I"⟩
abbrev cX4_fetch : ByteArray := prog_1_method_12_code
def yX4_fetch : MethodName := ⟨RX4, "fetch", "(IIZ)I"⟩
abbrev cX4_answer : ByteArray := prog_1_method_13_code
def yX4_answer : MethodName := ⟨RX4, "answer", "(I)I"⟩
abbrev cX4_sync : ByteArray := prog_1_method_14_code
def yX4_sync : MethodName := ⟨RX4, "sync", "()I"⟩
abbrev cX4_crash : ByteArray := prog_1_method_15_code
def yX4_crash : MethodName := ⟨RX4, "crash", "(I)I"⟩
abbrev cX4_open : ByteArray := prog_1_method_16_code
def yX4_open : MethodName := ⟨RX4, "open", "()I"⟩
abbrev cX4_partition : ByteArray := prog_1_method_17_code
def yX4_partition : MethodName := ⟨RX4, "partition", "(II)I"⟩
abbrev cX4_entry : ByteArray := prog_1_method_18_code
def yX4_entry : MethodName := ⟨RX4, "entry", "(III)I"⟩
abbrev cX4_producer : ByteArray := prog_1_method_19_code
def yX4_producer : MethodName := ⟨RX4, "producer", "(II)I"⟩
abbrev cX4_next : ByteArray := prog_1_method_20_code
def yX4_next : MethodName := ⟨RX4, "next", "(II)I"⟩
abbrev cX4_byteOf : ByteArray := prog_1_method_21_code
def yX4_byteOf : MethodName := ⟨RX4, "byteOf", "(II)I"⟩
abbrev cX4_count : ByteArray := prog_1_method_22_code
def yX4_count : MethodName := ⟨RX4, "count", "(I)I"⟩
abbrev cX4_build : ByteArray := prog_1_method_23_code
def yX4_build : MethodName := ⟨RX4, "build", "(III)V"⟩
abbrev cX4_forget : ByteArray := prog_1_method_24_code
def yX4_forget : MethodName := ⟨RX4, "forget", "()V"⟩
abbrev cX4_isKey : ByteArray := prog_1_method_25_code
def yX4_isKey : MethodName := ⟨RX4, "isKey", "(I)Z"⟩
abbrev cX4_isRegistered : ByteArray := prog_1_method_26_code
def yX4_isRegistered : MethodName := ⟨RX4, "isRegistered", "(I)Z"⟩
abbrev cX4_isPartition : ByteArray := prog_1_method_27_code
def yX4_isPartition : MethodName := ⟨RX4, "isPartition", "(I)Z"⟩
abbrev cX4_isPlace : ByteArray := prog_1_method_28_code
def yX4_isPlace : MethodName := ⟨RX4, "isPlace", "(II)Z"⟩
abbrev cX4_placeOf : ByteArray := prog_1_method_29_code
def yX4_placeOf : MethodName := ⟨RX4, "placeOf", "(II)I"⟩
abbrev cX4_rowOf : ByteArray := prog_1_method_30_code
def yX4_rowOf : MethodName := ⟨RX4, "rowOf", "(I)LOnceLedger$ByteRow;"⟩
abbrev cX4_refusalOf : ByteArray := prog_1_method_31_code
def yX4_refusalOf : MethodName := ⟨RX4, "refusalOf", "(IIZ)I"⟩
abbrev cX4_takeSent : ByteArray := prog_1_method_32_code
def yX4_takeSent : MethodName := ⟨RX4, "takeSent", "(IIIIZ)I"⟩
abbrev cX4_logHasRoom : ByteArray := prog_1_method_33_code
def yX4_logHasRoom : MethodName := ⟨RX4, "logHasRoom", "(IZ)Z"⟩
abbrev cX4_bookHasRoom : ByteArray := prog_1_method_34_code
def yX4_bookHasRoom : MethodName := ⟨RX4, "bookHasRoom", "(I)Z"⟩
abbrev cX4_registeredProducers : ByteArray := prog_1_method_35_code
def yX4_registeredProducers : MethodName := ⟨RX4, "registeredProducers", "()I"⟩
abbrev cX4_openTransactions : ByteArray := prog_1_method_36_code
def yX4_openTransactions : MethodName := ⟨RX4, "openTransactions", "()I"⟩
abbrev cX4_openThatAdded : ByteArray := prog_1_method_37_code
def yX4_openThatAdded : MethodName := ⟨RX4, "openThatAdded", "(I)I"⟩
abbrev cX4_writeToLog : ByteArray := prog_1_method_38_code
def yX4_writeToLog : MethodName := ⟨RX4, "writeToLog", "(IIIIILOnceLedger$ByteRow;)I"⟩
abbrev cX4_writeToBook : ByteArray := prog_1_method_39_code
def yX4_writeToBook : MethodName := ⟨RX4, "writeToBook", "(IIIII)V"⟩
abbrev cX4_learn : ByteArray := prog_1_method_40_code
def yX4_learn : MethodName := ⟨RX4, "learn", "(I)V"⟩
abbrev cX4_markLaters : ByteArray := prog_1_method_41_code
def yX4_markLaters : MethodName := ⟨RX4, "markLaters", "(III)V"⟩
abbrev cX4_setMark : ByteArray := prog_1_method_42_code
def yX4_setMark : MethodName := ⟨RX4, "setMark", "(II)V"⟩
abbrev cX4_raiseEpoch : ByteArray := prog_1_method_43_code
def yX4_raiseEpoch : MethodName := ⟨RX4, "raiseEpoch", "(I)V"⟩
abbrev cX4_decide : ByteArray := prog_1_method_44_code
def yX4_decide : MethodName := ⟨RX4, "decide", "(IZ)V"⟩
abbrev cX4_finish : ByteArray := prog_1_method_45_code
def yX4_finish : MethodName := ⟨RX4, "finish", "(I)V"⟩
abbrev cX4_endOverdue : ByteArray := prog_1_method_46_code
def yX4_endOverdue : MethodName := ⟨RX4, "endOverdue", "()I"⟩
abbrev cX4_finishDecided : ByteArray := prog_1_method_47_code
def yX4_finishDecided : MethodName := ⟨RX4, "finishDecided", "()I"⟩
abbrev cX4_firstToEnd : ByteArray := prog_1_method_48_code
def yX4_firstToEnd : MethodName := ⟨RX4, "firstToEnd", "(Z)I"⟩
def RX5 : String := "OnceLedgerModel"
def TX5 : u_T := fun k => match k with
  | 0 => ("OnceLedgerModel", "partitions", "I", false)
  | 1 => ("OnceLedgerModel", "capacity", "I", false)
  | 2 => ("OnceLedgerModel", "timeout", "I", false)
  | 3 => ("OnceLedgerModel", "clock", "I", false)
  | 4 => ("OnceLedgerModel", "closed", "Z", false)
  | 5 => ("OnceLedgerModel", "cut", "I", false)
  | 6 => ("OnceLedgerModel", "many", "I", false)
  | 7 => ("OnceLedgerModel", "synced", "I", false)
  | 8 => ("OnceLedgerModel", "file", "[I", true)
  | 9 => ("OnceLedgerModel", "kind", "[I", true)
  | 10 => ("OnceLedgerModel", "key", "[I", true)
  | 11 => ("OnceLedgerModel", "epoch", "[I", true)
  | 12 => ("OnceLedgerModel", "a", "[I", true)
  | 13 => ("OnceLedgerModel", "b", "[I", true)
  | 14 => ("OnceLedgerModel", "of", "[I", true)
  | 15 => ("OnceLedgerModel", "payload", "[B", true)
  | 16 => ("OnceLedgerModel", "torn", "I", false)
  | 17 => ("OnceLedgerModel", "is", "[Z", true)
  | 18 => ("OnceLedgerModel", "now", "[I", true)
  | 19 => ("OnceLedgerModel", "open", "[I", true)
  | 20 => ("OnceLedgerModel", "began", "[I", true)
  | 21 => ("OnceLedgerModel", "added", "[I", true)
  | 22 => ("OnceLedgerModel", "next", "I", false)
  | 23 => ("OnceLedgerModel", "marks", "[I", true)
  | 24 => ("OnceLedgerModel", "ended", "[I", true)
  | 25 => ("OnceLedgerModel", "laters", "I", false)
  | 26 => ("OnceLedgerModel", "laterOf", "[I", true)
  | 27 => ("OnceLedgerModel", "laterPlace", "[I", true)
  | 28 => ("OnceLedgerModel", "laterOffset", "[I", true)
  | 29 => ("OnceLedgerModel", "tape", "[B", true)
  | 30 => ("OnceLedgerModel", "taped", "I", false)
  | 31 => ("OnceLedgerModel", "answer", "[B", true)
  | 32 => ("OnceLedgerModel", "answered", "I", false)
  | _ => ("OnceLedgerModel", "decided", "[I", true)
def tyX5 : Nat → FieldType := fun k => match k with
  | 0 => .int
  | 1 => .int
  | 2 => .int
  | 3 => .int
  | 4 => .boolean
  | 5 => .int
  | 6 => .int
  | 7 => .int
  | 8 => .array .int
  | 9 => .array .int
  | 10 => .array .int
  | 11 => .array .int
  | 12 => .array .int
  | 13 => .array .int
  | 14 => .array .int
  | 15 => .array .byte
  | 16 => .int
  | 17 => .array .boolean
  | 18 => .array .int
  | 19 => .array .int
  | 20 => .array .int
  | 21 => .array .int
  | 22 => .int
  | 23 => .array .int
  | 24 => .array .int
  | 25 => .int
  | 26 => .array .int
  | 27 => .array .int
  | 28 => .array .int
  | 29 => .array .byte
  | 30 => .int
  | 31 => .array .byte
  | 32 => .int
  | _ => .array .int
abbrev wsX50 : List Cond := u_ws RX5 TX5 34
theorem nmX5 : ∀ a, a < 34 → ∀ b, b < 34 → a ≠ b → (TX5 a).2.1 ≠ (TX5 b).2.1 := by decide +kernel
theorem tyX5_ok : ∀ k, k < 34 → parseFieldDescriptor (TX5 k).2.2.1 = some (tyX5 k) := by decide +kernel
abbrev cX5_init : ByteArray := prog_7_method_1_code
def yX5_init : MethodName := ⟨RX5, "<init>", "()V"⟩
abbrev cX5_forgets : ByteArray := prog_7_method_2_code
def yX5_forgets : MethodName := ⟨RX5, "forgets", "()V"⟩
abbrev cX5_format : ByteArray := prog_7_method_3_code
def yX5_format : MethodName := ⟨RX5, "format", "(III)Z"⟩
abbrev cX5_sizeOf : ByteArray := prog_7_method_4_code
def yX5_sizeOf : MethodName := ⟨RX5, "sizeOf", "(I)I"⟩
abbrev cX5_bytesFrom : ByteArray := prog_7_method_5_code
def yX5_bytesFrom : MethodName := ⟨RX5, "bytesFrom", "(II)I"⟩
abbrev cX5_unsynced : ByteArray := prog_7_method_6_code
def yX5_unsynced : MethodName := ⟨RX5, "unsynced", "()I"⟩
abbrev cX5_add : ByteArray := prog_7_method_7_code
def yX5_add : MethodName := ⟨RX5, "add", "(IIIIII)I"⟩
abbrev cX5_opened : ByteArray := prog_7_method_8_code
def yX5_opened : MethodName := ⟨RX5, "opened", "()I"⟩
abbrev cX5_openedAt : ByteArray := prog_7_method_9_code
def yX5_openedAt : MethodName := ⟨RX5, "openedAt", "(I)I"⟩
abbrev cX5_bookHas : ByteArray := prog_7_method_10_code
def yX5_bookHas : MethodName := ⟨RX5, "bookHas", "(II)Z"⟩
abbrev cX5_refused : ByteArray := prog_7_method_11_code
def yX5_refused : MethodName := ⟨RX5, "refused", "(II)I"⟩
abbrev cX5_registers : ByteArray := prog_7_method_12_code
def yX5_registers : MethodName := ⟨RX5, "registers", "(I)V"⟩
abbrev cX5_marksOf : ByteArray := prog_7_method_13_code
def yX5_marksOf : MethodName := ⟨RX5, "marksOf", "(I)V"⟩
abbrev cX5_finishes : ByteArray := prog_7_method_14_code
def yX5_finishes : MethodName := ⟨RX5, "finishes", "(IZ)V"⟩
abbrev cX5_closes : ByteArray := prog_7_method_15_code
def yX5_closes : MethodName := ⟨RX5, "closes", "(IZ)V"⟩
abbrev cX5_ends : ByteArray := prog_7_method_16_code
def yX5_ends : MethodName := ⟨RX5, "ends", "(IZ)V"⟩
abbrev cX5_register : ByteArray := prog_7_method_17_code
def yX5_register : MethodName := ⟨RX5, "register", "(I)I"⟩
abbrev cX5_begins : ByteArray := prog_7_method_18_code
def yX5_begins : MethodName := ⟨RX5, "begins", "(III)V"⟩
abbrev cX5_begin : ByteArray := prog_7_method_19_code
def yX5_begin : MethodName := ⟨RX5, "begin", "(II)I"⟩
abbrev cX5_offsetOf : ByteArray := prog_7_method_20_code
def yX5_offsetOf : MethodName := ⟨RX5, "offsetOf", "(I)I"⟩
abbrev cX5_nextOf : ByteArray := prog_7_method_21_code
def yX5_nextOf : MethodName := ⟨RX5, "nextOf", "(II)I"⟩
abbrev cX5_again : ByteArray := prog_7_method_22_code
def yX5_again : MethodName := ⟨RX5, "again", "(III)I"⟩
abbrev cX5_send : ByteArray := prog_7_method_23_code
def yX5_send : MethodName := ⟨RX5, "send", "(IIIIZ)I"⟩
abbrev cX5_isGroup : ByteArray := prog_7_method_24_code
def yX5_isGroup : MethodName := ⟨RX5, "isGroup", "(I)Z"⟩
abbrev cX5_isPartition : ByteArray := prog_7_method_25_code
def yX5_isPartition : MethodName := ⟨RX5, "isPartition", "(I)Z"⟩
abbrev cX5_later : ByteArray := prog_7_method_26_code
def yX5_later : MethodName := ⟨RX5, "later", "(III)V"⟩
abbrev cX5_later_ : ByteArray := prog_7_method_27_code
def yX5_later_ : MethodName := ⟨RX5, "later", "(IIIII)I"⟩
abbrev cX5_end : ByteArray := prog_7_method_28_code
def yX5_end : MethodName := ⟨RX5, "end", "(IIZ)I"⟩
abbrev cX5_mark : ByteArray := prog_7_method_29_code
def yX5_mark : MethodName := ⟨RX5, "mark", "(III)I"⟩
abbrev cX5_marked : ByteArray := prog_7_method_30_code
def yX5_marked : MethodName := ⟨RX5, "marked", "(II)I"⟩
abbrev cX5_tick : ByteArray := prog_7_method_31_code
def yX5_tick : MethodName := ⟨RX5, "tick", "(I)I"⟩
abbrev cX5_manyOf : ByteArray := prog_7_method_32_code
def yX5_manyOf : MethodName := ⟨RX5, "manyOf", "(I)I"⟩
abbrev cX5_stable : ByteArray := prog_7_method_33_code
def yX5_stable : MethodName := ⟨RX5, "stable", "(I)I"⟩
abbrev cX5_isSeen : ByteArray := prog_7_method_34_code
def yX5_isSeen : MethodName := ⟨RX5, "isSeen", "(IZII)Z"⟩
abbrev cX5_fetch : ByteArray := prog_7_method_35_code
def yX5_fetch : MethodName := ⟨RX5, "fetch", "(IIZ)I"⟩
abbrev cX5_answer : ByteArray := prog_7_method_36_code
def yX5_answer : MethodName := ⟨RX5, "answer", "(I)I"⟩
abbrev cX5_feed : ByteArray := prog_7_method_37_code
def yX5_feed : MethodName := ⟨RX5, "feed", "(IJJ)I"⟩
abbrev cX5_sync : ByteArray := prog_7_method_38_code
def yX5_sync : MethodName := ⟨RX5, "sync", "()I"⟩
abbrev cX5_crash : ByteArray := prog_7_method_39_code
def yX5_crash : MethodName := ⟨RX5, "crash", "(I)I"⟩
abbrev cX5_tells : ByteArray := prog_7_method_40_code
def yX5_tells : MethodName := ⟨RX5, "tells", "(I)V"⟩
abbrev cX5_open : ByteArray := prog_7_method_41_code
def yX5_open : MethodName := ⟨RX5, "open", "()I"⟩
abbrev cX5_partition : ByteArray := prog_7_method_42_code
def yX5_partition : MethodName := ⟨RX5, "partition", "(II)I"⟩
abbrev cX5_bytesOf : ByteArray := prog_7_method_43_code
def yX5_bytesOf : MethodName := ⟨RX5, "bytesOf", "(I)I"⟩
abbrev cX5_seenOf : ByteArray := prog_7_method_44_code
def yX5_seenOf : MethodName := ⟨RX5, "seenOf", "(I)I"⟩
abbrev cX5_entry : ByteArray := prog_7_method_45_code
def yX5_entry : MethodName := ⟨RX5, "entry", "(III)I"⟩
abbrev cX5_producer : ByteArray := prog_7_method_46_code
def yX5_producer : MethodName := ⟨RX5, "producer", "(II)I"⟩
abbrev cX5_next : ByteArray := prog_7_method_47_code
def yX5_next : MethodName := ⟨RX5, "next", "(II)I"⟩
abbrev cX5_byteIn : ByteArray := prog_7_method_48_code
def yX5_byteIn : MethodName := ⟨RX5, "byteIn", "(III)I"⟩
abbrev cX5_behind : ByteArray := prog_7_method_49_code
def yX5_behind : MethodName := ⟨RX5, "behind", "(II)I"⟩
abbrev cX5_byteAt : ByteArray := prog_7_method_50_code
def yX5_byteAt : MethodName := ⟨RX5, "byteAt", "(II)I"⟩
abbrev cX5_byteOf : ByteArray := prog_7_method_51_code
def yX5_byteOf : MethodName := ⟨RX5, "byteOf", "(II)I"⟩
abbrev cX5_count : ByteArray := prog_7_method_52_code
def yX5_count : MethodName := ⟨RX5, "count", "(I)I"⟩
def RJ9 : String := "java/lang/Math"
def TJ9 : u_T := fun k => match k with
  | _ => ("", "", "", false)
def tyJ9 : Nat → FieldType := fun k => match k with
  | _ => .int
abbrev wsJ90 : List Cond := u_ws RJ9 TJ9 0
theorem nmJ9 : ∀ a, a < 0 → ∀ b, b < 0 → a ≠ b → (TJ9 a).2.1 ≠ (TJ9 b).2.1 := by decide +kernel
theorem tyJ9_ok : ∀ k, k < 0 → parseFieldDescriptor (TJ9 k).2.2.1 = some (tyJ9 k) := by decide +kernel
abbrev cJ9_max_7cf53 : ByteArray := prog_8_method_65_code
def yJ9_max_7cf53 : MethodName := ⟨RJ9, "max", "(II)I"⟩
abbrev cJ9_min_7cf53 : ByteArray := prog_8_method_69_code
def yJ9_min_7cf53 : MethodName := ⟨RJ9, "min", "(II)I"⟩
def RJ7 : String := "java/util/Arrays"
def TJ7 : u_T := fun k => match k with
  | _ => ("", "", "", false)
def tyJ7 : Nat → FieldType := fun k => match k with
  | _ => .int
abbrev wsJ70 : List Cond := u_ws RJ7 TJ7 0
theorem nmJ7 : ∀ a, a < 0 → ∀ b, b < 0 → a ≠ b → (TJ7 a).2.1 ≠ (TJ7 b).2.1 := by decide +kernel
theorem tyJ7_ok : ∀ k, k < 0 → parseFieldDescriptor (TJ7 k).2.2.1 = some (tyJ7 k) := by decide +kernel
abbrev cJ7_fill_53178 : ByteArray := prog_9_method_103_code
def yJ7_fill_53178 : MethodName := ⟨RJ7, "fill", "([II)V"⟩
def RL : String := "OnceLedgerLaw"
abbrev cL_law : ByteArray := code
def yL_law : MethodName := ⟨RL, "law", "([I)Z"⟩
abbrev vwCl : List vw_C := [(RX0, TX0, 2), (RX1, TX1, 5), (RX2, TX2, 7), (RX3, TX3, 5), (RX4, TX4, 15), (RX5, TX5, 34)]
theorem iX0 : ∀ w ∈ wsX00, w ∈ lw_tbl := by decide +kernel
theorem iX1 : ∀ w ∈ wsX10, w ∈ lw_tbl := by decide +kernel
theorem iX2 : ∀ w ∈ wsX20, w ∈ lw_tbl := by decide +kernel
theorem iX3 : ∀ w ∈ wsX30, w ∈ lw_tbl := by decide +kernel
theorem iX4 : ∀ w ∈ wsX40, w ∈ lw_tbl := by decide +kernel
theorem iX5 : ∀ w ∈ wsX50, w ∈ lw_tbl := by decide +kernel
end
section
/-! TABLES, written by wip/gen/tables.py: the methods with their instructions, and what each link of a class file names; every row is checked against the Statement by the kernel. -/
abbrev ix_T : Type := List (Nat × Instr × Nat)
/-- class, name, code, locals, answer, parameters, kind (0 virtual, 1 static, 2 constructor), instructions, places of its words -/
abbrev ix_M : Type := Nat × MethodName × ByteArray × Nat × Option FieldType × Nat × Nat × ix_T × Nat × Nat × Nat
def ix_tok (c : ByteArray) (T : ix_T) : Bool := T.all (fun q => decide (decode c q.1 = .ok q.2))
def ix_RC : Nat → String := fun k => match k with
  | 0 => RX0
  | 1 => RX1
  | 2 => RX2
  | 3 => RX3
  | 4 => RX4
  | 5 => RX5
  | 6 => RL
  | 7 => RJ9
  | _ => RJ7
def mT_X0_init : ix_T := [(0, .aload_n 0, 1), (1, .invokespecial 3, 3), (4, .aload_n 0, 1), (5, .iload_n 1, 1), (6, .iconst 0, 1), (7, .invokestatic 9, 3), (10, .newarray .byte, 2), (12, .putfield 15, 3), (15, .return_, 1)]
theorem mT_X0_init_ok : ix_tok cX0_init mT_X0_init = true := by decide +kernel
def mD_X0_init : ix_M := (0, yX0_init, cX0_init, 2, none, 1, 2, mT_X0_init, 75, 74, 74)
def mT_X0_clear : ix_T := [(0, .aload_n 0, 1), (1, .iconst 0, 1), (2, .putfield 21, 3), (5, .return_, 1)]
theorem mT_X0_clear_ok : ix_tok cX0_clear mT_X0_clear = true := by decide +kernel
def mD_X0_clear : ix_M := (0, yX0_clear, cX0_clear, 1, none, 0, 0, mT_X0_clear, 189, 187, 188)
def mT_X0_cutTo : ix_T := [(0, .iload_n 1, 1), (1, .ifCond .lt 16, 3), (4, .iload_n 1, 1), (5, .aload_n 0, 1), (6, .getfield 21, 3), (9, .if_icmp .ge 8, 3), (12, .aload_n 0, 1), (13, .iload_n 1, 1), (14, .putfield 21, 3), (17, .return_, 1)]
theorem mT_X0_cutTo_ok : ix_tok cX0_cutTo mT_X0_cutTo = true := by decide +kernel
def mD_X0_cutTo : ix_M := (0, yX0_cutTo, cX0_cutTo, 2, none, 1, 0, mT_X0_cutTo, 514, 512, 513)
def mT_X0_at : ix_T := [(0, .iload_n 1, 1), (1, .ifCond .lt 24, 3), (4, .iload_n 1, 1), (5, .aload_n 0, 1), (6, .getfield 21, 3), (9, .if_icmp .ge 16, 3), (12, .aload_n 0, 1), (13, .getfield 15, 3), (16, .iload_n 1, 1), (17, .baload, 1), (18, .sipush 255, 3), (21, .iand, 1), (22, .goto 4, 3), (25, .iconst (-1), 1), (26, .ireturn, 1)]
theorem mT_X0_at_ok : ix_tok cX0_at mT_X0_at = true := by decide +kernel
def mD_X0_at : ix_M := (0, yX0_at, cX0_at, 2, (some (.int)), 1, 0, mT_X0_at, 364, 362, 363)
def mT_X0_add : ix_T := [(0, .aload_n 0, 1), (1, .getfield 21, 3), (4, .aload_n 0, 1), (5, .getfield 15, 3), (8, .arraylength, 1), (9, .if_icmp .ge 24, 3), (12, .aload_n 0, 1), (13, .getfield 15, 3), (16, .aload_n 0, 1), (17, .getfield 21, 3), (20, .iload_n 1, 1), (21, .i2b, 1), (22, .bastore, 1), (23, .aload_n 0, 1), (24, .dup, 1), (25, .getfield 21, 3), (28, .iconst 1, 1), (29, .iadd, 1), (30, .putfield 21, 3), (33, .return_, 1)]
theorem mT_X0_add_ok : ix_tok cX0_add mT_X0_add = true := by decide +kernel
def mD_X0_add : ix_M := (0, yX0_add, cX0_add, 2, none, 1, 0, mT_X0_add, 268, 266, 267)
def mT_X0_addNumber : ix_T := [(0, .bipush 8, 2), (2, .iload_n 2, 1), (3, .iconst 1, 1), (4, .isub, 1), (5, .imul, 1), (6, .istore_n 3, 1), (7, .iload_n 3, 1), (8, .ifCond .lt 16, 3), (11, .aload_n 0, 1), (12, .iload_n 1, 1), (13, .iload_n 3, 1), (14, .iushr, 1), (15, .invokevirtual 25, 3), (18, .iinc 3 (-8), 3), (21, .goto (-14), 3), (24, .return_, 1)]
theorem mT_X0_addNumber_ok : ix_tok cX0_addNumber mT_X0_addNumber = true := by decide +kernel
def mD_X0_addNumber : ix_M := (0, yX0_addNumber, cX0_addNumber, 4, none, 2, 0, mT_X0_addNumber, 292, 290, 291)
def mT_X0_number : ix_T := [(0, .iconst 0, 1), (1, .istore_n 3, 1), (2, .iload_n 1, 1), (3, .ifCond .lt 47, 3), (6, .iload_n 1, 1), (7, .aload_n 0, 1), (8, .getfield 21, 3), (11, .iload_n 2, 1), (12, .isub, 1), (13, .if_icmp .gt 37, 3), (16, .iconst 0, 1), (17, .istore 4, 2), (19, .iload 4, 2), (21, .iload_n 2, 1), (22, .if_icmp .ge 28, 3), (25, .iload_n 3, 1), (26, .bipush 8, 2), (28, .ishl, 1), (29, .aload_n 0, 1), (30, .getfield 15, 3), (33, .iload_n 1, 1), (34, .iload 4, 2), (36, .iadd, 1), (37, .baload, 1), (38, .sipush 255, 3), (41, .iand, 1), (42, .ior, 1), (43, .istore_n 3, 1), (44, .iinc 4 1, 3), (47, .goto (-28), 3), (50, .iload_n 3, 1), (51, .ireturn, 1)]
theorem mT_X0_number_ok : ix_tok cX0_number mT_X0_number = true := by decide +kernel
def mD_X0_number : ix_M := (0, yX0_number, cX0_number, 5, (some (.int)), 2, 0, mT_X0_number, 309, 307, 308)
def mT_X0_seal : ix_T := [(0, .iload_n 1, 1), (1, .ifCond .lt 13, 3), (4, .iload_n 1, 1), (5, .aload_n 0, 1), (6, .getfield 21, 3), (9, .iconst 4, 1), (10, .isub, 1), (11, .if_icmp .le 4, 3), (14, .return_, 1), (15, .bipush 17, 2), (17, .istore_n 2, 1), (18, .iload_n 1, 1), (19, .iconst 4, 1), (20, .iadd, 1), (21, .istore_n 3, 1), (22, .iload_n 3, 1), (23, .aload_n 0, 1), (24, .getfield 21, 3), (27, .if_icmp .ge 25, 3), (30, .iload_n 2, 1), (31, .bipush 31, 2), (33, .imul, 1), (34, .aload_n 0, 1), (35, .getfield 15, 3), (38, .iload_n 3, 1), (39, .baload, 1), (40, .sipush 255, 3), (43, .iand, 1), (44, .iadd, 1), (45, .istore_n 2, 1), (46, .iinc 3 1, 3), (49, .goto (-27), 3), (52, .iconst 0, 1), (53, .istore_n 3, 1), (54, .iload_n 3, 1), (55, .iconst 4, 1), (56, .if_icmp .ge 27, 3), (59, .aload_n 0, 1), (60, .getfield 15, 3), (63, .iload_n 1, 1), (64, .iload_n 3, 1), (65, .iadd, 1), (66, .iload_n 2, 1), (67, .bipush 24, 2), (69, .bipush 8, 2), (71, .iload_n 3, 1), (72, .imul, 1), (73, .isub, 1), (74, .iushr, 1), (75, .i2b, 1), (76, .bastore, 1), (77, .iinc 3 1, 3), (80, .goto (-26), 3), (83, .return_, 1)]
theorem mT_X0_seal_ok : ix_tok cX0_seal mT_X0_seal = true := by decide +kernel
def mD_X0_seal : ix_M := (0, yX0_seal, cX0_seal, 4, none, 1, 0, mT_X0_seal, 297, 295, 296)
def mT_X1_init : ix_T := [(0, .aload_n 0, 1), (1, .invokespecial 3, 3), (4, .aload_n 0, 1), (5, .new 9, 3), (8, .dup, 1), (9, .sipush 4000, 3), (12, .invokespecial 11, 3), (15, .putfield 14, 3), (18, .aload_n 0, 1), (19, .sipush 285, 3), (22, .newarray .int, 2), (24, .putfield 20, 3), (27, .aload_n 0, 1), (28, .sipush 285, 3), (31, .newarray .boolean, 2), (33, .putfield 24, 3), (36, .aload_n 0, 1), (37, .bipush 32, 2), (39, .newarray .int, 2), (41, .putfield 28, 3), (44, .return_, 1)]
theorem mT_X1_init_ok : ix_tok cX1_init mT_X1_init = true := by decide +kernel
def mD_X1_init : ix_M := (1, yX1_init, cX1_init, 1, none, 0, 2, mT_X1_init, 121, 120, 120)
def mT_X1_clear : ix_T := [(0, .aload_n 0, 1), (1, .getfield 14, 3), (4, .invokevirtual 31, 3), (7, .aload_n 0, 1), (8, .iconst 0, 1), (9, .putfield 34, 3), (12, .return_, 1)]
theorem mT_X1_clear_ok : ix_tok cX1_clear mT_X1_clear = true := by decide +kernel
def mD_X1_clear : ix_M := (1, yX1_clear, cX1_clear, 1, none, 0, 0, mT_X1_clear, 185, 183, 184)
def mT_X1_append : ix_T := [(0, .aload_n 0, 1), (1, .getfield 34, 3), (4, .sipush 285, 3), (7, .if_icmp .lt 4, 3), (10, .return_, 1), (11, .aload_n 0, 1), (12, .getfield 14, 3), (15, .getfield 38, 3), (18, .istore 6, 2), (20, .aload_n 0, 1), (21, .getfield 14, 3), (24, .iconst 0, 1), (25, .iconst 4, 1), (26, .invokevirtual 41, 3), (29, .aload_n 0, 1), (30, .getfield 14, 3), (33, .aload 5, 2), (35, .getfield 38, 3), (38, .iconst 2, 1), (39, .invokevirtual 41, 3), (42, .aload_n 0, 1), (43, .getfield 14, 3), (46, .iload_n 1, 1), (47, .iconst 1, 1), (48, .invokevirtual 41, 3), (51, .aload_n 0, 1), (52, .getfield 14, 3), (55, .iload_n 2, 1), (56, .iconst 1, 1), (57, .invokevirtual 41, 3), (60, .aload_n 0, 1), (61, .getfield 14, 3), (64, .iload_n 3, 1), (65, .iconst 2, 1), (66, .invokevirtual 41, 3), (69, .aload_n 0, 1), (70, .getfield 14, 3), (73, .iload 4, 2), (75, .iconst 4, 1), (76, .invokevirtual 41, 3), (79, .iconst 0, 1), (80, .istore 7, 2), (82, .iload 7, 2), (84, .aload 5, 2), (86, .getfield 38, 3), (89, .if_icmp .ge 23, 3), (92, .aload_n 0, 1), (93, .getfield 14, 3), (96, .aload 5, 2), (98, .iload 7, 2), (100, .invokevirtual 45, 3), (103, .invokevirtual 49, 3), (106, .iinc 7 1, 3), (109, .goto (-27), 3), (112, .aload_n 0, 1), (113, .getfield 14, 3), (116, .iload 6, 2), (118, .invokevirtual 52, 3), (121, .aload_n 0, 1), (122, .getfield 20, 3), (125, .aload_n 0, 1), (126, .getfield 34, 3), (129, .aload_n 0, 1), (130, .getfield 14, 3), (133, .getfield 38, 3), (136, .iastore, 1), (137, .aload_n 0, 1), (138, .dup, 1), (139, .getfield 34, 3), (142, .iconst 1, 1), (143, .iadd, 1), (144, .putfield 34, 3), (147, .return_, 1)]
theorem mT_X1_append_ok : ix_tok cX1_append mT_X1_append = true := by decide +kernel
def mD_X1_append : ix_M := (1, yX1_append, cX1_append, 8, none, 5, 0, mT_X1_append, 359, 357, 358)
def mT_X1_has : ix_T := [(0, .iload_n 1, 1), (1, .ifCond .lt 15, 3), (4, .iload_n 1, 1), (5, .aload_n 0, 1), (6, .getfield 34, 3), (9, .if_icmp .ge 7, 3), (12, .iconst 1, 1), (13, .goto 4, 3), (16, .iconst 0, 1), (17, .ireturn, 1)]
theorem mT_X1_has_ok : ix_tok cX1_has mT_X1_has = true := by decide +kernel
def mD_X1_has : ix_M := (1, yX1_has, cX1_has, 2, (some (.boolean)), 1, 0, mT_X1_has, 548, 546, 547)
def mT_X1_startOf : ix_T := [(0, .iload_n 1, 1), (1, .iconst 1, 1), (2, .if_icmp .lt 22, 3), (5, .iload_n 1, 1), (6, .aload_n 0, 1), (7, .getfield 34, 3), (10, .if_icmp .gt 14, 3), (13, .aload_n 0, 1), (14, .getfield 20, 3), (17, .iload_n 1, 1), (18, .iconst 1, 1), (19, .isub, 1), (20, .iaload, 1), (21, .goto 4, 3), (24, .iconst 0, 1), (25, .ireturn, 1)]
theorem mT_X1_startOf_ok : ix_tok cX1_startOf mT_X1_startOf = true := by decide +kernel
def mD_X1_startOf : ix_M := (1, yX1_startOf, cX1_startOf, 2, (some (.int)), 1, 0, mT_X1_startOf, 346, 344, 345)
def mT_X1_field : ix_T := [(0, .aload_n 0, 1), (1, .getfield 14, 3), (4, .aload_n 0, 1), (5, .iload_n 1, 1), (6, .invokevirtual 55, 3), (9, .iload_n 2, 1), (10, .iadd, 1), (11, .iload_n 3, 1), (12, .invokevirtual 58, 3), (15, .ireturn, 1)]
theorem mT_X1_field_ok : ix_tok cX1_field mT_X1_field = true := by decide +kernel
def mD_X1_field : ix_M := (1, yX1_field, cX1_field, 4, (some (.int)), 3, 0, mT_X1_field, 351, 349, 350)
def mT_X1_kindOf : ix_T := [(0, .aload_n 0, 1), (1, .getfield 14, 3), (4, .aload_n 0, 1), (5, .iload_n 1, 1), (6, .invokevirtual 55, 3), (9, .bipush 6, 2), (11, .iadd, 1), (12, .iconst 1, 1), (13, .invokevirtual 58, 3), (16, .ireturn, 1)]
theorem mT_X1_kindOf_ok : ix_tok cX1_kindOf mT_X1_kindOf = true := by decide +kernel
def mD_X1_kindOf : ix_M := (1, yX1_kindOf, cX1_kindOf, 2, (some (.int)), 1, 0, mT_X1_kindOf, 342, 340, 341)
def mT_X1_isSeen : ix_T := [(0, .aload_n 0, 1), (1, .iload_n 1, 1), (2, .invokevirtual 62, 3), (5, .istore_n 2, 1), (6, .iload_n 2, 1), (7, .ifCond .eq 8, 3), (10, .iload_n 2, 1), (11, .iconst 1, 1), (12, .if_icmp .ne 7, 3), (15, .iconst 1, 1), (16, .goto 4, 3), (19, .iconst 0, 1), (20, .ireturn, 1)]
theorem mT_X1_isSeen_ok : ix_tok cX1_isSeen mT_X1_isSeen = true := by decide +kernel
def mD_X1_isSeen : ix_M := (1, yX1_isSeen, cX1_isSeen, 3, (some (.boolean)), 1, 0, mT_X1_isSeen, 338, 336, 337)
def mT_X1_dropBroken : ix_T := [(0, .aload_n 0, 1), (1, .getfield 34, 3), (4, .iconst 1, 1), (5, .isub, 1), (6, .istore_n 1, 1), (7, .iload_n 1, 1), (8, .ifCond .lt 30, 3), (11, .aload_n 0, 1), (12, .getfield 20, 3), (15, .iload_n 1, 1), (16, .iaload, 1), (17, .aload_n 0, 1), (18, .getfield 14, 3), (21, .getfield 38, 3), (24, .if_icmp .le 14, 3), (27, .aload_n 0, 1), (28, .iload_n 1, 1), (29, .putfield 34, 3), (32, .iinc 1 (-1), 3), (35, .goto (-28), 3), (38, .return_, 1)]
theorem mT_X1_dropBroken_ok : ix_tok cX1_dropBroken mT_X1_dropBroken = true := by decide +kernel
def mD_X1_dropBroken : ix_M := (1, yX1_dropBroken, cX1_dropBroken, 2, none, 0, 0, mT_X1_dropBroken, 518, 516, 517)
def mT_X1_cutBroken : ix_T := [(0, .aload_n 0, 1), (1, .aload_n 0, 1), (2, .getfield 34, 3), (5, .invokevirtual 55, 3), (8, .istore_n 1, 1), (9, .aload_n 0, 1), (10, .getfield 14, 3), (13, .getfield 38, 3), (16, .iload_n 1, 1), (17, .isub, 1), (18, .istore_n 2, 1), (19, .aload_n 0, 1), (20, .getfield 14, 3), (23, .iload_n 1, 1), (24, .invokevirtual 65, 3), (27, .iload_n 2, 1), (28, .ireturn, 1)]
theorem mT_X1_cutBroken_ok : ix_tok cX1_cutBroken mT_X1_cutBroken = true := by decide +kernel
def mD_X1_cutBroken : ix_M := (1, yX1_cutBroken, cX1_cutBroken, 3, (some (.int)), 0, 0, mT_X1_cutBroken, 526, 524, 525)
def mT_X1_isSentBy : ix_T := [(0, .aload_n 0, 1), (1, .iload_n 1, 1), (2, .invokevirtual 68, 3), (5, .ifCond .eq 31, 3), (8, .aload_n 0, 1), (9, .iload_n 1, 1), (10, .bipush 7, 2), (12, .iconst 1, 1), (13, .invokevirtual 72, 3), (16, .iload_n 2, 1), (17, .if_icmp .ne 19, 3), (20, .aload_n 0, 1), (21, .iload_n 1, 1), (22, .bipush 8, 2), (24, .iconst 2, 1), (25, .invokevirtual 72, 3), (28, .iload_n 3, 1), (29, .if_icmp .ne 7, 3), (32, .iconst 1, 1), (33, .goto 4, 3), (36, .iconst 0, 1), (37, .ireturn, 1)]
theorem mT_X1_isSentBy_ok : ix_tok cX1_isSentBy mT_X1_isSentBy = true := by decide +kernel
def mD_X1_isSentBy : ix_M := (1, yX1_isSentBy, cX1_isSentBy, 4, (some (.boolean)), 3, 0, mT_X1_isSentBy, 410, 408, 409)
def mT_X1_nextOf : ix_T := [(0, .aload_n 0, 1), (1, .getfield 34, 3), (4, .iconst 1, 1), (5, .isub, 1), (6, .istore_n 3, 1), (7, .iload_n 3, 1), (8, .ifCond .lt 30, 3), (11, .aload_n 0, 1), (12, .iload_n 3, 1), (13, .iload_n 1, 1), (14, .iload_n 2, 1), (15, .invokevirtual 76, 3), (18, .ifCond .eq 14, 3), (21, .aload_n 0, 1), (22, .iload_n 3, 1), (23, .bipush 10, 2), (25, .iconst 4, 1), (26, .invokevirtual 72, 3), (29, .iconst 1, 1), (30, .iadd, 1), (31, .ireturn, 1), (32, .iinc 3 (-1), 3), (35, .goto (-28), 3), (38, .iconst 0, 1), (39, .ireturn, 1)]
theorem mT_X1_nextOf_ok : ix_tok cX1_nextOf mT_X1_nextOf = true := by decide +kernel
def mD_X1_nextOf : ix_M := (1, yX1_nextOf, cX1_nextOf, 4, (some (.int)), 2, 0, mT_X1_nextOf, 414, 412, 413)
def mT_X1_offsetOfRecent : ix_T := [(0, .iconst 0, 1), (1, .istore 4, 2), (3, .aload_n 0, 1), (4, .getfield 34, 3), (7, .iconst 1, 1), (8, .isub, 1), (9, .istore 5, 2), (11, .iload 5, 2), (13, .ifCond .lt 45, 3), (16, .iload 4, 2), (18, .iconst 5, 1), (19, .if_icmp .ge 39, 3), (22, .aload_n 0, 1), (23, .iload 5, 2), (25, .iload_n 1, 1), (26, .iload_n 2, 1), (27, .invokevirtual 76, 3), (30, .ifCond .eq 22, 3), (33, .aload_n 0, 1), (34, .iload 5, 2), (36, .bipush 10, 2), (38, .iconst 4, 1), (39, .invokevirtual 72, 3), (42, .iload_n 3, 1), (43, .if_icmp .ne 6, 3), (46, .iload 5, 2), (48, .ireturn, 1), (49, .iinc 4 1, 3), (52, .iinc 5 (-1), 3), (55, .goto (-44), 3), (58, .iconst (-1), 1), (59, .ireturn, 1)]
theorem mT_X1_offsetOfRecent_ok : ix_tok cX1_offsetOfRecent mT_X1_offsetOfRecent = true := by decide +kernel
def mD_X1_offsetOfRecent : ix_M := (1, yX1_offsetOfRecent, cX1_offsetOfRecent, 6, (some (.int)), 3, 0, mT_X1_offsetOfRecent, 406, 404, 405)
def mT_X1_hasEndOf : ix_T := [(0, .aload_n 0, 1), (1, .getfield 34, 3), (4, .iconst 1, 1), (5, .isub, 1), (6, .istore_n 2, 1), (7, .iload_n 2, 1), (8, .ifCond .lt 31, 3), (11, .aload_n 0, 1), (12, .iload_n 2, 1), (13, .invokevirtual 68, 3), (16, .ifCond .ne 17, 3), (19, .aload_n 0, 1), (20, .iload_n 2, 1), (21, .bipush 10, 2), (23, .iconst 4, 1), (24, .invokevirtual 72, 3), (27, .iload_n 1, 1), (28, .if_icmp .ne 5, 3), (31, .iconst 1, 1), (32, .ireturn, 1), (33, .iinc 2 (-1), 3), (36, .goto (-29), 3), (39, .iconst 0, 1), (40, .ireturn, 1)]
theorem mT_X1_hasEndOf_ok : ix_tok cX1_hasEndOf mT_X1_hasEndOf = true := by decide +kernel
def mD_X1_hasEndOf : ix_M := (1, yX1_hasEndOf, cX1_hasEndOf, 3, (some (.boolean)), 1, 0, mT_X1_hasEndOf, 334, 332, 333)
def mT_X1_stable : ix_T := [(0, .aload_n 0, 1), (1, .getfield 28, 3), (4, .iconst (-1), 1), (5, .invokestatic 80, 3), (8, .aload_n 0, 1), (9, .getfield 34, 3), (12, .istore_n 1, 1), (13, .aload_n 0, 1), (14, .getfield 34, 3), (17, .iconst 1, 1), (18, .isub, 1), (19, .istore_n 2, 1), (20, .iload_n 2, 1), (21, .ifCond .lt 97, 3), (24, .aload_n 0, 1), (25, .iload_n 2, 1), (26, .invokevirtual 62, 3), (29, .istore_n 3, 1), (30, .aload_n 0, 1), (31, .iload_n 2, 1), (32, .bipush 7, 2), (34, .iconst 1, 1), (35, .invokevirtual 72, 3), (38, .bipush 31, 2), (40, .invokestatic 86, 3), (43, .istore 4, 2), (45, .aload_n 0, 1), (46, .getfield 24, 3), (49, .iload_n 2, 1), (50, .iload_n 3, 1), (51, .ifCond .eq 19, 3), (54, .iload_n 3, 1), (55, .iconst 1, 1), (56, .if_icmp .ne 18, 3), (59, .aload_n 0, 1), (60, .getfield 28, 3), (63, .iload 4, 2), (65, .iaload, 1), (66, .iconst 2, 1), (67, .if_icmp .ne 7, 3), (70, .iconst 1, 1), (71, .goto 4, 3), (74, .iconst 0, 1), (75, .bastore, 1), (76, .iload_n 3, 1), (77, .iconst 1, 1), (78, .if_icmp .ne 16, 3), (81, .aload_n 0, 1), (82, .getfield 28, 3), (85, .iload 4, 2), (87, .iaload, 1), (88, .iconst (-1), 1), (89, .if_icmp .ne 5, 3), (92, .iload_n 2, 1), (93, .istore_n 1, 1), (94, .iload_n 3, 1), (95, .iconst 2, 1), (96, .if_icmp .eq 8, 3), (99, .iload_n 3, 1), (100, .iconst 3, 1), (101, .if_icmp .ne 11, 3), (104, .aload_n 0, 1), (105, .getfield 28, 3), (108, .iload 4, 2), (110, .iload_n 3, 1), (111, .iastore, 1), (112, .iinc 2 (-1), 3), (115, .goto (-95), 3), (118, .iload_n 1, 1), (119, .ireturn, 1)]
theorem mT_X1_stable_ok : ix_tok cX1_stable mT_X1_stable = true := by decide +kernel
def mD_X1_stable : ix_M := (1, yX1_stable, cX1_stable, 5, (some (.int)), 0, 0, mT_X1_stable, 471, 469, 470)
def mT_X1_committedEntries : ix_T := [(0, .aload_n 0, 1), (1, .invokevirtual 91, 3), (4, .istore_n 1, 1), (5, .iconst 0, 1), (6, .istore_n 2, 1), (7, .iconst 0, 1), (8, .istore_n 3, 1), (9, .iload_n 3, 1), (10, .iload_n 1, 1), (11, .if_icmp .ge 26, 3), (14, .iload_n 2, 1), (15, .aload_n 0, 1), (16, .getfield 24, 3), (19, .iload_n 3, 1), (20, .baload, 1), (21, .ifCond .eq 7, 3), (24, .iconst 1, 1), (25, .goto 4, 3), (28, .iconst 0, 1), (29, .iadd, 1), (30, .istore_n 2, 1), (31, .iinc 3 1, 3), (34, .goto (-25), 3), (37, .iload_n 2, 1), (38, .ireturn, 1)]
theorem mT_X1_committedEntries_ok : ix_tok cX1_committedEntries mT_X1_committedEntries = true := by decide +kernel
def mD_X1_committedEntries : ix_M := (1, yX1_committedEntries, cX1_committedEntries, 4, (some (.int)), 0, 0, mT_X1_committedEntries, 540, 538, 539)
def mT_X1_firstCommitted : ix_T := [(0, .aload_n 0, 1), (1, .invokevirtual 91, 3), (4, .istore_n 2, 1), (5, .iload_n 1, 1), (6, .iconst 0, 1), (7, .invokestatic 95, 3), (10, .istore_n 3, 1), (11, .iload_n 3, 1), (12, .iload_n 2, 1), (13, .if_icmp .ge 20, 3), (16, .aload_n 0, 1), (17, .getfield 24, 3), (20, .iload_n 3, 1), (21, .baload, 1), (22, .ifCond .eq 5, 3), (25, .iload_n 3, 1), (26, .ireturn, 1), (27, .iinc 3 1, 3), (30, .goto (-19), 3), (33, .iconst (-1), 1), (34, .ireturn, 1)]
theorem mT_X1_firstCommitted_ok : ix_tok cX1_firstCommitted mT_X1_firstCommitted = true := by decide +kernel
def mD_X1_firstCommitted : ix_M := (1, yX1_firstCommitted, cX1_firstCommitted, 4, (some (.int)), 1, 0, mT_X1_firstCommitted, 467, 465, 466)
def mT_X1_firstSeen : ix_T := [(0, .iload_n 1, 1), (1, .iconst 0, 1), (2, .invokestatic 95, 3), (5, .istore_n 2, 1), (6, .iload_n 2, 1), (7, .aload_n 0, 1), (8, .getfield 34, 3), (11, .if_icmp .ge 19, 3), (14, .aload_n 0, 1), (15, .iload_n 2, 1), (16, .invokevirtual 68, 3), (19, .ifCond .eq 5, 3), (22, .iload_n 2, 1), (23, .ireturn, 1), (24, .iinc 2 1, 3), (27, .goto (-21), 3), (30, .iconst (-1), 1), (31, .ireturn, 1)]
theorem mT_X1_firstSeen_ok : ix_tok cX1_firstSeen mT_X1_firstSeen = true := by decide +kernel
def mD_X1_firstSeen : ix_M := (1, yX1_firstSeen, cX1_firstSeen, 3, (some (.int)), 1, 0, mT_X1_firstSeen, 480, 478, 479)
def mT_X1_copyPayload : ix_T := [(0, .aload_n 0, 1), (1, .iload_n 1, 1), (2, .invokevirtual 55, 3), (5, .bipush 14, 2), (7, .iadd, 1), (8, .istore_n 3, 1), (9, .aload_n 0, 1), (10, .iload_n 1, 1), (11, .iconst 4, 1), (12, .iconst 2, 1), (13, .invokevirtual 72, 3), (16, .bipush 40, 2), (18, .invokestatic 86, 3), (21, .istore 4, 2), (23, .iconst 0, 1), (24, .istore 5, 2), (26, .iload 5, 2), (28, .iload 4, 2), (30, .if_icmp .ge 24, 3), (33, .aload_n 2, 1), (34, .aload_n 0, 1), (35, .getfield 14, 3), (38, .iload_n 3, 1), (39, .iload 5, 2), (41, .iadd, 1), (42, .invokevirtual 45, 3), (45, .invokevirtual 49, 3), (48, .iinc 5 1, 3), (51, .goto (-25), 3), (54, .return_, 1)]
theorem mT_X1_copyPayload_ok : ix_tok cX1_copyPayload mT_X1_copyPayload = true := by decide +kernel
def mD_X1_copyPayload : ix_M := (1, yX1_copyPayload, cX1_copyPayload, 6, none, 2, 0, mT_X1_copyPayload, 484, 482, 483)
def mT_X2_init : ix_T := [(0, .aload_n 0, 1), (1, .invokespecial 3, 3), (4, .return_, 1)]
theorem mT_X2_init_ok : ix_tok cX2_init mT_X2_init = true := by decide +kernel
def mD_X2_init : ix_M := (2, yX2_init, cX2_init, 1, none, 0, 2, mT_X2_init, 147, 146, 146)
def mT_X2_forget : ix_T := [(0, .aload_n 0, 1), (1, .iconst (-1), 1), (2, .putfield 9, 3), (5, .aload_n 0, 1), (6, .invokevirtual 15, 3), (9, .return_, 1)]
theorem mT_X2_forget_ok : ix_tok cX2_forget mT_X2_forget = true := by decide +kernel
def mD_X2_forget : ix_M := (2, yX2_forget, cX2_forget, 1, none, 0, 0, mT_X2_forget, 205, 203, 204)
def mT_X2_openTransaction : ix_T := [(0, .aload_n 0, 1), (1, .iload_n 1, 1), (2, .putfield 18, 3), (5, .aload_n 0, 1), (6, .iload_n 2, 1), (7, .putfield 21, 3), (10, .aload_n 0, 1), (11, .iload_n 3, 1), (12, .putfield 24, 3), (15, .return_, 1)]
theorem mT_X2_openTransaction_ok : ix_tok cX2_openTransaction mT_X2_openTransaction = true := by decide +kernel
def mD_X2_openTransaction : ix_M := (2, yX2_openTransaction, cX2_openTransaction, 4, none, 3, 0, mT_X2_openTransaction, 313, 311, 312)
def mT_X2_closeTransaction : ix_T := [(0, .aload_n 0, 1), (1, .iconst (-1), 1), (2, .putfield 18, 3), (5, .aload_n 0, 1), (6, .iconst (-1), 1), (7, .putfield 21, 3), (10, .aload_n 0, 1), (11, .iconst 0, 1), (12, .putfield 27, 3), (15, .aload_n 0, 1), (16, .iconst 0, 1), (17, .putfield 30, 3), (20, .aload_n 0, 1), (21, .iconst (-1), 1), (22, .putfield 33, 3), (25, .return_, 1)]
theorem mT_X2_closeTransaction_ok : ix_tok cX2_closeTransaction mT_X2_closeTransaction = true := by decide +kernel
def mD_X2_closeTransaction : ix_M := (2, yX2_closeTransaction, cX2_closeTransaction, 1, none, 0, 0, mT_X2_closeTransaction, 209, 207, 208)
def mT_X2_isOpen : ix_T := [(0, .aload_n 0, 1), (1, .getfield 18, 3), (4, .iconst (-1), 1), (5, .if_icmp .eq 7, 3), (8, .iconst 1, 1), (9, .goto 4, 3), (12, .iconst 0, 1), (13, .ireturn, 1)]
theorem mT_X2_isOpen_ok : ix_tok cX2_isOpen mT_X2_isOpen = true := by decide +kernel
def mD_X2_isOpen : ix_M := (2, yX2_isOpen, cX2_isOpen, 1, (some (.boolean)), 0, 0, mT_X2_isOpen, 280, 278, 279)
def mT_X2_hasAdded : ix_T := [(0, .aload_n 0, 1), (1, .getfield 27, 3), (4, .iload_n 1, 1), (5, .ishr, 1), (6, .iconst 1, 1), (7, .iand, 1), (8, .iconst 1, 1), (9, .if_icmp .ne 7, 3), (12, .iconst 1, 1), (13, .goto 4, 3), (16, .iconst 0, 1), (17, .ireturn, 1)]
theorem mT_X2_hasAdded_ok : ix_tok cX2_hasAdded mT_X2_hasAdded = true := by decide +kernel
def mD_X2_hasAdded : ix_M := (2, yX2_hasAdded, cX2_hasAdded, 2, (some (.boolean)), 1, 0, mT_X2_hasAdded, 330, 328, 329)
def mT_X3_init : ix_T := [(0, .aload_n 0, 1), (1, .invokespecial 3, 3), (4, .aload_n 0, 1), (5, .sipush 3280, 3), (8, .newarray .int, 2), (10, .putfield 9, 3), (13, .aload_n 0, 1), (14, .sipush 3280, 3), (17, .newarray .int, 2), (19, .putfield 15, 3), (22, .aload_n 0, 1), (23, .bipush 9, 2), (25, .newarray .int, 2), (27, .putfield 18, 3), (30, .return_, 1)]
theorem mT_X3_init_ok : ix_tok cX3_init mT_X3_init = true := by decide +kernel
def mD_X3_init : ix_M := (3, yX3_init, cX3_init, 1, none, 0, 2, mT_X3_init, 96, 95, 95)
def mT_X3_clear : ix_T := [(0, .aload_n 0, 1), (1, .iconst 0, 1), (2, .putfield 21, 3), (5, .aload_n 0, 1), (6, .iconst 0, 1), (7, .putfield 25, 3), (10, .aload_n 0, 1), (11, .getfield 18, 3), (14, .iconst 0, 1), (15, .invokestatic 28, 3), (18, .return_, 1)]
theorem mT_X3_clear_ok : ix_tok cX3_clear mT_X3_clear = true := by decide +kernel
def mD_X3_clear : ix_M := (3, yX3_clear, cX3_clear, 1, none, 0, 0, mT_X3_clear, 194, 192, 193)
def mT_X3_note : ix_T := [(0, .aload_n 0, 1), (1, .getfield 21, 3), (4, .sipush 3280, 3), (7, .if_icmp .ge 66, 3), (10, .iload_n 1, 1), (11, .ifCond .lt 62, 3), (14, .iload_n 1, 1), (15, .aload_n 0, 1), (16, .getfield 18, 3), (19, .arraylength, 1), (20, .if_icmp .ge 53, 3), (23, .aload_n 0, 1), (24, .getfield 9, 3), (27, .aload_n 0, 1), (28, .getfield 21, 3), (31, .iload_n 1, 1), (32, .iastore, 1), (33, .aload_n 0, 1), (34, .getfield 15, 3), (37, .aload_n 0, 1), (38, .getfield 21, 3), (41, .iload_n 2, 1), (42, .iastore, 1), (43, .aload_n 0, 1), (44, .dup, 1), (45, .getfield 21, 3), (48, .iconst 1, 1), (49, .iadd, 1), (50, .putfield 21, 3), (53, .aload_n 0, 1), (54, .dup, 1), (55, .getfield 25, 3), (58, .iload_n 2, 1), (59, .iadd, 1), (60, .putfield 25, 3), (63, .aload_n 0, 1), (64, .getfield 18, 3), (67, .iload_n 1, 1), (68, .dup2, 1), (69, .iaload, 1), (70, .iload_n 2, 1), (71, .iadd, 1), (72, .iastore, 1), (73, .return_, 1)]
theorem mT_X3_note_ok : ix_tok cX3_note mT_X3_note = true := by decide +kernel
def mD_X3_note : ix_M := (3, yX3_note, cX3_note, 3, none, 2, 0, mT_X3_note, 301, 299, 300)
def mT_X3_bytesOf : ix_T := [(0, .iload_n 1, 1), (1, .ifCond .lt 21, 3), (4, .iload_n 1, 1), (5, .aload_n 0, 1), (6, .getfield 18, 3), (9, .arraylength, 1), (10, .if_icmp .ge 12, 3), (13, .aload_n 0, 1), (14, .getfield 18, 3), (17, .iload_n 1, 1), (18, .iaload, 1), (19, .goto 4, 3), (22, .iconst 0, 1), (23, .ireturn, 1)]
theorem mT_X3_bytesOf_ok : ix_tok cX3_bytesOf mT_X3_bytesOf = true := by decide +kernel
def mD_X3_bytesOf : ix_M := (3, yX3_bytesOf, cX3_bytesOf, 2, (some (.int)), 1, 0, mT_X3_bytesOf, 505, 503, 504)
def mT_X3_keptOf : ix_T := [(0, .iload_n 2, 1), (1, .istore_n 3, 1), (2, .iconst 0, 1), (3, .istore 4, 2), (5, .iconst 0, 1), (6, .istore 5, 2), (8, .iload 5, 2), (10, .aload_n 0, 1), (11, .getfield 21, 3), (14, .if_icmp .ge 53, 3), (17, .iload_n 3, 1), (18, .ifCond .le 49, 3), (21, .aload_n 0, 1), (22, .getfield 15, 3), (25, .iload 5, 2), (27, .iaload, 1), (28, .iload_n 3, 1), (29, .invokestatic 34, 3), (32, .istore 6, 2), (34, .iload 4, 2), (36, .aload_n 0, 1), (37, .getfield 9, 3), (40, .iload 5, 2), (42, .iaload, 1), (43, .iload_n 1, 1), (44, .if_icmp .ne 8, 3), (47, .iload 6, 2), (49, .goto 4, 3), (52, .iconst 0, 1), (53, .iadd, 1), (54, .istore 4, 2), (56, .iload_n 3, 1), (57, .iload 6, 2), (59, .isub, 1), (60, .istore_n 3, 1), (61, .iinc 5 1, 3), (64, .goto (-56), 3), (67, .iload 4, 2), (69, .ireturn, 1)]
theorem mT_X3_keptOf_ok : ix_tok cX3_keptOf mT_X3_keptOf = true := by decide +kernel
def mD_X3_keptOf : ix_M := (3, yX3_keptOf, cX3_keptOf, 7, (some (.int)), 2, 0, mT_X3_keptOf, 509, 507, 508)
def mT_X4_init : ix_T := [(0, .aload_n 0, 1), (1, .invokespecial 3, 3), (4, .aload_n 0, 1), (5, .new 9, 3), (8, .dup, 1), (9, .bipush 40, 2), (11, .invokespecial 11, 3), (14, .putfield 14, 3), (17, .aload_n 0, 1), (18, .new 9, 3), (21, .dup, 1), (22, .bipush 40, 2), (24, .invokespecial 11, 3), (27, .putfield 18, 3), (30, .aload_n 0, 1), (31, .new 9, 3), (34, .dup, 1), (35, .iconst 0, 1), (36, .invokespecial 11, 3), (39, .putfield 21, 3), (42, .aload_n 0, 1), (43, .bipush 8, 2), (45, .anewarray 24, 3), (48, .putfield 26, 3), (51, .aload_n 0, 1), (52, .new 9, 3), (55, .dup, 1), (56, .sipush 16000, 3), (59, .invokespecial 11, 3), (62, .putfield 30, 3), (65, .aload_n 0, 1), (66, .new 33, 3), (69, .dup, 1), (70, .invokespecial 35, 3), (73, .putfield 36, 3), (76, .aload_n 0, 1), (77, .bipush 32, 2), (79, .anewarray 40, 3), (82, .putfield 42, 3), (85, .aload_n 0, 1), (86, .bipush 64, 2), (88, .newarray .int, 2), (90, .putfield 46, 3), (93, .iconst 0, 1), (94, .istore_n 1, 1), (95, .iload_n 1, 1), (96, .bipush 8, 2), (98, .if_icmp .ge 22, 3), (101, .aload_n 0, 1), (102, .getfield 26, 3), (105, .iload_n 1, 1), (106, .new 24, 3), (109, .dup, 1), (110, .invokespecial 50, 3), (113, .aastore, 1), (114, .iinc 1 1, 3), (117, .goto (-22), 3), (120, .iconst 0, 1), (121, .istore_n 1, 1), (122, .iload_n 1, 1), (123, .bipush 32, 2), (125, .if_icmp .ge 22, 3), (128, .aload_n 0, 1), (129, .getfield 42, 3), (132, .iload_n 1, 1), (133, .new 40, 3), (136, .dup, 1), (137, .invokespecial 51, 3), (140, .aastore, 1), (141, .iinc 1 1, 3), (144, .goto (-22), 3), (147, .aload_n 0, 1), (148, .iconst 4, 1), (149, .sipush 2000, 3), (152, .bipush 100, 2), (154, .invokevirtual 52, 3), (157, .return_, 1)]
theorem mT_X4_init_ok : ix_tok cX4_init mT_X4_init = true := by decide +kernel
def mD_X4_init : ix_M := (4, yX4_init, cX4_init, 2, none, 0, 2, mT_X4_init, 67, 66, 66)
def mT_X4_format : ix_T := [(0, .iload_n 1, 1), (1, .iconst 1, 1), (2, .if_icmp .lt 34, 3), (5, .iload_n 1, 1), (6, .bipush 8, 2), (8, .if_icmp .gt 28, 3), (11, .iload_n 2, 1), (12, .bipush 100, 2), (14, .if_icmp .lt 22, 3), (17, .iload_n 2, 1), (18, .sipush 4000, 3), (21, .if_icmp .gt 15, 3), (24, .iload_n 3, 1), (25, .iconst 1, 1), (26, .if_icmp .lt 10, 3), (29, .iload_n 3, 1), (30, .sipush 1000, 3), (33, .if_icmp .le 5, 3), (36, .iconst 0, 1), (37, .ireturn, 1), (38, .aload_n 0, 1), (39, .iload_n 1, 1), (40, .iload_n 2, 1), (41, .iload_n 3, 1), (42, .invokevirtual 52, 3), (45, .iconst 1, 1), (46, .ireturn, 1)]
theorem mT_X4_format_ok : ix_tok cX4_format mT_X4_format = true := by decide +kernel
def mD_X4_format : ix_M := (4, yX4_format, cX4_format, 4, (some (.boolean)), 3, 0, mT_X4_format, 260, 258, 259)
def mT_X4_feed : ix_T := [(0, .iload_n 1, 1), (1, .iconst 1, 1), (2, .if_icmp .lt 23, 3), (5, .iload_n 1, 1), (6, .bipush 16, 2), (8, .if_icmp .gt 17, 3), (11, .aload_n 0, 1), (12, .getfield 14, 3), (15, .getfield 56, 3), (18, .iload_n 1, 1), (19, .iadd, 1), (20, .bipush 40, 2), (22, .if_icmp .le 5, 3), (25, .iconst (-1), 1), (26, .ireturn, 1), (27, .iconst 0, 1), (28, .istore 6, 2), (30, .iload 6, 2), (32, .iload_n 1, 1), (33, .if_icmp .ge 43, 3), (36, .iload 6, 2), (38, .bipush 8, 2), (40, .if_icmp .ge 7, 3), (43, .lload_n 2, 1), (44, .goto 5, 3), (47, .lload 4, 2), (49, .lstore 7, 2), (51, .aload_n 0, 1), (52, .getfield 14, 3), (55, .lload 7, 2), (57, .bipush 8, 2), (59, .iload 6, 2), (61, .bipush 7, 2), (63, .iand, 1), (64, .imul, 1), (65, .lushr, 1), (66, .l2i, 1), (67, .invokevirtual 60, 3), (70, .iinc 6 1, 3), (73, .goto (-43), 3), (76, .aload_n 0, 1), (77, .getfield 14, 3), (80, .getfield 56, 3), (83, .ireturn, 1)]
theorem mT_X4_feed_ok : ix_tok cX4_feed mT_X4_feed = true := by decide +kernel
def mD_X4_feed : ix_M := (4, yX4_feed, cX4_feed, 9, (some (.int)), 3, 0, mT_X4_feed, 264, 262, 263)
def mT_X4_register : ix_T := [(0, .aload_n 0, 1), (1, .getfield 63, 3), (4, .ifCond .eq 5, 3), (7, .iconst (-1), 1), (8, .ireturn, 1), (9, .aload_n 0, 1), (10, .iload_n 1, 1), (11, .invokevirtual 67, 3), (14, .ifCond .ne 6, 3), (17, .bipush (-2), 2), (19, .ireturn, 1), (20, .aload_n 0, 1), (21, .getfield 42, 3), (24, .iload_n 1, 1), (25, .aaload, 1), (26, .invokevirtual 71, 3), (29, .ifCond .eq 17, 3), (32, .aload_n 0, 1), (33, .iload_n 1, 1), (34, .iconst 0, 1), (35, .invokevirtual 75, 3), (38, .aload_n 0, 1), (39, .iload_n 1, 1), (40, .invokevirtual 79, 3), (43, .goto 14, 3), (46, .aload_n 0, 1), (47, .iconst 0, 1), (48, .invokevirtual 82, 3), (51, .ifCond .ne 6, 3), (54, .bipush (-8), 2), (56, .ireturn, 1), (57, .aload_n 0, 1), (58, .iload_n 1, 1), (59, .invokevirtual 85, 3), (62, .aload_n 0, 1), (63, .getfield 42, 3), (66, .iload_n 1, 1), (67, .aaload, 1), (68, .getfield 88, 3), (71, .ireturn, 1)]
theorem mT_X4_register_ok : ix_tok cX4_register mT_X4_register = true := by decide +kernel
def mD_X4_register : ix_M := (4, yX4_register, cX4_register, 2, (some (.int)), 1, 0, mT_X4_register, 272, 270, 271)
def mT_X4_begin : ix_T := [(0, .aload_n 0, 1), (1, .iload_n 1, 1), (2, .iload_n 2, 1), (3, .iconst 1, 1), (4, .invokevirtual 91, 3), (7, .istore_n 3, 1), (8, .iload_n 3, 1), (9, .ifCond .eq 5, 3), (12, .iload_n 3, 1), (13, .ireturn, 1), (14, .aload_n 0, 1), (15, .getfield 42, 3), (18, .iload_n 1, 1), (19, .aaload, 1), (20, .invokevirtual 71, 3), (23, .ifCond .eq 6, 3), (26, .bipush (-4), 2), (28, .ireturn, 1), (29, .aload_n 0, 1), (30, .iconst 1, 1), (31, .invokevirtual 82, 3), (34, .ifCond .ne 6, 3), (37, .bipush (-8), 2), (39, .ireturn, 1), (40, .aload_n 0, 1), (41, .getfield 95, 3), (44, .istore 4, 2), (46, .aload_n 0, 1), (47, .iconst 1, 1), (48, .iload_n 1, 1), (49, .iload_n 2, 1), (50, .aload_n 0, 1), (51, .getfield 98, 3), (54, .iload 4, 2), (56, .invokevirtual 101, 3), (59, .iload 4, 2), (61, .ireturn, 1)]
theorem mT_X4_begin_ok : ix_tok cX4_begin mT_X4_begin = true := by decide +kernel
def mD_X4_begin : ix_M := (4, yX4_begin, cX4_begin, 5, (some (.int)), 2, 0, mT_X4_begin, 382, 380, 381)
def mT_X4_send : ix_T := [(0, .aload_n 0, 1), (1, .iload_n 1, 1), (2, .iload_n 2, 1), (3, .iload_n 3, 1), (4, .iload 4, 2), (6, .iload 5, 2), (8, .invokevirtual 105, 3), (11, .istore 6, 2), (13, .aload_n 0, 1), (14, .getfield 14, 3), (17, .invokevirtual 109, 3), (20, .iload 6, 2), (22, .ireturn, 1)]
theorem mT_X4_send_ok : ix_tok cX4_send mT_X4_send = true := by decide +kernel
def mD_X4_send : ix_M := (4, yX4_send, cX4_send, 7, (some (.int)), 5, 0, mT_X4_send, 394, 392, 393)
def mT_X4_later : ix_T := [(0, .aload_n 0, 1), (1, .iload_n 1, 1), (2, .iload_n 2, 1), (3, .aload_n 0, 1), (4, .iload_n 3, 1), (5, .iload 4, 2), (7, .invokevirtual 112, 3), (10, .ifCond .eq 12, 3), (13, .iload 5, 2), (15, .ifCond .lt 7, 3), (18, .iconst 1, 1), (19, .goto 4, 3), (22, .iconst 0, 1), (23, .invokevirtual 91, 3), (26, .istore 6, 2), (28, .iload 6, 2), (30, .ifCond .eq 6, 3), (33, .iload 6, 2), (35, .ireturn, 1), (36, .aload_n 0, 1), (37, .getfield 42, 3), (40, .iload_n 1, 1), (41, .aaload, 1), (42, .invokevirtual 71, 3), (45, .ifCond .ne 6, 3), (48, .bipush (-5), 2), (50, .ireturn, 1), (51, .aload_n 0, 1), (52, .iconst 0, 1), (53, .invokevirtual 82, 3), (56, .ifCond .ne 6, 3), (59, .bipush (-8), 2), (61, .ireturn, 1), (62, .aload_n 0, 1), (63, .iconst 3, 1), (64, .iload_n 1, 1), (65, .iload_n 2, 1), (66, .aload_n 0, 1), (67, .iload_n 3, 1), (68, .iload 4, 2), (70, .invokevirtual 116, 3), (73, .iload 5, 2), (75, .invokevirtual 101, 3), (78, .iconst 0, 1), (79, .ireturn, 1)]
theorem mT_X4_later_ok : ix_tok cX4_later mT_X4_later = true := by decide +kernel
def mD_X4_later : ix_M := (4, yX4_later, cX4_later, 7, (some (.int)), 5, 0, mT_X4_later, 426, 424, 425)
def mT_X4_end : ix_T := [(0, .aload_n 0, 1), (1, .iload_n 1, 1), (2, .iload_n 2, 1), (3, .iconst 1, 1), (4, .invokevirtual 91, 3), (7, .istore 4, 2), (9, .iload 4, 2), (11, .ifCond .eq 6, 3), (14, .iload 4, 2), (16, .ireturn, 1), (17, .aload_n 0, 1), (18, .getfield 42, 3), (21, .iload_n 1, 1), (22, .aaload, 1), (23, .invokevirtual 71, 3), (26, .ifCond .ne 6, 3), (29, .bipush (-5), 2), (31, .ireturn, 1), (32, .aload_n 0, 1), (33, .iload_n 1, 1), (34, .iload_n 3, 1), (35, .invokevirtual 75, 3), (38, .aload_n 0, 1), (39, .iload_n 1, 1), (40, .invokevirtual 79, 3), (43, .iconst 0, 1), (44, .ireturn, 1)]
theorem mT_X4_end_ok : ix_tok cX4_end mT_X4_end = true := by decide +kernel
def mD_X4_end : ix_M := (4, yX4_end, cX4_end, 5, (some (.int)), 3, 0, mT_X4_end, 438, 436, 437)
def mT_X4_mark : ix_T := [(0, .aload_n 0, 1), (1, .getfield 63, 3), (4, .ifCond .eq 5, 3), (7, .iconst (-1), 1), (8, .ireturn, 1), (9, .aload_n 0, 1), (10, .iload_n 1, 1), (11, .iload_n 2, 1), (12, .invokevirtual 112, 3), (15, .ifCond .eq 7, 3), (18, .iload_n 3, 1), (19, .ifCond .ge 6, 3), (22, .bipush (-2), 2), (24, .ireturn, 1), (25, .aload_n 0, 1), (26, .iconst 0, 1), (27, .invokevirtual 82, 3), (30, .ifCond .ne 6, 3), (33, .bipush (-8), 2), (35, .ireturn, 1), (36, .aload_n 0, 1), (37, .bipush 6, 2), (39, .iconst 0, 1), (40, .iconst 0, 1), (41, .aload_n 0, 1), (42, .iload_n 1, 1), (43, .iload_n 2, 1), (44, .invokevirtual 116, 3), (47, .iload_n 3, 1), (48, .invokevirtual 101, 3), (51, .iconst 0, 1), (52, .ireturn, 1)]
theorem mT_X4_mark_ok : ix_tok cX4_mark mT_X4_mark = true := by decide +kernel
def mD_X4_mark : ix_M := (4, yX4_mark, cX4_mark, 4, (some (.int)), 3, 0, mT_X4_mark, 442, 440, 441)
def mT_X4_marked : ix_T := [(0, .aload_n 0, 1), (1, .getfield 63, 3), (4, .ifCond .ne 12, 3), (7, .aload_n 0, 1), (8, .iload_n 1, 1), (9, .iload_n 2, 1), (10, .invokevirtual 112, 3), (13, .ifCond .ne 5, 3), (16, .iconst (-1), 1), (17, .ireturn, 1), (18, .aload_n 0, 1), (19, .getfield 46, 3), (22, .aload_n 0, 1), (23, .iload_n 1, 1), (24, .iload_n 2, 1), (25, .invokevirtual 116, 3), (28, .iaload, 1), (29, .ireturn, 1)]
theorem mT_X4_marked_ok : ix_tok cX4_marked mT_X4_marked = true := by decide +kernel
def mD_X4_marked : ix_M := (4, yX4_marked, cX4_marked, 3, (some (.int)), 2, 0, mT_X4_marked, 446, 444, 445)
def mT_X4_tick : ix_T := [(0, .iload_n 1, 1), (1, .ifCond .lt 21, 3), (4, .iload_n 1, 1), (5, .sipush 1000, 3), (8, .if_icmp .gt 14, 3), (11, .aload_n 0, 1), (12, .getfield 98, 3), (15, .iload_n 1, 1), (16, .iadd, 1), (17, .ldc 120, 2), (19, .if_icmp .le 6, 3), (22, .bipush (-2), 2), (24, .ireturn, 1), (25, .aload_n 0, 1), (26, .dup, 1), (27, .getfield 98, 3), (30, .iload_n 1, 1), (31, .iadd, 1), (32, .putfield 98, 3), (35, .aload_n 0, 1), (36, .getfield 63, 3), (39, .ifCond .eq 7, 3), (42, .iconst 0, 1), (43, .goto 7, 3), (46, .aload_n 0, 1), (47, .invokevirtual 121, 3), (50, .ireturn, 1)]
theorem mT_X4_tick_ok : ix_tok cX4_tick mT_X4_tick = true := by decide +kernel
def mD_X4_tick : ix_M := (4, yX4_tick, cX4_tick, 2, (some (.int)), 1, 0, mT_X4_tick, 450, 448, 449)
def mT_X4_fetch : ix_T := [(0, .aload_n 0, 1), (1, .getfield 18, 3), (4, .invokevirtual 109, 3), (7, .aload_n 0, 1), (8, .getfield 63, 3), (11, .ifCond .ne 15, 3), (14, .aload_n 0, 1), (15, .iload_n 1, 1), (16, .invokevirtual 125, 3), (19, .ifCond .eq 7, 3), (22, .iload_n 2, 1), (23, .ifCond .ge 5, 3), (26, .iconst (-1), 1), (27, .ireturn, 1), (28, .aload_n 0, 1), (29, .getfield 26, 3), (32, .iload_n 1, 1), (33, .aaload, 1), (34, .astore 4, 2), (36, .iload_n 3, 1), (37, .ifCond .eq 12, 3), (40, .aload 4, 2), (42, .iload_n 2, 1), (43, .invokevirtual 128, 3), (46, .goto 9, 3), (49, .aload 4, 2), (51, .iload_n 2, 1), (52, .invokevirtual 132, 3), (55, .istore 5, 2), (57, .iload 5, 2), (59, .iconst (-1), 1), (60, .if_icmp .eq 14, 3), (63, .aload 4, 2), (65, .iload 5, 2), (67, .aload_n 0, 1), (68, .getfield 18, 3), (71, .invokevirtual 135, 3), (74, .iload 5, 2), (76, .ireturn, 1)]
theorem mT_X4_fetch_ok : ix_tok cX4_fetch mT_X4_fetch = true := by decide +kernel
def mD_X4_fetch : ix_M := (4, yX4_fetch, cX4_fetch, 6, (some (.int)), 3, 0, mT_X4_fetch, 463, 461, 462)
def mT_X4_answer : ix_T := [(0, .aload_n 0, 1), (1, .getfield 18, 3), (4, .iload_n 1, 1), (5, .invokevirtual 139, 3), (8, .ireturn, 1)]
theorem mT_X4_answer_ok : ix_tok cX4_answer mT_X4_answer = true := by decide +kernel
def mD_X4_answer : ix_M := (4, yX4_answer, cX4_answer, 2, (some (.int)), 1, 0, mT_X4_answer, 488, 486, 487)
def mT_X4_sync : ix_T := [(0, .aload_n 0, 1), (1, .getfield 63, 3), (4, .ifCond .eq 5, 3), (7, .iconst (-1), 1), (8, .ireturn, 1), (9, .aload_n 0, 1), (10, .getfield 36, 3), (13, .getfield 142, 3), (16, .istore_n 1, 1), (17, .aload_n 0, 1), (18, .getfield 36, 3), (21, .invokevirtual 145, 3), (24, .iload_n 1, 1), (25, .ireturn, 1)]
theorem mT_X4_sync_ok : ix_tok cX4_sync mT_X4_sync = true := by decide +kernel
def mD_X4_sync : ix_M := (4, yX4_sync, cX4_sync, 2, (some (.int)), 0, 0, mT_X4_sync, 493, 491, 492)
def mT_X4_crash : ix_T := [(0, .aload_n 0, 1), (1, .getfield 63, 3), (4, .ifCond .eq 5, 3), (7, .iconst (-1), 1), (8, .ireturn, 1), (9, .aload_n 0, 1), (10, .getfield 36, 3), (13, .getfield 142, 3), (16, .istore_n 2, 1), (17, .iload_n 1, 1), (18, .ifCond .lt 8, 3), (21, .iload_n 1, 1), (22, .iload_n 2, 1), (23, .if_icmp .le 6, 3), (26, .bipush (-2), 2), (28, .ireturn, 1), (29, .iconst 0, 1), (30, .istore_n 3, 1), (31, .iload_n 3, 1), (32, .aload_n 0, 1), (33, .getfield 146, 3), (36, .if_icmp .gt 45, 3), (39, .aload_n 0, 1), (40, .iload_n 3, 1), (41, .invokevirtual 149, 3), (44, .astore 4, 2), (46, .aload 4, 2), (48, .aload 4, 2), (50, .getfield 56, 3), (53, .aload_n 0, 1), (54, .getfield 36, 3), (57, .iload_n 3, 1), (58, .invokevirtual 153, 3), (61, .isub, 1), (62, .aload_n 0, 1), (63, .getfield 36, 3), (66, .iload_n 3, 1), (67, .iload_n 1, 1), (68, .invokevirtual 156, 3), (71, .iadd, 1), (72, .invokevirtual 159, 3), (75, .iinc 3 1, 3), (78, .goto (-47), 3), (81, .iconst 0, 1), (82, .istore_n 3, 1), (83, .iload_n 3, 1), (84, .aload_n 0, 1), (85, .getfield 146, 3), (88, .if_icmp .ge 18, 3), (91, .aload_n 0, 1), (92, .getfield 26, 3), (95, .iload_n 3, 1), (96, .aaload, 1), (97, .invokevirtual 162, 3), (100, .iinc 3 1, 3), (103, .goto (-20), 3), (106, .aload_n 0, 1), (107, .getfield 36, 3), (110, .invokevirtual 145, 3), (113, .aload_n 0, 1), (114, .invokevirtual 165, 3), (117, .aload_n 0, 1), (118, .iconst 1, 1), (119, .putfield 63, 3), (122, .iload_n 2, 1), (123, .iload_n 1, 1), (124, .isub, 1), (125, .ireturn, 1)]
theorem mT_X4_crash_ok : ix_tok cX4_crash mT_X4_crash = true := by decide +kernel
def mD_X4_crash : ix_M := (4, yX4_crash, cX4_crash, 5, (some (.int)), 1, 0, mT_X4_crash, 497, 495, 496)
def mT_X4_open : ix_T := [(0, .aload_n 0, 1), (1, .getfield 63, 3), (4, .ifCond .ne 5, 3), (7, .iconst (-1), 1), (8, .ireturn, 1), (9, .aload_n 0, 1), (10, .iconst 0, 1), (11, .putfield 63, 3), (14, .aload_n 0, 1), (15, .aload_n 0, 1), (16, .getfield 30, 3), (19, .getfield 56, 3), (22, .bipush 16, 2), (24, .irem, 1), (25, .putfield 168, 3), (28, .aload_n 0, 1), (29, .getfield 30, 3), (32, .aload_n 0, 1), (33, .getfield 30, 3), (36, .getfield 56, 3), (39, .aload_n 0, 1), (40, .getfield 168, 3), (43, .isub, 1), (44, .invokevirtual 159, 3), (47, .iconst 0, 1), (48, .istore_n 1, 1), (49, .iload_n 1, 1), (50, .aload_n 0, 1), (51, .getfield 146, 3), (54, .if_icmp .ge 27, 3), (57, .aload_n 0, 1), (58, .dup, 1), (59, .getfield 168, 3), (62, .aload_n 0, 1), (63, .getfield 26, 3), (66, .iload_n 1, 1), (67, .aaload, 1), (68, .invokevirtual 171, 3), (71, .iadd, 1), (72, .putfield 168, 3), (75, .iinc 1 1, 3), (78, .goto (-29), 3), (81, .iconst 0, 1), (82, .istore_n 1, 1), (83, .iload_n 1, 1), (84, .aload_n 0, 1), (85, .getfield 30, 3), (88, .getfield 56, 3), (91, .if_icmp .ge 14, 3), (94, .aload_n 0, 1), (95, .iload_n 1, 1), (96, .invokevirtual 174, 3), (99, .iinc 1 16, 3), (102, .goto (-19), 3), (105, .aload_n 0, 1), (106, .invokevirtual 177, 3), (109, .ireturn, 1)]
theorem mT_X4_open_ok : ix_tok cX4_open mT_X4_open = true := by decide +kernel
def mD_X4_open : ix_M := (4, yX4_open, cX4_open, 2, (some (.int)), 0, 0, mT_X4_open, 522, 520, 521)
def mT_X4_partition : ix_T := [(0, .aload_n 0, 1), (1, .iload_n 1, 1), (2, .invokevirtual 125, 3), (5, .ifCond .ne 5, 3), (8, .iconst (-1), 1), (9, .ireturn, 1), (10, .aload_n 0, 1), (11, .getfield 26, 3), (14, .iload_n 1, 1), (15, .aaload, 1), (16, .astore_n 3, 1), (17, .iload_n 2, 1), (18, .tableswitch 109 0 5 #[38, 43, 59, 67, 76, 92], 38), (56, .aload_n 3, 1), (57, .getfield 180, 3), (60, .ireturn, 1), (61, .aload_n 0, 1), (62, .getfield 63, 3), (65, .ifCond .eq 7, 3), (68, .iconst (-1), 1), (69, .goto 7, 3), (72, .aload_n 3, 1), (73, .invokevirtual 183, 3), (76, .ireturn, 1), (77, .aload_n 3, 1), (78, .getfield 186, 3), (81, .getfield 56, 3), (84, .ireturn, 1), (85, .aload_n 0, 1), (86, .getfield 36, 3), (89, .iload_n 1, 1), (90, .invokevirtual 153, 3), (93, .ireturn, 1), (94, .aload_n 0, 1), (95, .getfield 63, 3), (98, .ifCond .eq 7, 3), (101, .iconst (-1), 1), (102, .goto 7, 3), (105, .aload_n 3, 1), (106, .invokevirtual 189, 3), (109, .ireturn, 1), (110, .aload_n 0, 1), (111, .getfield 63, 3), (114, .ifCond .eq 7, 3), (117, .iconst (-1), 1), (118, .goto 8, 3), (121, .aload_n 0, 1), (122, .iload_n 1, 1), (123, .invokevirtual 192, 3), (126, .ireturn, 1), (127, .iconst (-1), 1), (128, .ireturn, 1)]
theorem mT_X4_partition_ok : ix_tok cX4_partition mT_X4_partition = true := by decide +kernel
def mD_X4_partition : ix_M := (4, yX4_partition, cX4_partition, 4, (some (.int)), 2, 0, mT_X4_partition, 535, 533, 534)
def mT_X4_entry : ix_T := [(0, .aload_n 0, 1), (1, .iload_n 1, 1), (2, .invokevirtual 125, 3), (5, .ifCond .eq 16, 3), (8, .aload_n 0, 1), (9, .getfield 26, 3), (12, .iload_n 1, 1), (13, .aaload, 1), (14, .iload_n 2, 1), (15, .invokevirtual 195, 3), (18, .ifCond .ne 5, 3), (21, .iconst (-1), 1), (22, .ireturn, 1), (23, .aload_n 0, 1), (24, .getfield 26, 3), (27, .iload_n 1, 1), (28, .aaload, 1), (29, .astore 4, 2), (31, .iload_n 3, 1), (32, .tableswitch 85 0 4 #[36, 46, 56, 66, 76], 36), (68, .aload 4, 2), (70, .iload_n 2, 1), (71, .bipush 6, 2), (73, .iconst 1, 1), (74, .invokevirtual 198, 3), (77, .ireturn, 1), (78, .aload 4, 2), (80, .iload_n 2, 1), (81, .bipush 7, 2), (83, .iconst 1, 1), (84, .invokevirtual 198, 3), (87, .ireturn, 1), (88, .aload 4, 2), (90, .iload_n 2, 1), (91, .bipush 8, 2), (93, .iconst 2, 1), (94, .invokevirtual 198, 3), (97, .ireturn, 1), (98, .aload 4, 2), (100, .iload_n 2, 1), (101, .bipush 10, 2), (103, .iconst 4, 1), (104, .invokevirtual 198, 3), (107, .ireturn, 1), (108, .aload 4, 2), (110, .iload_n 2, 1), (111, .iconst 4, 1), (112, .iconst 2, 1), (113, .invokevirtual 198, 3), (116, .ireturn, 1), (117, .iconst (-1), 1), (118, .ireturn, 1)]
theorem mT_X4_entry_ok : ix_tok cX4_entry mT_X4_entry = true := by decide +kernel
def mD_X4_entry : ix_M := (4, yX4_entry, cX4_entry, 5, (some (.int)), 3, 0, mT_X4_entry, 544, 542, 543)
def mT_X4_producer : ix_T := [(0, .aload_n 0, 1), (1, .getfield 63, 3), (4, .ifCond .ne 11, 3), (7, .aload_n 0, 1), (8, .iload_n 1, 1), (9, .invokevirtual 202, 3), (12, .ifCond .ne 5, 3), (15, .iconst (-1), 1), (16, .ireturn, 1), (17, .aload_n 0, 1), (18, .getfield 42, 3), (21, .iload_n 1, 1), (22, .aaload, 1), (23, .astore_n 3, 1), (24, .iload_n 2, 1), (25, .tableswitch 60 0 4 #[35, 40, 45, 50, 55], 35), (60, .aload_n 3, 1), (61, .getfield 88, 3), (64, .ireturn, 1), (65, .aload_n 3, 1), (66, .getfield 205, 3), (69, .ireturn, 1), (70, .aload_n 3, 1), (71, .getfield 208, 3), (74, .ireturn, 1), (75, .aload_n 3, 1), (76, .getfield 211, 3), (79, .ireturn, 1), (80, .aload_n 3, 1), (81, .getfield 214, 3), (84, .ireturn, 1), (85, .iconst (-1), 1), (86, .ireturn, 1)]
theorem mT_X4_producer_ok : ix_tok cX4_producer mT_X4_producer = true := by decide +kernel
def mD_X4_producer : ix_M := (4, yX4_producer, cX4_producer, 4, (some (.int)), 2, 0, mT_X4_producer, 553, 551, 552)
def mT_X4_next : ix_T := [(0, .aload_n 0, 1), (1, .getfield 63, 3), (4, .ifCond .ne 19, 3), (7, .aload_n 0, 1), (8, .iload_n 1, 1), (9, .invokevirtual 202, 3), (12, .ifCond .eq 11, 3), (15, .aload_n 0, 1), (16, .iload_n 2, 1), (17, .invokevirtual 125, 3), (20, .ifCond .ne 5, 3), (23, .iconst (-1), 1), (24, .ireturn, 1), (25, .aload_n 0, 1), (26, .getfield 26, 3), (29, .iload_n 2, 1), (30, .aaload, 1), (31, .iload_n 1, 1), (32, .aload_n 0, 1), (33, .getfield 42, 3), (36, .iload_n 1, 1), (37, .aaload, 1), (38, .getfield 88, 3), (41, .invokevirtual 217, 3), (44, .ireturn, 1)]
theorem mT_X4_next_ok : ix_tok cX4_next mT_X4_next = true := by decide +kernel
def mD_X4_next : ix_M := (4, yX4_next, cX4_next, 3, (some (.int)), 2, 0, mT_X4_next, 557, 555, 556)
def mT_X4_byteOf : ix_T := [(0, .iload_n 1, 1), (1, .ifCond .lt 11, 3), (4, .iload_n 1, 1), (5, .aload_n 0, 1), (6, .getfield 146, 3), (9, .if_icmp .le 5, 3), (12, .iconst (-1), 1), (13, .ireturn, 1), (14, .aload_n 0, 1), (15, .iload_n 1, 1), (16, .invokevirtual 149, 3), (19, .iload_n 2, 1), (20, .invokevirtual 139, 3), (23, .ireturn, 1)]
theorem mT_X4_byteOf_ok : ix_tok cX4_byteOf mT_X4_byteOf = true := by decide +kernel
def mD_X4_byteOf : ix_M := (4, yX4_byteOf, cX4_byteOf, 3, (some (.int)), 2, 0, mT_X4_byteOf, 561, 559, 560)
def mT_X4_count : ix_T := [(0, .iload_n 1, 1), (1, .tableswitch 173 0 11 #[63, 68, 73, 78, 83, 91, 99, 107, 120, 125, 141, 157], 63), (64, .aload_n 0, 1), (65, .getfield 146, 3), (68, .ireturn, 1), (69, .aload_n 0, 1), (70, .getfield 220, 3), (73, .ireturn, 1), (74, .aload_n 0, 1), (75, .getfield 223, 3), (78, .ireturn, 1), (79, .aload_n 0, 1), (80, .getfield 98, 3), (83, .ireturn, 1), (84, .aload_n 0, 1), (85, .getfield 36, 3), (88, .getfield 142, 3), (91, .ireturn, 1), (92, .aload_n 0, 1), (93, .getfield 30, 3), (96, .getfield 56, 3), (99, .ireturn, 1), (100, .aload_n 0, 1), (101, .getfield 14, 3), (104, .getfield 56, 3), (107, .ireturn, 1), (108, .aload_n 0, 1), (109, .getfield 63, 3), (112, .ifCond .eq 7, 3), (115, .iconst 1, 1), (116, .goto 4, 3), (119, .iconst 0, 1), (120, .ireturn, 1), (121, .aload_n 0, 1), (122, .getfield 168, 3), (125, .ireturn, 1), (126, .aload_n 0, 1), (127, .getfield 63, 3), (130, .ifCond .eq 7, 3), (133, .iconst (-1), 1), (134, .goto 7, 3), (137, .aload_n 0, 1), (138, .invokevirtual 226, 3), (141, .ireturn, 1), (142, .aload_n 0, 1), (143, .getfield 63, 3), (146, .ifCond .eq 7, 3), (149, .iconst (-1), 1), (150, .goto 7, 3), (153, .aload_n 0, 1), (154, .invokevirtual 229, 3), (157, .ireturn, 1), (158, .aload_n 0, 1), (159, .getfield 63, 3), (162, .ifCond .eq 7, 3), (165, .iconst (-1), 1), (166, .goto 7, 3), (169, .aload_n 0, 1), (170, .getfield 95, 3), (173, .ireturn, 1), (174, .iconst (-1), 1), (175, .ireturn, 1)]
theorem mT_X4_count_ok : ix_tok cX4_count mT_X4_count = true := by decide +kernel
def mD_X4_count : ix_M := (4, yX4_count, cX4_count, 2, (some (.int)), 1, 0, mT_X4_count, 565, 563, 564)
def mT_X4_build : ix_T := [(0, .aload_n 0, 1), (1, .iload_n 1, 1), (2, .putfield 146, 3), (5, .aload_n 0, 1), (6, .iload_n 2, 1), (7, .putfield 220, 3), (10, .aload_n 0, 1), (11, .iload_n 3, 1), (12, .putfield 223, 3), (15, .aload_n 0, 1), (16, .iconst 0, 1), (17, .putfield 98, 3), (20, .aload_n 0, 1), (21, .iconst 0, 1), (22, .putfield 63, 3), (25, .aload_n 0, 1), (26, .iconst 0, 1), (27, .putfield 168, 3), (30, .iconst 0, 1), (31, .istore 4, 2), (33, .iload 4, 2), (35, .bipush 8, 2), (37, .if_icmp .ge 19, 3), (40, .aload_n 0, 1), (41, .getfield 26, 3), (44, .iload 4, 2), (46, .aaload, 1), (47, .invokevirtual 232, 3), (50, .iinc 4 1, 3), (53, .goto (-20), 3), (56, .aload_n 0, 1), (57, .getfield 30, 3), (60, .invokevirtual 109, 3), (63, .aload_n 0, 1), (64, .getfield 36, 3), (67, .invokevirtual 145, 3), (70, .aload_n 0, 1), (71, .getfield 18, 3), (74, .invokevirtual 109, 3), (77, .aload_n 0, 1), (78, .invokevirtual 165, 3), (81, .return_, 1)]
theorem mT_X4_build_ok : ix_tok cX4_build mT_X4_build = true := by decide +kernel
def mD_X4_build : ix_M := (4, yX4_build, cX4_build, 5, none, 3, 0, mT_X4_build, 181, 180, 0)
def mT_X4_forget : ix_T := [(0, .iconst 0, 1), (1, .istore_n 1, 1), (2, .iload_n 1, 1), (3, .bipush 32, 2), (5, .if_icmp .ge 18, 3), (8, .aload_n 0, 1), (9, .getfield 42, 3), (12, .iload_n 1, 1), (13, .aaload, 1), (14, .invokevirtual 233, 3), (17, .iinc 1 1, 3), (20, .goto (-18), 3), (23, .aload_n 0, 1), (24, .getfield 46, 3), (27, .iconst (-1), 1), (28, .invokestatic 234, 3), (31, .aload_n 0, 1), (32, .iconst 0, 1), (33, .putfield 95, 3), (36, .return_, 1)]
theorem mT_X4_forget_ok : ix_tok cX4_forget mT_X4_forget = true := by decide +kernel
def mD_X4_forget : ix_M := (4, yX4_forget, cX4_forget, 2, none, 0, 0, mT_X4_forget, 201, 200, 1)
def mT_X4_isKey : ix_T := [(0, .iload_n 1, 1), (1, .ifCond .lt 13, 3), (4, .iload_n 1, 1), (5, .bipush 32, 2), (7, .if_icmp .ge 7, 3), (10, .iconst 1, 1), (11, .goto 4, 3), (14, .iconst 0, 1), (15, .ireturn, 1)]
theorem mT_X4_isKey_ok : ix_tok cX4_isKey mT_X4_isKey = true := by decide +kernel
def mD_X4_isKey : ix_M := (4, yX4_isKey, cX4_isKey, 2, (some (.boolean)), 1, 0, mT_X4_isKey, 276, 275, 2)
def mT_X4_isRegistered : ix_T := [(0, .aload_n 0, 1), (1, .iload_n 1, 1), (2, .invokevirtual 67, 3), (5, .ifCond .eq 20, 3), (8, .aload_n 0, 1), (9, .getfield 42, 3), (12, .iload_n 1, 1), (13, .aaload, 1), (14, .getfield 88, 3), (17, .iconst (-1), 1), (18, .if_icmp .eq 7, 3), (21, .iconst 1, 1), (22, .goto 4, 3), (25, .iconst 0, 1), (26, .ireturn, 1)]
theorem mT_X4_isRegistered_ok : ix_tok cX4_isRegistered mT_X4_isRegistered = true := by decide +kernel
def mD_X4_isRegistered : ix_M := (4, yX4_isRegistered, cX4_isRegistered, 2, (some (.boolean)), 1, 0, mT_X4_isRegistered, 390, 389, 14)
def mT_X4_isPartition : ix_T := [(0, .iload_n 1, 1), (1, .ifCond .lt 15, 3), (4, .iload_n 1, 1), (5, .aload_n 0, 1), (6, .getfield 146, 3), (9, .if_icmp .ge 7, 3), (12, .iconst 1, 1), (13, .goto 4, 3), (16, .iconst 0, 1), (17, .ireturn, 1)]
theorem mT_X4_isPartition_ok : ix_tok cX4_isPartition mT_X4_isPartition = true := by decide +kernel
def mD_X4_isPartition : ix_M := (4, yX4_isPartition, cX4_isPartition, 2, (some (.boolean)), 1, 0, mT_X4_isPartition, 402, 401, 16)
def mT_X4_isPlace : ix_T := [(0, .iload_n 1, 1), (1, .ifCond .lt 21, 3), (4, .iload_n 1, 1), (5, .bipush 8, 2), (7, .if_icmp .ge 15, 3), (10, .aload_n 0, 1), (11, .iload_n 2, 1), (12, .invokevirtual 125, 3), (15, .ifCond .eq 7, 3), (18, .iconst 1, 1), (19, .goto 4, 3), (22, .iconst 0, 1), (23, .ireturn, 1)]
theorem mT_X4_isPlace_ok : ix_tok cX4_isPlace mT_X4_isPlace = true := by decide +kernel
def mD_X4_isPlace : ix_M := (4, yX4_isPlace, cX4_isPlace, 3, (some (.boolean)), 2, 0, mT_X4_isPlace, 430, 429, 19)
def mT_X4_placeOf : ix_T := [(0, .bipush 8, 2), (2, .iload_n 1, 1), (3, .imul, 1), (4, .iload_n 2, 1), (5, .iadd, 1), (6, .ireturn, 1)]
theorem mT_X4_placeOf_ok : ix_tok cX4_placeOf mT_X4_placeOf = true := by decide +kernel
def mD_X4_placeOf : ix_M := (4, yX4_placeOf, cX4_placeOf, 3, (some (.int)), 2, 0, mT_X4_placeOf, 434, 433, 20)
def mT_X4_rowOf : ix_T := [(0, .aload_n 0, 1), (1, .iload_n 1, 1), (2, .invokevirtual 125, 3), (5, .ifCond .eq 15, 3), (8, .aload_n 0, 1), (9, .getfield 26, 3), (12, .iload_n 1, 1), (13, .aaload, 1), (14, .getfield 186, 3), (17, .goto 7, 3), (20, .aload_n 0, 1), (21, .getfield 30, 3), (24, .areturn, 1)]
theorem mT_X4_rowOf_ok : ix_tok cX4_rowOf mT_X4_rowOf = true := by decide +kernel
def mD_X4_rowOf : ix_M := (4, yX4_rowOf, cX4_rowOf, 2, (some (.object "OnceLedger$ByteRow")), 1, 0, mT_X4_rowOf, 501, 500, 23)
def mT_X4_refusalOf : ix_T := [(0, .aload_n 0, 1), (1, .getfield 63, 3), (4, .ifCond .eq 5, 3), (7, .iconst (-1), 1), (8, .ireturn, 1), (9, .iload_n 3, 1), (10, .ifCond .eq 11, 3), (13, .aload_n 0, 1), (14, .iload_n 1, 1), (15, .invokevirtual 202, 3), (18, .ifCond .ne 6, 3), (21, .bipush (-2), 2), (23, .ireturn, 1), (24, .aload_n 0, 1), (25, .getfield 42, 3), (28, .iload_n 1, 1), (29, .aaload, 1), (30, .getfield 88, 3), (33, .iload_n 2, 1), (34, .if_icmp .ne 7, 3), (37, .iconst 0, 1), (38, .goto 5, 3), (41, .bipush (-3), 2), (43, .ireturn, 1)]
theorem mT_X4_refusalOf_ok : ix_tok cX4_refusalOf mT_X4_refusalOf = true := by decide +kernel
def mD_X4_refusalOf : ix_M := (4, yX4_refusalOf, cX4_refusalOf, 4, (some (.int)), 3, 0, mT_X4_refusalOf, 386, 385, 13)
def mT_X4_takeSent : ix_T := [(0, .aload_n 0, 1), (1, .iload_n 1, 1), (2, .iload_n 2, 1), (3, .aload_n 0, 1), (4, .iload_n 3, 1), (5, .invokevirtual 125, 3), (8, .invokevirtual 91, 3), (11, .istore 6, 2), (13, .iload 6, 2), (15, .ifCond .eq 6, 3), (18, .iload 6, 2), (20, .ireturn, 1), (21, .aload_n 0, 1), (22, .getfield 42, 3), (25, .iload_n 1, 1), (26, .aaload, 1), (27, .astore 7, 2), (29, .aload 7, 2), (31, .invokevirtual 71, 3), (34, .iload 5, 2), (36, .if_icmp .eq 6, 3), (39, .bipush (-5), 2), (41, .ireturn, 1), (42, .aload_n 0, 1), (43, .getfield 26, 3), (46, .iload_n 3, 1), (47, .aaload, 1), (48, .iload_n 1, 1), (49, .iload_n 2, 1), (50, .iload 4, 2), (52, .invokevirtual 240, 3), (55, .istore 8, 2), (57, .iload 8, 2), (59, .iconst (-1), 1), (60, .if_icmp .eq 6, 3), (63, .iload 8, 2), (65, .ireturn, 1), (66, .iload 4, 2), (68, .aload_n 0, 1), (69, .getfield 26, 3), (72, .iload_n 3, 1), (73, .aaload, 1), (74, .iload_n 1, 1), (75, .iload_n 2, 1), (76, .invokevirtual 217, 3), (79, .if_icmp .eq 6, 3), (82, .bipush (-6), 2), (84, .ireturn, 1), (85, .iload 5, 2), (87, .ifCond .eq 16, 3), (90, .aload 7, 2), (92, .iload_n 3, 1), (93, .invokevirtual 243, 3), (96, .ifCond .ne 7, 3), (99, .iconst 1, 1), (100, .goto 4, 3), (103, .iconst 0, 1), (104, .istore 9, 2), (106, .aload_n 0, 1), (107, .iload_n 3, 1), (108, .iload 9, 2), (110, .invokevirtual 246, 3), (113, .ifCond .eq 16, 3), (116, .iload 9, 2), (118, .ifCond .eq 14, 3), (121, .aload_n 0, 1), (122, .iconst 0, 1), (123, .invokevirtual 82, 3), (126, .ifCond .ne 6, 3), (129, .bipush (-8), 2), (131, .ireturn, 1), (132, .iload 9, 2), (134, .ifCond .eq 12, 3), (137, .aload_n 0, 1), (138, .iconst 2, 1), (139, .iload_n 1, 1), (140, .iload_n 2, 1), (141, .iload_n 3, 1), (142, .iconst 0, 1), (143, .invokevirtual 101, 3), (146, .aload_n 0, 1), (147, .iload_n 3, 1), (148, .iload 5, 2), (150, .ifCond .eq 7, 3), (153, .iconst 1, 1), (154, .goto 4, 3), (157, .iconst 0, 1), (158, .iload_n 1, 1), (159, .iload_n 2, 1), (160, .iload 4, 2), (162, .aload_n 0, 1), (163, .getfield 14, 3), (166, .invokevirtual 250, 3), (169, .ireturn, 1)]
theorem mT_X4_takeSent_ok : ix_tok cX4_takeSent mT_X4_takeSent = true := by decide +kernel
def mD_X4_takeSent : ix_M := (4, yX4_takeSent, cX4_takeSent, 10, (some (.int)), 5, 0, mT_X4_takeSent, 398, 397, 15)
def mT_X4_logHasRoom : ix_T := [(0, .aload_n 0, 1), (1, .iload_n 1, 1), (2, .invokevirtual 192, 3), (5, .iload_n 2, 1), (6, .ifCond .eq 7, 3), (9, .iconst 1, 1), (10, .goto 4, 3), (13, .iconst 0, 1), (14, .iadd, 1), (15, .istore_n 3, 1), (16, .aload_n 0, 1), (17, .getfield 26, 3), (20, .iload_n 1, 1), (21, .aaload, 1), (22, .getfield 186, 3), (25, .getfield 56, 3), (28, .bipush 14, 2), (30, .iadd, 1), (31, .aload_n 0, 1), (32, .getfield 14, 3), (35, .getfield 56, 3), (38, .iadd, 1), (39, .bipush 14, 2), (41, .iload_n 3, 1), (42, .imul, 1), (43, .iadd, 1), (44, .aload_n 0, 1), (45, .getfield 220, 3), (48, .if_icmp .gt 7, 3), (51, .iconst 1, 1), (52, .goto 4, 3), (55, .iconst 0, 1), (56, .ireturn, 1)]
theorem mT_X4_logHasRoom_ok : ix_tok cX4_logHasRoom mT_X4_logHasRoom = true := by decide +kernel
def mD_X4_logHasRoom : ix_M := (4, yX4_logHasRoom, cX4_logHasRoom, 4, (some (.boolean)), 2, 0, mT_X4_logHasRoom, 418, 417, 17)
def mT_X4_bookHasRoom : ix_T := [(0, .aload_n 0, 1), (1, .invokevirtual 229, 3), (4, .iload_n 1, 1), (5, .iadd, 1), (6, .istore_n 2, 1), (7, .aload_n 0, 1), (8, .getfield 30, 3), (11, .getfield 56, 3), (14, .bipush 16, 2), (16, .iadd, 1), (17, .bipush 48, 2), (19, .iload_n 2, 1), (20, .imul, 1), (21, .iadd, 1), (22, .sipush 16000, 3), (25, .if_icmp .gt 7, 3), (28, .iconst 1, 1), (29, .goto 4, 3), (32, .iconst 0, 1), (33, .ireturn, 1)]
theorem mT_X4_bookHasRoom_ok : ix_tok cX4_bookHasRoom mT_X4_bookHasRoom = true := by decide +kernel
def mD_X4_bookHasRoom : ix_M := (4, yX4_bookHasRoom, cX4_bookHasRoom, 3, (some (.boolean)), 1, 0, mT_X4_bookHasRoom, 370, 369, 10)
def mT_X4_registeredProducers : ix_T := [(0, .iconst 0, 1), (1, .istore_n 1, 1), (2, .iconst 0, 1), (3, .istore_n 2, 1), (4, .iload_n 2, 1), (5, .bipush 32, 2), (7, .if_icmp .ge 25, 3), (10, .iload_n 1, 1), (11, .aload_n 0, 1), (12, .iload_n 2, 1), (13, .invokevirtual 202, 3), (16, .ifCond .eq 7, 3), (19, .iconst 1, 1), (20, .goto 4, 3), (23, .iconst 0, 1), (24, .iadd, 1), (25, .istore_n 1, 1), (26, .iinc 2 1, 3), (29, .goto (-25), 3), (32, .iload_n 1, 1), (33, .ireturn, 1)]
theorem mT_X4_registeredProducers_ok : ix_tok cX4_registeredProducers mT_X4_registeredProducers = true := by decide +kernel
def mD_X4_registeredProducers : ix_M := (4, yX4_registeredProducers, cX4_registeredProducers, 3, (some (.int)), 0, 0, mT_X4_registeredProducers, 569, 568, 25)
def mT_X4_openTransactions : ix_T := [(0, .iconst 0, 1), (1, .istore_n 1, 1), (2, .iconst 0, 1), (3, .istore_n 2, 1), (4, .iload_n 2, 1), (5, .bipush 32, 2), (7, .if_icmp .ge 29, 3), (10, .iload_n 1, 1), (11, .aload_n 0, 1), (12, .getfield 42, 3), (15, .iload_n 2, 1), (16, .aaload, 1), (17, .invokevirtual 71, 3), (20, .ifCond .eq 7, 3), (23, .iconst 1, 1), (24, .goto 4, 3), (27, .iconst 0, 1), (28, .iadd, 1), (29, .istore_n 1, 1), (30, .iinc 2 1, 3), (33, .goto (-29), 3), (36, .iload_n 1, 1), (37, .ireturn, 1)]
theorem mT_X4_openTransactions_ok : ix_tok cX4_openTransactions mT_X4_openTransactions = true := by decide +kernel
def mD_X4_openTransactions : ix_M := (4, yX4_openTransactions, cX4_openTransactions, 3, (some (.int)), 0, 0, mT_X4_openTransactions, 374, 373, 11)
def mT_X4_openThatAdded : ix_T := [(0, .iconst 0, 1), (1, .istore_n 2, 1), (2, .iconst 0, 1), (3, .istore_n 3, 1), (4, .iload_n 3, 1), (5, .bipush 32, 2), (7, .if_icmp .ge 30, 3), (10, .iload_n 2, 1), (11, .aload_n 0, 1), (12, .getfield 42, 3), (15, .iload_n 3, 1), (16, .aaload, 1), (17, .iload_n 1, 1), (18, .invokevirtual 243, 3), (21, .ifCond .eq 7, 3), (24, .iconst 1, 1), (25, .goto 4, 3), (28, .iconst 0, 1), (29, .iadd, 1), (30, .istore_n 2, 1), (31, .iinc 3 1, 3), (34, .goto (-30), 3), (37, .iload_n 2, 1), (38, .ireturn, 1)]
theorem mT_X4_openThatAdded_ok : ix_tok cX4_openThatAdded mT_X4_openThatAdded = true := by decide +kernel
def mD_X4_openThatAdded : ix_M := (4, yX4_openThatAdded, cX4_openThatAdded, 4, (some (.int)), 1, 0, mT_X4_openThatAdded, 422, 421, 18)
def mT_X4_writeToLog : ix_T := [(0, .aload_n 0, 1), (1, .getfield 26, 3), (4, .iload_n 1, 1), (5, .aaload, 1), (6, .astore 7, 2), (8, .aload 7, 2), (10, .getfield 186, 3), (13, .getfield 56, 3), (16, .istore 8, 2), (18, .aload 7, 2), (20, .iload_n 2, 1), (21, .iload_n 3, 1), (22, .iload 4, 2), (24, .iload 5, 2), (26, .aload 6, 2), (28, .invokevirtual 254, 3), (31, .aload_n 0, 1), (32, .getfield 36, 3), (35, .iload_n 1, 1), (36, .aload 7, 2), (38, .getfield 186, 3), (41, .getfield 56, 3), (44, .iload 8, 2), (46, .isub, 1), (47, .invokevirtual 258, 3), (50, .aload 7, 2), (52, .getfield 180, 3), (55, .iconst 1, 1), (56, .isub, 1), (57, .ireturn, 1)]
theorem mT_X4_writeToLog_ok : ix_tok cX4_writeToLog mT_X4_writeToLog = true := by decide +kernel
def mD_X4_writeToLog : ix_M := (4, yX4_writeToLog, cX4_writeToLog, 9, (some (.int)), 6, 0, mT_X4_writeToLog, 355, 354, 9)
def mT_X4_writeToBook : ix_T := [(0, .aload_n 0, 1), (1, .getfield 30, 3), (4, .getfield 56, 3), (7, .istore 6, 2), (9, .aload_n 0, 1), (10, .getfield 30, 3), (13, .iconst 0, 1), (14, .iconst 4, 1), (15, .invokevirtual 262, 3), (18, .aload_n 0, 1), (19, .getfield 30, 3), (22, .iload_n 1, 1), (23, .iconst 1, 1), (24, .invokevirtual 262, 3), (27, .aload_n 0, 1), (28, .getfield 30, 3), (31, .iload_n 2, 1), (32, .iconst 1, 1), (33, .invokevirtual 262, 3), (36, .aload_n 0, 1), (37, .getfield 30, 3), (40, .iload_n 3, 1), (41, .iconst 2, 1), (42, .invokevirtual 262, 3), (45, .aload_n 0, 1), (46, .getfield 30, 3), (49, .iload 4, 2), (51, .iconst 4, 1), (52, .invokevirtual 262, 3), (55, .aload_n 0, 1), (56, .getfield 30, 3), (59, .iload 5, 2), (61, .iconst 4, 1), (62, .invokevirtual 262, 3), (65, .aload_n 0, 1), (66, .getfield 30, 3), (69, .iload 6, 2), (71, .invokevirtual 265, 3), (74, .aload_n 0, 1), (75, .getfield 36, 3), (78, .aload_n 0, 1), (79, .getfield 146, 3), (82, .aload_n 0, 1), (83, .getfield 30, 3), (86, .getfield 56, 3), (89, .iload 6, 2), (91, .isub, 1), (92, .invokevirtual 258, 3), (95, .aload_n 0, 1), (96, .iload 6, 2), (98, .invokevirtual 174, 3), (101, .return_, 1)]
theorem mT_X4_writeToBook_ok : ix_tok cX4_writeToBook mT_X4_writeToBook = true := by decide +kernel
def mD_X4_writeToBook : ix_M := (4, yX4_writeToBook, cX4_writeToBook, 7, none, 5, 0, mT_X4_writeToBook, 288, 287, 4)
def mT_X4_learn : ix_T := [(0, .aload_n 0, 1), (1, .getfield 30, 3), (4, .iload_n 1, 1), (5, .iconst 5, 1), (6, .iadd, 1), (7, .iconst 1, 1), (8, .invokevirtual 268, 3), (11, .istore_n 2, 1), (12, .aload_n 0, 1), (13, .iload_n 2, 1), (14, .invokevirtual 67, 3), (17, .ifCond .ne 4, 3), (20, .return_, 1), (21, .aload_n 0, 1), (22, .getfield 42, 3), (25, .iload_n 2, 1), (26, .aaload, 1), (27, .astore_n 3, 1), (28, .aload_n 0, 1), (29, .getfield 30, 3), (32, .iload_n 1, 1), (33, .bipush 8, 2), (35, .iadd, 1), (36, .iconst 4, 1), (37, .invokevirtual 268, 3), (40, .istore 4, 2), (42, .aload_n 0, 1), (43, .getfield 30, 3), (46, .iload_n 1, 1), (47, .bipush 12, 2), (49, .iadd, 1), (50, .iconst 4, 1), (51, .invokevirtual 268, 3), (54, .istore 5, 2), (56, .aload_n 0, 1), (57, .getfield 30, 3), (60, .iload_n 1, 1), (61, .iconst 4, 1), (62, .iadd, 1), (63, .iconst 1, 1), (64, .invokevirtual 268, 3), (67, .tableswitch 154 0 6 #[41, 60, 80, 96, 109, 118, 143], 41), (108, .aload_n 3, 1), (109, .aload_n 0, 1), (110, .getfield 30, 3), (113, .iload_n 1, 1), (114, .bipush 6, 2), (116, .iadd, 1), (117, .iconst 2, 1), (118, .invokevirtual 268, 3), (121, .putfield 88, 3), (124, .goto 97, 3), (127, .aload_n 3, 1), (128, .iload 5, 2), (130, .iload 4, 2), (132, .iload_n 1, 1), (133, .invokevirtual 271, 3), (136, .aload_n 0, 1), (137, .iload 5, 2), (139, .iconst 1, 1), (140, .iadd, 1), (141, .putfield 95, 3), (144, .goto 77, 3), (147, .aload_n 3, 1), (148, .dup, 1), (149, .getfield 211, 3), (152, .iconst 1, 1), (153, .iload 4, 2), (155, .ishl, 1), (156, .ior, 1), (157, .putfield 211, 3), (160, .goto 61, 3), (163, .aload_n 3, 1), (164, .dup, 1), (165, .getfield 214, 3), (168, .iconst 1, 1), (169, .iadd, 1), (170, .putfield 214, 3), (173, .goto 48, 3), (176, .aload_n 3, 1), (177, .iload 4, 2), (179, .putfield 274, 3), (182, .goto 39, 3), (185, .aload_n 3, 1), (186, .getfield 274, 3), (189, .iconst 1, 1), (190, .if_icmp .ne 13, 3), (193, .aload_n 0, 1), (194, .iload_n 2, 1), (195, .aload_n 3, 1), (196, .getfield 277, 3), (199, .iload_n 1, 1), (200, .invokevirtual 280, 3), (203, .aload_n 3, 1), (204, .invokevirtual 283, 3), (207, .goto 14, 3), (210, .aload_n 0, 1), (211, .iload 4, 2), (213, .iload 5, 2), (215, .invokevirtual 286, 3), (218, .goto 3, 3), (221, .return_, 1)]
theorem mT_X4_learn_ok : ix_tok cX4_learn mT_X4_learn = true := by decide +kernel
def mD_X4_learn : ix_M := (4, yX4_learn, cX4_learn, 6, none, 1, 0, mT_X4_learn, 305, 304, 5)
def mT_X4_markLaters : ix_T := [(0, .iload_n 2, 1), (1, .istore 4, 2), (3, .iload 4, 2), (5, .iload_n 3, 1), (6, .if_icmp .ge 71, 3), (9, .aload_n 0, 1), (10, .getfield 30, 3), (13, .iload 4, 2), (15, .iconst 4, 1), (16, .iadd, 1), (17, .iconst 1, 1), (18, .invokevirtual 268, 3), (21, .iconst 3, 1), (22, .if_icmp .ne 49, 3), (25, .aload_n 0, 1), (26, .getfield 30, 3), (29, .iload 4, 2), (31, .iconst 5, 1), (32, .iadd, 1), (33, .iconst 1, 1), (34, .invokevirtual 268, 3), (37, .iload_n 1, 1), (38, .if_icmp .ne 33, 3), (41, .aload_n 0, 1), (42, .aload_n 0, 1), (43, .getfield 30, 3), (46, .iload 4, 2), (48, .bipush 8, 2), (50, .iadd, 1), (51, .iconst 4, 1), (52, .invokevirtual 268, 3), (55, .aload_n 0, 1), (56, .getfield 30, 3), (59, .iload 4, 2), (61, .bipush 12, 2), (63, .iadd, 1), (64, .iconst 4, 1), (65, .invokevirtual 268, 3), (68, .invokevirtual 286, 3), (71, .iinc 4 16, 3), (74, .goto (-71), 3), (77, .return_, 1)]
theorem mT_X4_markLaters_ok : ix_tok cX4_markLaters mT_X4_markLaters = true := by decide +kernel
def mD_X4_markLaters : ix_M := (4, yX4_markLaters, cX4_markLaters, 5, none, 3, 0, mT_X4_markLaters, 317, 316, 6)
def mT_X4_setMark : ix_T := [(0, .iload_n 1, 1), (1, .ifCond .lt 19, 3), (4, .iload_n 1, 1), (5, .aload_n 0, 1), (6, .getfield 46, 3), (9, .arraylength, 1), (10, .if_icmp .ge 10, 3), (13, .aload_n 0, 1), (14, .getfield 46, 3), (17, .iload_n 1, 1), (18, .iload_n 2, 1), (19, .iastore, 1), (20, .return_, 1)]
theorem mT_X4_setMark_ok : ix_tok cX4_setMark mT_X4_setMark = true := by decide +kernel
def mD_X4_setMark : ix_M := (4, yX4_setMark, cX4_setMark, 3, none, 2, 0, mT_X4_setMark, 321, 320, 7)
def mT_X4_raiseEpoch : ix_T := [(0, .aload_n 0, 1), (1, .iconst 0, 1), (2, .iload_n 1, 1), (3, .aload_n 0, 1), (4, .getfield 42, 3), (7, .iload_n 1, 1), (8, .aaload, 1), (9, .getfield 88, 3), (12, .iconst 1, 1), (13, .iadd, 1), (14, .iconst 0, 1), (15, .iconst 0, 1), (16, .invokevirtual 101, 3), (19, .return_, 1)]
theorem mT_X4_raiseEpoch_ok : ix_tok cX4_raiseEpoch mT_X4_raiseEpoch = true := by decide +kernel
def mD_X4_raiseEpoch : ix_M := (4, yX4_raiseEpoch, cX4_raiseEpoch, 2, none, 1, 0, mT_X4_raiseEpoch, 378, 377, 12)
def mT_X4_decide : ix_T := [(0, .aload_n 0, 1), (1, .getfield 42, 3), (4, .iload_n 1, 1), (5, .aaload, 1), (6, .astore_n 3, 1), (7, .aload_n 0, 1), (8, .iconst 4, 1), (9, .iload_n 1, 1), (10, .aload_n 3, 1), (11, .getfield 88, 3), (14, .iload_n 2, 1), (15, .ifCond .eq 7, 3), (18, .iconst 1, 1), (19, .goto 4, 3), (22, .iconst 0, 1), (23, .aload_n 3, 1), (24, .getfield 205, 3), (27, .invokevirtual 101, 3), (30, .return_, 1)]
theorem mT_X4_decide_ok : ix_tok cX4_decide mT_X4_decide = true := by decide +kernel
def mD_X4_decide : ix_M := (4, yX4_decide, cX4_decide, 4, none, 2, 0, mT_X4_decide, 284, 283, 3)
def mT_X4_finish : ix_T := [(0, .aload_n 0, 1), (1, .getfield 42, 3), (4, .iload_n 1, 1), (5, .aaload, 1), (6, .astore_n 2, 1), (7, .aload_n 2, 1), (8, .getfield 274, 3), (11, .iconst 1, 1), (12, .if_icmp .ne 7, 3), (15, .iconst 2, 1), (16, .goto 4, 3), (19, .iconst 3, 1), (20, .istore_n 3, 1), (21, .iconst 0, 1), (22, .istore 4, 2), (24, .iload 4, 2), (26, .aload_n 0, 1), (27, .getfield 146, 3), (30, .if_icmp .ge 56, 3), (33, .aload_n 2, 1), (34, .iload 4, 2), (36, .invokevirtual 243, 3), (39, .ifCond .eq 41, 3), (42, .aload_n 0, 1), (43, .getfield 26, 3), (46, .iload 4, 2), (48, .aaload, 1), (49, .aload_n 2, 1), (50, .getfield 205, 3), (53, .invokevirtual 289, 3), (56, .ifCond .ne 24, 3), (59, .aload_n 0, 1), (60, .iload 4, 2), (62, .iload_n 3, 1), (63, .iload_n 1, 1), (64, .aload_n 2, 1), (65, .getfield 88, 3), (68, .aload_n 2, 1), (69, .getfield 205, 3), (72, .aload_n 0, 1), (73, .getfield 21, 3), (76, .invokevirtual 250, 3), (79, .pop, 1), (80, .iinc 4 1, 3), (83, .goto (-59), 3), (86, .aload_n 0, 1), (87, .iconst 5, 1), (88, .iload_n 1, 1), (89, .aload_n 2, 1), (90, .getfield 88, 3), (93, .iconst 0, 1), (94, .aload_n 2, 1), (95, .getfield 205, 3), (98, .invokevirtual 101, 3), (101, .return_, 1)]
theorem mT_X4_finish_ok : ix_tok cX4_finish mT_X4_finish = true := by decide +kernel
def mD_X4_finish : ix_M := (4, yX4_finish, cX4_finish, 5, none, 1, 0, mT_X4_finish, 326, 325, 8)
def mT_X4_endOverdue : ix_T := [(0, .iconst 0, 1), (1, .istore_n 1, 1), (2, .iconst 0, 1), (3, .istore_n 2, 1), (4, .iload_n 2, 1), (5, .bipush 32, 2), (7, .if_icmp .ge 42, 3), (10, .aload_n 0, 1), (11, .iconst 0, 1), (12, .invokevirtual 292, 3), (15, .istore_n 3, 1), (16, .iload_n 3, 1), (17, .iconst (-1), 1), (18, .if_icmp .ne 6, 3), (21, .goto 28, 3), (24, .aload_n 0, 1), (25, .iload_n 3, 1), (26, .iconst 0, 1), (27, .invokevirtual 75, 3), (30, .aload_n 0, 1), (31, .iload_n 3, 1), (32, .invokevirtual 79, 3), (35, .aload_n 0, 1), (36, .iload_n 3, 1), (37, .invokevirtual 85, 3), (40, .iinc 1 1, 3), (43, .iinc 2 1, 3), (46, .goto (-42), 3), (49, .iload_n 1, 1), (50, .ireturn, 1)]
theorem mT_X4_endOverdue_ok : ix_tok cX4_endOverdue mT_X4_endOverdue = true := by decide +kernel
def mD_X4_endOverdue : ix_M := (4, yX4_endOverdue, cX4_endOverdue, 4, (some (.int)), 0, 0, mT_X4_endOverdue, 455, 454, 21)
def mT_X4_finishDecided : ix_T := [(0, .iconst 0, 1), (1, .istore_n 1, 1), (2, .iconst 0, 1), (3, .istore_n 2, 1), (4, .iload_n 2, 1), (5, .bipush 32, 2), (7, .if_icmp .ge 31, 3), (10, .aload_n 0, 1), (11, .iconst 1, 1), (12, .invokevirtual 292, 3), (15, .istore_n 3, 1), (16, .iload_n 3, 1), (17, .iconst (-1), 1), (18, .if_icmp .ne 6, 3), (21, .goto 17, 3), (24, .aload_n 0, 1), (25, .iload_n 3, 1), (26, .invokevirtual 79, 3), (29, .iinc 1 1, 3), (32, .iinc 2 1, 3), (35, .goto (-31), 3), (38, .iload_n 1, 1), (39, .ireturn, 1)]
theorem mT_X4_finishDecided_ok : ix_tok cX4_finishDecided mT_X4_finishDecided = true := by decide +kernel
def mD_X4_finishDecided : ix_M := (4, yX4_finishDecided, cX4_finishDecided, 4, (some (.int)), 0, 0, mT_X4_finishDecided, 531, 530, 24)
def mT_X4_firstToEnd : ix_T := [(0, .iconst (-1), 1), (1, .istore_n 2, 1), (2, .iconst 0, 1), (3, .istore_n 3, 1), (4, .iload_n 3, 1), (5, .bipush 32, 2), (7, .if_icmp .ge 99, 3), (10, .aload_n 0, 1), (11, .getfield 42, 3), (14, .iload_n 3, 1), (15, .aaload, 1), (16, .astore 4, 2), (18, .iload_n 1, 1), (19, .ifCond .eq 20, 3), (22, .aload 4, 2), (24, .getfield 274, 3), (27, .iconst (-1), 1), (28, .if_icmp .eq 7, 3), (31, .iconst 1, 1), (32, .goto 29, 3), (35, .iconst 0, 1), (36, .goto 25, 3), (39, .aload_n 0, 1), (40, .getfield 98, 3), (43, .aload 4, 2), (45, .getfield 208, 3), (48, .isub, 1), (49, .aload_n 0, 1), (50, .getfield 223, 3), (53, .if_icmp .le 7, 3), (56, .iconst 1, 1), (57, .goto 4, 3), (60, .iconst 0, 1), (61, .istore 5, 2), (63, .aload 4, 2), (65, .invokevirtual 71, 3), (68, .ifCond .eq 32, 3), (71, .iload 5, 2), (73, .ifCond .eq 27, 3), (76, .iload_n 2, 1), (77, .iconst (-1), 1), (78, .if_icmp .eq 20, 3), (81, .aload 4, 2), (83, .getfield 205, 3), (86, .aload_n 0, 1), (87, .getfield 42, 3), (90, .iload_n 2, 1), (91, .aaload, 1), (92, .getfield 205, 3), (95, .if_icmp .ge 5, 3), (98, .iload_n 3, 1), (99, .istore_n 2, 1), (100, .iinc 3 1, 3), (103, .goto (-99), 3), (106, .iload_n 2, 1), (107, .ireturn, 1)]
theorem mT_X4_firstToEnd_ok : ix_tok cX4_firstToEnd mT_X4_firstToEnd = true := by decide +kernel
def mD_X4_firstToEnd : ix_M := (4, yX4_firstToEnd, cX4_firstToEnd, 6, (some (.int)), 1, 0, mT_X4_firstToEnd, 459, 458, 22)
def mT_X5_init : ix_T := [(0, .aload_n 0, 1), (1, .invokespecial 1, 3), (4, .aload_n 0, 1), (5, .sipush 4200, 3), (8, .newarray .int, 2), (10, .putfield 9, 3), (13, .aload_n 0, 1), (14, .sipush 4200, 3), (17, .newarray .int, 2), (19, .putfield 13, 3), (22, .aload_n 0, 1), (23, .sipush 4200, 3), (26, .newarray .int, 2), (28, .putfield 16, 3), (31, .aload_n 0, 1), (32, .sipush 4200, 3), (35, .newarray .int, 2), (37, .putfield 19, 3), (40, .aload_n 0, 1), (41, .sipush 4200, 3), (44, .newarray .int, 2), (46, .putfield 22, 3), (49, .aload_n 0, 1), (50, .sipush 4200, 3), (53, .newarray .int, 2), (55, .putfield 25, 3), (58, .aload_n 0, 1), (59, .sipush 4200, 3), (62, .newarray .int, 2), (64, .putfield 28, 3), (67, .aload_n 0, 1), (68, .ldc 31, 2), (70, .newarray .byte, 2), (72, .putfield 32, 3), (75, .aload_n 0, 1), (76, .bipush 32, 2), (78, .newarray .boolean, 2), (80, .putfield 36, 3), (83, .aload_n 0, 1), (84, .bipush 32, 2), (86, .newarray .int, 2), (88, .putfield 40, 3), (91, .aload_n 0, 1), (92, .bipush 32, 2), (94, .newarray .int, 2), (96, .putfield 43, 3), (99, .aload_n 0, 1), (100, .bipush 32, 2), (102, .newarray .int, 2), (104, .putfield 46, 3), (107, .aload_n 0, 1), (108, .bipush 32, 2), (110, .newarray .int, 2), (112, .putfield 49, 3), (115, .aload_n 0, 1), (116, .bipush 64, 2), (118, .newarray .int, 2), (120, .putfield 52, 3), (123, .aload_n 0, 1), (124, .sipush 1100, 3), (127, .newarray .int, 2), (129, .putfield 55, 3), (132, .aload_n 0, 1), (133, .sipush 1100, 3), (136, .newarray .int, 2), (138, .putfield 58, 3), (141, .aload_n 0, 1), (142, .sipush 1100, 3), (145, .newarray .int, 2), (147, .putfield 61, 3), (150, .aload_n 0, 1), (151, .sipush 1100, 3), (154, .newarray .int, 2), (156, .putfield 64, 3), (159, .aload_n 0, 1), (160, .bipush 40, 2), (162, .newarray .byte, 2), (164, .putfield 67, 3), (167, .aload_n 0, 1), (168, .bipush 40, 2), (170, .newarray .byte, 2), (172, .putfield 70, 3), (175, .aload_n 0, 1), (176, .sipush 1100, 3), (179, .newarray .int, 2), (181, .putfield 73, 3), (184, .aload_n 0, 1), (185, .iconst 4, 1), (186, .sipush 2000, 3), (189, .bipush 100, 2), (191, .invokevirtual 76, 3), (194, .istore_n 1, 1), (195, .return_, 1)]
theorem mT_X5_init_ok : ix_tok cX5_init mT_X5_init = true := by decide +kernel
def mD_X5_init : ix_M := (5, yX5_init, cX5_init, 2, none, 0, 2, mT_X5_init, 574, 573, 573)
def mT_X5_forgets : ix_T := [(0, .aload_n 0, 1), (1, .iconst 0, 1), (2, .putfield 80, 3), (5, .aload_n 0, 1), (6, .iconst 0, 1), (7, .putfield 84, 3), (10, .iconst 0, 1), (11, .istore_n 1, 1), (12, .iload_n 1, 1), (13, .bipush 32, 2), (15, .if_icmp .ge 44, 3), (18, .aload_n 0, 1), (19, .getfield 36, 3), (22, .iload_n 1, 1), (23, .iconst 0, 1), (24, .bastore, 1), (25, .aload_n 0, 1), (26, .getfield 40, 3), (29, .iload_n 1, 1), (30, .iconst 0, 1), (31, .iastore, 1), (32, .aload_n 0, 1), (33, .getfield 43, 3), (36, .iload_n 1, 1), (37, .iconst (-1), 1), (38, .iastore, 1), (39, .aload_n 0, 1), (40, .getfield 46, 3), (43, .iload_n 1, 1), (44, .iconst 0, 1), (45, .iastore, 1), (46, .aload_n 0, 1), (47, .getfield 49, 3), (50, .iload_n 1, 1), (51, .iconst 0, 1), (52, .iastore, 1), (53, .iinc 1 1, 3), (56, .goto (-44), 3), (59, .iconst 0, 1), (60, .istore_n 1, 1), (61, .iload_n 1, 1), (62, .bipush 64, 2), (64, .if_icmp .ge 16, 3), (67, .aload_n 0, 1), (68, .getfield 52, 3), (71, .iload_n 1, 1), (72, .iconst (-1), 1), (73, .iastore, 1), (74, .iinc 1 1, 3), (77, .goto (-16), 3), (80, .return_, 1)]
theorem mT_X5_forgets_ok : ix_tok cX5_forgets mT_X5_forgets = true := by decide +kernel
def mD_X5_forgets : ix_M := (5, yX5_forgets, cX5_forgets, 2, none, 0, 0, mT_X5_forgets, 584, 583, 26)
def mT_X5_format : ix_T := [(0, .iload_n 1, 1), (1, .iconst 1, 1), (2, .if_icmp .lt 34, 3), (5, .iload_n 1, 1), (6, .bipush 8, 2), (8, .if_icmp .gt 28, 3), (11, .iload_n 2, 1), (12, .bipush 100, 2), (14, .if_icmp .lt 22, 3), (17, .iload_n 2, 1), (18, .sipush 4000, 3), (21, .if_icmp .gt 15, 3), (24, .iload_n 3, 1), (25, .iconst 1, 1), (26, .if_icmp .lt 10, 3), (29, .iload_n 3, 1), (30, .sipush 1000, 3), (33, .if_icmp .le 5, 3), (36, .iconst 0, 1), (37, .ireturn, 1), (38, .aload_n 0, 1), (39, .iload_n 1, 1), (40, .putfield 87, 3), (43, .aload_n 0, 1), (44, .iload_n 2, 1), (45, .putfield 90, 3), (48, .aload_n 0, 1), (49, .iload_n 3, 1), (50, .putfield 93, 3), (53, .aload_n 0, 1), (54, .iconst 0, 1), (55, .putfield 96, 3), (58, .aload_n 0, 1), (59, .iconst 0, 1), (60, .putfield 99, 3), (63, .aload_n 0, 1), (64, .iconst 0, 1), (65, .putfield 103, 3), (68, .aload_n 0, 1), (69, .iconst 0, 1), (70, .putfield 106, 3), (73, .aload_n 0, 1), (74, .iconst 0, 1), (75, .putfield 109, 3), (78, .aload_n 0, 1), (79, .iconst 0, 1), (80, .putfield 112, 3), (83, .aload_n 0, 1), (84, .iconst 0, 1), (85, .putfield 115, 3), (88, .aload_n 0, 1), (89, .invokevirtual 118, 3), (92, .iconst 1, 1), (93, .ireturn, 1)]
theorem mT_X5_format_ok : ix_tok cX5_format mT_X5_format = true := by decide +kernel
def mD_X5_format : ix_M := (5, yX5_format, cX5_format, 4, (some (.boolean)), 3, 0, mT_X5_format, 580, 578, 579)
def mT_X5_sizeOf : ix_T := [(0, .aload_n 0, 1), (1, .getfield 9, 3), (4, .iload_n 1, 1), (5, .iaload, 1), (6, .aload_n 0, 1), (7, .getfield 87, 3), (10, .if_icmp .ne 8, 3), (13, .bipush 16, 2), (15, .goto 12, 3), (18, .bipush 14, 2), (20, .aload_n 0, 1), (21, .getfield 25, 3), (24, .iload_n 1, 1), (25, .iaload, 1), (26, .iadd, 1), (27, .ireturn, 1)]
theorem mT_X5_sizeOf_ok : ix_tok cX5_sizeOf mT_X5_sizeOf = true := by decide +kernel
def mD_X5_sizeOf : ix_M := (5, yX5_sizeOf, cX5_sizeOf, 2, (some (.int)), 1, 0, mT_X5_sizeOf, 728, 727, 35)
def mT_X5_bytesFrom : ix_T := [(0, .iconst 0, 1), (1, .istore_n 3, 1), (2, .iload_n 2, 1), (3, .istore 4, 2), (5, .iload 4, 2), (7, .aload_n 0, 1), (8, .getfield 106, 3), (11, .if_icmp .ge 33, 3), (14, .iload_n 3, 1), (15, .aload_n 0, 1), (16, .getfield 9, 3), (19, .iload 4, 2), (21, .iaload, 1), (22, .iload_n 1, 1), (23, .if_icmp .ne 12, 3), (26, .aload_n 0, 1), (27, .iload 4, 2), (29, .invokevirtual 121, 3), (32, .goto 4, 3), (35, .iconst 0, 1), (36, .iadd, 1), (37, .istore_n 3, 1), (38, .iinc 4 1, 3), (41, .goto (-36), 3), (44, .iload_n 3, 1), (45, .ireturn, 1)]
theorem mT_X5_bytesFrom_ok : ix_tok cX5_bytesFrom mT_X5_bytesFrom = true := by decide +kernel
def mD_X5_bytesFrom : ix_M := (5, yX5_bytesFrom, cX5_bytesFrom, 5, (some (.int)), 2, 0, mT_X5_bytesFrom, 724, 723, 34)
def mT_X5_unsynced : ix_T := [(0, .iconst 0, 1), (1, .istore_n 1, 1), (2, .aload_n 0, 1), (3, .getfield 109, 3), (6, .istore_n 2, 1), (7, .iload_n 2, 1), (8, .aload_n 0, 1), (9, .getfield 106, 3), (12, .if_icmp .ge 17, 3), (15, .iload_n 1, 1), (16, .aload_n 0, 1), (17, .iload_n 2, 1), (18, .invokevirtual 121, 3), (21, .iadd, 1), (22, .istore_n 1, 1), (23, .iinc 2 1, 3), (26, .goto (-19), 3), (29, .iload_n 1, 1), (30, .ireturn, 1)]
theorem mT_X5_unsynced_ok : ix_tok cX5_unsynced mT_X5_unsynced = true := by decide +kernel
def mD_X5_unsynced : ix_M := (5, yX5_unsynced, cX5_unsynced, 3, (some (.int)), 0, 0, mT_X5_unsynced, 824, 823, 47)
def mT_X5_add : ix_T := [(0, .aload_n 0, 1), (1, .getfield 106, 3), (4, .istore 7, 2), (6, .aload_n 0, 1), (7, .dup, 1), (8, .getfield 106, 3), (11, .iconst 1, 1), (12, .iadd, 1), (13, .putfield 106, 3), (16, .aload_n 0, 1), (17, .getfield 9, 3), (20, .iload 7, 2), (22, .iload_n 1, 1), (23, .iastore, 1), (24, .aload_n 0, 1), (25, .getfield 13, 3), (28, .iload 7, 2), (30, .iload_n 2, 1), (31, .iastore, 1), (32, .aload_n 0, 1), (33, .getfield 16, 3), (36, .iload 7, 2), (38, .iload_n 3, 1), (39, .iastore, 1), (40, .aload_n 0, 1), (41, .getfield 19, 3), (44, .iload 7, 2), (46, .iload 4, 2), (48, .iastore, 1), (49, .aload_n 0, 1), (50, .getfield 22, 3), (53, .iload 7, 2), (55, .iload 5, 2), (57, .iastore, 1), (58, .aload_n 0, 1), (59, .getfield 25, 3), (62, .iload 7, 2), (64, .iload 6, 2), (66, .iastore, 1), (67, .aload_n 0, 1), (68, .getfield 28, 3), (71, .iload 7, 2), (73, .iconst (-1), 1), (74, .iastore, 1), (75, .iload 7, 2), (77, .ireturn, 1)]
theorem mT_X5_add_ok : ix_tok cX5_add mT_X5_add = true := by decide +kernel
def mD_X5_add : ix_M := (5, yX5_add, cX5_add, 8, (some (.int)), 6, 0, mT_X5_add, 700, 699, 28)
def mT_X5_opened : ix_T := [(0, .iconst 0, 1), (1, .istore_n 1, 1), (2, .iconst 0, 1), (3, .istore_n 2, 1), (4, .iload_n 2, 1), (5, .bipush 32, 2), (7, .if_icmp .ge 27, 3), (10, .iload_n 1, 1), (11, .aload_n 0, 1), (12, .getfield 43, 3), (15, .iload_n 2, 1), (16, .iaload, 1), (17, .iconst (-1), 1), (18, .if_icmp .ne 7, 3), (21, .iconst 0, 1), (22, .goto 4, 3), (25, .iconst 1, 1), (26, .iadd, 1), (27, .istore_n 1, 1), (28, .iinc 2 1, 3), (31, .goto (-27), 3), (34, .iload_n 1, 1), (35, .ireturn, 1)]
theorem mT_X5_opened_ok : ix_tok cX5_opened mT_X5_opened = true := by decide +kernel
def mD_X5_opened : ix_M := (5, yX5_opened, cX5_opened, 3, (some (.int)), 0, 0, mT_X5_opened, 716, 715, 32)
def mT_X5_openedAt : ix_T := [(0, .iconst 0, 1), (1, .istore_n 2, 1), (2, .iconst 0, 1), (3, .istore_n 3, 1), (4, .iload_n 3, 1), (5, .bipush 32, 2), (7, .if_icmp .ge 41, 3), (10, .iload_n 2, 1), (11, .aload_n 0, 1), (12, .getfield 43, 3), (15, .iload_n 3, 1), (16, .iaload, 1), (17, .iconst (-1), 1), (18, .if_icmp .eq 21, 3), (21, .aload_n 0, 1), (22, .getfield 49, 3), (25, .iload_n 3, 1), (26, .iaload, 1), (27, .iload_n 1, 1), (28, .ishr, 1), (29, .iconst 1, 1), (30, .iand, 1), (31, .iconst 1, 1), (32, .if_icmp .ne 7, 3), (35, .iconst 1, 1), (36, .goto 4, 3), (39, .iconst 0, 1), (40, .iadd, 1), (41, .istore_n 2, 1), (42, .iinc 3 1, 3), (45, .goto (-41), 3), (48, .iload_n 2, 1), (49, .ireturn, 1)]
theorem mT_X5_openedAt_ok : ix_tok cX5_openedAt mT_X5_openedAt = true := by decide +kernel
def mD_X5_openedAt : ix_M := (5, yX5_openedAt, cX5_openedAt, 4, (some (.int)), 1, 0, mT_X5_openedAt, 764, 763, 42)
def mT_X5_bookHas : ix_T := [(0, .aload_n 0, 1), (1, .aload_n 0, 1), (2, .getfield 87, 3), (5, .iconst 0, 1), (6, .invokevirtual 125, 3), (9, .iload_n 1, 1), (10, .iadd, 1), (11, .bipush 48, 2), (13, .iload_n 2, 1), (14, .imul, 1), (15, .iadd, 1), (16, .sipush 16000, 3), (19, .if_icmp .gt 7, 3), (22, .iconst 1, 1), (23, .goto 4, 3), (26, .iconst 0, 1), (27, .ireturn, 1)]
theorem mT_X5_bookHas_ok : ix_tok cX5_bookHas mT_X5_bookHas = true := by decide +kernel
def mD_X5_bookHas : ix_M := (5, yX5_bookHas, cX5_bookHas, 3, (some (.boolean)), 2, 0, mT_X5_bookHas, 720, 719, 33)
def mT_X5_refused : ix_T := [(0, .aload_n 0, 1), (1, .getfield 99, 3), (4, .ifCond .eq 5, 3), (7, .iconst (-1), 1), (8, .ireturn, 1), (9, .iload_n 1, 1), (10, .ifCond .lt 18, 3), (13, .iload_n 1, 1), (14, .bipush 31, 2), (16, .if_icmp .gt 12, 3), (19, .aload_n 0, 1), (20, .getfield 36, 3), (23, .iload_n 1, 1), (24, .baload, 1), (25, .ifCond .ne 6, 3), (28, .bipush (-2), 2), (30, .ireturn, 1), (31, .aload_n 0, 1), (32, .getfield 40, 3), (35, .iload_n 1, 1), (36, .iaload, 1), (37, .iload_n 2, 1), (38, .if_icmp .ne 7, 3), (41, .iconst 0, 1), (42, .goto 5, 3), (45, .bipush (-3), 2), (47, .ireturn, 1)]
theorem mT_X5_refused_ok : ix_tok cX5_refused mT_X5_refused = true := by decide +kernel
def mD_X5_refused : ix_M := (5, yX5_refused, cX5_refused, 3, (some (.int)), 2, 0, mT_X5_refused, 740, 739, 37)
def mT_X5_registers : ix_T := [(0, .aload_n 0, 1), (1, .getfield 40, 3), (4, .iload_n 1, 1), (5, .aload_n 0, 1), (6, .getfield 36, 3), (9, .iload_n 1, 1), (10, .baload, 1), (11, .ifCond .eq 14, 3), (14, .aload_n 0, 1), (15, .getfield 40, 3), (18, .iload_n 1, 1), (19, .iaload, 1), (20, .iconst 1, 1), (21, .iadd, 1), (22, .goto 4, 3), (25, .iconst 0, 1), (26, .iastore, 1), (27, .aload_n 0, 1), (28, .getfield 36, 3), (31, .iload_n 1, 1), (32, .iconst 1, 1), (33, .bastore, 1), (34, .aload_n 0, 1), (35, .aload_n 0, 1), (36, .getfield 87, 3), (39, .iconst 0, 1), (40, .iload_n 1, 1), (41, .aload_n 0, 1), (42, .getfield 40, 3), (45, .iload_n 1, 1), (46, .iaload, 1), (47, .iconst 0, 1), (48, .iconst 0, 1), (49, .invokevirtual 129, 3), (52, .istore_n 2, 1), (53, .return_, 1)]
theorem mT_X5_registers_ok : ix_tok cX5_registers mT_X5_registers = true := by decide +kernel
def mD_X5_registers : ix_M := (5, yX5_registers, cX5_registers, 3, none, 1, 0, mT_X5_registers, 732, 731, 36)
def mT_X5_marksOf : ix_T := [(0, .iconst 0, 1), (1, .istore_n 2, 1), (2, .iload_n 2, 1), (3, .aload_n 0, 1), (4, .getfield 84, 3), (7, .if_icmp .ge 36, 3), (10, .aload_n 0, 1), (11, .getfield 58, 3), (14, .iload_n 2, 1), (15, .iaload, 1), (16, .iload_n 1, 1), (17, .if_icmp .ne 20, 3), (20, .aload_n 0, 1), (21, .getfield 52, 3), (24, .aload_n 0, 1), (25, .getfield 61, 3), (28, .iload_n 2, 1), (29, .iaload, 1), (30, .aload_n 0, 1), (31, .getfield 64, 3), (34, .iload_n 2, 1), (35, .iaload, 1), (36, .iastore, 1), (37, .iinc 2 1, 3), (40, .goto (-38), 3), (43, .return_, 1)]
theorem mT_X5_marksOf_ok : ix_tok cX5_marksOf mT_X5_marksOf = true := by decide +kernel
def mD_X5_marksOf : ix_M := (5, yX5_marksOf, cX5_marksOf, 3, none, 1, 0, mT_X5_marksOf, 712, 711, 31)
def mT_X5_finishes : ix_T := [(0, .aload_n 0, 1), (1, .getfield 43, 3), (4, .iload_n 1, 1), (5, .iaload, 1), (6, .istore_n 3, 1), (7, .iconst 0, 1), (8, .istore 4, 2), (10, .iload 4, 2), (12, .aload_n 0, 1), (13, .getfield 87, 3), (16, .if_icmp .ge 122, 3), (19, .iconst 0, 1), (20, .istore 5, 2), (22, .iconst 0, 1), (23, .istore 6, 2), (25, .iload 6, 2), (27, .aload_n 0, 1), (28, .getfield 106, 3), (31, .if_icmp .ge 55, 3), (34, .iload 5, 2), (36, .ifCond .ne 37, 3), (39, .aload_n 0, 1), (40, .getfield 9, 3), (43, .iload 6, 2), (45, .iaload, 1), (46, .iload 4, 2), (48, .if_icmp .ne 29, 3), (51, .aload_n 0, 1), (52, .getfield 13, 3), (55, .iload 6, 2), (57, .iaload, 1), (58, .iconst 1, 1), (59, .if_icmp .le 18, 3), (62, .aload_n 0, 1), (63, .getfield 22, 3), (66, .iload 6, 2), (68, .iaload, 1), (69, .iload_n 3, 1), (70, .if_icmp .ne 7, 3), (73, .iconst 1, 1), (74, .goto 4, 3), (77, .iconst 0, 1), (78, .istore 5, 2), (80, .iinc 6 1, 3), (83, .goto (-58), 3), (86, .aload_n 0, 1), (87, .getfield 49, 3), (90, .iload_n 1, 1), (91, .iaload, 1), (92, .iload 4, 2), (94, .ishr, 1), (95, .iconst 1, 1), (96, .iand, 1), (97, .iconst 1, 1), (98, .if_icmp .ne 34, 3), (101, .iload 5, 2), (103, .ifCond .ne 29, 3), (106, .aload_n 0, 1), (107, .iload 4, 2), (109, .iload_n 2, 1), (110, .ifCond .eq 7, 3), (113, .iconst 2, 1), (114, .goto 4, 3), (117, .iconst 3, 1), (118, .iload_n 1, 1), (119, .aload_n 0, 1), (120, .getfield 40, 3), (123, .iload_n 1, 1), (124, .iaload, 1), (125, .iload_n 3, 1), (126, .iconst 0, 1), (127, .invokevirtual 129, 3), (130, .istore 6, 2), (132, .iinc 4 1, 3), (135, .goto (-125), 3), (138, .aload_n 0, 1), (139, .aload_n 0, 1), (140, .getfield 87, 3), (143, .iconst 5, 1), (144, .iload_n 1, 1), (145, .aload_n 0, 1), (146, .getfield 40, 3), (149, .iload_n 1, 1), (150, .iaload, 1), (151, .iconst 0, 1), (152, .iload_n 3, 1), (153, .invokevirtual 129, 3), (156, .istore 4, 2), (158, .aload_n 0, 1), (159, .iload_n 1, 1), (160, .iload_n 2, 1), (161, .invokevirtual 133, 3), (164, .return_, 1)]
theorem mT_X5_finishes_ok : ix_tok cX5_finishes mT_X5_finishes = true := by decide +kernel
def mD_X5_finishes : ix_M := (5, yX5_finishes, cX5_finishes, 7, none, 2, 0, mT_X5_finishes, 704, 703, 29)
def mT_X5_closes : ix_T := [(0, .aload_n 0, 1), (1, .getfield 43, 3), (4, .iload_n 1, 1), (5, .iaload, 1), (6, .istore_n 3, 1), (7, .aload_n 0, 1), (8, .getfield 55, 3), (11, .iload_n 3, 1), (12, .iload_n 2, 1), (13, .ifCond .eq 7, 3), (16, .iconst 1, 1), (17, .goto 4, 3), (20, .iconst 2, 1), (21, .iastore, 1), (22, .iload_n 2, 1), (23, .ifCond .eq 8, 3), (26, .aload_n 0, 1), (27, .iload_n 3, 1), (28, .invokevirtual 137, 3), (31, .aload_n 0, 1), (32, .getfield 43, 3), (35, .iload_n 1, 1), (36, .iconst (-1), 1), (37, .iastore, 1), (38, .aload_n 0, 1), (39, .getfield 49, 3), (42, .iload_n 1, 1), (43, .iconst 0, 1), (44, .iastore, 1), (45, .return_, 1)]
theorem mT_X5_closes_ok : ix_tok cX5_closes mT_X5_closes = true := by decide +kernel
def mD_X5_closes : ix_M := (5, yX5_closes, cX5_closes, 4, none, 2, 0, mT_X5_closes, 708, 707, 30)
def mT_X5_ends : ix_T := [(0, .aload_n 0, 1), (1, .aload_n 0, 1), (2, .getfield 87, 3), (5, .iconst 4, 1), (6, .iload_n 1, 1), (7, .aload_n 0, 1), (8, .getfield 40, 3), (11, .iload_n 1, 1), (12, .iaload, 1), (13, .iload_n 2, 1), (14, .ifCond .eq 7, 3), (17, .iconst 1, 1), (18, .goto 4, 3), (21, .iconst 0, 1), (22, .aload_n 0, 1), (23, .getfield 43, 3), (26, .iload_n 1, 1), (27, .iaload, 1), (28, .invokevirtual 129, 3), (31, .istore_n 3, 1), (32, .aload_n 0, 1), (33, .iload_n 1, 1), (34, .iload_n 2, 1), (35, .invokevirtual 141, 3), (38, .return_, 1)]
theorem mT_X5_ends_ok : ix_tok cX5_ends mT_X5_ends = true := by decide +kernel
def mD_X5_ends : ix_M := (5, yX5_ends, cX5_ends, 4, none, 2, 0, mT_X5_ends, 696, 695, 27)
def mT_X5_register : ix_T := [(0, .aload_n 0, 1), (1, .getfield 99, 3), (4, .ifCond .eq 5, 3), (7, .iconst (-1), 1), (8, .ireturn, 1), (9, .iload_n 1, 1), (10, .ifCond .lt 9, 3), (13, .iload_n 1, 1), (14, .bipush 31, 2), (16, .if_icmp .le 6, 3), (19, .bipush (-2), 2), (21, .ireturn, 1), (22, .aload_n 0, 1), (23, .getfield 43, 3), (26, .iload_n 1, 1), (27, .iaload, 1), (28, .iconst (-1), 1), (29, .if_icmp .eq 12, 3), (32, .aload_n 0, 1), (33, .iload_n 1, 1), (34, .iconst 0, 1), (35, .invokevirtual 144, 3), (38, .goto 19, 3), (41, .aload_n 0, 1), (42, .bipush 16, 2), (44, .aload_n 0, 1), (45, .invokevirtual 147, 3), (48, .invokevirtual 151, 3), (51, .ifCond .ne 6, 3), (54, .bipush (-8), 2), (56, .ireturn, 1), (57, .aload_n 0, 1), (58, .iload_n 1, 1), (59, .invokevirtual 155, 3), (62, .aload_n 0, 1), (63, .getfield 40, 3), (66, .iload_n 1, 1), (67, .iaload, 1), (68, .ireturn, 1)]
theorem mT_X5_register_ok : ix_tok cX5_register mT_X5_register = true := by decide +kernel
def mD_X5_register : ix_M := (5, yX5_register, cX5_register, 2, (some (.int)), 1, 0, mT_X5_register, 692, 690, 691)
def mT_X5_begins : ix_T := [(0, .aload_n 0, 1), (1, .getfield 43, 3), (4, .iload_n 1, 1), (5, .iload_n 2, 1), (6, .iastore, 1), (7, .aload_n 0, 1), (8, .getfield 46, 3), (11, .iload_n 1, 1), (12, .iload_n 3, 1), (13, .iastore, 1), (14, .aload_n 0, 1), (15, .getfield 49, 3), (18, .iload_n 1, 1), (19, .iconst 0, 1), (20, .iastore, 1), (21, .aload_n 0, 1), (22, .getfield 55, 3), (25, .iload_n 2, 1), (26, .iconst 0, 1), (27, .iastore, 1), (28, .aload_n 0, 1), (29, .iload_n 2, 1), (30, .iconst 1, 1), (31, .iadd, 1), (32, .putfield 80, 3), (35, .return_, 1)]
theorem mT_X5_begins_ok : ix_tok cX5_begins mT_X5_begins = true := by decide +kernel
def mD_X5_begins : ix_M := (5, yX5_begins, cX5_begins, 4, none, 3, 0, mT_X5_begins, 744, 743, 38)
def mT_X5_begin : ix_T := [(0, .aload_n 0, 1), (1, .iload_n 1, 1), (2, .iload_n 2, 1), (3, .invokevirtual 158, 3), (6, .istore_n 3, 1), (7, .iload_n 3, 1), (8, .ifCond .eq 5, 3), (11, .iload_n 3, 1), (12, .ireturn, 1), (13, .aload_n 0, 1), (14, .getfield 43, 3), (17, .iload_n 1, 1), (18, .iaload, 1), (19, .iconst (-1), 1), (20, .if_icmp .eq 6, 3), (23, .bipush (-4), 2), (25, .ireturn, 1), (26, .aload_n 0, 1), (27, .bipush 16, 2), (29, .aload_n 0, 1), (30, .invokevirtual 147, 3), (33, .iconst 1, 1), (34, .iadd, 1), (35, .invokevirtual 151, 3), (38, .ifCond .ne 6, 3), (41, .bipush (-8), 2), (43, .ireturn, 1), (44, .aload_n 0, 1), (45, .aload_n 0, 1), (46, .getfield 87, 3), (49, .iconst 1, 1), (50, .iload_n 1, 1), (51, .iload_n 2, 1), (52, .aload_n 0, 1), (53, .getfield 96, 3), (56, .aload_n 0, 1), (57, .getfield 80, 3), (60, .invokevirtual 129, 3), (63, .istore 4, 2), (65, .aload_n 0, 1), (66, .iload_n 1, 1), (67, .aload_n 0, 1), (68, .getfield 80, 3), (71, .aload_n 0, 1), (72, .getfield 96, 3), (75, .invokevirtual 161, 3), (78, .aload_n 0, 1), (79, .getfield 43, 3), (82, .iload_n 1, 1), (83, .iaload, 1), (84, .ireturn, 1)]
theorem mT_X5_begin_ok : ix_tok cX5_begin mT_X5_begin = true := by decide +kernel
def mD_X5_begin : ix_M := (5, yX5_begin, cX5_begin, 5, (some (.int)), 2, 0, mT_X5_begin, 736, 734, 735)
def mT_X5_offsetOf : ix_T := [(0, .iconst 0, 1), (1, .istore_n 2, 1), (2, .iconst 0, 1), (3, .istore_n 3, 1), (4, .iload_n 3, 1), (5, .iload_n 1, 1), (6, .if_icmp .ge 32, 3), (9, .iload_n 2, 1), (10, .aload_n 0, 1), (11, .getfield 9, 3), (14, .iload_n 3, 1), (15, .iaload, 1), (16, .aload_n 0, 1), (17, .getfield 9, 3), (20, .iload_n 1, 1), (21, .iaload, 1), (22, .if_icmp .ne 7, 3), (25, .iconst 1, 1), (26, .goto 4, 3), (29, .iconst 0, 1), (30, .iadd, 1), (31, .istore_n 2, 1), (32, .iinc 3 1, 3), (35, .goto (-31), 3), (38, .iload_n 2, 1), (39, .ireturn, 1)]
theorem mT_X5_offsetOf_ok : ix_tok cX5_offsetOf mT_X5_offsetOf = true := by decide +kernel
def mD_X5_offsetOf : ix_M := (5, yX5_offsetOf, cX5_offsetOf, 4, (some (.int)), 1, 0, mT_X5_offsetOf, 756, 755, 40)
def mT_X5_nextOf : ix_T := [(0, .aload_n 0, 1), (1, .getfield 106, 3), (4, .iconst 1, 1), (5, .isub, 1), (6, .istore_n 3, 1), (7, .iload_n 3, 1), (8, .ifCond .lt 63, 3), (11, .aload_n 0, 1), (12, .getfield 9, 3), (15, .iload_n 3, 1), (16, .iaload, 1), (17, .iload_n 2, 1), (18, .if_icmp .ne 47, 3), (21, .aload_n 0, 1), (22, .getfield 13, 3), (25, .iload_n 3, 1), (26, .iaload, 1), (27, .iconst 1, 1), (28, .if_icmp .gt 37, 3), (31, .aload_n 0, 1), (32, .getfield 16, 3), (35, .iload_n 3, 1), (36, .iaload, 1), (37, .iload_n 1, 1), (38, .if_icmp .ne 27, 3), (41, .aload_n 0, 1), (42, .getfield 19, 3), (45, .iload_n 3, 1), (46, .iaload, 1), (47, .aload_n 0, 1), (48, .getfield 40, 3), (51, .iload_n 1, 1), (52, .iaload, 1), (53, .if_icmp .ne 12, 3), (56, .aload_n 0, 1), (57, .getfield 22, 3), (60, .iload_n 3, 1), (61, .iaload, 1), (62, .iconst 1, 1), (63, .iadd, 1), (64, .ireturn, 1), (65, .iinc 3 (-1), 3), (68, .goto (-61), 3), (71, .iconst 0, 1), (72, .ireturn, 1)]
theorem mT_X5_nextOf_ok : ix_tok cX5_nextOf mT_X5_nextOf = true := by decide +kernel
def mD_X5_nextOf : ix_M := (5, yX5_nextOf, cX5_nextOf, 4, (some (.int)), 2, 0, mT_X5_nextOf, 760, 759, 41)
def mT_X5_again : ix_T := [(0, .iconst 5, 1), (1, .istore 4, 2), (3, .aload_n 0, 1), (4, .getfield 106, 3), (7, .iconst 1, 1), (8, .isub, 1), (9, .istore 5, 2), (11, .iload 5, 2), (13, .ifCond .lt 84, 3), (16, .iload 4, 2), (18, .ifCond .le 79, 3), (21, .aload_n 0, 1), (22, .getfield 9, 3), (25, .iload 5, 2), (27, .iaload, 1), (28, .iload_n 2, 1), (29, .if_icmp .ne 62, 3), (32, .aload_n 0, 1), (33, .getfield 13, 3), (36, .iload 5, 2), (38, .iaload, 1), (39, .iconst 1, 1), (40, .if_icmp .gt 51, 3), (43, .aload_n 0, 1), (44, .getfield 16, 3), (47, .iload 5, 2), (49, .iaload, 1), (50, .iload_n 1, 1), (51, .if_icmp .ne 40, 3), (54, .aload_n 0, 1), (55, .getfield 19, 3), (58, .iload 5, 2), (60, .iaload, 1), (61, .aload_n 0, 1), (62, .getfield 40, 3), (65, .iload_n 1, 1), (66, .iaload, 1), (67, .if_icmp .ne 24, 3), (70, .aload_n 0, 1), (71, .getfield 22, 3), (74, .iload 5, 2), (76, .iaload, 1), (77, .iload_n 3, 1), (78, .if_icmp .ne 10, 3), (81, .aload_n 0, 1), (82, .iload 5, 2), (84, .invokevirtual 165, 3), (87, .ireturn, 1), (88, .iinc 4 (-1), 3), (91, .iinc 5 (-1), 3), (94, .goto (-83), 3), (97, .iconst (-1), 1), (98, .ireturn, 1)]
theorem mT_X5_again_ok : ix_tok cX5_again mT_X5_again = true := by decide +kernel
def mD_X5_again : ix_M := (5, yX5_again, cX5_again, 6, (some (.int)), 3, 0, mT_X5_again, 752, 751, 39)
def mT_X5_send : ix_T := [(0, .aload_n 0, 1), (1, .getfield 168, 3), (4, .istore 6, 2), (6, .aload_n 0, 1), (7, .iconst 0, 1), (8, .putfield 168, 3), (11, .aload_n 0, 1), (12, .getfield 99, 3), (15, .ifCond .eq 5, 3), (18, .iconst (-1), 1), (19, .ireturn, 1), (20, .iload_n 1, 1), (21, .ifCond .lt 30, 3), (24, .iload_n 1, 1), (25, .bipush 31, 2), (27, .if_icmp .gt 24, 3), (30, .aload_n 0, 1), (31, .getfield 36, 3), (34, .iload_n 1, 1), (35, .baload, 1), (36, .ifCond .eq 15, 3), (39, .iload_n 3, 1), (40, .ifCond .lt 11, 3), (43, .iload_n 3, 1), (44, .aload_n 0, 1), (45, .getfield 87, 3), (48, .if_icmp .lt 6, 3), (51, .bipush (-2), 2), (53, .ireturn, 1), (54, .aload_n 0, 1), (55, .getfield 40, 3), (58, .iload_n 1, 1), (59, .iaload, 1), (60, .iload_n 2, 1), (61, .if_icmp .eq 6, 3), (64, .bipush (-3), 2), (66, .ireturn, 1), (67, .iload 5, 2), (69, .aload_n 0, 1), (70, .getfield 43, 3), (73, .iload_n 1, 1), (74, .iaload, 1), (75, .iconst (-1), 1), (76, .if_icmp .ne 7, 3), (79, .iconst 1, 1), (80, .goto 4, 3), (83, .iconst 0, 1), (84, .if_icmp .ne 6, 3), (87, .bipush (-5), 2), (89, .ireturn, 1), (90, .aload_n 0, 1), (91, .iload_n 1, 1), (92, .iload_n 3, 1), (93, .iload 4, 2), (95, .invokevirtual 171, 3), (98, .istore 7, 2), (100, .iload 7, 2), (102, .iconst (-1), 1), (103, .if_icmp .eq 6, 3), (106, .iload 7, 2), (108, .ireturn, 1), (109, .iload 4, 2), (111, .aload_n 0, 1), (112, .iload_n 1, 1), (113, .iload_n 3, 1), (114, .invokevirtual 175, 3), (117, .if_icmp .eq 6, 3), (120, .bipush (-6), 2), (122, .ireturn, 1), (123, .iload 5, 2), (125, .ifCond .eq 20, 3), (128, .aload_n 0, 1), (129, .getfield 49, 3), (132, .iload_n 1, 1), (133, .iaload, 1), (134, .iload_n 3, 1), (135, .ishr, 1), (136, .iconst 1, 1), (137, .iand, 1), (138, .ifCond .ne 7, 3), (141, .iconst 1, 1), (142, .goto 4, 3), (145, .iconst 0, 1), (146, .istore 8, 2), (148, .aload_n 0, 1), (149, .iload_n 3, 1), (150, .iconst 0, 1), (151, .invokevirtual 125, 3), (154, .bipush 14, 2), (156, .iadd, 1), (157, .iload 6, 2), (159, .iadd, 1), (160, .bipush 14, 2), (162, .aload_n 0, 1), (163, .iload_n 3, 1), (164, .invokevirtual 178, 3), (167, .iload 8, 2), (169, .ifCond .eq 7, 3), (172, .iconst 1, 1), (173, .goto 4, 3), (176, .iconst 0, 1), (177, .iadd, 1), (178, .imul, 1), (179, .iadd, 1), (180, .istore 9, 2), (182, .iload 9, 2), (184, .aload_n 0, 1), (185, .getfield 90, 3), (188, .if_icmp .gt 21, 3), (191, .iload 8, 2), (193, .ifCond .eq 19, 3), (196, .aload_n 0, 1), (197, .bipush 16, 2), (199, .aload_n 0, 1), (200, .invokevirtual 147, 3), (203, .invokevirtual 151, 3), (206, .ifCond .ne 6, 3), (209, .bipush (-8), 2), (211, .ireturn, 1), (212, .iload 8, 2), (214, .ifCond .eq 30, 3), (217, .aload_n 0, 1), (218, .aload_n 0, 1), (219, .getfield 87, 3), (222, .iconst 2, 1), (223, .iload_n 1, 1), (224, .iload_n 2, 1), (225, .iload_n 3, 1), (226, .iconst 0, 1), (227, .invokevirtual 129, 3), (230, .istore 10, 2), (232, .aload_n 0, 1), (233, .getfield 49, 3), (236, .iload_n 1, 1), (237, .dup2, 1), (238, .iaload, 1), (239, .iconst 1, 1), (240, .iload_n 3, 1), (241, .ishl, 1), (242, .ior, 1), (243, .iastore, 1), (244, .aload_n 0, 1), (245, .iload_n 3, 1), (246, .iload 5, 2), (248, .ifCond .eq 7, 3), (251, .iconst 1, 1), (252, .goto 4, 3), (255, .iconst 0, 1), (256, .iload_n 1, 1), (257, .iload_n 2, 1), (258, .iload 4, 2), (260, .iload 6, 2), (262, .invokevirtual 129, 3), (265, .istore 10, 2), (267, .aload_n 0, 1), (268, .getfield 28, 3), (271, .iload 10, 2), (273, .iload 5, 2), (275, .ifCond .eq 12, 3), (278, .aload_n 0, 1), (279, .getfield 43, 3), (282, .iload_n 1, 1), (283, .iaload, 1), (284, .goto 4, 3), (287, .iconst (-1), 1), (288, .iastore, 1), (289, .iconst 0, 1), (290, .istore 11, 2), (292, .iload 11, 2), (294, .iload 6, 2), (296, .if_icmp .ge 29, 3), (299, .aload_n 0, 1), (300, .getfield 32, 3), (303, .bipush 40, 2), (305, .iload 10, 2), (307, .imul, 1), (308, .iload 11, 2), (310, .iadd, 1), (311, .aload_n 0, 1), (312, .getfield 67, 3), (315, .iload 11, 2), (317, .baload, 1), (318, .bastore, 1), (319, .iinc 11 1, 3), (322, .goto (-30), 3), (325, .aload_n 0, 1), (326, .iload 10, 2), (328, .invokevirtual 165, 3), (331, .ireturn, 1)]
theorem mT_X5_send_ok : ix_tok cX5_send mT_X5_send = true := by decide +kernel
def mD_X5_send : ix_M := (5, yX5_send, cX5_send, 12, (some (.int)), 5, 0, mT_X5_send, 748, 746, 747)
def mT_X5_isGroup : ix_T := [(0, .iload_n 0, 1), (1, .ifCond .lt 13, 3), (4, .iload_n 0, 1), (5, .bipush 7, 2), (7, .if_icmp .gt 7, 3), (10, .iconst 1, 1), (11, .goto 4, 3), (14, .iconst 0, 1), (15, .ireturn, 1)]
theorem mT_X5_isGroup_ok : ix_tok cX5_isGroup mT_X5_isGroup = true := by decide +kernel
def mD_X5_isGroup : ix_M := (5, yX5_isGroup, cX5_isGroup, 1, (some (.boolean)), 1, 1, mT_X5_isGroup, 771, 770, 770)
def mT_X5_isPartition : ix_T := [(0, .iload_n 1, 1), (1, .ifCond .lt 15, 3), (4, .iload_n 1, 1), (5, .aload_n 0, 1), (6, .getfield 87, 3), (9, .if_icmp .ge 7, 3), (12, .iconst 1, 1), (13, .goto 4, 3), (16, .iconst 0, 1), (17, .ireturn, 1)]
theorem mT_X5_isPartition_ok : ix_tok cX5_isPartition mT_X5_isPartition = true := by decide +kernel
def mD_X5_isPartition : ix_M := (5, yX5_isPartition, cX5_isPartition, 2, (some (.boolean)), 1, 0, mT_X5_isPartition, 775, 774, 43)
def mT_X5_later : ix_T := [(0, .aload_n 0, 1), (1, .getfield 58, 3), (4, .aload_n 0, 1), (5, .getfield 84, 3), (8, .iload_n 1, 1), (9, .iastore, 1), (10, .aload_n 0, 1), (11, .getfield 61, 3), (14, .aload_n 0, 1), (15, .getfield 84, 3), (18, .iload_n 2, 1), (19, .iastore, 1), (20, .aload_n 0, 1), (21, .getfield 64, 3), (24, .aload_n 0, 1), (25, .getfield 84, 3), (28, .iload_n 3, 1), (29, .iastore, 1), (30, .aload_n 0, 1), (31, .dup, 1), (32, .getfield 84, 3), (35, .iconst 1, 1), (36, .iadd, 1), (37, .putfield 84, 3), (40, .return_, 1)]
theorem mT_X5_later_ok : ix_tok cX5_later mT_X5_later = true := by decide +kernel
def mD_X5_later : ix_M := (5, yX5_later, cX5_later, 4, none, 3, 0, mT_X5_later, 779, 778, 44)
def mT_X5_later_ : ix_T := [(0, .aload_n 0, 1), (1, .getfield 99, 3), (4, .ifCond .eq 5, 3), (7, .iconst (-1), 1), (8, .ireturn, 1), (9, .iload_n 3, 1), (10, .invokestatic 181, 3), (13, .ifCond .eq 17, 3), (16, .aload_n 0, 1), (17, .iload 4, 2), (19, .invokevirtual 185, 3), (22, .ifCond .eq 8, 3), (25, .iload 5, 2), (27, .ifCond .ge 6, 3), (30, .bipush (-2), 2), (32, .ireturn, 1), (33, .aload_n 0, 1), (34, .iload_n 1, 1), (35, .iload_n 2, 1), (36, .invokevirtual 158, 3), (39, .istore 6, 2), (41, .iload 6, 2), (43, .ifCond .eq 6, 3), (46, .iload 6, 2), (48, .ireturn, 1), (49, .aload_n 0, 1), (50, .getfield 43, 3), (53, .iload_n 1, 1), (54, .iaload, 1), (55, .iconst (-1), 1), (56, .if_icmp .ne 6, 3), (59, .bipush (-5), 2), (61, .ireturn, 1), (62, .aload_n 0, 1), (63, .bipush 16, 2), (65, .aload_n 0, 1), (66, .invokevirtual 147, 3), (69, .invokevirtual 151, 3), (72, .ifCond .ne 6, 3), (75, .bipush (-8), 2), (77, .ireturn, 1), (78, .aload_n 0, 1), (79, .aload_n 0, 1), (80, .getfield 87, 3), (83, .iconst 3, 1), (84, .iload_n 1, 1), (85, .iload_n 2, 1), (86, .bipush 8, 2), (88, .iload_n 3, 1), (89, .imul, 1), (90, .iload 4, 2), (92, .iadd, 1), (93, .iload 5, 2), (95, .invokevirtual 129, 3), (98, .istore 7, 2), (100, .aload_n 0, 1), (101, .aload_n 0, 1), (102, .getfield 43, 3), (105, .iload_n 1, 1), (106, .iaload, 1), (107, .bipush 8, 2), (109, .iload_n 3, 1), (110, .imul, 1), (111, .iload 4, 2), (113, .iadd, 1), (114, .iload 5, 2), (116, .invokevirtual 188, 3), (119, .iconst 0, 1), (120, .ireturn, 1)]
theorem mT_X5_later__ok : ix_tok cX5_later_ mT_X5_later_ = true := by decide +kernel
def mD_X5_later_ : ix_M := (5, yX5_later_, cX5_later_, 8, (some (.int)), 5, 0, mT_X5_later_, 768, 766, 767)
def mT_X5_end : ix_T := [(0, .aload_n 0, 1), (1, .iload_n 1, 1), (2, .iload_n 2, 1), (3, .invokevirtual 158, 3), (6, .istore 4, 2), (8, .iload 4, 2), (10, .ifCond .eq 6, 3), (13, .iload 4, 2), (15, .ireturn, 1), (16, .aload_n 0, 1), (17, .getfield 43, 3), (20, .iload_n 1, 1), (21, .iaload, 1), (22, .iconst (-1), 1), (23, .if_icmp .ne 6, 3), (26, .bipush (-5), 2), (28, .ireturn, 1), (29, .aload_n 0, 1), (30, .iload_n 1, 1), (31, .iload_n 3, 1), (32, .invokevirtual 144, 3), (35, .iconst 0, 1), (36, .ireturn, 1)]
theorem mT_X5_end_ok : ix_tok cX5_end mT_X5_end = true := by decide +kernel
def mD_X5_end : ix_M := (5, yX5_end, cX5_end, 5, (some (.int)), 3, 0, mT_X5_end, 783, 781, 782)
def mT_X5_mark : ix_T := [(0, .aload_n 0, 1), (1, .getfield 99, 3), (4, .ifCond .eq 5, 3), (7, .iconst (-1), 1), (8, .ireturn, 1), (9, .iload_n 1, 1), (10, .invokestatic 181, 3), (13, .ifCond .eq 15, 3), (16, .aload_n 0, 1), (17, .iload_n 2, 1), (18, .invokevirtual 185, 3), (21, .ifCond .eq 7, 3), (24, .iload_n 3, 1), (25, .ifCond .ge 6, 3), (28, .bipush (-2), 2), (30, .ireturn, 1), (31, .aload_n 0, 1), (32, .bipush 16, 2), (34, .aload_n 0, 1), (35, .invokevirtual 147, 3), (38, .invokevirtual 151, 3), (41, .ifCond .ne 6, 3), (44, .bipush (-8), 2), (46, .ireturn, 1), (47, .aload_n 0, 1), (48, .aload_n 0, 1), (49, .getfield 87, 3), (52, .bipush 6, 2), (54, .iconst 0, 1), (55, .iconst 0, 1), (56, .bipush 8, 2), (58, .iload_n 1, 1), (59, .imul, 1), (60, .iload_n 2, 1), (61, .iadd, 1), (62, .iload_n 3, 1), (63, .invokevirtual 129, 3), (66, .istore 4, 2), (68, .aload_n 0, 1), (69, .getfield 52, 3), (72, .bipush 8, 2), (74, .iload_n 1, 1), (75, .imul, 1), (76, .iload_n 2, 1), (77, .iadd, 1), (78, .iload_n 3, 1), (79, .iastore, 1), (80, .iconst 0, 1), (81, .ireturn, 1)]
theorem mT_X5_mark_ok : ix_tok cX5_mark mT_X5_mark = true := by decide +kernel
def mD_X5_mark : ix_M := (5, yX5_mark, cX5_mark, 5, (some (.int)), 3, 0, mT_X5_mark, 787, 785, 786)
def mT_X5_marked : ix_T := [(0, .aload_n 0, 1), (1, .getfield 99, 3), (4, .ifCond .ne 18, 3), (7, .iload_n 1, 1), (8, .invokestatic 181, 3), (11, .ifCond .eq 11, 3), (14, .aload_n 0, 1), (15, .iload_n 2, 1), (16, .invokevirtual 185, 3), (19, .ifCond .ne 7, 3), (22, .iconst (-1), 1), (23, .goto 14, 3), (26, .aload_n 0, 1), (27, .getfield 52, 3), (30, .bipush 8, 2), (32, .iload_n 1, 1), (33, .imul, 1), (34, .iload_n 2, 1), (35, .iadd, 1), (36, .iaload, 1), (37, .ireturn, 1)]
theorem mT_X5_marked_ok : ix_tok cX5_marked mT_X5_marked = true := by decide +kernel
def mD_X5_marked : ix_M := (5, yX5_marked, cX5_marked, 3, (some (.int)), 2, 0, mT_X5_marked, 791, 789, 790)
def mT_X5_tick : ix_T := [(0, .iload_n 1, 1), (1, .ifCond .lt 21, 3), (4, .iload_n 1, 1), (5, .sipush 1000, 3), (8, .if_icmp .gt 14, 3), (11, .aload_n 0, 1), (12, .getfield 96, 3), (15, .iload_n 1, 1), (16, .iadd, 1), (17, .ldc 191, 2), (19, .if_icmp .le 6, 3), (22, .bipush (-2), 2), (24, .ireturn, 1), (25, .aload_n 0, 1), (26, .dup, 1), (27, .getfield 96, 3), (30, .iload_n 1, 1), (31, .iadd, 1), (32, .putfield 96, 3), (35, .iconst 0, 1), (36, .istore_n 2, 1), (37, .iconst 0, 1), (38, .istore_n 3, 1), (39, .iload_n 3, 1), (40, .aload_n 0, 1), (41, .getfield 80, 3), (44, .if_icmp .ge 78, 3), (47, .aload_n 0, 1), (48, .getfield 99, 3), (51, .ifCond .ne 71, 3), (54, .iconst 0, 1), (55, .istore 4, 2), (57, .iload 4, 2), (59, .bipush 32, 2), (61, .if_icmp .ge 55, 3), (64, .aload_n 0, 1), (65, .getfield 43, 3), (68, .iload 4, 2), (70, .iaload, 1), (71, .iload_n 3, 1), (72, .if_icmp .ne 38, 3), (75, .aload_n 0, 1), (76, .getfield 96, 3), (79, .aload_n 0, 1), (80, .getfield 46, 3), (83, .iload 4, 2), (85, .iaload, 1), (86, .isub, 1), (87, .aload_n 0, 1), (88, .getfield 93, 3), (91, .if_icmp .le 19, 3), (94, .aload_n 0, 1), (95, .iload 4, 2), (97, .iconst 0, 1), (98, .invokevirtual 144, 3), (101, .aload_n 0, 1), (102, .iload 4, 2), (104, .invokevirtual 155, 3), (107, .iinc 2 1, 3), (110, .iinc 4 1, 3), (113, .goto (-56), 3), (116, .iinc 3 1, 3), (119, .goto (-80), 3), (122, .iload_n 2, 1), (123, .ireturn, 1)]
theorem mT_X5_tick_ok : ix_tok cX5_tick mT_X5_tick = true := by decide +kernel
def mD_X5_tick : ix_M := (5, yX5_tick, cX5_tick, 5, (some (.int)), 1, 0, mT_X5_tick, 795, 793, 794)
def mT_X5_manyOf : ix_T := [(0, .iconst 0, 1), (1, .istore_n 2, 1), (2, .iconst 0, 1), (3, .istore_n 3, 1), (4, .iload_n 3, 1), (5, .aload_n 0, 1), (6, .getfield 106, 3), (9, .if_icmp .ge 27, 3), (12, .iload_n 2, 1), (13, .aload_n 0, 1), (14, .getfield 9, 3), (17, .iload_n 3, 1), (18, .iaload, 1), (19, .iload_n 1, 1), (20, .if_icmp .ne 7, 3), (23, .iconst 1, 1), (24, .goto 4, 3), (27, .iconst 0, 1), (28, .iadd, 1), (29, .istore_n 2, 1), (30, .iinc 3 1, 3), (33, .goto (-29), 3), (36, .iload_n 2, 1), (37, .ireturn, 1)]
theorem mT_X5_manyOf_ok : ix_tok cX5_manyOf mT_X5_manyOf = true := by decide +kernel
def mD_X5_manyOf : ix_M := (5, yX5_manyOf, cX5_manyOf, 4, (some (.int)), 1, 0, mT_X5_manyOf, 844, 843, 49)
def mT_X5_stable : ix_T := [(0, .iconst 0, 1), (1, .istore_n 2, 1), (2, .iconst 0, 1), (3, .istore_n 3, 1), (4, .iload_n 3, 1), (5, .aload_n 0, 1), (6, .getfield 106, 3), (9, .if_icmp .ge 51, 3), (12, .aload_n 0, 1), (13, .getfield 9, 3), (16, .iload_n 3, 1), (17, .iaload, 1), (18, .iload_n 1, 1), (19, .if_icmp .eq 6, 3), (22, .goto 32, 3), (25, .aload_n 0, 1), (26, .getfield 13, 3), (29, .iload_n 3, 1), (30, .iaload, 1), (31, .iconst 1, 1), (32, .if_icmp .ne 19, 3), (35, .aload_n 0, 1), (36, .getfield 55, 3), (39, .aload_n 0, 1), (40, .getfield 28, 3), (43, .iload_n 3, 1), (44, .iaload, 1), (45, .iaload, 1), (46, .ifCond .ne 5, 3), (49, .iload_n 2, 1), (50, .ireturn, 1), (51, .iinc 2 1, 3), (54, .iinc 3 1, 3), (57, .goto (-53), 3), (60, .iload_n 2, 1), (61, .ireturn, 1)]
theorem mT_X5_stable_ok : ix_tok cX5_stable mT_X5_stable = true := by decide +kernel
def mD_X5_stable : ix_M := (5, yX5_stable, cX5_stable, 4, (some (.int)), 1, 0, mT_X5_stable, 804, 803, 45)
def mT_X5_isSeen : ix_T := [(0, .aload_n 0, 1), (1, .getfield 13, 3), (4, .iload_n 1, 1), (5, .iaload, 1), (6, .iconst 1, 1), (7, .if_icmp .le 5, 3), (10, .iconst 0, 1), (11, .ireturn, 1), (12, .iload_n 2, 1), (13, .ifCond .eq 33, 3), (16, .iload_n 3, 1), (17, .iload 4, 2), (19, .if_icmp .ge 31, 3), (22, .aload_n 0, 1), (23, .getfield 13, 3), (26, .iload_n 1, 1), (27, .iaload, 1), (28, .ifCond .eq 18, 3), (31, .aload_n 0, 1), (32, .getfield 55, 3), (35, .aload_n 0, 1), (36, .getfield 28, 3), (39, .iload_n 1, 1), (40, .iaload, 1), (41, .iaload, 1), (42, .iconst 1, 1), (43, .if_icmp .ne 7, 3), (46, .iconst 1, 1), (47, .goto 4, 3), (50, .iconst 0, 1), (51, .ireturn, 1)]
theorem mT_X5_isSeen_ok : ix_tok cX5_isSeen mT_X5_isSeen = true := by decide +kernel
def mD_X5_isSeen : ix_M := (5, yX5_isSeen, cX5_isSeen, 5, (some (.boolean)), 4, 0, mT_X5_isSeen, 808, 807, 46)
def mT_X5_fetch : ix_T := [(0, .aload_n 0, 1), (1, .iconst 0, 1), (2, .putfield 115, 3), (5, .aload_n 0, 1), (6, .getfield 99, 3), (9, .ifCond .ne 15, 3), (12, .aload_n 0, 1), (13, .iload_n 1, 1), (14, .invokevirtual 185, 3), (17, .ifCond .eq 7, 3), (20, .iload_n 2, 1), (21, .ifCond .ge 5, 3), (24, .iconst (-1), 1), (25, .ireturn, 1), (26, .aload_n 0, 1), (27, .iload_n 1, 1), (28, .invokevirtual 192, 3), (31, .istore 4, 2), (33, .iconst 0, 1), (34, .istore 5, 2), (36, .iconst 0, 1), (37, .istore 6, 2), (39, .iload 6, 2), (41, .aload_n 0, 1), (42, .getfield 106, 3), (45, .if_icmp .ge 98, 3), (48, .aload_n 0, 1), (49, .getfield 9, 3), (52, .iload 6, 2), (54, .iaload, 1), (55, .iload_n 1, 1), (56, .if_icmp .eq 6, 3), (59, .goto 78, 3), (62, .iload 5, 2), (64, .iload_n 2, 1), (65, .if_icmp .lt 69, 3), (68, .aload_n 0, 1), (69, .iload 6, 2), (71, .iload_n 3, 1), (72, .iload 5, 2), (74, .iload 4, 2), (76, .invokevirtual 195, 3), (79, .ifCond .eq 55, 3), (82, .aload_n 0, 1), (83, .aload_n 0, 1), (84, .getfield 25, 3), (87, .iload 6, 2), (89, .iaload, 1), (90, .putfield 115, 3), (93, .iconst 0, 1), (94, .istore 7, 2), (96, .iload 7, 2), (98, .aload_n 0, 1), (99, .getfield 115, 3), (102, .if_icmp .ge 29, 3), (105, .aload_n 0, 1), (106, .getfield 70, 3), (109, .iload 7, 2), (111, .aload_n 0, 1), (112, .getfield 32, 3), (115, .bipush 40, 2), (117, .iload 6, 2), (119, .imul, 1), (120, .iload 7, 2), (122, .iadd, 1), (123, .baload, 1), (124, .bastore, 1), (125, .iinc 7 1, 3), (128, .goto (-32), 3), (131, .iload 5, 2), (133, .ireturn, 1), (134, .iinc 5 1, 3), (137, .iinc 6 1, 3), (140, .goto (-101), 3), (143, .iconst (-1), 1), (144, .ireturn, 1)]
theorem mT_X5_fetch_ok : ix_tok cX5_fetch mT_X5_fetch = true := by decide +kernel
def mD_X5_fetch : ix_M := (5, yX5_fetch, cX5_fetch, 8, (some (.int)), 3, 0, mT_X5_fetch, 800, 798, 799)
def mT_X5_answer : ix_T := [(0, .iload_n 1, 1), (1, .ifCond .lt 11, 3), (4, .iload_n 1, 1), (5, .aload_n 0, 1), (6, .getfield 115, 3), (9, .if_icmp .lt 7, 3), (12, .iconst (-1), 1), (13, .goto 13, 3), (16, .aload_n 0, 1), (17, .getfield 70, 3), (20, .iload_n 1, 1), (21, .baload, 1), (22, .sipush 255, 3), (25, .iand, 1), (26, .ireturn, 1)]
theorem mT_X5_answer_ok : ix_tok cX5_answer mT_X5_answer = true := by decide +kernel
def mD_X5_answer : ix_M := (5, yX5_answer, cX5_answer, 2, (some (.int)), 1, 0, mT_X5_answer, 812, 810, 811)
def mT_X5_feed : ix_T := [(0, .iload_n 1, 1), (1, .iconst 1, 1), (2, .if_icmp .lt 20, 3), (5, .iload_n 1, 1), (6, .bipush 16, 2), (8, .if_icmp .gt 14, 3), (11, .aload_n 0, 1), (12, .getfield 168, 3), (15, .iload_n 1, 1), (16, .iadd, 1), (17, .bipush 40, 2), (19, .if_icmp .le 5, 3), (22, .iconst (-1), 1), (23, .ireturn, 1), (24, .iconst 0, 1), (25, .istore 6, 2), (27, .iload 6, 2), (29, .iload_n 1, 1), (30, .if_icmp .ge 52, 3), (33, .aload_n 0, 1), (34, .getfield 67, 3), (37, .aload_n 0, 1), (38, .getfield 168, 3), (41, .iload 6, 2), (43, .bipush 8, 2), (45, .if_icmp .ge 7, 3), (48, .lload_n 2, 1), (49, .goto 5, 3), (52, .lload 4, 2), (54, .bipush 8, 2), (56, .iload 6, 2), (58, .bipush 8, 2), (60, .irem, 1), (61, .imul, 1), (62, .lshr, 1), (63, .l2i, 1), (64, .i2b, 1), (65, .bastore, 1), (66, .aload_n 0, 1), (67, .dup, 1), (68, .getfield 168, 3), (71, .iconst 1, 1), (72, .iadd, 1), (73, .putfield 168, 3), (76, .iinc 6 1, 3), (79, .goto (-52), 3), (82, .aload_n 0, 1), (83, .getfield 168, 3), (86, .ireturn, 1)]
theorem mT_X5_feed_ok : ix_tok cX5_feed mT_X5_feed = true := by decide +kernel
def mD_X5_feed : ix_M := (5, yX5_feed, cX5_feed, 7, (some (.int)), 3, 0, mT_X5_feed, 816, 814, 815)
def mT_X5_sync : ix_T := [(0, .aload_n 0, 1), (1, .getfield 99, 3), (4, .ifCond .eq 5, 3), (7, .iconst (-1), 1), (8, .ireturn, 1), (9, .aload_n 0, 1), (10, .invokevirtual 199, 3), (13, .istore_n 1, 1), (14, .aload_n 0, 1), (15, .aload_n 0, 1), (16, .getfield 106, 3), (19, .putfield 109, 3), (22, .iload_n 1, 1), (23, .ireturn, 1)]
theorem mT_X5_sync_ok : ix_tok cX5_sync mT_X5_sync = true := by decide +kernel
def mD_X5_sync : ix_M := (5, yX5_sync, cX5_sync, 2, (some (.int)), 0, 0, mT_X5_sync, 820, 818, 819)
def mT_X5_crash : ix_T := [(0, .aload_n 0, 1), (1, .getfield 99, 3), (4, .ifCond .eq 5, 3), (7, .iconst (-1), 1), (8, .ireturn, 1), (9, .aload_n 0, 1), (10, .invokevirtual 199, 3), (13, .istore_n 2, 1), (14, .iload_n 1, 1), (15, .ifCond .lt 8, 3), (18, .iload_n 1, 1), (19, .iload_n 2, 1), (20, .if_icmp .le 6, 3), (23, .bipush (-2), 2), (25, .ireturn, 1), (26, .iload_n 1, 1), (27, .istore_n 3, 1), (28, .aload_n 0, 1), (29, .getfield 109, 3), (32, .istore 4, 2), (34, .iload 4, 2), (36, .aload_n 0, 1), (37, .getfield 106, 3), (40, .if_icmp .ge 28, 3), (43, .aload_n 0, 1), (44, .iload 4, 2), (46, .invokevirtual 121, 3), (49, .iload_n 3, 1), (50, .if_icmp .gt 18, 3), (53, .iload_n 3, 1), (54, .aload_n 0, 1), (55, .iload 4, 2), (57, .invokevirtual 121, 3), (60, .isub, 1), (61, .istore_n 3, 1), (62, .iinc 4 1, 3), (65, .goto (-31), 3), (68, .aload_n 0, 1), (69, .iload 4, 2), (71, .putfield 106, 3), (74, .aload_n 0, 1), (75, .iload 4, 2), (77, .putfield 109, 3), (80, .aload_n 0, 1), (81, .iload_n 3, 1), (82, .putfield 112, 3), (85, .aload_n 0, 1), (86, .iconst 1, 1), (87, .putfield 99, 3), (90, .aload_n 0, 1), (91, .invokevirtual 118, 3), (94, .iload_n 2, 1), (95, .iload_n 1, 1), (96, .isub, 1), (97, .ireturn, 1)]
theorem mT_X5_crash_ok : ix_tok cX5_crash mT_X5_crash = true := by decide +kernel
def mD_X5_crash : ix_M := (5, yX5_crash, cX5_crash, 5, (some (.int)), 1, 0, mT_X5_crash, 828, 826, 827)
def mT_X5_tells : ix_T := [(0, .aload_n 0, 1), (1, .getfield 16, 3), (4, .iload_n 1, 1), (5, .iaload, 1), (6, .istore_n 2, 1), (7, .aload_n 0, 1), (8, .getfield 13, 3), (11, .iload_n 1, 1), (12, .iaload, 1), (13, .tableswitch 183 0 5 #[39, 61, 81, 101, 126, 155], 39), (52, .aload_n 0, 1), (53, .getfield 36, 3), (56, .iload_n 2, 1), (57, .iconst 1, 1), (58, .bastore, 1), (59, .aload_n 0, 1), (60, .getfield 40, 3), (63, .iload_n 2, 1), (64, .aload_n 0, 1), (65, .getfield 19, 3), (68, .iload_n 1, 1), (69, .iaload, 1), (70, .iastore, 1), (71, .goto 142, 3), (74, .aload_n 0, 1), (75, .iload_n 2, 1), (76, .aload_n 0, 1), (77, .getfield 25, 3), (80, .iload_n 1, 1), (81, .iaload, 1), (82, .aload_n 0, 1), (83, .getfield 22, 3), (86, .iload_n 1, 1), (87, .iaload, 1), (88, .invokevirtual 161, 3), (91, .goto 122, 3), (94, .aload_n 0, 1), (95, .getfield 49, 3), (98, .iload_n 2, 1), (99, .dup2, 1), (100, .iaload, 1), (101, .iconst 1, 1), (102, .aload_n 0, 1), (103, .getfield 22, 3), (106, .iload_n 1, 1), (107, .iaload, 1), (108, .ishl, 1), (109, .ior, 1), (110, .iastore, 1), (111, .goto 102, 3), (114, .aload_n 0, 1), (115, .aload_n 0, 1), (116, .getfield 43, 3), (119, .iload_n 2, 1), (120, .iaload, 1), (121, .aload_n 0, 1), (122, .getfield 22, 3), (125, .iload_n 1, 1), (126, .iaload, 1), (127, .aload_n 0, 1), (128, .getfield 25, 3), (131, .iload_n 1, 1), (132, .iaload, 1), (133, .invokevirtual 188, 3), (136, .goto 77, 3), (139, .aload_n 0, 1), (140, .getfield 73, 3), (143, .aload_n 0, 1), (144, .getfield 25, 3), (147, .iload_n 1, 1), (148, .iaload, 1), (149, .aload_n 0, 1), (150, .getfield 22, 3), (153, .iload_n 1, 1), (154, .iaload, 1), (155, .iconst 1, 1), (156, .if_icmp .ne 7, 3), (159, .iconst 1, 1), (160, .goto 4, 3), (163, .iconst 2, 1), (164, .iastore, 1), (165, .goto 48, 3), (168, .aload_n 0, 1), (169, .iload_n 2, 1), (170, .aload_n 0, 1), (171, .getfield 73, 3), (174, .aload_n 0, 1), (175, .getfield 25, 3), (178, .iload_n 1, 1), (179, .iaload, 1), (180, .iaload, 1), (181, .iconst 1, 1), (182, .if_icmp .ne 7, 3), (185, .iconst 1, 1), (186, .goto 4, 3), (189, .iconst 0, 1), (190, .invokevirtual 133, 3), (193, .goto 20, 3), (196, .aload_n 0, 1), (197, .getfield 52, 3), (200, .aload_n 0, 1), (201, .getfield 22, 3), (204, .iload_n 1, 1), (205, .iaload, 1), (206, .aload_n 0, 1), (207, .getfield 25, 3), (210, .iload_n 1, 1), (211, .iaload, 1), (212, .iastore, 1), (213, .return_, 1)]
theorem mT_X5_tells_ok : ix_tok cX5_tells mT_X5_tells = true := by decide +kernel
def mD_X5_tells : ix_M := (5, yX5_tells, cX5_tells, 3, none, 1, 0, mT_X5_tells, 836, 835, 48)
def mT_X5_open : ix_T := [(0, .aload_n 0, 1), (1, .getfield 99, 3), (4, .ifCond .ne 5, 3), (7, .iconst (-1), 1), (8, .ireturn, 1), (9, .aload_n 0, 1), (10, .iconst 0, 1), (11, .putfield 99, 3), (14, .aload_n 0, 1), (15, .aload_n 0, 1), (16, .getfield 112, 3), (19, .putfield 103, 3), (22, .aload_n 0, 1), (23, .iconst 0, 1), (24, .putfield 112, 3), (27, .iconst 0, 1), (28, .istore_n 1, 1), (29, .iload_n 1, 1), (30, .sipush 1100, 3), (33, .if_icmp .ge 16, 3), (36, .aload_n 0, 1), (37, .getfield 73, 3), (40, .iload_n 1, 1), (41, .iconst 0, 1), (42, .iastore, 1), (43, .iinc 1 1, 3), (46, .goto (-17), 3), (49, .iconst 0, 1), (50, .istore_n 1, 1), (51, .iload_n 1, 1), (52, .aload_n 0, 1), (53, .getfield 106, 3), (56, .if_icmp .ge 27, 3), (59, .aload_n 0, 1), (60, .getfield 9, 3), (63, .iload_n 1, 1), (64, .iaload, 1), (65, .aload_n 0, 1), (66, .getfield 87, 3), (69, .if_icmp .ne 8, 3), (72, .aload_n 0, 1), (73, .iload_n 1, 1), (74, .invokevirtual 202, 3), (77, .iinc 1 1, 3), (80, .goto (-29), 3), (83, .iconst 0, 1), (84, .istore_n 1, 1), (85, .iconst 0, 1), (86, .istore_n 2, 1), (87, .iload_n 2, 1), (88, .aload_n 0, 1), (89, .getfield 80, 3), (92, .if_icmp .ge 65, 3), (95, .iconst 0, 1), (96, .istore_n 3, 1), (97, .iload_n 3, 1), (98, .bipush 32, 2), (100, .if_icmp .ge 51, 3), (103, .aload_n 0, 1), (104, .getfield 43, 3), (107, .iload_n 3, 1), (108, .iaload, 1), (109, .iload_n 2, 1), (110, .if_icmp .ne 35, 3), (113, .aload_n 0, 1), (114, .getfield 73, 3), (117, .iload_n 2, 1), (118, .iaload, 1), (119, .ifCond .eq 26, 3), (122, .aload_n 0, 1), (123, .iload_n 3, 1), (124, .aload_n 0, 1), (125, .getfield 73, 3), (128, .iload_n 2, 1), (129, .iaload, 1), (130, .iconst 1, 1), (131, .if_icmp .ne 7, 3), (134, .iconst 1, 1), (135, .goto 4, 3), (138, .iconst 0, 1), (139, .invokevirtual 141, 3), (142, .iinc 1 1, 3), (145, .iinc 3 1, 3), (148, .goto (-51), 3), (151, .iinc 2 1, 3), (154, .goto (-67), 3), (157, .iload_n 1, 1), (158, .ireturn, 1)]
theorem mT_X5_open_ok : ix_tok cX5_open mT_X5_open = true := by decide +kernel
def mD_X5_open : ix_M := (5, yX5_open, cX5_open, 4, (some (.int)), 0, 0, mT_X5_open, 832, 830, 831)
def mT_X5_partition : ix_T := [(0, .aload_n 0, 1), (1, .iload_n 1, 1), (2, .invokevirtual 185, 3), (5, .ifCond .ne 5, 3), (8, .iconst (-1), 1), (9, .ireturn, 1), (10, .iload_n 2, 1), (11, .tableswitch 110 0 5 #[37, 43, 60, 66, 76, 93], 37), (48, .aload_n 0, 1), (49, .iload_n 1, 1), (50, .invokevirtual 205, 3), (53, .ireturn, 1), (54, .aload_n 0, 1), (55, .getfield 99, 3), (58, .ifCond .eq 7, 3), (61, .iconst (-1), 1), (62, .goto 8, 3), (65, .aload_n 0, 1), (66, .iload_n 1, 1), (67, .invokevirtual 192, 3), (70, .ireturn, 1), (71, .aload_n 0, 1), (72, .iload_n 1, 1), (73, .invokevirtual 208, 3), (76, .ireturn, 1), (77, .aload_n 0, 1), (78, .iload_n 1, 1), (79, .aload_n 0, 1), (80, .getfield 109, 3), (83, .invokevirtual 125, 3), (86, .ireturn, 1), (87, .aload_n 0, 1), (88, .getfield 99, 3), (91, .ifCond .eq 7, 3), (94, .iconst (-1), 1), (95, .goto 8, 3), (98, .aload_n 0, 1), (99, .iload_n 1, 1), (100, .invokevirtual 211, 3), (103, .ireturn, 1), (104, .aload_n 0, 1), (105, .getfield 99, 3), (108, .ifCond .eq 7, 3), (111, .iconst (-1), 1), (112, .goto 8, 3), (115, .aload_n 0, 1), (116, .iload_n 1, 1), (117, .invokevirtual 178, 3), (120, .ireturn, 1), (121, .iconst (-1), 1), (122, .ireturn, 1)]
theorem mT_X5_partition_ok : ix_tok cX5_partition mT_X5_partition = true := by decide +kernel
def mD_X5_partition : ix_M := (5, yX5_partition, cX5_partition, 3, (some (.int)), 2, 0, mT_X5_partition, 840, 838, 839)
def mT_X5_bytesOf : ix_T := [(0, .aload_n 0, 1), (1, .iload_n 1, 1), (2, .iconst 0, 1), (3, .invokevirtual 125, 3), (6, .aload_n 0, 1), (7, .getfield 112, 3), (10, .ifCond .le 23, 3), (13, .aload_n 0, 1), (14, .getfield 9, 3), (17, .aload_n 0, 1), (18, .getfield 106, 3), (21, .iaload, 1), (22, .iload_n 1, 1), (23, .if_icmp .ne 10, 3), (26, .aload_n 0, 1), (27, .getfield 112, 3), (30, .goto 4, 3), (33, .iconst 0, 1), (34, .iadd, 1), (35, .ireturn, 1)]
theorem mT_X5_bytesOf_ok : ix_tok cX5_bytesOf mT_X5_bytesOf = true := by decide +kernel
def mD_X5_bytesOf : ix_M := (5, yX5_bytesOf, cX5_bytesOf, 2, (some (.int)), 1, 0, mT_X5_bytesOf, 848, 847, 50)
def mT_X5_seenOf : ix_T := [(0, .aload_n 0, 1), (1, .iload_n 1, 1), (2, .invokevirtual 192, 3), (5, .istore_n 2, 1), (6, .iconst 0, 1), (7, .istore_n 3, 1), (8, .iconst 0, 1), (9, .istore 4, 2), (11, .iconst 0, 1), (12, .istore 5, 2), (14, .iload 5, 2), (16, .aload_n 0, 1), (17, .getfield 106, 3), (20, .if_icmp .ge 45, 3), (23, .aload_n 0, 1), (24, .getfield 9, 3), (27, .iload 5, 2), (29, .iaload, 1), (30, .iload_n 1, 1), (31, .if_icmp .ne 28, 3), (34, .iload 4, 2), (36, .aload_n 0, 1), (37, .iload 5, 2), (39, .iconst 1, 1), (40, .iload_n 3, 1), (41, .iload_n 2, 1), (42, .invokevirtual 195, 3), (45, .ifCond .eq 7, 3), (48, .iconst 1, 1), (49, .goto 4, 3), (52, .iconst 0, 1), (53, .iadd, 1), (54, .istore 4, 2), (56, .iinc 3 1, 3), (59, .iinc 5 1, 3), (62, .goto (-48), 3), (65, .iload 4, 2), (67, .ireturn, 1)]
theorem mT_X5_seenOf_ok : ix_tok cX5_seenOf mT_X5_seenOf = true := by decide +kernel
def mD_X5_seenOf : ix_M := (5, yX5_seenOf, cX5_seenOf, 6, (some (.int)), 1, 0, mT_X5_seenOf, 852, 851, 51)
def mT_X5_entry : ix_T := [(0, .aload_n 0, 1), (1, .iload_n 1, 1), (2, .invokevirtual 185, 3), (5, .ifCond .eq 7, 3), (8, .iload_n 2, 1), (9, .ifCond .ge 5, 3), (12, .iconst (-1), 1), (13, .ireturn, 1), (14, .iload_n 2, 1), (15, .istore 4, 2), (17, .iconst 0, 1), (18, .istore 5, 2), (20, .iload 5, 2), (22, .aload_n 0, 1), (23, .getfield 106, 3), (26, .if_icmp .ge 107, 3), (29, .aload_n 0, 1), (30, .getfield 9, 3), (33, .iload 5, 2), (35, .iaload, 1), (36, .iload_n 1, 1), (37, .if_icmp .eq 6, 3), (40, .goto 87, 3), (43, .iload 4, 2), (45, .ifCond .ne 79, 3), (48, .iload_n 3, 1), (49, .ifCond .ne 13, 3), (52, .aload_n 0, 1), (53, .getfield 13, 3), (56, .iload 5, 2), (58, .iaload, 1), (59, .goto 64, 3), (62, .iload_n 3, 1), (63, .iconst 1, 1), (64, .if_icmp .ne 13, 3), (67, .aload_n 0, 1), (68, .getfield 16, 3), (71, .iload 5, 2), (73, .iaload, 1), (74, .goto 49, 3), (77, .iload_n 3, 1), (78, .iconst 2, 1), (79, .if_icmp .ne 13, 3), (82, .aload_n 0, 1), (83, .getfield 19, 3), (86, .iload 5, 2), (88, .iaload, 1), (89, .goto 34, 3), (92, .iload_n 3, 1), (93, .iconst 3, 1), (94, .if_icmp .ne 13, 3), (97, .aload_n 0, 1), (98, .getfield 22, 3), (101, .iload 5, 2), (103, .iaload, 1), (104, .goto 19, 3), (107, .iload_n 3, 1), (108, .iconst 4, 1), (109, .if_icmp .ne 13, 3), (112, .aload_n 0, 1), (113, .getfield 25, 3), (116, .iload 5, 2), (118, .iaload, 1), (119, .goto 4, 3), (122, .iconst (-1), 1), (123, .ireturn, 1), (124, .iinc 4 (-1), 3), (127, .iinc 5 1, 3), (130, .goto (-110), 3), (133, .iconst (-1), 1), (134, .ireturn, 1)]
theorem mT_X5_entry_ok : ix_tok cX5_entry mT_X5_entry = true := by decide +kernel
def mD_X5_entry : ix_M := (5, yX5_entry, cX5_entry, 6, (some (.int)), 3, 0, mT_X5_entry, 856, 854, 855)
def mT_X5_producer : ix_T := [(0, .aload_n 0, 1), (1, .getfield 99, 3), (4, .ifCond .ne 22, 3), (7, .iload_n 1, 1), (8, .ifCond .lt 18, 3), (11, .iload_n 1, 1), (12, .bipush 31, 2), (14, .if_icmp .gt 12, 3), (17, .aload_n 0, 1), (18, .getfield 36, 3), (21, .iload_n 1, 1), (22, .baload, 1), (23, .ifCond .ne 5, 3), (26, .iconst (-1), 1), (27, .ireturn, 1), (28, .iload_n 2, 1), (29, .tableswitch 147 0 4 #[35, 42, 49, 70, 91], 35), (64, .aload_n 0, 1), (65, .getfield 40, 3), (68, .iload_n 1, 1), (69, .iaload, 1), (70, .ireturn, 1), (71, .aload_n 0, 1), (72, .getfield 43, 3), (75, .iload_n 1, 1), (76, .iaload, 1), (77, .ireturn, 1), (78, .aload_n 0, 1), (79, .getfield 43, 3), (82, .iload_n 1, 1), (83, .iaload, 1), (84, .iconst (-1), 1), (85, .if_icmp .ne 7, 3), (88, .iconst (-1), 1), (89, .goto 9, 3), (92, .aload_n 0, 1), (93, .getfield 46, 3), (96, .iload_n 1, 1), (97, .iaload, 1), (98, .ireturn, 1), (99, .aload_n 0, 1), (100, .getfield 43, 3), (103, .iload_n 1, 1), (104, .iaload, 1), (105, .iconst (-1), 1), (106, .if_icmp .ne 7, 3), (109, .iconst 0, 1), (110, .goto 9, 3), (113, .aload_n 0, 1), (114, .getfield 49, 3), (117, .iload_n 1, 1), (118, .iaload, 1), (119, .ireturn, 1), (120, .iconst 0, 1), (121, .istore_n 3, 1), (122, .iconst 0, 1), (123, .istore 4, 2), (125, .iload 4, 2), (127, .aload_n 0, 1), (128, .getfield 84, 3), (131, .if_icmp .ge 43, 3), (134, .aload_n 0, 1), (135, .getfield 43, 3), (138, .iload_n 1, 1), (139, .iaload, 1), (140, .iconst (-1), 1), (141, .if_icmp .eq 33, 3), (144, .iload_n 3, 1), (145, .aload_n 0, 1), (146, .getfield 58, 3), (149, .iload 4, 2), (151, .iaload, 1), (152, .aload_n 0, 1), (153, .getfield 43, 3), (156, .iload_n 1, 1), (157, .iaload, 1), (158, .if_icmp .ne 7, 3), (161, .iconst 1, 1), (162, .goto 4, 3), (165, .iconst 0, 1), (166, .iadd, 1), (167, .istore_n 3, 1), (168, .iinc 4 1, 3), (171, .goto (-46), 3), (174, .iload_n 3, 1), (175, .ireturn, 1), (176, .iconst (-1), 1), (177, .ireturn, 1)]
theorem mT_X5_producer_ok : ix_tok cX5_producer mT_X5_producer = true := by decide +kernel
def mD_X5_producer : ix_M := (5, yX5_producer, cX5_producer, 5, (some (.int)), 2, 0, mT_X5_producer, 860, 858, 859)
def mT_X5_next : ix_T := [(0, .aload_n 0, 1), (1, .getfield 99, 3), (4, .ifCond .ne 30, 3), (7, .iload_n 1, 1), (8, .ifCond .lt 26, 3), (11, .iload_n 1, 1), (12, .bipush 31, 2), (14, .if_icmp .gt 20, 3), (17, .aload_n 0, 1), (18, .getfield 36, 3), (21, .iload_n 1, 1), (22, .baload, 1), (23, .ifCond .eq 11, 3), (26, .aload_n 0, 1), (27, .iload_n 2, 1), (28, .invokevirtual 185, 3), (31, .ifCond .ne 7, 3), (34, .iconst (-1), 1), (35, .goto 9, 3), (38, .aload_n 0, 1), (39, .iload_n 1, 1), (40, .iload_n 2, 1), (41, .invokevirtual 175, 3), (44, .ireturn, 1)]
theorem mT_X5_next_ok : ix_tok cX5_next mT_X5_next = true := by decide +kernel
def mD_X5_next : ix_M := (5, yX5_next, cX5_next, 3, (some (.int)), 2, 0, mT_X5_next, 864, 862, 863)
def mT_X5_byteIn : ix_T := [(0, .iload_n 0, 1), (1, .bipush 8, 2), (3, .iload_n 1, 1), (4, .iconst 1, 1), (5, .isub, 1), (6, .iload_n 2, 1), (7, .isub, 1), (8, .imul, 1), (9, .ishr, 1), (10, .sipush 255, 3), (13, .iand, 1), (14, .ireturn, 1)]
theorem mT_X5_byteIn_ok : ix_tok cX5_byteIn mT_X5_byteIn = true := by decide +kernel
def mD_X5_byteIn : ix_M := (5, yX5_byteIn, cX5_byteIn, 3, (some (.int)), 3, 1, mT_X5_byteIn, 879, 878, 878)
def mT_X5_behind : ix_T := [(0, .aload_n 0, 1), (1, .getfield 9, 3), (4, .iload_n 1, 1), (5, .iaload, 1), (6, .aload_n 0, 1), (7, .getfield 87, 3), (10, .if_icmp .ne 92, 3), (13, .iload_n 2, 1), (14, .iconst 4, 1), (15, .if_icmp .ne 12, 3), (18, .aload_n 0, 1), (19, .getfield 13, 3), (22, .iload_n 1, 1), (23, .iaload, 1), (24, .goto 77, 3), (27, .iload_n 2, 1), (28, .iconst 5, 1), (29, .if_icmp .ne 12, 3), (32, .aload_n 0, 1), (33, .getfield 16, 3), (36, .iload_n 1, 1), (37, .iaload, 1), (38, .goto 63, 3), (41, .iload_n 2, 1), (42, .bipush 8, 2), (44, .if_icmp .ge 20, 3), (47, .aload_n 0, 1), (48, .getfield 19, 3), (51, .iload_n 1, 1), (52, .iaload, 1), (53, .iconst 2, 1), (54, .iload_n 2, 1), (55, .bipush 6, 2), (57, .isub, 1), (58, .invokestatic 214, 3), (61, .goto 40, 3), (64, .iload_n 2, 1), (65, .bipush 12, 2), (67, .if_icmp .ge 20, 3), (70, .aload_n 0, 1), (71, .getfield 22, 3), (74, .iload_n 1, 1), (75, .iaload, 1), (76, .iconst 4, 1), (77, .iload_n 2, 1), (78, .bipush 8, 2), (80, .isub, 1), (81, .invokestatic 214, 3), (84, .goto 17, 3), (87, .aload_n 0, 1), (88, .getfield 25, 3), (91, .iload_n 1, 1), (92, .iaload, 1), (93, .iconst 4, 1), (94, .iload_n 2, 1), (95, .bipush 12, 2), (97, .isub, 1), (98, .invokestatic 214, 3), (101, .ireturn, 1), (102, .iload_n 2, 1), (103, .bipush 6, 2), (105, .if_icmp .ge 17, 3), (108, .aload_n 0, 1), (109, .getfield 25, 3), (112, .iload_n 1, 1), (113, .iaload, 1), (114, .iconst 2, 1), (115, .iload_n 2, 1), (116, .iconst 4, 1), (117, .isub, 1), (118, .invokestatic 214, 3), (121, .ireturn, 1), (122, .iload_n 2, 1), (123, .bipush 8, 2), (125, .if_icmp .ge 25, 3), (128, .iload_n 2, 1), (129, .bipush 6, 2), (131, .if_icmp .ne 12, 3), (134, .aload_n 0, 1), (135, .getfield 13, 3), (138, .iload_n 1, 1), (139, .iaload, 1), (140, .goto 9, 3), (143, .aload_n 0, 1), (144, .getfield 16, 3), (147, .iload_n 1, 1), (148, .iaload, 1), (149, .ireturn, 1), (150, .iload_n 2, 1), (151, .bipush 10, 2), (153, .if_icmp .ge 20, 3), (156, .aload_n 0, 1), (157, .getfield 19, 3), (160, .iload_n 1, 1), (161, .iaload, 1), (162, .iconst 2, 1), (163, .iload_n 2, 1), (164, .bipush 8, 2), (166, .isub, 1), (167, .invokestatic 214, 3), (170, .goto 44, 3), (173, .iload_n 2, 1), (174, .bipush 14, 2), (176, .if_icmp .ge 20, 3), (179, .aload_n 0, 1), (180, .getfield 22, 3), (183, .iload_n 1, 1), (184, .iaload, 1), (185, .iconst 4, 1), (186, .iload_n 2, 1), (187, .bipush 10, 2), (189, .isub, 1), (190, .invokestatic 214, 3), (193, .goto 21, 3), (196, .aload_n 0, 1), (197, .getfield 32, 3), (200, .bipush 40, 2), (202, .iload_n 1, 1), (203, .imul, 1), (204, .iload_n 2, 1), (205, .iadd, 1), (206, .bipush 14, 2), (208, .isub, 1), (209, .baload, 1), (210, .sipush 255, 3), (213, .iand, 1), (214, .ireturn, 1)]
theorem mT_X5_behind_ok : ix_tok cX5_behind mT_X5_behind = true := by decide +kernel
def mD_X5_behind : ix_M := (5, yX5_behind, cX5_behind, 3, (some (.int)), 2, 0, mT_X5_behind, 876, 875, 53)
def mT_X5_byteAt : ix_T := [(0, .iload_n 2, 1), (1, .iconst 4, 1), (2, .if_icmp .lt 10, 3), (5, .aload_n 0, 1), (6, .iload_n 1, 1), (7, .iload_n 2, 1), (8, .invokevirtual 217, 3), (11, .ireturn, 1), (12, .bipush 17, 2), (14, .istore_n 3, 1), (15, .iconst 4, 1), (16, .istore 4, 2), (18, .iload 4, 2), (20, .aload_n 0, 1), (21, .iload_n 1, 1), (22, .invokevirtual 121, 3), (25, .if_icmp .ge 22, 3), (28, .iload_n 3, 1), (29, .bipush 31, 2), (31, .imul, 1), (32, .aload_n 0, 1), (33, .iload_n 1, 1), (34, .iload 4, 2), (36, .invokevirtual 217, 3), (39, .iadd, 1), (40, .istore_n 3, 1), (41, .iinc 4 1, 3), (44, .goto (-26), 3), (47, .iload_n 3, 1), (48, .iconst 4, 1), (49, .iload_n 2, 1), (50, .invokestatic 214, 3), (53, .ireturn, 1)]
theorem mT_X5_byteAt_ok : ix_tok cX5_byteAt mT_X5_byteAt = true := by decide +kernel
def mD_X5_byteAt : ix_M := (5, yX5_byteAt, cX5_byteAt, 5, (some (.int)), 2, 0, mT_X5_byteAt, 872, 871, 52)
def mT_X5_byteOf : ix_T := [(0, .iload_n 1, 1), (1, .ifCond .lt 24, 3), (4, .iload_n 1, 1), (5, .aload_n 0, 1), (6, .getfield 87, 3), (9, .if_icmp .gt 16, 3), (12, .iload_n 2, 1), (13, .ifCond .lt 12, 3), (16, .iload_n 2, 1), (17, .aload_n 0, 1), (18, .iload_n 1, 1), (19, .invokevirtual 208, 3), (22, .if_icmp .lt 5, 3), (25, .iconst (-1), 1), (26, .ireturn, 1), (27, .iload_n 2, 1), (28, .istore_n 3, 1), (29, .iconst 0, 1), (30, .istore 4, 2), (32, .iload 4, 2), (34, .aload_n 0, 1), (35, .getfield 106, 3), (38, .if_icmp .ge 50, 3), (41, .aload_n 0, 1), (42, .getfield 9, 3), (45, .iload 4, 2), (47, .iaload, 1), (48, .iload_n 1, 1), (49, .if_icmp .eq 6, 3), (52, .goto 30, 3), (55, .iload_n 3, 1), (56, .aload_n 0, 1), (57, .iload 4, 2), (59, .invokevirtual 121, 3), (62, .if_icmp .ge 11, 3), (65, .aload_n 0, 1), (66, .iload 4, 2), (68, .iload_n 3, 1), (69, .invokevirtual 220, 3), (72, .ireturn, 1), (73, .iload_n 3, 1), (74, .aload_n 0, 1), (75, .iload 4, 2), (77, .invokevirtual 121, 3), (80, .isub, 1), (81, .istore_n 3, 1), (82, .iinc 4 1, 3), (85, .goto (-53), 3), (88, .aload_n 0, 1), (89, .aload_n 0, 1), (90, .getfield 106, 3), (93, .iload_n 3, 1), (94, .invokevirtual 220, 3), (97, .ireturn, 1)]
theorem mT_X5_byteOf_ok : ix_tok cX5_byteOf mT_X5_byteOf = true := by decide +kernel
def mD_X5_byteOf : ix_M := (5, yX5_byteOf, cX5_byteOf, 5, (some (.int)), 2, 0, mT_X5_byteOf, 868, 866, 867)
def mT_X5_count : ix_T := [(0, .iconst 0, 1), (1, .istore_n 2, 1), (2, .iconst 0, 1), (3, .istore_n 3, 1), (4, .iload_n 3, 1), (5, .bipush 32, 2), (7, .if_icmp .ge 26, 3), (10, .iload_n 2, 1), (11, .aload_n 0, 1), (12, .getfield 36, 3), (15, .iload_n 3, 1), (16, .baload, 1), (17, .ifCond .eq 7, 3), (20, .iconst 1, 1), (21, .goto 4, 3), (24, .iconst 0, 1), (25, .iadd, 1), (26, .istore_n 2, 1), (27, .iinc 3 1, 3), (30, .goto (-26), 3), (33, .iload_n 1, 1), (34, .tableswitch 164 0 11 #[62, 67, 72, 77, 82, 87, 96, 101, 114, 119, 132, 148], 62), (96, .aload_n 0, 1), (97, .getfield 87, 3), (100, .ireturn, 1), (101, .aload_n 0, 1), (102, .getfield 90, 3), (105, .ireturn, 1), (106, .aload_n 0, 1), (107, .getfield 93, 3), (110, .ireturn, 1), (111, .aload_n 0, 1), (112, .getfield 96, 3), (115, .ireturn, 1), (116, .aload_n 0, 1), (117, .invokevirtual 199, 3), (120, .ireturn, 1), (121, .aload_n 0, 1), (122, .aload_n 0, 1), (123, .getfield 87, 3), (126, .invokevirtual 208, 3), (129, .ireturn, 1), (130, .aload_n 0, 1), (131, .getfield 168, 3), (134, .ireturn, 1), (135, .aload_n 0, 1), (136, .getfield 99, 3), (139, .ifCond .eq 7, 3), (142, .iconst 1, 1), (143, .goto 4, 3), (146, .iconst 0, 1), (147, .ireturn, 1), (148, .aload_n 0, 1), (149, .getfield 103, 3), (152, .ireturn, 1), (153, .aload_n 0, 1), (154, .getfield 99, 3), (157, .ifCond .eq 7, 3), (160, .iconst (-1), 1), (161, .goto 4, 3), (164, .iload_n 2, 1), (165, .ireturn, 1), (166, .aload_n 0, 1), (167, .getfield 99, 3), (170, .ifCond .eq 7, 3), (173, .iconst (-1), 1), (174, .goto 7, 3), (177, .aload_n 0, 1), (178, .invokevirtual 147, 3), (181, .ireturn, 1), (182, .aload_n 0, 1), (183, .getfield 99, 3), (186, .ifCond .eq 7, 3), (189, .iconst (-1), 1), (190, .goto 7, 3), (193, .aload_n 0, 1), (194, .getfield 80, 3), (197, .ireturn, 1), (198, .iconst (-1), 1), (199, .ireturn, 1)]
theorem mT_X5_count_ok : ix_tok cX5_count mT_X5_count = true := by decide +kernel
def mD_X5_count : ix_M := (5, yX5_count, cX5_count, 4, (some (.int)), 1, 0, mT_X5_count, 883, 881, 882)
def mT_J7_fill_53178 : ix_T := [(0, .iconst 0, 1), (1, .istore_n 2, 1), (2, .aload_n 0, 1), (3, .arraylength, 1), (4, .istore_n 3, 1), (5, .iload_n 2, 1), (6, .iload_n 3, 1), (7, .if_icmp .ge 13, 3), (10, .aload_n 0, 1), (11, .iload_n 2, 1), (12, .iload_n 1, 1), (13, .iastore, 1), (14, .iinc 2 1, 3), (17, .goto (-12), 3), (20, .return_, 1)]
theorem mT_J7_fill_53178_ok : ix_tok cJ7_fill_53178 mT_J7_fill_53178 = true := by decide +kernel
def mD_J7_fill_53178 : ix_M := (8, yJ7_fill_53178, cJ7_fill_53178, 4, none, 2, 1, mT_J7_fill_53178, 197, 196, 196)
def mT_L_law_0 : ix_T := [(0, .new 7, 3), (3, .dup, 1), (4, .invokespecial 9, 3), (7, .astore_n 1, 1), (8, .new 10, 3), (11, .dup, 1), (12, .invokespecial 12, 3), (15, .astore_n 2, 1), (16, .iconst 0, 1), (17, .istore_n 3, 1), (18, .iload_n 3, 1), (19, .aload_n 0, 1), (20, .arraylength, 1), (21, .bipush 6, 2), (23, .isub, 1), (24, .if_icmp .gt 945, 3), (27, .aload_n 0, 1), (28, .iload_n 3, 1), (29, .iaload, 1), (30, .bipush 31, 2), (32, .iand, 1), (33, .tableswitch 930 0 20 #[99, 142, 245, 268, 301, 380, 443, 502, 545, 578, 601, 660, 683, 696, 719, 732, 765, 808, 841, 874, 907], 99), (132, .aload_n 1, 1), (133, .aload_n 0, 1), (134, .iload_n 3, 1), (135, .iconst 1, 1), (136, .iadd, 1), (137, .iaload, 1), (138, .aload_n 0, 1), (139, .iload_n 3, 1), (140, .iconst 2, 1), (141, .iadd, 1), (142, .iaload, 1), (143, .aload_n 0, 1), (144, .iload_n 3, 1), (145, .iconst 3, 1), (146, .iadd, 1), (147, .iaload, 1), (148, .invokevirtual 13, 3), (151, .aload_n 2, 1)]
theorem mT_L_law_0_ok : ix_tok cL_law mT_L_law_0 = true := by decide +kernel
def mT_L_law_1 : ix_T := [(152, .aload_n 0, 1), (153, .iload_n 3, 1), (154, .iconst 1, 1), (155, .iadd, 1), (156, .iaload, 1), (157, .aload_n 0, 1), (158, .iload_n 3, 1), (159, .iconst 2, 1), (160, .iadd, 1), (161, .iaload, 1), (162, .aload_n 0, 1), (163, .iload_n 3, 1), (164, .iconst 3, 1), (165, .iadd, 1), (166, .iaload, 1), (167, .invokevirtual 17, 3), (170, .if_icmp .eq 793, 3), (173, .iconst 0, 1), (174, .ireturn, 1), (175, .aload_n 1, 1), (176, .aload_n 0, 1), (177, .iload_n 3, 1), (178, .iconst 1, 1), (179, .iadd, 1), (180, .iaload, 1), (181, .aload_n 0, 1), (182, .iload_n 3, 1), (183, .iconst 2, 1), (184, .iadd, 1), (185, .iaload, 1), (186, .i2l, 1), (187, .bipush 32, 2), (189, .lshl, 1), (190, .aload_n 0, 1), (191, .iload_n 3, 1), (192, .iconst 3, 1), (193, .iadd, 1), (194, .iaload, 1), (195, .i2l, 1), (196, .ldc2_w 18, 3)]
theorem mT_L_law_1_ok : ix_tok cL_law mT_L_law_1 = true := by decide +kernel
def mT_L_law_2 : ix_T := [(199, .land, 1), (200, .lor, 1), (201, .aload_n 0, 1), (202, .iload_n 3, 1), (203, .iconst 4, 1), (204, .iadd, 1), (205, .iaload, 1), (206, .i2l, 1), (207, .bipush 32, 2), (209, .lshl, 1), (210, .aload_n 0, 1), (211, .iload_n 3, 1), (212, .iconst 5, 1), (213, .iadd, 1), (214, .iaload, 1), (215, .i2l, 1), (216, .ldc2_w 18, 3), (219, .land, 1), (220, .lor, 1), (221, .invokevirtual 20, 3), (224, .aload_n 2, 1), (225, .aload_n 0, 1), (226, .iload_n 3, 1), (227, .iconst 1, 1), (228, .iadd, 1), (229, .iaload, 1), (230, .aload_n 0, 1), (231, .iload_n 3, 1), (232, .iconst 2, 1), (233, .iadd, 1), (234, .iaload, 1), (235, .i2l, 1), (236, .bipush 32, 2), (238, .lshl, 1), (239, .aload_n 0, 1), (240, .iload_n 3, 1), (241, .iconst 3, 1), (242, .iadd, 1), (243, .iaload, 1), (244, .i2l, 1)]
theorem mT_L_law_2_ok : ix_tok cL_law mT_L_law_2 = true := by decide +kernel
def mT_L_law_3 : ix_T := [(245, .ldc2_w 18, 3), (248, .land, 1), (249, .lor, 1), (250, .aload_n 0, 1), (251, .iload_n 3, 1), (252, .iconst 4, 1), (253, .iadd, 1), (254, .iaload, 1), (255, .i2l, 1), (256, .bipush 32, 2), (258, .lshl, 1), (259, .aload_n 0, 1), (260, .iload_n 3, 1), (261, .iconst 5, 1), (262, .iadd, 1), (263, .iaload, 1), (264, .i2l, 1), (265, .ldc2_w 18, 3), (268, .land, 1), (269, .lor, 1), (270, .invokevirtual 24, 3), (273, .if_icmp .eq 690, 3), (276, .iconst 0, 1), (277, .ireturn, 1), (278, .aload_n 1, 1), (279, .aload_n 0, 1), (280, .iload_n 3, 1), (281, .iconst 1, 1), (282, .iadd, 1), (283, .iaload, 1), (284, .invokevirtual 25, 3), (287, .aload_n 2, 1), (288, .aload_n 0, 1), (289, .iload_n 3, 1), (290, .iconst 1, 1), (291, .iadd, 1), (292, .iaload, 1), (293, .invokevirtual 29, 3), (296, .if_icmp .eq 667, 3), (299, .iconst 0, 1)]
theorem mT_L_law_3_ok : ix_tok cL_law mT_L_law_3 = true := by decide +kernel
def mT_L_law_4 : ix_T := [(300, .ireturn, 1), (301, .aload_n 1, 1), (302, .aload_n 0, 1), (303, .iload_n 3, 1), (304, .iconst 1, 1), (305, .iadd, 1), (306, .iaload, 1), (307, .aload_n 0, 1), (308, .iload_n 3, 1), (309, .iconst 2, 1), (310, .iadd, 1), (311, .iaload, 1), (312, .invokevirtual 30, 3), (315, .aload_n 2, 1), (316, .aload_n 0, 1), (317, .iload_n 3, 1), (318, .iconst 1, 1), (319, .iadd, 1), (320, .iaload, 1), (321, .aload_n 0, 1), (322, .iload_n 3, 1), (323, .iconst 2, 1), (324, .iadd, 1), (325, .iaload, 1), (326, .invokevirtual 34, 3), (329, .if_icmp .eq 634, 3), (332, .iconst 0, 1), (333, .ireturn, 1), (334, .aload_n 1, 1), (335, .aload_n 0, 1), (336, .iload_n 3, 1), (337, .iconst 1, 1), (338, .iadd, 1), (339, .iaload, 1), (340, .aload_n 0, 1), (341, .iload_n 3, 1), (342, .iconst 2, 1), (343, .iadd, 1), (344, .iaload, 1), (345, .aload_n 0, 1)]
theorem mT_L_law_4_ok : ix_tok cL_law mT_L_law_4 = true := by decide +kernel
def mT_L_law_5 : ix_T := [(346, .iload_n 3, 1), (347, .iconst 3, 1), (348, .iadd, 1), (349, .iaload, 1), (350, .aload_n 0, 1), (351, .iload_n 3, 1), (352, .iconst 4, 1), (353, .iadd, 1), (354, .iaload, 1), (355, .aload_n 0, 1), (356, .iload_n 3, 1), (357, .iconst 5, 1), (358, .iadd, 1), (359, .iaload, 1), (360, .ifCond .eq 7, 3), (363, .iconst 1, 1), (364, .goto 4, 3), (367, .iconst 0, 1), (368, .invokevirtual 35, 3), (371, .aload_n 2, 1), (372, .aload_n 0, 1), (373, .iload_n 3, 1), (374, .iconst 1, 1), (375, .iadd, 1), (376, .iaload, 1), (377, .aload_n 0, 1), (378, .iload_n 3, 1), (379, .iconst 2, 1), (380, .iadd, 1), (381, .iaload, 1), (382, .aload_n 0, 1), (383, .iload_n 3, 1), (384, .iconst 3, 1), (385, .iadd, 1), (386, .iaload, 1), (387, .aload_n 0, 1), (388, .iload_n 3, 1), (389, .iconst 4, 1), (390, .iadd, 1), (391, .iaload, 1)]
theorem mT_L_law_5_ok : ix_tok cL_law mT_L_law_5 = true := by decide +kernel
def mT_L_law_6 : ix_T := [(392, .aload_n 0, 1), (393, .iload_n 3, 1), (394, .iconst 5, 1), (395, .iadd, 1), (396, .iaload, 1), (397, .ifCond .eq 7, 3), (400, .iconst 1, 1), (401, .goto 4, 3), (404, .iconst 0, 1), (405, .invokevirtual 39, 3), (408, .if_icmp .eq 555, 3), (411, .iconst 0, 1), (412, .ireturn, 1), (413, .aload_n 1, 1), (414, .aload_n 0, 1), (415, .iload_n 3, 1), (416, .iconst 1, 1), (417, .iadd, 1), (418, .iaload, 1), (419, .aload_n 0, 1), (420, .iload_n 3, 1), (421, .iconst 2, 1), (422, .iadd, 1), (423, .iaload, 1), (424, .aload_n 0, 1), (425, .iload_n 3, 1), (426, .iconst 3, 1), (427, .iadd, 1), (428, .iaload, 1), (429, .aload_n 0, 1), (430, .iload_n 3, 1), (431, .iconst 4, 1), (432, .iadd, 1), (433, .iaload, 1), (434, .aload_n 0, 1), (435, .iload_n 3, 1), (436, .iconst 5, 1), (437, .iadd, 1), (438, .iaload, 1), (439, .invokevirtual 40, 3)]
theorem mT_L_law_6_ok : ix_tok cL_law mT_L_law_6 = true := by decide +kernel
def mT_L_law_7 : ix_T := [(442, .aload_n 2, 1), (443, .aload_n 0, 1), (444, .iload_n 3, 1), (445, .iconst 1, 1), (446, .iadd, 1), (447, .iaload, 1), (448, .aload_n 0, 1), (449, .iload_n 3, 1), (450, .iconst 2, 1), (451, .iadd, 1), (452, .iaload, 1), (453, .aload_n 0, 1), (454, .iload_n 3, 1), (455, .iconst 3, 1), (456, .iadd, 1), (457, .iaload, 1), (458, .aload_n 0, 1), (459, .iload_n 3, 1), (460, .iconst 4, 1), (461, .iadd, 1), (462, .iaload, 1), (463, .aload_n 0, 1), (464, .iload_n 3, 1), (465, .iconst 5, 1), (466, .iadd, 1), (467, .iaload, 1), (468, .invokevirtual 44, 3), (471, .if_icmp .eq 492, 3), (474, .iconst 0, 1), (475, .ireturn, 1), (476, .aload_n 1, 1), (477, .aload_n 0, 1), (478, .iload_n 3, 1), (479, .iconst 1, 1), (480, .iadd, 1), (481, .iaload, 1), (482, .aload_n 0, 1), (483, .iload_n 3, 1), (484, .iconst 2, 1), (485, .iadd, 1)]
theorem mT_L_law_7_ok : ix_tok cL_law mT_L_law_7 = true := by decide +kernel
def mT_L_law_8 : ix_T := [(486, .iaload, 1), (487, .aload_n 0, 1), (488, .iload_n 3, 1), (489, .iconst 3, 1), (490, .iadd, 1), (491, .iaload, 1), (492, .ifCond .eq 7, 3), (495, .iconst 1, 1), (496, .goto 4, 3), (499, .iconst 0, 1), (500, .invokevirtual 45, 3), (503, .aload_n 2, 1), (504, .aload_n 0, 1), (505, .iload_n 3, 1), (506, .iconst 1, 1), (507, .iadd, 1), (508, .iaload, 1), (509, .aload_n 0, 1), (510, .iload_n 3, 1), (511, .iconst 2, 1), (512, .iadd, 1), (513, .iaload, 1), (514, .aload_n 0, 1), (515, .iload_n 3, 1), (516, .iconst 3, 1), (517, .iadd, 1), (518, .iaload, 1), (519, .ifCond .eq 7, 3), (522, .iconst 1, 1), (523, .goto 4, 3), (526, .iconst 0, 1), (527, .invokevirtual 49, 3), (530, .if_icmp .eq 433, 3), (533, .iconst 0, 1), (534, .ireturn, 1), (535, .aload_n 1, 1), (536, .aload_n 0, 1), (537, .iload_n 3, 1), (538, .iconst 1, 1), (539, .iadd, 1)]
theorem mT_L_law_8_ok : ix_tok cL_law mT_L_law_8 = true := by decide +kernel
def mT_L_law_9 : ix_T := [(540, .iaload, 1), (541, .aload_n 0, 1), (542, .iload_n 3, 1), (543, .iconst 2, 1), (544, .iadd, 1), (545, .iaload, 1), (546, .aload_n 0, 1), (547, .iload_n 3, 1), (548, .iconst 3, 1), (549, .iadd, 1), (550, .iaload, 1), (551, .invokevirtual 50, 3), (554, .aload_n 2, 1), (555, .aload_n 0, 1), (556, .iload_n 3, 1), (557, .iconst 1, 1), (558, .iadd, 1), (559, .iaload, 1), (560, .aload_n 0, 1), (561, .iload_n 3, 1), (562, .iconst 2, 1), (563, .iadd, 1), (564, .iaload, 1), (565, .aload_n 0, 1), (566, .iload_n 3, 1), (567, .iconst 3, 1), (568, .iadd, 1), (569, .iaload, 1), (570, .invokevirtual 54, 3), (573, .if_icmp .eq 390, 3), (576, .iconst 0, 1), (577, .ireturn, 1), (578, .aload_n 1, 1), (579, .aload_n 0, 1), (580, .iload_n 3, 1), (581, .iconst 1, 1), (582, .iadd, 1), (583, .iaload, 1), (584, .aload_n 0, 1), (585, .iload_n 3, 1)]
theorem mT_L_law_9_ok : ix_tok cL_law mT_L_law_9 = true := by decide +kernel
def mT_L_law_10 : ix_T := [(586, .iconst 2, 1), (587, .iadd, 1), (588, .iaload, 1), (589, .invokevirtual 55, 3), (592, .aload_n 2, 1), (593, .aload_n 0, 1), (594, .iload_n 3, 1), (595, .iconst 1, 1), (596, .iadd, 1), (597, .iaload, 1), (598, .aload_n 0, 1), (599, .iload_n 3, 1), (600, .iconst 2, 1), (601, .iadd, 1), (602, .iaload, 1), (603, .invokevirtual 58, 3), (606, .if_icmp .eq 357, 3), (609, .iconst 0, 1), (610, .ireturn, 1), (611, .aload_n 1, 1), (612, .aload_n 0, 1), (613, .iload_n 3, 1), (614, .iconst 1, 1), (615, .iadd, 1), (616, .iaload, 1), (617, .invokevirtual 59, 3), (620, .aload_n 2, 1), (621, .aload_n 0, 1), (622, .iload_n 3, 1), (623, .iconst 1, 1), (624, .iadd, 1), (625, .iaload, 1), (626, .invokevirtual 62, 3), (629, .if_icmp .eq 334, 3), (632, .iconst 0, 1), (633, .ireturn, 1), (634, .aload_n 1, 1), (635, .aload_n 0, 1), (636, .iload_n 3, 1), (637, .iconst 1, 1)]
theorem mT_L_law_10_ok : ix_tok cL_law mT_L_law_10 = true := by decide +kernel
def mT_L_law_11 : ix_T := [(638, .iadd, 1), (639, .iaload, 1), (640, .aload_n 0, 1), (641, .iload_n 3, 1), (642, .iconst 2, 1), (643, .iadd, 1), (644, .iaload, 1), (645, .aload_n 0, 1), (646, .iload_n 3, 1), (647, .iconst 3, 1), (648, .iadd, 1), (649, .iaload, 1), (650, .ifCond .eq 7, 3), (653, .iconst 1, 1), (654, .goto 4, 3), (657, .iconst 0, 1), (658, .invokevirtual 63, 3), (661, .aload_n 2, 1), (662, .aload_n 0, 1), (663, .iload_n 3, 1), (664, .iconst 1, 1), (665, .iadd, 1), (666, .iaload, 1), (667, .aload_n 0, 1), (668, .iload_n 3, 1), (669, .iconst 2, 1), (670, .iadd, 1), (671, .iaload, 1), (672, .aload_n 0, 1), (673, .iload_n 3, 1), (674, .iconst 3, 1), (675, .iadd, 1), (676, .iaload, 1), (677, .ifCond .eq 7, 3), (680, .iconst 1, 1), (681, .goto 4, 3), (684, .iconst 0, 1), (685, .invokevirtual 66, 3), (688, .if_icmp .eq 275, 3), (691, .iconst 0, 1)]
theorem mT_L_law_11_ok : ix_tok cL_law mT_L_law_11 = true := by decide +kernel
def mT_L_law_12 : ix_T := [(692, .ireturn, 1), (693, .aload_n 1, 1), (694, .aload_n 0, 1), (695, .iload_n 3, 1), (696, .iconst 1, 1), (697, .iadd, 1), (698, .iaload, 1), (699, .invokevirtual 67, 3), (702, .aload_n 2, 1), (703, .aload_n 0, 1), (704, .iload_n 3, 1), (705, .iconst 1, 1), (706, .iadd, 1), (707, .iaload, 1), (708, .invokevirtual 70, 3), (711, .if_icmp .eq 252, 3), (714, .iconst 0, 1), (715, .ireturn, 1), (716, .aload_n 1, 1), (717, .invokevirtual 71, 3), (720, .aload_n 2, 1), (721, .invokevirtual 75, 3), (724, .if_icmp .eq 239, 3), (727, .iconst 0, 1), (728, .ireturn, 1), (729, .aload_n 1, 1), (730, .aload_n 0, 1), (731, .iload_n 3, 1), (732, .iconst 1, 1), (733, .iadd, 1), (734, .iaload, 1), (735, .invokevirtual 76, 3), (738, .aload_n 2, 1), (739, .aload_n 0, 1), (740, .iload_n 3, 1), (741, .iconst 1, 1), (742, .iadd, 1), (743, .iaload, 1), (744, .invokevirtual 79, 3), (747, .if_icmp .eq 216, 3)]
theorem mT_L_law_12_ok : ix_tok cL_law mT_L_law_12 = true := by decide +kernel
def mT_L_law_13 : ix_T := [(750, .iconst 0, 1), (751, .ireturn, 1), (752, .aload_n 1, 1), (753, .invokevirtual 80, 3), (756, .aload_n 2, 1), (757, .invokevirtual 83, 3), (760, .if_icmp .eq 203, 3), (763, .iconst 0, 1), (764, .ireturn, 1), (765, .aload_n 1, 1), (766, .aload_n 0, 1), (767, .iload_n 3, 1), (768, .iconst 1, 1), (769, .iadd, 1), (770, .iaload, 1), (771, .aload_n 0, 1), (772, .iload_n 3, 1), (773, .iconst 2, 1), (774, .iadd, 1), (775, .iaload, 1), (776, .invokevirtual 84, 3), (779, .aload_n 2, 1), (780, .aload_n 0, 1), (781, .iload_n 3, 1), (782, .iconst 1, 1), (783, .iadd, 1), (784, .iaload, 1), (785, .aload_n 0, 1), (786, .iload_n 3, 1), (787, .iconst 2, 1), (788, .iadd, 1), (789, .iaload, 1), (790, .invokevirtual 87, 3), (793, .if_icmp .eq 170, 3), (796, .iconst 0, 1), (797, .ireturn, 1), (798, .aload_n 1, 1), (799, .aload_n 0, 1), (800, .iload_n 3, 1), (801, .iconst 1, 1)]
theorem mT_L_law_13_ok : ix_tok cL_law mT_L_law_13 = true := by decide +kernel
def mT_L_law_14 : ix_T := [(802, .iadd, 1), (803, .iaload, 1), (804, .aload_n 0, 1), (805, .iload_n 3, 1), (806, .iconst 2, 1), (807, .iadd, 1), (808, .iaload, 1), (809, .aload_n 0, 1), (810, .iload_n 3, 1), (811, .iconst 3, 1), (812, .iadd, 1), (813, .iaload, 1), (814, .invokevirtual 88, 3), (817, .aload_n 2, 1), (818, .aload_n 0, 1), (819, .iload_n 3, 1), (820, .iconst 1, 1), (821, .iadd, 1), (822, .iaload, 1), (823, .aload_n 0, 1), (824, .iload_n 3, 1), (825, .iconst 2, 1), (826, .iadd, 1), (827, .iaload, 1), (828, .aload_n 0, 1), (829, .iload_n 3, 1), (830, .iconst 3, 1), (831, .iadd, 1), (832, .iaload, 1), (833, .invokevirtual 91, 3), (836, .if_icmp .eq 127, 3), (839, .iconst 0, 1), (840, .ireturn, 1), (841, .aload_n 1, 1), (842, .aload_n 0, 1), (843, .iload_n 3, 1), (844, .iconst 1, 1), (845, .iadd, 1), (846, .iaload, 1), (847, .aload_n 0, 1)]
theorem mT_L_law_14_ok : ix_tok cL_law mT_L_law_14 = true := by decide +kernel
def mT_L_law_15 : ix_T := [(848, .iload_n 3, 1), (849, .iconst 2, 1), (850, .iadd, 1), (851, .iaload, 1), (852, .invokevirtual 92, 3), (855, .aload_n 2, 1), (856, .aload_n 0, 1), (857, .iload_n 3, 1), (858, .iconst 1, 1), (859, .iadd, 1), (860, .iaload, 1), (861, .aload_n 0, 1), (862, .iload_n 3, 1), (863, .iconst 2, 1), (864, .iadd, 1), (865, .iaload, 1), (866, .invokevirtual 95, 3), (869, .if_icmp .eq 94, 3), (872, .iconst 0, 1), (873, .ireturn, 1), (874, .aload_n 1, 1), (875, .aload_n 0, 1), (876, .iload_n 3, 1), (877, .iconst 1, 1), (878, .iadd, 1), (879, .iaload, 1), (880, .aload_n 0, 1), (881, .iload_n 3, 1), (882, .iconst 2, 1), (883, .iadd, 1), (884, .iaload, 1), (885, .invokevirtual 96, 3), (888, .aload_n 2, 1), (889, .aload_n 0, 1), (890, .iload_n 3, 1), (891, .iconst 1, 1), (892, .iadd, 1), (893, .iaload, 1), (894, .aload_n 0, 1), (895, .iload_n 3, 1)]
theorem mT_L_law_15_ok : ix_tok cL_law mT_L_law_15 = true := by decide +kernel
def mT_L_law_16 : ix_T := [(896, .iconst 2, 1), (897, .iadd, 1), (898, .iaload, 1), (899, .invokevirtual 99, 3), (902, .if_icmp .eq 61, 3), (905, .iconst 0, 1), (906, .ireturn, 1), (907, .aload_n 1, 1), (908, .aload_n 0, 1), (909, .iload_n 3, 1), (910, .iconst 1, 1), (911, .iadd, 1), (912, .iaload, 1), (913, .aload_n 0, 1), (914, .iload_n 3, 1), (915, .iconst 2, 1), (916, .iadd, 1), (917, .iaload, 1), (918, .invokevirtual 100, 3), (921, .aload_n 2, 1), (922, .aload_n 0, 1), (923, .iload_n 3, 1), (924, .iconst 1, 1), (925, .iadd, 1), (926, .iaload, 1), (927, .aload_n 0, 1), (928, .iload_n 3, 1), (929, .iconst 2, 1), (930, .iadd, 1), (931, .iaload, 1), (932, .invokevirtual 103, 3), (935, .if_icmp .eq 28, 3), (938, .iconst 0, 1), (939, .ireturn, 1), (940, .aload_n 1, 1), (941, .aload_n 0, 1), (942, .iload_n 3, 1), (943, .iconst 1, 1), (944, .iadd, 1), (945, .iaload, 1)]
theorem mT_L_law_16_ok : ix_tok cL_law mT_L_law_16 = true := by decide +kernel
def mT_L_law_17 : ix_T := [(946, .invokevirtual 104, 3), (949, .aload_n 2, 1), (950, .aload_n 0, 1), (951, .iload_n 3, 1), (952, .iconst 1, 1), (953, .iadd, 1), (954, .iaload, 1), (955, .invokevirtual 107, 3), (958, .if_icmp .eq 5, 3), (961, .iconst 0, 1), (962, .ireturn, 1), (963, .iinc 3 6, 3), (966, .goto (-948), 3), (969, .iconst 1, 1), (970, .ireturn, 1)]
theorem mT_L_law_17_ok : ix_tok cL_law mT_L_law_17 = true := by decide +kernel
def mT_L_law : ix_T := mT_L_law_0 ++ mT_L_law_1 ++ mT_L_law_2 ++ mT_L_law_3 ++ mT_L_law_4 ++ mT_L_law_5 ++ mT_L_law_6 ++ mT_L_law_7 ++ mT_L_law_8 ++ mT_L_law_9 ++ mT_L_law_10 ++ mT_L_law_11 ++ mT_L_law_12 ++ mT_L_law_13 ++ mT_L_law_14 ++ mT_L_law_15 ++ mT_L_law_16 ++ mT_L_law_17
theorem mT_L_law_ok : ix_tok cL_law mT_L_law = true := by simp only [mT_L_law, ix_tok, List.all_append, Bool.and_eq_true]; exact ⟨⟨⟨⟨⟨⟨⟨⟨⟨⟨⟨⟨⟨⟨⟨⟨⟨mT_L_law_0_ok, mT_L_law_1_ok⟩, mT_L_law_2_ok⟩, mT_L_law_3_ok⟩, mT_L_law_4_ok⟩, mT_L_law_5_ok⟩, mT_L_law_6_ok⟩, mT_L_law_7_ok⟩, mT_L_law_8_ok⟩, mT_L_law_9_ok⟩, mT_L_law_10_ok⟩, mT_L_law_11_ok⟩, mT_L_law_12_ok⟩, mT_L_law_13_ok⟩, mT_L_law_14_ok⟩, mT_L_law_15_ok⟩, mT_L_law_16_ok⟩, mT_L_law_17_ok⟩
def mNs : List ix_M := [mD_X0_init, mD_X0_clear, mD_X0_cutTo, mD_X0_at, mD_X0_add, mD_X0_addNumber, mD_X0_number, mD_X0_seal, mD_X1_init, mD_X1_clear, mD_X1_append, mD_X1_has, mD_X1_startOf, mD_X1_field, mD_X1_kindOf, mD_X1_isSeen, mD_X1_dropBroken, mD_X1_cutBroken, mD_X1_isSentBy, mD_X1_nextOf, mD_X1_offsetOfRecent, mD_X1_hasEndOf, mD_X1_stable, mD_X1_committedEntries, mD_X1_firstCommitted, mD_X1_firstSeen, mD_X1_copyPayload, mD_X2_init, mD_X2_forget, mD_X2_openTransaction, mD_X2_closeTransaction, mD_X2_isOpen, mD_X2_hasAdded, mD_X3_init, mD_X3_clear, mD_X3_note, mD_X3_bytesOf, mD_X3_keptOf, mD_X4_init, mD_X4_format, mD_X4_feed, mD_X4_register, mD_X4_begin, mD_X4_send, mD_X4_later, mD_X4_end, mD_X4_mark, mD_X4_marked, mD_X4_tick, mD_X4_fetch, mD_X4_answer, mD_X4_sync, mD_X4_crash, mD_X4_open, mD_X4_partition, mD_X4_entry, mD_X4_producer, mD_X4_next, mD_X4_byteOf, mD_X4_count, mD_X4_build, mD_X4_forget, mD_X4_isKey, mD_X4_isRegistered, mD_X4_isPartition, mD_X4_isPlace, mD_X4_placeOf, mD_X4_rowOf, mD_X4_refusalOf, mD_X4_takeSent, mD_X4_logHasRoom, mD_X4_bookHasRoom, mD_X4_registeredProducers, mD_X4_openTransactions, mD_X4_openThatAdded, mD_X4_writeToLog, mD_X4_writeToBook, mD_X4_learn, mD_X4_markLaters, mD_X4_setMark, mD_X4_raiseEpoch, mD_X4_decide, mD_X4_finish, mD_X4_endOverdue, mD_X4_finishDecided, mD_X4_firstToEnd, mD_X5_init, mD_X5_forgets, mD_X5_format, mD_X5_sizeOf, mD_X5_bytesFrom, mD_X5_unsynced, mD_X5_add, mD_X5_opened, mD_X5_openedAt, mD_X5_bookHas, mD_X5_refused, mD_X5_registers, mD_X5_marksOf, mD_X5_finishes, mD_X5_closes, mD_X5_ends, mD_X5_register, mD_X5_begins, mD_X5_begin, mD_X5_offsetOf, mD_X5_nextOf, mD_X5_again, mD_X5_send, mD_X5_isGroup, mD_X5_isPartition, mD_X5_later, mD_X5_later_, mD_X5_end, mD_X5_mark, mD_X5_marked, mD_X5_tick, mD_X5_manyOf, mD_X5_stable, mD_X5_isSeen, mD_X5_fetch, mD_X5_answer, mD_X5_feed, mD_X5_sync, mD_X5_crash, mD_X5_tells, mD_X5_open, mD_X5_partition, mD_X5_bytesOf, mD_X5_seenOf, mD_X5_entry, mD_X5_producer, mD_X5_next, mD_X5_byteIn, mD_X5_behind, mD_X5_byteAt, mD_X5_byteOf, mD_X5_count, mD_J7_fill_53178]
/-- fields: class, pool, nest mate, class of the field, slot, place of the word -/
def ix_FT : List (Nat × Nat × Nat × Nat × Nat × Nat) := [(0, 15, 0, 0, 0, 80), (0, 21, 0, 0, 1, 81), (4, 56, 1, 0, 1, 82), (1, 38, 1, 0, 1, 83), (3, 9, 0, 3, 0, 98), (3, 15, 0, 3, 1, 99), (3, 18, 0, 3, 2, 100), (3, 21, 0, 3, 3, 101), (3, 25, 0, 3, 4, 102), (4, 142, 1, 3, 4, 103), (1, 14, 0, 1, 0, 125), (4, 186, 1, 1, 0, 126), (1, 20, 0, 1, 1, 127), (1, 24, 0, 1, 2, 128), (1, 28, 0, 1, 3, 129), (1, 34, 0, 1, 4, 130), (4, 180, 1, 1, 4, 131), (2, 9, 0, 2, 0, 149), (4, 88, 1, 2, 0, 150), (2, 18, 0, 2, 1, 151), (4, 205, 1, 2, 1, 152), (2, 21, 0, 2, 2, 153), (4, 208, 1, 2, 2, 154), (2, 24, 0, 2, 3, 155), (4, 277, 1, 2, 3, 156), (2, 27, 0, 2, 4, 157), (4, 211, 1, 2, 4, 158), (2, 30, 0, 2, 5, 159), (4, 214, 1, 2, 5, 160), (2, 33, 0, 2, 6, 161), (4, 274, 1, 2, 6, 162), (4, 14, 0, 4, 0, 211), (4, 18, 0, 4, 1, 212), (4, 21, 0, 4, 2, 213), (4, 26, 0, 4, 3, 214), (4, 30, 0, 4, 4, 215), (4, 36, 0, 4, 5, 216), (4, 42, 0, 4, 6, 217), (4, 46, 0, 4, 7, 218), (4, 146, 0, 4, 8, 219), (4, 220, 0, 4, 9, 220), (4, 223, 0, 4, 10, 221), (4, 98, 0, 4, 11, 222), (4, 63, 0, 4, 12, 223), (4, 168, 0, 4, 13, 224), (4, 95, 0, 4, 14, 225), (5, 87, 0, 5, 0, 585), (5, 90, 0, 5, 1, 586), (5, 93, 0, 5, 2, 587), (5, 96, 0, 5, 3, 588), (5, 99, 0, 5, 4, 589), (5, 103, 0, 5, 5, 590), (5, 106, 0, 5, 6, 591), (5, 109, 0, 5, 7, 592), (5, 9, 0, 5, 8, 593), (5, 13, 0, 5, 9, 594), (5, 16, 0, 5, 10, 595), (5, 19, 0, 5, 11, 596), (5, 22, 0, 5, 12, 597), (5, 25, 0, 5, 13, 598), (5, 28, 0, 5, 14, 599), (5, 32, 0, 5, 15, 600), (5, 112, 0, 5, 16, 601), (5, 36, 0, 5, 17, 602), (5, 40, 0, 5, 18, 603), (5, 43, 0, 5, 19, 604), (5, 46, 0, 5, 20, 605), (5, 49, 0, 5, 21, 606), (5, 80, 0, 5, 22, 607), (5, 52, 0, 5, 23, 608), (5, 55, 0, 5, 24, 609), (5, 84, 0, 5, 25, 610), (5, 58, 0, 5, 26, 611), (5, 61, 0, 5, 27, 612), (5, 64, 0, 5, 28, 613), (5, 67, 0, 5, 29, 614), (5, 168, 0, 5, 30, 615), (5, 70, 0, 5, 31, 616), (5, 115, 0, 5, 32, 617), (5, 73, 0, 5, 33, 618)]
/-- methods: class, pool, 0 link, 1 nest mate, 2 Object(), 3 Math.max, 4 Math.min, number of the method, place of the word -/
def ix_MT : List (Nat × Nat × Nat × Nat × Nat) := [(6, 9, 0, 38, 65), (4, 3, 2, 0, 68), (4, 11, 0, 0, 73), (0, 3, 2, 0, 76), (0, 9, 3, 0, 77), (4, 35, 1, 33, 94), (3, 3, 2, 0, 97), (4, 50, 1, 8, 119), (1, 3, 2, 0, 122), (1, 11, 0, 0, 124), (4, 51, 1, 27, 145), (2, 3, 2, 0, 148), (4, 52, 0, 60, 178), (4, 232, 0, 9, 182), (1, 31, 0, 1, 186), (4, 109, 0, 1, 190), (4, 145, 0, 34, 191), (3, 28, 0, 138, 195), (4, 165, 0, 61, 198), (4, 233, 0, 28, 202), (2, 15, 0, 30, 206), (4, 234, 0, 138, 210), (6, 13, 0, 39, 257), (6, 20, 0, 40, 261), (4, 60, 0, 4, 265), (6, 25, 0, 41, 269), (4, 67, 0, 62, 273), (4, 71, 0, 31, 277), (4, 75, 0, 81, 281), (4, 101, 0, 76, 285), (4, 262, 0, 5, 289), (0, 25, 0, 4, 293), (4, 265, 0, 7, 294), (4, 258, 0, 35, 298), (4, 174, 0, 77, 302), (4, 268, 0, 6, 306), (4, 271, 0, 29, 310), (4, 280, 0, 78, 314), (4, 286, 0, 79, 318), (4, 283, 0, 30, 322), (4, 79, 0, 82, 323), (4, 243, 0, 32, 327), (4, 289, 0, 21, 331), (1, 68, 0, 15, 335), (1, 62, 0, 14, 339), (1, 55, 0, 12, 343), (1, 58, 0, 6, 347), (1, 72, 0, 13, 348), (4, 250, 0, 75, 352), (4, 254, 0, 10, 356), (1, 41, 0, 5, 360), (1, 45, 0, 3, 361), (1, 49, 0, 4, 365), (1, 52, 0, 7, 366), (4, 82, 0, 71, 367), (4, 229, 0, 73, 371), (4, 85, 0, 80, 375), (6, 30, 0, 42, 379), (4, 91, 0, 68, 383), (4, 202, 0, 63, 387), (6, 35, 0, 43, 391), (4, 105, 0, 69, 395), (4, 125, 0, 64, 399), (4, 240, 0, 20, 403), (1, 76, 0, 18, 407), (4, 217, 0, 19, 411), (4, 246, 0, 70, 415), (4, 192, 0, 74, 419), (6, 40, 0, 44, 423), (4, 112, 0, 65, 427), (4, 116, 0, 66, 431), (6, 45, 0, 45, 435), (6, 50, 0, 46, 439), (6, 55, 0, 47, 443), (6, 59, 0, 48, 447), (4, 121, 0, 83, 452), (4, 292, 0, 85, 456), (6, 63, 0, 49, 460), (4, 128, 0, 24, 464), (1, 91, 0, 22, 468), (1, 80, 0, 138, 472), (1, 86, 4, 0, 473), (1, 95, 3, 0, 476), (4, 132, 0, 25, 477), (4, 135, 0, 26, 481), (6, 67, 0, 50, 485), (4, 139, 0, 3, 489), (6, 71, 0, 51, 490), (6, 76, 0, 52, 494), (4, 149, 0, 67, 498), (4, 153, 0, 36, 502), (4, 156, 0, 37, 506), (3, 34, 4, 0, 510), (4, 159, 0, 2, 511), (4, 162, 0, 16, 515), (6, 80, 0, 53, 519), (4, 171, 0, 17, 523), (1, 65, 0, 2, 527), (4, 177, 0, 84, 528), (6, 84, 0, 54, 532), (4, 183, 0, 22, 536), (4, 189, 0, 23, 537), (6, 88, 0, 55, 541), (4, 195, 0, 11, 545), (4, 198, 0, 13, 549), (6, 92, 0, 56, 550), (6, 96, 0, 57, 554), (6, 100, 0, 58, 558), (6, 104, 0, 59, 562), (4, 226, 0, 72, 566), (6, 12, 0, 86, 572), (5, 1, 2, 0, 575), (5, 76, 0, 88, 577), (5, 118, 0, 87, 581), (6, 17, 0, 88, 688), (6, 29, 0, 102, 689), (5, 144, 0, 101, 693), (5, 129, 0, 92, 697), (5, 141, 0, 99, 701), (5, 133, 0, 100, 705), (5, 137, 0, 98, 709), (5, 147, 0, 93, 713), (5, 151, 0, 95, 717), (5, 125, 0, 90, 721), (5, 121, 0, 89, 725), (5, 155, 0, 97, 729), (6, 34, 0, 104, 733), (5, 158, 0, 96, 737), (5, 161, 0, 103, 741), (6, 39, 0, 108, 745), (5, 171, 0, 107, 749), (5, 165, 0, 105, 753), (5, 175, 0, 106, 757), (5, 178, 0, 94, 761), (6, 44, 0, 112, 765), (5, 181, 0, 109, 769), (5, 185, 0, 110, 772), (5, 188, 0, 111, 776), (6, 49, 0, 113, 780), (6, 54, 0, 114, 784), (6, 58, 0, 115, 788), (6, 62, 0, 116, 792), (6, 66, 0, 120, 797), (5, 192, 0, 118, 801), (5, 195, 0, 119, 805), (6, 70, 0, 121, 809), (6, 24, 0, 122, 813), (6, 75, 0, 123, 817), (5, 199, 0, 91, 821), (6, 79, 0, 124, 825), (6, 83, 0, 126, 829), (5, 202, 0, 125, 833), (6, 87, 0, 127, 837), (5, 205, 0, 117, 841), (5, 208, 0, 128, 845), (5, 211, 0, 129, 849), (6, 91, 0, 130, 853), (6, 95, 0, 131, 857), (6, 99, 0, 132, 861), (6, 103, 0, 136, 865), (5, 220, 0, 135, 869), (5, 217, 0, 134, 873), (5, 214, 0, 133, 877), (6, 107, 0, 137, 880)]
/-- classes: class, pool, class, place of the word -/
def ix_CT : List (Nat × Nat × Nat × Nat) := [(6, 7, 4, 63), (4, 9, 0, 71), (4, 24, 1, 90), (4, 33, 3, 92), (4, 40, 2, 116), (1, 9, 0, 123), (6, 10, 5, 570)]
def ix_KT : List (Nat × Nat × Int32 × Nat) := [(4, 120, 1000000, 451), (5, 31, 168000, 576), (5, 191, 1000000, 796)]
def ix_KL : List (Nat × Nat × Int64 × Nat) := [(6, 18, 4294967295, 884)]
def ix_ini : List Nat := [56, 59, 60, 58, 55, 62, 54, 57, 61]
def ix_ins : List Nat := [72, 118, 144, 93, 64, 571]
/-- places of the words of Math.max (static, code), Math.min; of Object() (instance, code) -/
def ix_mw : List Nat := [78, 79, 474, 475, 69, 70, 57, 115, 89, 143]
end
section
/-! THE MACHINE OVER AN ABSTRACT HEAP: a reference is the number of a cell; the law's script is .retAddr 0 -/
abbrev ix_E : Type := (FieldType × vp_A) ⊕ (Nat × List Value)
abbrev ix_H : Type := Nat × Nat × (Nat → ix_E)
abbrev ix_L : Type := List (Nat × Value)
abbrev ix_F : Type := Nat × ix_L × List Value × ix_H
abbrev ix_O : Type := Option Value × ix_H
abbrev ix_R : Type := ix_F ⊕ (ix_O ⊕ (Nat × List Value × ix_F))
abbrev ix_S : Type := Option (Nat × (Nat → Int32))
def ix_get (ls : ix_L) (k : Nat) : Option Value := (ls.find? (fun q => q.1 == k)).map (fun q => q.2)
def ix_put1 (ls : ix_L) (i : Nat) (v : Value) : ix_L := (i, v) :: ls.filter (fun q => !(q.1 == i) && !(q.1 + 1 == i && q.2.category == 2))
def ix_put2 (ls : ix_L) (i : Nat) (v : Value) : ix_L := (i, v) :: ls.filter (fun q => !(q.1 == i) && (!(q.1 == i + 1) && !(q.1 + 1 == i && q.2.category == 2)))
def ix_set (h : ix_H) (k : Nat) (x : ix_E) : ix_H := (h.1, h.2.1, va_up h.2.2 k x)
def ix_new (h : ix_H) (n : Nat) (x : ix_E) : ix_H := (h.1 + 1, h.2.1 + n, va_up h.2.2 h.1 x)
def ix_at (T : ix_T) (pc : Nat) : Option (Instr × Nat) := (T.find? (fun q => q.1 == pc)).map (fun q => q.2)
def ix_fld (cn idx : Nat) : Option (Nat × Nat × Nat × Nat) := (ix_FT.find? (fun q => q.1 == cn && q.2.1 == idx)).map (fun q => q.2.2)
def ix_mth (cn idx : Nat) : Option (Nat × Nat × Nat) := (ix_MT.find? (fun q => q.1 == cn && q.2.1 == idx)).map (fun q => q.2.2)
def ix_cls (cn idx : Nat) : Option (Nat × Nat) := (ix_CT.find? (fun q => q.1 == cn && q.2.1 == idx)).map (fun q => q.2.2)
def ix_con (cn idx : Nat) : Option (Int32 × Nat) := (ix_KT.find? (fun q => q.1 == cn && q.2.1 == idx)).map (fun q => q.2.2)
def ix_cnl (cn idx : Nat) : Option (Int64 × Nat) := (ix_KL.find? (fun q => q.1 == cn && q.2.1 == idx)).map (fun q => q.2.2)
def ix_jmp (pc : Nat) (off : Int) : Option Nat := if 0 ≤ (pc : Int) + off then some ((pc : Int) + off).toNat else none
def ix_len : Instr → Nat
  | .bipush _ => 2 | .iload _ => 2 | .lload _ => 2 | .aload _ => 2 | .istore _ => 2 | .lstore _ => 2 | .astore _ => 2 | .ldc _ => 2 | .newarray _ => 2
  | .sipush _ => 3 | .iinc _ _ => 3 | .ifCond _ _ => 3 | .if_icmp _ _ => 3 | .goto _ => 3 | .getfield _ => 3 | .putfield _ => 3 | .invokevirtual _ => 3 | .invokespecial _ => 3 | .invokestatic _ => 3 | .new _ => 3 | .anewarray _ => 3 | .ldc2_w _ => 3
  | _ => 1
def ix_tln (T : ix_T) : Bool := T.all (fun x => match x.2.1 with | .tableswitch _ _ _ _ => true | i => x.2.2 == ix_len i)
def ix_cmp (c : ClassFile.Cond) (x y : Int32) : Bool := match c with
  | .eq => decide (x = y) | .ne => decide (¬ x = y) | .lt => decide (x < y) | .ge => decide (y ≤ x) | .gt => decide (y < x) | .le => decide (x ≤ y)
def ix_pure (i : Instr) (st : List Value) : Option (List Value) := match i with
  | .iconst n => some (.int (Int32.ofInt n) :: st)
  | .bipush n => some (.int (Int8.ofInt n).toInt32 :: st)
  | .sipush n => some (.int (Int16.ofInt n).toInt32 :: st)
  | .iadd => (match st with | .int y :: .int x :: r => some (.int (x + y) :: r) | _ => none)
  | .isub => (match st with | .int y :: .int x :: r => some (.int (x - y) :: r) | _ => none)
  | .imul => (match st with | .int y :: .int x :: r => some (.int (x * y) :: r) | _ => none)
  | .iand => (match st with | .int y :: .int x :: r => some (.int (x &&& y) :: r) | _ => none)
  | .ior => (match st with | .int y :: .int x :: r => some (.int (x ||| y) :: r) | _ => none)
  | .ixor => (match st with | .int y :: .int x :: r => some (.int (x ^^^ y) :: r) | _ => none)
  | .ishl => (match st with | .int y :: .int x :: r => some (.int (x <<< (y &&& 31)) :: r) | _ => none)
  | .ishr => (match st with | .int y :: .int x :: r => some (.int (x >>> (y &&& 31)) :: r) | _ => none)
  | .iushr => (match st with | .int y :: .int x :: r => some (.int (x.toUInt32 >>> (y.toUInt32 &&& Int32.toUInt32 31)).toInt32 :: r) | _ => none)
  | .irem => (match st with | .int y :: .int x :: r => if y = 0 then none else some (.int (x - x / y * y) :: r) | _ => none)
  | .idiv => (match st with | .int y :: .int x :: r => if y = 0 then none else some (.int (x / y) :: r) | _ => none)
  | .ineg => (match st with | .int x :: r => some (.int (-x) :: r) | _ => none)
  | .i2l => (match st with | .int x :: r => some (.long x.toInt64 :: r) | _ => none)
  | .l2i => (match st with | .long x :: r => some (.int x.toInt32 :: r) | _ => none)
  | .i2b => (match st with | .int x :: r => some (.int x.toInt8.toInt32 :: r) | _ => none)
  | .land => (match st with | .long y :: .long x :: r => some (.long (x &&& y) :: r) | _ => none)
  | .lor => (match st with | .long y :: .long x :: r => some (.long (x ||| y) :: r) | _ => none)
  | .lshl => (match st with | .int y :: .long x :: r => some (.long (x <<< (y.toInt64 &&& 63)) :: r) | _ => none)
  | .lshr => (match st with | .int y :: .long x :: r => some (.long (x >>> (y.toInt64 &&& 63)) :: r) | _ => none)
  | .lushr => (match st with | .int y :: .long x :: r => some (.long (x.toUInt64 >>> (y.toInt64.toUInt64 &&& Int64.toUInt64 63)).toInt64 :: r) | _ => none)
  | .dup => (match st with | v :: r => if v.category = 1 then some (v :: v :: r) else none | _ => none)
  | .pop => (match st with | v :: r => if v.category = 1 then some r else none | _ => none)
  | .dup2 => (match st with | v :: w :: r => if v.category = 1 ∧ w.category = 1 then some (v :: w :: v :: w :: r) else none | _ => none)
  | _ => none
/-- the types of the fields, and which are final -/
def ix_ty : Nat → Nat → FieldType := fun ci => match ci with
  | 0 => tyX0 | 1 => tyX1 | 2 => tyX2 | 3 => tyX3 | 4 => tyX4 | _ => tyX5
def ix_TT : Nat → u_T := fun ci => match ci with
  | 0 => TX0 | 1 => TX1 | 2 => TX2 | 3 => TX3 | 4 => TX4 | _ => TX5
def ix_NN : Nat → Nat := fun ci => match ci with
  | 0 => 2 | 1 => 5 | 2 => 7 | 3 => 5 | 4 => 15 | _ => 34
def ix_ok (ty : FieldType) (v : Value) : Bool := match ty, v with
  | .int, .int _ => true
  | .boolean, .int x => decide (x = 0 ∨ x = 1)
  | .object _, .ref _ => true
  | .array _, .ref _ => true
  | _, _ => false
def ix_def (ty : FieldType) : Value := match ty with
  | .int => .int 0 | .boolean => .int 0 | .byte => .int 0 | _ => .null
def ix_blank (ci : Nat) : List Value := (List.range (ix_NN ci)).map (fun k => ix_def (ix_ty ci k))
def ix_ldI (pc n : Nat) (ls : ix_L) (st : List Value) (h : ix_H) (k : Nat) : Option ix_R := match ix_get ls k with
  | some (.int x) => some (.inl (pc + n, ls, .int x :: st, h)) | _ => none
def ix_ldL (pc n : Nat) (ls : ix_L) (st : List Value) (h : ix_H) (k : Nat) : Option ix_R := match ix_get ls k with
  | some (.long x) => some (.inl (pc + n, ls, .long x :: st, h)) | _ => none
def ix_ldA (pc n : Nat) (ls : ix_L) (st : List Value) (h : ix_H) (k : Nat) : Option ix_R := match ix_get ls k with
  | some (.ref x) => some (.inl (pc + n, ls, .ref x :: st, h)) | some (.retAddr x) => some (.inl (pc + n, ls, .retAddr x :: st, h)) | _ => none
def ix_stI (mL pc n : Nat) (ls : ix_L) (st : List Value) (h : ix_H) (k : Nat) : Option ix_R := match st with
  | .int x :: r => if k < mL then some (.inl (pc + n, ix_put1 ls k (.int x), r, h)) else none | _ => none
def ix_stL (mL pc n : Nat) (ls : ix_L) (st : List Value) (h : ix_H) (k : Nat) : Option ix_R := match st with
  | .long x :: r => if k + 1 < mL then some (.inl (pc + n, ix_put2 ls k (.long x), r, h)) else none | _ => none
def ix_stA (mL pc n : Nat) (ls : ix_L) (st : List Value) (h : ix_H) (k : Nat) : Option ix_R := match st with
  | .ref x :: r => if k < mL then some (.inl (pc + n, ix_put1 ls k (.ref x), r, h)) else none | _ => none
def ix_goto (pc : Nat) (off : Int) (ls : ix_L) (st : List Value) (h : ix_H) : Option ix_R := match ix_jmp pc off with
  | some t => some (.inl (t, ls, st, h)) | none => none
def ix_br (b : Bool) (pc : Nat) (off : Int) (ls : ix_L) (st : List Value) (h : ix_H) : Option ix_R := match ix_jmp pc off with
  | some t => some (.inl (if b then t else pc + 3, ls, st, h)) | none => none
def ix_gf (cn idx pc : Nat) (ls : ix_L) (st : List Value) (h : ix_H) : Option ix_R := match st with
  | .ref a :: r => (match h.2.2 a, ix_fld cn idx with
    | .inr (ci, fs), some (_, cj, k, _) => if ci = cj then (match fs[k]? with | some v => some (.inl (pc + 3, ls, v :: r, h)) | none => none) else none
    | _, _ => none)
  | _ => none
def ix_pf (cn kd idx pc : Nat) (ls : ix_L) (st : List Value) (h : ix_H) : Option ix_R := match st with
  | v :: .ref a :: r => (match h.2.2 a, ix_fld cn idx with
    | .inr (ci, fs), some (nest, cj, k, _) =>
      if ci = cj ∧ k < fs.length ∧ ix_ok (ix_ty ci k) v = true ∧ ((ix_TT ci k).2.2.2 = true → kd = 2 ∧ cn = ci ∧ nest = 0)
      then some (.inl (pc + 3, ls, r, ix_set h a (.inr (ci, fs.set k v)))) else none
    | _, _ => none)
  | _ => none
def ix_al (S : ix_S) (pc : Nat) (ls : ix_L) (st : List Value) (h : ix_H) : Option ix_R := match st with
  | .ref a :: r => (match h.2.2 a with
    | .inl (.int, n, .inl _) => some (.inl (pc + 1, ls, .int (Int32.ofNat n) :: r, h))
    | .inl (.byte, n, .inl _) => some (.inl (pc + 1, ls, .int (Int32.ofNat n) :: r, h))
    | .inl (.boolean, n, .inl _) => some (.inl (pc + 1, ls, .int (Int32.ofNat n) :: r, h))
    | _ => none)
  | .retAddr _ :: r => (match S with | some (L, _) => some (.inl (pc + 1, ls, .int (Int32.ofNat L) :: r, h)) | none => none)
  | _ => none
def ix_ia (S : ix_S) (pc : Nat) (ls : ix_L) (st : List Value) (h : ix_H) : Option ix_R := match st with
  | .int i :: .ref a :: r => (match h.2.2 a with
    | .inl (.int, n, .inl f) => if i < 0 ∨ n ≤ i.toNatClampNeg then none else some (.inl (pc + 1, ls, .int (f i.toNatClampNeg) :: r, h)) | _ => none)
  | .int i :: .retAddr _ :: r => (match S with
    | some (L, xs) => if i < 0 ∨ L ≤ i.toNatClampNeg then none else some (.inl (pc + 1, ls, .int (xs i.toNatClampNeg) :: r, h)) | none => none)
  | _ => none
def ix_ba (pc : Nat) (ls : ix_L) (st : List Value) (h : ix_H) : Option ix_R := match st with
  | .int i :: .ref a :: r => (match h.2.2 a with
    | .inl (.byte, n, .inl f) => if i < 0 ∨ n ≤ i.toNatClampNeg then none else some (.inl (pc + 1, ls, .int (f i.toNatClampNeg) :: r, h))
    | .inl (.boolean, n, .inl f) => if i < 0 ∨ n ≤ i.toNatClampNeg then none else some (.inl (pc + 1, ls, .int (f i.toNatClampNeg) :: r, h))
    | _ => none)
  | _ => none
def ix_aa (pc : Nat) (ls : ix_L) (st : List Value) (h : ix_H) : Option ix_R := match st with
  | .int i :: .ref a :: r => (match h.2.2 a with
    | .inl (.object C, n, .inr (.inr (.inr (.inr f)))) => if i < 0 ∨ n ≤ i.toNatClampNeg ∨ ¬ (C = RX1 ∨ C = RX2) then none else (match f i.toNatClampNeg with
      | some y => some (.inl (pc + 1, ls, .ref y :: r, h)) | none => none)
    | _ => none)
  | _ => none
def ix_is (pc : Nat) (ls : ix_L) (st : List Value) (h : ix_H) : Option ix_R := match st with
  | .int x :: .int i :: .ref a :: r => (match h.2.2 a with
    | .inl (.int, n, .inl f) => if i < 0 ∨ n ≤ i.toNatClampNeg then none else some (.inl (pc + 1, ls, r, ix_set h a (.inl (.int, n, .inl (upd f i.toNatClampNeg x))))) | _ => none)
  | _ => none
def ix_bs (pc : Nat) (ls : ix_L) (st : List Value) (h : ix_H) : Option ix_R := match st with
  | .int x :: .int i :: .ref a :: r => (match h.2.2 a with
    | .inl (.byte, n, .inl f) => if i < 0 ∨ n ≤ i.toNatClampNeg then none else some (.inl (pc + 1, ls, r, ix_set h a (.inl (.byte, n, .inl (upd f i.toNatClampNeg x.toInt8.toInt32)))))
    | .inl (.boolean, n, .inl f) => if i < 0 ∨ n ≤ i.toNatClampNeg then none else some (.inl (pc + 1, ls, r, ix_set h a (.inl (.boolean, n, .inl (upd f i.toNatClampNeg (x &&& 1))))))
    | _ => none)
  | _ => none
def ix_as (pc : Nat) (ls : ix_L) (st : List Value) (h : ix_H) : Option ix_R := match st with
  | .ref v :: .int i :: .ref a :: r => (match h.2.2 a, h.2.2 v with
    | .inl (.object C, n, .inr (.inr (.inr (.inr f)))), .inr (ci, _) => if i < 0 ∨ n ≤ i.toNatClampNeg then none else if (ci = 1 ∨ ci = 2) ∧ ix_RC ci = C then some (.inl (pc + 1, ls, r, ix_set h a (.inl (.object C, n, .inr (.inr (.inr (.inr (va_up f i.toNatClampNeg (some v)))))))))
      else none
    | _, _ => none)
  | _ => none
def ix_na (ty : FieldType) (pc : Nat) (ls : ix_L) (st : List Value) (h : ix_H) : Option ix_R := match st with
  | .int n :: r => if n < 0 ∨ 200000 < n.toNatClampNeg ∨ ¬ (ty = .int ∨ ty = .byte ∨ ty = .boolean) then none else some (.inl (pc + 2, ls, .ref h.1 :: r, ix_new h n.toNatClampNeg (.inl (ty, n.toNatClampNeg, .inl (fun _ => 0)))))
  | _ => none
def ix_nq (cn idx pc : Nat) (ls : ix_L) (st : List Value) (h : ix_H) : Option ix_R := match st, ix_cls cn idx with
  | .int n :: r, some (ci, _) => if n < 0 ∨ 200000 < n.toNatClampNeg ∨ ¬ (ci = 1 ∨ ci = 2) then none else some (.inl (pc + 3, ls, .ref h.1 :: r, ix_new h n.toNatClampNeg (.inl (.object (ix_RC ci), n.toNatClampNeg, .inr (.inr (.inr (.inr (fun _ => none))))))))
  | _, _ => none
def ix_no (cn idx pc : Nat) (ls : ix_L) (st : List Value) (h : ix_H) : Option ix_R := match ix_cls cn idx with
  | some (ci, _) => if ci ≤ 5 then some (.inl (pc + 3, ls, .ref h.1 :: st, ix_new h (ix_NN ci) (.inr (ci, ix_blank ci)))) else none
  | none => none
def ix_rcv (h : ix_H) (cn : Nat) (as : List Value) : Bool := match as with
  | .ref a :: _ => (match h.2.2 a with | .inr (ci, _) => ci == cn | _ => false)
  | _ => false
/-- a call: kd the kind that the instruction asks for -/
def ix_call (cn kd idx pc : Nat) (ls : ix_L) (st : List Value) (h : ix_H) : Option ix_R := match ix_mth cn idx with
  | none => none
  | some (nest, y, _) => if nest = 2 then (match st with
      | .ref _ :: r => if kd = 2 ∧ (r.map fun v => v.category).sum ≤ 8 then some (.inl (pc + 3, ls, r, h)) else none
      | _ => none)
    else if nest = 3 then (match st with
      | .int y :: .int x :: r => if kd = 1 ∧ (r.map fun v => v.category).sum ≤ 8 then some (.inl (pc + 3, ls, .int (if x < y then y else x) :: r, h)) else none
      | _ => none)
    else if nest = 4 then (match st with
      | .int y :: .int x :: r => if kd = 1 ∧ (r.map fun v => v.category).sum ≤ 8 then some (.inl (pc + 3, ls, .int (if y < x then y else x) :: r, h)) else none
      | _ => none)
    else (match mNs[y]? with
      | none => none
      | some q =>
        let np := q.2.2.2.2.2.1 + (if kd = 1 then 0 else 1)
        if q.2.2.2.2.2.2.1 = kd ∧ np ≤ st.length ∧ ((st.drop np).map fun v => v.category).sum ≤ 8 ∧ (nest = 1 → kd = 2) ∧ (nest = 0 ∨ nest = 1) ∧
            (kd = 1 ∨ ix_rcv h q.1 (st.take np).reverse = true)
        then some (.inr (.inr (y, (st.take np).reverse, (pc + 3, ls, st.drop np, h)))) else none)
def ix_exec (S : ix_S) (q : ix_M) (i : Instr) (pc : Nat) (ls : ix_L) (st : List Value) (h : ix_H) : Option ix_R := match i with
  | .iload k => ix_ldI pc 2 ls st h k
  | .iload_n k => ix_ldI pc 1 ls st h k
  | .lload k => ix_ldL pc 2 ls st h k
  | .lload_n k => ix_ldL pc 1 ls st h k
  | .aload k => ix_ldA pc 2 ls st h k
  | .aload_n k => ix_ldA pc 1 ls st h k
  | .istore k => ix_stI q.2.2.2.1 pc 2 ls st h k
  | .istore_n k => ix_stI q.2.2.2.1 pc 1 ls st h k
  | .lstore k => ix_stL q.2.2.2.1 pc 2 ls st h k
  | .lstore_n k => ix_stL q.2.2.2.1 pc 1 ls st h k
  | .astore k => ix_stA q.2.2.2.1 pc 2 ls st h k
  | .astore_n k => ix_stA q.2.2.2.1 pc 1 ls st h k
  | .iinc k c => (match ix_get ls k with | some (.int x) => if k < q.2.2.2.1 then some (.inl (pc + 3, ix_put1 ls k (.int (x + Int32.ofInt c)), st, h)) else none | _ => none)
  | .goto off => ix_goto pc off ls st h
  | .ifCond c off => (match st with | .int x :: r => ix_br (ix_cmp c x 0) pc off ls r h | _ => none)
  | .if_icmp c off => (match st with | .int y :: .int x :: r => ix_br (ix_cmp c x y) pc off ls r h | _ => none)
  | .tableswitch d lo hi offs => (match st with
    | .int x :: r => if x.toInt < lo ∨ hi < x.toInt then ix_goto pc d ls r h else (match offs[(x.toInt - lo).toNat]? with | some o => ix_goto pc o ls r h | none => none)
    | _ => none)
  | .ldc idx => (match ix_con q.1 idx with | some (v, _) => some (.inl (pc + 2, ls, .int v :: st, h)) | none => none)
  | .ldc2_w idx => (match ix_cnl q.1 idx with | some (v, _) => some (.inl (pc + 3, ls, .long v :: st, h)) | none => none)
  | .getfield idx => ix_gf q.1 idx pc ls st h
  | .putfield idx => ix_pf q.1 q.2.2.2.2.2.2.1 idx pc ls st h
  | .arraylength => ix_al S pc ls st h
  | .iaload => ix_ia S pc ls st h
  | .baload => ix_ba pc ls st h
  | .aaload => ix_aa pc ls st h
  | .iastore => ix_is pc ls st h
  | .bastore => ix_bs pc ls st h
  | .aastore => ix_as pc ls st h
  | .newarray t => ix_na (newarray.typeOf t) pc ls st h
  | .anewarray idx => ix_nq q.1 idx pc ls st h
  | .new idx => ix_no q.1 idx pc ls st h
  | .invokevirtual idx => ix_call q.1 0 idx pc ls st h
  | .invokestatic idx => ix_call q.1 1 idx pc ls st h
  | .invokespecial idx => ix_call q.1 2 idx pc ls st h
  | .ireturn => (match st, q.2.2.2.2.1 with | [.int v], some ty => if ix_ok ty (.int v) = true then some (.inr (.inl (some (.int v), h))) else none | _, _ => none)
  | .areturn => (match st, q.2.2.2.2.1 with | [.ref v], some (.object _) => some (.inr (.inl (some (.ref v), h))) | _, _ => none)
  | .return_ => (match st, q.2.2.2.2.1 with | [], none => some (.inr (.inl (none, h))) | _, _ => none)
  | i => (match ix_pure i st with | some st' => some (.inl (pc + ix_len i, ls, st', h)) | none => none)
def ix_step (S : ix_S) (q : ix_M) (f : ix_F) : Option ix_R := match ix_at q.2.2.2.2.2.2.2.1 f.1 with
  | some (i, _) => ix_exec S q i f.1 f.2.1 f.2.2.1 f.2.2.2
  | none => none
def ix_run (S : ix_S) (C : Nat → List Value → ix_H → ix_O → Prop) (q : ix_M) : Nat → ix_F → ix_O → Prop
  | 0, _, _ => False
  | n + 1, f, o => match ix_step S q f with
    | none => False
    | some (.inl g) => ix_run S C q n g o
    | some (.inr (.inl u)) => u = o
    | some (.inr (.inr (y, as, (pc, ls, st, h)))) => ∃ (v : Option Value) (h' : ix_H), C y as h (v, h') ∧ ix_run S C q n (pc, ls, v.toList ++ st, h') o
/-- method number y, with these arguments, at this heap, comes to its end with that answer and that heap; at most d calls stand open -/
def ix_ev : Nat → Nat → List Value → ix_H → ix_O → Prop
  | 0, _, _, _, _ => False
  | d + 1, y, as, h, o => ∃ (q : ix_M) (n : Nat), mNs[y]? = some q ∧ ix_run none (ix_ev d) q n (0, lv_args 0 as, [], h) o
/-- inside a method, with calls of depth d -/
def ix_J (S : ix_S) (d : Nat) (q : ix_M) (f : ix_F) (o : ix_O) : Prop := ∃ n, ix_run S (ix_ev d) q n f o
end
section
/-! THE ABSTRACT HEAP ON THE MACHINE'S -/
def ix_cv (b base : Nat) : Value → Value
  | .ref k => .ref (base + k)
  | .retAddr _ => .ref b
  | .int x => .int x
  | .long x => .long x
  | .float x => .float x
  | .double x => .double x
  | .null => .null
theorem ix_cv_cat (b base : Nat) (v : Value) : (ix_cv b base v).category = v.category := by cases v <;> rfl
abbrev ix_cp (b base : Nat) (x : Nat × Value) : Nat × Value := (x.1, ix_cv b base x.2)
def ix_ca (base : Nat) (x : (Nat → Int32) ⊕ (Nat → Int64) ⊕ (Nat → UInt32) ⊕ (Nat → UInt64) ⊕ (Nat → Option Nat)) : (Nat → Int32) ⊕ (Nat → Int64) ⊕ (Nat → UInt32) ⊕ (Nat → UInt64) ⊕ (Nat → Option Nat) := match x with
  | .inl f => .inl f
  | .inr (.inl f) => .inr (.inl f)
  | .inr (.inr (.inl f)) => .inr (.inr (.inl f))
  | .inr (.inr (.inr (.inl f))) => .inr (.inr (.inr (.inl f)))
  | .inr (.inr (.inr (.inr f))) => .inr (.inr (.inr (.inr (fun i => (f i).map (fun k => base + k)))))
def ix_ce (b base : Nat) (aC : FieldType → ClassId) (x : ix_E) : va_E := match x with
  | .inl (ty, n, f) => .inl (aC ty, n, ix_ca base f)
  | .inr (ci, fs) => .inr (ci, fs.map (ix_cv b base))
def ix_ws (b base : Nat) (aC : FieldType → ClassId) (h : ix_H) : va_W := (List.range h.1).map (fun k => (base + k, ix_ce b base aC (h.2.2 k)))
def ix_A (base : Nat) : Nat → Prop := fun x => base ≤ x
section IXA
variable {b base : Nat} {aC : FieldType → ClassId} {h : ix_H}
theorem ix_ws_get {k : Nat} (hk : k < h.1) : (ix_ws b base aC h)[k]? = some (base + k, ix_ce b base aC (h.2.2 k)) := by
  simp [ix_ws, hk]
theorem ix_ws_inv {k : Nat} {x : Nat × va_E} (hx : (ix_ws b base aC h)[k]? = some x) : k < h.1 ∧ x = (base + k, ix_ce b base aC (h.2.2 k)) := by
  have hk : k < h.1 := by
    have := (List.getElem?_eq_some_iff.mp hx).1
    simpa [ix_ws] using this
  rw [ix_ws_get hk] at hx
  exact ⟨hk, (Option.some.inj hx).symm⟩
theorem ix_ws_set {k : Nat} (hk : k < h.1) (x : ix_E) : (ix_ws b base aC h).set k (base + k, ix_ce b base aC x) = ix_ws b base aC (ix_set h k x) := by
  apply List.ext_getElem?
  intro j
  by_cases hj : j < h.1
  · rw [ix_ws_get (h := ix_set h k x) (show j < (ix_set h k x).1 from hj), List.getElem?_set]
    by_cases e : k = j
    · subst e
      rw [if_pos rfl, if_pos (by simp [ix_ws, hk])]
      simp [ix_set, va_up]
    · rw [if_neg e, ix_ws_get hj]
      simp [ix_set, va_up, Ne.symm e]
  · rw [List.getElem?_eq_none (by simp [ix_ws]; omega), List.getElem?_eq_none (by simp [ix_ws, ix_set]; omega)]
theorem ix_ws_new (n : Nat) (x : ix_E) : ix_ws b base aC h ++ [(base + h.1, ix_ce b base aC x)] = ix_ws b base aC (ix_new h n x) := by
  simp only [ix_ws, ix_new, List.range_succ, List.map_append, List.map_cons, List.map_nil]
  congr 1
  · apply List.map_congr_left
    intro k hk
    have : k ≠ h.1 := by have := List.mem_range.mp hk; omega
    simp [va_up, this]
  · simp [va_up]
theorem ix_wD : va_D (ix_A base) (ix_ws b base aC h) := by
  refine ⟨fun i j x y hx hy hxy => ?_, fun k x hx => ?_⟩
  · obtain ⟨-, rfl⟩ := ix_ws_inv hx
    obtain ⟨-, rfl⟩ := ix_ws_inv hy
    have : base + i = base + j := hxy
    omega
  · obtain ⟨-, rfl⟩ := ix_ws_inv hx
    exact Nat.le_add_right _ _
end IXA
/-- an unused cell -/
def ix_no_ : ix_E := .inr (99, [])
def ix_I (D : va_G) (b base : Nat) (aC : FieldType → ClassId) (H0 : Heap) (h : ix_H) (H : Heap) (locs : List Loc) : Prop :=
  H.size = base + h.1 ∧ (∀ k, h.1 ≤ k → h.2.2 k = ix_no_) ∧ va_P D vwCl (ix_ws b base aC h) H ∧ va_S (ix_A base) H0 H locs
section IXB
variable {D : va_G} {b base : Nat} {aC : FieldType → ClassId} {H0 : Heap} {h : ix_H} {H : Heap} {locs : List Loc}
theorem ix_I.lt (hI : ix_I D b base aC H0 h H locs) {a : Nat} (hx : h.2.2 a ≠ ix_no_) : a < h.1 := Nat.lt_of_not_le fun z => hx (hI.2.1 a z)
theorem ix_I.set (hI : ix_I D b base aC H0 h H locs) {a : Nat} (ha : a < h.1) {x : ix_E} {H1 : Heap} {k : Nat} (he : va_at D vwCl (base + a, ix_ce b base aC x) H1) (z : H1.size = H.size) (oq : ∀ y : Nat, y ≠ base + a → H1[y]? = H[y]?) :
    ix_I D b base aC H0 (ix_set h a x) H1 (locs ++ [⟨base + a, k⟩]) := by
  refine ⟨z.trans hI.1, fun j hj => ?_, ?_, hI.2.2.2.put z oq (Nat.le_add_right _ _)⟩
  · have hj : h.1 ≤ j := hj
    have : j ≠ a := by omega
    simp only [ix_set, va_up, this, if_false]
    exact hI.2.1 j hj
  · rw [← ix_ws_set ha]
    exact hI.2.2.1.set ix_wD (ix_ws_get ha) he oq
theorem ix_I.new (hI : ix_I D b base aC H0 h H locs) {x : ix_E} {H1 : Heap} (n : Nat) (he : va_at D vwCl (base + h.1, ix_ce b base aC x) H1) (z : H1.size = H.size + 1) (o1 : ∀ y : Nat, y < H.size → H1[y]? = H[y]?) :
    ix_I D b base aC H0 (ix_new h n x) H1 locs := by
  obtain ⟨i1, i2, i3, i4⟩ := hI
  refine ⟨?_, fun j hj => ?_, ?_, Nat.le_trans i4.1 (by omega), fun y h1 h2 => (o1 y (Nat.lt_of_lt_of_le h1 i4.1)).trans (i4.2.1 y h1 h2), i4.2.2⟩
  · show H1.size = base + (h.1 + 1)
    omega
  · have hj : h.1 + 1 ≤ j := hj
    have : j ≠ h.1 := by omega
    simp only [ix_new, va_up, this, if_false]
    exact i2 j (by omega)
  · rw [← ix_ws_new n x]
    refine (i3.kept fun k y hy => o1 y.1 (i3 k y hy).lt).app fun k y hy => ?_
    have hz : k < 1 := (List.getElem?_eq_some_iff.mp hy).1
    rw [show k = 0 by omega] at hy
    cases hy
    exact he
end IXB
theorem ix_get_mem {ls : ix_L} {k : Nat} {v : Value} (h : ix_get ls k = some v) : (k, v) ∈ ls := by
  unfold ix_get at h
  cases hf : ls.find? (fun x => x.1 == k) with
  | none => rw [hf] at h; cases h
  | some x =>
    rw [hf] at h
    have h1 := List.find?_some hf
    have h2 := List.mem_of_find?_eq_some hf
    obtain ⟨i, w⟩ := x
    simp at h1 h
    subst h1; subst h
    exact h2
theorem ix_put1_map (b base : Nat) (ls : ix_L) (i : Nat) (v : Value) : (i, ix_cv b base v) :: (ls.map (ix_cp b base)).filter (fun x => !(x.1 == i) && !(x.1 + 1 == i && x.2.category == 2)) = (ix_put1 ls i v).map (ix_cp b base) := by
  simp only [ix_put1, List.map_cons, List.filter_map]
  congr 2
  apply List.filter_congr
  intro x _
  simp [ix_cp, ix_cv_cat]
theorem ix_put2_map (b base : Nat) (ls : ix_L) (i : Nat) (v : Value) : (i, ix_cv b base v) :: (ls.map (ix_cp b base)).filter (fun x => !(x.1 == i) && (!(x.1 == i + 1) && !(x.1 + 1 == i && x.2.category == 2))) = (ix_put2 ls i v).map (ix_cp b base) := by
  simp only [ix_put2, List.map_cons, List.filter_map]
  congr 2
  apply List.filter_congr
  intro x _
  simp [ix_cp, ix_cv_cat]
theorem ix_args_map (b base : Nat) (as : List Value) : ∀ i : Nat, lv_args i (as.map (ix_cv b base)) = (lv_args i as).map (ix_cp b base) := by
  induction as with
  | nil => intro i; rfl
  | cons v as ih =>
    intro i
    simp only [List.map_cons, lv_args, ix_cv_cat, ih]
/-! the words -/
def ix_tb : List Jvm.Cond := lw_tbl.filter goodWord
def ix_nst : List Jvm.Cond := lw_tbl.filter (fun w => match w with | .fieldLinkNest _ _ _ _ _ _ => true | .methodLinkNest _ _ _ _ => true | _ => false)
def ix_tys (aC : FieldType → ClassId) : List (ClassId × FieldType) := [(aC .int, .int), (aC .byte, .byte), (aC .boolean, .boolean), (aC (.object RX1), .object RX1), (aC (.object RX2), .object RX2)]
def ix_K (D : va_G) (aC : FieldType → ClassId) (U : State) : Prop := va_K D vwCl (ix_tys aC) U ∧ (∀ w ∈ ix_nst, va_Nw w U) ∧ va_AO RX1 U ∧ va_AO RX2 U
theorem ix_tb_good : GoodIn ix_tb ix_tb := fun w hw => ⟨hw, good_of_word (List.mem_filter.mp hw).2⟩
theorem ix_K.warm {D : va_G} {aC : FieldType → ClassId} {s U : State} (hW : s.WarmedH U.vm) (h : ix_K D aC s) : ix_K D aC U := by
  obtain ⟨h1, h2, h3, h4⟩ := h
  refine ⟨va_K.moved hW.alike h1, fun w hw => ?_, h3.moved hW.alike, h4.moved hW.alike⟩
  have h5 := h2 w hw
  have h6 := (List.mem_filter.mp hw).2
  cases w <;> first | (cases h6; done) | exact va_Nw.warmF hW h5 | exact va_Nw.warmM hW h5
theorem ix_K.calling {D : va_G} {aC : FieldType → ClassId} {U : State} {g : JFrame} {mk : MethodId} {a : Array Value} (h : ix_K D aC U) : ix_K D aC (U.calling g mk a) := by
  obtain ⟨h1, h2, h3, h4⟩ := h
  refine ⟨va_K.moved (u := U) (U := U.calling g mk a) (Vm.Alike.refl U.vm) h1, fun w hw => ?_, h3.moved (u := U) (U := U.calling g mk a) (Vm.Alike.refl U.vm), h4.moved (u := U) (U := U.calling g mk a) (Vm.Alike.refl U.vm)⟩
  have h5 := h2 w hw
  have h6 := (List.mem_filter.mp hw).2
  cases w <;> first | (cases h6; done) | exact va_Nw.same rfl (u := U) (U := U.calling g mk a) rfl h5
/-! the tables against the Statement -/
def ix_fok (t : Nat × Nat × Nat × Nat × Nat × Nat) : Bool := match t with
  | (cn, idx, nest, ci, k, i) => decide (ci ≤ 5) && decide (k < ix_NN ci) && decide (lw_tbl[i]? = some (if nest = 0 then .fieldLink (ix_RC cn) idx (ix_TT ci k).1 (ix_TT ci k).2.1 (ix_TT ci k).2.2.1 else .fieldLinkNest (ix_RC cn) idx (ix_TT ci k).1 (ix_TT ci k).2.1 (ix_TT ci k).2.2.1 "OnceLedger"))
theorem ix_FT_ok : ix_FT.all ix_fok = true := by decide +kernel
def ix_kok (t : Nat × Nat × Int32 × Nat) : Bool := match t with
  | (cn, idx, v, i) => decide (lw_tbl[i]? = some (.constant (ix_RC cn) idx v))
theorem ix_KT_ok : ix_KT.all ix_kok = true := by decide +kernel
def ix_lok (t : Nat × Nat × Int64 × Nat) : Bool := match t with
  | (cn, idx, v, i) => decide (lw_tbl[i]? = some (.constantLong (ix_RC cn) idx v))
theorem ix_KL_ok : ix_KL.all ix_lok = true := by decide +kernel
def ix_cok (t : Nat × Nat × Nat × Nat) : Bool := match t with
  | (cn, idx, ci, i) => decide (ci ≤ 5) && decide (lw_tbl[i]? = some (.classLink (ix_RC cn) idx (ix_RC ci)))
theorem ix_CT_ok : ix_CT.all ix_cok = true := by decide +kernel
def ix_hok (t : Nat × Nat × Nat × Nat × Nat) : Bool := match t with
  | (cn, idx, nest, y, i) => if nest = 2 then decide (lw_tbl[i]? = some (.methodLink (ix_RC cn) idx objectInit)) else if nest = 3 then decide (lw_tbl[i]? = some (.methodLink (ix_RC cn) idx Lib.Math.max.name)) else if nest = 4 then decide (lw_tbl[i]? = some (.methodLink (ix_RC cn) idx Lib.Math.min.name)) else match mNs[y]? with
    | none => false
    | some q => decide (lw_tbl[i]? = some (if nest = 0 then .methodLink (ix_RC cn) idx q.2.1 else .methodLinkNest (ix_RC cn) idx q.2.1 "OnceLedger"))
theorem ix_MT_ok : ix_MT.all ix_hok = true := by decide +kernel
theorem ix_ins_ok : ∀ ci, ci < 6 → lw_tbl[ix_ins.getD ci 0]? = some (.instantiable (ix_RC ci) (ix_NN ci)) ∧ lw_tbl[ix_ini.getD ci 0]? = some (.initialized (ix_RC ci)) := by decide +kernel
theorem ix_mw_ok : lw_tbl[ix_mw.getD 0 0]? = some (.static Lib.Math.max.name) ∧ lw_tbl[ix_mw.getD 1 0]? = some (.code Lib.Math.max.name Lib.Math.max.code 2 (some .int)) ∧ lw_tbl[ix_mw.getD 2 0]? = some (.static Lib.Math.min.name) ∧ lw_tbl[ix_mw.getD 3 0]? = some (.code Lib.Math.min.name Lib.Math.min.code 2 (some .int)) ∧ lw_tbl[ix_mw.getD 4 0]? = some (.instanceMethod objectInit) ∧ lw_tbl[ix_mw.getD 5 0]? = some (.code objectInit ⟨#[0xb1]⟩ 1 none) ∧ lw_tbl[ix_mw.getD 6 0]? = some (.initialized "java/lang/Math") ∧ lw_tbl[ix_mw.getD 7 0]? = some (.arrayClass .int) ∧ lw_tbl[ix_mw.getD 8 0]? = some (.arrayClass .byte) ∧ lw_tbl[ix_mw.getD 9 0]? = some (.arrayClass .boolean) := by decide +kernel
end
section
/-! the methods' words, one by one -/
def ix_mok (q : ix_M) : Bool := match q with
  | (cn, nm, cc, mL, rt, np, kd, T, ic, ii, is) => decide (lw_tbl[ic]? = some (.code nm cc mL rt)) && decide (lw_tbl[ii]? = some (if kd = 1 then .static nm else .instanceMethod nm)) && decide (kd = 0 → lw_tbl[is]? = some (.selects (ix_RC cn) nm nm)) && decide (nm.cls = ix_RC cn) && decide (plainName nm.cls = true) && decide (mL ≤ 19) && decide (nm.cls ≠ "java/lang/invoke/MethodHandle" ∧ nm.cls ≠ "java/lang/invoke/VarHandle") && decide ((parseMethodDescriptor nm.desc).map (fun d => d.parameters.length) = some np) && decide (kd = 2 → nm.name = "<init>" ∧ rt = none) && decide (kd ≤ 2) && ix_tln T && decide (lw_tbl[ix_ini.getD cn 0]? = some (.initialized nm.cls))
theorem mD_X0_init_ok : ix_mok mD_X0_init = true := by decide +kernel
theorem mD_X0_clear_ok : ix_mok mD_X0_clear = true := by decide +kernel
theorem mD_X0_cutTo_ok : ix_mok mD_X0_cutTo = true := by decide +kernel
theorem mD_X0_at_ok : ix_mok mD_X0_at = true := by decide +kernel
theorem mD_X0_add_ok : ix_mok mD_X0_add = true := by decide +kernel
theorem mD_X0_addNumber_ok : ix_mok mD_X0_addNumber = true := by decide +kernel
theorem mD_X0_number_ok : ix_mok mD_X0_number = true := by decide +kernel
theorem mD_X0_seal_ok : ix_mok mD_X0_seal = true := by decide +kernel
theorem mD_X1_init_ok : ix_mok mD_X1_init = true := by decide +kernel
theorem mD_X1_clear_ok : ix_mok mD_X1_clear = true := by decide +kernel
theorem mD_X1_append_ok : ix_mok mD_X1_append = true := by decide +kernel
theorem mD_X1_has_ok : ix_mok mD_X1_has = true := by decide +kernel
theorem mD_X1_startOf_ok : ix_mok mD_X1_startOf = true := by decide +kernel
theorem mD_X1_field_ok : ix_mok mD_X1_field = true := by decide +kernel
theorem mD_X1_kindOf_ok : ix_mok mD_X1_kindOf = true := by decide +kernel
theorem mD_X1_isSeen_ok : ix_mok mD_X1_isSeen = true := by decide +kernel
theorem mD_X1_dropBroken_ok : ix_mok mD_X1_dropBroken = true := by decide +kernel
theorem mD_X1_cutBroken_ok : ix_mok mD_X1_cutBroken = true := by decide +kernel
theorem mD_X1_isSentBy_ok : ix_mok mD_X1_isSentBy = true := by decide +kernel
theorem mD_X1_nextOf_ok : ix_mok mD_X1_nextOf = true := by decide +kernel
theorem mD_X1_offsetOfRecent_ok : ix_mok mD_X1_offsetOfRecent = true := by decide +kernel
theorem mD_X1_hasEndOf_ok : ix_mok mD_X1_hasEndOf = true := by decide +kernel
theorem mD_X1_stable_ok : ix_mok mD_X1_stable = true := by decide +kernel
theorem mD_X1_committedEntries_ok : ix_mok mD_X1_committedEntries = true := by decide +kernel
theorem mD_X1_firstCommitted_ok : ix_mok mD_X1_firstCommitted = true := by decide +kernel
theorem mD_X1_firstSeen_ok : ix_mok mD_X1_firstSeen = true := by decide +kernel
theorem mD_X1_copyPayload_ok : ix_mok mD_X1_copyPayload = true := by decide +kernel
theorem mD_X2_init_ok : ix_mok mD_X2_init = true := by decide +kernel
theorem mD_X2_forget_ok : ix_mok mD_X2_forget = true := by decide +kernel
theorem mD_X2_openTransaction_ok : ix_mok mD_X2_openTransaction = true := by decide +kernel
theorem mD_X2_closeTransaction_ok : ix_mok mD_X2_closeTransaction = true := by decide +kernel
theorem mD_X2_isOpen_ok : ix_mok mD_X2_isOpen = true := by decide +kernel
theorem mD_X2_hasAdded_ok : ix_mok mD_X2_hasAdded = true := by decide +kernel
theorem mD_X3_init_ok : ix_mok mD_X3_init = true := by decide +kernel
theorem mD_X3_clear_ok : ix_mok mD_X3_clear = true := by decide +kernel
theorem mD_X3_note_ok : ix_mok mD_X3_note = true := by decide +kernel
theorem mD_X3_bytesOf_ok : ix_mok mD_X3_bytesOf = true := by decide +kernel
theorem mD_X3_keptOf_ok : ix_mok mD_X3_keptOf = true := by decide +kernel
theorem mD_X4_init_ok : ix_mok mD_X4_init = true := by decide +kernel
theorem mD_X4_format_ok : ix_mok mD_X4_format = true := by decide +kernel
theorem mD_X4_feed_ok : ix_mok mD_X4_feed = true := by decide +kernel
theorem mD_X4_register_ok : ix_mok mD_X4_register = true := by decide +kernel
theorem mD_X4_begin_ok : ix_mok mD_X4_begin = true := by decide +kernel
theorem mD_X4_send_ok : ix_mok mD_X4_send = true := by decide +kernel
theorem mD_X4_later_ok : ix_mok mD_X4_later = true := by decide +kernel
theorem mD_X4_end_ok : ix_mok mD_X4_end = true := by decide +kernel
theorem mD_X4_mark_ok : ix_mok mD_X4_mark = true := by decide +kernel
theorem mD_X4_marked_ok : ix_mok mD_X4_marked = true := by decide +kernel
theorem mD_X4_tick_ok : ix_mok mD_X4_tick = true := by decide +kernel
theorem mD_X4_fetch_ok : ix_mok mD_X4_fetch = true := by decide +kernel
theorem mD_X4_answer_ok : ix_mok mD_X4_answer = true := by decide +kernel
theorem mD_X4_sync_ok : ix_mok mD_X4_sync = true := by decide +kernel
theorem mD_X4_crash_ok : ix_mok mD_X4_crash = true := by decide +kernel
theorem mD_X4_open_ok : ix_mok mD_X4_open = true := by decide +kernel
theorem mD_X4_partition_ok : ix_mok mD_X4_partition = true := by decide +kernel
theorem mD_X4_entry_ok : ix_mok mD_X4_entry = true := by decide +kernel
theorem mD_X4_producer_ok : ix_mok mD_X4_producer = true := by decide +kernel
theorem mD_X4_next_ok : ix_mok mD_X4_next = true := by decide +kernel
theorem mD_X4_byteOf_ok : ix_mok mD_X4_byteOf = true := by decide +kernel
theorem mD_X4_count_ok : ix_mok mD_X4_count = true := by decide +kernel
theorem mD_X4_build_ok : ix_mok mD_X4_build = true := by decide +kernel
theorem mD_X4_forget_ok : ix_mok mD_X4_forget = true := by decide +kernel
theorem mD_X4_isKey_ok : ix_mok mD_X4_isKey = true := by decide +kernel
theorem mD_X4_isRegistered_ok : ix_mok mD_X4_isRegistered = true := by decide +kernel
theorem mD_X4_isPartition_ok : ix_mok mD_X4_isPartition = true := by decide +kernel
theorem mD_X4_isPlace_ok : ix_mok mD_X4_isPlace = true := by decide +kernel
theorem mD_X4_placeOf_ok : ix_mok mD_X4_placeOf = true := by decide +kernel
theorem mD_X4_rowOf_ok : ix_mok mD_X4_rowOf = true := by decide +kernel
theorem mD_X4_refusalOf_ok : ix_mok mD_X4_refusalOf = true := by decide +kernel
theorem mD_X4_takeSent_ok : ix_mok mD_X4_takeSent = true := by decide +kernel
theorem mD_X4_logHasRoom_ok : ix_mok mD_X4_logHasRoom = true := by decide +kernel
theorem mD_X4_bookHasRoom_ok : ix_mok mD_X4_bookHasRoom = true := by decide +kernel
theorem mD_X4_registeredProducers_ok : ix_mok mD_X4_registeredProducers = true := by decide +kernel
theorem mD_X4_openTransactions_ok : ix_mok mD_X4_openTransactions = true := by decide +kernel
theorem mD_X4_openThatAdded_ok : ix_mok mD_X4_openThatAdded = true := by decide +kernel
theorem mD_X4_writeToLog_ok : ix_mok mD_X4_writeToLog = true := by decide +kernel
theorem mD_X4_writeToBook_ok : ix_mok mD_X4_writeToBook = true := by decide +kernel
theorem mD_X4_learn_ok : ix_mok mD_X4_learn = true := by decide +kernel
theorem mD_X4_markLaters_ok : ix_mok mD_X4_markLaters = true := by decide +kernel
theorem mD_X4_setMark_ok : ix_mok mD_X4_setMark = true := by decide +kernel
theorem mD_X4_raiseEpoch_ok : ix_mok mD_X4_raiseEpoch = true := by decide +kernel
theorem mD_X4_decide_ok : ix_mok mD_X4_decide = true := by decide +kernel
theorem mD_X4_finish_ok : ix_mok mD_X4_finish = true := by decide +kernel
theorem mD_X4_endOverdue_ok : ix_mok mD_X4_endOverdue = true := by decide +kernel
theorem mD_X4_finishDecided_ok : ix_mok mD_X4_finishDecided = true := by decide +kernel
theorem mD_X4_firstToEnd_ok : ix_mok mD_X4_firstToEnd = true := by decide +kernel
theorem mD_X5_init_ok : ix_mok mD_X5_init = true := by decide +kernel
theorem mD_X5_forgets_ok : ix_mok mD_X5_forgets = true := by decide +kernel
theorem mD_X5_format_ok : ix_mok mD_X5_format = true := by decide +kernel
theorem mD_X5_sizeOf_ok : ix_mok mD_X5_sizeOf = true := by decide +kernel
theorem mD_X5_bytesFrom_ok : ix_mok mD_X5_bytesFrom = true := by decide +kernel
theorem mD_X5_unsynced_ok : ix_mok mD_X5_unsynced = true := by decide +kernel
theorem mD_X5_add_ok : ix_mok mD_X5_add = true := by decide +kernel
theorem mD_X5_opened_ok : ix_mok mD_X5_opened = true := by decide +kernel
theorem mD_X5_openedAt_ok : ix_mok mD_X5_openedAt = true := by decide +kernel
theorem mD_X5_bookHas_ok : ix_mok mD_X5_bookHas = true := by decide +kernel
theorem mD_X5_refused_ok : ix_mok mD_X5_refused = true := by decide +kernel
theorem mD_X5_registers_ok : ix_mok mD_X5_registers = true := by decide +kernel
theorem mD_X5_marksOf_ok : ix_mok mD_X5_marksOf = true := by decide +kernel
theorem mD_X5_finishes_ok : ix_mok mD_X5_finishes = true := by decide +kernel
theorem mD_X5_closes_ok : ix_mok mD_X5_closes = true := by decide +kernel
theorem mD_X5_ends_ok : ix_mok mD_X5_ends = true := by decide +kernel
theorem mD_X5_register_ok : ix_mok mD_X5_register = true := by decide +kernel
theorem mD_X5_begins_ok : ix_mok mD_X5_begins = true := by decide +kernel
theorem mD_X5_begin_ok : ix_mok mD_X5_begin = true := by decide +kernel
theorem mD_X5_offsetOf_ok : ix_mok mD_X5_offsetOf = true := by decide +kernel
theorem mD_X5_nextOf_ok : ix_mok mD_X5_nextOf = true := by decide +kernel
theorem mD_X5_again_ok : ix_mok mD_X5_again = true := by decide +kernel
theorem mD_X5_send_ok : ix_mok mD_X5_send = true := by decide +kernel
theorem mD_X5_isGroup_ok : ix_mok mD_X5_isGroup = true := by decide +kernel
theorem mD_X5_isPartition_ok : ix_mok mD_X5_isPartition = true := by decide +kernel
theorem mD_X5_later_ok : ix_mok mD_X5_later = true := by decide +kernel
theorem mD_X5_later__ok : ix_mok mD_X5_later_ = true := by decide +kernel
theorem mD_X5_end_ok : ix_mok mD_X5_end = true := by decide +kernel
theorem mD_X5_mark_ok : ix_mok mD_X5_mark = true := by decide +kernel
theorem mD_X5_marked_ok : ix_mok mD_X5_marked = true := by decide +kernel
theorem mD_X5_tick_ok : ix_mok mD_X5_tick = true := by decide +kernel
theorem mD_X5_manyOf_ok : ix_mok mD_X5_manyOf = true := by decide +kernel
theorem mD_X5_stable_ok : ix_mok mD_X5_stable = true := by decide +kernel
theorem mD_X5_isSeen_ok : ix_mok mD_X5_isSeen = true := by decide +kernel
theorem mD_X5_fetch_ok : ix_mok mD_X5_fetch = true := by decide +kernel
theorem mD_X5_answer_ok : ix_mok mD_X5_answer = true := by decide +kernel
theorem mD_X5_feed_ok : ix_mok mD_X5_feed = true := by decide +kernel
theorem mD_X5_sync_ok : ix_mok mD_X5_sync = true := by decide +kernel
theorem mD_X5_crash_ok : ix_mok mD_X5_crash = true := by decide +kernel
theorem mD_X5_tells_ok : ix_mok mD_X5_tells = true := by decide +kernel
theorem mD_X5_open_ok : ix_mok mD_X5_open = true := by decide +kernel
theorem mD_X5_partition_ok : ix_mok mD_X5_partition = true := by decide +kernel
theorem mD_X5_bytesOf_ok : ix_mok mD_X5_bytesOf = true := by decide +kernel
theorem mD_X5_seenOf_ok : ix_mok mD_X5_seenOf = true := by decide +kernel
theorem mD_X5_entry_ok : ix_mok mD_X5_entry = true := by decide +kernel
theorem mD_X5_producer_ok : ix_mok mD_X5_producer = true := by decide +kernel
theorem mD_X5_next_ok : ix_mok mD_X5_next = true := by decide +kernel
theorem mD_X5_byteIn_ok : ix_mok mD_X5_byteIn = true := by decide +kernel
theorem mD_X5_behind_ok : ix_mok mD_X5_behind = true := by decide +kernel
theorem mD_X5_byteAt_ok : ix_mok mD_X5_byteAt = true := by decide +kernel
theorem mD_X5_byteOf_ok : ix_mok mD_X5_byteOf = true := by decide +kernel
theorem mD_X5_count_ok : ix_mok mD_X5_count = true := by decide +kernel
theorem mD_J7_fill_53178_ok : ix_mok mD_J7_fill_53178 = true := by decide +kernel
theorem ix_mNs_ok : ∀ q ∈ mNs, ix_mok q = true := by
  intro q hq
  simp only [mNs, List.mem_cons, List.not_mem_nil, or_false] at hq
  rcases hq with rfl | rfl | rfl | rfl | rfl | rfl | rfl | rfl | rfl | rfl | rfl | rfl | rfl | rfl | rfl | rfl | rfl | rfl | rfl | rfl | rfl | rfl | rfl | rfl | rfl | rfl | rfl | rfl | rfl | rfl | rfl | rfl | rfl | rfl | rfl | rfl | rfl | rfl | rfl | rfl | rfl | rfl | rfl | rfl | rfl | rfl | rfl | rfl | rfl | rfl | rfl | rfl | rfl | rfl | rfl | rfl | rfl | rfl | rfl | rfl | rfl | rfl | rfl | rfl | rfl | rfl | rfl | rfl | rfl | rfl | rfl | rfl | rfl | rfl | rfl | rfl | rfl | rfl | rfl | rfl | rfl | rfl | rfl | rfl | rfl | rfl | rfl | rfl | rfl | rfl | rfl | rfl | rfl | rfl | rfl | rfl | rfl | rfl | rfl | rfl | rfl | rfl | rfl | rfl | rfl | rfl | rfl | rfl | rfl | rfl | rfl | rfl | rfl | rfl | rfl | rfl | rfl | rfl | rfl | rfl | rfl | rfl | rfl | rfl | rfl | rfl | rfl | rfl | rfl | rfl | rfl | rfl | rfl | rfl | rfl | rfl | rfl | rfl | rfl
  · exact mD_X0_init_ok
  · exact mD_X0_clear_ok
  · exact mD_X0_cutTo_ok
  · exact mD_X0_at_ok
  · exact mD_X0_add_ok
  · exact mD_X0_addNumber_ok
  · exact mD_X0_number_ok
  · exact mD_X0_seal_ok
  · exact mD_X1_init_ok
  · exact mD_X1_clear_ok
  · exact mD_X1_append_ok
  · exact mD_X1_has_ok
  · exact mD_X1_startOf_ok
  · exact mD_X1_field_ok
  · exact mD_X1_kindOf_ok
  · exact mD_X1_isSeen_ok
  · exact mD_X1_dropBroken_ok
  · exact mD_X1_cutBroken_ok
  · exact mD_X1_isSentBy_ok
  · exact mD_X1_nextOf_ok
  · exact mD_X1_offsetOfRecent_ok
  · exact mD_X1_hasEndOf_ok
  · exact mD_X1_stable_ok
  · exact mD_X1_committedEntries_ok
  · exact mD_X1_firstCommitted_ok
  · exact mD_X1_firstSeen_ok
  · exact mD_X1_copyPayload_ok
  · exact mD_X2_init_ok
  · exact mD_X2_forget_ok
  · exact mD_X2_openTransaction_ok
  · exact mD_X2_closeTransaction_ok
  · exact mD_X2_isOpen_ok
  · exact mD_X2_hasAdded_ok
  · exact mD_X3_init_ok
  · exact mD_X3_clear_ok
  · exact mD_X3_note_ok
  · exact mD_X3_bytesOf_ok
  · exact mD_X3_keptOf_ok
  · exact mD_X4_init_ok
  · exact mD_X4_format_ok
  · exact mD_X4_feed_ok
  · exact mD_X4_register_ok
  · exact mD_X4_begin_ok
  · exact mD_X4_send_ok
  · exact mD_X4_later_ok
  · exact mD_X4_end_ok
  · exact mD_X4_mark_ok
  · exact mD_X4_marked_ok
  · exact mD_X4_tick_ok
  · exact mD_X4_fetch_ok
  · exact mD_X4_answer_ok
  · exact mD_X4_sync_ok
  · exact mD_X4_crash_ok
  · exact mD_X4_open_ok
  · exact mD_X4_partition_ok
  · exact mD_X4_entry_ok
  · exact mD_X4_producer_ok
  · exact mD_X4_next_ok
  · exact mD_X4_byteOf_ok
  · exact mD_X4_count_ok
  · exact mD_X4_build_ok
  · exact mD_X4_forget_ok
  · exact mD_X4_isKey_ok
  · exact mD_X4_isRegistered_ok
  · exact mD_X4_isPartition_ok
  · exact mD_X4_isPlace_ok
  · exact mD_X4_placeOf_ok
  · exact mD_X4_rowOf_ok
  · exact mD_X4_refusalOf_ok
  · exact mD_X4_takeSent_ok
  · exact mD_X4_logHasRoom_ok
  · exact mD_X4_bookHasRoom_ok
  · exact mD_X4_registeredProducers_ok
  · exact mD_X4_openTransactions_ok
  · exact mD_X4_openThatAdded_ok
  · exact mD_X4_writeToLog_ok
  · exact mD_X4_writeToBook_ok
  · exact mD_X4_learn_ok
  · exact mD_X4_markLaters_ok
  · exact mD_X4_setMark_ok
  · exact mD_X4_raiseEpoch_ok
  · exact mD_X4_decide_ok
  · exact mD_X4_finish_ok
  · exact mD_X4_endOverdue_ok
  · exact mD_X4_finishDecided_ok
  · exact mD_X4_firstToEnd_ok
  · exact mD_X5_init_ok
  · exact mD_X5_forgets_ok
  · exact mD_X5_format_ok
  · exact mD_X5_sizeOf_ok
  · exact mD_X5_bytesFrom_ok
  · exact mD_X5_unsynced_ok
  · exact mD_X5_add_ok
  · exact mD_X5_opened_ok
  · exact mD_X5_openedAt_ok
  · exact mD_X5_bookHas_ok
  · exact mD_X5_refused_ok
  · exact mD_X5_registers_ok
  · exact mD_X5_marksOf_ok
  · exact mD_X5_finishes_ok
  · exact mD_X5_closes_ok
  · exact mD_X5_ends_ok
  · exact mD_X5_register_ok
  · exact mD_X5_begins_ok
  · exact mD_X5_begin_ok
  · exact mD_X5_offsetOf_ok
  · exact mD_X5_nextOf_ok
  · exact mD_X5_again_ok
  · exact mD_X5_send_ok
  · exact mD_X5_isGroup_ok
  · exact mD_X5_isPartition_ok
  · exact mD_X5_later_ok
  · exact mD_X5_later__ok
  · exact mD_X5_end_ok
  · exact mD_X5_mark_ok
  · exact mD_X5_marked_ok
  · exact mD_X5_tick_ok
  · exact mD_X5_manyOf_ok
  · exact mD_X5_stable_ok
  · exact mD_X5_isSeen_ok
  · exact mD_X5_fetch_ok
  · exact mD_X5_answer_ok
  · exact mD_X5_feed_ok
  · exact mD_X5_sync_ok
  · exact mD_X5_crash_ok
  · exact mD_X5_tells_ok
  · exact mD_X5_open_ok
  · exact mD_X5_partition_ok
  · exact mD_X5_bytesOf_ok
  · exact mD_X5_seenOf_ok
  · exact mD_X5_entry_ok
  · exact mD_X5_producer_ok
  · exact mD_X5_next_ok
  · exact mD_X5_byteIn_ok
  · exact mD_X5_behind_ok
  · exact mD_X5_byteAt_ok
  · exact mD_X5_byteOf_ok
  · exact mD_X5_count_ok
  · exact mD_J7_fill_53178_ok
end
section
/-! EACH INSTRUCTION OF THE INTERPRETER IS A STEP OF THE MACHINE -/
theorem ix_mNs_tok : ∀ q ∈ mNs, ix_tok q.2.2.1 q.2.2.2.2.2.2.2.1 = true := by
  intro q hq
  simp only [mNs, List.mem_cons, List.not_mem_nil, or_false] at hq
  rcases hq with rfl | rfl | rfl | rfl | rfl | rfl | rfl | rfl | rfl | rfl | rfl | rfl | rfl | rfl | rfl | rfl | rfl | rfl | rfl | rfl | rfl | rfl | rfl | rfl | rfl | rfl | rfl | rfl | rfl | rfl | rfl | rfl | rfl | rfl | rfl | rfl | rfl | rfl | rfl | rfl | rfl | rfl | rfl | rfl | rfl | rfl | rfl | rfl | rfl | rfl | rfl | rfl | rfl | rfl | rfl | rfl | rfl | rfl | rfl | rfl | rfl | rfl | rfl | rfl | rfl | rfl | rfl | rfl | rfl | rfl | rfl | rfl | rfl | rfl | rfl | rfl | rfl | rfl | rfl | rfl | rfl | rfl | rfl | rfl | rfl | rfl | rfl | rfl | rfl | rfl | rfl | rfl | rfl | rfl | rfl | rfl | rfl | rfl | rfl | rfl | rfl | rfl | rfl | rfl | rfl | rfl | rfl | rfl | rfl | rfl | rfl | rfl | rfl | rfl | rfl | rfl | rfl | rfl | rfl | rfl | rfl | rfl | rfl | rfl | rfl | rfl | rfl | rfl | rfl | rfl | rfl | rfl | rfl | rfl | rfl | rfl | rfl | rfl | rfl
  · exact mT_X0_init_ok
  · exact mT_X0_clear_ok
  · exact mT_X0_cutTo_ok
  · exact mT_X0_at_ok
  · exact mT_X0_add_ok
  · exact mT_X0_addNumber_ok
  · exact mT_X0_number_ok
  · exact mT_X0_seal_ok
  · exact mT_X1_init_ok
  · exact mT_X1_clear_ok
  · exact mT_X1_append_ok
  · exact mT_X1_has_ok
  · exact mT_X1_startOf_ok
  · exact mT_X1_field_ok
  · exact mT_X1_kindOf_ok
  · exact mT_X1_isSeen_ok
  · exact mT_X1_dropBroken_ok
  · exact mT_X1_cutBroken_ok
  · exact mT_X1_isSentBy_ok
  · exact mT_X1_nextOf_ok
  · exact mT_X1_offsetOfRecent_ok
  · exact mT_X1_hasEndOf_ok
  · exact mT_X1_stable_ok
  · exact mT_X1_committedEntries_ok
  · exact mT_X1_firstCommitted_ok
  · exact mT_X1_firstSeen_ok
  · exact mT_X1_copyPayload_ok
  · exact mT_X2_init_ok
  · exact mT_X2_forget_ok
  · exact mT_X2_openTransaction_ok
  · exact mT_X2_closeTransaction_ok
  · exact mT_X2_isOpen_ok
  · exact mT_X2_hasAdded_ok
  · exact mT_X3_init_ok
  · exact mT_X3_clear_ok
  · exact mT_X3_note_ok
  · exact mT_X3_bytesOf_ok
  · exact mT_X3_keptOf_ok
  · exact mT_X4_init_ok
  · exact mT_X4_format_ok
  · exact mT_X4_feed_ok
  · exact mT_X4_register_ok
  · exact mT_X4_begin_ok
  · exact mT_X4_send_ok
  · exact mT_X4_later_ok
  · exact mT_X4_end_ok
  · exact mT_X4_mark_ok
  · exact mT_X4_marked_ok
  · exact mT_X4_tick_ok
  · exact mT_X4_fetch_ok
  · exact mT_X4_answer_ok
  · exact mT_X4_sync_ok
  · exact mT_X4_crash_ok
  · exact mT_X4_open_ok
  · exact mT_X4_partition_ok
  · exact mT_X4_entry_ok
  · exact mT_X4_producer_ok
  · exact mT_X4_next_ok
  · exact mT_X4_byteOf_ok
  · exact mT_X4_count_ok
  · exact mT_X4_build_ok
  · exact mT_X4_forget_ok
  · exact mT_X4_isKey_ok
  · exact mT_X4_isRegistered_ok
  · exact mT_X4_isPartition_ok
  · exact mT_X4_isPlace_ok
  · exact mT_X4_placeOf_ok
  · exact mT_X4_rowOf_ok
  · exact mT_X4_refusalOf_ok
  · exact mT_X4_takeSent_ok
  · exact mT_X4_logHasRoom_ok
  · exact mT_X4_bookHasRoom_ok
  · exact mT_X4_registeredProducers_ok
  · exact mT_X4_openTransactions_ok
  · exact mT_X4_openThatAdded_ok
  · exact mT_X4_writeToLog_ok
  · exact mT_X4_writeToBook_ok
  · exact mT_X4_learn_ok
  · exact mT_X4_markLaters_ok
  · exact mT_X4_setMark_ok
  · exact mT_X4_raiseEpoch_ok
  · exact mT_X4_decide_ok
  · exact mT_X4_finish_ok
  · exact mT_X4_endOverdue_ok
  · exact mT_X4_finishDecided_ok
  · exact mT_X4_firstToEnd_ok
  · exact mT_X5_init_ok
  · exact mT_X5_forgets_ok
  · exact mT_X5_format_ok
  · exact mT_X5_sizeOf_ok
  · exact mT_X5_bytesFrom_ok
  · exact mT_X5_unsynced_ok
  · exact mT_X5_add_ok
  · exact mT_X5_opened_ok
  · exact mT_X5_openedAt_ok
  · exact mT_X5_bookHas_ok
  · exact mT_X5_refused_ok
  · exact mT_X5_registers_ok
  · exact mT_X5_marksOf_ok
  · exact mT_X5_finishes_ok
  · exact mT_X5_closes_ok
  · exact mT_X5_ends_ok
  · exact mT_X5_register_ok
  · exact mT_X5_begins_ok
  · exact mT_X5_begin_ok
  · exact mT_X5_offsetOf_ok
  · exact mT_X5_nextOf_ok
  · exact mT_X5_again_ok
  · exact mT_X5_send_ok
  · exact mT_X5_isGroup_ok
  · exact mT_X5_isPartition_ok
  · exact mT_X5_later_ok
  · exact mT_X5_later__ok
  · exact mT_X5_end_ok
  · exact mT_X5_mark_ok
  · exact mT_X5_marked_ok
  · exact mT_X5_tick_ok
  · exact mT_X5_manyOf_ok
  · exact mT_X5_stable_ok
  · exact mT_X5_isSeen_ok
  · exact mT_X5_fetch_ok
  · exact mT_X5_answer_ok
  · exact mT_X5_feed_ok
  · exact mT_X5_sync_ok
  · exact mT_X5_crash_ok
  · exact mT_X5_tells_ok
  · exact mT_X5_open_ok
  · exact mT_X5_partition_ok
  · exact mT_X5_bytesOf_ok
  · exact mT_X5_seenOf_ok
  · exact mT_X5_entry_ok
  · exact mT_X5_producer_ok
  · exact mT_X5_next_ok
  · exact mT_X5_byteIn_ok
  · exact mT_X5_behind_ok
  · exact mT_X5_byteAt_ok
  · exact mT_X5_byteOf_ok
  · exact mT_X5_count_ok
  · exact mT_J7_fill_53178_ok
theorem ix_dec {T : ix_T} {cc : ByteArray} {pc n : Nat} {i : Instr} (hT : ix_tok cc T = true) (h : ix_at T pc = some (i, n)) : decode cc pc = .ok (i, n) ∧ (pc, i, n) ∈ T := by
  unfold ix_at at h
  cases hf : T.find? (fun x => x.1 == pc) with
  | none => rw [hf] at h; cases h
  | some x =>
    rw [hf] at h
    have h1 := List.find?_some hf
    have h2 := List.mem_of_find?_eq_some hf
    obtain ⟨j, w⟩ := x
    simp at h1 h
    subst h1; subst h
    have h3 := List.all_eq_true.mp hT _ h2
    exact ⟨of_decide_eq_true h3, h2⟩
theorem ix_cls_facts : ∀ ci, ci ≤ 5 → vwCl[ci]? = some (ix_RC ci, ix_TT ci, ix_NN ci) ∧ (∀ w ∈ u_ws (ix_RC ci) (ix_TT ci) (ix_NN ci), w ∈ ix_tb) ∧ (∀ a, a < ix_NN ci → ∀ b, b < ix_NN ci → a ≠ b → (ix_TT ci a).2.1 ≠ (ix_TT ci b).2.1) ∧ ∀ k, k < ix_NN ci → parseFieldDescriptor (ix_TT ci k).2.2.1 = some (ix_ty ci k) := by
  intro ci h
  rcases (by omega : ci = 0 ∨ ci = 1 ∨ ci = 2 ∨ ci = 3 ∨ ci = 4 ∨ ci = 5) with rfl | rfl | rfl | rfl | rfl | rfl
  · exact ⟨rfl, fun w hw => List.mem_filter.mpr ⟨iX0 w hw, (by decide +kernel : ∀ w ∈ wsX00, goodWord w = true) w hw⟩, nmX0, tyX0_ok⟩
  · exact ⟨rfl, fun w hw => List.mem_filter.mpr ⟨iX1 w hw, (by decide +kernel : ∀ w ∈ wsX10, goodWord w = true) w hw⟩, nmX1, tyX1_ok⟩
  · exact ⟨rfl, fun w hw => List.mem_filter.mpr ⟨iX2 w hw, (by decide +kernel : ∀ w ∈ wsX20, goodWord w = true) w hw⟩, nmX2, tyX2_ok⟩
  · exact ⟨rfl, fun w hw => List.mem_filter.mpr ⟨iX3 w hw, (by decide +kernel : ∀ w ∈ wsX30, goodWord w = true) w hw⟩, nmX3, tyX3_ok⟩
  · exact ⟨rfl, fun w hw => List.mem_filter.mpr ⟨iX4 w hw, (by decide +kernel : ∀ w ∈ wsX40, goodWord w = true) w hw⟩, nmX4, tyX4_ok⟩
  · exact ⟨rfl, fun w hw => List.mem_filter.mpr ⟨iX5 w hw, (by decide +kernel : ∀ w ∈ wsX50, goodWord w = true) w hw⟩, nmX5, tyX5_ok⟩
theorem ix_fld_ok {cn idx nest ci k i : Nat} (h : ix_fld cn idx = some (nest, ci, k, i)) : ci ≤ 5 ∧ k < ix_NN ci ∧ lw_tbl[i]? = some (if nest = 0 then .fieldLink (ix_RC cn) idx (ix_TT ci k).1 (ix_TT ci k).2.1 (ix_TT ci k).2.2.1 else .fieldLinkNest (ix_RC cn) idx (ix_TT ci k).1 (ix_TT ci k).2.1 (ix_TT ci k).2.2.1 "OnceLedger") := by
  unfold ix_fld at h
  cases hf : ix_FT.find? (fun x => x.1 == cn && x.2.1 == idx) with
  | none => rw [hf] at h; cases h
  | some x =>
    rw [hf] at h
    have h1 := List.find?_some hf
    have h2 := List.all_eq_true.mp ix_FT_ok _ (List.mem_of_find?_eq_some hf)
    obtain ⟨a1, a2, a3, a4, a5, a6⟩ := x
    simp only [Option.map_some, Option.some.injEq, Prod.mk.injEq] at h
    obtain ⟨rfl, rfl, rfl, rfl⟩ := h
    simp only [Bool.and_eq_true, beq_iff_eq] at h1
    obtain ⟨rfl, rfl⟩ := h1
    simp only [ix_fok, Bool.and_eq_true, decide_eq_true_eq] at h2
    exact ⟨h2.1.1, h2.1.2, h2.2⟩
theorem ix_con_ok {cn idx i : Nat} {v : Int32} (h : ix_con cn idx = some (v, i)) : lw_tbl[i]? = some (.constant (ix_RC cn) idx v) := by
  unfold ix_con at h
  cases hf : ix_KT.find? (fun x => x.1 == cn && x.2.1 == idx) with
  | none => rw [hf] at h; cases h
  | some x =>
    rw [hf] at h
    have h1 := List.find?_some hf
    have h2 := List.all_eq_true.mp ix_KT_ok _ (List.mem_of_find?_eq_some hf)
    obtain ⟨a1, a2, a3, a4⟩ := x
    simp only [Option.map_some, Option.some.injEq, Prod.mk.injEq] at h
    obtain ⟨rfl, rfl⟩ := h
    simp only [Bool.and_eq_true, beq_iff_eq] at h1
    obtain ⟨rfl, rfl⟩ := h1
    simpa only [ix_kok, decide_eq_true_eq] using h2
theorem ix_cnl_ok {cn idx i : Nat} {v : Int64} (h : ix_cnl cn idx = some (v, i)) : lw_tbl[i]? = some (.constantLong (ix_RC cn) idx v) := by
  unfold ix_cnl at h
  cases hf : ix_KL.find? (fun x => x.1 == cn && x.2.1 == idx) with
  | none => rw [hf] at h; cases h
  | some x =>
    rw [hf] at h
    have h1 := List.find?_some hf
    have h2 := List.all_eq_true.mp ix_KL_ok _ (List.mem_of_find?_eq_some hf)
    obtain ⟨a1, a2, a3, a4⟩ := x
    simp only [Option.map_some, Option.some.injEq, Prod.mk.injEq] at h
    obtain ⟨rfl, rfl⟩ := h
    simp only [Bool.and_eq_true, beq_iff_eq] at h1
    obtain ⟨rfl, rfl⟩ := h1
    simpa only [ix_lok, decide_eq_true_eq] using h2
theorem ix_cls_ok {cn idx ci i : Nat} (h : ix_cls cn idx = some (ci, i)) : ci ≤ 5 ∧ lw_tbl[i]? = some (.classLink (ix_RC cn) idx (ix_RC ci)) := by
  unfold ix_cls at h
  cases hf : ix_CT.find? (fun x => x.1 == cn && x.2.1 == idx) with
  | none => rw [hf] at h; cases h
  | some x =>
    rw [hf] at h
    have h1 := List.find?_some hf
    have h2 := List.all_eq_true.mp ix_CT_ok _ (List.mem_of_find?_eq_some hf)
    obtain ⟨a1, a2, a3, a4⟩ := x
    simp only [Option.map_some, Option.some.injEq, Prod.mk.injEq] at h
    obtain ⟨rfl, rfl⟩ := h
    simp only [Bool.and_eq_true, beq_iff_eq] at h1
    obtain ⟨rfl, rfl⟩ := h1
    simpa only [ix_cok, Bool.and_eq_true, decide_eq_true_eq] using h2
theorem ix_mth_ok {cn idx nest y i : Nat} (h : ix_mth cn idx = some (nest, y, i)) : (nest = 2 → lw_tbl[i]? = some (.methodLink (ix_RC cn) idx objectInit)) ∧ (nest = 3 → lw_tbl[i]? = some (.methodLink (ix_RC cn) idx Lib.Math.max.name)) ∧ (nest = 4 → lw_tbl[i]? = some (.methodLink (ix_RC cn) idx Lib.Math.min.name)) ∧ (¬ nest = 2 → ¬ nest = 3 → ¬ nest = 4 → ∃ q, mNs[y]? = some q ∧ lw_tbl[i]? = some (if nest = 0 then .methodLink (ix_RC cn) idx q.2.1 else .methodLinkNest (ix_RC cn) idx q.2.1 "OnceLedger")) := by
  unfold ix_mth at h
  cases hf : ix_MT.find? (fun x => x.1 == cn && x.2.1 == idx) with
  | none => rw [hf] at h; cases h
  | some x =>
    rw [hf] at h
    have h1 := List.find?_some hf
    have h2 := List.all_eq_true.mp ix_MT_ok _ (List.mem_of_find?_eq_some hf)
    obtain ⟨a1, a2, a3, a4, a5⟩ := x
    simp only [Option.map_some, Option.some.injEq, Prod.mk.injEq] at h
    obtain ⟨rfl, rfl, rfl⟩ := h
    simp only [Bool.and_eq_true, beq_iff_eq] at h1
    obtain ⟨rfl, rfl⟩ := h1
    unfold ix_hok at h2
    refine ⟨fun z => ?_, fun z => ?_, fun z => ?_, fun z z3 z4 => ?_⟩
    · simp only [z, if_true, decide_eq_true_eq] at h2
      exact h2
    · subst z
      simpa using h2
    · subst z
      simpa using h2
    · simp only [z, z3, z4, if_false] at h2
      cases hq : mNs[a4]? with
      | none => simp [hq] at h2
      | some q =>
        simp only [hq, decide_eq_true_eq] at h2
        exact ⟨q, rfl, h2⟩
theorem ix_ok_fit {b base : Nat} {ty : FieldType} {v : Value} (h : ix_ok ty v = true) : narrow ty (ix_cv b base v) = ix_cv b base v ∧ fits ty (ix_cv b base v) = true := by
  unfold ix_ok at h
  split at h
  · exact ⟨rfl, rfl⟩
  · have h := of_decide_eq_true h
    rcases h with rfl | rfl
    · exact (by decide +kernel : narrow .boolean (.int 0) = .int 0 ∧ fits .boolean (.int 0) = true)
    · exact (by decide +kernel : narrow .boolean (.int 1) = .int 1 ∧ fits .boolean (.int 1) = true)
  · exact ⟨rfl, rfl⟩
  · exact ⟨rfl, rfl⟩
  · cases h
/-- the machine at every state that an abstract frame pictures -/
def ix_W (p : Program) (l : Launch) (e : Env) (R : Room) (s : State) (m : MethodId) (args : Array Value) (below : List Frame) (meth : Method) (c : Code) (Q : State → Prop) (D : va_G) (b base : Nat) (aC : FieldType → ClassId) (q : ix_M) (h0 : ix_H) (f : ix_F) : Prop :=
  ∀ (H : Heap) (locs : List Loc) (la : Array Slot), ix_I D b base aC s.heap f.2.2.2 H locs → lv_has la q.2.2.2.1 (f.2.1.map (ix_cp b base)) → W p l e R s m args below meth c H locs (f.2.2.2.1 - h0.1) (f.2.2.2.2.1 - h0.2.1) Q (F0 m f.1 la (f.2.2.1.map (ix_cv b base)))
/-- what holds of the method that runs -/
def ix_X (p : Program) (R : Room) (s : State) (m : MethodId) (args : Array Value) (meth : Method) (c : Code) (D : va_G) (b base : Nat) (aC : FieldType → ClassId) (q : ix_M) (S : ix_S) : Prop :=
  p.tables.exec = Jvm.exec ∧ c.code = q.2.2.1 ∧ meth.sig.returnType = q.2.2.2.2.1 ∧ c.maxLocals = q.2.2.2.1 ∧ s.vm.findClass (ix_RC q.1) = some m.cls ∧ (∀ w ∈ ix_tb, w.before args s = true) ∧ ix_K D aC s ∧
  (∀ (L : Nat) (xs : Nat → Int32), S = some (L, xs) → va_X b L xs s s.heap ∧ b < s.heap.size ∧ b < base) ∧ (q.2.2.2.2.2.2.1 = 2 → meth.name = "<init>") ∧ meth.locks = false ∧ ix_tok q.2.2.1 q.2.2.2.2.2.2.2.1 = true ∧ ix_tln q.2.2.2.2.2.2.2.1 = true ∧ 1 ≤ R.frames ∧ 38 ≤ R.locals
section IXW
variable {p : Program} {l : Launch} {e : Env} {R : Room} {s : State} {m : MethodId} {args : Array Value} {below : List Frame} {meth : Method} {c : Code} {Q : State → Prop}
variable {D : va_G} {b base : Nat} {aC : FieldType → ClassId} {q : ix_M} {h0 : ix_H} {S : ix_S} {pc : Nat} {ls : ix_L} {st : List Value} {h : ix_H} {f : ix_F}
theorem ix_word {w : Jvm.Cond} {i : Nat} (hts : ∀ w ∈ ix_tb, w.before args s = true) (h : lw_tbl[i]? = some w) (hg : goodWord w = true) : w.before args s = true := hts _ (List.mem_filter.mpr ⟨List.mem_of_getElem? h, hg⟩)
theorem ix_w_pure {H : Heap} {locs : List Loc} {cells slots : Nat} {la : Array Slot} {cc : ByteArray} (hx : p.tables.exec = Jvm.exec) (hb : c.code = cc) {i : Instr} {st' : List Value} (hp : ix_pure i st = some st') (hd : decode cc pc = .ok (i, ix_len i))
    (k : W p l e R s m args below meth c H locs cells slots Q (F0 m (pc + ix_len i) la (st'.map (ix_cv b base)))) : W p l e R s m args below meth c H locs cells slots Q (F0 m pc la (st.map (ix_cv b base))) := by
  unfold ix_pure at hp
  split at hp
  · cases hp; exact lv_iconst hx hb hd rfl k
  · cases hp; exact lv_bipush hx hb hd rfl k
  · cases hp; exact lv_sipush hx hb hd rfl k
  · split at hp
    · cases hp; exact lv_iadd hx hb hd k
    · cases hp
  · split at hp
    · cases hp; exact lv_isub hx hb hd k
    · cases hp
  · split at hp
    · cases hp; exact lv_imul hx hb hd k
    · cases hp
  · split at hp
    · cases hp; exact lv_iand hx hb hd k
    · cases hp
  · split at hp
    · cases hp; exact lv_ior hx hb hd k
    · cases hp
  · split at hp
    · cases hp; exact lv_ixor hx hb hd k
    · cases hp
  · split at hp
    · cases hp; exact lv_ishl hx hb hd k
    · cases hp
  · split at hp
    · cases hp; exact lv_ishr hx hb hd k
    · cases hp
  · split at hp
    · cases hp; exact lv_iushr hx hb hd rfl k
    · cases hp
  · split at hp
    · split at hp
      · cases hp
      · rename_i hz; cases hp; exact lv_irem hx hb hd hz k
    · cases hp
  · split at hp
    · split at hp
      · cases hp
      · rename_i hz; cases hp; exact lv_idiv hx hb hd hz k
    · cases hp
  · split at hp
    · cases hp; exact lv_ineg hx hb hd k
    · cases hp
  · split at hp
    · cases hp; exact lv_i2l hx hb hd rfl k
    · cases hp
  · split at hp
    · cases hp; exact lv_l2i hx hb hd rfl k
    · cases hp
  · split at hp
    · cases hp; exact lv_i2b hx hb hd rfl k
    · cases hp
  · split at hp
    · cases hp; exact lv_land hx hb hd k
    · cases hp
  · split at hp
    · cases hp; exact lv_lor hx hb hd k
    · cases hp
  · split at hp
    · cases hp; exact lv_lshl hx hb hd rfl k
    · cases hp
  · split at hp
    · cases hp; exact lv_lshr hx hb hd rfl k
    · cases hp
  · split at hp
    · cases hp; exact lv_lushr hx hb hd rfl k
    · cases hp
  · split at hp
    · split at hp
      · rename_i hz; cases hp; exact lv_dup hx hb hd (by rw [ix_cv_cat]; exact hz) k
      · cases hp
    · cases hp
  · split at hp
    · split at hp
      · rename_i hz; cases hp; exact lv_pop hx hb hd (by rw [ix_cv_cat]; exact hz) k
      · cases hp
    · cases hp
  · split at hp
    · split at hp
      · rename_i hz; cases hp; exact lv_dup2_11 hx hb hd (by rw [ix_cv_cat]; exact hz.1) (by rw [ix_cv_cat]; exact hz.2) k
      · cases hp
    · cases hp
  · cases hp
end IXW
end
section
/-! THE HEAP'S INSTRUCTIONS -/
section IXH
variable {p : Program} {l : Launch} {e : Env} {R : Room} {s : State} {m : MethodId} {args : Array Value} {below : List Frame} {meth : Method} {c : Code} {Q : State → Prop}
variable {D : va_G} {b base : Nat} {aC : FieldType → ClassId} {q : ix_M} {h0 : ix_H} {S : ix_S} {pc : Nat} {ls : ix_L} {st : List Value} {h : ix_H} {f : ix_F} {idx : Nat}
theorem ix_no_obj {ci : Nat} {fs : List Value} (h5 : ci ≤ 5) : (Sum.inr (ci, fs) : ix_E) ≠ ix_no_ := by
  intro z
  simp only [ix_no_, Sum.inr.injEq, Prod.mk.injEq] at z
  omega
theorem ix_no_arr {t : FieldType × vp_A} : (Sum.inl t : ix_E) ≠ ix_no_ := by
  intro z
  simp [ix_no_] at z
set_option maxHeartbeats 4000000 in
theorem ix_w_gf (X : ix_X p R s m args meth c D b base aC q S) (hr : ix_gf q.1 idx pc ls st h = some (.inl f)) (hd : decode q.2.2.1 pc = .ok (.getfield idx, 3)) (kk : ix_W p l e R s m args below meth c Q D b base aC q h0 f) : ix_W p l e R s m args below meth c Q D b base aC q h0 (pc, ls, st, h) := by
  obtain ⟨hx, hb, -, -, hown, hts, hK, -⟩ := X
  intro H locs la hI hl
  unfold ix_gf at hr
  split at hr
  · rename_i a r
    split at hr
    · rename_i ci fs nest cj k i hcell hfld
      split at hr
      · rename_i hci
        subst hci
        split at hr
        · rename_i v hv
          cases hr
          obtain ⟨c5, hk, hw⟩ := ix_fld_ok hfld
          obtain ⟨hc, hin, -, -⟩ := ix_cls_facts ci c5
          have ha : a < h.1 := hI.lt (by show h.2.2 a ≠ ix_no_; rw [hcell]; exact ix_no_obj c5)
          have he : (ix_ws b base aC h)[a]? = some (base + a, .inr (ci, fs.map (ix_cv b base))) := by rw [ix_ws_get ha, hcell]; rfl
          have hv' : (fs.map (ix_cv b base))[k]? = some (ix_cv b base v) := by rw [List.getElem?_map, hv]; rfl
          by_cases hn : nest = 0
          · rw [if_pos hn] at hw
            exact va_get (D := D) hx hb hts hin hown hK.1 hI.2.2.1 a he hc k hk (ix_word hts hw rfl) (fun _ z => z) hv' hd (kk H locs la hI hl)
          · rw [if_neg hn] at hw
            exact va_getN (D := D) hx hb hts hin hown hK.1 hI.2.2.1 a he hc k hk (va_Nw.use rfl (hK.2.1 _ (List.mem_filter.mpr ⟨List.mem_of_getElem? hw, rfl⟩))) (fun _ z => z) hv' hd (kk H locs la hI hl)
        · cases hr
      · cases hr
    · cases hr
  · cases hr
theorem ix_I_fset {H0 H H1 : Heap} {locs : List Loc} (hI : ix_I D b base aC H0 h H locs) {a ci k : Nat} {fs : List Value} {v : Value} {C : String} {T : u_T} {N : Nat} (ha : a < h.1) (hc : vwCl[ci]? = some (C, T, N)) (hap : ∀ x y, x < N → y < N → x ≠ y → D.2 ci x ≠ D.2 ci y) (hk : k < N) (hl : k < fs.length) {cell : Cell} (q2 : cell.cls = D.1 ci) (q3 : cell.vm = .none) (q4 : ∀ k, k < N → cell.slots[D.2 ci k]? = some (vp_V (fs.map (ix_cv b base)) k))
    (e1 : H1[base + a]? = some (cell.setSlot (D.2 ci k) (ix_cv b base v))) (e2 : H1.size = H.size) (e3 : ∀ y : Nat, y ≠ base + a → H1[y]? = H[y]?) : ix_I D b base aC H0 (ix_set h a (.inr (ci, fs.set k v))) H1 (locs ++ [⟨base + a, D.2 ci k⟩]) := by
  refine hI.set ha (x := .inr (ci, fs.set k v)) ?_ e2 e3
  refine ⟨_, hc, t_OB.to (V := updV (vp_V (fs.map (ix_cv b base))) k (ix_cv b base v)) ⟨_, e1, q2, q3, t_set q4 hap hk (ix_cv b base v)⟩ (fun j _ => ?_)⟩
  rw [vp_updV_set (by rw [List.length_map]; exact hl)]
  rw [List.map_set]
set_option maxHeartbeats 4000000 in
theorem ix_w_pf (X : ix_X p R s m args meth c D b base aC q S) (hr : ix_pf q.1 q.2.2.2.2.2.2.1 idx pc ls st h = some (.inl f)) (hd : decode q.2.2.1 pc = .ok (.putfield idx, 3)) (kk : ix_W p l e R s m args below meth c Q D b base aC q h0 f) : ix_W p l e R s m args below meth c Q D b base aC q h0 (pc, ls, st, h) := by
  obtain ⟨hx, hb, -, -, hown, hts, hK, -, hini, -⟩ := X
  intro H locs la hI hl
  unfold ix_pf at hr
  split at hr
  · rename_i v a r
    split at hr
    · rename_i ci fs nest cj k i hcell hfld
      split at hr
      · rename_i hcond
        obtain ⟨rfl, hkl, hok, hfin⟩ := hcond
        cases hr
        obtain ⟨c5, hk, hw⟩ := ix_fld_ok hfld
        obtain ⟨hc, hin, hnm, hty⟩ := ix_cls_facts ci c5
        have ha : a < h.1 := hI.lt (by show h.2.2 a ≠ ix_no_; rw [hcell]; exact ix_no_obj c5)
        have he : (ix_ws b base aC h)[a]? = some (base + a, .inr (ci, fs.map (ix_cv b base))) := by rw [ix_ws_get ha, hcell]; rfl
        obtain ⟨hn, hfit⟩ := ix_ok_fit (b := b) (base := base) hok
        have hap := va_apart (own := ix_RC q.1) hts hin (ix_ty ci) hty hnm hK.1 hc
        obtain ⟨r', g1, cell, q1, q2, q3, q4⟩ := hI.2.2.1 a _ he
        have hr' : r' = (ix_RC ci, ix_TT ci, ix_NN ci) := Option.some.inj (g1.symm.trans hc)
        subst hr'
        obtain ⟨hS, hfc, kC, hkC, hkind⟩ := hK.1.1 ci _ hc
        obtain ⟨cf, kf, fi, fl, hi, hsl⟩ := hS k hk
        have hlay := hts _ (hin _ (u_in_lay hk))
        unfold u_lay at hlay
        have hst := (u_facts hfc hkC (u_lays hts hin hk) hi).1
        have hd' := hty k hk
        have fin : ∀ H1 : Heap, H1[base + a]? = some (cell.setSlot fl.slot (ix_cv b base v)) → H1.size = H.size → (∀ y : Nat, y ≠ base + a → H1[y]? = H[y]?) → W p l e R s m args below meth c H1 (locs ++ [⟨base + a, fl.slot⟩]) (h.1 - h0.1) (h.2.1 - h0.2.1) Q (F0 m (pc + 3) la (r.map (ix_cv b base))) := by
          intro H1 e1 e2 e3
          rw [hsl] at e1 ⊢
          exact kk H1 _ la (ix_I_fset hI ha hc hap hk hkl q2 q3 q4 e1 e2 e3) hl
        by_cases hF : (ix_TT ci k).2.2.2 = true
        · obtain ⟨hkd, hcn, hnest⟩ := hfin hF
          rw [if_pos hnest] at hw
          rw [if_pos hF] at hlay
          have hcf : m.cls = cf := by
            obtain ⟨_, _, c', _, _, _, -, -, hf', -, -, -, hown2, -⟩ := Cond.laysFinal_spec hlay
            have z1 : c' = cf := by have := hi.symm.trans hf'; simp at this; exact this.1.symm
            have hdecl : (ix_TT ci k).1 = ix_RC q.1 := by
              rw [hcn]
              have : ∀ ci, ci ≤ 5 → ∀ k, k < ix_NN ci → (ix_TT ci k).1 = ix_RC ci := by decide +kernel
              exact this ci c5 k hk
            rw [hdecl] at hown2
            rw [← z1]; exact Option.some.inj (hown.symm.trans hown2)
          have h6 := u_fits hfc hkC hkind (Or.inr hlay) hi hd' hn hfit
          exact W.putFinK hx hb hown (ix_word hts hw rfl) hi hst hcf (hini hkd) (by rw [q2]; exact h6) q1 q3 (by rw [hsl]; exact k2_hasslot (q4 k hk)) rfl rfl hd fin
        · rw [if_neg hF] at hlay
          have h6 := u_store hfc hkC hkind hlay hi hd' hn hfit
          by_cases hnest : nest = 0
          · rw [if_pos hnest] at hw
            exact W.putK hx hb (f := fl) ⟨hown, ix_word hts hw rfl, ⟨_, _, _, hi⟩, hst⟩ (by rw [q2]; exact h6) q1 q3 (by rw [hsl]; exact k2_hasslot (q4 k hk)) rfl rfl hd fin
          · rw [if_neg hnest] at hw
            exact va_WputK hx hb (f := fl) hown (va_Nw.use rfl (hK.2.1 _ (List.mem_filter.mpr ⟨List.mem_of_getElem? hw, rfl⟩))) hi hst (by rw [q2]; exact h6) q1 q3 (by rw [hsl]; exact k2_hasslot (q4 k hk)) rfl rfl hd fin
      · cases hr
    · cases hr
  · cases hr
end IXH
end
section
/-! ARRAYS AND NEW CELLS -/
theorem ix_blank_cv (b base ci : Nat) : (ix_blank ci).map (ix_cv b base) = ix_blank ci := by
  unfold ix_blank
  rw [List.map_map]
  apply List.map_congr_left
  intro k _
  show ix_cv b base (ix_def (ix_ty ci k)) = ix_def (ix_ty ci k)
  unfold ix_def
  split <;> rfl
theorem ix_blank_ok : ∀ ci, ci ≤ 5 → ∀ j, j < ix_NN ci → defaultValue (ix_ty ci j) = vp_V (ix_blank ci) j := by decide +kernel
section IXR
variable {p : Program} {l : Launch} {e : Env} {R : Room} {s : State} {m : MethodId} {args : Array Value} {below : List Frame} {meth : Method} {c : Code} {Q : State → Prop}
variable {D : va_G} {b base : Nat} {aC : FieldType → ClassId} {q : ix_M} {h0 : ix_H} {S : ix_S} {pc : Nat} {ls : ix_L} {st : List Value} {h : ix_H} {f : ix_F} {idx : Nat}
set_option maxHeartbeats 4000000 in
theorem ix_w_al (X : ix_X p R s m args meth c D b base aC q S) (hr : ix_al S pc ls st h = some (.inl f)) (hd : decode q.2.2.1 pc = .ok (.arraylength, 1)) (kk : ix_W p l e R s m args below meth c Q D b base aC q h0 f) : ix_W p l e R s m args below meth c Q D b base aC q h0 (pc, ls, st, h) := by
  obtain ⟨hx, hb, -, -, hown, hts, hK, hX, -⟩ := X
  intro H locs la hI hl
  unfold ix_al at hr
  split at hr
  · rename_i a r
    split at hr
    · rename_i n g hcell
      cases hr
      have ha : a < h.1 := hI.lt (by show h.2.2 a ≠ ix_no_; rw [hcell]; exact ix_no_arr)
      have he : (ix_ws b base aC h)[a]? = some (base + a, .inl (aC .int, n, .inl g)) := by rw [ix_ws_get ha, hcell]; rfl
      exact va_alen hx hb hK.1 hI.2.2.1 a 0 he rfl rfl hd (kk H locs la hI hl)
    · rename_i n g hcell
      cases hr
      have ha : a < h.1 := hI.lt (by show h.2.2 a ≠ ix_no_; rw [hcell]; exact ix_no_arr)
      have he : (ix_ws b base aC h)[a]? = some (base + a, .inl (aC .byte, n, .inl g)) := by rw [ix_ws_get ha, hcell]; rfl
      exact va_alen hx hb hK.1 hI.2.2.1 a 1 he rfl rfl hd (kk H locs la hI hl)
    · rename_i n g hcell
      cases hr
      have ha : a < h.1 := hI.lt (by show h.2.2 a ≠ ix_no_; rw [hcell]; exact ix_no_arr)
      have he : (ix_ws b base aC h)[a]? = some (base + a, .inl (aC .boolean, n, .inl g)) := by rw [ix_ws_get ha, hcell]; rfl
      exact va_alen hx hb hK.1 hI.2.2.1 a 2 he rfl rfl hd (kk H locs la hI hl)
    · cases hr
  · split at hr
    · rename_i L xs
      cases hr
      obtain ⟨x1, x2, x3⟩ := hX L xs rfl
      exact va_slen hx hb x1 x2 (fun z => by unfold ix_A at z; omega) hI.2.2.2 hd (kk H locs la hI hl)
    · cases hr
  · cases hr
set_option maxHeartbeats 4000000 in
theorem ix_w_ia (X : ix_X p R s m args meth c D b base aC q S) (hr : ix_ia S pc ls st h = some (.inl f)) (hd : decode q.2.2.1 pc = .ok (.iaload, 1)) (kk : ix_W p l e R s m args below meth c Q D b base aC q h0 f) : ix_W p l e R s m args below meth c Q D b base aC q h0 (pc, ls, st, h) := by
  obtain ⟨hx, hb, -, -, hown, hts, hK, hX, -⟩ := X
  intro H locs la hI hl
  unfold ix_ia at hr
  split at hr
  · rename_i i a r
    split at hr
    · rename_i n g hcell
      split at hr
      · cases hr
      · rename_i hin
        cases hr
        have ha : a < h.1 := hI.lt (by show h.2.2 a ≠ ix_no_; rw [hcell]; exact ix_no_arr)
        have he : (ix_ws b base aC h)[a]? = some (base + a, .inl (aC .int, n, .inl g)) := by rw [ix_ws_get ha, hcell]; rfl
        exact va_iald hx hb hK.1 hI.2.2.1 a 0 he rfl hin hd (kk H locs la hI hl)
    · cases hr
  · split at hr
    · rename_i L xs
      split at hr
      · cases hr
      · rename_i hin
        cases hr
        obtain ⟨x1, x2, x3⟩ := hX L xs rfl
        exact va_sld hx hb x1 x2 (fun z => by unfold ix_A at z; omega) hI.2.2.2 hin hd (kk H locs la hI hl)
    · cases hr
  · cases hr
set_option maxHeartbeats 4000000 in
theorem ix_w_ba (X : ix_X p R s m args meth c D b base aC q S) (hr : ix_ba pc ls st h = some (.inl f)) (hd : decode q.2.2.1 pc = .ok (.baload, 1)) (kk : ix_W p l e R s m args below meth c Q D b base aC q h0 f) : ix_W p l e R s m args below meth c Q D b base aC q h0 (pc, ls, st, h) := by
  obtain ⟨hx, hb, -, -, hown, hts, hK, hX, -⟩ := X
  intro H locs la hI hl
  unfold ix_ba at hr
  split at hr
  · rename_i i a r
    split at hr
    · rename_i n g hcell
      split at hr
      · cases hr
      · rename_i hin
        cases hr
        have ha : a < h.1 := hI.lt (by show h.2.2 a ≠ ix_no_; rw [hcell]; exact ix_no_arr)
        have he : (ix_ws b base aC h)[a]? = some (base + a, .inl (aC .byte, n, .inl g)) := by rw [ix_ws_get ha, hcell]; rfl
        exact va_bald hx hb hK.1 hI.2.2.1 a 1 he rfl hin hd (kk H locs la hI hl)
    · rename_i n g hcell
      split at hr
      · cases hr
      · rename_i hin
        cases hr
        have ha : a < h.1 := hI.lt (by show h.2.2 a ≠ ix_no_; rw [hcell]; exact ix_no_arr)
        have he : (ix_ws b base aC h)[a]? = some (base + a, .inl (aC .boolean, n, .inl g)) := by rw [ix_ws_get ha, hcell]; rfl
        exact va_zald hx hb hK.1 hI.2.2.1 a 2 he rfl hin hd (kk H locs la hI hl)
    · cases hr
  · cases hr
set_option maxHeartbeats 4000000 in
theorem ix_w_aa (X : ix_X p R s m args meth c D b base aC q S) (hr : ix_aa pc ls st h = some (.inl f)) (hd : decode q.2.2.1 pc = .ok (.aaload, 1)) (kk : ix_W p l e R s m args below meth c Q D b base aC q h0 f) : ix_W p l e R s m args below meth c Q D b base aC q h0 (pc, ls, st, h) := by
  obtain ⟨hx, hb, -, -, hown, hts, hK, hX, -⟩ := X
  intro H locs la hI hl
  unfold ix_aa at hr
  split at hr
  · rename_i i a r
    split at hr
    · rename_i C n g hcell
      split at hr
      · cases hr
      · rename_i hin
        split at hr
        · rename_i y hy
          cases hr
          have ha : a < h.1 := hI.lt (by show h.2.2 a ≠ ix_no_; rw [hcell]; exact ix_no_arr)
          have he : (ix_ws b base aC h)[a]? = some (base + a, .inl (aC (.object C), n, .inr (.inr (.inr (.inr (fun i => (g i).map (fun k => base + k))))))) := by rw [ix_ws_get ha, hcell]; rfl
          have hC : C = RX1 ∨ C = RX2 := Classical.byContradiction fun z => hin (Or.inr (Or.inr z))
          have hin' : vp_in i n := fun z => hin (z.elim Or.inl (fun z => Or.inr (Or.inl z)))
          have k1 := kk H locs la hI hl
          have k2 : W p l e R s m args below meth c H locs (h.1 - h0.1) (h.2.1 - h0.2.1) Q (F0 m (pc + 1) la (va_rf ((g i.toNatClampNeg).map (fun k => base + k)) :: r.map (ix_cv b base))) := by rw [hy]; exact k1
          rcases hC with rfl | rfl
          · exact va_aldq hx hb hK.1 hI.2.2.1 a 3 he rfl hin' hd k2
          · exact va_aldq hx hb hK.1 hI.2.2.1 a 4 he rfl hin' hd k2
        · cases hr
    · cases hr
  · cases hr
theorem ix_at_i {H1 : Heap} {a n i : Nat} {g g' : Nat → Int32} {v : Int32} {ty : FieldType} {cell : Cell} (hc : cell = vp_cell (aC ty) (n, .inl g)) (e : H1[base + a]? = some (cell.setSlot i (.int v))) (hg : g' = upd g i v) : va_at D vwCl (base + a, ix_ce b base aC (.inl (ty, n, .inl g'))) H1 := by
  show H1[base + a]? = some (vp_cell (aC ty) (n, .inl g'))
  rw [e, hc, vp_cell_i, vp_cell_i, arrV_store, hg]
  congr 2
  funext x
  by_cases hq : x = i
  · subst hq; simp [updV, upd]
  · simp [updV, upd, hq]
set_option maxHeartbeats 4000000 in
theorem ix_w_is (X : ix_X p R s m args meth c D b base aC q S) (hr : ix_is pc ls st h = some (.inl f)) (hd : decode q.2.2.1 pc = .ok (.iastore, 1)) (kk : ix_W p l e R s m args below meth c Q D b base aC q h0 f) : ix_W p l e R s m args below meth c Q D b base aC q h0 (pc, ls, st, h) := by
  obtain ⟨hx, hb, -, -, hown, hts, hK, hX, -⟩ := X
  intro H locs la hI hl
  unfold ix_is at hr
  split at hr
  · rename_i x i a r
    split at hr
    · rename_i n g hcell
      split at hr
      · cases hr
      · rename_i hin
        cases hr
        have ha : a < h.1 := hI.lt (by show h.2.2 a ≠ ix_no_; rw [hcell]; exact ix_no_arr)
        have he : (ix_ws b base aC h)[a]? = some (base + a, .inl (aC .int, n, .inl g)) := by rw [ix_ws_get ha, hcell]; rfl
        exact W.iast hx hb (hI.2.2.1 a _ he) ((hK.1.2 0 _ rfl).1 n (fun j => .int (g j))) (fun z => by cases z) (by show ¬ (i < 0 ∨ (arrV _ _ _).slots.size ≤ _); rw [arrV_size]; exact hin) rfl rfl hd
          fun H1 e1 z oq => kk H1 _ la (hI.set ha (ix_at_i rfl e1 rfl) z oq) hl
    · cases hr
  · cases hr
set_option maxHeartbeats 4000000 in
theorem ix_w_bs (X : ix_X p R s m args meth c D b base aC q S) (hr : ix_bs pc ls st h = some (.inl f)) (hd : decode q.2.2.1 pc = .ok (.bastore, 1)) (kk : ix_W p l e R s m args below meth c Q D b base aC q h0 f) : ix_W p l e R s m args below meth c Q D b base aC q h0 (pc, ls, st, h) := by
  obtain ⟨hx, hb, -, -, hown, hts, hK, hX, -⟩ := X
  intro H locs la hI hl
  unfold ix_bs at hr
  split at hr
  · rename_i x i a r
    split at hr
    · rename_i n g hcell
      split at hr
      · cases hr
      · rename_i hin
        cases hr
        have ha : a < h.1 := hI.lt (by show h.2.2 a ≠ ix_no_; rw [hcell]; exact ix_no_arr)
        have he : (ix_ws b base aC h)[a]? = some (base + a, .inl (aC .byte, n, .inl g)) := by rw [ix_ws_get ha, hcell]; rfl
        exact W.bast hx hb (hI.2.2.1 a _ he) ((hK.1.2 1 _ rfl).1 n (fun j => .int (g j))) (fun z => by cases z) (by show ¬ (i < 0 ∨ (arrV _ _ _).slots.size ≤ _); rw [arrV_size]; exact hin) rfl rfl hd
          fun H1 e1 z oq => kk H1 _ la (hI.set ha (ix_at_i rfl e1 rfl) z oq) hl
    · rename_i n g hcell
      split at hr
      · cases hr
      · rename_i hin
        cases hr
        have ha : a < h.1 := hI.lt (by show h.2.2 a ≠ ix_no_; rw [hcell]; exact ix_no_arr)
        have he : (ix_ws b base aC h)[a]? = some (base + a, .inl (aC .boolean, n, .inl g)) := by rw [ix_ws_get ha, hcell]; rfl
        exact W.zast hx hb (hI.2.2.1 a _ he) ((hK.1.2 2 _ rfl).1 n (fun j => .int (g j))) (fun z => by cases z) (by show ¬ (i < 0 ∨ (arrV _ _ _).slots.size ≤ _); rw [arrV_size]; exact hin) rfl rfl hd
          fun H1 e1 z oq => kk H1 _ la (hI.set ha (ix_at_i rfl e1 rfl) z oq) hl
    · cases hr
  · cases hr
set_option maxHeartbeats 4000000 in
theorem ix_w_as (X : ix_X p R s m args meth c D b base aC q S) (hr : ix_as pc ls st h = some (.inl f)) (hd : decode q.2.2.1 pc = .ok (.aastore, 1)) (kk : ix_W p l e R s m args below meth c Q D b base aC q h0 f) : ix_W p l e R s m args below meth c Q D b base aC q h0 (pc, ls, st, h) := by
  obtain ⟨hx, hb, -, -, hown, hts, hK, hX, -⟩ := X
  intro H locs la hI hl
  unfold ix_as at hr
  split at hr
  · rename_i v i a r
    split at hr
    · rename_i C n g ci vs hcell hcv
      split at hr
      · cases hr
      · rename_i hin
        split at hr
        · rename_i hC
          obtain ⟨hci, rfl⟩ := hC
          cases hr
          have c5 : ci ≤ 5 := by omega
          have ha : a < h.1 := hI.lt (by show h.2.2 a ≠ ix_no_; rw [hcell]; exact ix_no_arr)
          have hv : v < h.1 := hI.lt (by show h.2.2 v ≠ ix_no_; rw [hcv]; exact ix_no_obj c5)
          have he : (ix_ws b base aC h)[a]? = some (base + a, .inl (aC (.object (ix_RC ci)), n, .inr (.inr (.inr (.inr (fun i => (g i).map (fun k => base + k))))))) := by rw [ix_ws_get ha, hcell]; rfl
          have hev : (ix_ws b base aC h)[v]? = some (base + v, .inr (ci, vs.map (ix_cv b base))) := by rw [ix_ws_get hv, hcv]; rfl
          obtain ⟨hc, -⟩ := ix_cls_facts ci c5
          have ht : ∃ t0 : Nat, (ix_tys aC)[t0]? = some (aC (.object (ix_RC ci)), .object (ix_RC ci)) := by
            rcases hci with rfl | rfl
            · exact ⟨3, rfl⟩
            · exact ⟨4, rfl⟩
          obtain ⟨t0, ht⟩ := ht
          have hlt : i.toNatClampNeg < n := Nat.not_le.mp fun z => hin (Or.inr z)
          have hi0 : ¬ i < 0 := fun z => hin (Or.inl z)
          obtain ⟨r', hr', cellV, g1, g2, g3, -⟩ := hI.2.2.1 v _ hev
          have hcls := (hK.1.1 ci _ hc).2
          obtain ⟨kA, comp, k1, k2, k3, -⟩ := (hK.1.2 t0 _ ht).2
          have hcomp : comp = D.1 ci := Option.some.inj (k3.symm.trans hcls.1)
          subst hcomp
          obtain ⟨kC, hkC, -⟩ := hcls.2
          refine W.aast hx hb (hI.2.2.1 a _ he) (fun z h => by cases h) (fun h => by cases h) k1 k2 rfl hkC ⟨hi0, by show _ < (arrV _ _ _).slots.size; rw [arrV_size]; exact hlt⟩ g1 (fun z h => by rw [g3] at h; cases h) (by rw [g2]; exact hkC) (by rw [g2]; exact va_assign hcls) rfl rfl hd fun H1 e1 z oq => ?_
          refine kk H1 _ la (hI.set ha ?_ z oq) hl
          show H1[base + a]? = some (vp_cell _ (n, .inr (.inr (.inr (.inr _)))))
          rw [e1]
          show some ((vp_cell _ (n, .inr (.inr (.inr (.inr _))))).setSlot _ _) = _
          rw [vp_cell_q, vp_cell_q, arrV_store]
          congr 2
          funext x
          by_cases hq : x = i.toNatClampNeg
          · subst hq; simp [updV, va_up, va_rf]
          · simp [updV, va_up, hq]
        · cases hr
    · cases hr
  · cases hr
set_option maxHeartbeats 4000000 in
theorem ix_w_na (X : ix_X p R s m args meth c D b base aC q S) {t : ArrayType} (hr : ix_na (newarray.typeOf t) pc ls st h = some (.inl f)) (hd : decode q.2.2.1 pc = .ok (.newarray t, 2)) (hlo : h0.1 ≤ h.1 ∧ h0.2.1 ≤ h.2.1) (hhi : f.2.2.2.1 - h0.1 ≤ R.cells ∧ f.2.2.2.2.1 - h0.2.1 ≤ R.slots) (kk : ix_W p l e R s m args below meth c Q D b base aC q h0 f) : ix_W p l e R s m args below meth c Q D b base aC q h0 (pc, ls, st, h) := by
  obtain ⟨hx, hb, -, -, hown, hts, hK, hX, -⟩ := X
  intro H locs la hI hl
  unfold ix_na at hr
  split at hr
  · rename_i n r
    split at hr
    · cases hr
    · rename_i hc
      cases hr
      have hn0 : ¬ n < 0 := fun z => hc (Or.inl z)
      have hn1 : n.toNatClampNeg ≤ 200000 := Nat.le_of_not_lt fun z => hc (Or.inr (Or.inl z))
      have hty : newarray.typeOf t = .int ∨ newarray.typeOf t = .byte ∨ newarray.typeOf t = .boolean := Classical.byContradiction fun z => hc (Or.inr (Or.inr z))
      simp only [ix_new] at hhi
      have key : ∀ (t0 i0 : Nat) (ty : FieldType), newarray.typeOf t = ty → lw_tbl[i0]? = some (.arrayClass ty) → (ix_tys aC)[t0]? = some (aC ty, ty) → (∀ cA, va_RA s cA ty = (s.vm.findClass ("[" ++ ty.toString) = some cA)) → componentBytes ty ≤ 8 → defaultValue ty = .int 0 → W p l e R s m args below meth c H locs (h.1 - h0.1) (h.2.1 - h0.2.1) Q (F0 m pc la ((.int n :: r).map (ix_cv b base))) := by
        intro t0 i0 ty hty hw ht hRA hcb hdv
        subst hty
        refine va_newaK hx hb (ix_word hts hw rfl) rfl hd (rest := r.map (ix_cv b base)) rfl hn0 rfl (Nat.le_trans (Nat.mul_le_mul hn1 hcb) (by decide)) (by omega) (by omega) hI.1 fun H1 cA e1 z1 o1 hAr hNm => ?_
        have hcA : cA = aC (newarray.typeOf t) := by
          have h5 := (hK.1.2 t0 _ ht).2
          rw [hRA] at h5
          exact Option.some.inj (hNm.symm.trans h5)
        subst hcA
        refine W.cs (by show h.1 - h0.1 + 1 = h.1 + 1 - h0.1; omega) (by show _ = h.2.1 + n.toNatClampNeg - h0.2.1; omega) (kk H1 locs la (hI.new _ ?_ (by rw [z1, hI.1]) (fun y hy => o1 y (by rw [← hI.1]; exact hy))) hl)
        show H1[base + h.1]? = some (vp_cell _ (_, .inl _))
        rw [e1, vp_cell_i, hdv]
      rcases hty with hty | hty | hty
      · exact key 0 _ .int hty ix_mw_ok.2.2.2.2.2.2.2.1 rfl (fun _ => rfl) (by decide) rfl
      · exact key 1 _ .byte hty ix_mw_ok.2.2.2.2.2.2.2.2.1 rfl (fun _ => rfl) (by decide) rfl
      · exact key 2 _ .boolean hty ix_mw_ok.2.2.2.2.2.2.2.2.2 rfl (fun _ => rfl) (by decide) rfl
  · cases hr
set_option maxHeartbeats 4000000 in
theorem ix_w_nq (X : ix_X p R s m args meth c D b base aC q S) (hr : ix_nq q.1 idx pc ls st h = some (.inl f)) (hd : decode q.2.2.1 pc = .ok (.anewarray idx, 3)) (hlo : h0.1 ≤ h.1 ∧ h0.2.1 ≤ h.2.1) (hhi : f.2.2.2.1 - h0.1 ≤ R.cells ∧ f.2.2.2.2.1 - h0.2.1 ≤ R.slots) (kk : ix_W p l e R s m args below meth c Q D b base aC q h0 f) : ix_W p l e R s m args below meth c Q D b base aC q h0 (pc, ls, st, h) := by
  obtain ⟨hx, hb, -, -, hown, hts, hK, hX, -⟩ := X
  intro H locs la hI hl
  unfold ix_nq at hr
  split at hr
  · rename_i n r ci i hcl
    split at hr
    · cases hr
    · rename_i hc
      cases hr
      obtain ⟨c5, hw⟩ := ix_cls_ok hcl
      have hn0 : ¬ n < 0 := fun z => hc (Or.inl z)
      have hn1 : n.toNatClampNeg ≤ 200000 := Nat.le_of_not_lt fun z => hc (Or.inr (Or.inl z))
      have hci : ci = 1 ∨ ci = 2 := Classical.byContradiction fun z => hc (Or.inr (Or.inr z))
      simp only [ix_new] at hhi
      have ht : (∃ t0 : Nat, (ix_tys aC)[t0]? = some (aC (.object (ix_RC ci)), .object (ix_RC ci))) ∧ va_AO (ix_RC ci) s := by
        rcases hci with rfl | rfl
        · exact ⟨⟨3, rfl⟩, hK.2.2.1⟩
        · exact ⟨⟨4, rfl⟩, hK.2.2.2⟩
      obtain ⟨⟨t0, ht⟩, hAO⟩ := ht
      show W p l e R s m args below meth c H locs (h.1 - h0.1) (h.2.1 - h0.2.1) Q (F0 m pc la ((.int n :: r).map (ix_cv b base)))
      refine W.anew hx hb hown (ix_word hts hw rfl) (va_AO.use hAO) rfl hd (rest := r.map (ix_cv b base)) rfl hn0 (Nat.le_trans (Nat.mul_le_mul_right 4 hn1) (by decide)) (by omega) (by omega) fun cA kA comp f1 f2 f3 f4 => ?_
      have hcA : cA = aC (.object (ix_RC ci)) := by
        obtain ⟨_, _, -, -, -, h5⟩ := (hK.1.2 t0 _ ht).2
        exact Option.some.inj (f1.symm.trans h5)
      subst hcA
      rw [show H.size = base + h.1 from hI.1]
      refine W.cs (by show h.1 - h0.1 + 1 = h.1 + 1 - h0.1; omega) (by show _ = h.2.1 + n.toNatClampNeg - h0.2.1; omega) (kk _ locs la (hI.new _ ?_ (by rw [Array.size_push]) (fun y hy => by rw [Array.getElem?_push, if_neg (Nat.ne_of_lt hy)])) hl)
      show (H.push _)[base + h.1]? = some (vp_cell _ (_, .inr (.inr (.inr (.inr _)))))
      rw [← hI.1, Array.getElem?_push_size, arrV_new, vp_cell_q]
      rfl
  · cases hr
set_option maxHeartbeats 4000000 in
theorem ix_w_no (X : ix_X p R s m args meth c D b base aC q S) (hr : ix_no q.1 idx pc ls st h = some (.inl f)) (hd : decode q.2.2.1 pc = .ok (.new idx, 3)) (hlo : h0.1 ≤ h.1 ∧ h0.2.1 ≤ h.2.1) (hhi : f.2.2.2.1 - h0.1 ≤ R.cells ∧ f.2.2.2.2.1 - h0.2.1 ≤ R.slots) (kk : ix_W p l e R s m args below meth c Q D b base aC q h0 f) : ix_W p l e R s m args below meth c Q D b base aC q h0 (pc, ls, st, h) := by
  obtain ⟨hx, hb, -, -, hown, hts, hK, hX, -⟩ := X
  intro H locs la hI hl
  unfold ix_no at hr
  split at hr
  · rename_i ci i hcl
    split at hr
    · rename_i c5
      cases hr
      obtain ⟨-, hw⟩ := ix_cls_ok hcl
      obtain ⟨hc, hin, hnm, hty⟩ := ix_cls_facts ci c5
      obtain ⟨w1, w2⟩ := ix_ins_ok ci (by omega)
      simp only [ix_new] at hhi
      have hKn := hK.1.1 ci _ hc
      show W p l e R s m args below meth c H locs (h.1 - h0.1) (h.2.1 - h0.2.1) Q (F0 m pc la (st.map (ix_cv b base)))
      refine W.newcK hx hb hown (ix_word hts hw rfl) (ix_word hts w1 rfl) (ix_word hts w2 rfl) rfl hd (by omega) (by omega) hKn.2.1 hI.1 fun H1 kC hkC e1 z1 o1 => ?_
      refine W.cs (by show h.1 - h0.1 + 1 = h.1 + 1 - h0.1; omega) (by show _ = h.2.1 + ix_NN ci - h0.2.1; omega) (kk H1 locs la (hI.new _ ?_ (by rw [z1, hI.1]) (fun y hy => o1 y (by rw [← hI.1]; exact hy))) hl)
      show va_at D vwCl (base + h.1, .inr (ci, (ix_blank ci).map (ix_cv b base))) H1
      rw [ix_blank_cv]
      exact ⟨_, hc, (u_born (ix_ty ci) hts hin hKn hkC e1 hty).to (ix_blank_ok ci c5)⟩
    · cases hr
  · cases hr
end IXR
end
section
/-! ONE STEP -/
section IXE
variable {p : Program} {l : Launch} {e : Env} {R : Room} {s : State} {m : MethodId} {args : Array Value} {below : List Frame} {meth : Method} {c : Code} {Q : State → Prop}
variable {D : va_G} {b base : Nat} {aC : FieldType → ClassId} {q : ix_M} {h0 : ix_H} {S : ix_S} {pc : Nat} {ls : ix_L} {st : List Value} {h : ix_H} {f : ix_F} {idx : Nat}
theorem ix_jmp_ok {pc t : Nat} {off : Int} (h : ix_jmp pc off = some t) : (pc : Int) + off = (t : Int) := by
  unfold ix_jmp at h
  split at h
  · rename_i z
    cases h
    omega
  · cases h
theorem ix_goto_ok {off : Int} (hr : ix_goto pc off ls st h = some (.inl f)) : ∃ t : Nat, (pc : Int) + off = (t : Int) ∧ f = (t, ls, st, h) := by
  unfold ix_goto at hr
  split at hr
  · rename_i t ht
    cases hr
    exact ⟨t, ix_jmp_ok ht, rfl⟩
  · cases hr
theorem ix_br_ok {bb : Bool} {off : Int} (hr : ix_br bb pc off ls st h = some (.inl f)) : ∃ t : Nat, (pc : Int) + off = (t : Int) ∧ f = (if bb then t else pc + 3, ls, st, h) := by
  unfold ix_br at hr
  split at hr
  · rename_i t ht
    cases hr
    exact ⟨t, ix_jmp_ok ht, rfl⟩
  · cases hr
theorem ix_lcl {la : Array Slot} {nL k : Nat} {v : Value} (hl : lv_has la nL (ls.map (ix_cp b base))) (hg : ix_get ls k = some v) : la[k]? = some (.val (ix_cv b base v)) := hl.2.2 (k, ix_cv b base v) (List.mem_map.mpr ⟨(k, v), ix_get_mem hg, rfl⟩)

set_option maxHeartbeats 4000000 in
theorem ix_w_if (hx : p.tables.exec = Jvm.exec) (hb : c.code = q.2.2.1) {cd : ClassFile.Cond} {off : Int} {x : Int32} (hr : ix_br (ix_cmp cd x 0) pc off ls st h = some (.inl f)) (hd : decode q.2.2.1 pc = .ok (.ifCond cd off, 3)) (kk : ix_W p l e R s m args below meth c Q D b base aC q h0 f) : ix_W p l e R s m args below meth c Q D b base aC q h0 (pc, ls, .int x :: st, h) := by
  intro H locs la hI hl
  obtain ⟨t, ht, rfl⟩ := ix_br_ok hr
  have kk1 := kk H locs la hI hl
  cases cd
  · refine lv_if_eq hx hb hd ht (fun z => ?_) (fun z => ?_)
    · rw [show ix_cmp .eq x 0 = true from decide_eq_true z] at kk1; exact kk1
    · rw [show ix_cmp .eq x 0 = false from decide_eq_false z] at kk1; exact kk1
  · refine lv_if_ne hx hb hd ht (fun z => ?_) (fun z => ?_)
    · rw [show ix_cmp .ne x 0 = true from decide_eq_true z] at kk1; exact kk1
    · rw [show ix_cmp .ne x 0 = false from decide_eq_false (fun w => w z)] at kk1; exact kk1
  · refine lv_if_lt hx hb hd ht (fun z => ?_) (fun z => ?_)
    · rw [show ix_cmp .lt x 0 = true from decide_eq_true z] at kk1; exact kk1
    · rw [show ix_cmp .lt x 0 = false from decide_eq_false z] at kk1; exact kk1
  · refine lv_if_ge hx hb hd ht (fun z => ?_) (fun z => ?_)
    · rw [show ix_cmp .ge x 0 = true from decide_eq_true z] at kk1; exact kk1
    · rw [show ix_cmp .ge x 0 = false from decide_eq_false z] at kk1; exact kk1
  · refine lv_if_gt hx hb hd ht (fun z => ?_) (fun z => ?_)
    · rw [show ix_cmp .gt x 0 = true from decide_eq_true z] at kk1; exact kk1
    · rw [show ix_cmp .gt x 0 = false from decide_eq_false z] at kk1; exact kk1
  · refine lv_if_le hx hb hd ht (fun z => ?_) (fun z => ?_)
    · rw [show ix_cmp .le x 0 = true from decide_eq_true z] at kk1; exact kk1
    · rw [show ix_cmp .le x 0 = false from decide_eq_false z] at kk1; exact kk1
set_option maxHeartbeats 4000000 in
theorem ix_w_ic (hx : p.tables.exec = Jvm.exec) (hb : c.code = q.2.2.1) {cd : ClassFile.Cond} {off : Int} {x y : Int32} (hr : ix_br (ix_cmp cd x y) pc off ls st h = some (.inl f)) (hd : decode q.2.2.1 pc = .ok (.if_icmp cd off, 3)) (kk : ix_W p l e R s m args below meth c Q D b base aC q h0 f) : ix_W p l e R s m args below meth c Q D b base aC q h0 (pc, ls, .int y :: .int x :: st, h) := by
  intro H locs la hI hl
  obtain ⟨t, ht, rfl⟩ := ix_br_ok hr
  have kk1 := kk H locs la hI hl
  cases cd
  · refine lv_icmp_eq hx hb hd ht (fun z => ?_) (fun z => ?_)
    · rw [show ix_cmp .eq x y = true from decide_eq_true z] at kk1; exact kk1
    · rw [show ix_cmp .eq x y = false from decide_eq_false z] at kk1; exact kk1
  · refine lv_icmp_ne hx hb hd ht (fun z => ?_) (fun z => ?_)
    · rw [show ix_cmp .ne x y = true from decide_eq_true z] at kk1; exact kk1
    · rw [show ix_cmp .ne x y = false from decide_eq_false (fun w => w z)] at kk1; exact kk1
  · refine lv_icmp_lt hx hb hd ht (fun z => ?_) (fun z => ?_)
    · rw [show ix_cmp .lt x y = true from decide_eq_true z] at kk1; exact kk1
    · rw [show ix_cmp .lt x y = false from decide_eq_false z] at kk1; exact kk1
  · refine lv_icmp_ge hx hb hd ht (fun z => ?_) (fun z => ?_)
    · rw [show ix_cmp .ge x y = true from decide_eq_true z] at kk1; exact kk1
    · rw [show ix_cmp .ge x y = false from decide_eq_false z] at kk1; exact kk1
  · refine lv_icmp_gt hx hb hd ht (fun z => ?_) (fun z => ?_)
    · rw [show ix_cmp .gt x y = true from decide_eq_true z] at kk1; exact kk1
    · rw [show ix_cmp .gt x y = false from decide_eq_false z] at kk1; exact kk1
  · refine lv_icmp_le hx hb hd ht (fun z => ?_) (fun z => ?_)
    · rw [show ix_cmp .le x y = true from decide_eq_true z] at kk1; exact kk1
    · rw [show ix_cmp .le x y = false from decide_eq_false z] at kk1; exact kk1
theorem ix_sum_cv (r : List Value) : ((r.map (ix_cv b base)).map fun v => v.category).sum = (r.map fun v => v.category).sum := by
  rw [List.map_map]
  congr 1
  apply List.map_congr_left
  intro v _
  exact ix_cv_cat b base v
set_option maxHeartbeats 4000000 in
/-- what a call does at once: Object(), Math.max, Math.min -/
theorem ix_w_c0 (X : ix_X p R s m args meth c D b base aC q S) {i : Instr} {kd : Nat} (hi : (kd = 0 ∧ i = .invokevirtual idx) ∨ (kd = 1 ∧ i = .invokestatic idx) ∨ (kd = 2 ∧ i = .invokespecial idx)) (hr : ix_call q.1 kd idx pc ls st h = some (.inl f)) (hd : decode q.2.2.1 pc = .ok (i, 3)) (hhi : f.2.2.2.1 - h0.1 ≤ R.cells ∧ f.2.2.2.2.1 - h0.2.1 ≤ R.slots) (kk : ix_W p l e R s m args below meth c Q D b base aC q h0 f) : ix_W p l e R s m args below meth c Q D b base aC q h0 (pc, ls, st, h) := by
  obtain ⟨hx, hb, -, hml, hown, hts, hK, hX, -, -, -, -, hfr, hlo⟩ := X
  obtain ⟨w1, w2, w3, w4, w5, w6, w7, -⟩ := ix_mw_ok
  intro H locs la hI hl
  unfold ix_call at hr
  split at hr
  · cases hr
  · rename_i nest y i0 hm
    obtain ⟨m2, m3, m4, -⟩ := ix_mth_ok hm
    split at hr
    · rename_i hn
      split at hr
      · split at hr
        · rename_i a r hc
          obtain ⟨rfl, hs⟩ := hc
          cases hr
          have hi : i = .invokespecial idx := by rcases hi with ⟨z, -⟩ | ⟨z, -⟩ | ⟨-, z⟩ <;> first | exact z | (cases z)
          subst hi
          refine W.objInit hx hb hown (ix_word hts (m2 hn) rfl) (ix_word hts w5 rfl) (ix_word hts w6 rfl) rfl (by rw [hml]; exact hl.1) rfl hd hfr ?_ (kk H locs la hI hl)
          have hz : 2 * (F0 m pc la ((Value.ref a :: r).map (ix_cv b base))).monitorRoom + ((r.map (ix_cv b base)).map fun v => v.category).sum ≤ 8 := lv_room (by rw [ix_sum_cv]; exact hs)
          show 2 * (F0 m pc la ((Value.ref a :: r).map (ix_cv b base))).monitorRoom + ((r.map (ix_cv b base)).map fun v => v.category).sum + 12 ≤ R.locals
          omega
        · cases hr
      · cases hr
    · split at hr
      · rename_i hn
        split at hr
        · split at hr
          · rename_i y x r hc
            obtain ⟨rfl, hs⟩ := hc
            cases hr
            have hi : i = .invokestatic idx := by rcases hi with ⟨z, -⟩ | ⟨-, z⟩ | ⟨z, -⟩ <;> first | exact z | (cases z)
            subst hi
            refine va_mmax hx hb (by rw [hml]; exact hl.1.symm) hown (ix_word hts (m3 hn) rfl) (ix_word hts w1 rfl) (ix_word hts w7 rfl) (ix_word hts w2 rfl) hfr ?_ hhi.1 hhi.2 hd (kk H locs la hI hl)
            rw [ix_sum_cv]; omega
          · cases hr
        · cases hr
      · split at hr
        · rename_i hn
          split at hr
          · split at hr
            · rename_i y x r hc
              obtain ⟨rfl, hs⟩ := hc
              cases hr
              have hi : i = .invokestatic idx := by rcases hi with ⟨z, -⟩ | ⟨-, z⟩ | ⟨z, -⟩ <;> first | exact z | (cases z)
              subst hi
              refine va_mmin hx hb (by rw [hml]; exact hl.1.symm) hown (ix_word hts (m4 hn) rfl) (ix_word hts w3 rfl) (ix_word hts w7 rfl) (ix_word hts w4 rfl) hfr ?_ hhi.1 hhi.2 hd (kk H locs la hI hl)
              rw [ix_sum_cv]; omega
            · cases hr
          · cases hr
        · split at hr
          · cases hr
          · simp only at hr
            generalize (if kd = 1 then 0 else 1 : Nat) = z1 at hr
            split at hr <;> cases hr
set_option maxHeartbeats 8000000 in
theorem ix_w_exec (X : ix_X p R s m args meth c D b base aC q S) {i : Instr} {n : Nat} (hr : ix_exec S q i pc ls st h = some (.inl f)) (hd : decode q.2.2.1 pc = .ok (i, n)) (hn : (∃ d lo hi offs, i = .tableswitch d lo hi offs) ∨ n = ix_len i) (hlo : h0.1 ≤ h.1 ∧ h0.2.1 ≤ h.2.1) (hhi : f.2.2.2.1 - h0.1 ≤ R.cells ∧ f.2.2.2.2.1 - h0.2.1 ≤ R.slots) (kk : ix_W p l e R s m args below meth c Q D b base aC q h0 f) : ix_W p l e R s m args below meth c Q D b base aC q h0 (pc, ls, st, h) := by
  have hx := X.1
  have hb := X.2.1
  unfold ix_exec at hr
  split at hr
  · obtain rfl : n = _ := by rcases hn with ⟨_, _, _, _, z⟩ | z; cases z; exact z
    intro H locs la hI hl
    unfold ix_ldI at hr
    split at hr
    · rename_i x hg; cases hr; exact lv_iload hx hb hd (ix_lcl hl hg) (kk H locs la hI hl)
    · cases hr
  · obtain rfl : n = _ := by rcases hn with ⟨_, _, _, _, z⟩ | z; cases z; exact z
    intro H locs la hI hl
    unfold ix_ldI at hr
    split at hr
    · rename_i x hg; cases hr; exact lv_iload_n hx hb hd rfl (ix_lcl hl hg) (kk H locs la hI hl)
    · cases hr
  · obtain rfl : n = _ := by rcases hn with ⟨_, _, _, _, z⟩ | z; cases z; exact z
    intro H locs la hI hl
    unfold ix_ldL at hr
    split at hr
    · rename_i x hg; cases hr; exact lv_lload hx hb hd (ix_lcl hl hg) (kk H locs la hI hl)
    · cases hr
  · obtain rfl : n = _ := by rcases hn with ⟨_, _, _, _, z⟩ | z; cases z; exact z
    intro H locs la hI hl
    unfold ix_ldL at hr
    split at hr
    · rename_i x hg; cases hr; exact lv_lload_n hx hb hd rfl (ix_lcl hl hg) (kk H locs la hI hl)
    · cases hr
  · obtain rfl : n = _ := by rcases hn with ⟨_, _, _, _, z⟩ | z; cases z; exact z
    intro H locs la hI hl
    unfold ix_ldA at hr
    split at hr
    · rename_i x hg; cases hr; exact lv_aload hx hb hd (ix_lcl hl hg) (kk H locs la hI hl)
    · rename_i x hg; cases hr; exact lv_aload hx hb hd (ix_lcl hl hg) (kk H locs la hI hl)
    · cases hr
  · obtain rfl : n = _ := by rcases hn with ⟨_, _, _, _, z⟩ | z; cases z; exact z
    intro H locs la hI hl
    unfold ix_ldA at hr
    split at hr
    · rename_i x hg; cases hr; exact lv_aload_n hx hb hd rfl (ix_lcl hl hg) (kk H locs la hI hl)
    · rename_i x hg; cases hr; exact lv_aload_n hx hb hd rfl (ix_lcl hl hg) (kk H locs la hI hl)
    · cases hr
  · obtain rfl : n = _ := by rcases hn with ⟨_, _, _, _, z⟩ | z; cases z; exact z
    intro H locs la hI hl
    unfold ix_stI at hr
    split at hr
    · split at hr
      · rename_i x r hk; cases hr; exact lv_istore hx hb hd hl hk (ix_put1_map b base ls _ (.int x)) (fun la' hl' => kk H locs la' hI hl')
      · cases hr
    · cases hr
  · obtain rfl : n = _ := by rcases hn with ⟨_, _, _, _, z⟩ | z; cases z; exact z
    intro H locs la hI hl
    unfold ix_stI at hr
    split at hr
    · split at hr
      · rename_i x r hk; cases hr; exact lv_istore_n hx hb hd rfl hl hk (ix_put1_map b base ls _ (.int x)) (fun la' hl' => kk H locs la' hI hl')
      · cases hr
    · cases hr
  · obtain rfl : n = _ := by rcases hn with ⟨_, _, _, _, z⟩ | z; cases z; exact z
    intro H locs la hI hl
    unfold ix_stL at hr
    split at hr
    · split at hr
      · rename_i x r hk; cases hr; exact lv_lstore hx hb hd hl hk (ix_put2_map b base ls _ (.long x)) (fun la' hl' => kk H locs la' hI hl')
      · cases hr
    · cases hr
  · obtain rfl : n = _ := by rcases hn with ⟨_, _, _, _, z⟩ | z; cases z; exact z
    intro H locs la hI hl
    unfold ix_stL at hr
    split at hr
    · split at hr
      · rename_i x r hk; cases hr; exact lv_lstore_n hx hb hd rfl hl hk (ix_put2_map b base ls _ (.long x)) (fun la' hl' => kk H locs la' hI hl')
      · cases hr
    · cases hr
  · obtain rfl : n = _ := by rcases hn with ⟨_, _, _, _, z⟩ | z; cases z; exact z
    intro H locs la hI hl
    unfold ix_stA at hr
    split at hr
    · split at hr
      · rename_i x r hk; cases hr; exact lv_astore hx hb hd hl hk (ix_put1_map b base ls _ (.ref x)) (fun la' hl' => kk H locs la' hI hl')
      · cases hr
    · cases hr
  · obtain rfl : n = _ := by rcases hn with ⟨_, _, _, _, z⟩ | z; cases z; exact z
    intro H locs la hI hl
    unfold ix_stA at hr
    split at hr
    · split at hr
      · rename_i x r hk; cases hr; exact lv_astore_n hx hb hd rfl hl hk (ix_put1_map b base ls _ (.ref x)) (fun la' hl' => kk H locs la' hI hl')
      · cases hr
    · cases hr
  · obtain rfl : n = _ := by rcases hn with ⟨_, _, _, _, z⟩ | z; cases z; exact z
    intro H locs la hI hl
    split at hr
    · rename_i x hg
      split at hr
      · rename_i hk
        cases hr
        obtain ⟨j, hj⟩ := List.getElem?_of_mem (List.mem_map.mpr ⟨_, ix_get_mem hg, rfl⟩ : (_, ix_cv b base (.int x)) ∈ ls.map (ix_cp b base))
        exact lv_iinc hx hb hd hl hj rfl hk (ix_put1_map b base ls _ (.int _)) (fun la' hl' => kk H locs la' hI hl')
      · cases hr
    · cases hr
  · obtain rfl : n = _ := by rcases hn with ⟨_, _, _, _, z⟩ | z; cases z; exact z
    intro H locs la hI hl
    obtain ⟨t, ht, rfl⟩ := ix_goto_ok hr
    exact lv_goto hx hb hd ht (kk H locs la hI hl)
  · obtain rfl : n = _ := by rcases hn with ⟨_, _, _, _, z⟩ | z; cases z; exact z
    split at hr
    · exact ix_w_if hx hb hr hd kk
    · cases hr
  · obtain rfl : n = _ := by rcases hn with ⟨_, _, _, _, z⟩ | z; cases z; exact z
    split at hr
    · exact ix_w_ic hx hb hr hd kk
    · cases hr
  · intro H locs la hI hl
    split at hr
    · split at hr
      · rename_i hz; obtain ⟨t, ht, rfl⟩ := ix_goto_ok hr; exact lv_tableOut hx hb hd hz ht (kk H locs la hI hl)
      · rename_i hz
        split at hr
        · rename_i o ho; obtain ⟨t, ht, rfl⟩ := ix_goto_ok hr; exact lv_tableIn hx hb hd (fun z => hz (Or.inl z)) (fun z => hz (Or.inr z)) ho ht (kk H locs la hI hl)
        · cases hr
    · cases hr
  · obtain rfl : n = _ := by rcases hn with ⟨_, _, _, _, z⟩ | z; cases z; exact z
    intro H locs la hI hl
    split at hr
    · rename_i v i0 hv; cases hr; exact lv_ldc hx hb X.2.2.2.2.1 (ix_word X.2.2.2.2.2.1 (ix_con_ok hv) rfl) hd (kk H locs la hI hl)
    · cases hr
  · obtain rfl : n = _ := by rcases hn with ⟨_, _, _, _, z⟩ | z; cases z; exact z
    intro H locs la hI hl
    split at hr
    · rename_i v i0 hv; cases hr; exact lv_ldc2 hx hb X.2.2.2.2.1 (ix_word X.2.2.2.2.2.1 (ix_cnl_ok hv) rfl) hd (kk H locs la hI hl)
    · cases hr
  · obtain rfl : n = _ := by rcases hn with ⟨_, _, _, _, z⟩ | z; cases z; exact z
    exact ix_w_gf X hr hd kk
  · obtain rfl : n = _ := by rcases hn with ⟨_, _, _, _, z⟩ | z; cases z; exact z
    exact ix_w_pf X hr hd kk
  · obtain rfl : n = _ := by rcases hn with ⟨_, _, _, _, z⟩ | z; cases z; exact z
    exact ix_w_al X hr hd kk
  · obtain rfl : n = _ := by rcases hn with ⟨_, _, _, _, z⟩ | z; cases z; exact z
    exact ix_w_ia X hr hd kk
  · obtain rfl : n = _ := by rcases hn with ⟨_, _, _, _, z⟩ | z; cases z; exact z
    exact ix_w_ba X hr hd kk
  · obtain rfl : n = _ := by rcases hn with ⟨_, _, _, _, z⟩ | z; cases z; exact z
    exact ix_w_aa X hr hd kk
  · obtain rfl : n = _ := by rcases hn with ⟨_, _, _, _, z⟩ | z; cases z; exact z
    exact ix_w_is X hr hd kk
  · obtain rfl : n = _ := by rcases hn with ⟨_, _, _, _, z⟩ | z; cases z; exact z
    exact ix_w_bs X hr hd kk
  · obtain rfl : n = _ := by rcases hn with ⟨_, _, _, _, z⟩ | z; cases z; exact z
    exact ix_w_as X hr hd kk
  · obtain rfl : n = _ := by rcases hn with ⟨_, _, _, _, z⟩ | z; cases z; exact z
    exact ix_w_na X hr hd hlo hhi kk
  · obtain rfl : n = _ := by rcases hn with ⟨_, _, _, _, z⟩ | z; cases z; exact z
    exact ix_w_nq X hr hd hlo hhi kk
  · obtain rfl : n = _ := by rcases hn with ⟨_, _, _, _, z⟩ | z; cases z; exact z
    exact ix_w_no X hr hd hlo hhi kk
  · obtain rfl : n = _ := by rcases hn with ⟨_, _, _, _, z⟩ | z; cases z; exact z
    exact ix_w_c0 X (Or.inl ⟨rfl, rfl⟩) hr hd hhi kk
  · obtain rfl : n = _ := by rcases hn with ⟨_, _, _, _, z⟩ | z; cases z; exact z
    exact ix_w_c0 X (Or.inr (Or.inl ⟨rfl, rfl⟩)) hr hd hhi kk
  · obtain rfl : n = _ := by rcases hn with ⟨_, _, _, _, z⟩ | z; cases z; exact z
    exact ix_w_c0 X (Or.inr (Or.inr ⟨rfl, rfl⟩)) hr hd hhi kk
  · split at hr
    · split at hr <;> cases hr
    · cases hr
  · split at hr <;> cases hr
  · split at hr <;> cases hr
  · split at hr
    · rename_i st' hp
      cases hr
      intro H locs la hI hl
      rcases hn with ⟨d, lo, hi, offs, rfl⟩ | rfl
      · cases hp
      · exact ix_w_pure hx hb hp hd (kk H locs la hI hl)
    · cases hr
end IXE
end
section
/-! CALLS, AND THE WHOLE: what the interpreter comes to, the machine comes to -/
/-- method number y, with these arguments, at this heap, comes to its end with that answer and that heap; at most d calls stand open -/
def ix_Ev : Nat → Nat → List Value → ix_H → ix_O → Prop
  | 0, _, _, _, _ => False
  | d + 1, y, as, h, o => ∃ (q : ix_M) (n : Nat), mNs[y]? = some q ∧ (lg_sl as).length ≤ q.2.2.2.1 ∧ ix_run none (ix_Ev d) q n (0, lv_args 0 as, [], h) o
/-- inside a method, with calls of depth d -/
def ix_G (S : ix_S) (d : Nat) (q : ix_M) (f : ix_F) (o : ix_O) : Prop := ∃ n, ix_run S (ix_Ev d) q n f o
theorem ix_mcn : mNs.all (fun q => decide (q.1 ≤ 8)) = true := by decide +kernel
def ix_hp (r : ix_R) : ix_H := match r with
  | .inl f => f.2.2.2
  | .inr (.inl o) => o.2
  | .inr (.inr (_, _, f)) => f.2.2.2
set_option maxHeartbeats 8000000 in
theorem ix_exec_mono {S : ix_S} {q : ix_M} {i : Instr} {pc : Nat} {ls : ix_L} {st : List Value} {h : ix_H} {r : ix_R} (hr : ix_exec S q i pc ls st h = some r) : h.1 ≤ (ix_hp r).1 ∧ h.2.1 ≤ (ix_hp r).2.1 := by
  unfold ix_exec at hr
  split at hr
  all_goals (first | unfold ix_ldI at hr | unfold ix_ldL at hr | unfold ix_ldA at hr | unfold ix_stI at hr | unfold ix_stL at hr | unfold ix_stA at hr | unfold ix_gf at hr | unfold ix_pf at hr | unfold ix_al at hr | unfold ix_ia at hr | unfold ix_ba at hr | unfold ix_aa at hr | unfold ix_is at hr | unfold ix_bs at hr | unfold ix_as at hr | unfold ix_na at hr | unfold ix_nq at hr | unfold ix_no at hr | (unfold ix_call at hr; simp only at hr) | skip)
  all_goals (try unfold ix_goto at hr)
  all_goals (try unfold ix_br at hr)
  all_goals (repeat' split at hr)
  all_goals first
    | (cases hr; done)
    | (cases hr; exact ⟨Nat.le_refl _, Nat.le_refl _⟩)
    | (cases hr; exact ⟨Nat.le_succ _, Nat.le_add_right _ _⟩)
theorem ix_step_mono {S : ix_S} {q : ix_M} {f : ix_F} {r : ix_R} (hr : ix_step S q f = some r) : f.2.2.2.1 ≤ (ix_hp r).1 ∧ f.2.2.2.2.1 ≤ (ix_hp r).2.1 := by
  unfold ix_step at hr
  split at hr
  · exact ix_exec_mono hr
  · cases hr
theorem ix_run_mono {S : ix_S} {C : Nat → List Value → ix_H → ix_O → Prop} {q : ix_M} (hC : ∀ y as h o, C y as h o → h.1 ≤ o.2.1 ∧ h.2.1 ≤ o.2.2.1) : ∀ (n : Nat) (f : ix_F) (o : ix_O), ix_run S C q n f o → f.2.2.2.1 ≤ o.2.1 ∧ f.2.2.2.2.1 ≤ o.2.2.1 := by
  intro n
  induction n with
  | zero => intro f o h; exact h.elim
  | succ n ih =>
    intro f o h
    unfold ix_run at h
    split at h
    · exact h.elim
    · rename_i g hs
      have h1 := ix_step_mono hs
      have h2 := ih g o h
      exact ⟨Nat.le_trans h1.1 h2.1, Nat.le_trans h1.2 h2.2⟩
    · rename_i u hs
      have h1 := ix_step_mono hs
      subst h
      exact h1
    · rename_i y as pc ls st h' hs
      have h1 := ix_step_mono hs
      obtain ⟨v, h2, hc, hn⟩ := h
      have h3 := hC _ _ _ _ hc
      have h4 := ih _ o hn
      exact ⟨Nat.le_trans h1.1 (Nat.le_trans h3.1 h4.1), Nat.le_trans h1.2 (Nat.le_trans h3.2 h4.2)⟩
theorem ix_Ev_mono : ∀ (d y : Nat) (as : List Value) (h : ix_H) (o : ix_O), ix_Ev d y as h o → h.1 ≤ o.2.1 ∧ h.2.1 ≤ o.2.2.1 := by
  intro d
  induction d with
  | zero => intro y as h o z; exact z.elim
  | succ d ih =>
    intro y as h o z
    obtain ⟨q, n, -, -, hr⟩ := z
    exact ix_run_mono ih n _ o hr
def ix_HP (D : va_G) (b base : Nat) (aC : FieldType → ClassId) (h : ix_H) (H : Heap) : Prop := H.size = base + h.1 ∧ (∀ k, h.1 ≤ k → h.2.2 k = ix_no_) ∧ va_P D vwCl (ix_ws b base aC h) H
def ix_Pc (D : va_G) (b base : Nat) (aC : FieldType → ClassId) (as : List Value) (h : ix_H) : Array Value → State → Prop := fun a U => a = (as.map (ix_cv b base)).toArray ∧ ix_HP D b base aC h U.heap ∧ ix_K D aC U
def ix_Qc (D : va_G) (b base : Nat) (aC : FieldType → ClassId) (o : ix_O) : Array Value → State → Outcome → State → Prop := fun _ st oc t => oc = .returned (o.1.map (ix_cv b base)) ∧ ix_HP D b base aC o.2 t.heap ∧ va_F (ix_A base) st t
def ix_rm (d : Nat) (h : ix_H) (o : ix_O) : Room := { frames := d, cells := o.2.1 - h.1, slots := o.2.2.1 - h.2.1, locals := 38 * d }
def ix_Met (l : Launch) (D : va_G) (b base : Nat) (aC : FieldType → ClassId) (d y : Nat) (as : List Value) (h : ix_H) (o : ix_O) : Prop := ∃ q, mNs[y]? = some q ∧ Met l q.2.1 (.code q.2.1 q.2.2.1 q.2.2.2.1 q.2.2.2.2.1 :: ix_tb) (ix_rm d h o) (ix_Pc D b base aC as h) (ix_Qc D b base aC o) (o.2.1 - h.1) (o.2.2.1 - h.2.1) (ix_A base)
theorem ix_Pc_blind {D : va_G} {b base : Nat} {aC : FieldType → ClassId} {as : List Value} {h : ix_H} : FrameBlind (ix_Pc D b base aC as h) := fun _ _ _ _ z => ⟨z.1, z.2.1, z.2.2.calling⟩
section IXC
variable {p : Program} {l : Launch} {e : Env} {R : Room} {s : State} {m : MethodId} {args : Array Value} {below : List Frame} {meth : Method} {c : Code} {Q : State → Prop}
variable {D : va_G} {b base : Nat} {aC : FieldType → ClassId} {q : ix_M} {h0 : ix_H} {S : ix_S} {pc : Nat} {ls : ix_L} {st : List Value} {h : ix_H} {idx : Nat}
theorem ix_run_fin {H : Heap} {locs : List Loc} {la : Array Slot} {rest stk : List Value} {o : ix_O} {a' : Array Value} (hlo : h0.1 ≤ h.1 ∧ h0.2.1 ≤ h.2.1) (hmo : h.1 ≤ o.2.1 ∧ h.2.1 ≤ o.2.2.1) (hS : va_S (ix_A base) s.heap H locs) (hl : lv_has la q.2.2.2.1 (ls.map (ix_cp b base)))
    (hrun : va_Run p l e R s m args below meth c H locs (h.1 - h0.1) (h.2.1 - h0.2.1) (o.2.1 - h.1) (o.2.2.1 - h.2.1) (F0 m pc la stk) (rest.map (ix_cv b base)) (ix_Qc D b base aC o a') (ix_A base))
    (kk : ix_W p l e R s m args below meth c Q D b base aC q h0 (pc + 3, ls, o.1.toList ++ rest, o.2)) : W p l e R s m args below meth c H locs (h.1 - h0.1) (h.2.1 - h0.2.1) Q (F0 m pc la stk) := by
  intro T hT XX
  obtain ⟨v, st₀, t, T', L, z0, X', hL, e1, e2, ⟨hv, hrep, hF⟩, stp⟩ := hrun T hT XX
  cases hv
  rw [← e1] at hrep
  have hF1 : H.size ≤ T'.heap.size := by rw [e1, ← z0]; exact hF.1
  have hF2 : ∀ y : Nat, y < H.size → ¬ ix_A base y → T'.heap[y]? = H[y]? := by
    intro y y1 y2
    rw [e1, ← z0]
    exact hF.2 y (by rw [z0]; exact y1) y2
  have hI' : ix_I D b base aC s.heap o.2 T'.heap (locs ++ L) := by
    refine ⟨hrep.1, hrep.2.1, hrep.2.2, Nat.le_trans hS.1 hF1, fun y y1 y2 => ?_, fun y hy => ?_⟩
    · rw [hF2 y (Nat.lt_of_lt_of_le y1 hS.1) y2]
      exact hS.2.1 y y1 y2
    · rcases List.mem_append.mp hy with z | z
      · exact hS.2.2 y z
      · exact hL y z
  have k1 := kk T'.heap (locs ++ L) la hI' hl
  have k2 : W p l e R s m args below meth c T'.heap (locs ++ L) (h.1 - h0.1 + (o.2.1 - h.1)) (h.2.1 - h0.2.1 + (o.2.2.1 - h.2.1)) Q { (F0 m pc la stk) with pc := (F0 m pc la stk).pc + 3, stack := (o.1.map (ix_cv b base)).toList ++ rest.map (ix_cv b base) } := by
    refine W.cs (by show _ = o.2.1 - h0.1; omega) (by show _ = o.2.2.1 - h0.2.1; omega) (W.eq ?_ k1)
    show F0 m (pc + 3) la _ = F0 m (pc + 3) la _
    congr 1
    cases o.1 <;> simp
  obtain ⟨t2, a1, b1⟩ := k2 T' rfl X'
  exact ⟨t2, stp t2 a1, b1⟩
set_option maxHeartbeats 8000000 in
theorem ix_w_call (X : ix_X p R s m args meth c D b base aC q S) {i : Instr} {kd d y : Nat} {as : List Value} {g : ix_F} {o : ix_O} (hi : (kd = 0 ∧ i = .invokevirtual idx) ∨ (kd = 1 ∧ i = .invokestatic idx) ∨ (kd = 2 ∧ i = .invokespecial idx)) (hr : ix_call q.1 kd idx pc ls st h = some (.inr (.inr (y, as, g)))) (hd : decode q.2.2.1 pc = .ok (i, 3))
    (hM : ix_Met l D b base aC d y as h o) (hR : d + 1 ≤ R.frames ∧ 38 * d + 38 ≤ R.locals) (hlo : h0.1 ≤ h.1 ∧ h0.2.1 ≤ h.2.1) (hmo : h.1 ≤ o.2.1 ∧ h.2.1 ≤ o.2.2.1) (hhi : o.2.1 - h0.1 ≤ R.cells ∧ o.2.2.1 - h0.2.1 ≤ R.slots) (kk : ix_W p l e R s m args below meth c Q D b base aC q h0 (g.1, g.2.1, o.1.toList ++ g.2.2.1, o.2)) : ix_W p l e R s m args below meth c Q D b base aC q h0 (pc, ls, st, h) := by
  obtain ⟨hx, hb, -, hml, hown, hts, hK, hX, -⟩ := X
  intro H locs la hI hl
  unfold ix_call at hr
  split at hr
  · cases hr
  · rename_i nest y' i0 hm
    obtain ⟨-, -, -, m5⟩ := ix_mth_ok hm
    split at hr
    · split at hr
      · split at hr <;> cases hr
      · cases hr
    · rename_i n2
      split at hr
      · split at hr
        · split at hr <;> cases hr
        · cases hr
      · rename_i n3
        split at hr
        · split at hr
          · split at hr <;> cases hr
          · cases hr
        · rename_i n4
          split at hr
          · cases hr
          · rename_i qq hqq
            simp only at hr
            generalize hz : (if kd = 1 then 0 else 1 : Nat) = z1 at hr
            split at hr
            · rename_i hcond
              obtain ⟨hkd, hnp, hsum, hn1, hn01, hrcv⟩ := hcond
              cases hr
              obtain ⟨q1, hq1, hw⟩ := m5 n2 n3 n4
              obtain rfl : qq = q1 := Option.some.inj (hqq.symm.trans hq1)
              obtain ⟨q2, hq2, hMet⟩ := hM
              obtain rfl : qq = q2 := Option.some.inj (hqq.symm.trans hq2)
              have hmem := List.mem_of_getElem? hqq
              have hok := ix_mNs_ok _ hmem
              have hcn8 := of_decide_eq_true (List.all_eq_true.mp ix_mcn _ hmem)
              obtain ⟨cn, nm, cc, mL, rt, np, kd', T, ic, ii, isl⟩ := qq
              simp only [ix_mok, Bool.and_eq_true, decide_eq_true_eq] at hok
              obtain ⟨⟨⟨⟨⟨⟨⟨⟨⟨⟨⟨o1, o2⟩, o3⟩, o4⟩, o5⟩, o6⟩, o7⟩, o8⟩, o9⟩, o10⟩, o11⟩, o12⟩ := hok
              simp only at hkd hnp hsum hrcv hMet hw kk hcn8
              subst hkd
              have wcode : (Jvm.Cond.code nm cc mL rt).before args s = true := ix_word hts o1 rfl
              have wini : (Jvm.Cond.initialized nm.cls).before args s = true := ix_word hts o12 rfl
              have hG : GoodIn ix_tb (.code nm cc mL rt :: ix_tb) := by
                intro w hw
                rcases List.mem_cons.mp hw with rfl | hw
                · exact ⟨List.mem_filter.mpr ⟨List.mem_of_getElem? o1, rfl⟩, good_of_word rfl⟩
                · exact ix_tb_good w hw
              have hRR : (ix_rm d h o).frames + 1 ≤ R.frames ∧ 8 + (mL + 11) + (ix_rm d h o).locals ≤ R.locals := ⟨hR.1, by show 8 + (mL + 11) + 38 * d ≤ R.locals; omega⟩
              have hf : h.1 - h0.1 + (o.2.1 - h.1) ≤ R.cells ∧ h.2.1 - h0.2.1 + (o.2.2.1 - h.2.1) ≤ R.slots := ⟨by omega, by omega⟩
              have hHP : ix_HP D b base aC h H := ⟨hI.1, hI.2.1, hI.2.2.1⟩
              rcases hi with ⟨rfl, rfl⟩ | ⟨rfl, rfl⟩ | ⟨rfl, rfl⟩
              · -- virtual
                have hn0 : nest = 0 := by rcases hn01 with z | z; exact z; have := hn1 z; omega
                rw [if_pos hn0] at hw
                obtain rfl : 1 = z1 := hz
                simp only [Nat.zero_ne_one, false_or] at hrcv
                have hst : st = (st.take (np + 1)).reverse.reverse ++ st.drop (np + 1) := by rw [List.reverse_reverse, List.take_append_drop]
                have hlen : (st.take (np + 1)).reverse.length = np + 1 := by rw [List.length_reverse, List.length_take]; omega
                generalize (st.take (np + 1)).reverse = as at hrcv hMet hst hlen
                generalize st.drop (np + 1) = rest at hsum kk hst
                subst hst
                unfold ix_rcv at hrcv
                split at hrcv
                · rename_i a As
                  split at hrcv
                  · rename_i ci fs hcell
                    have hci : ci = cn := by simpa using hrcv
                    subst hci
                    have ha : a < h.1 := hI.lt (by
                      show h.2.2 a ≠ ix_no_
                      rw [hcell]
                      intro z
                      simp only [ix_no_, Sum.inr.injEq, Prod.mk.injEq] at z
                      omega)
                    have he : (ix_ws b base aC h)[a]? = some (base + a, .inr (ci, fs.map (ix_cv b base))) := by rw [ix_ws_get ha, hcell]; rfl
                    obtain ⟨r', hr', -⟩ := hI.2.2.1 a _ he
                    have c5 : ci ≤ 5 := by
                      have := (List.getElem?_eq_some_iff.mp hr').1
                      have h6 : vwCl.length = 6 := rfl
                      omega
                    obtain ⟨hc, -⟩ := ix_cls_facts ci c5
                    have wsel := o3 rfl
                    rw [show (if (0 : Nat) = 1 then Jvm.Cond.static nm else Jvm.Cond.instanceMethod nm) = Jvm.Cond.instanceMethod nm from rfl] at o2
                    refine ix_run_fin (rest := rest) (a' := (Value.ref (base + a) :: As.map (ix_cv b base)).toArray) hlo hmo hI.2.2.2 hl (va_runV (C := ix_RC ci) (b := base + a) (As := As.map (ix_cv b base)) (bytes := cc) (maxL := mL) (ret := rt) (n := np) ⟨hx, hb, hml, hown, hts⟩ hMet ⟨callB_of np hts hG rfl rfl rfl wini (ix_word hts hw rfl) ⟨o7.1, o7.2, o8⟩ hRR, ix_word hts o2 rfl, ix_word hts wsel rfl⟩ ⟨ix_Pc_blind, va_recv hK.1 hI.2.2.1 hc he, fun U hU hW => ⟨rfl, by rw [hU]; exact hHP, hK.warm hW⟩⟩ rfl (by rw [List.length_map]; simpa using hlen) hl.1 ?_ (lv_room (by rw [ix_sum_cv]; exact hsum)) hd hf) kk
                    simp [ix_cv]
                  · cases hrcv
                · cases hrcv
              · -- static
                have hn0 : nest = 0 := by rcases hn01 with z | z; exact z; have := hn1 z; omega
                rw [if_pos hn0] at hw
                obtain rfl : 0 = z1 := hz
                simp only [Nat.add_zero] at hnp hsum kk hMet
                have hst : st = (st.take np).reverse.reverse ++ st.drop np := by rw [List.reverse_reverse, List.take_append_drop]
                have hlen : (st.take np).reverse.length = np := by rw [List.length_reverse, List.length_take]; omega
                generalize (st.take np).reverse = as at hMet hst hlen
                generalize st.drop np = rest at hsum kk hst
                subst hst
                rw [show (if (1 : Nat) = 1 then Jvm.Cond.static nm else Jvm.Cond.instanceMethod nm) = Jvm.Cond.static nm from rfl] at o2
                refine ix_run_fin (rest := rest) (a' := (as.map (ix_cv b base)).toArray) hlo hmo hI.2.2.2 hl (va_runS (As := as.map (ix_cv b base)) (bytes := cc) (maxL := mL) (ret := rt) (n := np) ⟨hx, hb, hml, hown, hts⟩ hMet ⟨callB_of np hts hG rfl rfl rfl wini (ix_word hts hw rfl) ⟨o7.1, o7.2, o8⟩ hRR, ix_word hts o2 rfl⟩ ⟨ix_Pc_blind, fun U hU hW => ⟨rfl, by rw [hU]; exact hHP, hK.warm hW⟩⟩ rfl (by rw [List.length_map]; exact hlen) hl.1 ?_ (lv_room (by rw [ix_sum_cv]; exact hsum)) hd hf) kk
                simp
              · -- constructor
                obtain rfl : 1 = z1 := hz
                simp only [show ¬ ((2 : Nat) = 1) by decide, false_or] at hrcv
                have hst : st = (st.take (np + 1)).reverse.reverse ++ st.drop (np + 1) := by rw [List.reverse_reverse, List.take_append_drop]
                have hlen : (st.take (np + 1)).reverse.length = np + 1 := by rw [List.length_reverse, List.length_take]; omega
                generalize (st.take (np + 1)).reverse = as at hrcv hMet hst hlen
                generalize st.drop (np + 1) = rest at hsum kk hst
                subst hst
                obtain ⟨hnm, rfl⟩ := o9 rfl
                rw [show (if (2 : Nat) = 1 then Jvm.Cond.static nm else Jvm.Cond.instanceMethod nm) = Jvm.Cond.instanceMethod nm from rfl] at o2
                unfold ix_rcv at hrcv
                split at hrcv
                · rename_i a As
                  by_cases hn0 : nest = 0
                  · rw [if_pos hn0] at hw
                    refine ix_run_fin (rest := rest) (a' := (Value.ref (base + a) :: As.map (ix_cv b base)).toArray) hlo hmo hI.2.2.2 hl (va_runI (b := base + a) (As := As.map (ix_cv b base)) (bytes := cc) (maxL := mL) (n := np) ⟨hx, hb, hml, hown, hts⟩ hMet ⟨callB_of np hts hG rfl rfl rfl wini (ix_word hts hw rfl) ⟨o7.1, o7.2, o8⟩ hRR, hnm, ix_word hts o2 rfl⟩ ⟨ix_Pc_blind, fun U hU hW => ⟨rfl, by rw [hU]; exact hHP, hK.warm hW⟩⟩ rfl (by rw [List.length_map]; simpa using hlen) hl.1 ?_ (lv_room (by rw [ix_sum_cv]; exact hsum)) hd hf) kk
                    simp [ix_cv]
                  · rw [if_neg hn0] at hw
                    refine ix_run_fin (rest := rest) (a' := (Value.ref (base + a) :: As.map (ix_cv b base)).toArray) hlo hmo hI.2.2.2 hl (va_runIN (b := base + a) (As := As.map (ix_cv b base)) (bytes := cc) (maxL := mL) (n := np) ⟨hx, hb, hml, hown, hts⟩ hMet ⟨va_cnB np hts hG rfl rfl rfl (hK.2.1 _ (List.mem_filter.mpr ⟨List.mem_of_getElem? hw, rfl⟩)) wini ⟨o7.1, o7.2, o8⟩ hRR, hnm, ix_word hts o2 rfl⟩ ⟨ix_Pc_blind, fun U hU hW => ⟨rfl, by rw [hU]; exact hHP, hK.warm hW⟩⟩ rfl (by rw [List.length_map]; simpa using hlen) hl.1 ?_ (lv_room (by rw [ix_sum_cv]; exact hsum)) hd hf) kk
                    simp [ix_cv]
                · cases hrcv
            · cases hr
end IXC
end
section
/-! WHAT THE INTERPRETER COMES TO, THE MACHINE COMES TO -/
theorem ix_sl_len (b base : Nat) (as : List Value) : (lg_sl (as.map (ix_cv b base))).length = (lg_sl as).length := by
  induction as with
  | nil => rfl
  | cons v as ih =>
    have h1 : lg_sl (v :: as) = (if v.category = 2 then [.val v, .second] else [.val v]) ++ lg_sl as := rfl
    have h2 : lg_sl ((v :: as).map (ix_cv b base)) = (if (ix_cv b base v).category = 2 then [.val (ix_cv b base v), .second] else [.val (ix_cv b base v)]) ++ lg_sl (as.map (ix_cv b base)) := rfl
    rw [h1, h2, List.length_append, List.length_append, ih, ix_cv_cat]
    split <;> rfl
theorem ix_tln_ok {T : ix_T} {pc n : Nat} {i : Instr} (hT : ix_tln T = true) (h : (pc, i, n) ∈ T) : (∃ d lo hi offs, i = .tableswitch d lo hi offs) ∨ n = ix_len i := by
  have h1 := List.all_eq_true.mp hT _ h
  simp only at h1
  split at h1
  · exact Or.inl ⟨_, _, _, _, rfl⟩
  · exact Or.inr (by simpa using h1)
theorem ix_call_h {cn kd idx pc y : Nat} {ls : ix_L} {st as : List Value} {h : ix_H} {g : ix_F} (hr : ix_call cn kd idx pc ls st h = some (.inr (.inr (y, as, g)))) : g.2.2.2 = h := by
  unfold ix_call at hr
  simp only at hr
  repeat' split at hr
  all_goals first
    | (cases hr; done)
    | (cases hr; rfl)
set_option maxHeartbeats 8000000 in
theorem ix_exec_call {S : ix_S} {q : ix_M} {i : Instr} {pc : Nat} {ls : ix_L} {st : List Value} {h : ix_H} {w : Nat × List Value × ix_F} (hr : ix_exec S q i pc ls st h = some (.inr (.inr w))) : ∃ kd idx, ((kd = 0 ∧ i = .invokevirtual idx) ∨ (kd = 1 ∧ i = .invokestatic idx) ∨ (kd = 2 ∧ i = .invokespecial idx)) ∧ ix_call q.1 kd idx pc ls st h = some (.inr (.inr w)) := by
  unfold ix_exec at hr
  split at hr
  all_goals first
    | exact ⟨0, _, Or.inl ⟨rfl, rfl⟩, hr⟩
    | exact ⟨1, _, Or.inr (Or.inl ⟨rfl, rfl⟩), hr⟩
    | exact ⟨2, _, Or.inr (Or.inr ⟨rfl, rfl⟩), hr⟩
    | skip
  all_goals (first | unfold ix_ldI at hr | unfold ix_ldL at hr | unfold ix_ldA at hr | unfold ix_stI at hr | unfold ix_stL at hr | unfold ix_stA at hr | unfold ix_gf at hr | unfold ix_pf at hr | unfold ix_al at hr | unfold ix_ia at hr | unfold ix_ba at hr | unfold ix_aa at hr | unfold ix_is at hr | unfold ix_bs at hr | unfold ix_as at hr | unfold ix_na at hr | unfold ix_nq at hr | unfold ix_no at hr | skip)
  all_goals (try unfold ix_goto at hr)
  all_goals (try unfold ix_br at hr)
  all_goals (repeat' split at hr)
  all_goals (cases hr; done)
section IXM
variable {p : Program} {l : Launch} {e : Env} {R : Room} {s : State} {m : MethodId} {args : Array Value} {below : List Frame} {meth : Method} {c : Code} {Q : State → Prop}
variable {D : va_G} {b base : Nat} {aC : FieldType → ClassId} {q : ix_M} {h0 : ix_H} {S : ix_S}
/-- a run of the interpreter, with what its calls come to and its own end given -/
theorem ix_W_run (X : ix_X p R s m args meth c D b base aC q S) {d : Nat} (hM : ∀ (y : Nat) (as : List Value) (h : ix_H) (o : ix_O), ix_Ev d y as h o → ix_Met l D b base aC d y as h o) (hR : d + 1 ≤ R.frames ∧ 38 * d + 38 ≤ R.locals) {o : ix_O} (hhi : o.2.1 - h0.1 ≤ R.cells ∧ o.2.2.1 - h0.2.1 ≤ R.slots)
    (hret : ∀ f : ix_F, ix_step S q f = some (.inr (.inl o)) → ix_W p l e R s m args below meth c Q D b base aC q h0 f) :
    ∀ (n : Nat) (f : ix_F), ix_run S (ix_Ev d) q n f o → h0.1 ≤ f.2.2.2.1 ∧ h0.2.1 ≤ f.2.2.2.2.1 → ix_W p l e R s m args below meth c Q D b base aC q h0 f := by
  intro n
  induction n with
  | zero => intro f z; exact z.elim
  | succ n ih =>
    intro f z hlo
    unfold ix_run at z
    split at z
    · exact z.elim
    · rename_i g hs
      have hm := ix_step_mono hs
      have hm2 := ix_run_mono (ix_Ev_mono d) n g o z
      have kk := ih g z ⟨Nat.le_trans hlo.1 hm.1, Nat.le_trans hlo.2 hm.2⟩
      unfold ix_step at hs
      split at hs
      · rename_i i n' hat
        obtain ⟨hd, hmem⟩ := ix_dec X.2.2.2.2.2.2.2.2.2.2.1 hat
        have hn := ix_tln_ok X.2.2.2.2.2.2.2.2.2.2.2.1 hmem
        obtain ⟨pc, ls, st, h⟩ := f
        exact ix_w_exec X hs hd hn hlo ⟨by omega, by omega⟩ kk
      · cases hs
    · rename_i u hs
      subst z
      exact hret f hs
    · rename_i y as pc' ls' st' h' hs
      obtain ⟨v, h2, hc, hn⟩ := z
      have hm1 := ix_Ev_mono d _ _ _ _ hc
      have hm2 := ix_run_mono (ix_Ev_mono d) n _ o hn
      unfold ix_step at hs
      split at hs
      · rename_i i n' hat
        obtain ⟨hd, hmem⟩ := ix_dec X.2.2.2.2.2.2.2.2.2.2.1 hat
        have hnl := ix_tln_ok X.2.2.2.2.2.2.2.2.2.2.2.1 hmem
        obtain ⟨kd, idx, hi, hcall⟩ := ix_exec_call hs
        have hh : h' = f.2.2.2 := ix_call_h hcall
        subst hh
        have kk := ih _ hn ⟨Nat.le_trans hlo.1 hm1.1, Nat.le_trans hlo.2 hm1.2⟩
        have hn3 : n' = 3 := by
          rcases hi with ⟨-, rfl⟩ | ⟨-, rfl⟩ | ⟨-, rfl⟩ <;> (rcases hnl with ⟨_, _, _, _, z⟩ | z; cases z; exact z)
        subst hn3
        obtain ⟨pc, ls, st, h⟩ := f
        simp only at hm1 hm2 hlo
        exact ix_w_call X hi hcall hd (hM _ _ _ _ hc) hR hlo hm1 ⟨by have := hm2.1; show h2.1 - h0.1 ≤ R.cells; omega, by have := hm2.2; show h2.2.1 - h0.2.1 ≤ R.slots; omega⟩ kk
      · cases hs
theorem ix_w_ret (X : ix_X p R s m args meth c D b base aC q S) {f : ix_F} {o : ix_O} (hr : ix_step S q f = some (.inr (.inl o))) :
    ix_W p l e R s m args below meth c (MQ below (ix_Qc D b base aC o) args s (o.2.1 - h0.1) (o.2.2.1 - h0.2.1) (ix_A base)) D b base aC q h0 f := by
  unfold ix_step at hr
  split at hr
  · rename_i i n hat
    obtain ⟨hd, hmem⟩ := ix_dec X.2.2.2.2.2.2.2.2.2.2.1 hat
    have hnl := ix_tln_ok X.2.2.2.2.2.2.2.2.2.2.2.1 hmem
    obtain ⟨hx, hb, hret, -, -, -, -, -, -, hlk, -⟩ := X
    obtain ⟨pc, ls, st, h⟩ := f
    intro H locs la hI hl
    simp only at hr
    unfold ix_exec at hr
    split at hr
    all_goals (first | unfold ix_ldI at hr | unfold ix_ldL at hr | unfold ix_ldA at hr | unfold ix_stI at hr | unfold ix_stL at hr | unfold ix_stA at hr | unfold ix_gf at hr | unfold ix_pf at hr | unfold ix_al at hr | unfold ix_ia at hr | unfold ix_ba at hr | unfold ix_aa at hr | unfold ix_is at hr | unfold ix_bs at hr | unfold ix_as at hr | unfold ix_na at hr | unfold ix_nq at hr | unfold ix_no at hr | (unfold ix_call at hr; simp only at hr) | skip)
    all_goals (try unfold ix_goto at hr)
    all_goals (try unfold ix_br at hr)
    all_goals (repeat' split at hr)
    all_goals first
      | (cases hr; done)
      | skip
    · rename_i v ty hrt hok
      cases hr
      have hn1 : n = 1 := by rcases hnl with ⟨_, _, _, _, z⟩ | z; cases z; exact z
      subst hn1
      exact W.zret hx hb (hret.trans hrt) (ix_ok_fit (b := b) (base := base) hok).1 (fun t ht hW => ⟨rfl, by rw [ht]; exact ⟨hI.1, hI.2.1, hI.2.2.1⟩, hI.2.2.2.F ht⟩) hI.2.2.2.2.2 hd hlk
    · rename_i v C hrt
      cases hr
      have hn1 : n = 1 := by rcases hnl with ⟨_, _, _, _, z⟩ | z; cases z; exact z
      subst hn1
      exact W.aret hx hb (hret.trans hrt) (Or.inl ⟨_, rfl⟩) (Or.inr ⟨_, rfl⟩) (fun t ht hW => ⟨rfl, by rw [ht]; exact ⟨hI.1, hI.2.1, hI.2.2.1⟩, hI.2.2.2.F ht⟩) hI.2.2.2.2.2 hd hlk
    · rename_i hrt
      cases hr
      have hn1 : n = 1 := by rcases hnl with ⟨_, _, _, _, z⟩ | z; cases z; exact z
      subst hn1
      exact W.vret hx hb (hret.trans hrt) (fun t ht hW => ⟨rfl, by rw [ht]; exact ⟨hI.1, hI.2.1, hI.2.2.1⟩, hI.2.2.2.F ht⟩) hI.2.2.2.2.2 hd hlk
  · cases hr
end IXM
set_option maxHeartbeats 4000000 in
/-- THE INTERPRETER IS SOUND -/
theorem ix_sound (l : Launch) (D : va_G) (b base : Nat) (aC : FieldType → ClassId) : ∀ (d y : Nat) (as : List Value) (h : ix_H) (o : ix_O), ix_Ev d y as h o → ix_Met l D b base aC d y as h o := by
  intro d
  induction d with
  | zero => intro y as h o z; exact z.elim
  | succ d ih =>
    intro y as h o z
    have hmo := ix_Ev_mono _ _ _ _ _ z
    obtain ⟨q, n, hq, hlen, hrun⟩ := z
    refine ⟨q, hq, ?_⟩
    have hmem := List.mem_of_getElem? hq
    have hok := ix_mNs_ok _ hmem
    have htok := ix_mNs_tok _ hmem
    obtain ⟨cn, nm, cc, mL, rt, np, kd, T, ic, ii, isl⟩ := q
    simp only [ix_mok, Bool.and_eq_true, decide_eq_true_eq] at hok
    obtain ⟨⟨⟨⟨⟨⟨⟨⟨⟨⟨⟨o1, o2⟩, o3⟩, o4⟩, o5⟩, o6⟩, o7⟩, o8⟩, o9⟩, o10⟩, o11⟩, o12⟩ := hok
    simp only at htok hlen ⊢
    refine Met.ofW (cc := cc) (maxL := mL) (ret := rt) o5 rfl ?_
    intro p e s m args below meth c s₁ B hml hv
    obtain ⟨rfl, hHP, hK⟩ := hv
    have hts := atoms_spec (ws := .code nm cc mL rt :: ix_tb) B.pre
    have hown : s.vm.findClass nm.cls = some m.cls := findClass_of_methodNamed B.named
    have hname : meth.name = nm.name := (name_of_methodNamed B.named B.method).1
    have X : ix_X p (ix_rm (d + 1) h o) s m (as.map (ix_cv b base)).toArray meth c D b base aC (cn, nm, cc, mL, rt, np, kd, T, ic, ii, isl) none :=
      ⟨B.exec, B.bytes, B.returns, hml, by rw [← o4]; exact hown, fun w hw => hts w (List.mem_cons_of_mem _ hw), hK, fun L xs z => (by cases z), fun z => by rw [hname]; exact (o9 z).1, B.notSynchronized, htok, o11, Nat.succ_le_succ (Nat.zero_le d), by show 38 ≤ 38 * (d + 1); omega⟩
    rw [lg_entry_eq]
    have hl := lv_entry (as.map (ix_cv b base)) (n := mL) (by rw [ix_sl_len]; exact hlen)
    rw [ix_args_map] at hl
    have hW := ix_W_run (below := below) (e := e) (h0 := h) (Q := MQ below (ix_Qc D b base aC o) (as.map (ix_cv b base)).toArray s (o.2.1 - h.1) (o.2.2.1 - h.2.1) (ix_A base)) X (fun y as h o z => ih y as h o z) ⟨Nat.le_refl _, by show 38 * d + 38 ≤ 38 * (d + 1); omega⟩ (o := o) ⟨Nat.le_refl _, Nat.le_refl _⟩ (fun f hf => ix_w_ret X hf) n _ hrun ⟨Nat.le_refl _, Nat.le_refl _⟩
    have k1 := hW s.heap [] _ ⟨hHP.1, hHP.2.1, hHP.2.2, va_S.rf⟩ hl
    exact W.cs (by show 0 = h.1 - h.1; omega) (by show 0 = h.2.1 - h.2.1; omega) k1
end
section
/-! THE CLAIM OUT OF A RUN OF THE INTERPRETER -/
def mD_law : ix_M := (6, yL_law, cL_law, 4, some .boolean, 1, 1, mT_L_law, 0, 0, 0)
/-- WHAT IS LEFT TO PROVE, without the machine: the interpreter runs the law to its end, with 1, in the claim's room -/
def ix_claim : Prop := ∀ (L : Nat) (xs : Nat → Int32), L ≤ 3072 → ∃ (n : Nat) (hF : ix_H), ix_run (some (L, xs)) (ix_Ev 8) mD_law n (0, [(0, .retAddr 0)], [], (0, 0, fun _ => ix_no_)) (some (.int 1), hF) ∧ hF.1 ≤ 600000 ∧ hF.2.1 ≤ 7302250
/-! THE CLAIM OUT OF ONE WALK OF THE LAW'S BODY. Your part is whole_start (and what it stands on); all else here is the same for every law, but numbers. -/
def R_law : String := "OnceLedgerLaw"
def lw_P (b : Addr) (xs : List Int32) (args : Array Value) (s : State) : Prop := args = #[.ref b] ∧ s.IntsAt b xs ∧ xs.length ≤ 3072 ∧ (Jvm.Cond.and given_1 narrow_1).before args s = true
def lw_Q (_ : Array Value) (s : State) (o : Outcome) (t : State) : Prop := o = .returned (some (.int 1)) ∧ Framed s o t [] 600000 7302250
def lw_Z (below : List Frame) (a : Array Value) (s : State) : State → Prop := fun t => ∃ o, t.status = .running ∧ Ended t below o ∧ lw_Q a s o t
/-- the law's own end, with 1 on the stack, nothing written that was there before, its room as the claim has it -/
theorem lw_ret {p : Program} {l : Launch} {e : Env} {s : State} {m : MethodId} {below : List Frame} {meth : Method} {c : Code} {b : Nat} (hx : p.tables.exec = Jvm.exec) (hb : c.code = code) (hr : meth.sig.returnType = ret) (hlocks : meth.locks = false) {pc : Nat} {H : Heap} {ls : Array Slot} (hdg : decode code pc = .ok (.ireturn, 1)) : W p l e room_1 s m #[Value.ref b] below meth c H [] 600000 7302250 (lw_Z below #[Value.ref b] s) (F0 m pc ls [.int 1]) := by
  intro T hT X
  obtain ⟨fs, hret, hrun, hended, hW, hframe⟩ := X.leave (v := some (.int 1)) (hlocks := hlocks) (fun h => by rw [hr] at h; cases h)
  have hmeth' : T.vm.method? m = some meth := X.method'
  refine ⟨T.setFrames fs, ?_, .returned (some (.int 1)), hrun, hended, rfl, ⟨_, rfl⟩, hW, hframe⟩
  jvm_step X.here [X.here.top, hx, hb, hdg, hmeth', hr, ret, narrow_b1]
  (try refine ⟨rfl, ?_⟩); (try refine ⟨rfl, ?_⟩)
  first | (intro acts; rw [hret _ acts rfl rfl rfl]) | rw [hret _ _ rfl rfl rfl]
  exact Steps.refl _
/-- what holds at the law's entry: the machine, the code, the tables' words (any of lw_tbl by 'hts w (by decide +kernel)'), the script of L ints xs at the cell b, what the Statement gives of the start (any of its parts by flat_of_before) -/
def lw_At (p : Program) (s : State) (m : MethodId) (meth : Method) (c : Code) (b L : Nat) (xs : Nat → Int32) : Prop :=
  p.tables.exec = Jvm.exec ∧ c.code = code ∧ meth.sig.returnType = ret ∧ c.maxLocals = 4 ∧ s.vm.findClass R_law = some m.cls ∧ (∀ w ∈ lw_tbl, w.before #[Value.ref b] s = true) ∧ va_X b L xs s s.heap ∧ b < s.heap.size ∧ meth.locks = false ∧ (Jvm.Cond.and given_1 narrow_1).before #[Value.ref b] s = true
theorem mT_L_law_tln : ix_tln mT_L_law = true := by decide +kernel
theorem ix_law_ret {S : ix_S} {f : ix_F} {o : ix_O} {v : Int32} (ho : o.1 = some (.int v)) (hr : ix_step S mD_law f = some (.inr (.inl o))) : decode cL_law f.1 = .ok (.ireturn, 1) ∧ f.2.2.1 = [.int v] ∧ o.2 = f.2.2.2 := by
  unfold ix_step at hr
  split at hr
  · rename_i i n hat
    obtain ⟨hd, hmem⟩ := ix_dec (cc := cL_law) mT_L_law_ok hat
    have hnl := ix_tln_ok mT_L_law_tln hmem
    obtain ⟨pc, ls, st, h⟩ := f
    simp only at hr hd ⊢
    unfold ix_exec at hr
    split at hr
    all_goals (first | unfold ix_ldI at hr | unfold ix_ldL at hr | unfold ix_ldA at hr | unfold ix_stI at hr | unfold ix_stL at hr | unfold ix_stA at hr | unfold ix_gf at hr | unfold ix_pf at hr | unfold ix_al at hr | unfold ix_ia at hr | unfold ix_ba at hr | unfold ix_aa at hr | unfold ix_is at hr | unfold ix_bs at hr | unfold ix_as at hr | unfold ix_na at hr | unfold ix_nq at hr | unfold ix_no at hr | (unfold ix_call at hr; simp only at hr) | skip)
    all_goals (try unfold ix_goto at hr)
    all_goals (try unfold ix_br at hr)
    all_goals (repeat' split at hr)
    all_goals first
      | (cases hr; done)
      | skip
    · cases hr
      cases ho
      have hn1 : n = 1 := by rcases hnl with ⟨_, _, _, _, z⟩ | z; cases z; exact z
      subst hn1
      exact ⟨hd, rfl, rfl⟩
    · cases hr
      cases ho
    · cases hr
      cases ho
  · cases hr
set_option maxHeartbeats 4000000 in
theorem whole_start_of (hp : ix_claim) {p : Program} {e : Env} {s : State} {m : MethodId} {below : List Frame} {meth : Method} {c : Code} (l : Launch) {b L : Nat} {xs : Nat → Int32} (hL : L ≤ 3072) (C0 : lw_At p s m meth c b L xs) : W p l e room_1 s m #[Value.ref b] below meth c s.heap [] 0 0 (lw_Z below #[Value.ref b] s) (entryFrame m ([Value.ref b] : List Value).toArray 4) := by
  obtain ⟨hx, hb, hr, hml, hown, hts, hX, hbl, hlocks, hgv⟩ := id C0
  have hts' : ∀ w ∈ ix_tb, w.before #[Value.ref b] s = true := fun w hw => hts w (List.mem_filter.mp hw).1
  have hcl : ∀ ci, ci ≤ 5 → ∃ (cC : ClassId) (iS : Nat → Nat), u_Kn s (ix_RC ci) (ix_TT ci) (ix_NN ci) cC iS := fun ci h5 => u_known hts' (ix_cls_facts ci h5).2.1 (ix_word hts' (ix_ins_ok ci (by omega)).1 rfl)
  obtain ⟨dC, dI, hKc⟩ : ∃ (dC : Nat → ClassId) (dI : Nat → Nat → Nat), ∀ (k : Nat) (q : vw_C), vwCl[k]? = some q → u_Kn s q.1 q.2.1 q.2.2 (dC k) (dI k) := by
    refine ⟨fun k => if h : k ≤ 5 then (hcl k h).choose else 0, fun k => if h : k ≤ 5 then (hcl k h).choose_spec.choose else fun _ => 0, ?_⟩
    intro k q hq
    have h6 := (List.getElem?_eq_some_iff.mp hq).1
    have h7 : vwCl.length = 6 := rfl
    have h5 : k ≤ 5 := by omega
    rw [(ix_cls_facts k h5).1] at hq
    cases hq
    simp only [h5, dite_true]
    exact (hcl k h5).choose_spec.choose_spec
  have hprim : ∀ (i : Nat) (t : FieldType), lw_tbl[i]? = some (.arrayClass t) → (∀ cA, va_RA s cA t = (s.vm.findClass ("[" ++ t.toString) = some cA)) → ∃ cA : ClassId, ArrOfT s cA t ∧ va_RA s cA t := by
    intro i t hw hRA
    obtain ⟨cA, kA, comp, f1, f2, f3⟩ := Cond.arrayClass_spec (ix_word hts' hw rfl)
    exact ⟨cA, fun n z => ⟨fun k h => (by cases h), kA, f2, comp, f3⟩, by rw [hRA]; exact f1⟩
  have hAO : va_AO RX1 s ∧ va_AO RX2 s := ⟨va_AO.of (hts (.arrayOver (.object RX1)) (by decide +kernel)), va_AO.of (hts (.arrayOver (.object RX2)) (by decide +kernel))⟩
  have hobj : ∀ C : String, va_AO C s → ∃ cA : ClassId, ArrOfT s cA (.object C) ∧ va_RA s cA (.object C) := by
    intro C h
    obtain ⟨comp, cA, kA, f4, -, f2, f3, f1⟩ := Cond.arrayOver_spec h
    exact ⟨cA, fun n z => ⟨fun k h => (by cases h), kA, f2, comp, f3⟩, kA, comp, f2, f3, f4, f1⟩
  obtain ⟨w7, w8, w9⟩ := ix_mw_ok.2.2.2.2.2.2.2
  obtain ⟨a0, b0⟩ := hprim _ .int w7 (fun _ => rfl)
  obtain ⟨a1, b1⟩ := hprim _ .byte w8 (fun _ => rfl)
  obtain ⟨a2, b2⟩ := hprim _ .boolean w9 (fun _ => rfl)
  obtain ⟨a3, b3⟩ := hobj RX1 hAO.1
  obtain ⟨a4, b4⟩ := hobj RX2 hAO.2
  obtain ⟨aC, c0, c1, c2, c3, c4⟩ : ∃ aC : FieldType → ClassId, aC .int = a0 ∧ aC .byte = a1 ∧ aC .boolean = a2 ∧ aC (.object RX1) = a3 ∧ aC (.object RX2) = a4 := by
    refine ⟨fun t => if t = .int then a0 else if t = .byte then a1 else if t = .boolean then a2 else if t = .object RX1 then a3 else a4, rfl, rfl, rfl, ?_, ?_⟩
    · simp
    · simp [show ¬ (RX2 = RX1) by decide +kernel]
  have hK : ix_K (dC, dI) aC s := by
    refine ⟨⟨hKc, fun k q hq => ?_⟩, fun w hw => ?_, hAO⟩
    · unfold ix_tys at hq
      rw [c0, c1, c2, c3, c4] at hq
      match k, hq with
      | 0, hq => cases hq; exact b0
      | 1, hq => cases hq; exact b1
      | 2, hq => cases hq; exact b2
      | 3, hq => cases hq; exact b3
      | 4, hq => cases hq; exact b4
      | k + 5, hq => simp at hq
    · have h5 := hts w (List.mem_filter.mp hw).1
      have h6 := (List.mem_filter.mp hw).2
      cases w <;> first | (cases h6; done) | exact va_Nw.of rfl h5
  have X : ix_X p room_1 s m #[Value.ref b] meth c (dC, dI) b s.heap.size aC mD_law (some (L, xs)) :=
    ⟨hx, hb, hr, hml, hown, hts', hK, fun L' xs' z => (by cases z; exact ⟨hX, hbl, hbl⟩), fun z => absurd z (by decide), hlocks, mT_L_law_ok, mT_L_law_tln, by decide, by decide⟩
  obtain ⟨n, hF, hrun, hc, hs⟩ := hp L xs hL
  have hW := ix_W_run (l := l) (e := e) (below := below) (h0 := (0, 0, fun _ => ix_no_)) (Q := lw_Z below #[Value.ref b] s) X (d := 8) (ix_sound l (dC, dI) b s.heap.size aC 8) ⟨by decide, by decide⟩ (o := (some (.int 1), hF)) ⟨hc, hs⟩ (fun f hf => by
    obtain ⟨r1, r2, r3⟩ := ix_law_ret rfl hf
    intro H locs la hI hl
    rw [r2]
    refine va_forget hI.2.2.2.2.2 (W.widen (k := 600000) (n := 7302250) ?_ ?_ (lw_ret hx hb hr hlocks r1))
    · rw [← r3]; exact hc
    · rw [← r3]; exact hs) n _ hrun ⟨Nat.le_refl _, Nat.le_refl _⟩
  rw [lg_entry_eq]
  have hl := lv_entry ([.ref b]) (n := 4) (Nat.le_of_ble_eq_true rfl)
  exact hW s.heap [] _ ⟨rfl, fun _ _ => rfl, fun k q h => by simp [ix_ws] at h, va_S.rf⟩ hl
end
section
/-! RULES FOR RUNS OF THE INTERPRETER -/
def ix_rl (ls : ix_L) (r : ix_R) : ix_R := match r with
  | .inl (pc, _, st, h) => .inl (pc, ls, st, h)
  | .inr (.inl o) => .inr (.inl o)
  | .inr (.inr (y, as, (pc, _, st, h))) => .inr (.inr (y, as, (pc, ls, st, h)))
def ix_nd (ls : ix_L) : Prop := (ls.map (fun x => x.1)).Nodup
def ix_le (k l : ix_L) : Prop := ix_nd k ∧ ∀ i v, ix_get k i = some v → ix_get l i = some v
theorem ix_get_cons (i k : Nat) (v : Value) (l : ix_L) : ix_get ((i, v) :: l) k = if i = k then some v else ix_get l k := by
  unfold ix_get
  by_cases h : i = k
  · subst h; simp
  · have : (i == k) = false := by simpa using h
    simp [List.find?_cons, this, h]
theorem ix_get_filter {P : Nat × Value → Bool} {l : ix_L} {k : Nat} {v : Value} (h : ix_get l k = some v) (hp : P (k, v) = true) : ix_get (l.filter P) k = some v := by
  induction l with
  | nil => simp [ix_get] at h
  | cons x l ih =>
    obtain ⟨i, w⟩ := x
    rw [ix_get_cons] at h
    by_cases e : i = k
    · subst e
      rw [if_pos rfl] at h
      cases h
      rw [List.filter_cons_of_pos hp, ix_get_cons, if_pos rfl]
    · rw [if_neg e] at h
      by_cases hx : P (i, w) = true
      · rw [List.filter_cons_of_pos hx, ix_get_cons, if_neg e]
        exact ih h
      · rw [List.filter_cons_of_neg hx]
        exact ih h
theorem ix_get_filter' {P : Nat × Value → Bool} {l : ix_L} {k : Nat} {v : Value} (hn : ix_nd l) (h : ix_get (l.filter P) k = some v) : ix_get l k = some v ∧ P (k, v) = true := by
  induction l with
  | nil => simp [ix_get] at h
  | cons x l ih =>
    obtain ⟨i, w⟩ := x
    have hn2 : ix_nd l := (List.nodup_cons.mp hn).2
    have hni : i ∉ l.map (fun x => x.1) := (List.nodup_cons.mp hn).1
    by_cases hx : P (i, w) = true
    · rw [List.filter_cons_of_pos hx, ix_get_cons] at h
      rw [ix_get_cons]
      by_cases e : i = k
      · subst e
        rw [if_pos rfl] at h ⊢
        cases h
        exact ⟨rfl, hx⟩
      · rw [if_neg e] at h ⊢
        exact ih hn2 h
    · rw [List.filter_cons_of_neg hx] at h
      obtain ⟨h1, h2⟩ := ih hn2 h
      have hk : k ∈ l.map (fun x => x.1) := List.mem_map.mpr ⟨(k, v), ix_get_mem h1, rfl⟩
      have e : ¬ i = k := fun z => hni (z ▸ hk)
      rw [ix_get_cons, if_neg e]
      exact ⟨h1, h2⟩
theorem ix_nd_filter {P : Nat × Value → Bool} {l : ix_L} (hn : ix_nd l) : ix_nd (l.filter P) := List.Nodup.sublist (List.Sublist.map _ List.filter_sublist) hn
theorem ix_le_put1 {k l : ix_L} (h : ix_le k l) (i : Nat) (v : Value) : ix_le (ix_put1 k i v) (ix_put1 l i v) := by
  obtain ⟨hn, hg⟩ := h
  refine ⟨List.nodup_cons.mpr ⟨fun z => ?_, ix_nd_filter hn⟩, fun j w hj => ?_⟩
  · obtain ⟨x, hx, e⟩ := List.mem_map.mp z
    have := (List.mem_filter.mp hx).2
    simp [e] at this
  · unfold ix_put1 at hj ⊢
    rw [ix_get_cons] at hj ⊢
    by_cases e : i = j
    · rw [if_pos e] at hj ⊢; exact hj
    · rw [if_neg e] at hj ⊢
      obtain ⟨h1, h2⟩ := ix_get_filter' hn hj
      exact ix_get_filter (hg _ _ h1) h2
theorem ix_le_put2 {k l : ix_L} (h : ix_le k l) (i : Nat) (v : Value) : ix_le (ix_put2 k i v) (ix_put2 l i v) := by
  obtain ⟨hn, hg⟩ := h
  refine ⟨List.nodup_cons.mpr ⟨fun z => ?_, ix_nd_filter hn⟩, fun j w hj => ?_⟩
  · obtain ⟨x, hx, e⟩ := List.mem_map.mp z
    have := (List.mem_filter.mp hx).2
    simp [e] at this
  · unfold ix_put2 at hj ⊢
    rw [ix_get_cons] at hj ⊢
    by_cases e : i = j
    · rw [if_pos e] at hj ⊢; exact hj
    · rw [if_neg e] at hj ⊢
      obtain ⟨h1, h2⟩ := ix_get_filter' hn hj
      exact ix_get_filter (hg _ _ h1) h2
/-- results with fewer locals -/
def ix_lr (r r' : ix_R) : Prop := match r, r' with
  | .inl (pc, ls, st, h), .inl (pc', ls', st', h') => pc = pc' ∧ ix_le ls ls' ∧ st = st' ∧ h = h'
  | .inr (.inl o), .inr (.inl o') => o = o'
  | .inr (.inr (y, as, (pc, ls, st, h))), .inr (.inr (y', as', (pc', ls', st', h'))) => y = y' ∧ as = as' ∧ pc = pc' ∧ ix_le ls ls' ∧ st = st' ∧ h = h'
  | _, _ => False
theorem ix_lr_rl {k l : ix_L} (h : ix_le k l) {x : Option ix_R} {y : Option ix_R} {r : ix_R} (hx : x = some r) (hy : y = x.map (ix_rl l)) (hr : ix_rl k r = r) : ∃ r', y = some r' ∧ ix_lr r r' := by
  subst hx
  refine ⟨_, hy, ?_⟩
  rcases r with ⟨pc, ls, st, hh⟩ | o | ⟨y', as, pc, ls, st, hh⟩
  · cases hr; exact ⟨rfl, h, rfl, rfl⟩
  · rfl
  · cases hr; exact ⟨rfl, rfl, rfl, h, rfl, rfl⟩
end
section
/-! MORE LOCALS DO NO HARM -/
set_option maxHeartbeats 2000000 in
theorem ix_goto_rl (pc : Nat) (off : Int) (k l : ix_L) (st : List Value) (h : ix_H) : ix_goto pc off l st h = (ix_goto pc off k st h).map (ix_rl l) := by
  unfold ix_goto
  repeat' split
  all_goals first | rfl | simp_all [ix_rl]
set_option maxHeartbeats 2000000 in
theorem ix_br_rl (b : Bool) (pc : Nat) (off : Int) (k l : ix_L) (st : List Value) (h : ix_H) : ix_br b pc off l st h = (ix_br b pc off k st h).map (ix_rl l) := by
  unfold ix_br
  repeat' split
  all_goals first | rfl | simp_all [ix_rl]
set_option maxHeartbeats 2000000 in
theorem ix_gf_rl (cn idx pc : Nat) (k l : ix_L) (st : List Value) (h : ix_H) : ix_gf cn idx pc l st h = (ix_gf cn idx pc k st h).map (ix_rl l) := by
  unfold ix_gf
  repeat' split
  all_goals first | rfl | simp_all [ix_rl]
set_option maxHeartbeats 2000000 in
theorem ix_pf_rl (cn kd idx pc : Nat) (k l : ix_L) (st : List Value) (h : ix_H) : ix_pf cn kd idx pc l st h = (ix_pf cn kd idx pc k st h).map (ix_rl l) := by
  unfold ix_pf
  repeat' split
  all_goals first | rfl | simp_all [ix_rl]
set_option maxHeartbeats 2000000 in
theorem ix_al_rl (S : ix_S) (pc : Nat) (k l : ix_L) (st : List Value) (h : ix_H) : ix_al S pc l st h = (ix_al S pc k st h).map (ix_rl l) := by
  unfold ix_al
  repeat' split
  all_goals first | rfl | simp_all [ix_rl]
set_option maxHeartbeats 2000000 in
theorem ix_ia_rl (S : ix_S) (pc : Nat) (k l : ix_L) (st : List Value) (h : ix_H) : ix_ia S pc l st h = (ix_ia S pc k st h).map (ix_rl l) := by
  unfold ix_ia
  repeat' split
  all_goals first | rfl | simp_all [ix_rl]
set_option maxHeartbeats 2000000 in
theorem ix_ba_rl (pc : Nat) (k l : ix_L) (st : List Value) (h : ix_H) : ix_ba pc l st h = (ix_ba pc k st h).map (ix_rl l) := by
  unfold ix_ba
  repeat' split
  all_goals first | rfl | simp_all [ix_rl]
set_option maxHeartbeats 2000000 in
theorem ix_aa_rl (pc : Nat) (k l : ix_L) (st : List Value) (h : ix_H) : ix_aa pc l st h = (ix_aa pc k st h).map (ix_rl l) := by
  unfold ix_aa
  repeat' split
  all_goals first | rfl | simp_all [ix_rl]
set_option maxHeartbeats 2000000 in
theorem ix_is_rl (pc : Nat) (k l : ix_L) (st : List Value) (h : ix_H) : ix_is pc l st h = (ix_is pc k st h).map (ix_rl l) := by
  unfold ix_is
  repeat' split
  all_goals first | rfl | simp_all [ix_rl]
set_option maxHeartbeats 2000000 in
theorem ix_bs_rl (pc : Nat) (k l : ix_L) (st : List Value) (h : ix_H) : ix_bs pc l st h = (ix_bs pc k st h).map (ix_rl l) := by
  unfold ix_bs
  repeat' split
  all_goals first | rfl | simp_all [ix_rl]
set_option maxHeartbeats 2000000 in
theorem ix_as_rl (pc : Nat) (k l : ix_L) (st : List Value) (h : ix_H) : ix_as pc l st h = (ix_as pc k st h).map (ix_rl l) := by
  unfold ix_as
  repeat' split
  all_goals first | rfl | simp_all [ix_rl]
set_option maxHeartbeats 2000000 in
theorem ix_na_rl (ty : FieldType) (pc : Nat) (k l : ix_L) (st : List Value) (h : ix_H) : ix_na ty pc l st h = (ix_na ty pc k st h).map (ix_rl l) := by
  unfold ix_na
  repeat' split
  all_goals first | rfl | simp_all [ix_rl]
set_option maxHeartbeats 2000000 in
theorem ix_nq_rl (cn idx pc : Nat) (k l : ix_L) (st : List Value) (h : ix_H) : ix_nq cn idx pc l st h = (ix_nq cn idx pc k st h).map (ix_rl l) := by
  unfold ix_nq
  repeat' split
  all_goals first | rfl | simp_all [ix_rl]
set_option maxHeartbeats 2000000 in
theorem ix_no_rl (cn idx pc : Nat) (k l : ix_L) (st : List Value) (h : ix_H) : ix_no cn idx pc l st h = (ix_no cn idx pc k st h).map (ix_rl l) := by
  unfold ix_no
  repeat' split
  all_goals first | rfl | simp_all [ix_rl]
set_option maxHeartbeats 2000000 in
theorem ix_call_rl (cn kd idx pc : Nat) (k l : ix_L) (st : List Value) (h : ix_H) : ix_call cn kd idx pc l st h = (ix_call cn kd idx pc k st h).map (ix_rl l) := by
  unfold ix_call
  simp only
  repeat' split
  all_goals first | rfl | simp_all [ix_rl]
def ix_loc : Instr → Bool
  | .iload _ => true | .iload_n _ => true | .lload _ => true | .lload_n _ => true | .aload _ => true | .aload_n _ => true
  | .istore _ => true | .istore_n _ => true | .lstore _ => true | .lstore_n _ => true | .astore _ => true | .astore_n _ => true
  | .iinc _ _ => true | _ => false
set_option maxHeartbeats 8000000 in
theorem ix_exec_rl (S : ix_S) (q : ix_M) (i : Instr) (pc : Nat) (k l : ix_L) (st : List Value) (h : ix_H) (hi : ix_loc i = false) : ix_exec S q i pc l st h = (ix_exec S q i pc k st h).map (ix_rl l) := by
  cases i
  all_goals first
    | exact absurd (show true = false from hi) (by decide)
    | exact ix_goto_rl _ _ k l st h
    | exact ix_gf_rl _ _ _ k l st h
    | exact ix_pf_rl _ _ _ _ k l st h
    | exact ix_al_rl _ _ k l st h
    | exact ix_ia_rl _ _ k l st h
    | exact ix_ba_rl _ k l st h
    | exact ix_aa_rl _ k l st h
    | exact ix_is_rl _ k l st h
    | exact ix_bs_rl _ k l st h
    | exact ix_as_rl _ k l st h
    | exact ix_na_rl _ _ k l st h
    | exact ix_nq_rl _ _ _ k l st h
    | exact ix_no_rl _ _ _ k l st h
    | exact ix_call_rl _ _ _ _ k l st h
    | (show (match ix_pure _ st with | some st' => _ | none => none) = _; cases ix_pure _ st <;> rfl)
    | (simp only [ix_exec]; split <;> first | rfl | exact ix_br_rl _ _ _ k l _ h)
    | (simp only [ix_exec]; repeat' split) <;> first | rfl | exact ix_goto_rl _ _ k l _ h | simp_all [ix_rl]

theorem ix_exec_le {S : ix_S} {q : ix_M} {i : Instr} {pc : Nat} {k l : ix_L} {st : List Value} {h : ix_H} {r : ix_R} (hle : ix_le k l) (hr : ix_exec S q i pc k st h = some r) : ∃ r', ix_exec S q i pc l st h = some r' ∧ ix_lr r r' := by
  by_cases hi : ix_loc i = false
  · refine ix_lr_rl hle hr (ix_exec_rl S q i pc k l st h hi) ?_
    have h1 := ix_exec_rl S q i pc k k st h hi
    rw [hr] at h1
    exact (Option.some.inj h1).symm
  · skip
    cases i
    all_goals first
      | exact absurd (show false = false from rfl) hi
      | skip
    case iload x =>
      show ∃ r', ix_ldI pc 2 l st h x = some r' ∧ ix_lr r r'
      replace hr : ix_ldI pc 2 k st h x = some r := hr
      unfold ix_ldI at hr ⊢
      split at hr
      · rename_i v hv; cases hr; rw [hle.2 _ _ hv]; exact ⟨_, rfl, rfl, hle, rfl, rfl⟩
      · cases hr
    case iload_n x =>
      show ∃ r', ix_ldI pc 1 l st h x = some r' ∧ ix_lr r r'
      replace hr : ix_ldI pc 1 k st h x = some r := hr
      unfold ix_ldI at hr ⊢
      split at hr
      · rename_i v hv; cases hr; rw [hle.2 _ _ hv]; exact ⟨_, rfl, rfl, hle, rfl, rfl⟩
      · cases hr
    case lload x =>
      show ∃ r', ix_ldL pc 2 l st h x = some r' ∧ ix_lr r r'
      replace hr : ix_ldL pc 2 k st h x = some r := hr
      unfold ix_ldL at hr ⊢
      split at hr
      · rename_i v hv; cases hr; rw [hle.2 _ _ hv]; exact ⟨_, rfl, rfl, hle, rfl, rfl⟩
      · cases hr
    case lload_n x =>
      show ∃ r', ix_ldL pc 1 l st h x = some r' ∧ ix_lr r r'
      replace hr : ix_ldL pc 1 k st h x = some r := hr
      unfold ix_ldL at hr ⊢
      split at hr
      · rename_i v hv; cases hr; rw [hle.2 _ _ hv]; exact ⟨_, rfl, rfl, hle, rfl, rfl⟩
      · cases hr
    case aload x =>
      show ∃ r', ix_ldA pc 2 l st h x = some r' ∧ ix_lr r r'
      replace hr : ix_ldA pc 2 k st h x = some r := hr
      unfold ix_ldA at hr ⊢
      split at hr
      · rename_i v hv; cases hr; rw [hle.2 _ _ hv]; exact ⟨_, rfl, rfl, hle, rfl, rfl⟩
      · rename_i v hv; cases hr; rw [hle.2 _ _ hv]; exact ⟨_, rfl, rfl, hle, rfl, rfl⟩
      · cases hr
    case aload_n x =>
      show ∃ r', ix_ldA pc 1 l st h x = some r' ∧ ix_lr r r'
      replace hr : ix_ldA pc 1 k st h x = some r := hr
      unfold ix_ldA at hr ⊢
      split at hr
      · rename_i v hv; cases hr; rw [hle.2 _ _ hv]; exact ⟨_, rfl, rfl, hle, rfl, rfl⟩
      · rename_i v hv; cases hr; rw [hle.2 _ _ hv]; exact ⟨_, rfl, rfl, hle, rfl, rfl⟩
      · cases hr
    case istore x =>
      show ∃ r', ix_stI _ pc 2 l st h x = some r' ∧ ix_lr r r'
      replace hr : ix_stI _ pc 2 k st h x = some r := hr
      unfold ix_stI at hr ⊢
      split at hr
      · split at hr
        · rename_i hk; cases hr; simp only [hk, if_true]; exact ⟨_, rfl, rfl, ix_le_put1 hle _ _, rfl, rfl⟩
        · cases hr
      · cases hr
    case istore_n x =>
      show ∃ r', ix_stI _ pc 1 l st h x = some r' ∧ ix_lr r r'
      replace hr : ix_stI _ pc 1 k st h x = some r := hr
      unfold ix_stI at hr ⊢
      split at hr
      · split at hr
        · rename_i hk; cases hr; simp only [hk, if_true]; exact ⟨_, rfl, rfl, ix_le_put1 hle _ _, rfl, rfl⟩
        · cases hr
      · cases hr
    case lstore x =>
      show ∃ r', ix_stL _ pc 2 l st h x = some r' ∧ ix_lr r r'
      replace hr : ix_stL _ pc 2 k st h x = some r := hr
      unfold ix_stL at hr ⊢
      split at hr
      · split at hr
        · rename_i hk; cases hr; simp only [hk, if_true]; exact ⟨_, rfl, rfl, ix_le_put2 hle _ _, rfl, rfl⟩
        · cases hr
      · cases hr
    case lstore_n x =>
      show ∃ r', ix_stL _ pc 1 l st h x = some r' ∧ ix_lr r r'
      replace hr : ix_stL _ pc 1 k st h x = some r := hr
      unfold ix_stL at hr ⊢
      split at hr
      · split at hr
        · rename_i hk; cases hr; simp only [hk, if_true]; exact ⟨_, rfl, rfl, ix_le_put2 hle _ _, rfl, rfl⟩
        · cases hr
      · cases hr
    case astore x =>
      show ∃ r', ix_stA _ pc 2 l st h x = some r' ∧ ix_lr r r'
      replace hr : ix_stA _ pc 2 k st h x = some r := hr
      unfold ix_stA at hr ⊢
      split at hr
      · split at hr
        · rename_i hk; cases hr; simp only [hk, if_true]; exact ⟨_, rfl, rfl, ix_le_put1 hle _ _, rfl, rfl⟩
        · cases hr
      · cases hr
    case astore_n x =>
      show ∃ r', ix_stA _ pc 1 l st h x = some r' ∧ ix_lr r r'
      replace hr : ix_stA _ pc 1 k st h x = some r := hr
      unfold ix_stA at hr ⊢
      split at hr
      · split at hr
        · rename_i hk; cases hr; simp only [hk, if_true]; exact ⟨_, rfl, rfl, ix_le_put1 hle _ _, rfl, rfl⟩
        · cases hr
      · cases hr
    case iinc x c =>
      simp only [ix_exec] at hr ⊢
      split at hr
      · rename_i v hv
        split at hr
        · rename_i hk
          cases hr
          rw [hle.2 _ _ hv]
          simp only [hk, if_true]
          exact ⟨_, rfl, rfl, ix_le_put1 hle _ _, rfl, rfl⟩
        · cases hr
      · cases hr
theorem ix_step_le {S : ix_S} {q : ix_M} {pc : Nat} {k l : ix_L} {st : List Value} {h : ix_H} {r : ix_R} (hle : ix_le k l) (hr : ix_step S q (pc, k, st, h) = some r) : ∃ r', ix_step S q (pc, l, st, h) = some r' ∧ ix_lr r r' := by
  unfold ix_step at hr ⊢
  simp only at hr ⊢
  split at hr
  · exact ix_exec_le hle hr
  · cases hr
theorem ix_run_le {S : ix_S} {C : Nat → List Value → ix_H → ix_O → Prop} {q : ix_M} {o : ix_O} : ∀ (n pc : Nat) (k l : ix_L) (st : List Value) (h : ix_H), ix_le k l → ix_run S C q n (pc, k, st, h) o → ix_run S C q n (pc, l, st, h) o := by
  intro n
  induction n with
  | zero => intro pc k l st h _ z; exact z.elim
  | succ n ih =>
    intro pc k l st h hle z
    unfold ix_run at z ⊢
    split at z
    · exact z.elim
    · rename_i g hs
      obtain ⟨r', hr', hlr⟩ := ix_step_le hle hs
      rw [hr']
      obtain ⟨pc1, k1, st1, h1⟩ := g
      rcases r' with ⟨pc2, l2, st2, h2⟩ | r' | r'
      · obtain ⟨rfl, hl, rfl, rfl⟩ := hlr
        exact ih _ _ _ _ _ hl z
      · exact hlr.elim
      · exact hlr.elim
    · rename_i u hs
      obtain ⟨r', hr', hlr⟩ := ix_step_le hle hs
      rw [hr']
      rcases r' with r' | o' | r'
      · exact hlr.elim
      · exact (hlr : u = o').symm.trans z
      · exact hlr.elim
    · rename_i y as pc1 k1 st1 h1 hs
      obtain ⟨r', hr', hlr⟩ := ix_step_le hle hs
      rw [hr']
      rcases r' with r' | o' | ⟨y2, as2, pc2, l2, st2, h2⟩
      · exact hlr.elim
      · exact hlr.elim
      · obtain ⟨rfl, rfl, rfl, hl, rfl, rfl⟩ := hlr
        obtain ⟨v, h', hc, hn⟩ := z
        exact ⟨v, h', hc, ih _ _ _ _ _ hl hn⟩
end
section
/-! ROWS READ OFF THE TABLES, written by wip/gen/atlemmas.py -/
theorem a_X0_init_0 : ix_at mT_X0_init 0 = some (.aload_n 0, 1) := by decide +kernel
theorem a_X0_init_1 : ix_at mT_X0_init 1 = some (.invokespecial 3, 3) := by decide +kernel
theorem a_X0_init_4 : ix_at mT_X0_init 4 = some (.aload_n 0, 1) := by decide +kernel
theorem a_X0_init_5 : ix_at mT_X0_init 5 = some (.iload_n 1, 1) := by decide +kernel
theorem a_X0_init_6 : ix_at mT_X0_init 6 = some (.iconst 0, 1) := by decide +kernel
theorem a_X0_init_7 : ix_at mT_X0_init 7 = some (.invokestatic 9, 3) := by decide +kernel
theorem a_X0_init_10 : ix_at mT_X0_init 10 = some (.newarray .byte, 2) := by decide +kernel
theorem a_X0_init_12 : ix_at mT_X0_init 12 = some (.putfield 15, 3) := by decide +kernel
theorem a_X0_init_15 : ix_at mT_X0_init 15 = some (.return_, 1) := by decide +kernel
theorem a_X0_clear_0 : ix_at mT_X0_clear 0 = some (.aload_n 0, 1) := by decide +kernel
theorem a_X0_clear_1 : ix_at mT_X0_clear 1 = some (.iconst 0, 1) := by decide +kernel
theorem a_X0_clear_2 : ix_at mT_X0_clear 2 = some (.putfield 21, 3) := by decide +kernel
theorem a_X0_clear_5 : ix_at mT_X0_clear 5 = some (.return_, 1) := by decide +kernel
theorem a_X0_cutTo_0 : ix_at mT_X0_cutTo 0 = some (.iload_n 1, 1) := by decide +kernel
theorem a_X0_cutTo_1 : ix_at mT_X0_cutTo 1 = some (.ifCond .lt 16, 3) := by decide +kernel
theorem a_X0_cutTo_4 : ix_at mT_X0_cutTo 4 = some (.iload_n 1, 1) := by decide +kernel
theorem a_X0_cutTo_5 : ix_at mT_X0_cutTo 5 = some (.aload_n 0, 1) := by decide +kernel
theorem a_X0_cutTo_6 : ix_at mT_X0_cutTo 6 = some (.getfield 21, 3) := by decide +kernel
theorem a_X0_cutTo_9 : ix_at mT_X0_cutTo 9 = some (.if_icmp .ge 8, 3) := by decide +kernel
theorem a_X0_cutTo_12 : ix_at mT_X0_cutTo 12 = some (.aload_n 0, 1) := by decide +kernel
theorem a_X0_cutTo_13 : ix_at mT_X0_cutTo 13 = some (.iload_n 1, 1) := by decide +kernel
theorem a_X0_cutTo_14 : ix_at mT_X0_cutTo 14 = some (.putfield 21, 3) := by decide +kernel
theorem a_X0_cutTo_17 : ix_at mT_X0_cutTo 17 = some (.return_, 1) := by decide +kernel
theorem a_X0_at_0 : ix_at mT_X0_at 0 = some (.iload_n 1, 1) := by decide +kernel
theorem a_X0_at_1 : ix_at mT_X0_at 1 = some (.ifCond .lt 24, 3) := by decide +kernel
theorem a_X0_at_4 : ix_at mT_X0_at 4 = some (.iload_n 1, 1) := by decide +kernel
theorem a_X0_at_5 : ix_at mT_X0_at 5 = some (.aload_n 0, 1) := by decide +kernel
theorem a_X0_at_6 : ix_at mT_X0_at 6 = some (.getfield 21, 3) := by decide +kernel
theorem a_X0_at_9 : ix_at mT_X0_at 9 = some (.if_icmp .ge 16, 3) := by decide +kernel
theorem a_X0_at_12 : ix_at mT_X0_at 12 = some (.aload_n 0, 1) := by decide +kernel
theorem a_X0_at_13 : ix_at mT_X0_at 13 = some (.getfield 15, 3) := by decide +kernel
theorem a_X0_at_16 : ix_at mT_X0_at 16 = some (.iload_n 1, 1) := by decide +kernel
theorem a_X0_at_17 : ix_at mT_X0_at 17 = some (.baload, 1) := by decide +kernel
theorem a_X0_at_18 : ix_at mT_X0_at 18 = some (.sipush 255, 3) := by decide +kernel
theorem a_X0_at_21 : ix_at mT_X0_at 21 = some (.iand, 1) := by decide +kernel
theorem a_X0_at_22 : ix_at mT_X0_at 22 = some (.goto 4, 3) := by decide +kernel
theorem a_X0_at_25 : ix_at mT_X0_at 25 = some (.iconst (-1), 1) := by decide +kernel
theorem a_X0_at_26 : ix_at mT_X0_at 26 = some (.ireturn, 1) := by decide +kernel
theorem a_X0_add_0 : ix_at mT_X0_add 0 = some (.aload_n 0, 1) := by decide +kernel
theorem a_X0_add_1 : ix_at mT_X0_add 1 = some (.getfield 21, 3) := by decide +kernel
theorem a_X0_add_4 : ix_at mT_X0_add 4 = some (.aload_n 0, 1) := by decide +kernel
theorem a_X0_add_5 : ix_at mT_X0_add 5 = some (.getfield 15, 3) := by decide +kernel
theorem a_X0_add_8 : ix_at mT_X0_add 8 = some (.arraylength, 1) := by decide +kernel
theorem a_X0_add_9 : ix_at mT_X0_add 9 = some (.if_icmp .ge 24, 3) := by decide +kernel
theorem a_X0_add_12 : ix_at mT_X0_add 12 = some (.aload_n 0, 1) := by decide +kernel
theorem a_X0_add_13 : ix_at mT_X0_add 13 = some (.getfield 15, 3) := by decide +kernel
theorem a_X0_add_16 : ix_at mT_X0_add 16 = some (.aload_n 0, 1) := by decide +kernel
theorem a_X0_add_17 : ix_at mT_X0_add 17 = some (.getfield 21, 3) := by decide +kernel
theorem a_X0_add_20 : ix_at mT_X0_add 20 = some (.iload_n 1, 1) := by decide +kernel
theorem a_X0_add_21 : ix_at mT_X0_add 21 = some (.i2b, 1) := by decide +kernel
theorem a_X0_add_22 : ix_at mT_X0_add 22 = some (.bastore, 1) := by decide +kernel
theorem a_X0_add_23 : ix_at mT_X0_add 23 = some (.aload_n 0, 1) := by decide +kernel
theorem a_X0_add_24 : ix_at mT_X0_add 24 = some (.dup, 1) := by decide +kernel
theorem a_X0_add_25 : ix_at mT_X0_add 25 = some (.getfield 21, 3) := by decide +kernel
theorem a_X0_add_28 : ix_at mT_X0_add 28 = some (.iconst 1, 1) := by decide +kernel
theorem a_X0_add_29 : ix_at mT_X0_add 29 = some (.iadd, 1) := by decide +kernel
theorem a_X0_add_30 : ix_at mT_X0_add 30 = some (.putfield 21, 3) := by decide +kernel
theorem a_X0_add_33 : ix_at mT_X0_add 33 = some (.return_, 1) := by decide +kernel
theorem a_X0_addNumber_0 : ix_at mT_X0_addNumber 0 = some (.bipush 8, 2) := by decide +kernel
theorem a_X0_addNumber_2 : ix_at mT_X0_addNumber 2 = some (.iload_n 2, 1) := by decide +kernel
theorem a_X0_addNumber_3 : ix_at mT_X0_addNumber 3 = some (.iconst 1, 1) := by decide +kernel
theorem a_X0_addNumber_4 : ix_at mT_X0_addNumber 4 = some (.isub, 1) := by decide +kernel
theorem a_X0_addNumber_5 : ix_at mT_X0_addNumber 5 = some (.imul, 1) := by decide +kernel
theorem a_X0_addNumber_6 : ix_at mT_X0_addNumber 6 = some (.istore_n 3, 1) := by decide +kernel
theorem a_X0_addNumber_7 : ix_at mT_X0_addNumber 7 = some (.iload_n 3, 1) := by decide +kernel
theorem a_X0_addNumber_8 : ix_at mT_X0_addNumber 8 = some (.ifCond .lt 16, 3) := by decide +kernel
theorem a_X0_addNumber_11 : ix_at mT_X0_addNumber 11 = some (.aload_n 0, 1) := by decide +kernel
theorem a_X0_addNumber_12 : ix_at mT_X0_addNumber 12 = some (.iload_n 1, 1) := by decide +kernel
theorem a_X0_addNumber_13 : ix_at mT_X0_addNumber 13 = some (.iload_n 3, 1) := by decide +kernel
theorem a_X0_addNumber_14 : ix_at mT_X0_addNumber 14 = some (.iushr, 1) := by decide +kernel
theorem a_X0_addNumber_15 : ix_at mT_X0_addNumber 15 = some (.invokevirtual 25, 3) := by decide +kernel
theorem a_X0_addNumber_18 : ix_at mT_X0_addNumber 18 = some (.iinc 3 (-8), 3) := by decide +kernel
theorem a_X0_addNumber_21 : ix_at mT_X0_addNumber 21 = some (.goto (-14), 3) := by decide +kernel
theorem a_X0_addNumber_24 : ix_at mT_X0_addNumber 24 = some (.return_, 1) := by decide +kernel
theorem a_X0_number_0 : ix_at mT_X0_number 0 = some (.iconst 0, 1) := by decide +kernel
theorem a_X0_number_1 : ix_at mT_X0_number 1 = some (.istore_n 3, 1) := by decide +kernel
theorem a_X0_number_2 : ix_at mT_X0_number 2 = some (.iload_n 1, 1) := by decide +kernel
theorem a_X0_number_3 : ix_at mT_X0_number 3 = some (.ifCond .lt 47, 3) := by decide +kernel
theorem a_X0_number_6 : ix_at mT_X0_number 6 = some (.iload_n 1, 1) := by decide +kernel
theorem a_X0_number_7 : ix_at mT_X0_number 7 = some (.aload_n 0, 1) := by decide +kernel
theorem a_X0_number_8 : ix_at mT_X0_number 8 = some (.getfield 21, 3) := by decide +kernel
theorem a_X0_number_11 : ix_at mT_X0_number 11 = some (.iload_n 2, 1) := by decide +kernel
theorem a_X0_number_12 : ix_at mT_X0_number 12 = some (.isub, 1) := by decide +kernel
theorem a_X0_number_13 : ix_at mT_X0_number 13 = some (.if_icmp .gt 37, 3) := by decide +kernel
theorem a_X0_number_16 : ix_at mT_X0_number 16 = some (.iconst 0, 1) := by decide +kernel
theorem a_X0_number_17 : ix_at mT_X0_number 17 = some (.istore 4, 2) := by decide +kernel
theorem a_X0_number_19 : ix_at mT_X0_number 19 = some (.iload 4, 2) := by decide +kernel
theorem a_X0_number_21 : ix_at mT_X0_number 21 = some (.iload_n 2, 1) := by decide +kernel
theorem a_X0_number_22 : ix_at mT_X0_number 22 = some (.if_icmp .ge 28, 3) := by decide +kernel
theorem a_X0_number_25 : ix_at mT_X0_number 25 = some (.iload_n 3, 1) := by decide +kernel
theorem a_X0_number_26 : ix_at mT_X0_number 26 = some (.bipush 8, 2) := by decide +kernel
theorem a_X0_number_28 : ix_at mT_X0_number 28 = some (.ishl, 1) := by decide +kernel
theorem a_X0_number_29 : ix_at mT_X0_number 29 = some (.aload_n 0, 1) := by decide +kernel
theorem a_X0_number_30 : ix_at mT_X0_number 30 = some (.getfield 15, 3) := by decide +kernel
theorem a_X0_number_33 : ix_at mT_X0_number 33 = some (.iload_n 1, 1) := by decide +kernel
theorem a_X0_number_34 : ix_at mT_X0_number 34 = some (.iload 4, 2) := by decide +kernel
theorem a_X0_number_36 : ix_at mT_X0_number 36 = some (.iadd, 1) := by decide +kernel
theorem a_X0_number_37 : ix_at mT_X0_number 37 = some (.baload, 1) := by decide +kernel
theorem a_X0_number_38 : ix_at mT_X0_number 38 = some (.sipush 255, 3) := by decide +kernel
theorem a_X0_number_41 : ix_at mT_X0_number 41 = some (.iand, 1) := by decide +kernel
theorem a_X0_number_42 : ix_at mT_X0_number 42 = some (.ior, 1) := by decide +kernel
theorem a_X0_number_43 : ix_at mT_X0_number 43 = some (.istore_n 3, 1) := by decide +kernel
theorem a_X0_number_44 : ix_at mT_X0_number 44 = some (.iinc 4 1, 3) := by decide +kernel
theorem a_X0_number_47 : ix_at mT_X0_number 47 = some (.goto (-28), 3) := by decide +kernel
theorem a_X0_number_50 : ix_at mT_X0_number 50 = some (.iload_n 3, 1) := by decide +kernel
theorem a_X0_number_51 : ix_at mT_X0_number 51 = some (.ireturn, 1) := by decide +kernel
theorem a_X0_seal_0 : ix_at mT_X0_seal 0 = some (.iload_n 1, 1) := by decide +kernel
theorem a_X0_seal_1 : ix_at mT_X0_seal 1 = some (.ifCond .lt 13, 3) := by decide +kernel
theorem a_X0_seal_4 : ix_at mT_X0_seal 4 = some (.iload_n 1, 1) := by decide +kernel
theorem a_X0_seal_5 : ix_at mT_X0_seal 5 = some (.aload_n 0, 1) := by decide +kernel
theorem a_X0_seal_6 : ix_at mT_X0_seal 6 = some (.getfield 21, 3) := by decide +kernel
theorem a_X0_seal_9 : ix_at mT_X0_seal 9 = some (.iconst 4, 1) := by decide +kernel
theorem a_X0_seal_10 : ix_at mT_X0_seal 10 = some (.isub, 1) := by decide +kernel
theorem a_X0_seal_11 : ix_at mT_X0_seal 11 = some (.if_icmp .le 4, 3) := by decide +kernel
theorem a_X0_seal_14 : ix_at mT_X0_seal 14 = some (.return_, 1) := by decide +kernel
theorem a_X0_seal_15 : ix_at mT_X0_seal 15 = some (.bipush 17, 2) := by decide +kernel
theorem a_X0_seal_17 : ix_at mT_X0_seal 17 = some (.istore_n 2, 1) := by decide +kernel
theorem a_X0_seal_18 : ix_at mT_X0_seal 18 = some (.iload_n 1, 1) := by decide +kernel
theorem a_X0_seal_19 : ix_at mT_X0_seal 19 = some (.iconst 4, 1) := by decide +kernel
theorem a_X0_seal_20 : ix_at mT_X0_seal 20 = some (.iadd, 1) := by decide +kernel
theorem a_X0_seal_21 : ix_at mT_X0_seal 21 = some (.istore_n 3, 1) := by decide +kernel
theorem a_X0_seal_22 : ix_at mT_X0_seal 22 = some (.iload_n 3, 1) := by decide +kernel
theorem a_X0_seal_23 : ix_at mT_X0_seal 23 = some (.aload_n 0, 1) := by decide +kernel
theorem a_X0_seal_24 : ix_at mT_X0_seal 24 = some (.getfield 21, 3) := by decide +kernel
theorem a_X0_seal_27 : ix_at mT_X0_seal 27 = some (.if_icmp .ge 25, 3) := by decide +kernel
theorem a_X0_seal_30 : ix_at mT_X0_seal 30 = some (.iload_n 2, 1) := by decide +kernel
theorem a_X0_seal_31 : ix_at mT_X0_seal 31 = some (.bipush 31, 2) := by decide +kernel
theorem a_X0_seal_33 : ix_at mT_X0_seal 33 = some (.imul, 1) := by decide +kernel
theorem a_X0_seal_34 : ix_at mT_X0_seal 34 = some (.aload_n 0, 1) := by decide +kernel
theorem a_X0_seal_35 : ix_at mT_X0_seal 35 = some (.getfield 15, 3) := by decide +kernel
theorem a_X0_seal_38 : ix_at mT_X0_seal 38 = some (.iload_n 3, 1) := by decide +kernel
theorem a_X0_seal_39 : ix_at mT_X0_seal 39 = some (.baload, 1) := by decide +kernel
theorem a_X0_seal_40 : ix_at mT_X0_seal 40 = some (.sipush 255, 3) := by decide +kernel
theorem a_X0_seal_43 : ix_at mT_X0_seal 43 = some (.iand, 1) := by decide +kernel
theorem a_X0_seal_44 : ix_at mT_X0_seal 44 = some (.iadd, 1) := by decide +kernel
theorem a_X0_seal_45 : ix_at mT_X0_seal 45 = some (.istore_n 2, 1) := by decide +kernel
theorem a_X0_seal_46 : ix_at mT_X0_seal 46 = some (.iinc 3 1, 3) := by decide +kernel
theorem a_X0_seal_49 : ix_at mT_X0_seal 49 = some (.goto (-27), 3) := by decide +kernel
theorem a_X0_seal_52 : ix_at mT_X0_seal 52 = some (.iconst 0, 1) := by decide +kernel
theorem a_X0_seal_53 : ix_at mT_X0_seal 53 = some (.istore_n 3, 1) := by decide +kernel
theorem a_X0_seal_54 : ix_at mT_X0_seal 54 = some (.iload_n 3, 1) := by decide +kernel
theorem a_X0_seal_55 : ix_at mT_X0_seal 55 = some (.iconst 4, 1) := by decide +kernel
theorem a_X0_seal_56 : ix_at mT_X0_seal 56 = some (.if_icmp .ge 27, 3) := by decide +kernel
theorem a_X0_seal_59 : ix_at mT_X0_seal 59 = some (.aload_n 0, 1) := by decide +kernel
theorem a_X0_seal_60 : ix_at mT_X0_seal 60 = some (.getfield 15, 3) := by decide +kernel
theorem a_X0_seal_63 : ix_at mT_X0_seal 63 = some (.iload_n 1, 1) := by decide +kernel
theorem a_X0_seal_64 : ix_at mT_X0_seal 64 = some (.iload_n 3, 1) := by decide +kernel
theorem a_X0_seal_65 : ix_at mT_X0_seal 65 = some (.iadd, 1) := by decide +kernel
theorem a_X0_seal_66 : ix_at mT_X0_seal 66 = some (.iload_n 2, 1) := by decide +kernel
theorem a_X0_seal_67 : ix_at mT_X0_seal 67 = some (.bipush 24, 2) := by decide +kernel
theorem a_X0_seal_69 : ix_at mT_X0_seal 69 = some (.bipush 8, 2) := by decide +kernel
theorem a_X0_seal_71 : ix_at mT_X0_seal 71 = some (.iload_n 3, 1) := by decide +kernel
theorem a_X0_seal_72 : ix_at mT_X0_seal 72 = some (.imul, 1) := by decide +kernel
theorem a_X0_seal_73 : ix_at mT_X0_seal 73 = some (.isub, 1) := by decide +kernel
theorem a_X0_seal_74 : ix_at mT_X0_seal 74 = some (.iushr, 1) := by decide +kernel
theorem a_X0_seal_75 : ix_at mT_X0_seal 75 = some (.i2b, 1) := by decide +kernel
theorem a_X0_seal_76 : ix_at mT_X0_seal 76 = some (.bastore, 1) := by decide +kernel
theorem a_X0_seal_77 : ix_at mT_X0_seal 77 = some (.iinc 3 1, 3) := by decide +kernel
theorem a_X0_seal_80 : ix_at mT_X0_seal 80 = some (.goto (-26), 3) := by decide +kernel
theorem a_X0_seal_83 : ix_at mT_X0_seal 83 = some (.return_, 1) := by decide +kernel
theorem a_X1_init_0 : ix_at mT_X1_init 0 = some (.aload_n 0, 1) := by decide +kernel
theorem a_X1_init_1 : ix_at mT_X1_init 1 = some (.invokespecial 3, 3) := by decide +kernel
theorem a_X1_init_4 : ix_at mT_X1_init 4 = some (.aload_n 0, 1) := by decide +kernel
theorem a_X1_init_5 : ix_at mT_X1_init 5 = some (.new 9, 3) := by decide +kernel
theorem a_X1_init_8 : ix_at mT_X1_init 8 = some (.dup, 1) := by decide +kernel
theorem a_X1_init_9 : ix_at mT_X1_init 9 = some (.sipush 4000, 3) := by decide +kernel
theorem a_X1_init_12 : ix_at mT_X1_init 12 = some (.invokespecial 11, 3) := by decide +kernel
theorem a_X1_init_15 : ix_at mT_X1_init 15 = some (.putfield 14, 3) := by decide +kernel
theorem a_X1_init_18 : ix_at mT_X1_init 18 = some (.aload_n 0, 1) := by decide +kernel
theorem a_X1_init_19 : ix_at mT_X1_init 19 = some (.sipush 285, 3) := by decide +kernel
theorem a_X1_init_22 : ix_at mT_X1_init 22 = some (.newarray .int, 2) := by decide +kernel
theorem a_X1_init_24 : ix_at mT_X1_init 24 = some (.putfield 20, 3) := by decide +kernel
theorem a_X1_init_27 : ix_at mT_X1_init 27 = some (.aload_n 0, 1) := by decide +kernel
theorem a_X1_init_28 : ix_at mT_X1_init 28 = some (.sipush 285, 3) := by decide +kernel
theorem a_X1_init_31 : ix_at mT_X1_init 31 = some (.newarray .boolean, 2) := by decide +kernel
theorem a_X1_init_33 : ix_at mT_X1_init 33 = some (.putfield 24, 3) := by decide +kernel
theorem a_X1_init_36 : ix_at mT_X1_init 36 = some (.aload_n 0, 1) := by decide +kernel
theorem a_X1_init_37 : ix_at mT_X1_init 37 = some (.bipush 32, 2) := by decide +kernel
theorem a_X1_init_39 : ix_at mT_X1_init 39 = some (.newarray .int, 2) := by decide +kernel
theorem a_X1_init_41 : ix_at mT_X1_init 41 = some (.putfield 28, 3) := by decide +kernel
theorem a_X1_init_44 : ix_at mT_X1_init 44 = some (.return_, 1) := by decide +kernel
theorem a_X1_clear_0 : ix_at mT_X1_clear 0 = some (.aload_n 0, 1) := by decide +kernel
theorem a_X1_clear_1 : ix_at mT_X1_clear 1 = some (.getfield 14, 3) := by decide +kernel
theorem a_X1_clear_4 : ix_at mT_X1_clear 4 = some (.invokevirtual 31, 3) := by decide +kernel
theorem a_X1_clear_7 : ix_at mT_X1_clear 7 = some (.aload_n 0, 1) := by decide +kernel
theorem a_X1_clear_8 : ix_at mT_X1_clear 8 = some (.iconst 0, 1) := by decide +kernel
theorem a_X1_clear_9 : ix_at mT_X1_clear 9 = some (.putfield 34, 3) := by decide +kernel
theorem a_X1_clear_12 : ix_at mT_X1_clear 12 = some (.return_, 1) := by decide +kernel
theorem a_X1_append_0 : ix_at mT_X1_append 0 = some (.aload_n 0, 1) := by decide +kernel
theorem a_X1_append_1 : ix_at mT_X1_append 1 = some (.getfield 34, 3) := by decide +kernel
theorem a_X1_append_4 : ix_at mT_X1_append 4 = some (.sipush 285, 3) := by decide +kernel
theorem a_X1_append_7 : ix_at mT_X1_append 7 = some (.if_icmp .lt 4, 3) := by decide +kernel
theorem a_X1_append_10 : ix_at mT_X1_append 10 = some (.return_, 1) := by decide +kernel
theorem a_X1_append_11 : ix_at mT_X1_append 11 = some (.aload_n 0, 1) := by decide +kernel
theorem a_X1_append_12 : ix_at mT_X1_append 12 = some (.getfield 14, 3) := by decide +kernel
theorem a_X1_append_15 : ix_at mT_X1_append 15 = some (.getfield 38, 3) := by decide +kernel
theorem a_X1_append_18 : ix_at mT_X1_append 18 = some (.istore 6, 2) := by decide +kernel
theorem a_X1_append_20 : ix_at mT_X1_append 20 = some (.aload_n 0, 1) := by decide +kernel
theorem a_X1_append_21 : ix_at mT_X1_append 21 = some (.getfield 14, 3) := by decide +kernel
theorem a_X1_append_24 : ix_at mT_X1_append 24 = some (.iconst 0, 1) := by decide +kernel
theorem a_X1_append_25 : ix_at mT_X1_append 25 = some (.iconst 4, 1) := by decide +kernel
theorem a_X1_append_26 : ix_at mT_X1_append 26 = some (.invokevirtual 41, 3) := by decide +kernel
theorem a_X1_append_29 : ix_at mT_X1_append 29 = some (.aload_n 0, 1) := by decide +kernel
theorem a_X1_append_30 : ix_at mT_X1_append 30 = some (.getfield 14, 3) := by decide +kernel
theorem a_X1_append_33 : ix_at mT_X1_append 33 = some (.aload 5, 2) := by decide +kernel
theorem a_X1_append_35 : ix_at mT_X1_append 35 = some (.getfield 38, 3) := by decide +kernel
theorem a_X1_append_38 : ix_at mT_X1_append 38 = some (.iconst 2, 1) := by decide +kernel
theorem a_X1_append_39 : ix_at mT_X1_append 39 = some (.invokevirtual 41, 3) := by decide +kernel
theorem a_X1_append_42 : ix_at mT_X1_append 42 = some (.aload_n 0, 1) := by decide +kernel
theorem a_X1_append_43 : ix_at mT_X1_append 43 = some (.getfield 14, 3) := by decide +kernel
theorem a_X1_append_46 : ix_at mT_X1_append 46 = some (.iload_n 1, 1) := by decide +kernel
theorem a_X1_append_47 : ix_at mT_X1_append 47 = some (.iconst 1, 1) := by decide +kernel
theorem a_X1_append_48 : ix_at mT_X1_append 48 = some (.invokevirtual 41, 3) := by decide +kernel
theorem a_X1_append_51 : ix_at mT_X1_append 51 = some (.aload_n 0, 1) := by decide +kernel
theorem a_X1_append_52 : ix_at mT_X1_append 52 = some (.getfield 14, 3) := by decide +kernel
theorem a_X1_append_55 : ix_at mT_X1_append 55 = some (.iload_n 2, 1) := by decide +kernel
theorem a_X1_append_56 : ix_at mT_X1_append 56 = some (.iconst 1, 1) := by decide +kernel
theorem a_X1_append_57 : ix_at mT_X1_append 57 = some (.invokevirtual 41, 3) := by decide +kernel
theorem a_X1_append_60 : ix_at mT_X1_append 60 = some (.aload_n 0, 1) := by decide +kernel
theorem a_X1_append_61 : ix_at mT_X1_append 61 = some (.getfield 14, 3) := by decide +kernel
theorem a_X1_append_64 : ix_at mT_X1_append 64 = some (.iload_n 3, 1) := by decide +kernel
theorem a_X1_append_65 : ix_at mT_X1_append 65 = some (.iconst 2, 1) := by decide +kernel
theorem a_X1_append_66 : ix_at mT_X1_append 66 = some (.invokevirtual 41, 3) := by decide +kernel
theorem a_X1_append_69 : ix_at mT_X1_append 69 = some (.aload_n 0, 1) := by decide +kernel
theorem a_X1_append_70 : ix_at mT_X1_append 70 = some (.getfield 14, 3) := by decide +kernel
theorem a_X1_append_73 : ix_at mT_X1_append 73 = some (.iload 4, 2) := by decide +kernel
theorem a_X1_append_75 : ix_at mT_X1_append 75 = some (.iconst 4, 1) := by decide +kernel
theorem a_X1_append_76 : ix_at mT_X1_append 76 = some (.invokevirtual 41, 3) := by decide +kernel
theorem a_X1_append_79 : ix_at mT_X1_append 79 = some (.iconst 0, 1) := by decide +kernel
theorem a_X1_append_80 : ix_at mT_X1_append 80 = some (.istore 7, 2) := by decide +kernel
theorem a_X1_append_82 : ix_at mT_X1_append 82 = some (.iload 7, 2) := by decide +kernel
theorem a_X1_append_84 : ix_at mT_X1_append 84 = some (.aload 5, 2) := by decide +kernel
theorem a_X1_append_86 : ix_at mT_X1_append 86 = some (.getfield 38, 3) := by decide +kernel
theorem a_X1_append_89 : ix_at mT_X1_append 89 = some (.if_icmp .ge 23, 3) := by decide +kernel
theorem a_X1_append_92 : ix_at mT_X1_append 92 = some (.aload_n 0, 1) := by decide +kernel
theorem a_X1_append_93 : ix_at mT_X1_append 93 = some (.getfield 14, 3) := by decide +kernel
theorem a_X1_append_96 : ix_at mT_X1_append 96 = some (.aload 5, 2) := by decide +kernel
theorem a_X1_append_98 : ix_at mT_X1_append 98 = some (.iload 7, 2) := by decide +kernel
theorem a_X1_append_100 : ix_at mT_X1_append 100 = some (.invokevirtual 45, 3) := by decide +kernel
theorem a_X1_append_103 : ix_at mT_X1_append 103 = some (.invokevirtual 49, 3) := by decide +kernel
theorem a_X1_append_106 : ix_at mT_X1_append 106 = some (.iinc 7 1, 3) := by decide +kernel
theorem a_X1_append_109 : ix_at mT_X1_append 109 = some (.goto (-27), 3) := by decide +kernel
theorem a_X1_append_112 : ix_at mT_X1_append 112 = some (.aload_n 0, 1) := by decide +kernel
theorem a_X1_append_113 : ix_at mT_X1_append 113 = some (.getfield 14, 3) := by decide +kernel
theorem a_X1_append_116 : ix_at mT_X1_append 116 = some (.iload 6, 2) := by decide +kernel
theorem a_X1_append_118 : ix_at mT_X1_append 118 = some (.invokevirtual 52, 3) := by decide +kernel
theorem a_X1_append_121 : ix_at mT_X1_append 121 = some (.aload_n 0, 1) := by decide +kernel
theorem a_X1_append_122 : ix_at mT_X1_append 122 = some (.getfield 20, 3) := by decide +kernel
theorem a_X1_append_125 : ix_at mT_X1_append 125 = some (.aload_n 0, 1) := by decide +kernel
theorem a_X1_append_126 : ix_at mT_X1_append 126 = some (.getfield 34, 3) := by decide +kernel
theorem a_X1_append_129 : ix_at mT_X1_append 129 = some (.aload_n 0, 1) := by decide +kernel
theorem a_X1_append_130 : ix_at mT_X1_append 130 = some (.getfield 14, 3) := by decide +kernel
theorem a_X1_append_133 : ix_at mT_X1_append 133 = some (.getfield 38, 3) := by decide +kernel
theorem a_X1_append_136 : ix_at mT_X1_append 136 = some (.iastore, 1) := by decide +kernel
theorem a_X1_append_137 : ix_at mT_X1_append 137 = some (.aload_n 0, 1) := by decide +kernel
theorem a_X1_append_138 : ix_at mT_X1_append 138 = some (.dup, 1) := by decide +kernel
theorem a_X1_append_139 : ix_at mT_X1_append 139 = some (.getfield 34, 3) := by decide +kernel
theorem a_X1_append_142 : ix_at mT_X1_append 142 = some (.iconst 1, 1) := by decide +kernel
theorem a_X1_append_143 : ix_at mT_X1_append 143 = some (.iadd, 1) := by decide +kernel
theorem a_X1_append_144 : ix_at mT_X1_append 144 = some (.putfield 34, 3) := by decide +kernel
theorem a_X1_append_147 : ix_at mT_X1_append 147 = some (.return_, 1) := by decide +kernel
theorem a_X1_has_0 : ix_at mT_X1_has 0 = some (.iload_n 1, 1) := by decide +kernel
theorem a_X1_has_1 : ix_at mT_X1_has 1 = some (.ifCond .lt 15, 3) := by decide +kernel
theorem a_X1_has_4 : ix_at mT_X1_has 4 = some (.iload_n 1, 1) := by decide +kernel
theorem a_X1_has_5 : ix_at mT_X1_has 5 = some (.aload_n 0, 1) := by decide +kernel
theorem a_X1_has_6 : ix_at mT_X1_has 6 = some (.getfield 34, 3) := by decide +kernel
theorem a_X1_has_9 : ix_at mT_X1_has 9 = some (.if_icmp .ge 7, 3) := by decide +kernel
theorem a_X1_has_12 : ix_at mT_X1_has 12 = some (.iconst 1, 1) := by decide +kernel
theorem a_X1_has_13 : ix_at mT_X1_has 13 = some (.goto 4, 3) := by decide +kernel
theorem a_X1_has_16 : ix_at mT_X1_has 16 = some (.iconst 0, 1) := by decide +kernel
theorem a_X1_has_17 : ix_at mT_X1_has 17 = some (.ireturn, 1) := by decide +kernel
theorem a_X1_startOf_0 : ix_at mT_X1_startOf 0 = some (.iload_n 1, 1) := by decide +kernel
theorem a_X1_startOf_1 : ix_at mT_X1_startOf 1 = some (.iconst 1, 1) := by decide +kernel
theorem a_X1_startOf_2 : ix_at mT_X1_startOf 2 = some (.if_icmp .lt 22, 3) := by decide +kernel
theorem a_X1_startOf_5 : ix_at mT_X1_startOf 5 = some (.iload_n 1, 1) := by decide +kernel
theorem a_X1_startOf_6 : ix_at mT_X1_startOf 6 = some (.aload_n 0, 1) := by decide +kernel
theorem a_X1_startOf_7 : ix_at mT_X1_startOf 7 = some (.getfield 34, 3) := by decide +kernel
theorem a_X1_startOf_10 : ix_at mT_X1_startOf 10 = some (.if_icmp .gt 14, 3) := by decide +kernel
theorem a_X1_startOf_13 : ix_at mT_X1_startOf 13 = some (.aload_n 0, 1) := by decide +kernel
theorem a_X1_startOf_14 : ix_at mT_X1_startOf 14 = some (.getfield 20, 3) := by decide +kernel
theorem a_X1_startOf_17 : ix_at mT_X1_startOf 17 = some (.iload_n 1, 1) := by decide +kernel
theorem a_X1_startOf_18 : ix_at mT_X1_startOf 18 = some (.iconst 1, 1) := by decide +kernel
theorem a_X1_startOf_19 : ix_at mT_X1_startOf 19 = some (.isub, 1) := by decide +kernel
theorem a_X1_startOf_20 : ix_at mT_X1_startOf 20 = some (.iaload, 1) := by decide +kernel
theorem a_X1_startOf_21 : ix_at mT_X1_startOf 21 = some (.goto 4, 3) := by decide +kernel
theorem a_X1_startOf_24 : ix_at mT_X1_startOf 24 = some (.iconst 0, 1) := by decide +kernel
theorem a_X1_startOf_25 : ix_at mT_X1_startOf 25 = some (.ireturn, 1) := by decide +kernel
theorem a_X1_field_0 : ix_at mT_X1_field 0 = some (.aload_n 0, 1) := by decide +kernel
theorem a_X1_field_1 : ix_at mT_X1_field 1 = some (.getfield 14, 3) := by decide +kernel
theorem a_X1_field_4 : ix_at mT_X1_field 4 = some (.aload_n 0, 1) := by decide +kernel
theorem a_X1_field_5 : ix_at mT_X1_field 5 = some (.iload_n 1, 1) := by decide +kernel
theorem a_X1_field_6 : ix_at mT_X1_field 6 = some (.invokevirtual 55, 3) := by decide +kernel
theorem a_X1_field_9 : ix_at mT_X1_field 9 = some (.iload_n 2, 1) := by decide +kernel
theorem a_X1_field_10 : ix_at mT_X1_field 10 = some (.iadd, 1) := by decide +kernel
theorem a_X1_field_11 : ix_at mT_X1_field 11 = some (.iload_n 3, 1) := by decide +kernel
theorem a_X1_field_12 : ix_at mT_X1_field 12 = some (.invokevirtual 58, 3) := by decide +kernel
theorem a_X1_field_15 : ix_at mT_X1_field 15 = some (.ireturn, 1) := by decide +kernel
theorem a_X1_kindOf_0 : ix_at mT_X1_kindOf 0 = some (.aload_n 0, 1) := by decide +kernel
theorem a_X1_kindOf_1 : ix_at mT_X1_kindOf 1 = some (.getfield 14, 3) := by decide +kernel
theorem a_X1_kindOf_4 : ix_at mT_X1_kindOf 4 = some (.aload_n 0, 1) := by decide +kernel
theorem a_X1_kindOf_5 : ix_at mT_X1_kindOf 5 = some (.iload_n 1, 1) := by decide +kernel
theorem a_X1_kindOf_6 : ix_at mT_X1_kindOf 6 = some (.invokevirtual 55, 3) := by decide +kernel
theorem a_X1_kindOf_9 : ix_at mT_X1_kindOf 9 = some (.bipush 6, 2) := by decide +kernel
theorem a_X1_kindOf_11 : ix_at mT_X1_kindOf 11 = some (.iadd, 1) := by decide +kernel
theorem a_X1_kindOf_12 : ix_at mT_X1_kindOf 12 = some (.iconst 1, 1) := by decide +kernel
theorem a_X1_kindOf_13 : ix_at mT_X1_kindOf 13 = some (.invokevirtual 58, 3) := by decide +kernel
theorem a_X1_kindOf_16 : ix_at mT_X1_kindOf 16 = some (.ireturn, 1) := by decide +kernel
theorem a_X1_isSeen_0 : ix_at mT_X1_isSeen 0 = some (.aload_n 0, 1) := by decide +kernel
theorem a_X1_isSeen_1 : ix_at mT_X1_isSeen 1 = some (.iload_n 1, 1) := by decide +kernel
theorem a_X1_isSeen_2 : ix_at mT_X1_isSeen 2 = some (.invokevirtual 62, 3) := by decide +kernel
theorem a_X1_isSeen_5 : ix_at mT_X1_isSeen 5 = some (.istore_n 2, 1) := by decide +kernel
theorem a_X1_isSeen_6 : ix_at mT_X1_isSeen 6 = some (.iload_n 2, 1) := by decide +kernel
theorem a_X1_isSeen_7 : ix_at mT_X1_isSeen 7 = some (.ifCond .eq 8, 3) := by decide +kernel
theorem a_X1_isSeen_10 : ix_at mT_X1_isSeen 10 = some (.iload_n 2, 1) := by decide +kernel
theorem a_X1_isSeen_11 : ix_at mT_X1_isSeen 11 = some (.iconst 1, 1) := by decide +kernel
theorem a_X1_isSeen_12 : ix_at mT_X1_isSeen 12 = some (.if_icmp .ne 7, 3) := by decide +kernel
theorem a_X1_isSeen_15 : ix_at mT_X1_isSeen 15 = some (.iconst 1, 1) := by decide +kernel
theorem a_X1_isSeen_16 : ix_at mT_X1_isSeen 16 = some (.goto 4, 3) := by decide +kernel
theorem a_X1_isSeen_19 : ix_at mT_X1_isSeen 19 = some (.iconst 0, 1) := by decide +kernel
theorem a_X1_isSeen_20 : ix_at mT_X1_isSeen 20 = some (.ireturn, 1) := by decide +kernel
theorem a_X1_dropBroken_0 : ix_at mT_X1_dropBroken 0 = some (.aload_n 0, 1) := by decide +kernel
theorem a_X1_dropBroken_1 : ix_at mT_X1_dropBroken 1 = some (.getfield 34, 3) := by decide +kernel
theorem a_X1_dropBroken_4 : ix_at mT_X1_dropBroken 4 = some (.iconst 1, 1) := by decide +kernel
theorem a_X1_dropBroken_5 : ix_at mT_X1_dropBroken 5 = some (.isub, 1) := by decide +kernel
theorem a_X1_dropBroken_6 : ix_at mT_X1_dropBroken 6 = some (.istore_n 1, 1) := by decide +kernel
theorem a_X1_dropBroken_7 : ix_at mT_X1_dropBroken 7 = some (.iload_n 1, 1) := by decide +kernel
theorem a_X1_dropBroken_8 : ix_at mT_X1_dropBroken 8 = some (.ifCond .lt 30, 3) := by decide +kernel
theorem a_X1_dropBroken_11 : ix_at mT_X1_dropBroken 11 = some (.aload_n 0, 1) := by decide +kernel
theorem a_X1_dropBroken_12 : ix_at mT_X1_dropBroken 12 = some (.getfield 20, 3) := by decide +kernel
theorem a_X1_dropBroken_15 : ix_at mT_X1_dropBroken 15 = some (.iload_n 1, 1) := by decide +kernel
theorem a_X1_dropBroken_16 : ix_at mT_X1_dropBroken 16 = some (.iaload, 1) := by decide +kernel
theorem a_X1_dropBroken_17 : ix_at mT_X1_dropBroken 17 = some (.aload_n 0, 1) := by decide +kernel
theorem a_X1_dropBroken_18 : ix_at mT_X1_dropBroken 18 = some (.getfield 14, 3) := by decide +kernel
theorem a_X1_dropBroken_21 : ix_at mT_X1_dropBroken 21 = some (.getfield 38, 3) := by decide +kernel
theorem a_X1_dropBroken_24 : ix_at mT_X1_dropBroken 24 = some (.if_icmp .le 14, 3) := by decide +kernel
theorem a_X1_dropBroken_27 : ix_at mT_X1_dropBroken 27 = some (.aload_n 0, 1) := by decide +kernel
theorem a_X1_dropBroken_28 : ix_at mT_X1_dropBroken 28 = some (.iload_n 1, 1) := by decide +kernel
theorem a_X1_dropBroken_29 : ix_at mT_X1_dropBroken 29 = some (.putfield 34, 3) := by decide +kernel
theorem a_X1_dropBroken_32 : ix_at mT_X1_dropBroken 32 = some (.iinc 1 (-1), 3) := by decide +kernel
theorem a_X1_dropBroken_35 : ix_at mT_X1_dropBroken 35 = some (.goto (-28), 3) := by decide +kernel
theorem a_X1_dropBroken_38 : ix_at mT_X1_dropBroken 38 = some (.return_, 1) := by decide +kernel
theorem a_X1_cutBroken_0 : ix_at mT_X1_cutBroken 0 = some (.aload_n 0, 1) := by decide +kernel
theorem a_X1_cutBroken_1 : ix_at mT_X1_cutBroken 1 = some (.aload_n 0, 1) := by decide +kernel
theorem a_X1_cutBroken_2 : ix_at mT_X1_cutBroken 2 = some (.getfield 34, 3) := by decide +kernel
theorem a_X1_cutBroken_5 : ix_at mT_X1_cutBroken 5 = some (.invokevirtual 55, 3) := by decide +kernel
theorem a_X1_cutBroken_8 : ix_at mT_X1_cutBroken 8 = some (.istore_n 1, 1) := by decide +kernel
theorem a_X1_cutBroken_9 : ix_at mT_X1_cutBroken 9 = some (.aload_n 0, 1) := by decide +kernel
theorem a_X1_cutBroken_10 : ix_at mT_X1_cutBroken 10 = some (.getfield 14, 3) := by decide +kernel
theorem a_X1_cutBroken_13 : ix_at mT_X1_cutBroken 13 = some (.getfield 38, 3) := by decide +kernel
theorem a_X1_cutBroken_16 : ix_at mT_X1_cutBroken 16 = some (.iload_n 1, 1) := by decide +kernel
theorem a_X1_cutBroken_17 : ix_at mT_X1_cutBroken 17 = some (.isub, 1) := by decide +kernel
theorem a_X1_cutBroken_18 : ix_at mT_X1_cutBroken 18 = some (.istore_n 2, 1) := by decide +kernel
theorem a_X1_cutBroken_19 : ix_at mT_X1_cutBroken 19 = some (.aload_n 0, 1) := by decide +kernel
theorem a_X1_cutBroken_20 : ix_at mT_X1_cutBroken 20 = some (.getfield 14, 3) := by decide +kernel
theorem a_X1_cutBroken_23 : ix_at mT_X1_cutBroken 23 = some (.iload_n 1, 1) := by decide +kernel
theorem a_X1_cutBroken_24 : ix_at mT_X1_cutBroken 24 = some (.invokevirtual 65, 3) := by decide +kernel
theorem a_X1_cutBroken_27 : ix_at mT_X1_cutBroken 27 = some (.iload_n 2, 1) := by decide +kernel
theorem a_X1_cutBroken_28 : ix_at mT_X1_cutBroken 28 = some (.ireturn, 1) := by decide +kernel
theorem a_X1_isSentBy_0 : ix_at mT_X1_isSentBy 0 = some (.aload_n 0, 1) := by decide +kernel
theorem a_X1_isSentBy_1 : ix_at mT_X1_isSentBy 1 = some (.iload_n 1, 1) := by decide +kernel
theorem a_X1_isSentBy_2 : ix_at mT_X1_isSentBy 2 = some (.invokevirtual 68, 3) := by decide +kernel
theorem a_X1_isSentBy_5 : ix_at mT_X1_isSentBy 5 = some (.ifCond .eq 31, 3) := by decide +kernel
theorem a_X1_isSentBy_8 : ix_at mT_X1_isSentBy 8 = some (.aload_n 0, 1) := by decide +kernel
theorem a_X1_isSentBy_9 : ix_at mT_X1_isSentBy 9 = some (.iload_n 1, 1) := by decide +kernel
theorem a_X1_isSentBy_10 : ix_at mT_X1_isSentBy 10 = some (.bipush 7, 2) := by decide +kernel
theorem a_X1_isSentBy_12 : ix_at mT_X1_isSentBy 12 = some (.iconst 1, 1) := by decide +kernel
theorem a_X1_isSentBy_13 : ix_at mT_X1_isSentBy 13 = some (.invokevirtual 72, 3) := by decide +kernel
theorem a_X1_isSentBy_16 : ix_at mT_X1_isSentBy 16 = some (.iload_n 2, 1) := by decide +kernel
theorem a_X1_isSentBy_17 : ix_at mT_X1_isSentBy 17 = some (.if_icmp .ne 19, 3) := by decide +kernel
theorem a_X1_isSentBy_20 : ix_at mT_X1_isSentBy 20 = some (.aload_n 0, 1) := by decide +kernel
theorem a_X1_isSentBy_21 : ix_at mT_X1_isSentBy 21 = some (.iload_n 1, 1) := by decide +kernel
theorem a_X1_isSentBy_22 : ix_at mT_X1_isSentBy 22 = some (.bipush 8, 2) := by decide +kernel
theorem a_X1_isSentBy_24 : ix_at mT_X1_isSentBy 24 = some (.iconst 2, 1) := by decide +kernel
theorem a_X1_isSentBy_25 : ix_at mT_X1_isSentBy 25 = some (.invokevirtual 72, 3) := by decide +kernel
theorem a_X1_isSentBy_28 : ix_at mT_X1_isSentBy 28 = some (.iload_n 3, 1) := by decide +kernel
theorem a_X1_isSentBy_29 : ix_at mT_X1_isSentBy 29 = some (.if_icmp .ne 7, 3) := by decide +kernel
theorem a_X1_isSentBy_32 : ix_at mT_X1_isSentBy 32 = some (.iconst 1, 1) := by decide +kernel
theorem a_X1_isSentBy_33 : ix_at mT_X1_isSentBy 33 = some (.goto 4, 3) := by decide +kernel
theorem a_X1_isSentBy_36 : ix_at mT_X1_isSentBy 36 = some (.iconst 0, 1) := by decide +kernel
theorem a_X1_isSentBy_37 : ix_at mT_X1_isSentBy 37 = some (.ireturn, 1) := by decide +kernel
theorem a_X1_nextOf_0 : ix_at mT_X1_nextOf 0 = some (.aload_n 0, 1) := by decide +kernel
theorem a_X1_nextOf_1 : ix_at mT_X1_nextOf 1 = some (.getfield 34, 3) := by decide +kernel
theorem a_X1_nextOf_4 : ix_at mT_X1_nextOf 4 = some (.iconst 1, 1) := by decide +kernel
theorem a_X1_nextOf_5 : ix_at mT_X1_nextOf 5 = some (.isub, 1) := by decide +kernel
theorem a_X1_nextOf_6 : ix_at mT_X1_nextOf 6 = some (.istore_n 3, 1) := by decide +kernel
theorem a_X1_nextOf_7 : ix_at mT_X1_nextOf 7 = some (.iload_n 3, 1) := by decide +kernel
theorem a_X1_nextOf_8 : ix_at mT_X1_nextOf 8 = some (.ifCond .lt 30, 3) := by decide +kernel
theorem a_X1_nextOf_11 : ix_at mT_X1_nextOf 11 = some (.aload_n 0, 1) := by decide +kernel
theorem a_X1_nextOf_12 : ix_at mT_X1_nextOf 12 = some (.iload_n 3, 1) := by decide +kernel
theorem a_X1_nextOf_13 : ix_at mT_X1_nextOf 13 = some (.iload_n 1, 1) := by decide +kernel
theorem a_X1_nextOf_14 : ix_at mT_X1_nextOf 14 = some (.iload_n 2, 1) := by decide +kernel
theorem a_X1_nextOf_15 : ix_at mT_X1_nextOf 15 = some (.invokevirtual 76, 3) := by decide +kernel
theorem a_X1_nextOf_18 : ix_at mT_X1_nextOf 18 = some (.ifCond .eq 14, 3) := by decide +kernel
theorem a_X1_nextOf_21 : ix_at mT_X1_nextOf 21 = some (.aload_n 0, 1) := by decide +kernel
theorem a_X1_nextOf_22 : ix_at mT_X1_nextOf 22 = some (.iload_n 3, 1) := by decide +kernel
theorem a_X1_nextOf_23 : ix_at mT_X1_nextOf 23 = some (.bipush 10, 2) := by decide +kernel
theorem a_X1_nextOf_25 : ix_at mT_X1_nextOf 25 = some (.iconst 4, 1) := by decide +kernel
theorem a_X1_nextOf_26 : ix_at mT_X1_nextOf 26 = some (.invokevirtual 72, 3) := by decide +kernel
theorem a_X1_nextOf_29 : ix_at mT_X1_nextOf 29 = some (.iconst 1, 1) := by decide +kernel
theorem a_X1_nextOf_30 : ix_at mT_X1_nextOf 30 = some (.iadd, 1) := by decide +kernel
theorem a_X1_nextOf_31 : ix_at mT_X1_nextOf 31 = some (.ireturn, 1) := by decide +kernel
theorem a_X1_nextOf_32 : ix_at mT_X1_nextOf 32 = some (.iinc 3 (-1), 3) := by decide +kernel
theorem a_X1_nextOf_35 : ix_at mT_X1_nextOf 35 = some (.goto (-28), 3) := by decide +kernel
theorem a_X1_nextOf_38 : ix_at mT_X1_nextOf 38 = some (.iconst 0, 1) := by decide +kernel
theorem a_X1_nextOf_39 : ix_at mT_X1_nextOf 39 = some (.ireturn, 1) := by decide +kernel
theorem a_X1_offsetOfRecent_0 : ix_at mT_X1_offsetOfRecent 0 = some (.iconst 0, 1) := by decide +kernel
theorem a_X1_offsetOfRecent_1 : ix_at mT_X1_offsetOfRecent 1 = some (.istore 4, 2) := by decide +kernel
theorem a_X1_offsetOfRecent_3 : ix_at mT_X1_offsetOfRecent 3 = some (.aload_n 0, 1) := by decide +kernel
theorem a_X1_offsetOfRecent_4 : ix_at mT_X1_offsetOfRecent 4 = some (.getfield 34, 3) := by decide +kernel
theorem a_X1_offsetOfRecent_7 : ix_at mT_X1_offsetOfRecent 7 = some (.iconst 1, 1) := by decide +kernel
theorem a_X1_offsetOfRecent_8 : ix_at mT_X1_offsetOfRecent 8 = some (.isub, 1) := by decide +kernel
theorem a_X1_offsetOfRecent_9 : ix_at mT_X1_offsetOfRecent 9 = some (.istore 5, 2) := by decide +kernel
theorem a_X1_offsetOfRecent_11 : ix_at mT_X1_offsetOfRecent 11 = some (.iload 5, 2) := by decide +kernel
theorem a_X1_offsetOfRecent_13 : ix_at mT_X1_offsetOfRecent 13 = some (.ifCond .lt 45, 3) := by decide +kernel
theorem a_X1_offsetOfRecent_16 : ix_at mT_X1_offsetOfRecent 16 = some (.iload 4, 2) := by decide +kernel
theorem a_X1_offsetOfRecent_18 : ix_at mT_X1_offsetOfRecent 18 = some (.iconst 5, 1) := by decide +kernel
theorem a_X1_offsetOfRecent_19 : ix_at mT_X1_offsetOfRecent 19 = some (.if_icmp .ge 39, 3) := by decide +kernel
theorem a_X1_offsetOfRecent_22 : ix_at mT_X1_offsetOfRecent 22 = some (.aload_n 0, 1) := by decide +kernel
theorem a_X1_offsetOfRecent_23 : ix_at mT_X1_offsetOfRecent 23 = some (.iload 5, 2) := by decide +kernel
theorem a_X1_offsetOfRecent_25 : ix_at mT_X1_offsetOfRecent 25 = some (.iload_n 1, 1) := by decide +kernel
theorem a_X1_offsetOfRecent_26 : ix_at mT_X1_offsetOfRecent 26 = some (.iload_n 2, 1) := by decide +kernel
theorem a_X1_offsetOfRecent_27 : ix_at mT_X1_offsetOfRecent 27 = some (.invokevirtual 76, 3) := by decide +kernel
theorem a_X1_offsetOfRecent_30 : ix_at mT_X1_offsetOfRecent 30 = some (.ifCond .eq 22, 3) := by decide +kernel
theorem a_X1_offsetOfRecent_33 : ix_at mT_X1_offsetOfRecent 33 = some (.aload_n 0, 1) := by decide +kernel
theorem a_X1_offsetOfRecent_34 : ix_at mT_X1_offsetOfRecent 34 = some (.iload 5, 2) := by decide +kernel
theorem a_X1_offsetOfRecent_36 : ix_at mT_X1_offsetOfRecent 36 = some (.bipush 10, 2) := by decide +kernel
theorem a_X1_offsetOfRecent_38 : ix_at mT_X1_offsetOfRecent 38 = some (.iconst 4, 1) := by decide +kernel
theorem a_X1_offsetOfRecent_39 : ix_at mT_X1_offsetOfRecent 39 = some (.invokevirtual 72, 3) := by decide +kernel
theorem a_X1_offsetOfRecent_42 : ix_at mT_X1_offsetOfRecent 42 = some (.iload_n 3, 1) := by decide +kernel
theorem a_X1_offsetOfRecent_43 : ix_at mT_X1_offsetOfRecent 43 = some (.if_icmp .ne 6, 3) := by decide +kernel
theorem a_X1_offsetOfRecent_46 : ix_at mT_X1_offsetOfRecent 46 = some (.iload 5, 2) := by decide +kernel
theorem a_X1_offsetOfRecent_48 : ix_at mT_X1_offsetOfRecent 48 = some (.ireturn, 1) := by decide +kernel
theorem a_X1_offsetOfRecent_49 : ix_at mT_X1_offsetOfRecent 49 = some (.iinc 4 1, 3) := by decide +kernel
theorem a_X1_offsetOfRecent_52 : ix_at mT_X1_offsetOfRecent 52 = some (.iinc 5 (-1), 3) := by decide +kernel
theorem a_X1_offsetOfRecent_55 : ix_at mT_X1_offsetOfRecent 55 = some (.goto (-44), 3) := by decide +kernel
theorem a_X1_offsetOfRecent_58 : ix_at mT_X1_offsetOfRecent 58 = some (.iconst (-1), 1) := by decide +kernel
theorem a_X1_offsetOfRecent_59 : ix_at mT_X1_offsetOfRecent 59 = some (.ireturn, 1) := by decide +kernel
theorem a_X1_hasEndOf_0 : ix_at mT_X1_hasEndOf 0 = some (.aload_n 0, 1) := by decide +kernel
theorem a_X1_hasEndOf_1 : ix_at mT_X1_hasEndOf 1 = some (.getfield 34, 3) := by decide +kernel
theorem a_X1_hasEndOf_4 : ix_at mT_X1_hasEndOf 4 = some (.iconst 1, 1) := by decide +kernel
theorem a_X1_hasEndOf_5 : ix_at mT_X1_hasEndOf 5 = some (.isub, 1) := by decide +kernel
theorem a_X1_hasEndOf_6 : ix_at mT_X1_hasEndOf 6 = some (.istore_n 2, 1) := by decide +kernel
theorem a_X1_hasEndOf_7 : ix_at mT_X1_hasEndOf 7 = some (.iload_n 2, 1) := by decide +kernel
theorem a_X1_hasEndOf_8 : ix_at mT_X1_hasEndOf 8 = some (.ifCond .lt 31, 3) := by decide +kernel
theorem a_X1_hasEndOf_11 : ix_at mT_X1_hasEndOf 11 = some (.aload_n 0, 1) := by decide +kernel
theorem a_X1_hasEndOf_12 : ix_at mT_X1_hasEndOf 12 = some (.iload_n 2, 1) := by decide +kernel
theorem a_X1_hasEndOf_13 : ix_at mT_X1_hasEndOf 13 = some (.invokevirtual 68, 3) := by decide +kernel
theorem a_X1_hasEndOf_16 : ix_at mT_X1_hasEndOf 16 = some (.ifCond .ne 17, 3) := by decide +kernel
theorem a_X1_hasEndOf_19 : ix_at mT_X1_hasEndOf 19 = some (.aload_n 0, 1) := by decide +kernel
theorem a_X1_hasEndOf_20 : ix_at mT_X1_hasEndOf 20 = some (.iload_n 2, 1) := by decide +kernel
theorem a_X1_hasEndOf_21 : ix_at mT_X1_hasEndOf 21 = some (.bipush 10, 2) := by decide +kernel
theorem a_X1_hasEndOf_23 : ix_at mT_X1_hasEndOf 23 = some (.iconst 4, 1) := by decide +kernel
theorem a_X1_hasEndOf_24 : ix_at mT_X1_hasEndOf 24 = some (.invokevirtual 72, 3) := by decide +kernel
theorem a_X1_hasEndOf_27 : ix_at mT_X1_hasEndOf 27 = some (.iload_n 1, 1) := by decide +kernel
theorem a_X1_hasEndOf_28 : ix_at mT_X1_hasEndOf 28 = some (.if_icmp .ne 5, 3) := by decide +kernel
theorem a_X1_hasEndOf_31 : ix_at mT_X1_hasEndOf 31 = some (.iconst 1, 1) := by decide +kernel
theorem a_X1_hasEndOf_32 : ix_at mT_X1_hasEndOf 32 = some (.ireturn, 1) := by decide +kernel
theorem a_X1_hasEndOf_33 : ix_at mT_X1_hasEndOf 33 = some (.iinc 2 (-1), 3) := by decide +kernel
theorem a_X1_hasEndOf_36 : ix_at mT_X1_hasEndOf 36 = some (.goto (-29), 3) := by decide +kernel
theorem a_X1_hasEndOf_39 : ix_at mT_X1_hasEndOf 39 = some (.iconst 0, 1) := by decide +kernel
theorem a_X1_hasEndOf_40 : ix_at mT_X1_hasEndOf 40 = some (.ireturn, 1) := by decide +kernel
theorem a_X1_stable_0 : ix_at mT_X1_stable 0 = some (.aload_n 0, 1) := by decide +kernel
theorem a_X1_stable_1 : ix_at mT_X1_stable 1 = some (.getfield 28, 3) := by decide +kernel
theorem a_X1_stable_4 : ix_at mT_X1_stable 4 = some (.iconst (-1), 1) := by decide +kernel
theorem a_X1_stable_5 : ix_at mT_X1_stable 5 = some (.invokestatic 80, 3) := by decide +kernel
theorem a_X1_stable_8 : ix_at mT_X1_stable 8 = some (.aload_n 0, 1) := by decide +kernel
theorem a_X1_stable_9 : ix_at mT_X1_stable 9 = some (.getfield 34, 3) := by decide +kernel
theorem a_X1_stable_12 : ix_at mT_X1_stable 12 = some (.istore_n 1, 1) := by decide +kernel
theorem a_X1_stable_13 : ix_at mT_X1_stable 13 = some (.aload_n 0, 1) := by decide +kernel
theorem a_X1_stable_14 : ix_at mT_X1_stable 14 = some (.getfield 34, 3) := by decide +kernel
theorem a_X1_stable_17 : ix_at mT_X1_stable 17 = some (.iconst 1, 1) := by decide +kernel
theorem a_X1_stable_18 : ix_at mT_X1_stable 18 = some (.isub, 1) := by decide +kernel
theorem a_X1_stable_19 : ix_at mT_X1_stable 19 = some (.istore_n 2, 1) := by decide +kernel
theorem a_X1_stable_20 : ix_at mT_X1_stable 20 = some (.iload_n 2, 1) := by decide +kernel
theorem a_X1_stable_21 : ix_at mT_X1_stable 21 = some (.ifCond .lt 97, 3) := by decide +kernel
theorem a_X1_stable_24 : ix_at mT_X1_stable 24 = some (.aload_n 0, 1) := by decide +kernel
theorem a_X1_stable_25 : ix_at mT_X1_stable 25 = some (.iload_n 2, 1) := by decide +kernel
theorem a_X1_stable_26 : ix_at mT_X1_stable 26 = some (.invokevirtual 62, 3) := by decide +kernel
theorem a_X1_stable_29 : ix_at mT_X1_stable 29 = some (.istore_n 3, 1) := by decide +kernel
theorem a_X1_stable_30 : ix_at mT_X1_stable 30 = some (.aload_n 0, 1) := by decide +kernel
theorem a_X1_stable_31 : ix_at mT_X1_stable 31 = some (.iload_n 2, 1) := by decide +kernel
theorem a_X1_stable_32 : ix_at mT_X1_stable 32 = some (.bipush 7, 2) := by decide +kernel
theorem a_X1_stable_34 : ix_at mT_X1_stable 34 = some (.iconst 1, 1) := by decide +kernel
theorem a_X1_stable_35 : ix_at mT_X1_stable 35 = some (.invokevirtual 72, 3) := by decide +kernel
theorem a_X1_stable_38 : ix_at mT_X1_stable 38 = some (.bipush 31, 2) := by decide +kernel
theorem a_X1_stable_40 : ix_at mT_X1_stable 40 = some (.invokestatic 86, 3) := by decide +kernel
theorem a_X1_stable_43 : ix_at mT_X1_stable 43 = some (.istore 4, 2) := by decide +kernel
theorem a_X1_stable_45 : ix_at mT_X1_stable 45 = some (.aload_n 0, 1) := by decide +kernel
theorem a_X1_stable_46 : ix_at mT_X1_stable 46 = some (.getfield 24, 3) := by decide +kernel
theorem a_X1_stable_49 : ix_at mT_X1_stable 49 = some (.iload_n 2, 1) := by decide +kernel
theorem a_X1_stable_50 : ix_at mT_X1_stable 50 = some (.iload_n 3, 1) := by decide +kernel
theorem a_X1_stable_51 : ix_at mT_X1_stable 51 = some (.ifCond .eq 19, 3) := by decide +kernel
theorem a_X1_stable_54 : ix_at mT_X1_stable 54 = some (.iload_n 3, 1) := by decide +kernel
theorem a_X1_stable_55 : ix_at mT_X1_stable 55 = some (.iconst 1, 1) := by decide +kernel
theorem a_X1_stable_56 : ix_at mT_X1_stable 56 = some (.if_icmp .ne 18, 3) := by decide +kernel
theorem a_X1_stable_59 : ix_at mT_X1_stable 59 = some (.aload_n 0, 1) := by decide +kernel
theorem a_X1_stable_60 : ix_at mT_X1_stable 60 = some (.getfield 28, 3) := by decide +kernel
theorem a_X1_stable_63 : ix_at mT_X1_stable 63 = some (.iload 4, 2) := by decide +kernel
theorem a_X1_stable_65 : ix_at mT_X1_stable 65 = some (.iaload, 1) := by decide +kernel
theorem a_X1_stable_66 : ix_at mT_X1_stable 66 = some (.iconst 2, 1) := by decide +kernel
theorem a_X1_stable_67 : ix_at mT_X1_stable 67 = some (.if_icmp .ne 7, 3) := by decide +kernel
theorem a_X1_stable_70 : ix_at mT_X1_stable 70 = some (.iconst 1, 1) := by decide +kernel
theorem a_X1_stable_71 : ix_at mT_X1_stable 71 = some (.goto 4, 3) := by decide +kernel
theorem a_X1_stable_74 : ix_at mT_X1_stable 74 = some (.iconst 0, 1) := by decide +kernel
theorem a_X1_stable_75 : ix_at mT_X1_stable 75 = some (.bastore, 1) := by decide +kernel
theorem a_X1_stable_76 : ix_at mT_X1_stable 76 = some (.iload_n 3, 1) := by decide +kernel
theorem a_X1_stable_77 : ix_at mT_X1_stable 77 = some (.iconst 1, 1) := by decide +kernel
theorem a_X1_stable_78 : ix_at mT_X1_stable 78 = some (.if_icmp .ne 16, 3) := by decide +kernel
theorem a_X1_stable_81 : ix_at mT_X1_stable 81 = some (.aload_n 0, 1) := by decide +kernel
theorem a_X1_stable_82 : ix_at mT_X1_stable 82 = some (.getfield 28, 3) := by decide +kernel
theorem a_X1_stable_85 : ix_at mT_X1_stable 85 = some (.iload 4, 2) := by decide +kernel
theorem a_X1_stable_87 : ix_at mT_X1_stable 87 = some (.iaload, 1) := by decide +kernel
theorem a_X1_stable_88 : ix_at mT_X1_stable 88 = some (.iconst (-1), 1) := by decide +kernel
theorem a_X1_stable_89 : ix_at mT_X1_stable 89 = some (.if_icmp .ne 5, 3) := by decide +kernel
theorem a_X1_stable_92 : ix_at mT_X1_stable 92 = some (.iload_n 2, 1) := by decide +kernel
theorem a_X1_stable_93 : ix_at mT_X1_stable 93 = some (.istore_n 1, 1) := by decide +kernel
theorem a_X1_stable_94 : ix_at mT_X1_stable 94 = some (.iload_n 3, 1) := by decide +kernel
theorem a_X1_stable_95 : ix_at mT_X1_stable 95 = some (.iconst 2, 1) := by decide +kernel
theorem a_X1_stable_96 : ix_at mT_X1_stable 96 = some (.if_icmp .eq 8, 3) := by decide +kernel
theorem a_X1_stable_99 : ix_at mT_X1_stable 99 = some (.iload_n 3, 1) := by decide +kernel
theorem a_X1_stable_100 : ix_at mT_X1_stable 100 = some (.iconst 3, 1) := by decide +kernel
theorem a_X1_stable_101 : ix_at mT_X1_stable 101 = some (.if_icmp .ne 11, 3) := by decide +kernel
theorem a_X1_stable_104 : ix_at mT_X1_stable 104 = some (.aload_n 0, 1) := by decide +kernel
theorem a_X1_stable_105 : ix_at mT_X1_stable 105 = some (.getfield 28, 3) := by decide +kernel
theorem a_X1_stable_108 : ix_at mT_X1_stable 108 = some (.iload 4, 2) := by decide +kernel
theorem a_X1_stable_110 : ix_at mT_X1_stable 110 = some (.iload_n 3, 1) := by decide +kernel
theorem a_X1_stable_111 : ix_at mT_X1_stable 111 = some (.iastore, 1) := by decide +kernel
theorem a_X1_stable_112 : ix_at mT_X1_stable 112 = some (.iinc 2 (-1), 3) := by decide +kernel
theorem a_X1_stable_115 : ix_at mT_X1_stable 115 = some (.goto (-95), 3) := by decide +kernel
theorem a_X1_stable_118 : ix_at mT_X1_stable 118 = some (.iload_n 1, 1) := by decide +kernel
theorem a_X1_stable_119 : ix_at mT_X1_stable 119 = some (.ireturn, 1) := by decide +kernel
theorem a_X1_committedEntries_0 : ix_at mT_X1_committedEntries 0 = some (.aload_n 0, 1) := by decide +kernel
theorem a_X1_committedEntries_1 : ix_at mT_X1_committedEntries 1 = some (.invokevirtual 91, 3) := by decide +kernel
theorem a_X1_committedEntries_4 : ix_at mT_X1_committedEntries 4 = some (.istore_n 1, 1) := by decide +kernel
theorem a_X1_committedEntries_5 : ix_at mT_X1_committedEntries 5 = some (.iconst 0, 1) := by decide +kernel
theorem a_X1_committedEntries_6 : ix_at mT_X1_committedEntries 6 = some (.istore_n 2, 1) := by decide +kernel
theorem a_X1_committedEntries_7 : ix_at mT_X1_committedEntries 7 = some (.iconst 0, 1) := by decide +kernel
theorem a_X1_committedEntries_8 : ix_at mT_X1_committedEntries 8 = some (.istore_n 3, 1) := by decide +kernel
theorem a_X1_committedEntries_9 : ix_at mT_X1_committedEntries 9 = some (.iload_n 3, 1) := by decide +kernel
theorem a_X1_committedEntries_10 : ix_at mT_X1_committedEntries 10 = some (.iload_n 1, 1) := by decide +kernel
theorem a_X1_committedEntries_11 : ix_at mT_X1_committedEntries 11 = some (.if_icmp .ge 26, 3) := by decide +kernel
theorem a_X1_committedEntries_14 : ix_at mT_X1_committedEntries 14 = some (.iload_n 2, 1) := by decide +kernel
theorem a_X1_committedEntries_15 : ix_at mT_X1_committedEntries 15 = some (.aload_n 0, 1) := by decide +kernel
theorem a_X1_committedEntries_16 : ix_at mT_X1_committedEntries 16 = some (.getfield 24, 3) := by decide +kernel
theorem a_X1_committedEntries_19 : ix_at mT_X1_committedEntries 19 = some (.iload_n 3, 1) := by decide +kernel
theorem a_X1_committedEntries_20 : ix_at mT_X1_committedEntries 20 = some (.baload, 1) := by decide +kernel
theorem a_X1_committedEntries_21 : ix_at mT_X1_committedEntries 21 = some (.ifCond .eq 7, 3) := by decide +kernel
theorem a_X1_committedEntries_24 : ix_at mT_X1_committedEntries 24 = some (.iconst 1, 1) := by decide +kernel
theorem a_X1_committedEntries_25 : ix_at mT_X1_committedEntries 25 = some (.goto 4, 3) := by decide +kernel
theorem a_X1_committedEntries_28 : ix_at mT_X1_committedEntries 28 = some (.iconst 0, 1) := by decide +kernel
theorem a_X1_committedEntries_29 : ix_at mT_X1_committedEntries 29 = some (.iadd, 1) := by decide +kernel
theorem a_X1_committedEntries_30 : ix_at mT_X1_committedEntries 30 = some (.istore_n 2, 1) := by decide +kernel
theorem a_X1_committedEntries_31 : ix_at mT_X1_committedEntries 31 = some (.iinc 3 1, 3) := by decide +kernel
theorem a_X1_committedEntries_34 : ix_at mT_X1_committedEntries 34 = some (.goto (-25), 3) := by decide +kernel
theorem a_X1_committedEntries_37 : ix_at mT_X1_committedEntries 37 = some (.iload_n 2, 1) := by decide +kernel
theorem a_X1_committedEntries_38 : ix_at mT_X1_committedEntries 38 = some (.ireturn, 1) := by decide +kernel
theorem a_X1_firstCommitted_0 : ix_at mT_X1_firstCommitted 0 = some (.aload_n 0, 1) := by decide +kernel
theorem a_X1_firstCommitted_1 : ix_at mT_X1_firstCommitted 1 = some (.invokevirtual 91, 3) := by decide +kernel
theorem a_X1_firstCommitted_4 : ix_at mT_X1_firstCommitted 4 = some (.istore_n 2, 1) := by decide +kernel
theorem a_X1_firstCommitted_5 : ix_at mT_X1_firstCommitted 5 = some (.iload_n 1, 1) := by decide +kernel
theorem a_X1_firstCommitted_6 : ix_at mT_X1_firstCommitted 6 = some (.iconst 0, 1) := by decide +kernel
theorem a_X1_firstCommitted_7 : ix_at mT_X1_firstCommitted 7 = some (.invokestatic 95, 3) := by decide +kernel
theorem a_X1_firstCommitted_10 : ix_at mT_X1_firstCommitted 10 = some (.istore_n 3, 1) := by decide +kernel
theorem a_X1_firstCommitted_11 : ix_at mT_X1_firstCommitted 11 = some (.iload_n 3, 1) := by decide +kernel
theorem a_X1_firstCommitted_12 : ix_at mT_X1_firstCommitted 12 = some (.iload_n 2, 1) := by decide +kernel
theorem a_X1_firstCommitted_13 : ix_at mT_X1_firstCommitted 13 = some (.if_icmp .ge 20, 3) := by decide +kernel
theorem a_X1_firstCommitted_16 : ix_at mT_X1_firstCommitted 16 = some (.aload_n 0, 1) := by decide +kernel
theorem a_X1_firstCommitted_17 : ix_at mT_X1_firstCommitted 17 = some (.getfield 24, 3) := by decide +kernel
theorem a_X1_firstCommitted_20 : ix_at mT_X1_firstCommitted 20 = some (.iload_n 3, 1) := by decide +kernel
theorem a_X1_firstCommitted_21 : ix_at mT_X1_firstCommitted 21 = some (.baload, 1) := by decide +kernel
theorem a_X1_firstCommitted_22 : ix_at mT_X1_firstCommitted 22 = some (.ifCond .eq 5, 3) := by decide +kernel
theorem a_X1_firstCommitted_25 : ix_at mT_X1_firstCommitted 25 = some (.iload_n 3, 1) := by decide +kernel
theorem a_X1_firstCommitted_26 : ix_at mT_X1_firstCommitted 26 = some (.ireturn, 1) := by decide +kernel
theorem a_X1_firstCommitted_27 : ix_at mT_X1_firstCommitted 27 = some (.iinc 3 1, 3) := by decide +kernel
theorem a_X1_firstCommitted_30 : ix_at mT_X1_firstCommitted 30 = some (.goto (-19), 3) := by decide +kernel
theorem a_X1_firstCommitted_33 : ix_at mT_X1_firstCommitted 33 = some (.iconst (-1), 1) := by decide +kernel
theorem a_X1_firstCommitted_34 : ix_at mT_X1_firstCommitted 34 = some (.ireturn, 1) := by decide +kernel
theorem a_X1_firstSeen_0 : ix_at mT_X1_firstSeen 0 = some (.iload_n 1, 1) := by decide +kernel
theorem a_X1_firstSeen_1 : ix_at mT_X1_firstSeen 1 = some (.iconst 0, 1) := by decide +kernel
theorem a_X1_firstSeen_2 : ix_at mT_X1_firstSeen 2 = some (.invokestatic 95, 3) := by decide +kernel
theorem a_X1_firstSeen_5 : ix_at mT_X1_firstSeen 5 = some (.istore_n 2, 1) := by decide +kernel
theorem a_X1_firstSeen_6 : ix_at mT_X1_firstSeen 6 = some (.iload_n 2, 1) := by decide +kernel
theorem a_X1_firstSeen_7 : ix_at mT_X1_firstSeen 7 = some (.aload_n 0, 1) := by decide +kernel
theorem a_X1_firstSeen_8 : ix_at mT_X1_firstSeen 8 = some (.getfield 34, 3) := by decide +kernel
theorem a_X1_firstSeen_11 : ix_at mT_X1_firstSeen 11 = some (.if_icmp .ge 19, 3) := by decide +kernel
theorem a_X1_firstSeen_14 : ix_at mT_X1_firstSeen 14 = some (.aload_n 0, 1) := by decide +kernel
theorem a_X1_firstSeen_15 : ix_at mT_X1_firstSeen 15 = some (.iload_n 2, 1) := by decide +kernel
theorem a_X1_firstSeen_16 : ix_at mT_X1_firstSeen 16 = some (.invokevirtual 68, 3) := by decide +kernel
theorem a_X1_firstSeen_19 : ix_at mT_X1_firstSeen 19 = some (.ifCond .eq 5, 3) := by decide +kernel
theorem a_X1_firstSeen_22 : ix_at mT_X1_firstSeen 22 = some (.iload_n 2, 1) := by decide +kernel
theorem a_X1_firstSeen_23 : ix_at mT_X1_firstSeen 23 = some (.ireturn, 1) := by decide +kernel
theorem a_X1_firstSeen_24 : ix_at mT_X1_firstSeen 24 = some (.iinc 2 1, 3) := by decide +kernel
theorem a_X1_firstSeen_27 : ix_at mT_X1_firstSeen 27 = some (.goto (-21), 3) := by decide +kernel
theorem a_X1_firstSeen_30 : ix_at mT_X1_firstSeen 30 = some (.iconst (-1), 1) := by decide +kernel
theorem a_X1_firstSeen_31 : ix_at mT_X1_firstSeen 31 = some (.ireturn, 1) := by decide +kernel
theorem a_X1_copyPayload_0 : ix_at mT_X1_copyPayload 0 = some (.aload_n 0, 1) := by decide +kernel
theorem a_X1_copyPayload_1 : ix_at mT_X1_copyPayload 1 = some (.iload_n 1, 1) := by decide +kernel
theorem a_X1_copyPayload_2 : ix_at mT_X1_copyPayload 2 = some (.invokevirtual 55, 3) := by decide +kernel
theorem a_X1_copyPayload_5 : ix_at mT_X1_copyPayload 5 = some (.bipush 14, 2) := by decide +kernel
theorem a_X1_copyPayload_7 : ix_at mT_X1_copyPayload 7 = some (.iadd, 1) := by decide +kernel
theorem a_X1_copyPayload_8 : ix_at mT_X1_copyPayload 8 = some (.istore_n 3, 1) := by decide +kernel
theorem a_X1_copyPayload_9 : ix_at mT_X1_copyPayload 9 = some (.aload_n 0, 1) := by decide +kernel
theorem a_X1_copyPayload_10 : ix_at mT_X1_copyPayload 10 = some (.iload_n 1, 1) := by decide +kernel
theorem a_X1_copyPayload_11 : ix_at mT_X1_copyPayload 11 = some (.iconst 4, 1) := by decide +kernel
theorem a_X1_copyPayload_12 : ix_at mT_X1_copyPayload 12 = some (.iconst 2, 1) := by decide +kernel
theorem a_X1_copyPayload_13 : ix_at mT_X1_copyPayload 13 = some (.invokevirtual 72, 3) := by decide +kernel
theorem a_X1_copyPayload_16 : ix_at mT_X1_copyPayload 16 = some (.bipush 40, 2) := by decide +kernel
theorem a_X1_copyPayload_18 : ix_at mT_X1_copyPayload 18 = some (.invokestatic 86, 3) := by decide +kernel
theorem a_X1_copyPayload_21 : ix_at mT_X1_copyPayload 21 = some (.istore 4, 2) := by decide +kernel
theorem a_X1_copyPayload_23 : ix_at mT_X1_copyPayload 23 = some (.iconst 0, 1) := by decide +kernel
theorem a_X1_copyPayload_24 : ix_at mT_X1_copyPayload 24 = some (.istore 5, 2) := by decide +kernel
theorem a_X1_copyPayload_26 : ix_at mT_X1_copyPayload 26 = some (.iload 5, 2) := by decide +kernel
theorem a_X1_copyPayload_28 : ix_at mT_X1_copyPayload 28 = some (.iload 4, 2) := by decide +kernel
theorem a_X1_copyPayload_30 : ix_at mT_X1_copyPayload 30 = some (.if_icmp .ge 24, 3) := by decide +kernel
theorem a_X1_copyPayload_33 : ix_at mT_X1_copyPayload 33 = some (.aload_n 2, 1) := by decide +kernel
theorem a_X1_copyPayload_34 : ix_at mT_X1_copyPayload 34 = some (.aload_n 0, 1) := by decide +kernel
theorem a_X1_copyPayload_35 : ix_at mT_X1_copyPayload 35 = some (.getfield 14, 3) := by decide +kernel
theorem a_X1_copyPayload_38 : ix_at mT_X1_copyPayload 38 = some (.iload_n 3, 1) := by decide +kernel
theorem a_X1_copyPayload_39 : ix_at mT_X1_copyPayload 39 = some (.iload 5, 2) := by decide +kernel
theorem a_X1_copyPayload_41 : ix_at mT_X1_copyPayload 41 = some (.iadd, 1) := by decide +kernel
theorem a_X1_copyPayload_42 : ix_at mT_X1_copyPayload 42 = some (.invokevirtual 45, 3) := by decide +kernel
theorem a_X1_copyPayload_45 : ix_at mT_X1_copyPayload 45 = some (.invokevirtual 49, 3) := by decide +kernel
theorem a_X1_copyPayload_48 : ix_at mT_X1_copyPayload 48 = some (.iinc 5 1, 3) := by decide +kernel
theorem a_X1_copyPayload_51 : ix_at mT_X1_copyPayload 51 = some (.goto (-25), 3) := by decide +kernel
theorem a_X1_copyPayload_54 : ix_at mT_X1_copyPayload 54 = some (.return_, 1) := by decide +kernel
theorem a_X2_init_0 : ix_at mT_X2_init 0 = some (.aload_n 0, 1) := by decide +kernel
theorem a_X2_init_1 : ix_at mT_X2_init 1 = some (.invokespecial 3, 3) := by decide +kernel
theorem a_X2_init_4 : ix_at mT_X2_init 4 = some (.return_, 1) := by decide +kernel
theorem a_X2_forget_0 : ix_at mT_X2_forget 0 = some (.aload_n 0, 1) := by decide +kernel
theorem a_X2_forget_1 : ix_at mT_X2_forget 1 = some (.iconst (-1), 1) := by decide +kernel
theorem a_X2_forget_2 : ix_at mT_X2_forget 2 = some (.putfield 9, 3) := by decide +kernel
theorem a_X2_forget_5 : ix_at mT_X2_forget 5 = some (.aload_n 0, 1) := by decide +kernel
theorem a_X2_forget_6 : ix_at mT_X2_forget 6 = some (.invokevirtual 15, 3) := by decide +kernel
theorem a_X2_forget_9 : ix_at mT_X2_forget 9 = some (.return_, 1) := by decide +kernel
theorem a_X2_openTransaction_0 : ix_at mT_X2_openTransaction 0 = some (.aload_n 0, 1) := by decide +kernel
theorem a_X2_openTransaction_1 : ix_at mT_X2_openTransaction 1 = some (.iload_n 1, 1) := by decide +kernel
theorem a_X2_openTransaction_2 : ix_at mT_X2_openTransaction 2 = some (.putfield 18, 3) := by decide +kernel
theorem a_X2_openTransaction_5 : ix_at mT_X2_openTransaction 5 = some (.aload_n 0, 1) := by decide +kernel
theorem a_X2_openTransaction_6 : ix_at mT_X2_openTransaction 6 = some (.iload_n 2, 1) := by decide +kernel
theorem a_X2_openTransaction_7 : ix_at mT_X2_openTransaction 7 = some (.putfield 21, 3) := by decide +kernel
theorem a_X2_openTransaction_10 : ix_at mT_X2_openTransaction 10 = some (.aload_n 0, 1) := by decide +kernel
theorem a_X2_openTransaction_11 : ix_at mT_X2_openTransaction 11 = some (.iload_n 3, 1) := by decide +kernel
theorem a_X2_openTransaction_12 : ix_at mT_X2_openTransaction 12 = some (.putfield 24, 3) := by decide +kernel
theorem a_X2_openTransaction_15 : ix_at mT_X2_openTransaction 15 = some (.return_, 1) := by decide +kernel
theorem a_X2_closeTransaction_0 : ix_at mT_X2_closeTransaction 0 = some (.aload_n 0, 1) := by decide +kernel
theorem a_X2_closeTransaction_1 : ix_at mT_X2_closeTransaction 1 = some (.iconst (-1), 1) := by decide +kernel
theorem a_X2_closeTransaction_2 : ix_at mT_X2_closeTransaction 2 = some (.putfield 18, 3) := by decide +kernel
theorem a_X2_closeTransaction_5 : ix_at mT_X2_closeTransaction 5 = some (.aload_n 0, 1) := by decide +kernel
theorem a_X2_closeTransaction_6 : ix_at mT_X2_closeTransaction 6 = some (.iconst (-1), 1) := by decide +kernel
theorem a_X2_closeTransaction_7 : ix_at mT_X2_closeTransaction 7 = some (.putfield 21, 3) := by decide +kernel
theorem a_X2_closeTransaction_10 : ix_at mT_X2_closeTransaction 10 = some (.aload_n 0, 1) := by decide +kernel
theorem a_X2_closeTransaction_11 : ix_at mT_X2_closeTransaction 11 = some (.iconst 0, 1) := by decide +kernel
theorem a_X2_closeTransaction_12 : ix_at mT_X2_closeTransaction 12 = some (.putfield 27, 3) := by decide +kernel
theorem a_X2_closeTransaction_15 : ix_at mT_X2_closeTransaction 15 = some (.aload_n 0, 1) := by decide +kernel
theorem a_X2_closeTransaction_16 : ix_at mT_X2_closeTransaction 16 = some (.iconst 0, 1) := by decide +kernel
theorem a_X2_closeTransaction_17 : ix_at mT_X2_closeTransaction 17 = some (.putfield 30, 3) := by decide +kernel
theorem a_X2_closeTransaction_20 : ix_at mT_X2_closeTransaction 20 = some (.aload_n 0, 1) := by decide +kernel
theorem a_X2_closeTransaction_21 : ix_at mT_X2_closeTransaction 21 = some (.iconst (-1), 1) := by decide +kernel
theorem a_X2_closeTransaction_22 : ix_at mT_X2_closeTransaction 22 = some (.putfield 33, 3) := by decide +kernel
theorem a_X2_closeTransaction_25 : ix_at mT_X2_closeTransaction 25 = some (.return_, 1) := by decide +kernel
theorem a_X2_isOpen_0 : ix_at mT_X2_isOpen 0 = some (.aload_n 0, 1) := by decide +kernel
theorem a_X2_isOpen_1 : ix_at mT_X2_isOpen 1 = some (.getfield 18, 3) := by decide +kernel
theorem a_X2_isOpen_4 : ix_at mT_X2_isOpen 4 = some (.iconst (-1), 1) := by decide +kernel
theorem a_X2_isOpen_5 : ix_at mT_X2_isOpen 5 = some (.if_icmp .eq 7, 3) := by decide +kernel
theorem a_X2_isOpen_8 : ix_at mT_X2_isOpen 8 = some (.iconst 1, 1) := by decide +kernel
theorem a_X2_isOpen_9 : ix_at mT_X2_isOpen 9 = some (.goto 4, 3) := by decide +kernel
theorem a_X2_isOpen_12 : ix_at mT_X2_isOpen 12 = some (.iconst 0, 1) := by decide +kernel
theorem a_X2_isOpen_13 : ix_at mT_X2_isOpen 13 = some (.ireturn, 1) := by decide +kernel
theorem a_X2_hasAdded_0 : ix_at mT_X2_hasAdded 0 = some (.aload_n 0, 1) := by decide +kernel
theorem a_X2_hasAdded_1 : ix_at mT_X2_hasAdded 1 = some (.getfield 27, 3) := by decide +kernel
theorem a_X2_hasAdded_4 : ix_at mT_X2_hasAdded 4 = some (.iload_n 1, 1) := by decide +kernel
theorem a_X2_hasAdded_5 : ix_at mT_X2_hasAdded 5 = some (.ishr, 1) := by decide +kernel
theorem a_X2_hasAdded_6 : ix_at mT_X2_hasAdded 6 = some (.iconst 1, 1) := by decide +kernel
theorem a_X2_hasAdded_7 : ix_at mT_X2_hasAdded 7 = some (.iand, 1) := by decide +kernel
theorem a_X2_hasAdded_8 : ix_at mT_X2_hasAdded 8 = some (.iconst 1, 1) := by decide +kernel
theorem a_X2_hasAdded_9 : ix_at mT_X2_hasAdded 9 = some (.if_icmp .ne 7, 3) := by decide +kernel
theorem a_X2_hasAdded_12 : ix_at mT_X2_hasAdded 12 = some (.iconst 1, 1) := by decide +kernel
theorem a_X2_hasAdded_13 : ix_at mT_X2_hasAdded 13 = some (.goto 4, 3) := by decide +kernel
theorem a_X2_hasAdded_16 : ix_at mT_X2_hasAdded 16 = some (.iconst 0, 1) := by decide +kernel
theorem a_X2_hasAdded_17 : ix_at mT_X2_hasAdded 17 = some (.ireturn, 1) := by decide +kernel
theorem a_X3_init_0 : ix_at mT_X3_init 0 = some (.aload_n 0, 1) := by decide +kernel
theorem a_X3_init_1 : ix_at mT_X3_init 1 = some (.invokespecial 3, 3) := by decide +kernel
theorem a_X3_init_4 : ix_at mT_X3_init 4 = some (.aload_n 0, 1) := by decide +kernel
theorem a_X3_init_5 : ix_at mT_X3_init 5 = some (.sipush 3280, 3) := by decide +kernel
theorem a_X3_init_8 : ix_at mT_X3_init 8 = some (.newarray .int, 2) := by decide +kernel
theorem a_X3_init_10 : ix_at mT_X3_init 10 = some (.putfield 9, 3) := by decide +kernel
theorem a_X3_init_13 : ix_at mT_X3_init 13 = some (.aload_n 0, 1) := by decide +kernel
theorem a_X3_init_14 : ix_at mT_X3_init 14 = some (.sipush 3280, 3) := by decide +kernel
theorem a_X3_init_17 : ix_at mT_X3_init 17 = some (.newarray .int, 2) := by decide +kernel
theorem a_X3_init_19 : ix_at mT_X3_init 19 = some (.putfield 15, 3) := by decide +kernel
theorem a_X3_init_22 : ix_at mT_X3_init 22 = some (.aload_n 0, 1) := by decide +kernel
theorem a_X3_init_23 : ix_at mT_X3_init 23 = some (.bipush 9, 2) := by decide +kernel
theorem a_X3_init_25 : ix_at mT_X3_init 25 = some (.newarray .int, 2) := by decide +kernel
theorem a_X3_init_27 : ix_at mT_X3_init 27 = some (.putfield 18, 3) := by decide +kernel
theorem a_X3_init_30 : ix_at mT_X3_init 30 = some (.return_, 1) := by decide +kernel
theorem a_X3_clear_0 : ix_at mT_X3_clear 0 = some (.aload_n 0, 1) := by decide +kernel
theorem a_X3_clear_1 : ix_at mT_X3_clear 1 = some (.iconst 0, 1) := by decide +kernel
theorem a_X3_clear_2 : ix_at mT_X3_clear 2 = some (.putfield 21, 3) := by decide +kernel
theorem a_X3_clear_5 : ix_at mT_X3_clear 5 = some (.aload_n 0, 1) := by decide +kernel
theorem a_X3_clear_6 : ix_at mT_X3_clear 6 = some (.iconst 0, 1) := by decide +kernel
theorem a_X3_clear_7 : ix_at mT_X3_clear 7 = some (.putfield 25, 3) := by decide +kernel
theorem a_X3_clear_10 : ix_at mT_X3_clear 10 = some (.aload_n 0, 1) := by decide +kernel
theorem a_X3_clear_11 : ix_at mT_X3_clear 11 = some (.getfield 18, 3) := by decide +kernel
theorem a_X3_clear_14 : ix_at mT_X3_clear 14 = some (.iconst 0, 1) := by decide +kernel
theorem a_X3_clear_15 : ix_at mT_X3_clear 15 = some (.invokestatic 28, 3) := by decide +kernel
theorem a_X3_clear_18 : ix_at mT_X3_clear 18 = some (.return_, 1) := by decide +kernel
theorem a_X3_note_0 : ix_at mT_X3_note 0 = some (.aload_n 0, 1) := by decide +kernel
theorem a_X3_note_1 : ix_at mT_X3_note 1 = some (.getfield 21, 3) := by decide +kernel
theorem a_X3_note_4 : ix_at mT_X3_note 4 = some (.sipush 3280, 3) := by decide +kernel
theorem a_X3_note_7 : ix_at mT_X3_note 7 = some (.if_icmp .ge 66, 3) := by decide +kernel
theorem a_X3_note_10 : ix_at mT_X3_note 10 = some (.iload_n 1, 1) := by decide +kernel
theorem a_X3_note_11 : ix_at mT_X3_note 11 = some (.ifCond .lt 62, 3) := by decide +kernel
theorem a_X3_note_14 : ix_at mT_X3_note 14 = some (.iload_n 1, 1) := by decide +kernel
theorem a_X3_note_15 : ix_at mT_X3_note 15 = some (.aload_n 0, 1) := by decide +kernel
theorem a_X3_note_16 : ix_at mT_X3_note 16 = some (.getfield 18, 3) := by decide +kernel
theorem a_X3_note_19 : ix_at mT_X3_note 19 = some (.arraylength, 1) := by decide +kernel
theorem a_X3_note_20 : ix_at mT_X3_note 20 = some (.if_icmp .ge 53, 3) := by decide +kernel
theorem a_X3_note_23 : ix_at mT_X3_note 23 = some (.aload_n 0, 1) := by decide +kernel
theorem a_X3_note_24 : ix_at mT_X3_note 24 = some (.getfield 9, 3) := by decide +kernel
theorem a_X3_note_27 : ix_at mT_X3_note 27 = some (.aload_n 0, 1) := by decide +kernel
theorem a_X3_note_28 : ix_at mT_X3_note 28 = some (.getfield 21, 3) := by decide +kernel
theorem a_X3_note_31 : ix_at mT_X3_note 31 = some (.iload_n 1, 1) := by decide +kernel
theorem a_X3_note_32 : ix_at mT_X3_note 32 = some (.iastore, 1) := by decide +kernel
theorem a_X3_note_33 : ix_at mT_X3_note 33 = some (.aload_n 0, 1) := by decide +kernel
theorem a_X3_note_34 : ix_at mT_X3_note 34 = some (.getfield 15, 3) := by decide +kernel
theorem a_X3_note_37 : ix_at mT_X3_note 37 = some (.aload_n 0, 1) := by decide +kernel
theorem a_X3_note_38 : ix_at mT_X3_note 38 = some (.getfield 21, 3) := by decide +kernel
theorem a_X3_note_41 : ix_at mT_X3_note 41 = some (.iload_n 2, 1) := by decide +kernel
theorem a_X3_note_42 : ix_at mT_X3_note 42 = some (.iastore, 1) := by decide +kernel
theorem a_X3_note_43 : ix_at mT_X3_note 43 = some (.aload_n 0, 1) := by decide +kernel
theorem a_X3_note_44 : ix_at mT_X3_note 44 = some (.dup, 1) := by decide +kernel
theorem a_X3_note_45 : ix_at mT_X3_note 45 = some (.getfield 21, 3) := by decide +kernel
theorem a_X3_note_48 : ix_at mT_X3_note 48 = some (.iconst 1, 1) := by decide +kernel
theorem a_X3_note_49 : ix_at mT_X3_note 49 = some (.iadd, 1) := by decide +kernel
theorem a_X3_note_50 : ix_at mT_X3_note 50 = some (.putfield 21, 3) := by decide +kernel
theorem a_X3_note_53 : ix_at mT_X3_note 53 = some (.aload_n 0, 1) := by decide +kernel
theorem a_X3_note_54 : ix_at mT_X3_note 54 = some (.dup, 1) := by decide +kernel
theorem a_X3_note_55 : ix_at mT_X3_note 55 = some (.getfield 25, 3) := by decide +kernel
theorem a_X3_note_58 : ix_at mT_X3_note 58 = some (.iload_n 2, 1) := by decide +kernel
theorem a_X3_note_59 : ix_at mT_X3_note 59 = some (.iadd, 1) := by decide +kernel
theorem a_X3_note_60 : ix_at mT_X3_note 60 = some (.putfield 25, 3) := by decide +kernel
theorem a_X3_note_63 : ix_at mT_X3_note 63 = some (.aload_n 0, 1) := by decide +kernel
theorem a_X3_note_64 : ix_at mT_X3_note 64 = some (.getfield 18, 3) := by decide +kernel
theorem a_X3_note_67 : ix_at mT_X3_note 67 = some (.iload_n 1, 1) := by decide +kernel
theorem a_X3_note_68 : ix_at mT_X3_note 68 = some (.dup2, 1) := by decide +kernel
theorem a_X3_note_69 : ix_at mT_X3_note 69 = some (.iaload, 1) := by decide +kernel
theorem a_X3_note_70 : ix_at mT_X3_note 70 = some (.iload_n 2, 1) := by decide +kernel
theorem a_X3_note_71 : ix_at mT_X3_note 71 = some (.iadd, 1) := by decide +kernel
theorem a_X3_note_72 : ix_at mT_X3_note 72 = some (.iastore, 1) := by decide +kernel
theorem a_X3_note_73 : ix_at mT_X3_note 73 = some (.return_, 1) := by decide +kernel
theorem a_X3_bytesOf_0 : ix_at mT_X3_bytesOf 0 = some (.iload_n 1, 1) := by decide +kernel
theorem a_X3_bytesOf_1 : ix_at mT_X3_bytesOf 1 = some (.ifCond .lt 21, 3) := by decide +kernel
theorem a_X3_bytesOf_4 : ix_at mT_X3_bytesOf 4 = some (.iload_n 1, 1) := by decide +kernel
theorem a_X3_bytesOf_5 : ix_at mT_X3_bytesOf 5 = some (.aload_n 0, 1) := by decide +kernel
theorem a_X3_bytesOf_6 : ix_at mT_X3_bytesOf 6 = some (.getfield 18, 3) := by decide +kernel
theorem a_X3_bytesOf_9 : ix_at mT_X3_bytesOf 9 = some (.arraylength, 1) := by decide +kernel
theorem a_X3_bytesOf_10 : ix_at mT_X3_bytesOf 10 = some (.if_icmp .ge 12, 3) := by decide +kernel
theorem a_X3_bytesOf_13 : ix_at mT_X3_bytesOf 13 = some (.aload_n 0, 1) := by decide +kernel
theorem a_X3_bytesOf_14 : ix_at mT_X3_bytesOf 14 = some (.getfield 18, 3) := by decide +kernel
theorem a_X3_bytesOf_17 : ix_at mT_X3_bytesOf 17 = some (.iload_n 1, 1) := by decide +kernel
theorem a_X3_bytesOf_18 : ix_at mT_X3_bytesOf 18 = some (.iaload, 1) := by decide +kernel
theorem a_X3_bytesOf_19 : ix_at mT_X3_bytesOf 19 = some (.goto 4, 3) := by decide +kernel
theorem a_X3_bytesOf_22 : ix_at mT_X3_bytesOf 22 = some (.iconst 0, 1) := by decide +kernel
theorem a_X3_bytesOf_23 : ix_at mT_X3_bytesOf 23 = some (.ireturn, 1) := by decide +kernel
theorem a_X3_keptOf_0 : ix_at mT_X3_keptOf 0 = some (.iload_n 2, 1) := by decide +kernel
theorem a_X3_keptOf_1 : ix_at mT_X3_keptOf 1 = some (.istore_n 3, 1) := by decide +kernel
theorem a_X3_keptOf_2 : ix_at mT_X3_keptOf 2 = some (.iconst 0, 1) := by decide +kernel
theorem a_X3_keptOf_3 : ix_at mT_X3_keptOf 3 = some (.istore 4, 2) := by decide +kernel
theorem a_X3_keptOf_5 : ix_at mT_X3_keptOf 5 = some (.iconst 0, 1) := by decide +kernel
theorem a_X3_keptOf_6 : ix_at mT_X3_keptOf 6 = some (.istore 5, 2) := by decide +kernel
theorem a_X3_keptOf_8 : ix_at mT_X3_keptOf 8 = some (.iload 5, 2) := by decide +kernel
theorem a_X3_keptOf_10 : ix_at mT_X3_keptOf 10 = some (.aload_n 0, 1) := by decide +kernel
theorem a_X3_keptOf_11 : ix_at mT_X3_keptOf 11 = some (.getfield 21, 3) := by decide +kernel
theorem a_X3_keptOf_14 : ix_at mT_X3_keptOf 14 = some (.if_icmp .ge 53, 3) := by decide +kernel
theorem a_X3_keptOf_17 : ix_at mT_X3_keptOf 17 = some (.iload_n 3, 1) := by decide +kernel
theorem a_X3_keptOf_18 : ix_at mT_X3_keptOf 18 = some (.ifCond .le 49, 3) := by decide +kernel
theorem a_X3_keptOf_21 : ix_at mT_X3_keptOf 21 = some (.aload_n 0, 1) := by decide +kernel
theorem a_X3_keptOf_22 : ix_at mT_X3_keptOf 22 = some (.getfield 15, 3) := by decide +kernel
theorem a_X3_keptOf_25 : ix_at mT_X3_keptOf 25 = some (.iload 5, 2) := by decide +kernel
theorem a_X3_keptOf_27 : ix_at mT_X3_keptOf 27 = some (.iaload, 1) := by decide +kernel
theorem a_X3_keptOf_28 : ix_at mT_X3_keptOf 28 = some (.iload_n 3, 1) := by decide +kernel
theorem a_X3_keptOf_29 : ix_at mT_X3_keptOf 29 = some (.invokestatic 34, 3) := by decide +kernel
theorem a_X3_keptOf_32 : ix_at mT_X3_keptOf 32 = some (.istore 6, 2) := by decide +kernel
theorem a_X3_keptOf_34 : ix_at mT_X3_keptOf 34 = some (.iload 4, 2) := by decide +kernel
theorem a_X3_keptOf_36 : ix_at mT_X3_keptOf 36 = some (.aload_n 0, 1) := by decide +kernel
theorem a_X3_keptOf_37 : ix_at mT_X3_keptOf 37 = some (.getfield 9, 3) := by decide +kernel
theorem a_X3_keptOf_40 : ix_at mT_X3_keptOf 40 = some (.iload 5, 2) := by decide +kernel
theorem a_X3_keptOf_42 : ix_at mT_X3_keptOf 42 = some (.iaload, 1) := by decide +kernel
theorem a_X3_keptOf_43 : ix_at mT_X3_keptOf 43 = some (.iload_n 1, 1) := by decide +kernel
theorem a_X3_keptOf_44 : ix_at mT_X3_keptOf 44 = some (.if_icmp .ne 8, 3) := by decide +kernel
theorem a_X3_keptOf_47 : ix_at mT_X3_keptOf 47 = some (.iload 6, 2) := by decide +kernel
theorem a_X3_keptOf_49 : ix_at mT_X3_keptOf 49 = some (.goto 4, 3) := by decide +kernel
theorem a_X3_keptOf_52 : ix_at mT_X3_keptOf 52 = some (.iconst 0, 1) := by decide +kernel
theorem a_X3_keptOf_53 : ix_at mT_X3_keptOf 53 = some (.iadd, 1) := by decide +kernel
theorem a_X3_keptOf_54 : ix_at mT_X3_keptOf 54 = some (.istore 4, 2) := by decide +kernel
theorem a_X3_keptOf_56 : ix_at mT_X3_keptOf 56 = some (.iload_n 3, 1) := by decide +kernel
theorem a_X3_keptOf_57 : ix_at mT_X3_keptOf 57 = some (.iload 6, 2) := by decide +kernel
theorem a_X3_keptOf_59 : ix_at mT_X3_keptOf 59 = some (.isub, 1) := by decide +kernel
theorem a_X3_keptOf_60 : ix_at mT_X3_keptOf 60 = some (.istore_n 3, 1) := by decide +kernel
theorem a_X3_keptOf_61 : ix_at mT_X3_keptOf 61 = some (.iinc 5 1, 3) := by decide +kernel
theorem a_X3_keptOf_64 : ix_at mT_X3_keptOf 64 = some (.goto (-56), 3) := by decide +kernel
theorem a_X3_keptOf_67 : ix_at mT_X3_keptOf 67 = some (.iload 4, 2) := by decide +kernel
theorem a_X3_keptOf_69 : ix_at mT_X3_keptOf 69 = some (.ireturn, 1) := by decide +kernel
theorem a_X4_init_0 : ix_at mT_X4_init 0 = some (.aload_n 0, 1) := by decide +kernel
theorem a_X4_init_1 : ix_at mT_X4_init 1 = some (.invokespecial 3, 3) := by decide +kernel
theorem a_X4_init_4 : ix_at mT_X4_init 4 = some (.aload_n 0, 1) := by decide +kernel
theorem a_X4_init_5 : ix_at mT_X4_init 5 = some (.new 9, 3) := by decide +kernel
theorem a_X4_init_8 : ix_at mT_X4_init 8 = some (.dup, 1) := by decide +kernel
theorem a_X4_init_9 : ix_at mT_X4_init 9 = some (.bipush 40, 2) := by decide +kernel
theorem a_X4_init_11 : ix_at mT_X4_init 11 = some (.invokespecial 11, 3) := by decide +kernel
theorem a_X4_init_14 : ix_at mT_X4_init 14 = some (.putfield 14, 3) := by decide +kernel
theorem a_X4_init_17 : ix_at mT_X4_init 17 = some (.aload_n 0, 1) := by decide +kernel
theorem a_X4_init_18 : ix_at mT_X4_init 18 = some (.new 9, 3) := by decide +kernel
theorem a_X4_init_21 : ix_at mT_X4_init 21 = some (.dup, 1) := by decide +kernel
theorem a_X4_init_22 : ix_at mT_X4_init 22 = some (.bipush 40, 2) := by decide +kernel
theorem a_X4_init_24 : ix_at mT_X4_init 24 = some (.invokespecial 11, 3) := by decide +kernel
theorem a_X4_init_27 : ix_at mT_X4_init 27 = some (.putfield 18, 3) := by decide +kernel
theorem a_X4_init_30 : ix_at mT_X4_init 30 = some (.aload_n 0, 1) := by decide +kernel
theorem a_X4_init_31 : ix_at mT_X4_init 31 = some (.new 9, 3) := by decide +kernel
theorem a_X4_init_34 : ix_at mT_X4_init 34 = some (.dup, 1) := by decide +kernel
theorem a_X4_init_35 : ix_at mT_X4_init 35 = some (.iconst 0, 1) := by decide +kernel
theorem a_X4_init_36 : ix_at mT_X4_init 36 = some (.invokespecial 11, 3) := by decide +kernel
theorem a_X4_init_39 : ix_at mT_X4_init 39 = some (.putfield 21, 3) := by decide +kernel
theorem a_X4_init_42 : ix_at mT_X4_init 42 = some (.aload_n 0, 1) := by decide +kernel
theorem a_X4_init_43 : ix_at mT_X4_init 43 = some (.bipush 8, 2) := by decide +kernel
theorem a_X4_init_45 : ix_at mT_X4_init 45 = some (.anewarray 24, 3) := by decide +kernel
theorem a_X4_init_48 : ix_at mT_X4_init 48 = some (.putfield 26, 3) := by decide +kernel
theorem a_X4_init_51 : ix_at mT_X4_init 51 = some (.aload_n 0, 1) := by decide +kernel
theorem a_X4_init_52 : ix_at mT_X4_init 52 = some (.new 9, 3) := by decide +kernel
theorem a_X4_init_55 : ix_at mT_X4_init 55 = some (.dup, 1) := by decide +kernel
theorem a_X4_init_56 : ix_at mT_X4_init 56 = some (.sipush 16000, 3) := by decide +kernel
theorem a_X4_init_59 : ix_at mT_X4_init 59 = some (.invokespecial 11, 3) := by decide +kernel
theorem a_X4_init_62 : ix_at mT_X4_init 62 = some (.putfield 30, 3) := by decide +kernel
theorem a_X4_init_65 : ix_at mT_X4_init 65 = some (.aload_n 0, 1) := by decide +kernel
theorem a_X4_init_66 : ix_at mT_X4_init 66 = some (.new 33, 3) := by decide +kernel
theorem a_X4_init_69 : ix_at mT_X4_init 69 = some (.dup, 1) := by decide +kernel
theorem a_X4_init_70 : ix_at mT_X4_init 70 = some (.invokespecial 35, 3) := by decide +kernel
theorem a_X4_init_73 : ix_at mT_X4_init 73 = some (.putfield 36, 3) := by decide +kernel
theorem a_X4_init_76 : ix_at mT_X4_init 76 = some (.aload_n 0, 1) := by decide +kernel
theorem a_X4_init_77 : ix_at mT_X4_init 77 = some (.bipush 32, 2) := by decide +kernel
theorem a_X4_init_79 : ix_at mT_X4_init 79 = some (.anewarray 40, 3) := by decide +kernel
theorem a_X4_init_82 : ix_at mT_X4_init 82 = some (.putfield 42, 3) := by decide +kernel
theorem a_X4_init_85 : ix_at mT_X4_init 85 = some (.aload_n 0, 1) := by decide +kernel
theorem a_X4_init_86 : ix_at mT_X4_init 86 = some (.bipush 64, 2) := by decide +kernel
theorem a_X4_init_88 : ix_at mT_X4_init 88 = some (.newarray .int, 2) := by decide +kernel
theorem a_X4_init_90 : ix_at mT_X4_init 90 = some (.putfield 46, 3) := by decide +kernel
theorem a_X4_init_93 : ix_at mT_X4_init 93 = some (.iconst 0, 1) := by decide +kernel
theorem a_X4_init_94 : ix_at mT_X4_init 94 = some (.istore_n 1, 1) := by decide +kernel
theorem a_X4_init_95 : ix_at mT_X4_init 95 = some (.iload_n 1, 1) := by decide +kernel
theorem a_X4_init_96 : ix_at mT_X4_init 96 = some (.bipush 8, 2) := by decide +kernel
theorem a_X4_init_98 : ix_at mT_X4_init 98 = some (.if_icmp .ge 22, 3) := by decide +kernel
theorem a_X4_init_101 : ix_at mT_X4_init 101 = some (.aload_n 0, 1) := by decide +kernel
theorem a_X4_init_102 : ix_at mT_X4_init 102 = some (.getfield 26, 3) := by decide +kernel
theorem a_X4_init_105 : ix_at mT_X4_init 105 = some (.iload_n 1, 1) := by decide +kernel
theorem a_X4_init_106 : ix_at mT_X4_init 106 = some (.new 24, 3) := by decide +kernel
theorem a_X4_init_109 : ix_at mT_X4_init 109 = some (.dup, 1) := by decide +kernel
theorem a_X4_init_110 : ix_at mT_X4_init 110 = some (.invokespecial 50, 3) := by decide +kernel
theorem a_X4_init_113 : ix_at mT_X4_init 113 = some (.aastore, 1) := by decide +kernel
theorem a_X4_init_114 : ix_at mT_X4_init 114 = some (.iinc 1 1, 3) := by decide +kernel
theorem a_X4_init_117 : ix_at mT_X4_init 117 = some (.goto (-22), 3) := by decide +kernel
theorem a_X4_init_120 : ix_at mT_X4_init 120 = some (.iconst 0, 1) := by decide +kernel
theorem a_X4_init_121 : ix_at mT_X4_init 121 = some (.istore_n 1, 1) := by decide +kernel
theorem a_X4_init_122 : ix_at mT_X4_init 122 = some (.iload_n 1, 1) := by decide +kernel
theorem a_X4_init_123 : ix_at mT_X4_init 123 = some (.bipush 32, 2) := by decide +kernel
theorem a_X4_init_125 : ix_at mT_X4_init 125 = some (.if_icmp .ge 22, 3) := by decide +kernel
theorem a_X4_init_128 : ix_at mT_X4_init 128 = some (.aload_n 0, 1) := by decide +kernel
theorem a_X4_init_129 : ix_at mT_X4_init 129 = some (.getfield 42, 3) := by decide +kernel
theorem a_X4_init_132 : ix_at mT_X4_init 132 = some (.iload_n 1, 1) := by decide +kernel
theorem a_X4_init_133 : ix_at mT_X4_init 133 = some (.new 40, 3) := by decide +kernel
theorem a_X4_init_136 : ix_at mT_X4_init 136 = some (.dup, 1) := by decide +kernel
theorem a_X4_init_137 : ix_at mT_X4_init 137 = some (.invokespecial 51, 3) := by decide +kernel
theorem a_X4_init_140 : ix_at mT_X4_init 140 = some (.aastore, 1) := by decide +kernel
theorem a_X4_init_141 : ix_at mT_X4_init 141 = some (.iinc 1 1, 3) := by decide +kernel
theorem a_X4_init_144 : ix_at mT_X4_init 144 = some (.goto (-22), 3) := by decide +kernel
theorem a_X4_init_147 : ix_at mT_X4_init 147 = some (.aload_n 0, 1) := by decide +kernel
theorem a_X4_init_148 : ix_at mT_X4_init 148 = some (.iconst 4, 1) := by decide +kernel
theorem a_X4_init_149 : ix_at mT_X4_init 149 = some (.sipush 2000, 3) := by decide +kernel
theorem a_X4_init_152 : ix_at mT_X4_init 152 = some (.bipush 100, 2) := by decide +kernel
theorem a_X4_init_154 : ix_at mT_X4_init 154 = some (.invokevirtual 52, 3) := by decide +kernel
theorem a_X4_init_157 : ix_at mT_X4_init 157 = some (.return_, 1) := by decide +kernel
theorem a_X4_format_0 : ix_at mT_X4_format 0 = some (.iload_n 1, 1) := by decide +kernel
theorem a_X4_format_1 : ix_at mT_X4_format 1 = some (.iconst 1, 1) := by decide +kernel
theorem a_X4_format_2 : ix_at mT_X4_format 2 = some (.if_icmp .lt 34, 3) := by decide +kernel
theorem a_X4_format_5 : ix_at mT_X4_format 5 = some (.iload_n 1, 1) := by decide +kernel
theorem a_X4_format_6 : ix_at mT_X4_format 6 = some (.bipush 8, 2) := by decide +kernel
theorem a_X4_format_8 : ix_at mT_X4_format 8 = some (.if_icmp .gt 28, 3) := by decide +kernel
theorem a_X4_format_11 : ix_at mT_X4_format 11 = some (.iload_n 2, 1) := by decide +kernel
theorem a_X4_format_12 : ix_at mT_X4_format 12 = some (.bipush 100, 2) := by decide +kernel
theorem a_X4_format_14 : ix_at mT_X4_format 14 = some (.if_icmp .lt 22, 3) := by decide +kernel
theorem a_X4_format_17 : ix_at mT_X4_format 17 = some (.iload_n 2, 1) := by decide +kernel
theorem a_X4_format_18 : ix_at mT_X4_format 18 = some (.sipush 4000, 3) := by decide +kernel
theorem a_X4_format_21 : ix_at mT_X4_format 21 = some (.if_icmp .gt 15, 3) := by decide +kernel
theorem a_X4_format_24 : ix_at mT_X4_format 24 = some (.iload_n 3, 1) := by decide +kernel
theorem a_X4_format_25 : ix_at mT_X4_format 25 = some (.iconst 1, 1) := by decide +kernel
theorem a_X4_format_26 : ix_at mT_X4_format 26 = some (.if_icmp .lt 10, 3) := by decide +kernel
theorem a_X4_format_29 : ix_at mT_X4_format 29 = some (.iload_n 3, 1) := by decide +kernel
theorem a_X4_format_30 : ix_at mT_X4_format 30 = some (.sipush 1000, 3) := by decide +kernel
theorem a_X4_format_33 : ix_at mT_X4_format 33 = some (.if_icmp .le 5, 3) := by decide +kernel
theorem a_X4_format_36 : ix_at mT_X4_format 36 = some (.iconst 0, 1) := by decide +kernel
theorem a_X4_format_37 : ix_at mT_X4_format 37 = some (.ireturn, 1) := by decide +kernel
theorem a_X4_format_38 : ix_at mT_X4_format 38 = some (.aload_n 0, 1) := by decide +kernel
theorem a_X4_format_39 : ix_at mT_X4_format 39 = some (.iload_n 1, 1) := by decide +kernel
theorem a_X4_format_40 : ix_at mT_X4_format 40 = some (.iload_n 2, 1) := by decide +kernel
theorem a_X4_format_41 : ix_at mT_X4_format 41 = some (.iload_n 3, 1) := by decide +kernel
theorem a_X4_format_42 : ix_at mT_X4_format 42 = some (.invokevirtual 52, 3) := by decide +kernel
theorem a_X4_format_45 : ix_at mT_X4_format 45 = some (.iconst 1, 1) := by decide +kernel
theorem a_X4_format_46 : ix_at mT_X4_format 46 = some (.ireturn, 1) := by decide +kernel
theorem a_X4_feed_0 : ix_at mT_X4_feed 0 = some (.iload_n 1, 1) := by decide +kernel
theorem a_X4_feed_1 : ix_at mT_X4_feed 1 = some (.iconst 1, 1) := by decide +kernel
theorem a_X4_feed_2 : ix_at mT_X4_feed 2 = some (.if_icmp .lt 23, 3) := by decide +kernel
theorem a_X4_feed_5 : ix_at mT_X4_feed 5 = some (.iload_n 1, 1) := by decide +kernel
theorem a_X4_feed_6 : ix_at mT_X4_feed 6 = some (.bipush 16, 2) := by decide +kernel
theorem a_X4_feed_8 : ix_at mT_X4_feed 8 = some (.if_icmp .gt 17, 3) := by decide +kernel
theorem a_X4_feed_11 : ix_at mT_X4_feed 11 = some (.aload_n 0, 1) := by decide +kernel
theorem a_X4_feed_12 : ix_at mT_X4_feed 12 = some (.getfield 14, 3) := by decide +kernel
theorem a_X4_feed_15 : ix_at mT_X4_feed 15 = some (.getfield 56, 3) := by decide +kernel
theorem a_X4_feed_18 : ix_at mT_X4_feed 18 = some (.iload_n 1, 1) := by decide +kernel
theorem a_X4_feed_19 : ix_at mT_X4_feed 19 = some (.iadd, 1) := by decide +kernel
theorem a_X4_feed_20 : ix_at mT_X4_feed 20 = some (.bipush 40, 2) := by decide +kernel
theorem a_X4_feed_22 : ix_at mT_X4_feed 22 = some (.if_icmp .le 5, 3) := by decide +kernel
theorem a_X4_feed_25 : ix_at mT_X4_feed 25 = some (.iconst (-1), 1) := by decide +kernel
theorem a_X4_feed_26 : ix_at mT_X4_feed 26 = some (.ireturn, 1) := by decide +kernel
theorem a_X4_feed_27 : ix_at mT_X4_feed 27 = some (.iconst 0, 1) := by decide +kernel
theorem a_X4_feed_28 : ix_at mT_X4_feed 28 = some (.istore 6, 2) := by decide +kernel
theorem a_X4_feed_30 : ix_at mT_X4_feed 30 = some (.iload 6, 2) := by decide +kernel
theorem a_X4_feed_32 : ix_at mT_X4_feed 32 = some (.iload_n 1, 1) := by decide +kernel
theorem a_X4_feed_33 : ix_at mT_X4_feed 33 = some (.if_icmp .ge 43, 3) := by decide +kernel
theorem a_X4_feed_36 : ix_at mT_X4_feed 36 = some (.iload 6, 2) := by decide +kernel
theorem a_X4_feed_38 : ix_at mT_X4_feed 38 = some (.bipush 8, 2) := by decide +kernel
theorem a_X4_feed_40 : ix_at mT_X4_feed 40 = some (.if_icmp .ge 7, 3) := by decide +kernel
theorem a_X4_feed_43 : ix_at mT_X4_feed 43 = some (.lload_n 2, 1) := by decide +kernel
theorem a_X4_feed_44 : ix_at mT_X4_feed 44 = some (.goto 5, 3) := by decide +kernel
theorem a_X4_feed_47 : ix_at mT_X4_feed 47 = some (.lload 4, 2) := by decide +kernel
theorem a_X4_feed_49 : ix_at mT_X4_feed 49 = some (.lstore 7, 2) := by decide +kernel
theorem a_X4_feed_51 : ix_at mT_X4_feed 51 = some (.aload_n 0, 1) := by decide +kernel
theorem a_X4_feed_52 : ix_at mT_X4_feed 52 = some (.getfield 14, 3) := by decide +kernel
theorem a_X4_feed_55 : ix_at mT_X4_feed 55 = some (.lload 7, 2) := by decide +kernel
theorem a_X4_feed_57 : ix_at mT_X4_feed 57 = some (.bipush 8, 2) := by decide +kernel
theorem a_X4_feed_59 : ix_at mT_X4_feed 59 = some (.iload 6, 2) := by decide +kernel
theorem a_X4_feed_61 : ix_at mT_X4_feed 61 = some (.bipush 7, 2) := by decide +kernel
theorem a_X4_feed_63 : ix_at mT_X4_feed 63 = some (.iand, 1) := by decide +kernel
theorem a_X4_feed_64 : ix_at mT_X4_feed 64 = some (.imul, 1) := by decide +kernel
theorem a_X4_feed_65 : ix_at mT_X4_feed 65 = some (.lushr, 1) := by decide +kernel
theorem a_X4_feed_66 : ix_at mT_X4_feed 66 = some (.l2i, 1) := by decide +kernel
theorem a_X4_feed_67 : ix_at mT_X4_feed 67 = some (.invokevirtual 60, 3) := by decide +kernel
theorem a_X4_feed_70 : ix_at mT_X4_feed 70 = some (.iinc 6 1, 3) := by decide +kernel
theorem a_X4_feed_73 : ix_at mT_X4_feed 73 = some (.goto (-43), 3) := by decide +kernel
theorem a_X4_feed_76 : ix_at mT_X4_feed 76 = some (.aload_n 0, 1) := by decide +kernel
theorem a_X4_feed_77 : ix_at mT_X4_feed 77 = some (.getfield 14, 3) := by decide +kernel
theorem a_X4_feed_80 : ix_at mT_X4_feed 80 = some (.getfield 56, 3) := by decide +kernel
theorem a_X4_feed_83 : ix_at mT_X4_feed 83 = some (.ireturn, 1) := by decide +kernel
theorem a_X4_register_0 : ix_at mT_X4_register 0 = some (.aload_n 0, 1) := by decide +kernel
theorem a_X4_register_1 : ix_at mT_X4_register 1 = some (.getfield 63, 3) := by decide +kernel
theorem a_X4_register_4 : ix_at mT_X4_register 4 = some (.ifCond .eq 5, 3) := by decide +kernel
theorem a_X4_register_7 : ix_at mT_X4_register 7 = some (.iconst (-1), 1) := by decide +kernel
theorem a_X4_register_8 : ix_at mT_X4_register 8 = some (.ireturn, 1) := by decide +kernel
theorem a_X4_register_9 : ix_at mT_X4_register 9 = some (.aload_n 0, 1) := by decide +kernel
theorem a_X4_register_10 : ix_at mT_X4_register 10 = some (.iload_n 1, 1) := by decide +kernel
theorem a_X4_register_11 : ix_at mT_X4_register 11 = some (.invokevirtual 67, 3) := by decide +kernel
theorem a_X4_register_14 : ix_at mT_X4_register 14 = some (.ifCond .ne 6, 3) := by decide +kernel
theorem a_X4_register_17 : ix_at mT_X4_register 17 = some (.bipush (-2), 2) := by decide +kernel
theorem a_X4_register_19 : ix_at mT_X4_register 19 = some (.ireturn, 1) := by decide +kernel
theorem a_X4_register_20 : ix_at mT_X4_register 20 = some (.aload_n 0, 1) := by decide +kernel
theorem a_X4_register_21 : ix_at mT_X4_register 21 = some (.getfield 42, 3) := by decide +kernel
theorem a_X4_register_24 : ix_at mT_X4_register 24 = some (.iload_n 1, 1) := by decide +kernel
theorem a_X4_register_25 : ix_at mT_X4_register 25 = some (.aaload, 1) := by decide +kernel
theorem a_X4_register_26 : ix_at mT_X4_register 26 = some (.invokevirtual 71, 3) := by decide +kernel
theorem a_X4_register_29 : ix_at mT_X4_register 29 = some (.ifCond .eq 17, 3) := by decide +kernel
theorem a_X4_register_32 : ix_at mT_X4_register 32 = some (.aload_n 0, 1) := by decide +kernel
theorem a_X4_register_33 : ix_at mT_X4_register 33 = some (.iload_n 1, 1) := by decide +kernel
theorem a_X4_register_34 : ix_at mT_X4_register 34 = some (.iconst 0, 1) := by decide +kernel
theorem a_X4_register_35 : ix_at mT_X4_register 35 = some (.invokevirtual 75, 3) := by decide +kernel
theorem a_X4_register_38 : ix_at mT_X4_register 38 = some (.aload_n 0, 1) := by decide +kernel
theorem a_X4_register_39 : ix_at mT_X4_register 39 = some (.iload_n 1, 1) := by decide +kernel
theorem a_X4_register_40 : ix_at mT_X4_register 40 = some (.invokevirtual 79, 3) := by decide +kernel
theorem a_X4_register_43 : ix_at mT_X4_register 43 = some (.goto 14, 3) := by decide +kernel
theorem a_X4_register_46 : ix_at mT_X4_register 46 = some (.aload_n 0, 1) := by decide +kernel
theorem a_X4_register_47 : ix_at mT_X4_register 47 = some (.iconst 0, 1) := by decide +kernel
theorem a_X4_register_48 : ix_at mT_X4_register 48 = some (.invokevirtual 82, 3) := by decide +kernel
theorem a_X4_register_51 : ix_at mT_X4_register 51 = some (.ifCond .ne 6, 3) := by decide +kernel
theorem a_X4_register_54 : ix_at mT_X4_register 54 = some (.bipush (-8), 2) := by decide +kernel
theorem a_X4_register_56 : ix_at mT_X4_register 56 = some (.ireturn, 1) := by decide +kernel
theorem a_X4_register_57 : ix_at mT_X4_register 57 = some (.aload_n 0, 1) := by decide +kernel
theorem a_X4_register_58 : ix_at mT_X4_register 58 = some (.iload_n 1, 1) := by decide +kernel
theorem a_X4_register_59 : ix_at mT_X4_register 59 = some (.invokevirtual 85, 3) := by decide +kernel
theorem a_X4_register_62 : ix_at mT_X4_register 62 = some (.aload_n 0, 1) := by decide +kernel
theorem a_X4_register_63 : ix_at mT_X4_register 63 = some (.getfield 42, 3) := by decide +kernel
theorem a_X4_register_66 : ix_at mT_X4_register 66 = some (.iload_n 1, 1) := by decide +kernel
theorem a_X4_register_67 : ix_at mT_X4_register 67 = some (.aaload, 1) := by decide +kernel
theorem a_X4_register_68 : ix_at mT_X4_register 68 = some (.getfield 88, 3) := by decide +kernel
theorem a_X4_register_71 : ix_at mT_X4_register 71 = some (.ireturn, 1) := by decide +kernel
theorem a_X4_begin_0 : ix_at mT_X4_begin 0 = some (.aload_n 0, 1) := by decide +kernel
theorem a_X4_begin_1 : ix_at mT_X4_begin 1 = some (.iload_n 1, 1) := by decide +kernel
theorem a_X4_begin_2 : ix_at mT_X4_begin 2 = some (.iload_n 2, 1) := by decide +kernel
theorem a_X4_begin_3 : ix_at mT_X4_begin 3 = some (.iconst 1, 1) := by decide +kernel
theorem a_X4_begin_4 : ix_at mT_X4_begin 4 = some (.invokevirtual 91, 3) := by decide +kernel
theorem a_X4_begin_7 : ix_at mT_X4_begin 7 = some (.istore_n 3, 1) := by decide +kernel
theorem a_X4_begin_8 : ix_at mT_X4_begin 8 = some (.iload_n 3, 1) := by decide +kernel
theorem a_X4_begin_9 : ix_at mT_X4_begin 9 = some (.ifCond .eq 5, 3) := by decide +kernel
theorem a_X4_begin_12 : ix_at mT_X4_begin 12 = some (.iload_n 3, 1) := by decide +kernel
theorem a_X4_begin_13 : ix_at mT_X4_begin 13 = some (.ireturn, 1) := by decide +kernel
theorem a_X4_begin_14 : ix_at mT_X4_begin 14 = some (.aload_n 0, 1) := by decide +kernel
theorem a_X4_begin_15 : ix_at mT_X4_begin 15 = some (.getfield 42, 3) := by decide +kernel
theorem a_X4_begin_18 : ix_at mT_X4_begin 18 = some (.iload_n 1, 1) := by decide +kernel
theorem a_X4_begin_19 : ix_at mT_X4_begin 19 = some (.aaload, 1) := by decide +kernel
theorem a_X4_begin_20 : ix_at mT_X4_begin 20 = some (.invokevirtual 71, 3) := by decide +kernel
theorem a_X4_begin_23 : ix_at mT_X4_begin 23 = some (.ifCond .eq 6, 3) := by decide +kernel
theorem a_X4_begin_26 : ix_at mT_X4_begin 26 = some (.bipush (-4), 2) := by decide +kernel
theorem a_X4_begin_28 : ix_at mT_X4_begin 28 = some (.ireturn, 1) := by decide +kernel
theorem a_X4_begin_29 : ix_at mT_X4_begin 29 = some (.aload_n 0, 1) := by decide +kernel
theorem a_X4_begin_30 : ix_at mT_X4_begin 30 = some (.iconst 1, 1) := by decide +kernel
theorem a_X4_begin_31 : ix_at mT_X4_begin 31 = some (.invokevirtual 82, 3) := by decide +kernel
theorem a_X4_begin_34 : ix_at mT_X4_begin 34 = some (.ifCond .ne 6, 3) := by decide +kernel
theorem a_X4_begin_37 : ix_at mT_X4_begin 37 = some (.bipush (-8), 2) := by decide +kernel
theorem a_X4_begin_39 : ix_at mT_X4_begin 39 = some (.ireturn, 1) := by decide +kernel
theorem a_X4_begin_40 : ix_at mT_X4_begin 40 = some (.aload_n 0, 1) := by decide +kernel
theorem a_X4_begin_41 : ix_at mT_X4_begin 41 = some (.getfield 95, 3) := by decide +kernel
theorem a_X4_begin_44 : ix_at mT_X4_begin 44 = some (.istore 4, 2) := by decide +kernel
theorem a_X4_begin_46 : ix_at mT_X4_begin 46 = some (.aload_n 0, 1) := by decide +kernel
theorem a_X4_begin_47 : ix_at mT_X4_begin 47 = some (.iconst 1, 1) := by decide +kernel
theorem a_X4_begin_48 : ix_at mT_X4_begin 48 = some (.iload_n 1, 1) := by decide +kernel
theorem a_X4_begin_49 : ix_at mT_X4_begin 49 = some (.iload_n 2, 1) := by decide +kernel
theorem a_X4_begin_50 : ix_at mT_X4_begin 50 = some (.aload_n 0, 1) := by decide +kernel
theorem a_X4_begin_51 : ix_at mT_X4_begin 51 = some (.getfield 98, 3) := by decide +kernel
theorem a_X4_begin_54 : ix_at mT_X4_begin 54 = some (.iload 4, 2) := by decide +kernel
theorem a_X4_begin_56 : ix_at mT_X4_begin 56 = some (.invokevirtual 101, 3) := by decide +kernel
theorem a_X4_begin_59 : ix_at mT_X4_begin 59 = some (.iload 4, 2) := by decide +kernel
theorem a_X4_begin_61 : ix_at mT_X4_begin 61 = some (.ireturn, 1) := by decide +kernel
theorem a_X4_send_0 : ix_at mT_X4_send 0 = some (.aload_n 0, 1) := by decide +kernel
theorem a_X4_send_1 : ix_at mT_X4_send 1 = some (.iload_n 1, 1) := by decide +kernel
theorem a_X4_send_2 : ix_at mT_X4_send 2 = some (.iload_n 2, 1) := by decide +kernel
theorem a_X4_send_3 : ix_at mT_X4_send 3 = some (.iload_n 3, 1) := by decide +kernel
theorem a_X4_send_4 : ix_at mT_X4_send 4 = some (.iload 4, 2) := by decide +kernel
theorem a_X4_send_6 : ix_at mT_X4_send 6 = some (.iload 5, 2) := by decide +kernel
theorem a_X4_send_8 : ix_at mT_X4_send 8 = some (.invokevirtual 105, 3) := by decide +kernel
theorem a_X4_send_11 : ix_at mT_X4_send 11 = some (.istore 6, 2) := by decide +kernel
theorem a_X4_send_13 : ix_at mT_X4_send 13 = some (.aload_n 0, 1) := by decide +kernel
theorem a_X4_send_14 : ix_at mT_X4_send 14 = some (.getfield 14, 3) := by decide +kernel
theorem a_X4_send_17 : ix_at mT_X4_send 17 = some (.invokevirtual 109, 3) := by decide +kernel
theorem a_X4_send_20 : ix_at mT_X4_send 20 = some (.iload 6, 2) := by decide +kernel
theorem a_X4_send_22 : ix_at mT_X4_send 22 = some (.ireturn, 1) := by decide +kernel
theorem a_X4_later_0 : ix_at mT_X4_later 0 = some (.aload_n 0, 1) := by decide +kernel
theorem a_X4_later_1 : ix_at mT_X4_later 1 = some (.iload_n 1, 1) := by decide +kernel
theorem a_X4_later_2 : ix_at mT_X4_later 2 = some (.iload_n 2, 1) := by decide +kernel
theorem a_X4_later_3 : ix_at mT_X4_later 3 = some (.aload_n 0, 1) := by decide +kernel
theorem a_X4_later_4 : ix_at mT_X4_later 4 = some (.iload_n 3, 1) := by decide +kernel
theorem a_X4_later_5 : ix_at mT_X4_later 5 = some (.iload 4, 2) := by decide +kernel
theorem a_X4_later_7 : ix_at mT_X4_later 7 = some (.invokevirtual 112, 3) := by decide +kernel
theorem a_X4_later_10 : ix_at mT_X4_later 10 = some (.ifCond .eq 12, 3) := by decide +kernel
theorem a_X4_later_13 : ix_at mT_X4_later 13 = some (.iload 5, 2) := by decide +kernel
theorem a_X4_later_15 : ix_at mT_X4_later 15 = some (.ifCond .lt 7, 3) := by decide +kernel
theorem a_X4_later_18 : ix_at mT_X4_later 18 = some (.iconst 1, 1) := by decide +kernel
theorem a_X4_later_19 : ix_at mT_X4_later 19 = some (.goto 4, 3) := by decide +kernel
theorem a_X4_later_22 : ix_at mT_X4_later 22 = some (.iconst 0, 1) := by decide +kernel
theorem a_X4_later_23 : ix_at mT_X4_later 23 = some (.invokevirtual 91, 3) := by decide +kernel
theorem a_X4_later_26 : ix_at mT_X4_later 26 = some (.istore 6, 2) := by decide +kernel
theorem a_X4_later_28 : ix_at mT_X4_later 28 = some (.iload 6, 2) := by decide +kernel
theorem a_X4_later_30 : ix_at mT_X4_later 30 = some (.ifCond .eq 6, 3) := by decide +kernel
theorem a_X4_later_33 : ix_at mT_X4_later 33 = some (.iload 6, 2) := by decide +kernel
theorem a_X4_later_35 : ix_at mT_X4_later 35 = some (.ireturn, 1) := by decide +kernel
theorem a_X4_later_36 : ix_at mT_X4_later 36 = some (.aload_n 0, 1) := by decide +kernel
theorem a_X4_later_37 : ix_at mT_X4_later 37 = some (.getfield 42, 3) := by decide +kernel
theorem a_X4_later_40 : ix_at mT_X4_later 40 = some (.iload_n 1, 1) := by decide +kernel
theorem a_X4_later_41 : ix_at mT_X4_later 41 = some (.aaload, 1) := by decide +kernel
theorem a_X4_later_42 : ix_at mT_X4_later 42 = some (.invokevirtual 71, 3) := by decide +kernel
theorem a_X4_later_45 : ix_at mT_X4_later 45 = some (.ifCond .ne 6, 3) := by decide +kernel
theorem a_X4_later_48 : ix_at mT_X4_later 48 = some (.bipush (-5), 2) := by decide +kernel
theorem a_X4_later_50 : ix_at mT_X4_later 50 = some (.ireturn, 1) := by decide +kernel
theorem a_X4_later_51 : ix_at mT_X4_later 51 = some (.aload_n 0, 1) := by decide +kernel
theorem a_X4_later_52 : ix_at mT_X4_later 52 = some (.iconst 0, 1) := by decide +kernel
theorem a_X4_later_53 : ix_at mT_X4_later 53 = some (.invokevirtual 82, 3) := by decide +kernel
theorem a_X4_later_56 : ix_at mT_X4_later 56 = some (.ifCond .ne 6, 3) := by decide +kernel
theorem a_X4_later_59 : ix_at mT_X4_later 59 = some (.bipush (-8), 2) := by decide +kernel
theorem a_X4_later_61 : ix_at mT_X4_later 61 = some (.ireturn, 1) := by decide +kernel
theorem a_X4_later_62 : ix_at mT_X4_later 62 = some (.aload_n 0, 1) := by decide +kernel
theorem a_X4_later_63 : ix_at mT_X4_later 63 = some (.iconst 3, 1) := by decide +kernel
theorem a_X4_later_64 : ix_at mT_X4_later 64 = some (.iload_n 1, 1) := by decide +kernel
theorem a_X4_later_65 : ix_at mT_X4_later 65 = some (.iload_n 2, 1) := by decide +kernel
theorem a_X4_later_66 : ix_at mT_X4_later 66 = some (.aload_n 0, 1) := by decide +kernel
theorem a_X4_later_67 : ix_at mT_X4_later 67 = some (.iload_n 3, 1) := by decide +kernel
theorem a_X4_later_68 : ix_at mT_X4_later 68 = some (.iload 4, 2) := by decide +kernel
theorem a_X4_later_70 : ix_at mT_X4_later 70 = some (.invokevirtual 116, 3) := by decide +kernel
theorem a_X4_later_73 : ix_at mT_X4_later 73 = some (.iload 5, 2) := by decide +kernel
theorem a_X4_later_75 : ix_at mT_X4_later 75 = some (.invokevirtual 101, 3) := by decide +kernel
theorem a_X4_later_78 : ix_at mT_X4_later 78 = some (.iconst 0, 1) := by decide +kernel
theorem a_X4_later_79 : ix_at mT_X4_later 79 = some (.ireturn, 1) := by decide +kernel
theorem a_X4_end_0 : ix_at mT_X4_end 0 = some (.aload_n 0, 1) := by decide +kernel
theorem a_X4_end_1 : ix_at mT_X4_end 1 = some (.iload_n 1, 1) := by decide +kernel
theorem a_X4_end_2 : ix_at mT_X4_end 2 = some (.iload_n 2, 1) := by decide +kernel
theorem a_X4_end_3 : ix_at mT_X4_end 3 = some (.iconst 1, 1) := by decide +kernel
theorem a_X4_end_4 : ix_at mT_X4_end 4 = some (.invokevirtual 91, 3) := by decide +kernel
theorem a_X4_end_7 : ix_at mT_X4_end 7 = some (.istore 4, 2) := by decide +kernel
theorem a_X4_end_9 : ix_at mT_X4_end 9 = some (.iload 4, 2) := by decide +kernel
theorem a_X4_end_11 : ix_at mT_X4_end 11 = some (.ifCond .eq 6, 3) := by decide +kernel
theorem a_X4_end_14 : ix_at mT_X4_end 14 = some (.iload 4, 2) := by decide +kernel
theorem a_X4_end_16 : ix_at mT_X4_end 16 = some (.ireturn, 1) := by decide +kernel
theorem a_X4_end_17 : ix_at mT_X4_end 17 = some (.aload_n 0, 1) := by decide +kernel
theorem a_X4_end_18 : ix_at mT_X4_end 18 = some (.getfield 42, 3) := by decide +kernel
theorem a_X4_end_21 : ix_at mT_X4_end 21 = some (.iload_n 1, 1) := by decide +kernel
theorem a_X4_end_22 : ix_at mT_X4_end 22 = some (.aaload, 1) := by decide +kernel
theorem a_X4_end_23 : ix_at mT_X4_end 23 = some (.invokevirtual 71, 3) := by decide +kernel
theorem a_X4_end_26 : ix_at mT_X4_end 26 = some (.ifCond .ne 6, 3) := by decide +kernel
theorem a_X4_end_29 : ix_at mT_X4_end 29 = some (.bipush (-5), 2) := by decide +kernel
theorem a_X4_end_31 : ix_at mT_X4_end 31 = some (.ireturn, 1) := by decide +kernel
theorem a_X4_end_32 : ix_at mT_X4_end 32 = some (.aload_n 0, 1) := by decide +kernel
theorem a_X4_end_33 : ix_at mT_X4_end 33 = some (.iload_n 1, 1) := by decide +kernel
theorem a_X4_end_34 : ix_at mT_X4_end 34 = some (.iload_n 3, 1) := by decide +kernel
theorem a_X4_end_35 : ix_at mT_X4_end 35 = some (.invokevirtual 75, 3) := by decide +kernel
theorem a_X4_end_38 : ix_at mT_X4_end 38 = some (.aload_n 0, 1) := by decide +kernel
theorem a_X4_end_39 : ix_at mT_X4_end 39 = some (.iload_n 1, 1) := by decide +kernel
theorem a_X4_end_40 : ix_at mT_X4_end 40 = some (.invokevirtual 79, 3) := by decide +kernel
theorem a_X4_end_43 : ix_at mT_X4_end 43 = some (.iconst 0, 1) := by decide +kernel
theorem a_X4_end_44 : ix_at mT_X4_end 44 = some (.ireturn, 1) := by decide +kernel
theorem a_X4_mark_0 : ix_at mT_X4_mark 0 = some (.aload_n 0, 1) := by decide +kernel
theorem a_X4_mark_1 : ix_at mT_X4_mark 1 = some (.getfield 63, 3) := by decide +kernel
theorem a_X4_mark_4 : ix_at mT_X4_mark 4 = some (.ifCond .eq 5, 3) := by decide +kernel
theorem a_X4_mark_7 : ix_at mT_X4_mark 7 = some (.iconst (-1), 1) := by decide +kernel
theorem a_X4_mark_8 : ix_at mT_X4_mark 8 = some (.ireturn, 1) := by decide +kernel
theorem a_X4_mark_9 : ix_at mT_X4_mark 9 = some (.aload_n 0, 1) := by decide +kernel
theorem a_X4_mark_10 : ix_at mT_X4_mark 10 = some (.iload_n 1, 1) := by decide +kernel
theorem a_X4_mark_11 : ix_at mT_X4_mark 11 = some (.iload_n 2, 1) := by decide +kernel
theorem a_X4_mark_12 : ix_at mT_X4_mark 12 = some (.invokevirtual 112, 3) := by decide +kernel
theorem a_X4_mark_15 : ix_at mT_X4_mark 15 = some (.ifCond .eq 7, 3) := by decide +kernel
theorem a_X4_mark_18 : ix_at mT_X4_mark 18 = some (.iload_n 3, 1) := by decide +kernel
theorem a_X4_mark_19 : ix_at mT_X4_mark 19 = some (.ifCond .ge 6, 3) := by decide +kernel
theorem a_X4_mark_22 : ix_at mT_X4_mark 22 = some (.bipush (-2), 2) := by decide +kernel
theorem a_X4_mark_24 : ix_at mT_X4_mark 24 = some (.ireturn, 1) := by decide +kernel
theorem a_X4_mark_25 : ix_at mT_X4_mark 25 = some (.aload_n 0, 1) := by decide +kernel
theorem a_X4_mark_26 : ix_at mT_X4_mark 26 = some (.iconst 0, 1) := by decide +kernel
theorem a_X4_mark_27 : ix_at mT_X4_mark 27 = some (.invokevirtual 82, 3) := by decide +kernel
theorem a_X4_mark_30 : ix_at mT_X4_mark 30 = some (.ifCond .ne 6, 3) := by decide +kernel
theorem a_X4_mark_33 : ix_at mT_X4_mark 33 = some (.bipush (-8), 2) := by decide +kernel
theorem a_X4_mark_35 : ix_at mT_X4_mark 35 = some (.ireturn, 1) := by decide +kernel
theorem a_X4_mark_36 : ix_at mT_X4_mark 36 = some (.aload_n 0, 1) := by decide +kernel
theorem a_X4_mark_37 : ix_at mT_X4_mark 37 = some (.bipush 6, 2) := by decide +kernel
theorem a_X4_mark_39 : ix_at mT_X4_mark 39 = some (.iconst 0, 1) := by decide +kernel
theorem a_X4_mark_40 : ix_at mT_X4_mark 40 = some (.iconst 0, 1) := by decide +kernel
theorem a_X4_mark_41 : ix_at mT_X4_mark 41 = some (.aload_n 0, 1) := by decide +kernel
theorem a_X4_mark_42 : ix_at mT_X4_mark 42 = some (.iload_n 1, 1) := by decide +kernel
theorem a_X4_mark_43 : ix_at mT_X4_mark 43 = some (.iload_n 2, 1) := by decide +kernel
theorem a_X4_mark_44 : ix_at mT_X4_mark 44 = some (.invokevirtual 116, 3) := by decide +kernel
theorem a_X4_mark_47 : ix_at mT_X4_mark 47 = some (.iload_n 3, 1) := by decide +kernel
theorem a_X4_mark_48 : ix_at mT_X4_mark 48 = some (.invokevirtual 101, 3) := by decide +kernel
theorem a_X4_mark_51 : ix_at mT_X4_mark 51 = some (.iconst 0, 1) := by decide +kernel
theorem a_X4_mark_52 : ix_at mT_X4_mark 52 = some (.ireturn, 1) := by decide +kernel
theorem a_X4_marked_0 : ix_at mT_X4_marked 0 = some (.aload_n 0, 1) := by decide +kernel
theorem a_X4_marked_1 : ix_at mT_X4_marked 1 = some (.getfield 63, 3) := by decide +kernel
theorem a_X4_marked_4 : ix_at mT_X4_marked 4 = some (.ifCond .ne 12, 3) := by decide +kernel
theorem a_X4_marked_7 : ix_at mT_X4_marked 7 = some (.aload_n 0, 1) := by decide +kernel
theorem a_X4_marked_8 : ix_at mT_X4_marked 8 = some (.iload_n 1, 1) := by decide +kernel
theorem a_X4_marked_9 : ix_at mT_X4_marked 9 = some (.iload_n 2, 1) := by decide +kernel
theorem a_X4_marked_10 : ix_at mT_X4_marked 10 = some (.invokevirtual 112, 3) := by decide +kernel
theorem a_X4_marked_13 : ix_at mT_X4_marked 13 = some (.ifCond .ne 5, 3) := by decide +kernel
theorem a_X4_marked_16 : ix_at mT_X4_marked 16 = some (.iconst (-1), 1) := by decide +kernel
theorem a_X4_marked_17 : ix_at mT_X4_marked 17 = some (.ireturn, 1) := by decide +kernel
theorem a_X4_marked_18 : ix_at mT_X4_marked 18 = some (.aload_n 0, 1) := by decide +kernel
theorem a_X4_marked_19 : ix_at mT_X4_marked 19 = some (.getfield 46, 3) := by decide +kernel
theorem a_X4_marked_22 : ix_at mT_X4_marked 22 = some (.aload_n 0, 1) := by decide +kernel
theorem a_X4_marked_23 : ix_at mT_X4_marked 23 = some (.iload_n 1, 1) := by decide +kernel
theorem a_X4_marked_24 : ix_at mT_X4_marked 24 = some (.iload_n 2, 1) := by decide +kernel
theorem a_X4_marked_25 : ix_at mT_X4_marked 25 = some (.invokevirtual 116, 3) := by decide +kernel
theorem a_X4_marked_28 : ix_at mT_X4_marked 28 = some (.iaload, 1) := by decide +kernel
theorem a_X4_marked_29 : ix_at mT_X4_marked 29 = some (.ireturn, 1) := by decide +kernel
theorem a_X4_tick_0 : ix_at mT_X4_tick 0 = some (.iload_n 1, 1) := by decide +kernel
theorem a_X4_tick_1 : ix_at mT_X4_tick 1 = some (.ifCond .lt 21, 3) := by decide +kernel
theorem a_X4_tick_4 : ix_at mT_X4_tick 4 = some (.iload_n 1, 1) := by decide +kernel
theorem a_X4_tick_5 : ix_at mT_X4_tick 5 = some (.sipush 1000, 3) := by decide +kernel
theorem a_X4_tick_8 : ix_at mT_X4_tick 8 = some (.if_icmp .gt 14, 3) := by decide +kernel
theorem a_X4_tick_11 : ix_at mT_X4_tick 11 = some (.aload_n 0, 1) := by decide +kernel
theorem a_X4_tick_12 : ix_at mT_X4_tick 12 = some (.getfield 98, 3) := by decide +kernel
theorem a_X4_tick_15 : ix_at mT_X4_tick 15 = some (.iload_n 1, 1) := by decide +kernel
theorem a_X4_tick_16 : ix_at mT_X4_tick 16 = some (.iadd, 1) := by decide +kernel
theorem a_X4_tick_17 : ix_at mT_X4_tick 17 = some (.ldc 120, 2) := by decide +kernel
theorem a_X4_tick_19 : ix_at mT_X4_tick 19 = some (.if_icmp .le 6, 3) := by decide +kernel
theorem a_X4_tick_22 : ix_at mT_X4_tick 22 = some (.bipush (-2), 2) := by decide +kernel
theorem a_X4_tick_24 : ix_at mT_X4_tick 24 = some (.ireturn, 1) := by decide +kernel
theorem a_X4_tick_25 : ix_at mT_X4_tick 25 = some (.aload_n 0, 1) := by decide +kernel
theorem a_X4_tick_26 : ix_at mT_X4_tick 26 = some (.dup, 1) := by decide +kernel
theorem a_X4_tick_27 : ix_at mT_X4_tick 27 = some (.getfield 98, 3) := by decide +kernel
theorem a_X4_tick_30 : ix_at mT_X4_tick 30 = some (.iload_n 1, 1) := by decide +kernel
theorem a_X4_tick_31 : ix_at mT_X4_tick 31 = some (.iadd, 1) := by decide +kernel
theorem a_X4_tick_32 : ix_at mT_X4_tick 32 = some (.putfield 98, 3) := by decide +kernel
theorem a_X4_tick_35 : ix_at mT_X4_tick 35 = some (.aload_n 0, 1) := by decide +kernel
theorem a_X4_tick_36 : ix_at mT_X4_tick 36 = some (.getfield 63, 3) := by decide +kernel
theorem a_X4_tick_39 : ix_at mT_X4_tick 39 = some (.ifCond .eq 7, 3) := by decide +kernel
theorem a_X4_tick_42 : ix_at mT_X4_tick 42 = some (.iconst 0, 1) := by decide +kernel
theorem a_X4_tick_43 : ix_at mT_X4_tick 43 = some (.goto 7, 3) := by decide +kernel
theorem a_X4_tick_46 : ix_at mT_X4_tick 46 = some (.aload_n 0, 1) := by decide +kernel
theorem a_X4_tick_47 : ix_at mT_X4_tick 47 = some (.invokevirtual 121, 3) := by decide +kernel
theorem a_X4_tick_50 : ix_at mT_X4_tick 50 = some (.ireturn, 1) := by decide +kernel
theorem a_X4_fetch_0 : ix_at mT_X4_fetch 0 = some (.aload_n 0, 1) := by decide +kernel
theorem a_X4_fetch_1 : ix_at mT_X4_fetch 1 = some (.getfield 18, 3) := by decide +kernel
theorem a_X4_fetch_4 : ix_at mT_X4_fetch 4 = some (.invokevirtual 109, 3) := by decide +kernel
theorem a_X4_fetch_7 : ix_at mT_X4_fetch 7 = some (.aload_n 0, 1) := by decide +kernel
theorem a_X4_fetch_8 : ix_at mT_X4_fetch 8 = some (.getfield 63, 3) := by decide +kernel
theorem a_X4_fetch_11 : ix_at mT_X4_fetch 11 = some (.ifCond .ne 15, 3) := by decide +kernel
theorem a_X4_fetch_14 : ix_at mT_X4_fetch 14 = some (.aload_n 0, 1) := by decide +kernel
theorem a_X4_fetch_15 : ix_at mT_X4_fetch 15 = some (.iload_n 1, 1) := by decide +kernel
theorem a_X4_fetch_16 : ix_at mT_X4_fetch 16 = some (.invokevirtual 125, 3) := by decide +kernel
theorem a_X4_fetch_19 : ix_at mT_X4_fetch 19 = some (.ifCond .eq 7, 3) := by decide +kernel
theorem a_X4_fetch_22 : ix_at mT_X4_fetch 22 = some (.iload_n 2, 1) := by decide +kernel
theorem a_X4_fetch_23 : ix_at mT_X4_fetch 23 = some (.ifCond .ge 5, 3) := by decide +kernel
theorem a_X4_fetch_26 : ix_at mT_X4_fetch 26 = some (.iconst (-1), 1) := by decide +kernel
theorem a_X4_fetch_27 : ix_at mT_X4_fetch 27 = some (.ireturn, 1) := by decide +kernel
theorem a_X4_fetch_28 : ix_at mT_X4_fetch 28 = some (.aload_n 0, 1) := by decide +kernel
theorem a_X4_fetch_29 : ix_at mT_X4_fetch 29 = some (.getfield 26, 3) := by decide +kernel
theorem a_X4_fetch_32 : ix_at mT_X4_fetch 32 = some (.iload_n 1, 1) := by decide +kernel
theorem a_X4_fetch_33 : ix_at mT_X4_fetch 33 = some (.aaload, 1) := by decide +kernel
theorem a_X4_fetch_34 : ix_at mT_X4_fetch 34 = some (.astore 4, 2) := by decide +kernel
theorem a_X4_fetch_36 : ix_at mT_X4_fetch 36 = some (.iload_n 3, 1) := by decide +kernel
theorem a_X4_fetch_37 : ix_at mT_X4_fetch 37 = some (.ifCond .eq 12, 3) := by decide +kernel
theorem a_X4_fetch_40 : ix_at mT_X4_fetch 40 = some (.aload 4, 2) := by decide +kernel
theorem a_X4_fetch_42 : ix_at mT_X4_fetch 42 = some (.iload_n 2, 1) := by decide +kernel
theorem a_X4_fetch_43 : ix_at mT_X4_fetch 43 = some (.invokevirtual 128, 3) := by decide +kernel
theorem a_X4_fetch_46 : ix_at mT_X4_fetch 46 = some (.goto 9, 3) := by decide +kernel
theorem a_X4_fetch_49 : ix_at mT_X4_fetch 49 = some (.aload 4, 2) := by decide +kernel
theorem a_X4_fetch_51 : ix_at mT_X4_fetch 51 = some (.iload_n 2, 1) := by decide +kernel
theorem a_X4_fetch_52 : ix_at mT_X4_fetch 52 = some (.invokevirtual 132, 3) := by decide +kernel
theorem a_X4_fetch_55 : ix_at mT_X4_fetch 55 = some (.istore 5, 2) := by decide +kernel
theorem a_X4_fetch_57 : ix_at mT_X4_fetch 57 = some (.iload 5, 2) := by decide +kernel
theorem a_X4_fetch_59 : ix_at mT_X4_fetch 59 = some (.iconst (-1), 1) := by decide +kernel
theorem a_X4_fetch_60 : ix_at mT_X4_fetch 60 = some (.if_icmp .eq 14, 3) := by decide +kernel
theorem a_X4_fetch_63 : ix_at mT_X4_fetch 63 = some (.aload 4, 2) := by decide +kernel
theorem a_X4_fetch_65 : ix_at mT_X4_fetch 65 = some (.iload 5, 2) := by decide +kernel
theorem a_X4_fetch_67 : ix_at mT_X4_fetch 67 = some (.aload_n 0, 1) := by decide +kernel
theorem a_X4_fetch_68 : ix_at mT_X4_fetch 68 = some (.getfield 18, 3) := by decide +kernel
theorem a_X4_fetch_71 : ix_at mT_X4_fetch 71 = some (.invokevirtual 135, 3) := by decide +kernel
theorem a_X4_fetch_74 : ix_at mT_X4_fetch 74 = some (.iload 5, 2) := by decide +kernel
theorem a_X4_fetch_76 : ix_at mT_X4_fetch 76 = some (.ireturn, 1) := by decide +kernel
theorem a_X4_answer_0 : ix_at mT_X4_answer 0 = some (.aload_n 0, 1) := by decide +kernel
theorem a_X4_answer_1 : ix_at mT_X4_answer 1 = some (.getfield 18, 3) := by decide +kernel
theorem a_X4_answer_4 : ix_at mT_X4_answer 4 = some (.iload_n 1, 1) := by decide +kernel
theorem a_X4_answer_5 : ix_at mT_X4_answer 5 = some (.invokevirtual 139, 3) := by decide +kernel
theorem a_X4_answer_8 : ix_at mT_X4_answer 8 = some (.ireturn, 1) := by decide +kernel
theorem a_X4_sync_0 : ix_at mT_X4_sync 0 = some (.aload_n 0, 1) := by decide +kernel
theorem a_X4_sync_1 : ix_at mT_X4_sync 1 = some (.getfield 63, 3) := by decide +kernel
theorem a_X4_sync_4 : ix_at mT_X4_sync 4 = some (.ifCond .eq 5, 3) := by decide +kernel
theorem a_X4_sync_7 : ix_at mT_X4_sync 7 = some (.iconst (-1), 1) := by decide +kernel
theorem a_X4_sync_8 : ix_at mT_X4_sync 8 = some (.ireturn, 1) := by decide +kernel
theorem a_X4_sync_9 : ix_at mT_X4_sync 9 = some (.aload_n 0, 1) := by decide +kernel
theorem a_X4_sync_10 : ix_at mT_X4_sync 10 = some (.getfield 36, 3) := by decide +kernel
theorem a_X4_sync_13 : ix_at mT_X4_sync 13 = some (.getfield 142, 3) := by decide +kernel
theorem a_X4_sync_16 : ix_at mT_X4_sync 16 = some (.istore_n 1, 1) := by decide +kernel
theorem a_X4_sync_17 : ix_at mT_X4_sync 17 = some (.aload_n 0, 1) := by decide +kernel
theorem a_X4_sync_18 : ix_at mT_X4_sync 18 = some (.getfield 36, 3) := by decide +kernel
theorem a_X4_sync_21 : ix_at mT_X4_sync 21 = some (.invokevirtual 145, 3) := by decide +kernel
theorem a_X4_sync_24 : ix_at mT_X4_sync 24 = some (.iload_n 1, 1) := by decide +kernel
theorem a_X4_sync_25 : ix_at mT_X4_sync 25 = some (.ireturn, 1) := by decide +kernel
theorem a_X4_crash_0 : ix_at mT_X4_crash 0 = some (.aload_n 0, 1) := by decide +kernel
theorem a_X4_crash_1 : ix_at mT_X4_crash 1 = some (.getfield 63, 3) := by decide +kernel
theorem a_X4_crash_4 : ix_at mT_X4_crash 4 = some (.ifCond .eq 5, 3) := by decide +kernel
theorem a_X4_crash_7 : ix_at mT_X4_crash 7 = some (.iconst (-1), 1) := by decide +kernel
theorem a_X4_crash_8 : ix_at mT_X4_crash 8 = some (.ireturn, 1) := by decide +kernel
theorem a_X4_crash_9 : ix_at mT_X4_crash 9 = some (.aload_n 0, 1) := by decide +kernel
theorem a_X4_crash_10 : ix_at mT_X4_crash 10 = some (.getfield 36, 3) := by decide +kernel
theorem a_X4_crash_13 : ix_at mT_X4_crash 13 = some (.getfield 142, 3) := by decide +kernel
theorem a_X4_crash_16 : ix_at mT_X4_crash 16 = some (.istore_n 2, 1) := by decide +kernel
theorem a_X4_crash_17 : ix_at mT_X4_crash 17 = some (.iload_n 1, 1) := by decide +kernel
theorem a_X4_crash_18 : ix_at mT_X4_crash 18 = some (.ifCond .lt 8, 3) := by decide +kernel
theorem a_X4_crash_21 : ix_at mT_X4_crash 21 = some (.iload_n 1, 1) := by decide +kernel
theorem a_X4_crash_22 : ix_at mT_X4_crash 22 = some (.iload_n 2, 1) := by decide +kernel
theorem a_X4_crash_23 : ix_at mT_X4_crash 23 = some (.if_icmp .le 6, 3) := by decide +kernel
theorem a_X4_crash_26 : ix_at mT_X4_crash 26 = some (.bipush (-2), 2) := by decide +kernel
theorem a_X4_crash_28 : ix_at mT_X4_crash 28 = some (.ireturn, 1) := by decide +kernel
theorem a_X4_crash_29 : ix_at mT_X4_crash 29 = some (.iconst 0, 1) := by decide +kernel
theorem a_X4_crash_30 : ix_at mT_X4_crash 30 = some (.istore_n 3, 1) := by decide +kernel
theorem a_X4_crash_31 : ix_at mT_X4_crash 31 = some (.iload_n 3, 1) := by decide +kernel
theorem a_X4_crash_32 : ix_at mT_X4_crash 32 = some (.aload_n 0, 1) := by decide +kernel
theorem a_X4_crash_33 : ix_at mT_X4_crash 33 = some (.getfield 146, 3) := by decide +kernel
theorem a_X4_crash_36 : ix_at mT_X4_crash 36 = some (.if_icmp .gt 45, 3) := by decide +kernel
theorem a_X4_crash_39 : ix_at mT_X4_crash 39 = some (.aload_n 0, 1) := by decide +kernel
theorem a_X4_crash_40 : ix_at mT_X4_crash 40 = some (.iload_n 3, 1) := by decide +kernel
theorem a_X4_crash_41 : ix_at mT_X4_crash 41 = some (.invokevirtual 149, 3) := by decide +kernel
theorem a_X4_crash_44 : ix_at mT_X4_crash 44 = some (.astore 4, 2) := by decide +kernel
theorem a_X4_crash_46 : ix_at mT_X4_crash 46 = some (.aload 4, 2) := by decide +kernel
theorem a_X4_crash_48 : ix_at mT_X4_crash 48 = some (.aload 4, 2) := by decide +kernel
theorem a_X4_crash_50 : ix_at mT_X4_crash 50 = some (.getfield 56, 3) := by decide +kernel
theorem a_X4_crash_53 : ix_at mT_X4_crash 53 = some (.aload_n 0, 1) := by decide +kernel
theorem a_X4_crash_54 : ix_at mT_X4_crash 54 = some (.getfield 36, 3) := by decide +kernel
theorem a_X4_crash_57 : ix_at mT_X4_crash 57 = some (.iload_n 3, 1) := by decide +kernel
theorem a_X4_crash_58 : ix_at mT_X4_crash 58 = some (.invokevirtual 153, 3) := by decide +kernel
theorem a_X4_crash_61 : ix_at mT_X4_crash 61 = some (.isub, 1) := by decide +kernel
theorem a_X4_crash_62 : ix_at mT_X4_crash 62 = some (.aload_n 0, 1) := by decide +kernel
theorem a_X4_crash_63 : ix_at mT_X4_crash 63 = some (.getfield 36, 3) := by decide +kernel
theorem a_X4_crash_66 : ix_at mT_X4_crash 66 = some (.iload_n 3, 1) := by decide +kernel
theorem a_X4_crash_67 : ix_at mT_X4_crash 67 = some (.iload_n 1, 1) := by decide +kernel
theorem a_X4_crash_68 : ix_at mT_X4_crash 68 = some (.invokevirtual 156, 3) := by decide +kernel
theorem a_X4_crash_71 : ix_at mT_X4_crash 71 = some (.iadd, 1) := by decide +kernel
theorem a_X4_crash_72 : ix_at mT_X4_crash 72 = some (.invokevirtual 159, 3) := by decide +kernel
theorem a_X4_crash_75 : ix_at mT_X4_crash 75 = some (.iinc 3 1, 3) := by decide +kernel
theorem a_X4_crash_78 : ix_at mT_X4_crash 78 = some (.goto (-47), 3) := by decide +kernel
theorem a_X4_crash_81 : ix_at mT_X4_crash 81 = some (.iconst 0, 1) := by decide +kernel
theorem a_X4_crash_82 : ix_at mT_X4_crash 82 = some (.istore_n 3, 1) := by decide +kernel
theorem a_X4_crash_83 : ix_at mT_X4_crash 83 = some (.iload_n 3, 1) := by decide +kernel
theorem a_X4_crash_84 : ix_at mT_X4_crash 84 = some (.aload_n 0, 1) := by decide +kernel
theorem a_X4_crash_85 : ix_at mT_X4_crash 85 = some (.getfield 146, 3) := by decide +kernel
theorem a_X4_crash_88 : ix_at mT_X4_crash 88 = some (.if_icmp .ge 18, 3) := by decide +kernel
theorem a_X4_crash_91 : ix_at mT_X4_crash 91 = some (.aload_n 0, 1) := by decide +kernel
theorem a_X4_crash_92 : ix_at mT_X4_crash 92 = some (.getfield 26, 3) := by decide +kernel
theorem a_X4_crash_95 : ix_at mT_X4_crash 95 = some (.iload_n 3, 1) := by decide +kernel
theorem a_X4_crash_96 : ix_at mT_X4_crash 96 = some (.aaload, 1) := by decide +kernel
theorem a_X4_crash_97 : ix_at mT_X4_crash 97 = some (.invokevirtual 162, 3) := by decide +kernel
theorem a_X4_crash_100 : ix_at mT_X4_crash 100 = some (.iinc 3 1, 3) := by decide +kernel
theorem a_X4_crash_103 : ix_at mT_X4_crash 103 = some (.goto (-20), 3) := by decide +kernel
theorem a_X4_crash_106 : ix_at mT_X4_crash 106 = some (.aload_n 0, 1) := by decide +kernel
theorem a_X4_crash_107 : ix_at mT_X4_crash 107 = some (.getfield 36, 3) := by decide +kernel
theorem a_X4_crash_110 : ix_at mT_X4_crash 110 = some (.invokevirtual 145, 3) := by decide +kernel
theorem a_X4_crash_113 : ix_at mT_X4_crash 113 = some (.aload_n 0, 1) := by decide +kernel
theorem a_X4_crash_114 : ix_at mT_X4_crash 114 = some (.invokevirtual 165, 3) := by decide +kernel
theorem a_X4_crash_117 : ix_at mT_X4_crash 117 = some (.aload_n 0, 1) := by decide +kernel
theorem a_X4_crash_118 : ix_at mT_X4_crash 118 = some (.iconst 1, 1) := by decide +kernel
theorem a_X4_crash_119 : ix_at mT_X4_crash 119 = some (.putfield 63, 3) := by decide +kernel
theorem a_X4_crash_122 : ix_at mT_X4_crash 122 = some (.iload_n 2, 1) := by decide +kernel
theorem a_X4_crash_123 : ix_at mT_X4_crash 123 = some (.iload_n 1, 1) := by decide +kernel
theorem a_X4_crash_124 : ix_at mT_X4_crash 124 = some (.isub, 1) := by decide +kernel
theorem a_X4_crash_125 : ix_at mT_X4_crash 125 = some (.ireturn, 1) := by decide +kernel
theorem a_X4_open_0 : ix_at mT_X4_open 0 = some (.aload_n 0, 1) := by decide +kernel
theorem a_X4_open_1 : ix_at mT_X4_open 1 = some (.getfield 63, 3) := by decide +kernel
theorem a_X4_open_4 : ix_at mT_X4_open 4 = some (.ifCond .ne 5, 3) := by decide +kernel
theorem a_X4_open_7 : ix_at mT_X4_open 7 = some (.iconst (-1), 1) := by decide +kernel
theorem a_X4_open_8 : ix_at mT_X4_open 8 = some (.ireturn, 1) := by decide +kernel
theorem a_X4_open_9 : ix_at mT_X4_open 9 = some (.aload_n 0, 1) := by decide +kernel
theorem a_X4_open_10 : ix_at mT_X4_open 10 = some (.iconst 0, 1) := by decide +kernel
theorem a_X4_open_11 : ix_at mT_X4_open 11 = some (.putfield 63, 3) := by decide +kernel
theorem a_X4_open_14 : ix_at mT_X4_open 14 = some (.aload_n 0, 1) := by decide +kernel
theorem a_X4_open_15 : ix_at mT_X4_open 15 = some (.aload_n 0, 1) := by decide +kernel
theorem a_X4_open_16 : ix_at mT_X4_open 16 = some (.getfield 30, 3) := by decide +kernel
theorem a_X4_open_19 : ix_at mT_X4_open 19 = some (.getfield 56, 3) := by decide +kernel
theorem a_X4_open_22 : ix_at mT_X4_open 22 = some (.bipush 16, 2) := by decide +kernel
theorem a_X4_open_24 : ix_at mT_X4_open 24 = some (.irem, 1) := by decide +kernel
theorem a_X4_open_25 : ix_at mT_X4_open 25 = some (.putfield 168, 3) := by decide +kernel
theorem a_X4_open_28 : ix_at mT_X4_open 28 = some (.aload_n 0, 1) := by decide +kernel
theorem a_X4_open_29 : ix_at mT_X4_open 29 = some (.getfield 30, 3) := by decide +kernel
theorem a_X4_open_32 : ix_at mT_X4_open 32 = some (.aload_n 0, 1) := by decide +kernel
theorem a_X4_open_33 : ix_at mT_X4_open 33 = some (.getfield 30, 3) := by decide +kernel
theorem a_X4_open_36 : ix_at mT_X4_open 36 = some (.getfield 56, 3) := by decide +kernel
theorem a_X4_open_39 : ix_at mT_X4_open 39 = some (.aload_n 0, 1) := by decide +kernel
theorem a_X4_open_40 : ix_at mT_X4_open 40 = some (.getfield 168, 3) := by decide +kernel
theorem a_X4_open_43 : ix_at mT_X4_open 43 = some (.isub, 1) := by decide +kernel
theorem a_X4_open_44 : ix_at mT_X4_open 44 = some (.invokevirtual 159, 3) := by decide +kernel
theorem a_X4_open_47 : ix_at mT_X4_open 47 = some (.iconst 0, 1) := by decide +kernel
theorem a_X4_open_48 : ix_at mT_X4_open 48 = some (.istore_n 1, 1) := by decide +kernel
theorem a_X4_open_49 : ix_at mT_X4_open 49 = some (.iload_n 1, 1) := by decide +kernel
theorem a_X4_open_50 : ix_at mT_X4_open 50 = some (.aload_n 0, 1) := by decide +kernel
theorem a_X4_open_51 : ix_at mT_X4_open 51 = some (.getfield 146, 3) := by decide +kernel
theorem a_X4_open_54 : ix_at mT_X4_open 54 = some (.if_icmp .ge 27, 3) := by decide +kernel
theorem a_X4_open_57 : ix_at mT_X4_open 57 = some (.aload_n 0, 1) := by decide +kernel
theorem a_X4_open_58 : ix_at mT_X4_open 58 = some (.dup, 1) := by decide +kernel
theorem a_X4_open_59 : ix_at mT_X4_open 59 = some (.getfield 168, 3) := by decide +kernel
theorem a_X4_open_62 : ix_at mT_X4_open 62 = some (.aload_n 0, 1) := by decide +kernel
theorem a_X4_open_63 : ix_at mT_X4_open 63 = some (.getfield 26, 3) := by decide +kernel
theorem a_X4_open_66 : ix_at mT_X4_open 66 = some (.iload_n 1, 1) := by decide +kernel
theorem a_X4_open_67 : ix_at mT_X4_open 67 = some (.aaload, 1) := by decide +kernel
theorem a_X4_open_68 : ix_at mT_X4_open 68 = some (.invokevirtual 171, 3) := by decide +kernel
theorem a_X4_open_71 : ix_at mT_X4_open 71 = some (.iadd, 1) := by decide +kernel
theorem a_X4_open_72 : ix_at mT_X4_open 72 = some (.putfield 168, 3) := by decide +kernel
theorem a_X4_open_75 : ix_at mT_X4_open 75 = some (.iinc 1 1, 3) := by decide +kernel
theorem a_X4_open_78 : ix_at mT_X4_open 78 = some (.goto (-29), 3) := by decide +kernel
theorem a_X4_open_81 : ix_at mT_X4_open 81 = some (.iconst 0, 1) := by decide +kernel
theorem a_X4_open_82 : ix_at mT_X4_open 82 = some (.istore_n 1, 1) := by decide +kernel
theorem a_X4_open_83 : ix_at mT_X4_open 83 = some (.iload_n 1, 1) := by decide +kernel
theorem a_X4_open_84 : ix_at mT_X4_open 84 = some (.aload_n 0, 1) := by decide +kernel
theorem a_X4_open_85 : ix_at mT_X4_open 85 = some (.getfield 30, 3) := by decide +kernel
theorem a_X4_open_88 : ix_at mT_X4_open 88 = some (.getfield 56, 3) := by decide +kernel
theorem a_X4_open_91 : ix_at mT_X4_open 91 = some (.if_icmp .ge 14, 3) := by decide +kernel
theorem a_X4_open_94 : ix_at mT_X4_open 94 = some (.aload_n 0, 1) := by decide +kernel
theorem a_X4_open_95 : ix_at mT_X4_open 95 = some (.iload_n 1, 1) := by decide +kernel
theorem a_X4_open_96 : ix_at mT_X4_open 96 = some (.invokevirtual 174, 3) := by decide +kernel
theorem a_X4_open_99 : ix_at mT_X4_open 99 = some (.iinc 1 16, 3) := by decide +kernel
theorem a_X4_open_102 : ix_at mT_X4_open 102 = some (.goto (-19), 3) := by decide +kernel
theorem a_X4_open_105 : ix_at mT_X4_open 105 = some (.aload_n 0, 1) := by decide +kernel
theorem a_X4_open_106 : ix_at mT_X4_open 106 = some (.invokevirtual 177, 3) := by decide +kernel
theorem a_X4_open_109 : ix_at mT_X4_open 109 = some (.ireturn, 1) := by decide +kernel
theorem a_X4_partition_0 : ix_at mT_X4_partition 0 = some (.aload_n 0, 1) := by decide +kernel
theorem a_X4_partition_1 : ix_at mT_X4_partition 1 = some (.iload_n 1, 1) := by decide +kernel
theorem a_X4_partition_2 : ix_at mT_X4_partition 2 = some (.invokevirtual 125, 3) := by decide +kernel
theorem a_X4_partition_5 : ix_at mT_X4_partition 5 = some (.ifCond .ne 5, 3) := by decide +kernel
theorem a_X4_partition_8 : ix_at mT_X4_partition 8 = some (.iconst (-1), 1) := by decide +kernel
theorem a_X4_partition_9 : ix_at mT_X4_partition 9 = some (.ireturn, 1) := by decide +kernel
theorem a_X4_partition_10 : ix_at mT_X4_partition 10 = some (.aload_n 0, 1) := by decide +kernel
theorem a_X4_partition_11 : ix_at mT_X4_partition 11 = some (.getfield 26, 3) := by decide +kernel
theorem a_X4_partition_14 : ix_at mT_X4_partition 14 = some (.iload_n 1, 1) := by decide +kernel
theorem a_X4_partition_15 : ix_at mT_X4_partition 15 = some (.aaload, 1) := by decide +kernel
theorem a_X4_partition_16 : ix_at mT_X4_partition 16 = some (.astore_n 3, 1) := by decide +kernel
theorem a_X4_partition_17 : ix_at mT_X4_partition 17 = some (.iload_n 2, 1) := by decide +kernel
theorem a_X4_partition_18 : ix_at mT_X4_partition 18 = some (.tableswitch 109 0 5 #[38, 43, 59, 67, 76, 92], 38) := by decide +kernel
theorem a_X4_partition_56 : ix_at mT_X4_partition 56 = some (.aload_n 3, 1) := by decide +kernel
theorem a_X4_partition_57 : ix_at mT_X4_partition 57 = some (.getfield 180, 3) := by decide +kernel
theorem a_X4_partition_60 : ix_at mT_X4_partition 60 = some (.ireturn, 1) := by decide +kernel
theorem a_X4_partition_61 : ix_at mT_X4_partition 61 = some (.aload_n 0, 1) := by decide +kernel
theorem a_X4_partition_62 : ix_at mT_X4_partition 62 = some (.getfield 63, 3) := by decide +kernel
theorem a_X4_partition_65 : ix_at mT_X4_partition 65 = some (.ifCond .eq 7, 3) := by decide +kernel
theorem a_X4_partition_68 : ix_at mT_X4_partition 68 = some (.iconst (-1), 1) := by decide +kernel
theorem a_X4_partition_69 : ix_at mT_X4_partition 69 = some (.goto 7, 3) := by decide +kernel
theorem a_X4_partition_72 : ix_at mT_X4_partition 72 = some (.aload_n 3, 1) := by decide +kernel
theorem a_X4_partition_73 : ix_at mT_X4_partition 73 = some (.invokevirtual 183, 3) := by decide +kernel
theorem a_X4_partition_76 : ix_at mT_X4_partition 76 = some (.ireturn, 1) := by decide +kernel
theorem a_X4_partition_77 : ix_at mT_X4_partition 77 = some (.aload_n 3, 1) := by decide +kernel
theorem a_X4_partition_78 : ix_at mT_X4_partition 78 = some (.getfield 186, 3) := by decide +kernel
theorem a_X4_partition_81 : ix_at mT_X4_partition 81 = some (.getfield 56, 3) := by decide +kernel
theorem a_X4_partition_84 : ix_at mT_X4_partition 84 = some (.ireturn, 1) := by decide +kernel
theorem a_X4_partition_85 : ix_at mT_X4_partition 85 = some (.aload_n 0, 1) := by decide +kernel
theorem a_X4_partition_86 : ix_at mT_X4_partition 86 = some (.getfield 36, 3) := by decide +kernel
theorem a_X4_partition_89 : ix_at mT_X4_partition 89 = some (.iload_n 1, 1) := by decide +kernel
theorem a_X4_partition_90 : ix_at mT_X4_partition 90 = some (.invokevirtual 153, 3) := by decide +kernel
theorem a_X4_partition_93 : ix_at mT_X4_partition 93 = some (.ireturn, 1) := by decide +kernel
theorem a_X4_partition_94 : ix_at mT_X4_partition 94 = some (.aload_n 0, 1) := by decide +kernel
theorem a_X4_partition_95 : ix_at mT_X4_partition 95 = some (.getfield 63, 3) := by decide +kernel
theorem a_X4_partition_98 : ix_at mT_X4_partition 98 = some (.ifCond .eq 7, 3) := by decide +kernel
theorem a_X4_partition_101 : ix_at mT_X4_partition 101 = some (.iconst (-1), 1) := by decide +kernel
theorem a_X4_partition_102 : ix_at mT_X4_partition 102 = some (.goto 7, 3) := by decide +kernel
theorem a_X4_partition_105 : ix_at mT_X4_partition 105 = some (.aload_n 3, 1) := by decide +kernel
theorem a_X4_partition_106 : ix_at mT_X4_partition 106 = some (.invokevirtual 189, 3) := by decide +kernel
theorem a_X4_partition_109 : ix_at mT_X4_partition 109 = some (.ireturn, 1) := by decide +kernel
theorem a_X4_partition_110 : ix_at mT_X4_partition 110 = some (.aload_n 0, 1) := by decide +kernel
theorem a_X4_partition_111 : ix_at mT_X4_partition 111 = some (.getfield 63, 3) := by decide +kernel
theorem a_X4_partition_114 : ix_at mT_X4_partition 114 = some (.ifCond .eq 7, 3) := by decide +kernel
theorem a_X4_partition_117 : ix_at mT_X4_partition 117 = some (.iconst (-1), 1) := by decide +kernel
theorem a_X4_partition_118 : ix_at mT_X4_partition 118 = some (.goto 8, 3) := by decide +kernel
theorem a_X4_partition_121 : ix_at mT_X4_partition 121 = some (.aload_n 0, 1) := by decide +kernel
theorem a_X4_partition_122 : ix_at mT_X4_partition 122 = some (.iload_n 1, 1) := by decide +kernel
theorem a_X4_partition_123 : ix_at mT_X4_partition 123 = some (.invokevirtual 192, 3) := by decide +kernel
theorem a_X4_partition_126 : ix_at mT_X4_partition 126 = some (.ireturn, 1) := by decide +kernel
theorem a_X4_partition_127 : ix_at mT_X4_partition 127 = some (.iconst (-1), 1) := by decide +kernel
theorem a_X4_partition_128 : ix_at mT_X4_partition 128 = some (.ireturn, 1) := by decide +kernel
theorem a_X4_entry_0 : ix_at mT_X4_entry 0 = some (.aload_n 0, 1) := by decide +kernel
theorem a_X4_entry_1 : ix_at mT_X4_entry 1 = some (.iload_n 1, 1) := by decide +kernel
theorem a_X4_entry_2 : ix_at mT_X4_entry 2 = some (.invokevirtual 125, 3) := by decide +kernel
theorem a_X4_entry_5 : ix_at mT_X4_entry 5 = some (.ifCond .eq 16, 3) := by decide +kernel
theorem a_X4_entry_8 : ix_at mT_X4_entry 8 = some (.aload_n 0, 1) := by decide +kernel
theorem a_X4_entry_9 : ix_at mT_X4_entry 9 = some (.getfield 26, 3) := by decide +kernel
theorem a_X4_entry_12 : ix_at mT_X4_entry 12 = some (.iload_n 1, 1) := by decide +kernel
theorem a_X4_entry_13 : ix_at mT_X4_entry 13 = some (.aaload, 1) := by decide +kernel
theorem a_X4_entry_14 : ix_at mT_X4_entry 14 = some (.iload_n 2, 1) := by decide +kernel
theorem a_X4_entry_15 : ix_at mT_X4_entry 15 = some (.invokevirtual 195, 3) := by decide +kernel
theorem a_X4_entry_18 : ix_at mT_X4_entry 18 = some (.ifCond .ne 5, 3) := by decide +kernel
theorem a_X4_entry_21 : ix_at mT_X4_entry 21 = some (.iconst (-1), 1) := by decide +kernel
theorem a_X4_entry_22 : ix_at mT_X4_entry 22 = some (.ireturn, 1) := by decide +kernel
theorem a_X4_entry_23 : ix_at mT_X4_entry 23 = some (.aload_n 0, 1) := by decide +kernel
theorem a_X4_entry_24 : ix_at mT_X4_entry 24 = some (.getfield 26, 3) := by decide +kernel
theorem a_X4_entry_27 : ix_at mT_X4_entry 27 = some (.iload_n 1, 1) := by decide +kernel
theorem a_X4_entry_28 : ix_at mT_X4_entry 28 = some (.aaload, 1) := by decide +kernel
theorem a_X4_entry_29 : ix_at mT_X4_entry 29 = some (.astore 4, 2) := by decide +kernel
theorem a_X4_entry_31 : ix_at mT_X4_entry 31 = some (.iload_n 3, 1) := by decide +kernel
theorem a_X4_entry_32 : ix_at mT_X4_entry 32 = some (.tableswitch 85 0 4 #[36, 46, 56, 66, 76], 36) := by decide +kernel
theorem a_X4_entry_68 : ix_at mT_X4_entry 68 = some (.aload 4, 2) := by decide +kernel
theorem a_X4_entry_70 : ix_at mT_X4_entry 70 = some (.iload_n 2, 1) := by decide +kernel
theorem a_X4_entry_71 : ix_at mT_X4_entry 71 = some (.bipush 6, 2) := by decide +kernel
theorem a_X4_entry_73 : ix_at mT_X4_entry 73 = some (.iconst 1, 1) := by decide +kernel
theorem a_X4_entry_74 : ix_at mT_X4_entry 74 = some (.invokevirtual 198, 3) := by decide +kernel
theorem a_X4_entry_77 : ix_at mT_X4_entry 77 = some (.ireturn, 1) := by decide +kernel
theorem a_X4_entry_78 : ix_at mT_X4_entry 78 = some (.aload 4, 2) := by decide +kernel
theorem a_X4_entry_80 : ix_at mT_X4_entry 80 = some (.iload_n 2, 1) := by decide +kernel
theorem a_X4_entry_81 : ix_at mT_X4_entry 81 = some (.bipush 7, 2) := by decide +kernel
theorem a_X4_entry_83 : ix_at mT_X4_entry 83 = some (.iconst 1, 1) := by decide +kernel
theorem a_X4_entry_84 : ix_at mT_X4_entry 84 = some (.invokevirtual 198, 3) := by decide +kernel
theorem a_X4_entry_87 : ix_at mT_X4_entry 87 = some (.ireturn, 1) := by decide +kernel
theorem a_X4_entry_88 : ix_at mT_X4_entry 88 = some (.aload 4, 2) := by decide +kernel
theorem a_X4_entry_90 : ix_at mT_X4_entry 90 = some (.iload_n 2, 1) := by decide +kernel
theorem a_X4_entry_91 : ix_at mT_X4_entry 91 = some (.bipush 8, 2) := by decide +kernel
theorem a_X4_entry_93 : ix_at mT_X4_entry 93 = some (.iconst 2, 1) := by decide +kernel
theorem a_X4_entry_94 : ix_at mT_X4_entry 94 = some (.invokevirtual 198, 3) := by decide +kernel
theorem a_X4_entry_97 : ix_at mT_X4_entry 97 = some (.ireturn, 1) := by decide +kernel
theorem a_X4_entry_98 : ix_at mT_X4_entry 98 = some (.aload 4, 2) := by decide +kernel
theorem a_X4_entry_100 : ix_at mT_X4_entry 100 = some (.iload_n 2, 1) := by decide +kernel
theorem a_X4_entry_101 : ix_at mT_X4_entry 101 = some (.bipush 10, 2) := by decide +kernel
theorem a_X4_entry_103 : ix_at mT_X4_entry 103 = some (.iconst 4, 1) := by decide +kernel
theorem a_X4_entry_104 : ix_at mT_X4_entry 104 = some (.invokevirtual 198, 3) := by decide +kernel
theorem a_X4_entry_107 : ix_at mT_X4_entry 107 = some (.ireturn, 1) := by decide +kernel
theorem a_X4_entry_108 : ix_at mT_X4_entry 108 = some (.aload 4, 2) := by decide +kernel
theorem a_X4_entry_110 : ix_at mT_X4_entry 110 = some (.iload_n 2, 1) := by decide +kernel
theorem a_X4_entry_111 : ix_at mT_X4_entry 111 = some (.iconst 4, 1) := by decide +kernel
theorem a_X4_entry_112 : ix_at mT_X4_entry 112 = some (.iconst 2, 1) := by decide +kernel
theorem a_X4_entry_113 : ix_at mT_X4_entry 113 = some (.invokevirtual 198, 3) := by decide +kernel
theorem a_X4_entry_116 : ix_at mT_X4_entry 116 = some (.ireturn, 1) := by decide +kernel
theorem a_X4_entry_117 : ix_at mT_X4_entry 117 = some (.iconst (-1), 1) := by decide +kernel
theorem a_X4_entry_118 : ix_at mT_X4_entry 118 = some (.ireturn, 1) := by decide +kernel
theorem a_X4_producer_0 : ix_at mT_X4_producer 0 = some (.aload_n 0, 1) := by decide +kernel
theorem a_X4_producer_1 : ix_at mT_X4_producer 1 = some (.getfield 63, 3) := by decide +kernel
theorem a_X4_producer_4 : ix_at mT_X4_producer 4 = some (.ifCond .ne 11, 3) := by decide +kernel
theorem a_X4_producer_7 : ix_at mT_X4_producer 7 = some (.aload_n 0, 1) := by decide +kernel
theorem a_X4_producer_8 : ix_at mT_X4_producer 8 = some (.iload_n 1, 1) := by decide +kernel
theorem a_X4_producer_9 : ix_at mT_X4_producer 9 = some (.invokevirtual 202, 3) := by decide +kernel
theorem a_X4_producer_12 : ix_at mT_X4_producer 12 = some (.ifCond .ne 5, 3) := by decide +kernel
theorem a_X4_producer_15 : ix_at mT_X4_producer 15 = some (.iconst (-1), 1) := by decide +kernel
theorem a_X4_producer_16 : ix_at mT_X4_producer 16 = some (.ireturn, 1) := by decide +kernel
theorem a_X4_producer_17 : ix_at mT_X4_producer 17 = some (.aload_n 0, 1) := by decide +kernel
theorem a_X4_producer_18 : ix_at mT_X4_producer 18 = some (.getfield 42, 3) := by decide +kernel
theorem a_X4_producer_21 : ix_at mT_X4_producer 21 = some (.iload_n 1, 1) := by decide +kernel
theorem a_X4_producer_22 : ix_at mT_X4_producer 22 = some (.aaload, 1) := by decide +kernel
theorem a_X4_producer_23 : ix_at mT_X4_producer 23 = some (.astore_n 3, 1) := by decide +kernel
theorem a_X4_producer_24 : ix_at mT_X4_producer 24 = some (.iload_n 2, 1) := by decide +kernel
theorem a_X4_producer_25 : ix_at mT_X4_producer 25 = some (.tableswitch 60 0 4 #[35, 40, 45, 50, 55], 35) := by decide +kernel
theorem a_X4_producer_60 : ix_at mT_X4_producer 60 = some (.aload_n 3, 1) := by decide +kernel
theorem a_X4_producer_61 : ix_at mT_X4_producer 61 = some (.getfield 88, 3) := by decide +kernel
theorem a_X4_producer_64 : ix_at mT_X4_producer 64 = some (.ireturn, 1) := by decide +kernel
theorem a_X4_producer_65 : ix_at mT_X4_producer 65 = some (.aload_n 3, 1) := by decide +kernel
theorem a_X4_producer_66 : ix_at mT_X4_producer 66 = some (.getfield 205, 3) := by decide +kernel
theorem a_X4_producer_69 : ix_at mT_X4_producer 69 = some (.ireturn, 1) := by decide +kernel
theorem a_X4_producer_70 : ix_at mT_X4_producer 70 = some (.aload_n 3, 1) := by decide +kernel
theorem a_X4_producer_71 : ix_at mT_X4_producer 71 = some (.getfield 208, 3) := by decide +kernel
theorem a_X4_producer_74 : ix_at mT_X4_producer 74 = some (.ireturn, 1) := by decide +kernel
theorem a_X4_producer_75 : ix_at mT_X4_producer 75 = some (.aload_n 3, 1) := by decide +kernel
theorem a_X4_producer_76 : ix_at mT_X4_producer 76 = some (.getfield 211, 3) := by decide +kernel
theorem a_X4_producer_79 : ix_at mT_X4_producer 79 = some (.ireturn, 1) := by decide +kernel
theorem a_X4_producer_80 : ix_at mT_X4_producer 80 = some (.aload_n 3, 1) := by decide +kernel
theorem a_X4_producer_81 : ix_at mT_X4_producer 81 = some (.getfield 214, 3) := by decide +kernel
theorem a_X4_producer_84 : ix_at mT_X4_producer 84 = some (.ireturn, 1) := by decide +kernel
theorem a_X4_producer_85 : ix_at mT_X4_producer 85 = some (.iconst (-1), 1) := by decide +kernel
theorem a_X4_producer_86 : ix_at mT_X4_producer 86 = some (.ireturn, 1) := by decide +kernel
theorem a_X4_next_0 : ix_at mT_X4_next 0 = some (.aload_n 0, 1) := by decide +kernel
theorem a_X4_next_1 : ix_at mT_X4_next 1 = some (.getfield 63, 3) := by decide +kernel
theorem a_X4_next_4 : ix_at mT_X4_next 4 = some (.ifCond .ne 19, 3) := by decide +kernel
theorem a_X4_next_7 : ix_at mT_X4_next 7 = some (.aload_n 0, 1) := by decide +kernel
theorem a_X4_next_8 : ix_at mT_X4_next 8 = some (.iload_n 1, 1) := by decide +kernel
theorem a_X4_next_9 : ix_at mT_X4_next 9 = some (.invokevirtual 202, 3) := by decide +kernel
theorem a_X4_next_12 : ix_at mT_X4_next 12 = some (.ifCond .eq 11, 3) := by decide +kernel
theorem a_X4_next_15 : ix_at mT_X4_next 15 = some (.aload_n 0, 1) := by decide +kernel
theorem a_X4_next_16 : ix_at mT_X4_next 16 = some (.iload_n 2, 1) := by decide +kernel
theorem a_X4_next_17 : ix_at mT_X4_next 17 = some (.invokevirtual 125, 3) := by decide +kernel
theorem a_X4_next_20 : ix_at mT_X4_next 20 = some (.ifCond .ne 5, 3) := by decide +kernel
theorem a_X4_next_23 : ix_at mT_X4_next 23 = some (.iconst (-1), 1) := by decide +kernel
theorem a_X4_next_24 : ix_at mT_X4_next 24 = some (.ireturn, 1) := by decide +kernel
theorem a_X4_next_25 : ix_at mT_X4_next 25 = some (.aload_n 0, 1) := by decide +kernel
theorem a_X4_next_26 : ix_at mT_X4_next 26 = some (.getfield 26, 3) := by decide +kernel
theorem a_X4_next_29 : ix_at mT_X4_next 29 = some (.iload_n 2, 1) := by decide +kernel
theorem a_X4_next_30 : ix_at mT_X4_next 30 = some (.aaload, 1) := by decide +kernel
theorem a_X4_next_31 : ix_at mT_X4_next 31 = some (.iload_n 1, 1) := by decide +kernel
theorem a_X4_next_32 : ix_at mT_X4_next 32 = some (.aload_n 0, 1) := by decide +kernel
theorem a_X4_next_33 : ix_at mT_X4_next 33 = some (.getfield 42, 3) := by decide +kernel
theorem a_X4_next_36 : ix_at mT_X4_next 36 = some (.iload_n 1, 1) := by decide +kernel
theorem a_X4_next_37 : ix_at mT_X4_next 37 = some (.aaload, 1) := by decide +kernel
theorem a_X4_next_38 : ix_at mT_X4_next 38 = some (.getfield 88, 3) := by decide +kernel
theorem a_X4_next_41 : ix_at mT_X4_next 41 = some (.invokevirtual 217, 3) := by decide +kernel
theorem a_X4_next_44 : ix_at mT_X4_next 44 = some (.ireturn, 1) := by decide +kernel
theorem a_X4_byteOf_0 : ix_at mT_X4_byteOf 0 = some (.iload_n 1, 1) := by decide +kernel
theorem a_X4_byteOf_1 : ix_at mT_X4_byteOf 1 = some (.ifCond .lt 11, 3) := by decide +kernel
theorem a_X4_byteOf_4 : ix_at mT_X4_byteOf 4 = some (.iload_n 1, 1) := by decide +kernel
theorem a_X4_byteOf_5 : ix_at mT_X4_byteOf 5 = some (.aload_n 0, 1) := by decide +kernel
theorem a_X4_byteOf_6 : ix_at mT_X4_byteOf 6 = some (.getfield 146, 3) := by decide +kernel
theorem a_X4_byteOf_9 : ix_at mT_X4_byteOf 9 = some (.if_icmp .le 5, 3) := by decide +kernel
theorem a_X4_byteOf_12 : ix_at mT_X4_byteOf 12 = some (.iconst (-1), 1) := by decide +kernel
theorem a_X4_byteOf_13 : ix_at mT_X4_byteOf 13 = some (.ireturn, 1) := by decide +kernel
theorem a_X4_byteOf_14 : ix_at mT_X4_byteOf 14 = some (.aload_n 0, 1) := by decide +kernel
theorem a_X4_byteOf_15 : ix_at mT_X4_byteOf 15 = some (.iload_n 1, 1) := by decide +kernel
theorem a_X4_byteOf_16 : ix_at mT_X4_byteOf 16 = some (.invokevirtual 149, 3) := by decide +kernel
theorem a_X4_byteOf_19 : ix_at mT_X4_byteOf 19 = some (.iload_n 2, 1) := by decide +kernel
theorem a_X4_byteOf_20 : ix_at mT_X4_byteOf 20 = some (.invokevirtual 139, 3) := by decide +kernel
theorem a_X4_byteOf_23 : ix_at mT_X4_byteOf 23 = some (.ireturn, 1) := by decide +kernel
theorem a_X4_count_0 : ix_at mT_X4_count 0 = some (.iload_n 1, 1) := by decide +kernel
theorem a_X4_count_1 : ix_at mT_X4_count 1 = some (.tableswitch 173 0 11 #[63, 68, 73, 78, 83, 91, 99, 107, 120, 125, 141, 157], 63) := by decide +kernel
theorem a_X4_count_64 : ix_at mT_X4_count 64 = some (.aload_n 0, 1) := by decide +kernel
theorem a_X4_count_65 : ix_at mT_X4_count 65 = some (.getfield 146, 3) := by decide +kernel
theorem a_X4_count_68 : ix_at mT_X4_count 68 = some (.ireturn, 1) := by decide +kernel
theorem a_X4_count_69 : ix_at mT_X4_count 69 = some (.aload_n 0, 1) := by decide +kernel
theorem a_X4_count_70 : ix_at mT_X4_count 70 = some (.getfield 220, 3) := by decide +kernel
theorem a_X4_count_73 : ix_at mT_X4_count 73 = some (.ireturn, 1) := by decide +kernel
theorem a_X4_count_74 : ix_at mT_X4_count 74 = some (.aload_n 0, 1) := by decide +kernel
theorem a_X4_count_75 : ix_at mT_X4_count 75 = some (.getfield 223, 3) := by decide +kernel
theorem a_X4_count_78 : ix_at mT_X4_count 78 = some (.ireturn, 1) := by decide +kernel
theorem a_X4_count_79 : ix_at mT_X4_count 79 = some (.aload_n 0, 1) := by decide +kernel
theorem a_X4_count_80 : ix_at mT_X4_count 80 = some (.getfield 98, 3) := by decide +kernel
theorem a_X4_count_83 : ix_at mT_X4_count 83 = some (.ireturn, 1) := by decide +kernel
theorem a_X4_count_84 : ix_at mT_X4_count 84 = some (.aload_n 0, 1) := by decide +kernel
theorem a_X4_count_85 : ix_at mT_X4_count 85 = some (.getfield 36, 3) := by decide +kernel
theorem a_X4_count_88 : ix_at mT_X4_count 88 = some (.getfield 142, 3) := by decide +kernel
theorem a_X4_count_91 : ix_at mT_X4_count 91 = some (.ireturn, 1) := by decide +kernel
theorem a_X4_count_92 : ix_at mT_X4_count 92 = some (.aload_n 0, 1) := by decide +kernel
theorem a_X4_count_93 : ix_at mT_X4_count 93 = some (.getfield 30, 3) := by decide +kernel
theorem a_X4_count_96 : ix_at mT_X4_count 96 = some (.getfield 56, 3) := by decide +kernel
theorem a_X4_count_99 : ix_at mT_X4_count 99 = some (.ireturn, 1) := by decide +kernel
theorem a_X4_count_100 : ix_at mT_X4_count 100 = some (.aload_n 0, 1) := by decide +kernel
theorem a_X4_count_101 : ix_at mT_X4_count 101 = some (.getfield 14, 3) := by decide +kernel
theorem a_X4_count_104 : ix_at mT_X4_count 104 = some (.getfield 56, 3) := by decide +kernel
theorem a_X4_count_107 : ix_at mT_X4_count 107 = some (.ireturn, 1) := by decide +kernel
theorem a_X4_count_108 : ix_at mT_X4_count 108 = some (.aload_n 0, 1) := by decide +kernel
theorem a_X4_count_109 : ix_at mT_X4_count 109 = some (.getfield 63, 3) := by decide +kernel
theorem a_X4_count_112 : ix_at mT_X4_count 112 = some (.ifCond .eq 7, 3) := by decide +kernel
theorem a_X4_count_115 : ix_at mT_X4_count 115 = some (.iconst 1, 1) := by decide +kernel
theorem a_X4_count_116 : ix_at mT_X4_count 116 = some (.goto 4, 3) := by decide +kernel
theorem a_X4_count_119 : ix_at mT_X4_count 119 = some (.iconst 0, 1) := by decide +kernel
theorem a_X4_count_120 : ix_at mT_X4_count 120 = some (.ireturn, 1) := by decide +kernel
theorem a_X4_count_121 : ix_at mT_X4_count 121 = some (.aload_n 0, 1) := by decide +kernel
theorem a_X4_count_122 : ix_at mT_X4_count 122 = some (.getfield 168, 3) := by decide +kernel
theorem a_X4_count_125 : ix_at mT_X4_count 125 = some (.ireturn, 1) := by decide +kernel
theorem a_X4_count_126 : ix_at mT_X4_count 126 = some (.aload_n 0, 1) := by decide +kernel
theorem a_X4_count_127 : ix_at mT_X4_count 127 = some (.getfield 63, 3) := by decide +kernel
theorem a_X4_count_130 : ix_at mT_X4_count 130 = some (.ifCond .eq 7, 3) := by decide +kernel
theorem a_X4_count_133 : ix_at mT_X4_count 133 = some (.iconst (-1), 1) := by decide +kernel
theorem a_X4_count_134 : ix_at mT_X4_count 134 = some (.goto 7, 3) := by decide +kernel
theorem a_X4_count_137 : ix_at mT_X4_count 137 = some (.aload_n 0, 1) := by decide +kernel
theorem a_X4_count_138 : ix_at mT_X4_count 138 = some (.invokevirtual 226, 3) := by decide +kernel
theorem a_X4_count_141 : ix_at mT_X4_count 141 = some (.ireturn, 1) := by decide +kernel
theorem a_X4_count_142 : ix_at mT_X4_count 142 = some (.aload_n 0, 1) := by decide +kernel
theorem a_X4_count_143 : ix_at mT_X4_count 143 = some (.getfield 63, 3) := by decide +kernel
theorem a_X4_count_146 : ix_at mT_X4_count 146 = some (.ifCond .eq 7, 3) := by decide +kernel
theorem a_X4_count_149 : ix_at mT_X4_count 149 = some (.iconst (-1), 1) := by decide +kernel
theorem a_X4_count_150 : ix_at mT_X4_count 150 = some (.goto 7, 3) := by decide +kernel
theorem a_X4_count_153 : ix_at mT_X4_count 153 = some (.aload_n 0, 1) := by decide +kernel
theorem a_X4_count_154 : ix_at mT_X4_count 154 = some (.invokevirtual 229, 3) := by decide +kernel
theorem a_X4_count_157 : ix_at mT_X4_count 157 = some (.ireturn, 1) := by decide +kernel
theorem a_X4_count_158 : ix_at mT_X4_count 158 = some (.aload_n 0, 1) := by decide +kernel
theorem a_X4_count_159 : ix_at mT_X4_count 159 = some (.getfield 63, 3) := by decide +kernel
theorem a_X4_count_162 : ix_at mT_X4_count 162 = some (.ifCond .eq 7, 3) := by decide +kernel
theorem a_X4_count_165 : ix_at mT_X4_count 165 = some (.iconst (-1), 1) := by decide +kernel
theorem a_X4_count_166 : ix_at mT_X4_count 166 = some (.goto 7, 3) := by decide +kernel
theorem a_X4_count_169 : ix_at mT_X4_count 169 = some (.aload_n 0, 1) := by decide +kernel
theorem a_X4_count_170 : ix_at mT_X4_count 170 = some (.getfield 95, 3) := by decide +kernel
theorem a_X4_count_173 : ix_at mT_X4_count 173 = some (.ireturn, 1) := by decide +kernel
theorem a_X4_count_174 : ix_at mT_X4_count 174 = some (.iconst (-1), 1) := by decide +kernel
theorem a_X4_count_175 : ix_at mT_X4_count 175 = some (.ireturn, 1) := by decide +kernel
theorem a_X4_build_0 : ix_at mT_X4_build 0 = some (.aload_n 0, 1) := by decide +kernel
theorem a_X4_build_1 : ix_at mT_X4_build 1 = some (.iload_n 1, 1) := by decide +kernel
theorem a_X4_build_2 : ix_at mT_X4_build 2 = some (.putfield 146, 3) := by decide +kernel
theorem a_X4_build_5 : ix_at mT_X4_build 5 = some (.aload_n 0, 1) := by decide +kernel
theorem a_X4_build_6 : ix_at mT_X4_build 6 = some (.iload_n 2, 1) := by decide +kernel
theorem a_X4_build_7 : ix_at mT_X4_build 7 = some (.putfield 220, 3) := by decide +kernel
theorem a_X4_build_10 : ix_at mT_X4_build 10 = some (.aload_n 0, 1) := by decide +kernel
theorem a_X4_build_11 : ix_at mT_X4_build 11 = some (.iload_n 3, 1) := by decide +kernel
theorem a_X4_build_12 : ix_at mT_X4_build 12 = some (.putfield 223, 3) := by decide +kernel
theorem a_X4_build_15 : ix_at mT_X4_build 15 = some (.aload_n 0, 1) := by decide +kernel
theorem a_X4_build_16 : ix_at mT_X4_build 16 = some (.iconst 0, 1) := by decide +kernel
theorem a_X4_build_17 : ix_at mT_X4_build 17 = some (.putfield 98, 3) := by decide +kernel
theorem a_X4_build_20 : ix_at mT_X4_build 20 = some (.aload_n 0, 1) := by decide +kernel
theorem a_X4_build_21 : ix_at mT_X4_build 21 = some (.iconst 0, 1) := by decide +kernel
theorem a_X4_build_22 : ix_at mT_X4_build 22 = some (.putfield 63, 3) := by decide +kernel
theorem a_X4_build_25 : ix_at mT_X4_build 25 = some (.aload_n 0, 1) := by decide +kernel
theorem a_X4_build_26 : ix_at mT_X4_build 26 = some (.iconst 0, 1) := by decide +kernel
theorem a_X4_build_27 : ix_at mT_X4_build 27 = some (.putfield 168, 3) := by decide +kernel
theorem a_X4_build_30 : ix_at mT_X4_build 30 = some (.iconst 0, 1) := by decide +kernel
theorem a_X4_build_31 : ix_at mT_X4_build 31 = some (.istore 4, 2) := by decide +kernel
theorem a_X4_build_33 : ix_at mT_X4_build 33 = some (.iload 4, 2) := by decide +kernel
theorem a_X4_build_35 : ix_at mT_X4_build 35 = some (.bipush 8, 2) := by decide +kernel
theorem a_X4_build_37 : ix_at mT_X4_build 37 = some (.if_icmp .ge 19, 3) := by decide +kernel
theorem a_X4_build_40 : ix_at mT_X4_build 40 = some (.aload_n 0, 1) := by decide +kernel
theorem a_X4_build_41 : ix_at mT_X4_build 41 = some (.getfield 26, 3) := by decide +kernel
theorem a_X4_build_44 : ix_at mT_X4_build 44 = some (.iload 4, 2) := by decide +kernel
theorem a_X4_build_46 : ix_at mT_X4_build 46 = some (.aaload, 1) := by decide +kernel
theorem a_X4_build_47 : ix_at mT_X4_build 47 = some (.invokevirtual 232, 3) := by decide +kernel
theorem a_X4_build_50 : ix_at mT_X4_build 50 = some (.iinc 4 1, 3) := by decide +kernel
theorem a_X4_build_53 : ix_at mT_X4_build 53 = some (.goto (-20), 3) := by decide +kernel
theorem a_X4_build_56 : ix_at mT_X4_build 56 = some (.aload_n 0, 1) := by decide +kernel
theorem a_X4_build_57 : ix_at mT_X4_build 57 = some (.getfield 30, 3) := by decide +kernel
theorem a_X4_build_60 : ix_at mT_X4_build 60 = some (.invokevirtual 109, 3) := by decide +kernel
theorem a_X4_build_63 : ix_at mT_X4_build 63 = some (.aload_n 0, 1) := by decide +kernel
theorem a_X4_build_64 : ix_at mT_X4_build 64 = some (.getfield 36, 3) := by decide +kernel
theorem a_X4_build_67 : ix_at mT_X4_build 67 = some (.invokevirtual 145, 3) := by decide +kernel
theorem a_X4_build_70 : ix_at mT_X4_build 70 = some (.aload_n 0, 1) := by decide +kernel
theorem a_X4_build_71 : ix_at mT_X4_build 71 = some (.getfield 18, 3) := by decide +kernel
theorem a_X4_build_74 : ix_at mT_X4_build 74 = some (.invokevirtual 109, 3) := by decide +kernel
theorem a_X4_build_77 : ix_at mT_X4_build 77 = some (.aload_n 0, 1) := by decide +kernel
theorem a_X4_build_78 : ix_at mT_X4_build 78 = some (.invokevirtual 165, 3) := by decide +kernel
theorem a_X4_build_81 : ix_at mT_X4_build 81 = some (.return_, 1) := by decide +kernel
theorem a_X4_forget_0 : ix_at mT_X4_forget 0 = some (.iconst 0, 1) := by decide +kernel
theorem a_X4_forget_1 : ix_at mT_X4_forget 1 = some (.istore_n 1, 1) := by decide +kernel
theorem a_X4_forget_2 : ix_at mT_X4_forget 2 = some (.iload_n 1, 1) := by decide +kernel
theorem a_X4_forget_3 : ix_at mT_X4_forget 3 = some (.bipush 32, 2) := by decide +kernel
theorem a_X4_forget_5 : ix_at mT_X4_forget 5 = some (.if_icmp .ge 18, 3) := by decide +kernel
theorem a_X4_forget_8 : ix_at mT_X4_forget 8 = some (.aload_n 0, 1) := by decide +kernel
theorem a_X4_forget_9 : ix_at mT_X4_forget 9 = some (.getfield 42, 3) := by decide +kernel
theorem a_X4_forget_12 : ix_at mT_X4_forget 12 = some (.iload_n 1, 1) := by decide +kernel
theorem a_X4_forget_13 : ix_at mT_X4_forget 13 = some (.aaload, 1) := by decide +kernel
theorem a_X4_forget_14 : ix_at mT_X4_forget 14 = some (.invokevirtual 233, 3) := by decide +kernel
theorem a_X4_forget_17 : ix_at mT_X4_forget 17 = some (.iinc 1 1, 3) := by decide +kernel
theorem a_X4_forget_20 : ix_at mT_X4_forget 20 = some (.goto (-18), 3) := by decide +kernel
theorem a_X4_forget_23 : ix_at mT_X4_forget 23 = some (.aload_n 0, 1) := by decide +kernel
theorem a_X4_forget_24 : ix_at mT_X4_forget 24 = some (.getfield 46, 3) := by decide +kernel
theorem a_X4_forget_27 : ix_at mT_X4_forget 27 = some (.iconst (-1), 1) := by decide +kernel
theorem a_X4_forget_28 : ix_at mT_X4_forget 28 = some (.invokestatic 234, 3) := by decide +kernel
theorem a_X4_forget_31 : ix_at mT_X4_forget 31 = some (.aload_n 0, 1) := by decide +kernel
theorem a_X4_forget_32 : ix_at mT_X4_forget 32 = some (.iconst 0, 1) := by decide +kernel
theorem a_X4_forget_33 : ix_at mT_X4_forget 33 = some (.putfield 95, 3) := by decide +kernel
theorem a_X4_forget_36 : ix_at mT_X4_forget 36 = some (.return_, 1) := by decide +kernel
theorem a_X4_isKey_0 : ix_at mT_X4_isKey 0 = some (.iload_n 1, 1) := by decide +kernel
theorem a_X4_isKey_1 : ix_at mT_X4_isKey 1 = some (.ifCond .lt 13, 3) := by decide +kernel
theorem a_X4_isKey_4 : ix_at mT_X4_isKey 4 = some (.iload_n 1, 1) := by decide +kernel
theorem a_X4_isKey_5 : ix_at mT_X4_isKey 5 = some (.bipush 32, 2) := by decide +kernel
theorem a_X4_isKey_7 : ix_at mT_X4_isKey 7 = some (.if_icmp .ge 7, 3) := by decide +kernel
theorem a_X4_isKey_10 : ix_at mT_X4_isKey 10 = some (.iconst 1, 1) := by decide +kernel
theorem a_X4_isKey_11 : ix_at mT_X4_isKey 11 = some (.goto 4, 3) := by decide +kernel
theorem a_X4_isKey_14 : ix_at mT_X4_isKey 14 = some (.iconst 0, 1) := by decide +kernel
theorem a_X4_isKey_15 : ix_at mT_X4_isKey 15 = some (.ireturn, 1) := by decide +kernel
theorem a_X4_isRegistered_0 : ix_at mT_X4_isRegistered 0 = some (.aload_n 0, 1) := by decide +kernel
theorem a_X4_isRegistered_1 : ix_at mT_X4_isRegistered 1 = some (.iload_n 1, 1) := by decide +kernel
theorem a_X4_isRegistered_2 : ix_at mT_X4_isRegistered 2 = some (.invokevirtual 67, 3) := by decide +kernel
theorem a_X4_isRegistered_5 : ix_at mT_X4_isRegistered 5 = some (.ifCond .eq 20, 3) := by decide +kernel
theorem a_X4_isRegistered_8 : ix_at mT_X4_isRegistered 8 = some (.aload_n 0, 1) := by decide +kernel
theorem a_X4_isRegistered_9 : ix_at mT_X4_isRegistered 9 = some (.getfield 42, 3) := by decide +kernel
theorem a_X4_isRegistered_12 : ix_at mT_X4_isRegistered 12 = some (.iload_n 1, 1) := by decide +kernel
theorem a_X4_isRegistered_13 : ix_at mT_X4_isRegistered 13 = some (.aaload, 1) := by decide +kernel
theorem a_X4_isRegistered_14 : ix_at mT_X4_isRegistered 14 = some (.getfield 88, 3) := by decide +kernel
theorem a_X4_isRegistered_17 : ix_at mT_X4_isRegistered 17 = some (.iconst (-1), 1) := by decide +kernel
theorem a_X4_isRegistered_18 : ix_at mT_X4_isRegistered 18 = some (.if_icmp .eq 7, 3) := by decide +kernel
theorem a_X4_isRegistered_21 : ix_at mT_X4_isRegistered 21 = some (.iconst 1, 1) := by decide +kernel
theorem a_X4_isRegistered_22 : ix_at mT_X4_isRegistered 22 = some (.goto 4, 3) := by decide +kernel
theorem a_X4_isRegistered_25 : ix_at mT_X4_isRegistered 25 = some (.iconst 0, 1) := by decide +kernel
theorem a_X4_isRegistered_26 : ix_at mT_X4_isRegistered 26 = some (.ireturn, 1) := by decide +kernel
theorem a_X4_isPartition_0 : ix_at mT_X4_isPartition 0 = some (.iload_n 1, 1) := by decide +kernel
theorem a_X4_isPartition_1 : ix_at mT_X4_isPartition 1 = some (.ifCond .lt 15, 3) := by decide +kernel
theorem a_X4_isPartition_4 : ix_at mT_X4_isPartition 4 = some (.iload_n 1, 1) := by decide +kernel
theorem a_X4_isPartition_5 : ix_at mT_X4_isPartition 5 = some (.aload_n 0, 1) := by decide +kernel
theorem a_X4_isPartition_6 : ix_at mT_X4_isPartition 6 = some (.getfield 146, 3) := by decide +kernel
theorem a_X4_isPartition_9 : ix_at mT_X4_isPartition 9 = some (.if_icmp .ge 7, 3) := by decide +kernel
theorem a_X4_isPartition_12 : ix_at mT_X4_isPartition 12 = some (.iconst 1, 1) := by decide +kernel
theorem a_X4_isPartition_13 : ix_at mT_X4_isPartition 13 = some (.goto 4, 3) := by decide +kernel
theorem a_X4_isPartition_16 : ix_at mT_X4_isPartition 16 = some (.iconst 0, 1) := by decide +kernel
theorem a_X4_isPartition_17 : ix_at mT_X4_isPartition 17 = some (.ireturn, 1) := by decide +kernel
theorem a_X4_isPlace_0 : ix_at mT_X4_isPlace 0 = some (.iload_n 1, 1) := by decide +kernel
theorem a_X4_isPlace_1 : ix_at mT_X4_isPlace 1 = some (.ifCond .lt 21, 3) := by decide +kernel
theorem a_X4_isPlace_4 : ix_at mT_X4_isPlace 4 = some (.iload_n 1, 1) := by decide +kernel
theorem a_X4_isPlace_5 : ix_at mT_X4_isPlace 5 = some (.bipush 8, 2) := by decide +kernel
theorem a_X4_isPlace_7 : ix_at mT_X4_isPlace 7 = some (.if_icmp .ge 15, 3) := by decide +kernel
theorem a_X4_isPlace_10 : ix_at mT_X4_isPlace 10 = some (.aload_n 0, 1) := by decide +kernel
theorem a_X4_isPlace_11 : ix_at mT_X4_isPlace 11 = some (.iload_n 2, 1) := by decide +kernel
theorem a_X4_isPlace_12 : ix_at mT_X4_isPlace 12 = some (.invokevirtual 125, 3) := by decide +kernel
theorem a_X4_isPlace_15 : ix_at mT_X4_isPlace 15 = some (.ifCond .eq 7, 3) := by decide +kernel
theorem a_X4_isPlace_18 : ix_at mT_X4_isPlace 18 = some (.iconst 1, 1) := by decide +kernel
theorem a_X4_isPlace_19 : ix_at mT_X4_isPlace 19 = some (.goto 4, 3) := by decide +kernel
theorem a_X4_isPlace_22 : ix_at mT_X4_isPlace 22 = some (.iconst 0, 1) := by decide +kernel
theorem a_X4_isPlace_23 : ix_at mT_X4_isPlace 23 = some (.ireturn, 1) := by decide +kernel
theorem a_X4_placeOf_0 : ix_at mT_X4_placeOf 0 = some (.bipush 8, 2) := by decide +kernel
theorem a_X4_placeOf_2 : ix_at mT_X4_placeOf 2 = some (.iload_n 1, 1) := by decide +kernel
theorem a_X4_placeOf_3 : ix_at mT_X4_placeOf 3 = some (.imul, 1) := by decide +kernel
theorem a_X4_placeOf_4 : ix_at mT_X4_placeOf 4 = some (.iload_n 2, 1) := by decide +kernel
theorem a_X4_placeOf_5 : ix_at mT_X4_placeOf 5 = some (.iadd, 1) := by decide +kernel
theorem a_X4_placeOf_6 : ix_at mT_X4_placeOf 6 = some (.ireturn, 1) := by decide +kernel
theorem a_X4_rowOf_0 : ix_at mT_X4_rowOf 0 = some (.aload_n 0, 1) := by decide +kernel
theorem a_X4_rowOf_1 : ix_at mT_X4_rowOf 1 = some (.iload_n 1, 1) := by decide +kernel
theorem a_X4_rowOf_2 : ix_at mT_X4_rowOf 2 = some (.invokevirtual 125, 3) := by decide +kernel
theorem a_X4_rowOf_5 : ix_at mT_X4_rowOf 5 = some (.ifCond .eq 15, 3) := by decide +kernel
theorem a_X4_rowOf_8 : ix_at mT_X4_rowOf 8 = some (.aload_n 0, 1) := by decide +kernel
theorem a_X4_rowOf_9 : ix_at mT_X4_rowOf 9 = some (.getfield 26, 3) := by decide +kernel
theorem a_X4_rowOf_12 : ix_at mT_X4_rowOf 12 = some (.iload_n 1, 1) := by decide +kernel
theorem a_X4_rowOf_13 : ix_at mT_X4_rowOf 13 = some (.aaload, 1) := by decide +kernel
theorem a_X4_rowOf_14 : ix_at mT_X4_rowOf 14 = some (.getfield 186, 3) := by decide +kernel
theorem a_X4_rowOf_17 : ix_at mT_X4_rowOf 17 = some (.goto 7, 3) := by decide +kernel
theorem a_X4_rowOf_20 : ix_at mT_X4_rowOf 20 = some (.aload_n 0, 1) := by decide +kernel
theorem a_X4_rowOf_21 : ix_at mT_X4_rowOf 21 = some (.getfield 30, 3) := by decide +kernel
theorem a_X4_rowOf_24 : ix_at mT_X4_rowOf 24 = some (.areturn, 1) := by decide +kernel
theorem a_X4_refusalOf_0 : ix_at mT_X4_refusalOf 0 = some (.aload_n 0, 1) := by decide +kernel
theorem a_X4_refusalOf_1 : ix_at mT_X4_refusalOf 1 = some (.getfield 63, 3) := by decide +kernel
theorem a_X4_refusalOf_4 : ix_at mT_X4_refusalOf 4 = some (.ifCond .eq 5, 3) := by decide +kernel
theorem a_X4_refusalOf_7 : ix_at mT_X4_refusalOf 7 = some (.iconst (-1), 1) := by decide +kernel
theorem a_X4_refusalOf_8 : ix_at mT_X4_refusalOf 8 = some (.ireturn, 1) := by decide +kernel
theorem a_X4_refusalOf_9 : ix_at mT_X4_refusalOf 9 = some (.iload_n 3, 1) := by decide +kernel
theorem a_X4_refusalOf_10 : ix_at mT_X4_refusalOf 10 = some (.ifCond .eq 11, 3) := by decide +kernel
theorem a_X4_refusalOf_13 : ix_at mT_X4_refusalOf 13 = some (.aload_n 0, 1) := by decide +kernel
theorem a_X4_refusalOf_14 : ix_at mT_X4_refusalOf 14 = some (.iload_n 1, 1) := by decide +kernel
theorem a_X4_refusalOf_15 : ix_at mT_X4_refusalOf 15 = some (.invokevirtual 202, 3) := by decide +kernel
theorem a_X4_refusalOf_18 : ix_at mT_X4_refusalOf 18 = some (.ifCond .ne 6, 3) := by decide +kernel
theorem a_X4_refusalOf_21 : ix_at mT_X4_refusalOf 21 = some (.bipush (-2), 2) := by decide +kernel
theorem a_X4_refusalOf_23 : ix_at mT_X4_refusalOf 23 = some (.ireturn, 1) := by decide +kernel
theorem a_X4_refusalOf_24 : ix_at mT_X4_refusalOf 24 = some (.aload_n 0, 1) := by decide +kernel
theorem a_X4_refusalOf_25 : ix_at mT_X4_refusalOf 25 = some (.getfield 42, 3) := by decide +kernel
theorem a_X4_refusalOf_28 : ix_at mT_X4_refusalOf 28 = some (.iload_n 1, 1) := by decide +kernel
theorem a_X4_refusalOf_29 : ix_at mT_X4_refusalOf 29 = some (.aaload, 1) := by decide +kernel
theorem a_X4_refusalOf_30 : ix_at mT_X4_refusalOf 30 = some (.getfield 88, 3) := by decide +kernel
theorem a_X4_refusalOf_33 : ix_at mT_X4_refusalOf 33 = some (.iload_n 2, 1) := by decide +kernel
theorem a_X4_refusalOf_34 : ix_at mT_X4_refusalOf 34 = some (.if_icmp .ne 7, 3) := by decide +kernel
theorem a_X4_refusalOf_37 : ix_at mT_X4_refusalOf 37 = some (.iconst 0, 1) := by decide +kernel
theorem a_X4_refusalOf_38 : ix_at mT_X4_refusalOf 38 = some (.goto 5, 3) := by decide +kernel
theorem a_X4_refusalOf_41 : ix_at mT_X4_refusalOf 41 = some (.bipush (-3), 2) := by decide +kernel
theorem a_X4_refusalOf_43 : ix_at mT_X4_refusalOf 43 = some (.ireturn, 1) := by decide +kernel
theorem a_X4_takeSent_0 : ix_at mT_X4_takeSent 0 = some (.aload_n 0, 1) := by decide +kernel
theorem a_X4_takeSent_1 : ix_at mT_X4_takeSent 1 = some (.iload_n 1, 1) := by decide +kernel
theorem a_X4_takeSent_2 : ix_at mT_X4_takeSent 2 = some (.iload_n 2, 1) := by decide +kernel
theorem a_X4_takeSent_3 : ix_at mT_X4_takeSent 3 = some (.aload_n 0, 1) := by decide +kernel
theorem a_X4_takeSent_4 : ix_at mT_X4_takeSent 4 = some (.iload_n 3, 1) := by decide +kernel
theorem a_X4_takeSent_5 : ix_at mT_X4_takeSent 5 = some (.invokevirtual 125, 3) := by decide +kernel
theorem a_X4_takeSent_8 : ix_at mT_X4_takeSent 8 = some (.invokevirtual 91, 3) := by decide +kernel
theorem a_X4_takeSent_11 : ix_at mT_X4_takeSent 11 = some (.istore 6, 2) := by decide +kernel
theorem a_X4_takeSent_13 : ix_at mT_X4_takeSent 13 = some (.iload 6, 2) := by decide +kernel
theorem a_X4_takeSent_15 : ix_at mT_X4_takeSent 15 = some (.ifCond .eq 6, 3) := by decide +kernel
theorem a_X4_takeSent_18 : ix_at mT_X4_takeSent 18 = some (.iload 6, 2) := by decide +kernel
theorem a_X4_takeSent_20 : ix_at mT_X4_takeSent 20 = some (.ireturn, 1) := by decide +kernel
theorem a_X4_takeSent_21 : ix_at mT_X4_takeSent 21 = some (.aload_n 0, 1) := by decide +kernel
theorem a_X4_takeSent_22 : ix_at mT_X4_takeSent 22 = some (.getfield 42, 3) := by decide +kernel
theorem a_X4_takeSent_25 : ix_at mT_X4_takeSent 25 = some (.iload_n 1, 1) := by decide +kernel
theorem a_X4_takeSent_26 : ix_at mT_X4_takeSent 26 = some (.aaload, 1) := by decide +kernel
theorem a_X4_takeSent_27 : ix_at mT_X4_takeSent 27 = some (.astore 7, 2) := by decide +kernel
theorem a_X4_takeSent_29 : ix_at mT_X4_takeSent 29 = some (.aload 7, 2) := by decide +kernel
theorem a_X4_takeSent_31 : ix_at mT_X4_takeSent 31 = some (.invokevirtual 71, 3) := by decide +kernel
theorem a_X4_takeSent_34 : ix_at mT_X4_takeSent 34 = some (.iload 5, 2) := by decide +kernel
theorem a_X4_takeSent_36 : ix_at mT_X4_takeSent 36 = some (.if_icmp .eq 6, 3) := by decide +kernel
theorem a_X4_takeSent_39 : ix_at mT_X4_takeSent 39 = some (.bipush (-5), 2) := by decide +kernel
theorem a_X4_takeSent_41 : ix_at mT_X4_takeSent 41 = some (.ireturn, 1) := by decide +kernel
theorem a_X4_takeSent_42 : ix_at mT_X4_takeSent 42 = some (.aload_n 0, 1) := by decide +kernel
theorem a_X4_takeSent_43 : ix_at mT_X4_takeSent 43 = some (.getfield 26, 3) := by decide +kernel
theorem a_X4_takeSent_46 : ix_at mT_X4_takeSent 46 = some (.iload_n 3, 1) := by decide +kernel
theorem a_X4_takeSent_47 : ix_at mT_X4_takeSent 47 = some (.aaload, 1) := by decide +kernel
theorem a_X4_takeSent_48 : ix_at mT_X4_takeSent 48 = some (.iload_n 1, 1) := by decide +kernel
theorem a_X4_takeSent_49 : ix_at mT_X4_takeSent 49 = some (.iload_n 2, 1) := by decide +kernel
theorem a_X4_takeSent_50 : ix_at mT_X4_takeSent 50 = some (.iload 4, 2) := by decide +kernel
theorem a_X4_takeSent_52 : ix_at mT_X4_takeSent 52 = some (.invokevirtual 240, 3) := by decide +kernel
theorem a_X4_takeSent_55 : ix_at mT_X4_takeSent 55 = some (.istore 8, 2) := by decide +kernel
theorem a_X4_takeSent_57 : ix_at mT_X4_takeSent 57 = some (.iload 8, 2) := by decide +kernel
theorem a_X4_takeSent_59 : ix_at mT_X4_takeSent 59 = some (.iconst (-1), 1) := by decide +kernel
theorem a_X4_takeSent_60 : ix_at mT_X4_takeSent 60 = some (.if_icmp .eq 6, 3) := by decide +kernel
theorem a_X4_takeSent_63 : ix_at mT_X4_takeSent 63 = some (.iload 8, 2) := by decide +kernel
theorem a_X4_takeSent_65 : ix_at mT_X4_takeSent 65 = some (.ireturn, 1) := by decide +kernel
theorem a_X4_takeSent_66 : ix_at mT_X4_takeSent 66 = some (.iload 4, 2) := by decide +kernel
theorem a_X4_takeSent_68 : ix_at mT_X4_takeSent 68 = some (.aload_n 0, 1) := by decide +kernel
theorem a_X4_takeSent_69 : ix_at mT_X4_takeSent 69 = some (.getfield 26, 3) := by decide +kernel
theorem a_X4_takeSent_72 : ix_at mT_X4_takeSent 72 = some (.iload_n 3, 1) := by decide +kernel
theorem a_X4_takeSent_73 : ix_at mT_X4_takeSent 73 = some (.aaload, 1) := by decide +kernel
theorem a_X4_takeSent_74 : ix_at mT_X4_takeSent 74 = some (.iload_n 1, 1) := by decide +kernel
theorem a_X4_takeSent_75 : ix_at mT_X4_takeSent 75 = some (.iload_n 2, 1) := by decide +kernel
theorem a_X4_takeSent_76 : ix_at mT_X4_takeSent 76 = some (.invokevirtual 217, 3) := by decide +kernel
theorem a_X4_takeSent_79 : ix_at mT_X4_takeSent 79 = some (.if_icmp .eq 6, 3) := by decide +kernel
theorem a_X4_takeSent_82 : ix_at mT_X4_takeSent 82 = some (.bipush (-6), 2) := by decide +kernel
theorem a_X4_takeSent_84 : ix_at mT_X4_takeSent 84 = some (.ireturn, 1) := by decide +kernel
theorem a_X4_takeSent_85 : ix_at mT_X4_takeSent 85 = some (.iload 5, 2) := by decide +kernel
theorem a_X4_takeSent_87 : ix_at mT_X4_takeSent 87 = some (.ifCond .eq 16, 3) := by decide +kernel
theorem a_X4_takeSent_90 : ix_at mT_X4_takeSent 90 = some (.aload 7, 2) := by decide +kernel
theorem a_X4_takeSent_92 : ix_at mT_X4_takeSent 92 = some (.iload_n 3, 1) := by decide +kernel
theorem a_X4_takeSent_93 : ix_at mT_X4_takeSent 93 = some (.invokevirtual 243, 3) := by decide +kernel
theorem a_X4_takeSent_96 : ix_at mT_X4_takeSent 96 = some (.ifCond .ne 7, 3) := by decide +kernel
theorem a_X4_takeSent_99 : ix_at mT_X4_takeSent 99 = some (.iconst 1, 1) := by decide +kernel
theorem a_X4_takeSent_100 : ix_at mT_X4_takeSent 100 = some (.goto 4, 3) := by decide +kernel
theorem a_X4_takeSent_103 : ix_at mT_X4_takeSent 103 = some (.iconst 0, 1) := by decide +kernel
theorem a_X4_takeSent_104 : ix_at mT_X4_takeSent 104 = some (.istore 9, 2) := by decide +kernel
theorem a_X4_takeSent_106 : ix_at mT_X4_takeSent 106 = some (.aload_n 0, 1) := by decide +kernel
theorem a_X4_takeSent_107 : ix_at mT_X4_takeSent 107 = some (.iload_n 3, 1) := by decide +kernel
theorem a_X4_takeSent_108 : ix_at mT_X4_takeSent 108 = some (.iload 9, 2) := by decide +kernel
theorem a_X4_takeSent_110 : ix_at mT_X4_takeSent 110 = some (.invokevirtual 246, 3) := by decide +kernel
theorem a_X4_takeSent_113 : ix_at mT_X4_takeSent 113 = some (.ifCond .eq 16, 3) := by decide +kernel
theorem a_X4_takeSent_116 : ix_at mT_X4_takeSent 116 = some (.iload 9, 2) := by decide +kernel
theorem a_X4_takeSent_118 : ix_at mT_X4_takeSent 118 = some (.ifCond .eq 14, 3) := by decide +kernel
theorem a_X4_takeSent_121 : ix_at mT_X4_takeSent 121 = some (.aload_n 0, 1) := by decide +kernel
theorem a_X4_takeSent_122 : ix_at mT_X4_takeSent 122 = some (.iconst 0, 1) := by decide +kernel
theorem a_X4_takeSent_123 : ix_at mT_X4_takeSent 123 = some (.invokevirtual 82, 3) := by decide +kernel
theorem a_X4_takeSent_126 : ix_at mT_X4_takeSent 126 = some (.ifCond .ne 6, 3) := by decide +kernel
theorem a_X4_takeSent_129 : ix_at mT_X4_takeSent 129 = some (.bipush (-8), 2) := by decide +kernel
theorem a_X4_takeSent_131 : ix_at mT_X4_takeSent 131 = some (.ireturn, 1) := by decide +kernel
theorem a_X4_takeSent_132 : ix_at mT_X4_takeSent 132 = some (.iload 9, 2) := by decide +kernel
theorem a_X4_takeSent_134 : ix_at mT_X4_takeSent 134 = some (.ifCond .eq 12, 3) := by decide +kernel
theorem a_X4_takeSent_137 : ix_at mT_X4_takeSent 137 = some (.aload_n 0, 1) := by decide +kernel
theorem a_X4_takeSent_138 : ix_at mT_X4_takeSent 138 = some (.iconst 2, 1) := by decide +kernel
theorem a_X4_takeSent_139 : ix_at mT_X4_takeSent 139 = some (.iload_n 1, 1) := by decide +kernel
theorem a_X4_takeSent_140 : ix_at mT_X4_takeSent 140 = some (.iload_n 2, 1) := by decide +kernel
theorem a_X4_takeSent_141 : ix_at mT_X4_takeSent 141 = some (.iload_n 3, 1) := by decide +kernel
theorem a_X4_takeSent_142 : ix_at mT_X4_takeSent 142 = some (.iconst 0, 1) := by decide +kernel
theorem a_X4_takeSent_143 : ix_at mT_X4_takeSent 143 = some (.invokevirtual 101, 3) := by decide +kernel
theorem a_X4_takeSent_146 : ix_at mT_X4_takeSent 146 = some (.aload_n 0, 1) := by decide +kernel
theorem a_X4_takeSent_147 : ix_at mT_X4_takeSent 147 = some (.iload_n 3, 1) := by decide +kernel
theorem a_X4_takeSent_148 : ix_at mT_X4_takeSent 148 = some (.iload 5, 2) := by decide +kernel
theorem a_X4_takeSent_150 : ix_at mT_X4_takeSent 150 = some (.ifCond .eq 7, 3) := by decide +kernel
theorem a_X4_takeSent_153 : ix_at mT_X4_takeSent 153 = some (.iconst 1, 1) := by decide +kernel
theorem a_X4_takeSent_154 : ix_at mT_X4_takeSent 154 = some (.goto 4, 3) := by decide +kernel
theorem a_X4_takeSent_157 : ix_at mT_X4_takeSent 157 = some (.iconst 0, 1) := by decide +kernel
theorem a_X4_takeSent_158 : ix_at mT_X4_takeSent 158 = some (.iload_n 1, 1) := by decide +kernel
theorem a_X4_takeSent_159 : ix_at mT_X4_takeSent 159 = some (.iload_n 2, 1) := by decide +kernel
theorem a_X4_takeSent_160 : ix_at mT_X4_takeSent 160 = some (.iload 4, 2) := by decide +kernel
theorem a_X4_takeSent_162 : ix_at mT_X4_takeSent 162 = some (.aload_n 0, 1) := by decide +kernel
theorem a_X4_takeSent_163 : ix_at mT_X4_takeSent 163 = some (.getfield 14, 3) := by decide +kernel
theorem a_X4_takeSent_166 : ix_at mT_X4_takeSent 166 = some (.invokevirtual 250, 3) := by decide +kernel
theorem a_X4_takeSent_169 : ix_at mT_X4_takeSent 169 = some (.ireturn, 1) := by decide +kernel
theorem a_X4_logHasRoom_0 : ix_at mT_X4_logHasRoom 0 = some (.aload_n 0, 1) := by decide +kernel
theorem a_X4_logHasRoom_1 : ix_at mT_X4_logHasRoom 1 = some (.iload_n 1, 1) := by decide +kernel
theorem a_X4_logHasRoom_2 : ix_at mT_X4_logHasRoom 2 = some (.invokevirtual 192, 3) := by decide +kernel
theorem a_X4_logHasRoom_5 : ix_at mT_X4_logHasRoom 5 = some (.iload_n 2, 1) := by decide +kernel
theorem a_X4_logHasRoom_6 : ix_at mT_X4_logHasRoom 6 = some (.ifCond .eq 7, 3) := by decide +kernel
theorem a_X4_logHasRoom_9 : ix_at mT_X4_logHasRoom 9 = some (.iconst 1, 1) := by decide +kernel
theorem a_X4_logHasRoom_10 : ix_at mT_X4_logHasRoom 10 = some (.goto 4, 3) := by decide +kernel
theorem a_X4_logHasRoom_13 : ix_at mT_X4_logHasRoom 13 = some (.iconst 0, 1) := by decide +kernel
theorem a_X4_logHasRoom_14 : ix_at mT_X4_logHasRoom 14 = some (.iadd, 1) := by decide +kernel
theorem a_X4_logHasRoom_15 : ix_at mT_X4_logHasRoom 15 = some (.istore_n 3, 1) := by decide +kernel
theorem a_X4_logHasRoom_16 : ix_at mT_X4_logHasRoom 16 = some (.aload_n 0, 1) := by decide +kernel
theorem a_X4_logHasRoom_17 : ix_at mT_X4_logHasRoom 17 = some (.getfield 26, 3) := by decide +kernel
theorem a_X4_logHasRoom_20 : ix_at mT_X4_logHasRoom 20 = some (.iload_n 1, 1) := by decide +kernel
theorem a_X4_logHasRoom_21 : ix_at mT_X4_logHasRoom 21 = some (.aaload, 1) := by decide +kernel
theorem a_X4_logHasRoom_22 : ix_at mT_X4_logHasRoom 22 = some (.getfield 186, 3) := by decide +kernel
theorem a_X4_logHasRoom_25 : ix_at mT_X4_logHasRoom 25 = some (.getfield 56, 3) := by decide +kernel
theorem a_X4_logHasRoom_28 : ix_at mT_X4_logHasRoom 28 = some (.bipush 14, 2) := by decide +kernel
theorem a_X4_logHasRoom_30 : ix_at mT_X4_logHasRoom 30 = some (.iadd, 1) := by decide +kernel
theorem a_X4_logHasRoom_31 : ix_at mT_X4_logHasRoom 31 = some (.aload_n 0, 1) := by decide +kernel
theorem a_X4_logHasRoom_32 : ix_at mT_X4_logHasRoom 32 = some (.getfield 14, 3) := by decide +kernel
theorem a_X4_logHasRoom_35 : ix_at mT_X4_logHasRoom 35 = some (.getfield 56, 3) := by decide +kernel
theorem a_X4_logHasRoom_38 : ix_at mT_X4_logHasRoom 38 = some (.iadd, 1) := by decide +kernel
theorem a_X4_logHasRoom_39 : ix_at mT_X4_logHasRoom 39 = some (.bipush 14, 2) := by decide +kernel
theorem a_X4_logHasRoom_41 : ix_at mT_X4_logHasRoom 41 = some (.iload_n 3, 1) := by decide +kernel
theorem a_X4_logHasRoom_42 : ix_at mT_X4_logHasRoom 42 = some (.imul, 1) := by decide +kernel
theorem a_X4_logHasRoom_43 : ix_at mT_X4_logHasRoom 43 = some (.iadd, 1) := by decide +kernel
theorem a_X4_logHasRoom_44 : ix_at mT_X4_logHasRoom 44 = some (.aload_n 0, 1) := by decide +kernel
theorem a_X4_logHasRoom_45 : ix_at mT_X4_logHasRoom 45 = some (.getfield 220, 3) := by decide +kernel
theorem a_X4_logHasRoom_48 : ix_at mT_X4_logHasRoom 48 = some (.if_icmp .gt 7, 3) := by decide +kernel
theorem a_X4_logHasRoom_51 : ix_at mT_X4_logHasRoom 51 = some (.iconst 1, 1) := by decide +kernel
theorem a_X4_logHasRoom_52 : ix_at mT_X4_logHasRoom 52 = some (.goto 4, 3) := by decide +kernel
theorem a_X4_logHasRoom_55 : ix_at mT_X4_logHasRoom 55 = some (.iconst 0, 1) := by decide +kernel
theorem a_X4_logHasRoom_56 : ix_at mT_X4_logHasRoom 56 = some (.ireturn, 1) := by decide +kernel
theorem a_X4_bookHasRoom_0 : ix_at mT_X4_bookHasRoom 0 = some (.aload_n 0, 1) := by decide +kernel
theorem a_X4_bookHasRoom_1 : ix_at mT_X4_bookHasRoom 1 = some (.invokevirtual 229, 3) := by decide +kernel
theorem a_X4_bookHasRoom_4 : ix_at mT_X4_bookHasRoom 4 = some (.iload_n 1, 1) := by decide +kernel
theorem a_X4_bookHasRoom_5 : ix_at mT_X4_bookHasRoom 5 = some (.iadd, 1) := by decide +kernel
theorem a_X4_bookHasRoom_6 : ix_at mT_X4_bookHasRoom 6 = some (.istore_n 2, 1) := by decide +kernel
theorem a_X4_bookHasRoom_7 : ix_at mT_X4_bookHasRoom 7 = some (.aload_n 0, 1) := by decide +kernel
theorem a_X4_bookHasRoom_8 : ix_at mT_X4_bookHasRoom 8 = some (.getfield 30, 3) := by decide +kernel
theorem a_X4_bookHasRoom_11 : ix_at mT_X4_bookHasRoom 11 = some (.getfield 56, 3) := by decide +kernel
theorem a_X4_bookHasRoom_14 : ix_at mT_X4_bookHasRoom 14 = some (.bipush 16, 2) := by decide +kernel
theorem a_X4_bookHasRoom_16 : ix_at mT_X4_bookHasRoom 16 = some (.iadd, 1) := by decide +kernel
theorem a_X4_bookHasRoom_17 : ix_at mT_X4_bookHasRoom 17 = some (.bipush 48, 2) := by decide +kernel
theorem a_X4_bookHasRoom_19 : ix_at mT_X4_bookHasRoom 19 = some (.iload_n 2, 1) := by decide +kernel
theorem a_X4_bookHasRoom_20 : ix_at mT_X4_bookHasRoom 20 = some (.imul, 1) := by decide +kernel
theorem a_X4_bookHasRoom_21 : ix_at mT_X4_bookHasRoom 21 = some (.iadd, 1) := by decide +kernel
theorem a_X4_bookHasRoom_22 : ix_at mT_X4_bookHasRoom 22 = some (.sipush 16000, 3) := by decide +kernel
theorem a_X4_bookHasRoom_25 : ix_at mT_X4_bookHasRoom 25 = some (.if_icmp .gt 7, 3) := by decide +kernel
theorem a_X4_bookHasRoom_28 : ix_at mT_X4_bookHasRoom 28 = some (.iconst 1, 1) := by decide +kernel
theorem a_X4_bookHasRoom_29 : ix_at mT_X4_bookHasRoom 29 = some (.goto 4, 3) := by decide +kernel
theorem a_X4_bookHasRoom_32 : ix_at mT_X4_bookHasRoom 32 = some (.iconst 0, 1) := by decide +kernel
theorem a_X4_bookHasRoom_33 : ix_at mT_X4_bookHasRoom 33 = some (.ireturn, 1) := by decide +kernel
theorem a_X4_registeredProducers_0 : ix_at mT_X4_registeredProducers 0 = some (.iconst 0, 1) := by decide +kernel
theorem a_X4_registeredProducers_1 : ix_at mT_X4_registeredProducers 1 = some (.istore_n 1, 1) := by decide +kernel
theorem a_X4_registeredProducers_2 : ix_at mT_X4_registeredProducers 2 = some (.iconst 0, 1) := by decide +kernel
theorem a_X4_registeredProducers_3 : ix_at mT_X4_registeredProducers 3 = some (.istore_n 2, 1) := by decide +kernel
theorem a_X4_registeredProducers_4 : ix_at mT_X4_registeredProducers 4 = some (.iload_n 2, 1) := by decide +kernel
theorem a_X4_registeredProducers_5 : ix_at mT_X4_registeredProducers 5 = some (.bipush 32, 2) := by decide +kernel
theorem a_X4_registeredProducers_7 : ix_at mT_X4_registeredProducers 7 = some (.if_icmp .ge 25, 3) := by decide +kernel
theorem a_X4_registeredProducers_10 : ix_at mT_X4_registeredProducers 10 = some (.iload_n 1, 1) := by decide +kernel
theorem a_X4_registeredProducers_11 : ix_at mT_X4_registeredProducers 11 = some (.aload_n 0, 1) := by decide +kernel
theorem a_X4_registeredProducers_12 : ix_at mT_X4_registeredProducers 12 = some (.iload_n 2, 1) := by decide +kernel
theorem a_X4_registeredProducers_13 : ix_at mT_X4_registeredProducers 13 = some (.invokevirtual 202, 3) := by decide +kernel
theorem a_X4_registeredProducers_16 : ix_at mT_X4_registeredProducers 16 = some (.ifCond .eq 7, 3) := by decide +kernel
theorem a_X4_registeredProducers_19 : ix_at mT_X4_registeredProducers 19 = some (.iconst 1, 1) := by decide +kernel
theorem a_X4_registeredProducers_20 : ix_at mT_X4_registeredProducers 20 = some (.goto 4, 3) := by decide +kernel
theorem a_X4_registeredProducers_23 : ix_at mT_X4_registeredProducers 23 = some (.iconst 0, 1) := by decide +kernel
theorem a_X4_registeredProducers_24 : ix_at mT_X4_registeredProducers 24 = some (.iadd, 1) := by decide +kernel
theorem a_X4_registeredProducers_25 : ix_at mT_X4_registeredProducers 25 = some (.istore_n 1, 1) := by decide +kernel
theorem a_X4_registeredProducers_26 : ix_at mT_X4_registeredProducers 26 = some (.iinc 2 1, 3) := by decide +kernel
theorem a_X4_registeredProducers_29 : ix_at mT_X4_registeredProducers 29 = some (.goto (-25), 3) := by decide +kernel
theorem a_X4_registeredProducers_32 : ix_at mT_X4_registeredProducers 32 = some (.iload_n 1, 1) := by decide +kernel
theorem a_X4_registeredProducers_33 : ix_at mT_X4_registeredProducers 33 = some (.ireturn, 1) := by decide +kernel
theorem a_X4_openTransactions_0 : ix_at mT_X4_openTransactions 0 = some (.iconst 0, 1) := by decide +kernel
theorem a_X4_openTransactions_1 : ix_at mT_X4_openTransactions 1 = some (.istore_n 1, 1) := by decide +kernel
theorem a_X4_openTransactions_2 : ix_at mT_X4_openTransactions 2 = some (.iconst 0, 1) := by decide +kernel
theorem a_X4_openTransactions_3 : ix_at mT_X4_openTransactions 3 = some (.istore_n 2, 1) := by decide +kernel
theorem a_X4_openTransactions_4 : ix_at mT_X4_openTransactions 4 = some (.iload_n 2, 1) := by decide +kernel
theorem a_X4_openTransactions_5 : ix_at mT_X4_openTransactions 5 = some (.bipush 32, 2) := by decide +kernel
theorem a_X4_openTransactions_7 : ix_at mT_X4_openTransactions 7 = some (.if_icmp .ge 29, 3) := by decide +kernel
theorem a_X4_openTransactions_10 : ix_at mT_X4_openTransactions 10 = some (.iload_n 1, 1) := by decide +kernel
theorem a_X4_openTransactions_11 : ix_at mT_X4_openTransactions 11 = some (.aload_n 0, 1) := by decide +kernel
theorem a_X4_openTransactions_12 : ix_at mT_X4_openTransactions 12 = some (.getfield 42, 3) := by decide +kernel
theorem a_X4_openTransactions_15 : ix_at mT_X4_openTransactions 15 = some (.iload_n 2, 1) := by decide +kernel
theorem a_X4_openTransactions_16 : ix_at mT_X4_openTransactions 16 = some (.aaload, 1) := by decide +kernel
theorem a_X4_openTransactions_17 : ix_at mT_X4_openTransactions 17 = some (.invokevirtual 71, 3) := by decide +kernel
theorem a_X4_openTransactions_20 : ix_at mT_X4_openTransactions 20 = some (.ifCond .eq 7, 3) := by decide +kernel
theorem a_X4_openTransactions_23 : ix_at mT_X4_openTransactions 23 = some (.iconst 1, 1) := by decide +kernel
theorem a_X4_openTransactions_24 : ix_at mT_X4_openTransactions 24 = some (.goto 4, 3) := by decide +kernel
theorem a_X4_openTransactions_27 : ix_at mT_X4_openTransactions 27 = some (.iconst 0, 1) := by decide +kernel
theorem a_X4_openTransactions_28 : ix_at mT_X4_openTransactions 28 = some (.iadd, 1) := by decide +kernel
theorem a_X4_openTransactions_29 : ix_at mT_X4_openTransactions 29 = some (.istore_n 1, 1) := by decide +kernel
theorem a_X4_openTransactions_30 : ix_at mT_X4_openTransactions 30 = some (.iinc 2 1, 3) := by decide +kernel
theorem a_X4_openTransactions_33 : ix_at mT_X4_openTransactions 33 = some (.goto (-29), 3) := by decide +kernel
theorem a_X4_openTransactions_36 : ix_at mT_X4_openTransactions 36 = some (.iload_n 1, 1) := by decide +kernel
theorem a_X4_openTransactions_37 : ix_at mT_X4_openTransactions 37 = some (.ireturn, 1) := by decide +kernel
theorem a_X4_openThatAdded_0 : ix_at mT_X4_openThatAdded 0 = some (.iconst 0, 1) := by decide +kernel
theorem a_X4_openThatAdded_1 : ix_at mT_X4_openThatAdded 1 = some (.istore_n 2, 1) := by decide +kernel
theorem a_X4_openThatAdded_2 : ix_at mT_X4_openThatAdded 2 = some (.iconst 0, 1) := by decide +kernel
theorem a_X4_openThatAdded_3 : ix_at mT_X4_openThatAdded 3 = some (.istore_n 3, 1) := by decide +kernel
theorem a_X4_openThatAdded_4 : ix_at mT_X4_openThatAdded 4 = some (.iload_n 3, 1) := by decide +kernel
theorem a_X4_openThatAdded_5 : ix_at mT_X4_openThatAdded 5 = some (.bipush 32, 2) := by decide +kernel
theorem a_X4_openThatAdded_7 : ix_at mT_X4_openThatAdded 7 = some (.if_icmp .ge 30, 3) := by decide +kernel
theorem a_X4_openThatAdded_10 : ix_at mT_X4_openThatAdded 10 = some (.iload_n 2, 1) := by decide +kernel
theorem a_X4_openThatAdded_11 : ix_at mT_X4_openThatAdded 11 = some (.aload_n 0, 1) := by decide +kernel
theorem a_X4_openThatAdded_12 : ix_at mT_X4_openThatAdded 12 = some (.getfield 42, 3) := by decide +kernel
theorem a_X4_openThatAdded_15 : ix_at mT_X4_openThatAdded 15 = some (.iload_n 3, 1) := by decide +kernel
theorem a_X4_openThatAdded_16 : ix_at mT_X4_openThatAdded 16 = some (.aaload, 1) := by decide +kernel
theorem a_X4_openThatAdded_17 : ix_at mT_X4_openThatAdded 17 = some (.iload_n 1, 1) := by decide +kernel
theorem a_X4_openThatAdded_18 : ix_at mT_X4_openThatAdded 18 = some (.invokevirtual 243, 3) := by decide +kernel
theorem a_X4_openThatAdded_21 : ix_at mT_X4_openThatAdded 21 = some (.ifCond .eq 7, 3) := by decide +kernel
theorem a_X4_openThatAdded_24 : ix_at mT_X4_openThatAdded 24 = some (.iconst 1, 1) := by decide +kernel
theorem a_X4_openThatAdded_25 : ix_at mT_X4_openThatAdded 25 = some (.goto 4, 3) := by decide +kernel
theorem a_X4_openThatAdded_28 : ix_at mT_X4_openThatAdded 28 = some (.iconst 0, 1) := by decide +kernel
theorem a_X4_openThatAdded_29 : ix_at mT_X4_openThatAdded 29 = some (.iadd, 1) := by decide +kernel
theorem a_X4_openThatAdded_30 : ix_at mT_X4_openThatAdded 30 = some (.istore_n 2, 1) := by decide +kernel
theorem a_X4_openThatAdded_31 : ix_at mT_X4_openThatAdded 31 = some (.iinc 3 1, 3) := by decide +kernel
theorem a_X4_openThatAdded_34 : ix_at mT_X4_openThatAdded 34 = some (.goto (-30), 3) := by decide +kernel
theorem a_X4_openThatAdded_37 : ix_at mT_X4_openThatAdded 37 = some (.iload_n 2, 1) := by decide +kernel
theorem a_X4_openThatAdded_38 : ix_at mT_X4_openThatAdded 38 = some (.ireturn, 1) := by decide +kernel
theorem a_X4_writeToLog_0 : ix_at mT_X4_writeToLog 0 = some (.aload_n 0, 1) := by decide +kernel
theorem a_X4_writeToLog_1 : ix_at mT_X4_writeToLog 1 = some (.getfield 26, 3) := by decide +kernel
theorem a_X4_writeToLog_4 : ix_at mT_X4_writeToLog 4 = some (.iload_n 1, 1) := by decide +kernel
theorem a_X4_writeToLog_5 : ix_at mT_X4_writeToLog 5 = some (.aaload, 1) := by decide +kernel
theorem a_X4_writeToLog_6 : ix_at mT_X4_writeToLog 6 = some (.astore 7, 2) := by decide +kernel
theorem a_X4_writeToLog_8 : ix_at mT_X4_writeToLog 8 = some (.aload 7, 2) := by decide +kernel
theorem a_X4_writeToLog_10 : ix_at mT_X4_writeToLog 10 = some (.getfield 186, 3) := by decide +kernel
theorem a_X4_writeToLog_13 : ix_at mT_X4_writeToLog 13 = some (.getfield 56, 3) := by decide +kernel
theorem a_X4_writeToLog_16 : ix_at mT_X4_writeToLog 16 = some (.istore 8, 2) := by decide +kernel
theorem a_X4_writeToLog_18 : ix_at mT_X4_writeToLog 18 = some (.aload 7, 2) := by decide +kernel
theorem a_X4_writeToLog_20 : ix_at mT_X4_writeToLog 20 = some (.iload_n 2, 1) := by decide +kernel
theorem a_X4_writeToLog_21 : ix_at mT_X4_writeToLog 21 = some (.iload_n 3, 1) := by decide +kernel
theorem a_X4_writeToLog_22 : ix_at mT_X4_writeToLog 22 = some (.iload 4, 2) := by decide +kernel
theorem a_X4_writeToLog_24 : ix_at mT_X4_writeToLog 24 = some (.iload 5, 2) := by decide +kernel
theorem a_X4_writeToLog_26 : ix_at mT_X4_writeToLog 26 = some (.aload 6, 2) := by decide +kernel
theorem a_X4_writeToLog_28 : ix_at mT_X4_writeToLog 28 = some (.invokevirtual 254, 3) := by decide +kernel
theorem a_X4_writeToLog_31 : ix_at mT_X4_writeToLog 31 = some (.aload_n 0, 1) := by decide +kernel
theorem a_X4_writeToLog_32 : ix_at mT_X4_writeToLog 32 = some (.getfield 36, 3) := by decide +kernel
theorem a_X4_writeToLog_35 : ix_at mT_X4_writeToLog 35 = some (.iload_n 1, 1) := by decide +kernel
theorem a_X4_writeToLog_36 : ix_at mT_X4_writeToLog 36 = some (.aload 7, 2) := by decide +kernel
theorem a_X4_writeToLog_38 : ix_at mT_X4_writeToLog 38 = some (.getfield 186, 3) := by decide +kernel
theorem a_X4_writeToLog_41 : ix_at mT_X4_writeToLog 41 = some (.getfield 56, 3) := by decide +kernel
theorem a_X4_writeToLog_44 : ix_at mT_X4_writeToLog 44 = some (.iload 8, 2) := by decide +kernel
theorem a_X4_writeToLog_46 : ix_at mT_X4_writeToLog 46 = some (.isub, 1) := by decide +kernel
theorem a_X4_writeToLog_47 : ix_at mT_X4_writeToLog 47 = some (.invokevirtual 258, 3) := by decide +kernel
theorem a_X4_writeToLog_50 : ix_at mT_X4_writeToLog 50 = some (.aload 7, 2) := by decide +kernel
theorem a_X4_writeToLog_52 : ix_at mT_X4_writeToLog 52 = some (.getfield 180, 3) := by decide +kernel
theorem a_X4_writeToLog_55 : ix_at mT_X4_writeToLog 55 = some (.iconst 1, 1) := by decide +kernel
theorem a_X4_writeToLog_56 : ix_at mT_X4_writeToLog 56 = some (.isub, 1) := by decide +kernel
theorem a_X4_writeToLog_57 : ix_at mT_X4_writeToLog 57 = some (.ireturn, 1) := by decide +kernel
theorem a_X4_writeToBook_0 : ix_at mT_X4_writeToBook 0 = some (.aload_n 0, 1) := by decide +kernel
theorem a_X4_writeToBook_1 : ix_at mT_X4_writeToBook 1 = some (.getfield 30, 3) := by decide +kernel
theorem a_X4_writeToBook_4 : ix_at mT_X4_writeToBook 4 = some (.getfield 56, 3) := by decide +kernel
theorem a_X4_writeToBook_7 : ix_at mT_X4_writeToBook 7 = some (.istore 6, 2) := by decide +kernel
theorem a_X4_writeToBook_9 : ix_at mT_X4_writeToBook 9 = some (.aload_n 0, 1) := by decide +kernel
theorem a_X4_writeToBook_10 : ix_at mT_X4_writeToBook 10 = some (.getfield 30, 3) := by decide +kernel
theorem a_X4_writeToBook_13 : ix_at mT_X4_writeToBook 13 = some (.iconst 0, 1) := by decide +kernel
theorem a_X4_writeToBook_14 : ix_at mT_X4_writeToBook 14 = some (.iconst 4, 1) := by decide +kernel
theorem a_X4_writeToBook_15 : ix_at mT_X4_writeToBook 15 = some (.invokevirtual 262, 3) := by decide +kernel
theorem a_X4_writeToBook_18 : ix_at mT_X4_writeToBook 18 = some (.aload_n 0, 1) := by decide +kernel
theorem a_X4_writeToBook_19 : ix_at mT_X4_writeToBook 19 = some (.getfield 30, 3) := by decide +kernel
theorem a_X4_writeToBook_22 : ix_at mT_X4_writeToBook 22 = some (.iload_n 1, 1) := by decide +kernel
theorem a_X4_writeToBook_23 : ix_at mT_X4_writeToBook 23 = some (.iconst 1, 1) := by decide +kernel
theorem a_X4_writeToBook_24 : ix_at mT_X4_writeToBook 24 = some (.invokevirtual 262, 3) := by decide +kernel
theorem a_X4_writeToBook_27 : ix_at mT_X4_writeToBook 27 = some (.aload_n 0, 1) := by decide +kernel
theorem a_X4_writeToBook_28 : ix_at mT_X4_writeToBook 28 = some (.getfield 30, 3) := by decide +kernel
theorem a_X4_writeToBook_31 : ix_at mT_X4_writeToBook 31 = some (.iload_n 2, 1) := by decide +kernel
theorem a_X4_writeToBook_32 : ix_at mT_X4_writeToBook 32 = some (.iconst 1, 1) := by decide +kernel
theorem a_X4_writeToBook_33 : ix_at mT_X4_writeToBook 33 = some (.invokevirtual 262, 3) := by decide +kernel
theorem a_X4_writeToBook_36 : ix_at mT_X4_writeToBook 36 = some (.aload_n 0, 1) := by decide +kernel
theorem a_X4_writeToBook_37 : ix_at mT_X4_writeToBook 37 = some (.getfield 30, 3) := by decide +kernel
theorem a_X4_writeToBook_40 : ix_at mT_X4_writeToBook 40 = some (.iload_n 3, 1) := by decide +kernel
theorem a_X4_writeToBook_41 : ix_at mT_X4_writeToBook 41 = some (.iconst 2, 1) := by decide +kernel
theorem a_X4_writeToBook_42 : ix_at mT_X4_writeToBook 42 = some (.invokevirtual 262, 3) := by decide +kernel
theorem a_X4_writeToBook_45 : ix_at mT_X4_writeToBook 45 = some (.aload_n 0, 1) := by decide +kernel
theorem a_X4_writeToBook_46 : ix_at mT_X4_writeToBook 46 = some (.getfield 30, 3) := by decide +kernel
theorem a_X4_writeToBook_49 : ix_at mT_X4_writeToBook 49 = some (.iload 4, 2) := by decide +kernel
theorem a_X4_writeToBook_51 : ix_at mT_X4_writeToBook 51 = some (.iconst 4, 1) := by decide +kernel
theorem a_X4_writeToBook_52 : ix_at mT_X4_writeToBook 52 = some (.invokevirtual 262, 3) := by decide +kernel
theorem a_X4_writeToBook_55 : ix_at mT_X4_writeToBook 55 = some (.aload_n 0, 1) := by decide +kernel
theorem a_X4_writeToBook_56 : ix_at mT_X4_writeToBook 56 = some (.getfield 30, 3) := by decide +kernel
theorem a_X4_writeToBook_59 : ix_at mT_X4_writeToBook 59 = some (.iload 5, 2) := by decide +kernel
theorem a_X4_writeToBook_61 : ix_at mT_X4_writeToBook 61 = some (.iconst 4, 1) := by decide +kernel
theorem a_X4_writeToBook_62 : ix_at mT_X4_writeToBook 62 = some (.invokevirtual 262, 3) := by decide +kernel
theorem a_X4_writeToBook_65 : ix_at mT_X4_writeToBook 65 = some (.aload_n 0, 1) := by decide +kernel
theorem a_X4_writeToBook_66 : ix_at mT_X4_writeToBook 66 = some (.getfield 30, 3) := by decide +kernel
theorem a_X4_writeToBook_69 : ix_at mT_X4_writeToBook 69 = some (.iload 6, 2) := by decide +kernel
theorem a_X4_writeToBook_71 : ix_at mT_X4_writeToBook 71 = some (.invokevirtual 265, 3) := by decide +kernel
theorem a_X4_writeToBook_74 : ix_at mT_X4_writeToBook 74 = some (.aload_n 0, 1) := by decide +kernel
theorem a_X4_writeToBook_75 : ix_at mT_X4_writeToBook 75 = some (.getfield 36, 3) := by decide +kernel
theorem a_X4_writeToBook_78 : ix_at mT_X4_writeToBook 78 = some (.aload_n 0, 1) := by decide +kernel
theorem a_X4_writeToBook_79 : ix_at mT_X4_writeToBook 79 = some (.getfield 146, 3) := by decide +kernel
theorem a_X4_writeToBook_82 : ix_at mT_X4_writeToBook 82 = some (.aload_n 0, 1) := by decide +kernel
theorem a_X4_writeToBook_83 : ix_at mT_X4_writeToBook 83 = some (.getfield 30, 3) := by decide +kernel
theorem a_X4_writeToBook_86 : ix_at mT_X4_writeToBook 86 = some (.getfield 56, 3) := by decide +kernel
theorem a_X4_writeToBook_89 : ix_at mT_X4_writeToBook 89 = some (.iload 6, 2) := by decide +kernel
theorem a_X4_writeToBook_91 : ix_at mT_X4_writeToBook 91 = some (.isub, 1) := by decide +kernel
theorem a_X4_writeToBook_92 : ix_at mT_X4_writeToBook 92 = some (.invokevirtual 258, 3) := by decide +kernel
theorem a_X4_writeToBook_95 : ix_at mT_X4_writeToBook 95 = some (.aload_n 0, 1) := by decide +kernel
theorem a_X4_writeToBook_96 : ix_at mT_X4_writeToBook 96 = some (.iload 6, 2) := by decide +kernel
theorem a_X4_writeToBook_98 : ix_at mT_X4_writeToBook 98 = some (.invokevirtual 174, 3) := by decide +kernel
theorem a_X4_writeToBook_101 : ix_at mT_X4_writeToBook 101 = some (.return_, 1) := by decide +kernel
theorem a_X4_learn_0 : ix_at mT_X4_learn 0 = some (.aload_n 0, 1) := by decide +kernel
theorem a_X4_learn_1 : ix_at mT_X4_learn 1 = some (.getfield 30, 3) := by decide +kernel
theorem a_X4_learn_4 : ix_at mT_X4_learn 4 = some (.iload_n 1, 1) := by decide +kernel
theorem a_X4_learn_5 : ix_at mT_X4_learn 5 = some (.iconst 5, 1) := by decide +kernel
theorem a_X4_learn_6 : ix_at mT_X4_learn 6 = some (.iadd, 1) := by decide +kernel
theorem a_X4_learn_7 : ix_at mT_X4_learn 7 = some (.iconst 1, 1) := by decide +kernel
theorem a_X4_learn_8 : ix_at mT_X4_learn 8 = some (.invokevirtual 268, 3) := by decide +kernel
theorem a_X4_learn_11 : ix_at mT_X4_learn 11 = some (.istore_n 2, 1) := by decide +kernel
theorem a_X4_learn_12 : ix_at mT_X4_learn 12 = some (.aload_n 0, 1) := by decide +kernel
theorem a_X4_learn_13 : ix_at mT_X4_learn 13 = some (.iload_n 2, 1) := by decide +kernel
theorem a_X4_learn_14 : ix_at mT_X4_learn 14 = some (.invokevirtual 67, 3) := by decide +kernel
theorem a_X4_learn_17 : ix_at mT_X4_learn 17 = some (.ifCond .ne 4, 3) := by decide +kernel
theorem a_X4_learn_20 : ix_at mT_X4_learn 20 = some (.return_, 1) := by decide +kernel
theorem a_X4_learn_21 : ix_at mT_X4_learn 21 = some (.aload_n 0, 1) := by decide +kernel
theorem a_X4_learn_22 : ix_at mT_X4_learn 22 = some (.getfield 42, 3) := by decide +kernel
theorem a_X4_learn_25 : ix_at mT_X4_learn 25 = some (.iload_n 2, 1) := by decide +kernel
theorem a_X4_learn_26 : ix_at mT_X4_learn 26 = some (.aaload, 1) := by decide +kernel
theorem a_X4_learn_27 : ix_at mT_X4_learn 27 = some (.astore_n 3, 1) := by decide +kernel
theorem a_X4_learn_28 : ix_at mT_X4_learn 28 = some (.aload_n 0, 1) := by decide +kernel
theorem a_X4_learn_29 : ix_at mT_X4_learn 29 = some (.getfield 30, 3) := by decide +kernel
theorem a_X4_learn_32 : ix_at mT_X4_learn 32 = some (.iload_n 1, 1) := by decide +kernel
theorem a_X4_learn_33 : ix_at mT_X4_learn 33 = some (.bipush 8, 2) := by decide +kernel
theorem a_X4_learn_35 : ix_at mT_X4_learn 35 = some (.iadd, 1) := by decide +kernel
theorem a_X4_learn_36 : ix_at mT_X4_learn 36 = some (.iconst 4, 1) := by decide +kernel
theorem a_X4_learn_37 : ix_at mT_X4_learn 37 = some (.invokevirtual 268, 3) := by decide +kernel
theorem a_X4_learn_40 : ix_at mT_X4_learn 40 = some (.istore 4, 2) := by decide +kernel
theorem a_X4_learn_42 : ix_at mT_X4_learn 42 = some (.aload_n 0, 1) := by decide +kernel
theorem a_X4_learn_43 : ix_at mT_X4_learn 43 = some (.getfield 30, 3) := by decide +kernel
theorem a_X4_learn_46 : ix_at mT_X4_learn 46 = some (.iload_n 1, 1) := by decide +kernel
theorem a_X4_learn_47 : ix_at mT_X4_learn 47 = some (.bipush 12, 2) := by decide +kernel
theorem a_X4_learn_49 : ix_at mT_X4_learn 49 = some (.iadd, 1) := by decide +kernel
theorem a_X4_learn_50 : ix_at mT_X4_learn 50 = some (.iconst 4, 1) := by decide +kernel
theorem a_X4_learn_51 : ix_at mT_X4_learn 51 = some (.invokevirtual 268, 3) := by decide +kernel
theorem a_X4_learn_54 : ix_at mT_X4_learn 54 = some (.istore 5, 2) := by decide +kernel
theorem a_X4_learn_56 : ix_at mT_X4_learn 56 = some (.aload_n 0, 1) := by decide +kernel
theorem a_X4_learn_57 : ix_at mT_X4_learn 57 = some (.getfield 30, 3) := by decide +kernel
theorem a_X4_learn_60 : ix_at mT_X4_learn 60 = some (.iload_n 1, 1) := by decide +kernel
theorem a_X4_learn_61 : ix_at mT_X4_learn 61 = some (.iconst 4, 1) := by decide +kernel
theorem a_X4_learn_62 : ix_at mT_X4_learn 62 = some (.iadd, 1) := by decide +kernel
theorem a_X4_learn_63 : ix_at mT_X4_learn 63 = some (.iconst 1, 1) := by decide +kernel
theorem a_X4_learn_64 : ix_at mT_X4_learn 64 = some (.invokevirtual 268, 3) := by decide +kernel
theorem a_X4_learn_67 : ix_at mT_X4_learn 67 = some (.tableswitch 154 0 6 #[41, 60, 80, 96, 109, 118, 143], 41) := by decide +kernel
theorem a_X4_learn_108 : ix_at mT_X4_learn 108 = some (.aload_n 3, 1) := by decide +kernel
theorem a_X4_learn_109 : ix_at mT_X4_learn 109 = some (.aload_n 0, 1) := by decide +kernel
theorem a_X4_learn_110 : ix_at mT_X4_learn 110 = some (.getfield 30, 3) := by decide +kernel
theorem a_X4_learn_113 : ix_at mT_X4_learn 113 = some (.iload_n 1, 1) := by decide +kernel
theorem a_X4_learn_114 : ix_at mT_X4_learn 114 = some (.bipush 6, 2) := by decide +kernel
theorem a_X4_learn_116 : ix_at mT_X4_learn 116 = some (.iadd, 1) := by decide +kernel
theorem a_X4_learn_117 : ix_at mT_X4_learn 117 = some (.iconst 2, 1) := by decide +kernel
theorem a_X4_learn_118 : ix_at mT_X4_learn 118 = some (.invokevirtual 268, 3) := by decide +kernel
theorem a_X4_learn_121 : ix_at mT_X4_learn 121 = some (.putfield 88, 3) := by decide +kernel
theorem a_X4_learn_124 : ix_at mT_X4_learn 124 = some (.goto 97, 3) := by decide +kernel
theorem a_X4_learn_127 : ix_at mT_X4_learn 127 = some (.aload_n 3, 1) := by decide +kernel
theorem a_X4_learn_128 : ix_at mT_X4_learn 128 = some (.iload 5, 2) := by decide +kernel
theorem a_X4_learn_130 : ix_at mT_X4_learn 130 = some (.iload 4, 2) := by decide +kernel
theorem a_X4_learn_132 : ix_at mT_X4_learn 132 = some (.iload_n 1, 1) := by decide +kernel
theorem a_X4_learn_133 : ix_at mT_X4_learn 133 = some (.invokevirtual 271, 3) := by decide +kernel
theorem a_X4_learn_136 : ix_at mT_X4_learn 136 = some (.aload_n 0, 1) := by decide +kernel
theorem a_X4_learn_137 : ix_at mT_X4_learn 137 = some (.iload 5, 2) := by decide +kernel
theorem a_X4_learn_139 : ix_at mT_X4_learn 139 = some (.iconst 1, 1) := by decide +kernel
theorem a_X4_learn_140 : ix_at mT_X4_learn 140 = some (.iadd, 1) := by decide +kernel
theorem a_X4_learn_141 : ix_at mT_X4_learn 141 = some (.putfield 95, 3) := by decide +kernel
theorem a_X4_learn_144 : ix_at mT_X4_learn 144 = some (.goto 77, 3) := by decide +kernel
theorem a_X4_learn_147 : ix_at mT_X4_learn 147 = some (.aload_n 3, 1) := by decide +kernel
theorem a_X4_learn_148 : ix_at mT_X4_learn 148 = some (.dup, 1) := by decide +kernel
theorem a_X4_learn_149 : ix_at mT_X4_learn 149 = some (.getfield 211, 3) := by decide +kernel
theorem a_X4_learn_152 : ix_at mT_X4_learn 152 = some (.iconst 1, 1) := by decide +kernel
theorem a_X4_learn_153 : ix_at mT_X4_learn 153 = some (.iload 4, 2) := by decide +kernel
theorem a_X4_learn_155 : ix_at mT_X4_learn 155 = some (.ishl, 1) := by decide +kernel
theorem a_X4_learn_156 : ix_at mT_X4_learn 156 = some (.ior, 1) := by decide +kernel
theorem a_X4_learn_157 : ix_at mT_X4_learn 157 = some (.putfield 211, 3) := by decide +kernel
theorem a_X4_learn_160 : ix_at mT_X4_learn 160 = some (.goto 61, 3) := by decide +kernel
theorem a_X4_learn_163 : ix_at mT_X4_learn 163 = some (.aload_n 3, 1) := by decide +kernel
theorem a_X4_learn_164 : ix_at mT_X4_learn 164 = some (.dup, 1) := by decide +kernel
theorem a_X4_learn_165 : ix_at mT_X4_learn 165 = some (.getfield 214, 3) := by decide +kernel
theorem a_X4_learn_168 : ix_at mT_X4_learn 168 = some (.iconst 1, 1) := by decide +kernel
theorem a_X4_learn_169 : ix_at mT_X4_learn 169 = some (.iadd, 1) := by decide +kernel
theorem a_X4_learn_170 : ix_at mT_X4_learn 170 = some (.putfield 214, 3) := by decide +kernel
theorem a_X4_learn_173 : ix_at mT_X4_learn 173 = some (.goto 48, 3) := by decide +kernel
theorem a_X4_learn_176 : ix_at mT_X4_learn 176 = some (.aload_n 3, 1) := by decide +kernel
theorem a_X4_learn_177 : ix_at mT_X4_learn 177 = some (.iload 4, 2) := by decide +kernel
theorem a_X4_learn_179 : ix_at mT_X4_learn 179 = some (.putfield 274, 3) := by decide +kernel
theorem a_X4_learn_182 : ix_at mT_X4_learn 182 = some (.goto 39, 3) := by decide +kernel
theorem a_X4_learn_185 : ix_at mT_X4_learn 185 = some (.aload_n 3, 1) := by decide +kernel
theorem a_X4_learn_186 : ix_at mT_X4_learn 186 = some (.getfield 274, 3) := by decide +kernel
theorem a_X4_learn_189 : ix_at mT_X4_learn 189 = some (.iconst 1, 1) := by decide +kernel
theorem a_X4_learn_190 : ix_at mT_X4_learn 190 = some (.if_icmp .ne 13, 3) := by decide +kernel
theorem a_X4_learn_193 : ix_at mT_X4_learn 193 = some (.aload_n 0, 1) := by decide +kernel
theorem a_X4_learn_194 : ix_at mT_X4_learn 194 = some (.iload_n 2, 1) := by decide +kernel
theorem a_X4_learn_195 : ix_at mT_X4_learn 195 = some (.aload_n 3, 1) := by decide +kernel
theorem a_X4_learn_196 : ix_at mT_X4_learn 196 = some (.getfield 277, 3) := by decide +kernel
theorem a_X4_learn_199 : ix_at mT_X4_learn 199 = some (.iload_n 1, 1) := by decide +kernel
theorem a_X4_learn_200 : ix_at mT_X4_learn 200 = some (.invokevirtual 280, 3) := by decide +kernel
theorem a_X4_learn_203 : ix_at mT_X4_learn 203 = some (.aload_n 3, 1) := by decide +kernel
theorem a_X4_learn_204 : ix_at mT_X4_learn 204 = some (.invokevirtual 283, 3) := by decide +kernel
theorem a_X4_learn_207 : ix_at mT_X4_learn 207 = some (.goto 14, 3) := by decide +kernel
theorem a_X4_learn_210 : ix_at mT_X4_learn 210 = some (.aload_n 0, 1) := by decide +kernel
theorem a_X4_learn_211 : ix_at mT_X4_learn 211 = some (.iload 4, 2) := by decide +kernel
theorem a_X4_learn_213 : ix_at mT_X4_learn 213 = some (.iload 5, 2) := by decide +kernel
theorem a_X4_learn_215 : ix_at mT_X4_learn 215 = some (.invokevirtual 286, 3) := by decide +kernel
theorem a_X4_learn_218 : ix_at mT_X4_learn 218 = some (.goto 3, 3) := by decide +kernel
theorem a_X4_learn_221 : ix_at mT_X4_learn 221 = some (.return_, 1) := by decide +kernel
theorem a_X4_markLaters_0 : ix_at mT_X4_markLaters 0 = some (.iload_n 2, 1) := by decide +kernel
theorem a_X4_markLaters_1 : ix_at mT_X4_markLaters 1 = some (.istore 4, 2) := by decide +kernel
theorem a_X4_markLaters_3 : ix_at mT_X4_markLaters 3 = some (.iload 4, 2) := by decide +kernel
theorem a_X4_markLaters_5 : ix_at mT_X4_markLaters 5 = some (.iload_n 3, 1) := by decide +kernel
theorem a_X4_markLaters_6 : ix_at mT_X4_markLaters 6 = some (.if_icmp .ge 71, 3) := by decide +kernel
theorem a_X4_markLaters_9 : ix_at mT_X4_markLaters 9 = some (.aload_n 0, 1) := by decide +kernel
theorem a_X4_markLaters_10 : ix_at mT_X4_markLaters 10 = some (.getfield 30, 3) := by decide +kernel
theorem a_X4_markLaters_13 : ix_at mT_X4_markLaters 13 = some (.iload 4, 2) := by decide +kernel
theorem a_X4_markLaters_15 : ix_at mT_X4_markLaters 15 = some (.iconst 4, 1) := by decide +kernel
theorem a_X4_markLaters_16 : ix_at mT_X4_markLaters 16 = some (.iadd, 1) := by decide +kernel
theorem a_X4_markLaters_17 : ix_at mT_X4_markLaters 17 = some (.iconst 1, 1) := by decide +kernel
theorem a_X4_markLaters_18 : ix_at mT_X4_markLaters 18 = some (.invokevirtual 268, 3) := by decide +kernel
theorem a_X4_markLaters_21 : ix_at mT_X4_markLaters 21 = some (.iconst 3, 1) := by decide +kernel
theorem a_X4_markLaters_22 : ix_at mT_X4_markLaters 22 = some (.if_icmp .ne 49, 3) := by decide +kernel
theorem a_X4_markLaters_25 : ix_at mT_X4_markLaters 25 = some (.aload_n 0, 1) := by decide +kernel
theorem a_X4_markLaters_26 : ix_at mT_X4_markLaters 26 = some (.getfield 30, 3) := by decide +kernel
theorem a_X4_markLaters_29 : ix_at mT_X4_markLaters 29 = some (.iload 4, 2) := by decide +kernel
theorem a_X4_markLaters_31 : ix_at mT_X4_markLaters 31 = some (.iconst 5, 1) := by decide +kernel
theorem a_X4_markLaters_32 : ix_at mT_X4_markLaters 32 = some (.iadd, 1) := by decide +kernel
theorem a_X4_markLaters_33 : ix_at mT_X4_markLaters 33 = some (.iconst 1, 1) := by decide +kernel
theorem a_X4_markLaters_34 : ix_at mT_X4_markLaters 34 = some (.invokevirtual 268, 3) := by decide +kernel
theorem a_X4_markLaters_37 : ix_at mT_X4_markLaters 37 = some (.iload_n 1, 1) := by decide +kernel
theorem a_X4_markLaters_38 : ix_at mT_X4_markLaters 38 = some (.if_icmp .ne 33, 3) := by decide +kernel
theorem a_X4_markLaters_41 : ix_at mT_X4_markLaters 41 = some (.aload_n 0, 1) := by decide +kernel
theorem a_X4_markLaters_42 : ix_at mT_X4_markLaters 42 = some (.aload_n 0, 1) := by decide +kernel
theorem a_X4_markLaters_43 : ix_at mT_X4_markLaters 43 = some (.getfield 30, 3) := by decide +kernel
theorem a_X4_markLaters_46 : ix_at mT_X4_markLaters 46 = some (.iload 4, 2) := by decide +kernel
theorem a_X4_markLaters_48 : ix_at mT_X4_markLaters 48 = some (.bipush 8, 2) := by decide +kernel
theorem a_X4_markLaters_50 : ix_at mT_X4_markLaters 50 = some (.iadd, 1) := by decide +kernel
theorem a_X4_markLaters_51 : ix_at mT_X4_markLaters 51 = some (.iconst 4, 1) := by decide +kernel
theorem a_X4_markLaters_52 : ix_at mT_X4_markLaters 52 = some (.invokevirtual 268, 3) := by decide +kernel
theorem a_X4_markLaters_55 : ix_at mT_X4_markLaters 55 = some (.aload_n 0, 1) := by decide +kernel
theorem a_X4_markLaters_56 : ix_at mT_X4_markLaters 56 = some (.getfield 30, 3) := by decide +kernel
theorem a_X4_markLaters_59 : ix_at mT_X4_markLaters 59 = some (.iload 4, 2) := by decide +kernel
theorem a_X4_markLaters_61 : ix_at mT_X4_markLaters 61 = some (.bipush 12, 2) := by decide +kernel
theorem a_X4_markLaters_63 : ix_at mT_X4_markLaters 63 = some (.iadd, 1) := by decide +kernel
theorem a_X4_markLaters_64 : ix_at mT_X4_markLaters 64 = some (.iconst 4, 1) := by decide +kernel
theorem a_X4_markLaters_65 : ix_at mT_X4_markLaters 65 = some (.invokevirtual 268, 3) := by decide +kernel
theorem a_X4_markLaters_68 : ix_at mT_X4_markLaters 68 = some (.invokevirtual 286, 3) := by decide +kernel
theorem a_X4_markLaters_71 : ix_at mT_X4_markLaters 71 = some (.iinc 4 16, 3) := by decide +kernel
theorem a_X4_markLaters_74 : ix_at mT_X4_markLaters 74 = some (.goto (-71), 3) := by decide +kernel
theorem a_X4_markLaters_77 : ix_at mT_X4_markLaters 77 = some (.return_, 1) := by decide +kernel
theorem a_X4_setMark_0 : ix_at mT_X4_setMark 0 = some (.iload_n 1, 1) := by decide +kernel
theorem a_X4_setMark_1 : ix_at mT_X4_setMark 1 = some (.ifCond .lt 19, 3) := by decide +kernel
theorem a_X4_setMark_4 : ix_at mT_X4_setMark 4 = some (.iload_n 1, 1) := by decide +kernel
theorem a_X4_setMark_5 : ix_at mT_X4_setMark 5 = some (.aload_n 0, 1) := by decide +kernel
theorem a_X4_setMark_6 : ix_at mT_X4_setMark 6 = some (.getfield 46, 3) := by decide +kernel
theorem a_X4_setMark_9 : ix_at mT_X4_setMark 9 = some (.arraylength, 1) := by decide +kernel
theorem a_X4_setMark_10 : ix_at mT_X4_setMark 10 = some (.if_icmp .ge 10, 3) := by decide +kernel
theorem a_X4_setMark_13 : ix_at mT_X4_setMark 13 = some (.aload_n 0, 1) := by decide +kernel
theorem a_X4_setMark_14 : ix_at mT_X4_setMark 14 = some (.getfield 46, 3) := by decide +kernel
theorem a_X4_setMark_17 : ix_at mT_X4_setMark 17 = some (.iload_n 1, 1) := by decide +kernel
theorem a_X4_setMark_18 : ix_at mT_X4_setMark 18 = some (.iload_n 2, 1) := by decide +kernel
theorem a_X4_setMark_19 : ix_at mT_X4_setMark 19 = some (.iastore, 1) := by decide +kernel
theorem a_X4_setMark_20 : ix_at mT_X4_setMark 20 = some (.return_, 1) := by decide +kernel
theorem a_X4_raiseEpoch_0 : ix_at mT_X4_raiseEpoch 0 = some (.aload_n 0, 1) := by decide +kernel
theorem a_X4_raiseEpoch_1 : ix_at mT_X4_raiseEpoch 1 = some (.iconst 0, 1) := by decide +kernel
theorem a_X4_raiseEpoch_2 : ix_at mT_X4_raiseEpoch 2 = some (.iload_n 1, 1) := by decide +kernel
theorem a_X4_raiseEpoch_3 : ix_at mT_X4_raiseEpoch 3 = some (.aload_n 0, 1) := by decide +kernel
theorem a_X4_raiseEpoch_4 : ix_at mT_X4_raiseEpoch 4 = some (.getfield 42, 3) := by decide +kernel
theorem a_X4_raiseEpoch_7 : ix_at mT_X4_raiseEpoch 7 = some (.iload_n 1, 1) := by decide +kernel
theorem a_X4_raiseEpoch_8 : ix_at mT_X4_raiseEpoch 8 = some (.aaload, 1) := by decide +kernel
theorem a_X4_raiseEpoch_9 : ix_at mT_X4_raiseEpoch 9 = some (.getfield 88, 3) := by decide +kernel
theorem a_X4_raiseEpoch_12 : ix_at mT_X4_raiseEpoch 12 = some (.iconst 1, 1) := by decide +kernel
theorem a_X4_raiseEpoch_13 : ix_at mT_X4_raiseEpoch 13 = some (.iadd, 1) := by decide +kernel
theorem a_X4_raiseEpoch_14 : ix_at mT_X4_raiseEpoch 14 = some (.iconst 0, 1) := by decide +kernel
theorem a_X4_raiseEpoch_15 : ix_at mT_X4_raiseEpoch 15 = some (.iconst 0, 1) := by decide +kernel
theorem a_X4_raiseEpoch_16 : ix_at mT_X4_raiseEpoch 16 = some (.invokevirtual 101, 3) := by decide +kernel
theorem a_X4_raiseEpoch_19 : ix_at mT_X4_raiseEpoch 19 = some (.return_, 1) := by decide +kernel
theorem a_X4_decide_0 : ix_at mT_X4_decide 0 = some (.aload_n 0, 1) := by decide +kernel
theorem a_X4_decide_1 : ix_at mT_X4_decide 1 = some (.getfield 42, 3) := by decide +kernel
theorem a_X4_decide_4 : ix_at mT_X4_decide 4 = some (.iload_n 1, 1) := by decide +kernel
theorem a_X4_decide_5 : ix_at mT_X4_decide 5 = some (.aaload, 1) := by decide +kernel
theorem a_X4_decide_6 : ix_at mT_X4_decide 6 = some (.astore_n 3, 1) := by decide +kernel
theorem a_X4_decide_7 : ix_at mT_X4_decide 7 = some (.aload_n 0, 1) := by decide +kernel
theorem a_X4_decide_8 : ix_at mT_X4_decide 8 = some (.iconst 4, 1) := by decide +kernel
theorem a_X4_decide_9 : ix_at mT_X4_decide 9 = some (.iload_n 1, 1) := by decide +kernel
theorem a_X4_decide_10 : ix_at mT_X4_decide 10 = some (.aload_n 3, 1) := by decide +kernel
theorem a_X4_decide_11 : ix_at mT_X4_decide 11 = some (.getfield 88, 3) := by decide +kernel
theorem a_X4_decide_14 : ix_at mT_X4_decide 14 = some (.iload_n 2, 1) := by decide +kernel
theorem a_X4_decide_15 : ix_at mT_X4_decide 15 = some (.ifCond .eq 7, 3) := by decide +kernel
theorem a_X4_decide_18 : ix_at mT_X4_decide 18 = some (.iconst 1, 1) := by decide +kernel
theorem a_X4_decide_19 : ix_at mT_X4_decide 19 = some (.goto 4, 3) := by decide +kernel
theorem a_X4_decide_22 : ix_at mT_X4_decide 22 = some (.iconst 0, 1) := by decide +kernel
theorem a_X4_decide_23 : ix_at mT_X4_decide 23 = some (.aload_n 3, 1) := by decide +kernel
theorem a_X4_decide_24 : ix_at mT_X4_decide 24 = some (.getfield 205, 3) := by decide +kernel
theorem a_X4_decide_27 : ix_at mT_X4_decide 27 = some (.invokevirtual 101, 3) := by decide +kernel
theorem a_X4_decide_30 : ix_at mT_X4_decide 30 = some (.return_, 1) := by decide +kernel
theorem a_X4_finish_0 : ix_at mT_X4_finish 0 = some (.aload_n 0, 1) := by decide +kernel
theorem a_X4_finish_1 : ix_at mT_X4_finish 1 = some (.getfield 42, 3) := by decide +kernel
theorem a_X4_finish_4 : ix_at mT_X4_finish 4 = some (.iload_n 1, 1) := by decide +kernel
theorem a_X4_finish_5 : ix_at mT_X4_finish 5 = some (.aaload, 1) := by decide +kernel
theorem a_X4_finish_6 : ix_at mT_X4_finish 6 = some (.astore_n 2, 1) := by decide +kernel
theorem a_X4_finish_7 : ix_at mT_X4_finish 7 = some (.aload_n 2, 1) := by decide +kernel
theorem a_X4_finish_8 : ix_at mT_X4_finish 8 = some (.getfield 274, 3) := by decide +kernel
theorem a_X4_finish_11 : ix_at mT_X4_finish 11 = some (.iconst 1, 1) := by decide +kernel
theorem a_X4_finish_12 : ix_at mT_X4_finish 12 = some (.if_icmp .ne 7, 3) := by decide +kernel
theorem a_X4_finish_15 : ix_at mT_X4_finish 15 = some (.iconst 2, 1) := by decide +kernel
theorem a_X4_finish_16 : ix_at mT_X4_finish 16 = some (.goto 4, 3) := by decide +kernel
theorem a_X4_finish_19 : ix_at mT_X4_finish 19 = some (.iconst 3, 1) := by decide +kernel
theorem a_X4_finish_20 : ix_at mT_X4_finish 20 = some (.istore_n 3, 1) := by decide +kernel
theorem a_X4_finish_21 : ix_at mT_X4_finish 21 = some (.iconst 0, 1) := by decide +kernel
theorem a_X4_finish_22 : ix_at mT_X4_finish 22 = some (.istore 4, 2) := by decide +kernel
theorem a_X4_finish_24 : ix_at mT_X4_finish 24 = some (.iload 4, 2) := by decide +kernel
theorem a_X4_finish_26 : ix_at mT_X4_finish 26 = some (.aload_n 0, 1) := by decide +kernel
theorem a_X4_finish_27 : ix_at mT_X4_finish 27 = some (.getfield 146, 3) := by decide +kernel
theorem a_X4_finish_30 : ix_at mT_X4_finish 30 = some (.if_icmp .ge 56, 3) := by decide +kernel
theorem a_X4_finish_33 : ix_at mT_X4_finish 33 = some (.aload_n 2, 1) := by decide +kernel
theorem a_X4_finish_34 : ix_at mT_X4_finish 34 = some (.iload 4, 2) := by decide +kernel
theorem a_X4_finish_36 : ix_at mT_X4_finish 36 = some (.invokevirtual 243, 3) := by decide +kernel
theorem a_X4_finish_39 : ix_at mT_X4_finish 39 = some (.ifCond .eq 41, 3) := by decide +kernel
theorem a_X4_finish_42 : ix_at mT_X4_finish 42 = some (.aload_n 0, 1) := by decide +kernel
theorem a_X4_finish_43 : ix_at mT_X4_finish 43 = some (.getfield 26, 3) := by decide +kernel
theorem a_X4_finish_46 : ix_at mT_X4_finish 46 = some (.iload 4, 2) := by decide +kernel
theorem a_X4_finish_48 : ix_at mT_X4_finish 48 = some (.aaload, 1) := by decide +kernel
theorem a_X4_finish_49 : ix_at mT_X4_finish 49 = some (.aload_n 2, 1) := by decide +kernel
theorem a_X4_finish_50 : ix_at mT_X4_finish 50 = some (.getfield 205, 3) := by decide +kernel
theorem a_X4_finish_53 : ix_at mT_X4_finish 53 = some (.invokevirtual 289, 3) := by decide +kernel
theorem a_X4_finish_56 : ix_at mT_X4_finish 56 = some (.ifCond .ne 24, 3) := by decide +kernel
theorem a_X4_finish_59 : ix_at mT_X4_finish 59 = some (.aload_n 0, 1) := by decide +kernel
theorem a_X4_finish_60 : ix_at mT_X4_finish 60 = some (.iload 4, 2) := by decide +kernel
theorem a_X4_finish_62 : ix_at mT_X4_finish 62 = some (.iload_n 3, 1) := by decide +kernel
theorem a_X4_finish_63 : ix_at mT_X4_finish 63 = some (.iload_n 1, 1) := by decide +kernel
theorem a_X4_finish_64 : ix_at mT_X4_finish 64 = some (.aload_n 2, 1) := by decide +kernel
theorem a_X4_finish_65 : ix_at mT_X4_finish 65 = some (.getfield 88, 3) := by decide +kernel
theorem a_X4_finish_68 : ix_at mT_X4_finish 68 = some (.aload_n 2, 1) := by decide +kernel
theorem a_X4_finish_69 : ix_at mT_X4_finish 69 = some (.getfield 205, 3) := by decide +kernel
theorem a_X4_finish_72 : ix_at mT_X4_finish 72 = some (.aload_n 0, 1) := by decide +kernel
theorem a_X4_finish_73 : ix_at mT_X4_finish 73 = some (.getfield 21, 3) := by decide +kernel
theorem a_X4_finish_76 : ix_at mT_X4_finish 76 = some (.invokevirtual 250, 3) := by decide +kernel
theorem a_X4_finish_79 : ix_at mT_X4_finish 79 = some (.pop, 1) := by decide +kernel
theorem a_X4_finish_80 : ix_at mT_X4_finish 80 = some (.iinc 4 1, 3) := by decide +kernel
theorem a_X4_finish_83 : ix_at mT_X4_finish 83 = some (.goto (-59), 3) := by decide +kernel
theorem a_X4_finish_86 : ix_at mT_X4_finish 86 = some (.aload_n 0, 1) := by decide +kernel
theorem a_X4_finish_87 : ix_at mT_X4_finish 87 = some (.iconst 5, 1) := by decide +kernel
theorem a_X4_finish_88 : ix_at mT_X4_finish 88 = some (.iload_n 1, 1) := by decide +kernel
theorem a_X4_finish_89 : ix_at mT_X4_finish 89 = some (.aload_n 2, 1) := by decide +kernel
theorem a_X4_finish_90 : ix_at mT_X4_finish 90 = some (.getfield 88, 3) := by decide +kernel
theorem a_X4_finish_93 : ix_at mT_X4_finish 93 = some (.iconst 0, 1) := by decide +kernel
theorem a_X4_finish_94 : ix_at mT_X4_finish 94 = some (.aload_n 2, 1) := by decide +kernel
theorem a_X4_finish_95 : ix_at mT_X4_finish 95 = some (.getfield 205, 3) := by decide +kernel
theorem a_X4_finish_98 : ix_at mT_X4_finish 98 = some (.invokevirtual 101, 3) := by decide +kernel
theorem a_X4_finish_101 : ix_at mT_X4_finish 101 = some (.return_, 1) := by decide +kernel
theorem a_X4_endOverdue_0 : ix_at mT_X4_endOverdue 0 = some (.iconst 0, 1) := by decide +kernel
theorem a_X4_endOverdue_1 : ix_at mT_X4_endOverdue 1 = some (.istore_n 1, 1) := by decide +kernel
theorem a_X4_endOverdue_2 : ix_at mT_X4_endOverdue 2 = some (.iconst 0, 1) := by decide +kernel
theorem a_X4_endOverdue_3 : ix_at mT_X4_endOverdue 3 = some (.istore_n 2, 1) := by decide +kernel
theorem a_X4_endOverdue_4 : ix_at mT_X4_endOverdue 4 = some (.iload_n 2, 1) := by decide +kernel
theorem a_X4_endOverdue_5 : ix_at mT_X4_endOverdue 5 = some (.bipush 32, 2) := by decide +kernel
theorem a_X4_endOverdue_7 : ix_at mT_X4_endOverdue 7 = some (.if_icmp .ge 42, 3) := by decide +kernel
theorem a_X4_endOverdue_10 : ix_at mT_X4_endOverdue 10 = some (.aload_n 0, 1) := by decide +kernel
theorem a_X4_endOverdue_11 : ix_at mT_X4_endOverdue 11 = some (.iconst 0, 1) := by decide +kernel
theorem a_X4_endOverdue_12 : ix_at mT_X4_endOverdue 12 = some (.invokevirtual 292, 3) := by decide +kernel
theorem a_X4_endOverdue_15 : ix_at mT_X4_endOverdue 15 = some (.istore_n 3, 1) := by decide +kernel
theorem a_X4_endOverdue_16 : ix_at mT_X4_endOverdue 16 = some (.iload_n 3, 1) := by decide +kernel
theorem a_X4_endOverdue_17 : ix_at mT_X4_endOverdue 17 = some (.iconst (-1), 1) := by decide +kernel
theorem a_X4_endOverdue_18 : ix_at mT_X4_endOverdue 18 = some (.if_icmp .ne 6, 3) := by decide +kernel
theorem a_X4_endOverdue_21 : ix_at mT_X4_endOverdue 21 = some (.goto 28, 3) := by decide +kernel
theorem a_X4_endOverdue_24 : ix_at mT_X4_endOverdue 24 = some (.aload_n 0, 1) := by decide +kernel
theorem a_X4_endOverdue_25 : ix_at mT_X4_endOverdue 25 = some (.iload_n 3, 1) := by decide +kernel
theorem a_X4_endOverdue_26 : ix_at mT_X4_endOverdue 26 = some (.iconst 0, 1) := by decide +kernel
theorem a_X4_endOverdue_27 : ix_at mT_X4_endOverdue 27 = some (.invokevirtual 75, 3) := by decide +kernel
theorem a_X4_endOverdue_30 : ix_at mT_X4_endOverdue 30 = some (.aload_n 0, 1) := by decide +kernel
theorem a_X4_endOverdue_31 : ix_at mT_X4_endOverdue 31 = some (.iload_n 3, 1) := by decide +kernel
theorem a_X4_endOverdue_32 : ix_at mT_X4_endOverdue 32 = some (.invokevirtual 79, 3) := by decide +kernel
theorem a_X4_endOverdue_35 : ix_at mT_X4_endOverdue 35 = some (.aload_n 0, 1) := by decide +kernel
theorem a_X4_endOverdue_36 : ix_at mT_X4_endOverdue 36 = some (.iload_n 3, 1) := by decide +kernel
theorem a_X4_endOverdue_37 : ix_at mT_X4_endOverdue 37 = some (.invokevirtual 85, 3) := by decide +kernel
theorem a_X4_endOverdue_40 : ix_at mT_X4_endOverdue 40 = some (.iinc 1 1, 3) := by decide +kernel
theorem a_X4_endOverdue_43 : ix_at mT_X4_endOverdue 43 = some (.iinc 2 1, 3) := by decide +kernel
theorem a_X4_endOverdue_46 : ix_at mT_X4_endOverdue 46 = some (.goto (-42), 3) := by decide +kernel
theorem a_X4_endOverdue_49 : ix_at mT_X4_endOverdue 49 = some (.iload_n 1, 1) := by decide +kernel
theorem a_X4_endOverdue_50 : ix_at mT_X4_endOverdue 50 = some (.ireturn, 1) := by decide +kernel
theorem a_X4_finishDecided_0 : ix_at mT_X4_finishDecided 0 = some (.iconst 0, 1) := by decide +kernel
theorem a_X4_finishDecided_1 : ix_at mT_X4_finishDecided 1 = some (.istore_n 1, 1) := by decide +kernel
theorem a_X4_finishDecided_2 : ix_at mT_X4_finishDecided 2 = some (.iconst 0, 1) := by decide +kernel
theorem a_X4_finishDecided_3 : ix_at mT_X4_finishDecided 3 = some (.istore_n 2, 1) := by decide +kernel
theorem a_X4_finishDecided_4 : ix_at mT_X4_finishDecided 4 = some (.iload_n 2, 1) := by decide +kernel
theorem a_X4_finishDecided_5 : ix_at mT_X4_finishDecided 5 = some (.bipush 32, 2) := by decide +kernel
theorem a_X4_finishDecided_7 : ix_at mT_X4_finishDecided 7 = some (.if_icmp .ge 31, 3) := by decide +kernel
theorem a_X4_finishDecided_10 : ix_at mT_X4_finishDecided 10 = some (.aload_n 0, 1) := by decide +kernel
theorem a_X4_finishDecided_11 : ix_at mT_X4_finishDecided 11 = some (.iconst 1, 1) := by decide +kernel
theorem a_X4_finishDecided_12 : ix_at mT_X4_finishDecided 12 = some (.invokevirtual 292, 3) := by decide +kernel
theorem a_X4_finishDecided_15 : ix_at mT_X4_finishDecided 15 = some (.istore_n 3, 1) := by decide +kernel
theorem a_X4_finishDecided_16 : ix_at mT_X4_finishDecided 16 = some (.iload_n 3, 1) := by decide +kernel
theorem a_X4_finishDecided_17 : ix_at mT_X4_finishDecided 17 = some (.iconst (-1), 1) := by decide +kernel
theorem a_X4_finishDecided_18 : ix_at mT_X4_finishDecided 18 = some (.if_icmp .ne 6, 3) := by decide +kernel
theorem a_X4_finishDecided_21 : ix_at mT_X4_finishDecided 21 = some (.goto 17, 3) := by decide +kernel
theorem a_X4_finishDecided_24 : ix_at mT_X4_finishDecided 24 = some (.aload_n 0, 1) := by decide +kernel
theorem a_X4_finishDecided_25 : ix_at mT_X4_finishDecided 25 = some (.iload_n 3, 1) := by decide +kernel
theorem a_X4_finishDecided_26 : ix_at mT_X4_finishDecided 26 = some (.invokevirtual 79, 3) := by decide +kernel
theorem a_X4_finishDecided_29 : ix_at mT_X4_finishDecided 29 = some (.iinc 1 1, 3) := by decide +kernel
theorem a_X4_finishDecided_32 : ix_at mT_X4_finishDecided 32 = some (.iinc 2 1, 3) := by decide +kernel
theorem a_X4_finishDecided_35 : ix_at mT_X4_finishDecided 35 = some (.goto (-31), 3) := by decide +kernel
theorem a_X4_finishDecided_38 : ix_at mT_X4_finishDecided 38 = some (.iload_n 1, 1) := by decide +kernel
theorem a_X4_finishDecided_39 : ix_at mT_X4_finishDecided 39 = some (.ireturn, 1) := by decide +kernel
theorem a_X4_firstToEnd_0 : ix_at mT_X4_firstToEnd 0 = some (.iconst (-1), 1) := by decide +kernel
theorem a_X4_firstToEnd_1 : ix_at mT_X4_firstToEnd 1 = some (.istore_n 2, 1) := by decide +kernel
theorem a_X4_firstToEnd_2 : ix_at mT_X4_firstToEnd 2 = some (.iconst 0, 1) := by decide +kernel
theorem a_X4_firstToEnd_3 : ix_at mT_X4_firstToEnd 3 = some (.istore_n 3, 1) := by decide +kernel
theorem a_X4_firstToEnd_4 : ix_at mT_X4_firstToEnd 4 = some (.iload_n 3, 1) := by decide +kernel
theorem a_X4_firstToEnd_5 : ix_at mT_X4_firstToEnd 5 = some (.bipush 32, 2) := by decide +kernel
theorem a_X4_firstToEnd_7 : ix_at mT_X4_firstToEnd 7 = some (.if_icmp .ge 99, 3) := by decide +kernel
theorem a_X4_firstToEnd_10 : ix_at mT_X4_firstToEnd 10 = some (.aload_n 0, 1) := by decide +kernel
theorem a_X4_firstToEnd_11 : ix_at mT_X4_firstToEnd 11 = some (.getfield 42, 3) := by decide +kernel
theorem a_X4_firstToEnd_14 : ix_at mT_X4_firstToEnd 14 = some (.iload_n 3, 1) := by decide +kernel
theorem a_X4_firstToEnd_15 : ix_at mT_X4_firstToEnd 15 = some (.aaload, 1) := by decide +kernel
theorem a_X4_firstToEnd_16 : ix_at mT_X4_firstToEnd 16 = some (.astore 4, 2) := by decide +kernel
theorem a_X4_firstToEnd_18 : ix_at mT_X4_firstToEnd 18 = some (.iload_n 1, 1) := by decide +kernel
theorem a_X4_firstToEnd_19 : ix_at mT_X4_firstToEnd 19 = some (.ifCond .eq 20, 3) := by decide +kernel
theorem a_X4_firstToEnd_22 : ix_at mT_X4_firstToEnd 22 = some (.aload 4, 2) := by decide +kernel
theorem a_X4_firstToEnd_24 : ix_at mT_X4_firstToEnd 24 = some (.getfield 274, 3) := by decide +kernel
theorem a_X4_firstToEnd_27 : ix_at mT_X4_firstToEnd 27 = some (.iconst (-1), 1) := by decide +kernel
theorem a_X4_firstToEnd_28 : ix_at mT_X4_firstToEnd 28 = some (.if_icmp .eq 7, 3) := by decide +kernel
theorem a_X4_firstToEnd_31 : ix_at mT_X4_firstToEnd 31 = some (.iconst 1, 1) := by decide +kernel
theorem a_X4_firstToEnd_32 : ix_at mT_X4_firstToEnd 32 = some (.goto 29, 3) := by decide +kernel
theorem a_X4_firstToEnd_35 : ix_at mT_X4_firstToEnd 35 = some (.iconst 0, 1) := by decide +kernel
theorem a_X4_firstToEnd_36 : ix_at mT_X4_firstToEnd 36 = some (.goto 25, 3) := by decide +kernel
theorem a_X4_firstToEnd_39 : ix_at mT_X4_firstToEnd 39 = some (.aload_n 0, 1) := by decide +kernel
theorem a_X4_firstToEnd_40 : ix_at mT_X4_firstToEnd 40 = some (.getfield 98, 3) := by decide +kernel
theorem a_X4_firstToEnd_43 : ix_at mT_X4_firstToEnd 43 = some (.aload 4, 2) := by decide +kernel
theorem a_X4_firstToEnd_45 : ix_at mT_X4_firstToEnd 45 = some (.getfield 208, 3) := by decide +kernel
theorem a_X4_firstToEnd_48 : ix_at mT_X4_firstToEnd 48 = some (.isub, 1) := by decide +kernel
theorem a_X4_firstToEnd_49 : ix_at mT_X4_firstToEnd 49 = some (.aload_n 0, 1) := by decide +kernel
theorem a_X4_firstToEnd_50 : ix_at mT_X4_firstToEnd 50 = some (.getfield 223, 3) := by decide +kernel
theorem a_X4_firstToEnd_53 : ix_at mT_X4_firstToEnd 53 = some (.if_icmp .le 7, 3) := by decide +kernel
theorem a_X4_firstToEnd_56 : ix_at mT_X4_firstToEnd 56 = some (.iconst 1, 1) := by decide +kernel
theorem a_X4_firstToEnd_57 : ix_at mT_X4_firstToEnd 57 = some (.goto 4, 3) := by decide +kernel
theorem a_X4_firstToEnd_60 : ix_at mT_X4_firstToEnd 60 = some (.iconst 0, 1) := by decide +kernel
theorem a_X4_firstToEnd_61 : ix_at mT_X4_firstToEnd 61 = some (.istore 5, 2) := by decide +kernel
theorem a_X4_firstToEnd_63 : ix_at mT_X4_firstToEnd 63 = some (.aload 4, 2) := by decide +kernel
theorem a_X4_firstToEnd_65 : ix_at mT_X4_firstToEnd 65 = some (.invokevirtual 71, 3) := by decide +kernel
theorem a_X4_firstToEnd_68 : ix_at mT_X4_firstToEnd 68 = some (.ifCond .eq 32, 3) := by decide +kernel
theorem a_X4_firstToEnd_71 : ix_at mT_X4_firstToEnd 71 = some (.iload 5, 2) := by decide +kernel
theorem a_X4_firstToEnd_73 : ix_at mT_X4_firstToEnd 73 = some (.ifCond .eq 27, 3) := by decide +kernel
theorem a_X4_firstToEnd_76 : ix_at mT_X4_firstToEnd 76 = some (.iload_n 2, 1) := by decide +kernel
theorem a_X4_firstToEnd_77 : ix_at mT_X4_firstToEnd 77 = some (.iconst (-1), 1) := by decide +kernel
theorem a_X4_firstToEnd_78 : ix_at mT_X4_firstToEnd 78 = some (.if_icmp .eq 20, 3) := by decide +kernel
theorem a_X4_firstToEnd_81 : ix_at mT_X4_firstToEnd 81 = some (.aload 4, 2) := by decide +kernel
theorem a_X4_firstToEnd_83 : ix_at mT_X4_firstToEnd 83 = some (.getfield 205, 3) := by decide +kernel
theorem a_X4_firstToEnd_86 : ix_at mT_X4_firstToEnd 86 = some (.aload_n 0, 1) := by decide +kernel
theorem a_X4_firstToEnd_87 : ix_at mT_X4_firstToEnd 87 = some (.getfield 42, 3) := by decide +kernel
theorem a_X4_firstToEnd_90 : ix_at mT_X4_firstToEnd 90 = some (.iload_n 2, 1) := by decide +kernel
theorem a_X4_firstToEnd_91 : ix_at mT_X4_firstToEnd 91 = some (.aaload, 1) := by decide +kernel
theorem a_X4_firstToEnd_92 : ix_at mT_X4_firstToEnd 92 = some (.getfield 205, 3) := by decide +kernel
theorem a_X4_firstToEnd_95 : ix_at mT_X4_firstToEnd 95 = some (.if_icmp .ge 5, 3) := by decide +kernel
theorem a_X4_firstToEnd_98 : ix_at mT_X4_firstToEnd 98 = some (.iload_n 3, 1) := by decide +kernel
theorem a_X4_firstToEnd_99 : ix_at mT_X4_firstToEnd 99 = some (.istore_n 2, 1) := by decide +kernel
theorem a_X4_firstToEnd_100 : ix_at mT_X4_firstToEnd 100 = some (.iinc 3 1, 3) := by decide +kernel
theorem a_X4_firstToEnd_103 : ix_at mT_X4_firstToEnd 103 = some (.goto (-99), 3) := by decide +kernel
theorem a_X4_firstToEnd_106 : ix_at mT_X4_firstToEnd 106 = some (.iload_n 2, 1) := by decide +kernel
theorem a_X4_firstToEnd_107 : ix_at mT_X4_firstToEnd 107 = some (.ireturn, 1) := by decide +kernel
theorem a_X5_init_0 : ix_at mT_X5_init 0 = some (.aload_n 0, 1) := by decide +kernel
theorem a_X5_init_1 : ix_at mT_X5_init 1 = some (.invokespecial 1, 3) := by decide +kernel
theorem a_X5_init_4 : ix_at mT_X5_init 4 = some (.aload_n 0, 1) := by decide +kernel
theorem a_X5_init_5 : ix_at mT_X5_init 5 = some (.sipush 4200, 3) := by decide +kernel
theorem a_X5_init_8 : ix_at mT_X5_init 8 = some (.newarray .int, 2) := by decide +kernel
theorem a_X5_init_10 : ix_at mT_X5_init 10 = some (.putfield 9, 3) := by decide +kernel
theorem a_X5_init_13 : ix_at mT_X5_init 13 = some (.aload_n 0, 1) := by decide +kernel
theorem a_X5_init_14 : ix_at mT_X5_init 14 = some (.sipush 4200, 3) := by decide +kernel
theorem a_X5_init_17 : ix_at mT_X5_init 17 = some (.newarray .int, 2) := by decide +kernel
theorem a_X5_init_19 : ix_at mT_X5_init 19 = some (.putfield 13, 3) := by decide +kernel
theorem a_X5_init_22 : ix_at mT_X5_init 22 = some (.aload_n 0, 1) := by decide +kernel
theorem a_X5_init_23 : ix_at mT_X5_init 23 = some (.sipush 4200, 3) := by decide +kernel
theorem a_X5_init_26 : ix_at mT_X5_init 26 = some (.newarray .int, 2) := by decide +kernel
theorem a_X5_init_28 : ix_at mT_X5_init 28 = some (.putfield 16, 3) := by decide +kernel
theorem a_X5_init_31 : ix_at mT_X5_init 31 = some (.aload_n 0, 1) := by decide +kernel
theorem a_X5_init_32 : ix_at mT_X5_init 32 = some (.sipush 4200, 3) := by decide +kernel
theorem a_X5_init_35 : ix_at mT_X5_init 35 = some (.newarray .int, 2) := by decide +kernel
theorem a_X5_init_37 : ix_at mT_X5_init 37 = some (.putfield 19, 3) := by decide +kernel
theorem a_X5_init_40 : ix_at mT_X5_init 40 = some (.aload_n 0, 1) := by decide +kernel
theorem a_X5_init_41 : ix_at mT_X5_init 41 = some (.sipush 4200, 3) := by decide +kernel
theorem a_X5_init_44 : ix_at mT_X5_init 44 = some (.newarray .int, 2) := by decide +kernel
theorem a_X5_init_46 : ix_at mT_X5_init 46 = some (.putfield 22, 3) := by decide +kernel
theorem a_X5_init_49 : ix_at mT_X5_init 49 = some (.aload_n 0, 1) := by decide +kernel
theorem a_X5_init_50 : ix_at mT_X5_init 50 = some (.sipush 4200, 3) := by decide +kernel
theorem a_X5_init_53 : ix_at mT_X5_init 53 = some (.newarray .int, 2) := by decide +kernel
theorem a_X5_init_55 : ix_at mT_X5_init 55 = some (.putfield 25, 3) := by decide +kernel
theorem a_X5_init_58 : ix_at mT_X5_init 58 = some (.aload_n 0, 1) := by decide +kernel
theorem a_X5_init_59 : ix_at mT_X5_init 59 = some (.sipush 4200, 3) := by decide +kernel
theorem a_X5_init_62 : ix_at mT_X5_init 62 = some (.newarray .int, 2) := by decide +kernel
theorem a_X5_init_64 : ix_at mT_X5_init 64 = some (.putfield 28, 3) := by decide +kernel
theorem a_X5_init_67 : ix_at mT_X5_init 67 = some (.aload_n 0, 1) := by decide +kernel
theorem a_X5_init_68 : ix_at mT_X5_init 68 = some (.ldc 31, 2) := by decide +kernel
theorem a_X5_init_70 : ix_at mT_X5_init 70 = some (.newarray .byte, 2) := by decide +kernel
theorem a_X5_init_72 : ix_at mT_X5_init 72 = some (.putfield 32, 3) := by decide +kernel
theorem a_X5_init_75 : ix_at mT_X5_init 75 = some (.aload_n 0, 1) := by decide +kernel
theorem a_X5_init_76 : ix_at mT_X5_init 76 = some (.bipush 32, 2) := by decide +kernel
theorem a_X5_init_78 : ix_at mT_X5_init 78 = some (.newarray .boolean, 2) := by decide +kernel
theorem a_X5_init_80 : ix_at mT_X5_init 80 = some (.putfield 36, 3) := by decide +kernel
theorem a_X5_init_83 : ix_at mT_X5_init 83 = some (.aload_n 0, 1) := by decide +kernel
theorem a_X5_init_84 : ix_at mT_X5_init 84 = some (.bipush 32, 2) := by decide +kernel
theorem a_X5_init_86 : ix_at mT_X5_init 86 = some (.newarray .int, 2) := by decide +kernel
theorem a_X5_init_88 : ix_at mT_X5_init 88 = some (.putfield 40, 3) := by decide +kernel
theorem a_X5_init_91 : ix_at mT_X5_init 91 = some (.aload_n 0, 1) := by decide +kernel
theorem a_X5_init_92 : ix_at mT_X5_init 92 = some (.bipush 32, 2) := by decide +kernel
theorem a_X5_init_94 : ix_at mT_X5_init 94 = some (.newarray .int, 2) := by decide +kernel
theorem a_X5_init_96 : ix_at mT_X5_init 96 = some (.putfield 43, 3) := by decide +kernel
theorem a_X5_init_99 : ix_at mT_X5_init 99 = some (.aload_n 0, 1) := by decide +kernel
theorem a_X5_init_100 : ix_at mT_X5_init 100 = some (.bipush 32, 2) := by decide +kernel
theorem a_X5_init_102 : ix_at mT_X5_init 102 = some (.newarray .int, 2) := by decide +kernel
theorem a_X5_init_104 : ix_at mT_X5_init 104 = some (.putfield 46, 3) := by decide +kernel
theorem a_X5_init_107 : ix_at mT_X5_init 107 = some (.aload_n 0, 1) := by decide +kernel
theorem a_X5_init_108 : ix_at mT_X5_init 108 = some (.bipush 32, 2) := by decide +kernel
theorem a_X5_init_110 : ix_at mT_X5_init 110 = some (.newarray .int, 2) := by decide +kernel
theorem a_X5_init_112 : ix_at mT_X5_init 112 = some (.putfield 49, 3) := by decide +kernel
theorem a_X5_init_115 : ix_at mT_X5_init 115 = some (.aload_n 0, 1) := by decide +kernel
theorem a_X5_init_116 : ix_at mT_X5_init 116 = some (.bipush 64, 2) := by decide +kernel
theorem a_X5_init_118 : ix_at mT_X5_init 118 = some (.newarray .int, 2) := by decide +kernel
theorem a_X5_init_120 : ix_at mT_X5_init 120 = some (.putfield 52, 3) := by decide +kernel
theorem a_X5_init_123 : ix_at mT_X5_init 123 = some (.aload_n 0, 1) := by decide +kernel
theorem a_X5_init_124 : ix_at mT_X5_init 124 = some (.sipush 1100, 3) := by decide +kernel
theorem a_X5_init_127 : ix_at mT_X5_init 127 = some (.newarray .int, 2) := by decide +kernel
theorem a_X5_init_129 : ix_at mT_X5_init 129 = some (.putfield 55, 3) := by decide +kernel
theorem a_X5_init_132 : ix_at mT_X5_init 132 = some (.aload_n 0, 1) := by decide +kernel
theorem a_X5_init_133 : ix_at mT_X5_init 133 = some (.sipush 1100, 3) := by decide +kernel
theorem a_X5_init_136 : ix_at mT_X5_init 136 = some (.newarray .int, 2) := by decide +kernel
theorem a_X5_init_138 : ix_at mT_X5_init 138 = some (.putfield 58, 3) := by decide +kernel
theorem a_X5_init_141 : ix_at mT_X5_init 141 = some (.aload_n 0, 1) := by decide +kernel
theorem a_X5_init_142 : ix_at mT_X5_init 142 = some (.sipush 1100, 3) := by decide +kernel
theorem a_X5_init_145 : ix_at mT_X5_init 145 = some (.newarray .int, 2) := by decide +kernel
theorem a_X5_init_147 : ix_at mT_X5_init 147 = some (.putfield 61, 3) := by decide +kernel
theorem a_X5_init_150 : ix_at mT_X5_init 150 = some (.aload_n 0, 1) := by decide +kernel
theorem a_X5_init_151 : ix_at mT_X5_init 151 = some (.sipush 1100, 3) := by decide +kernel
theorem a_X5_init_154 : ix_at mT_X5_init 154 = some (.newarray .int, 2) := by decide +kernel
theorem a_X5_init_156 : ix_at mT_X5_init 156 = some (.putfield 64, 3) := by decide +kernel
theorem a_X5_init_159 : ix_at mT_X5_init 159 = some (.aload_n 0, 1) := by decide +kernel
theorem a_X5_init_160 : ix_at mT_X5_init 160 = some (.bipush 40, 2) := by decide +kernel
theorem a_X5_init_162 : ix_at mT_X5_init 162 = some (.newarray .byte, 2) := by decide +kernel
theorem a_X5_init_164 : ix_at mT_X5_init 164 = some (.putfield 67, 3) := by decide +kernel
theorem a_X5_init_167 : ix_at mT_X5_init 167 = some (.aload_n 0, 1) := by decide +kernel
theorem a_X5_init_168 : ix_at mT_X5_init 168 = some (.bipush 40, 2) := by decide +kernel
theorem a_X5_init_170 : ix_at mT_X5_init 170 = some (.newarray .byte, 2) := by decide +kernel
theorem a_X5_init_172 : ix_at mT_X5_init 172 = some (.putfield 70, 3) := by decide +kernel
theorem a_X5_init_175 : ix_at mT_X5_init 175 = some (.aload_n 0, 1) := by decide +kernel
theorem a_X5_init_176 : ix_at mT_X5_init 176 = some (.sipush 1100, 3) := by decide +kernel
theorem a_X5_init_179 : ix_at mT_X5_init 179 = some (.newarray .int, 2) := by decide +kernel
theorem a_X5_init_181 : ix_at mT_X5_init 181 = some (.putfield 73, 3) := by decide +kernel
theorem a_X5_init_184 : ix_at mT_X5_init 184 = some (.aload_n 0, 1) := by decide +kernel
theorem a_X5_init_185 : ix_at mT_X5_init 185 = some (.iconst 4, 1) := by decide +kernel
theorem a_X5_init_186 : ix_at mT_X5_init 186 = some (.sipush 2000, 3) := by decide +kernel
theorem a_X5_init_189 : ix_at mT_X5_init 189 = some (.bipush 100, 2) := by decide +kernel
theorem a_X5_init_191 : ix_at mT_X5_init 191 = some (.invokevirtual 76, 3) := by decide +kernel
theorem a_X5_init_194 : ix_at mT_X5_init 194 = some (.istore_n 1, 1) := by decide +kernel
theorem a_X5_init_195 : ix_at mT_X5_init 195 = some (.return_, 1) := by decide +kernel
theorem a_X5_forgets_0 : ix_at mT_X5_forgets 0 = some (.aload_n 0, 1) := by decide +kernel
theorem a_X5_forgets_1 : ix_at mT_X5_forgets 1 = some (.iconst 0, 1) := by decide +kernel
theorem a_X5_forgets_2 : ix_at mT_X5_forgets 2 = some (.putfield 80, 3) := by decide +kernel
theorem a_X5_forgets_5 : ix_at mT_X5_forgets 5 = some (.aload_n 0, 1) := by decide +kernel
theorem a_X5_forgets_6 : ix_at mT_X5_forgets 6 = some (.iconst 0, 1) := by decide +kernel
theorem a_X5_forgets_7 : ix_at mT_X5_forgets 7 = some (.putfield 84, 3) := by decide +kernel
theorem a_X5_forgets_10 : ix_at mT_X5_forgets 10 = some (.iconst 0, 1) := by decide +kernel
theorem a_X5_forgets_11 : ix_at mT_X5_forgets 11 = some (.istore_n 1, 1) := by decide +kernel
theorem a_X5_forgets_12 : ix_at mT_X5_forgets 12 = some (.iload_n 1, 1) := by decide +kernel
theorem a_X5_forgets_13 : ix_at mT_X5_forgets 13 = some (.bipush 32, 2) := by decide +kernel
theorem a_X5_forgets_15 : ix_at mT_X5_forgets 15 = some (.if_icmp .ge 44, 3) := by decide +kernel
theorem a_X5_forgets_18 : ix_at mT_X5_forgets 18 = some (.aload_n 0, 1) := by decide +kernel
theorem a_X5_forgets_19 : ix_at mT_X5_forgets 19 = some (.getfield 36, 3) := by decide +kernel
theorem a_X5_forgets_22 : ix_at mT_X5_forgets 22 = some (.iload_n 1, 1) := by decide +kernel
theorem a_X5_forgets_23 : ix_at mT_X5_forgets 23 = some (.iconst 0, 1) := by decide +kernel
theorem a_X5_forgets_24 : ix_at mT_X5_forgets 24 = some (.bastore, 1) := by decide +kernel
theorem a_X5_forgets_25 : ix_at mT_X5_forgets 25 = some (.aload_n 0, 1) := by decide +kernel
theorem a_X5_forgets_26 : ix_at mT_X5_forgets 26 = some (.getfield 40, 3) := by decide +kernel
theorem a_X5_forgets_29 : ix_at mT_X5_forgets 29 = some (.iload_n 1, 1) := by decide +kernel
theorem a_X5_forgets_30 : ix_at mT_X5_forgets 30 = some (.iconst 0, 1) := by decide +kernel
theorem a_X5_forgets_31 : ix_at mT_X5_forgets 31 = some (.iastore, 1) := by decide +kernel
theorem a_X5_forgets_32 : ix_at mT_X5_forgets 32 = some (.aload_n 0, 1) := by decide +kernel
theorem a_X5_forgets_33 : ix_at mT_X5_forgets 33 = some (.getfield 43, 3) := by decide +kernel
theorem a_X5_forgets_36 : ix_at mT_X5_forgets 36 = some (.iload_n 1, 1) := by decide +kernel
theorem a_X5_forgets_37 : ix_at mT_X5_forgets 37 = some (.iconst (-1), 1) := by decide +kernel
theorem a_X5_forgets_38 : ix_at mT_X5_forgets 38 = some (.iastore, 1) := by decide +kernel
theorem a_X5_forgets_39 : ix_at mT_X5_forgets 39 = some (.aload_n 0, 1) := by decide +kernel
theorem a_X5_forgets_40 : ix_at mT_X5_forgets 40 = some (.getfield 46, 3) := by decide +kernel
theorem a_X5_forgets_43 : ix_at mT_X5_forgets 43 = some (.iload_n 1, 1) := by decide +kernel
theorem a_X5_forgets_44 : ix_at mT_X5_forgets 44 = some (.iconst 0, 1) := by decide +kernel
theorem a_X5_forgets_45 : ix_at mT_X5_forgets 45 = some (.iastore, 1) := by decide +kernel
theorem a_X5_forgets_46 : ix_at mT_X5_forgets 46 = some (.aload_n 0, 1) := by decide +kernel
theorem a_X5_forgets_47 : ix_at mT_X5_forgets 47 = some (.getfield 49, 3) := by decide +kernel
theorem a_X5_forgets_50 : ix_at mT_X5_forgets 50 = some (.iload_n 1, 1) := by decide +kernel
theorem a_X5_forgets_51 : ix_at mT_X5_forgets 51 = some (.iconst 0, 1) := by decide +kernel
theorem a_X5_forgets_52 : ix_at mT_X5_forgets 52 = some (.iastore, 1) := by decide +kernel
theorem a_X5_forgets_53 : ix_at mT_X5_forgets 53 = some (.iinc 1 1, 3) := by decide +kernel
theorem a_X5_forgets_56 : ix_at mT_X5_forgets 56 = some (.goto (-44), 3) := by decide +kernel
theorem a_X5_forgets_59 : ix_at mT_X5_forgets 59 = some (.iconst 0, 1) := by decide +kernel
theorem a_X5_forgets_60 : ix_at mT_X5_forgets 60 = some (.istore_n 1, 1) := by decide +kernel
theorem a_X5_forgets_61 : ix_at mT_X5_forgets 61 = some (.iload_n 1, 1) := by decide +kernel
theorem a_X5_forgets_62 : ix_at mT_X5_forgets 62 = some (.bipush 64, 2) := by decide +kernel
theorem a_X5_forgets_64 : ix_at mT_X5_forgets 64 = some (.if_icmp .ge 16, 3) := by decide +kernel
theorem a_X5_forgets_67 : ix_at mT_X5_forgets 67 = some (.aload_n 0, 1) := by decide +kernel
theorem a_X5_forgets_68 : ix_at mT_X5_forgets 68 = some (.getfield 52, 3) := by decide +kernel
theorem a_X5_forgets_71 : ix_at mT_X5_forgets 71 = some (.iload_n 1, 1) := by decide +kernel
theorem a_X5_forgets_72 : ix_at mT_X5_forgets 72 = some (.iconst (-1), 1) := by decide +kernel
theorem a_X5_forgets_73 : ix_at mT_X5_forgets 73 = some (.iastore, 1) := by decide +kernel
theorem a_X5_forgets_74 : ix_at mT_X5_forgets 74 = some (.iinc 1 1, 3) := by decide +kernel
theorem a_X5_forgets_77 : ix_at mT_X5_forgets 77 = some (.goto (-16), 3) := by decide +kernel
theorem a_X5_forgets_80 : ix_at mT_X5_forgets 80 = some (.return_, 1) := by decide +kernel
theorem a_X5_format_0 : ix_at mT_X5_format 0 = some (.iload_n 1, 1) := by decide +kernel
theorem a_X5_format_1 : ix_at mT_X5_format 1 = some (.iconst 1, 1) := by decide +kernel
theorem a_X5_format_2 : ix_at mT_X5_format 2 = some (.if_icmp .lt 34, 3) := by decide +kernel
theorem a_X5_format_5 : ix_at mT_X5_format 5 = some (.iload_n 1, 1) := by decide +kernel
theorem a_X5_format_6 : ix_at mT_X5_format 6 = some (.bipush 8, 2) := by decide +kernel
theorem a_X5_format_8 : ix_at mT_X5_format 8 = some (.if_icmp .gt 28, 3) := by decide +kernel
theorem a_X5_format_11 : ix_at mT_X5_format 11 = some (.iload_n 2, 1) := by decide +kernel
theorem a_X5_format_12 : ix_at mT_X5_format 12 = some (.bipush 100, 2) := by decide +kernel
theorem a_X5_format_14 : ix_at mT_X5_format 14 = some (.if_icmp .lt 22, 3) := by decide +kernel
theorem a_X5_format_17 : ix_at mT_X5_format 17 = some (.iload_n 2, 1) := by decide +kernel
theorem a_X5_format_18 : ix_at mT_X5_format 18 = some (.sipush 4000, 3) := by decide +kernel
theorem a_X5_format_21 : ix_at mT_X5_format 21 = some (.if_icmp .gt 15, 3) := by decide +kernel
theorem a_X5_format_24 : ix_at mT_X5_format 24 = some (.iload_n 3, 1) := by decide +kernel
theorem a_X5_format_25 : ix_at mT_X5_format 25 = some (.iconst 1, 1) := by decide +kernel
theorem a_X5_format_26 : ix_at mT_X5_format 26 = some (.if_icmp .lt 10, 3) := by decide +kernel
theorem a_X5_format_29 : ix_at mT_X5_format 29 = some (.iload_n 3, 1) := by decide +kernel
theorem a_X5_format_30 : ix_at mT_X5_format 30 = some (.sipush 1000, 3) := by decide +kernel
theorem a_X5_format_33 : ix_at mT_X5_format 33 = some (.if_icmp .le 5, 3) := by decide +kernel
theorem a_X5_format_36 : ix_at mT_X5_format 36 = some (.iconst 0, 1) := by decide +kernel
theorem a_X5_format_37 : ix_at mT_X5_format 37 = some (.ireturn, 1) := by decide +kernel
theorem a_X5_format_38 : ix_at mT_X5_format 38 = some (.aload_n 0, 1) := by decide +kernel
theorem a_X5_format_39 : ix_at mT_X5_format 39 = some (.iload_n 1, 1) := by decide +kernel
theorem a_X5_format_40 : ix_at mT_X5_format 40 = some (.putfield 87, 3) := by decide +kernel
theorem a_X5_format_43 : ix_at mT_X5_format 43 = some (.aload_n 0, 1) := by decide +kernel
theorem a_X5_format_44 : ix_at mT_X5_format 44 = some (.iload_n 2, 1) := by decide +kernel
theorem a_X5_format_45 : ix_at mT_X5_format 45 = some (.putfield 90, 3) := by decide +kernel
theorem a_X5_format_48 : ix_at mT_X5_format 48 = some (.aload_n 0, 1) := by decide +kernel
theorem a_X5_format_49 : ix_at mT_X5_format 49 = some (.iload_n 3, 1) := by decide +kernel
theorem a_X5_format_50 : ix_at mT_X5_format 50 = some (.putfield 93, 3) := by decide +kernel
theorem a_X5_format_53 : ix_at mT_X5_format 53 = some (.aload_n 0, 1) := by decide +kernel
theorem a_X5_format_54 : ix_at mT_X5_format 54 = some (.iconst 0, 1) := by decide +kernel
theorem a_X5_format_55 : ix_at mT_X5_format 55 = some (.putfield 96, 3) := by decide +kernel
theorem a_X5_format_58 : ix_at mT_X5_format 58 = some (.aload_n 0, 1) := by decide +kernel
theorem a_X5_format_59 : ix_at mT_X5_format 59 = some (.iconst 0, 1) := by decide +kernel
theorem a_X5_format_60 : ix_at mT_X5_format 60 = some (.putfield 99, 3) := by decide +kernel
theorem a_X5_format_63 : ix_at mT_X5_format 63 = some (.aload_n 0, 1) := by decide +kernel
theorem a_X5_format_64 : ix_at mT_X5_format 64 = some (.iconst 0, 1) := by decide +kernel
theorem a_X5_format_65 : ix_at mT_X5_format 65 = some (.putfield 103, 3) := by decide +kernel
theorem a_X5_format_68 : ix_at mT_X5_format 68 = some (.aload_n 0, 1) := by decide +kernel
theorem a_X5_format_69 : ix_at mT_X5_format 69 = some (.iconst 0, 1) := by decide +kernel
theorem a_X5_format_70 : ix_at mT_X5_format 70 = some (.putfield 106, 3) := by decide +kernel
theorem a_X5_format_73 : ix_at mT_X5_format 73 = some (.aload_n 0, 1) := by decide +kernel
theorem a_X5_format_74 : ix_at mT_X5_format 74 = some (.iconst 0, 1) := by decide +kernel
theorem a_X5_format_75 : ix_at mT_X5_format 75 = some (.putfield 109, 3) := by decide +kernel
theorem a_X5_format_78 : ix_at mT_X5_format 78 = some (.aload_n 0, 1) := by decide +kernel
theorem a_X5_format_79 : ix_at mT_X5_format 79 = some (.iconst 0, 1) := by decide +kernel
theorem a_X5_format_80 : ix_at mT_X5_format 80 = some (.putfield 112, 3) := by decide +kernel
theorem a_X5_format_83 : ix_at mT_X5_format 83 = some (.aload_n 0, 1) := by decide +kernel
theorem a_X5_format_84 : ix_at mT_X5_format 84 = some (.iconst 0, 1) := by decide +kernel
theorem a_X5_format_85 : ix_at mT_X5_format 85 = some (.putfield 115, 3) := by decide +kernel
theorem a_X5_format_88 : ix_at mT_X5_format 88 = some (.aload_n 0, 1) := by decide +kernel
theorem a_X5_format_89 : ix_at mT_X5_format 89 = some (.invokevirtual 118, 3) := by decide +kernel
theorem a_X5_format_92 : ix_at mT_X5_format 92 = some (.iconst 1, 1) := by decide +kernel
theorem a_X5_format_93 : ix_at mT_X5_format 93 = some (.ireturn, 1) := by decide +kernel
theorem a_X5_sizeOf_0 : ix_at mT_X5_sizeOf 0 = some (.aload_n 0, 1) := by decide +kernel
theorem a_X5_sizeOf_1 : ix_at mT_X5_sizeOf 1 = some (.getfield 9, 3) := by decide +kernel
theorem a_X5_sizeOf_4 : ix_at mT_X5_sizeOf 4 = some (.iload_n 1, 1) := by decide +kernel
theorem a_X5_sizeOf_5 : ix_at mT_X5_sizeOf 5 = some (.iaload, 1) := by decide +kernel
theorem a_X5_sizeOf_6 : ix_at mT_X5_sizeOf 6 = some (.aload_n 0, 1) := by decide +kernel
theorem a_X5_sizeOf_7 : ix_at mT_X5_sizeOf 7 = some (.getfield 87, 3) := by decide +kernel
theorem a_X5_sizeOf_10 : ix_at mT_X5_sizeOf 10 = some (.if_icmp .ne 8, 3) := by decide +kernel
theorem a_X5_sizeOf_13 : ix_at mT_X5_sizeOf 13 = some (.bipush 16, 2) := by decide +kernel
theorem a_X5_sizeOf_15 : ix_at mT_X5_sizeOf 15 = some (.goto 12, 3) := by decide +kernel
theorem a_X5_sizeOf_18 : ix_at mT_X5_sizeOf 18 = some (.bipush 14, 2) := by decide +kernel
theorem a_X5_sizeOf_20 : ix_at mT_X5_sizeOf 20 = some (.aload_n 0, 1) := by decide +kernel
theorem a_X5_sizeOf_21 : ix_at mT_X5_sizeOf 21 = some (.getfield 25, 3) := by decide +kernel
theorem a_X5_sizeOf_24 : ix_at mT_X5_sizeOf 24 = some (.iload_n 1, 1) := by decide +kernel
theorem a_X5_sizeOf_25 : ix_at mT_X5_sizeOf 25 = some (.iaload, 1) := by decide +kernel
theorem a_X5_sizeOf_26 : ix_at mT_X5_sizeOf 26 = some (.iadd, 1) := by decide +kernel
theorem a_X5_sizeOf_27 : ix_at mT_X5_sizeOf 27 = some (.ireturn, 1) := by decide +kernel
theorem a_X5_bytesFrom_0 : ix_at mT_X5_bytesFrom 0 = some (.iconst 0, 1) := by decide +kernel
theorem a_X5_bytesFrom_1 : ix_at mT_X5_bytesFrom 1 = some (.istore_n 3, 1) := by decide +kernel
theorem a_X5_bytesFrom_2 : ix_at mT_X5_bytesFrom 2 = some (.iload_n 2, 1) := by decide +kernel
theorem a_X5_bytesFrom_3 : ix_at mT_X5_bytesFrom 3 = some (.istore 4, 2) := by decide +kernel
theorem a_X5_bytesFrom_5 : ix_at mT_X5_bytesFrom 5 = some (.iload 4, 2) := by decide +kernel
theorem a_X5_bytesFrom_7 : ix_at mT_X5_bytesFrom 7 = some (.aload_n 0, 1) := by decide +kernel
theorem a_X5_bytesFrom_8 : ix_at mT_X5_bytesFrom 8 = some (.getfield 106, 3) := by decide +kernel
theorem a_X5_bytesFrom_11 : ix_at mT_X5_bytesFrom 11 = some (.if_icmp .ge 33, 3) := by decide +kernel
theorem a_X5_bytesFrom_14 : ix_at mT_X5_bytesFrom 14 = some (.iload_n 3, 1) := by decide +kernel
theorem a_X5_bytesFrom_15 : ix_at mT_X5_bytesFrom 15 = some (.aload_n 0, 1) := by decide +kernel
theorem a_X5_bytesFrom_16 : ix_at mT_X5_bytesFrom 16 = some (.getfield 9, 3) := by decide +kernel
theorem a_X5_bytesFrom_19 : ix_at mT_X5_bytesFrom 19 = some (.iload 4, 2) := by decide +kernel
theorem a_X5_bytesFrom_21 : ix_at mT_X5_bytesFrom 21 = some (.iaload, 1) := by decide +kernel
theorem a_X5_bytesFrom_22 : ix_at mT_X5_bytesFrom 22 = some (.iload_n 1, 1) := by decide +kernel
theorem a_X5_bytesFrom_23 : ix_at mT_X5_bytesFrom 23 = some (.if_icmp .ne 12, 3) := by decide +kernel
theorem a_X5_bytesFrom_26 : ix_at mT_X5_bytesFrom 26 = some (.aload_n 0, 1) := by decide +kernel
theorem a_X5_bytesFrom_27 : ix_at mT_X5_bytesFrom 27 = some (.iload 4, 2) := by decide +kernel
theorem a_X5_bytesFrom_29 : ix_at mT_X5_bytesFrom 29 = some (.invokevirtual 121, 3) := by decide +kernel
theorem a_X5_bytesFrom_32 : ix_at mT_X5_bytesFrom 32 = some (.goto 4, 3) := by decide +kernel
theorem a_X5_bytesFrom_35 : ix_at mT_X5_bytesFrom 35 = some (.iconst 0, 1) := by decide +kernel
theorem a_X5_bytesFrom_36 : ix_at mT_X5_bytesFrom 36 = some (.iadd, 1) := by decide +kernel
theorem a_X5_bytesFrom_37 : ix_at mT_X5_bytesFrom 37 = some (.istore_n 3, 1) := by decide +kernel
theorem a_X5_bytesFrom_38 : ix_at mT_X5_bytesFrom 38 = some (.iinc 4 1, 3) := by decide +kernel
theorem a_X5_bytesFrom_41 : ix_at mT_X5_bytesFrom 41 = some (.goto (-36), 3) := by decide +kernel
theorem a_X5_bytesFrom_44 : ix_at mT_X5_bytesFrom 44 = some (.iload_n 3, 1) := by decide +kernel
theorem a_X5_bytesFrom_45 : ix_at mT_X5_bytesFrom 45 = some (.ireturn, 1) := by decide +kernel
theorem a_X5_unsynced_0 : ix_at mT_X5_unsynced 0 = some (.iconst 0, 1) := by decide +kernel
theorem a_X5_unsynced_1 : ix_at mT_X5_unsynced 1 = some (.istore_n 1, 1) := by decide +kernel
theorem a_X5_unsynced_2 : ix_at mT_X5_unsynced 2 = some (.aload_n 0, 1) := by decide +kernel
theorem a_X5_unsynced_3 : ix_at mT_X5_unsynced 3 = some (.getfield 109, 3) := by decide +kernel
theorem a_X5_unsynced_6 : ix_at mT_X5_unsynced 6 = some (.istore_n 2, 1) := by decide +kernel
theorem a_X5_unsynced_7 : ix_at mT_X5_unsynced 7 = some (.iload_n 2, 1) := by decide +kernel
theorem a_X5_unsynced_8 : ix_at mT_X5_unsynced 8 = some (.aload_n 0, 1) := by decide +kernel
theorem a_X5_unsynced_9 : ix_at mT_X5_unsynced 9 = some (.getfield 106, 3) := by decide +kernel
theorem a_X5_unsynced_12 : ix_at mT_X5_unsynced 12 = some (.if_icmp .ge 17, 3) := by decide +kernel
theorem a_X5_unsynced_15 : ix_at mT_X5_unsynced 15 = some (.iload_n 1, 1) := by decide +kernel
theorem a_X5_unsynced_16 : ix_at mT_X5_unsynced 16 = some (.aload_n 0, 1) := by decide +kernel
theorem a_X5_unsynced_17 : ix_at mT_X5_unsynced 17 = some (.iload_n 2, 1) := by decide +kernel
theorem a_X5_unsynced_18 : ix_at mT_X5_unsynced 18 = some (.invokevirtual 121, 3) := by decide +kernel
theorem a_X5_unsynced_21 : ix_at mT_X5_unsynced 21 = some (.iadd, 1) := by decide +kernel
theorem a_X5_unsynced_22 : ix_at mT_X5_unsynced 22 = some (.istore_n 1, 1) := by decide +kernel
theorem a_X5_unsynced_23 : ix_at mT_X5_unsynced 23 = some (.iinc 2 1, 3) := by decide +kernel
theorem a_X5_unsynced_26 : ix_at mT_X5_unsynced 26 = some (.goto (-19), 3) := by decide +kernel
theorem a_X5_unsynced_29 : ix_at mT_X5_unsynced 29 = some (.iload_n 1, 1) := by decide +kernel
theorem a_X5_unsynced_30 : ix_at mT_X5_unsynced 30 = some (.ireturn, 1) := by decide +kernel
theorem a_X5_add_0 : ix_at mT_X5_add 0 = some (.aload_n 0, 1) := by decide +kernel
theorem a_X5_add_1 : ix_at mT_X5_add 1 = some (.getfield 106, 3) := by decide +kernel
theorem a_X5_add_4 : ix_at mT_X5_add 4 = some (.istore 7, 2) := by decide +kernel
theorem a_X5_add_6 : ix_at mT_X5_add 6 = some (.aload_n 0, 1) := by decide +kernel
theorem a_X5_add_7 : ix_at mT_X5_add 7 = some (.dup, 1) := by decide +kernel
theorem a_X5_add_8 : ix_at mT_X5_add 8 = some (.getfield 106, 3) := by decide +kernel
theorem a_X5_add_11 : ix_at mT_X5_add 11 = some (.iconst 1, 1) := by decide +kernel
theorem a_X5_add_12 : ix_at mT_X5_add 12 = some (.iadd, 1) := by decide +kernel
theorem a_X5_add_13 : ix_at mT_X5_add 13 = some (.putfield 106, 3) := by decide +kernel
theorem a_X5_add_16 : ix_at mT_X5_add 16 = some (.aload_n 0, 1) := by decide +kernel
theorem a_X5_add_17 : ix_at mT_X5_add 17 = some (.getfield 9, 3) := by decide +kernel
theorem a_X5_add_20 : ix_at mT_X5_add 20 = some (.iload 7, 2) := by decide +kernel
theorem a_X5_add_22 : ix_at mT_X5_add 22 = some (.iload_n 1, 1) := by decide +kernel
theorem a_X5_add_23 : ix_at mT_X5_add 23 = some (.iastore, 1) := by decide +kernel
theorem a_X5_add_24 : ix_at mT_X5_add 24 = some (.aload_n 0, 1) := by decide +kernel
theorem a_X5_add_25 : ix_at mT_X5_add 25 = some (.getfield 13, 3) := by decide +kernel
theorem a_X5_add_28 : ix_at mT_X5_add 28 = some (.iload 7, 2) := by decide +kernel
theorem a_X5_add_30 : ix_at mT_X5_add 30 = some (.iload_n 2, 1) := by decide +kernel
theorem a_X5_add_31 : ix_at mT_X5_add 31 = some (.iastore, 1) := by decide +kernel
theorem a_X5_add_32 : ix_at mT_X5_add 32 = some (.aload_n 0, 1) := by decide +kernel
theorem a_X5_add_33 : ix_at mT_X5_add 33 = some (.getfield 16, 3) := by decide +kernel
theorem a_X5_add_36 : ix_at mT_X5_add 36 = some (.iload 7, 2) := by decide +kernel
theorem a_X5_add_38 : ix_at mT_X5_add 38 = some (.iload_n 3, 1) := by decide +kernel
theorem a_X5_add_39 : ix_at mT_X5_add 39 = some (.iastore, 1) := by decide +kernel
theorem a_X5_add_40 : ix_at mT_X5_add 40 = some (.aload_n 0, 1) := by decide +kernel
theorem a_X5_add_41 : ix_at mT_X5_add 41 = some (.getfield 19, 3) := by decide +kernel
theorem a_X5_add_44 : ix_at mT_X5_add 44 = some (.iload 7, 2) := by decide +kernel
theorem a_X5_add_46 : ix_at mT_X5_add 46 = some (.iload 4, 2) := by decide +kernel
theorem a_X5_add_48 : ix_at mT_X5_add 48 = some (.iastore, 1) := by decide +kernel
theorem a_X5_add_49 : ix_at mT_X5_add 49 = some (.aload_n 0, 1) := by decide +kernel
theorem a_X5_add_50 : ix_at mT_X5_add 50 = some (.getfield 22, 3) := by decide +kernel
theorem a_X5_add_53 : ix_at mT_X5_add 53 = some (.iload 7, 2) := by decide +kernel
theorem a_X5_add_55 : ix_at mT_X5_add 55 = some (.iload 5, 2) := by decide +kernel
theorem a_X5_add_57 : ix_at mT_X5_add 57 = some (.iastore, 1) := by decide +kernel
theorem a_X5_add_58 : ix_at mT_X5_add 58 = some (.aload_n 0, 1) := by decide +kernel
theorem a_X5_add_59 : ix_at mT_X5_add 59 = some (.getfield 25, 3) := by decide +kernel
theorem a_X5_add_62 : ix_at mT_X5_add 62 = some (.iload 7, 2) := by decide +kernel
theorem a_X5_add_64 : ix_at mT_X5_add 64 = some (.iload 6, 2) := by decide +kernel
theorem a_X5_add_66 : ix_at mT_X5_add 66 = some (.iastore, 1) := by decide +kernel
theorem a_X5_add_67 : ix_at mT_X5_add 67 = some (.aload_n 0, 1) := by decide +kernel
theorem a_X5_add_68 : ix_at mT_X5_add 68 = some (.getfield 28, 3) := by decide +kernel
theorem a_X5_add_71 : ix_at mT_X5_add 71 = some (.iload 7, 2) := by decide +kernel
theorem a_X5_add_73 : ix_at mT_X5_add 73 = some (.iconst (-1), 1) := by decide +kernel
theorem a_X5_add_74 : ix_at mT_X5_add 74 = some (.iastore, 1) := by decide +kernel
theorem a_X5_add_75 : ix_at mT_X5_add 75 = some (.iload 7, 2) := by decide +kernel
theorem a_X5_add_77 : ix_at mT_X5_add 77 = some (.ireturn, 1) := by decide +kernel
theorem a_X5_opened_0 : ix_at mT_X5_opened 0 = some (.iconst 0, 1) := by decide +kernel
theorem a_X5_opened_1 : ix_at mT_X5_opened 1 = some (.istore_n 1, 1) := by decide +kernel
theorem a_X5_opened_2 : ix_at mT_X5_opened 2 = some (.iconst 0, 1) := by decide +kernel
theorem a_X5_opened_3 : ix_at mT_X5_opened 3 = some (.istore_n 2, 1) := by decide +kernel
theorem a_X5_opened_4 : ix_at mT_X5_opened 4 = some (.iload_n 2, 1) := by decide +kernel
theorem a_X5_opened_5 : ix_at mT_X5_opened 5 = some (.bipush 32, 2) := by decide +kernel
theorem a_X5_opened_7 : ix_at mT_X5_opened 7 = some (.if_icmp .ge 27, 3) := by decide +kernel
theorem a_X5_opened_10 : ix_at mT_X5_opened 10 = some (.iload_n 1, 1) := by decide +kernel
theorem a_X5_opened_11 : ix_at mT_X5_opened 11 = some (.aload_n 0, 1) := by decide +kernel
theorem a_X5_opened_12 : ix_at mT_X5_opened 12 = some (.getfield 43, 3) := by decide +kernel
theorem a_X5_opened_15 : ix_at mT_X5_opened 15 = some (.iload_n 2, 1) := by decide +kernel
theorem a_X5_opened_16 : ix_at mT_X5_opened 16 = some (.iaload, 1) := by decide +kernel
theorem a_X5_opened_17 : ix_at mT_X5_opened 17 = some (.iconst (-1), 1) := by decide +kernel
theorem a_X5_opened_18 : ix_at mT_X5_opened 18 = some (.if_icmp .ne 7, 3) := by decide +kernel
theorem a_X5_opened_21 : ix_at mT_X5_opened 21 = some (.iconst 0, 1) := by decide +kernel
theorem a_X5_opened_22 : ix_at mT_X5_opened 22 = some (.goto 4, 3) := by decide +kernel
theorem a_X5_opened_25 : ix_at mT_X5_opened 25 = some (.iconst 1, 1) := by decide +kernel
theorem a_X5_opened_26 : ix_at mT_X5_opened 26 = some (.iadd, 1) := by decide +kernel
theorem a_X5_opened_27 : ix_at mT_X5_opened 27 = some (.istore_n 1, 1) := by decide +kernel
theorem a_X5_opened_28 : ix_at mT_X5_opened 28 = some (.iinc 2 1, 3) := by decide +kernel
theorem a_X5_opened_31 : ix_at mT_X5_opened 31 = some (.goto (-27), 3) := by decide +kernel
theorem a_X5_opened_34 : ix_at mT_X5_opened 34 = some (.iload_n 1, 1) := by decide +kernel
theorem a_X5_opened_35 : ix_at mT_X5_opened 35 = some (.ireturn, 1) := by decide +kernel
theorem a_X5_openedAt_0 : ix_at mT_X5_openedAt 0 = some (.iconst 0, 1) := by decide +kernel
theorem a_X5_openedAt_1 : ix_at mT_X5_openedAt 1 = some (.istore_n 2, 1) := by decide +kernel
theorem a_X5_openedAt_2 : ix_at mT_X5_openedAt 2 = some (.iconst 0, 1) := by decide +kernel
theorem a_X5_openedAt_3 : ix_at mT_X5_openedAt 3 = some (.istore_n 3, 1) := by decide +kernel
theorem a_X5_openedAt_4 : ix_at mT_X5_openedAt 4 = some (.iload_n 3, 1) := by decide +kernel
theorem a_X5_openedAt_5 : ix_at mT_X5_openedAt 5 = some (.bipush 32, 2) := by decide +kernel
theorem a_X5_openedAt_7 : ix_at mT_X5_openedAt 7 = some (.if_icmp .ge 41, 3) := by decide +kernel
theorem a_X5_openedAt_10 : ix_at mT_X5_openedAt 10 = some (.iload_n 2, 1) := by decide +kernel
theorem a_X5_openedAt_11 : ix_at mT_X5_openedAt 11 = some (.aload_n 0, 1) := by decide +kernel
theorem a_X5_openedAt_12 : ix_at mT_X5_openedAt 12 = some (.getfield 43, 3) := by decide +kernel
theorem a_X5_openedAt_15 : ix_at mT_X5_openedAt 15 = some (.iload_n 3, 1) := by decide +kernel
theorem a_X5_openedAt_16 : ix_at mT_X5_openedAt 16 = some (.iaload, 1) := by decide +kernel
theorem a_X5_openedAt_17 : ix_at mT_X5_openedAt 17 = some (.iconst (-1), 1) := by decide +kernel
theorem a_X5_openedAt_18 : ix_at mT_X5_openedAt 18 = some (.if_icmp .eq 21, 3) := by decide +kernel
theorem a_X5_openedAt_21 : ix_at mT_X5_openedAt 21 = some (.aload_n 0, 1) := by decide +kernel
theorem a_X5_openedAt_22 : ix_at mT_X5_openedAt 22 = some (.getfield 49, 3) := by decide +kernel
theorem a_X5_openedAt_25 : ix_at mT_X5_openedAt 25 = some (.iload_n 3, 1) := by decide +kernel
theorem a_X5_openedAt_26 : ix_at mT_X5_openedAt 26 = some (.iaload, 1) := by decide +kernel
theorem a_X5_openedAt_27 : ix_at mT_X5_openedAt 27 = some (.iload_n 1, 1) := by decide +kernel
theorem a_X5_openedAt_28 : ix_at mT_X5_openedAt 28 = some (.ishr, 1) := by decide +kernel
theorem a_X5_openedAt_29 : ix_at mT_X5_openedAt 29 = some (.iconst 1, 1) := by decide +kernel
theorem a_X5_openedAt_30 : ix_at mT_X5_openedAt 30 = some (.iand, 1) := by decide +kernel
theorem a_X5_openedAt_31 : ix_at mT_X5_openedAt 31 = some (.iconst 1, 1) := by decide +kernel
theorem a_X5_openedAt_32 : ix_at mT_X5_openedAt 32 = some (.if_icmp .ne 7, 3) := by decide +kernel
theorem a_X5_openedAt_35 : ix_at mT_X5_openedAt 35 = some (.iconst 1, 1) := by decide +kernel
theorem a_X5_openedAt_36 : ix_at mT_X5_openedAt 36 = some (.goto 4, 3) := by decide +kernel
theorem a_X5_openedAt_39 : ix_at mT_X5_openedAt 39 = some (.iconst 0, 1) := by decide +kernel
theorem a_X5_openedAt_40 : ix_at mT_X5_openedAt 40 = some (.iadd, 1) := by decide +kernel
theorem a_X5_openedAt_41 : ix_at mT_X5_openedAt 41 = some (.istore_n 2, 1) := by decide +kernel
theorem a_X5_openedAt_42 : ix_at mT_X5_openedAt 42 = some (.iinc 3 1, 3) := by decide +kernel
theorem a_X5_openedAt_45 : ix_at mT_X5_openedAt 45 = some (.goto (-41), 3) := by decide +kernel
theorem a_X5_openedAt_48 : ix_at mT_X5_openedAt 48 = some (.iload_n 2, 1) := by decide +kernel
theorem a_X5_openedAt_49 : ix_at mT_X5_openedAt 49 = some (.ireturn, 1) := by decide +kernel
theorem a_X5_bookHas_0 : ix_at mT_X5_bookHas 0 = some (.aload_n 0, 1) := by decide +kernel
theorem a_X5_bookHas_1 : ix_at mT_X5_bookHas 1 = some (.aload_n 0, 1) := by decide +kernel
theorem a_X5_bookHas_2 : ix_at mT_X5_bookHas 2 = some (.getfield 87, 3) := by decide +kernel
theorem a_X5_bookHas_5 : ix_at mT_X5_bookHas 5 = some (.iconst 0, 1) := by decide +kernel
theorem a_X5_bookHas_6 : ix_at mT_X5_bookHas 6 = some (.invokevirtual 125, 3) := by decide +kernel
theorem a_X5_bookHas_9 : ix_at mT_X5_bookHas 9 = some (.iload_n 1, 1) := by decide +kernel
theorem a_X5_bookHas_10 : ix_at mT_X5_bookHas 10 = some (.iadd, 1) := by decide +kernel
theorem a_X5_bookHas_11 : ix_at mT_X5_bookHas 11 = some (.bipush 48, 2) := by decide +kernel
theorem a_X5_bookHas_13 : ix_at mT_X5_bookHas 13 = some (.iload_n 2, 1) := by decide +kernel
theorem a_X5_bookHas_14 : ix_at mT_X5_bookHas 14 = some (.imul, 1) := by decide +kernel
theorem a_X5_bookHas_15 : ix_at mT_X5_bookHas 15 = some (.iadd, 1) := by decide +kernel
theorem a_X5_bookHas_16 : ix_at mT_X5_bookHas 16 = some (.sipush 16000, 3) := by decide +kernel
theorem a_X5_bookHas_19 : ix_at mT_X5_bookHas 19 = some (.if_icmp .gt 7, 3) := by decide +kernel
theorem a_X5_bookHas_22 : ix_at mT_X5_bookHas 22 = some (.iconst 1, 1) := by decide +kernel
theorem a_X5_bookHas_23 : ix_at mT_X5_bookHas 23 = some (.goto 4, 3) := by decide +kernel
theorem a_X5_bookHas_26 : ix_at mT_X5_bookHas 26 = some (.iconst 0, 1) := by decide +kernel
theorem a_X5_bookHas_27 : ix_at mT_X5_bookHas 27 = some (.ireturn, 1) := by decide +kernel
theorem a_X5_refused_0 : ix_at mT_X5_refused 0 = some (.aload_n 0, 1) := by decide +kernel
theorem a_X5_refused_1 : ix_at mT_X5_refused 1 = some (.getfield 99, 3) := by decide +kernel
theorem a_X5_refused_4 : ix_at mT_X5_refused 4 = some (.ifCond .eq 5, 3) := by decide +kernel
theorem a_X5_refused_7 : ix_at mT_X5_refused 7 = some (.iconst (-1), 1) := by decide +kernel
theorem a_X5_refused_8 : ix_at mT_X5_refused 8 = some (.ireturn, 1) := by decide +kernel
theorem a_X5_refused_9 : ix_at mT_X5_refused 9 = some (.iload_n 1, 1) := by decide +kernel
theorem a_X5_refused_10 : ix_at mT_X5_refused 10 = some (.ifCond .lt 18, 3) := by decide +kernel
theorem a_X5_refused_13 : ix_at mT_X5_refused 13 = some (.iload_n 1, 1) := by decide +kernel
theorem a_X5_refused_14 : ix_at mT_X5_refused 14 = some (.bipush 31, 2) := by decide +kernel
theorem a_X5_refused_16 : ix_at mT_X5_refused 16 = some (.if_icmp .gt 12, 3) := by decide +kernel
theorem a_X5_refused_19 : ix_at mT_X5_refused 19 = some (.aload_n 0, 1) := by decide +kernel
theorem a_X5_refused_20 : ix_at mT_X5_refused 20 = some (.getfield 36, 3) := by decide +kernel
theorem a_X5_refused_23 : ix_at mT_X5_refused 23 = some (.iload_n 1, 1) := by decide +kernel
theorem a_X5_refused_24 : ix_at mT_X5_refused 24 = some (.baload, 1) := by decide +kernel
theorem a_X5_refused_25 : ix_at mT_X5_refused 25 = some (.ifCond .ne 6, 3) := by decide +kernel
theorem a_X5_refused_28 : ix_at mT_X5_refused 28 = some (.bipush (-2), 2) := by decide +kernel
theorem a_X5_refused_30 : ix_at mT_X5_refused 30 = some (.ireturn, 1) := by decide +kernel
theorem a_X5_refused_31 : ix_at mT_X5_refused 31 = some (.aload_n 0, 1) := by decide +kernel
theorem a_X5_refused_32 : ix_at mT_X5_refused 32 = some (.getfield 40, 3) := by decide +kernel
theorem a_X5_refused_35 : ix_at mT_X5_refused 35 = some (.iload_n 1, 1) := by decide +kernel
theorem a_X5_refused_36 : ix_at mT_X5_refused 36 = some (.iaload, 1) := by decide +kernel
theorem a_X5_refused_37 : ix_at mT_X5_refused 37 = some (.iload_n 2, 1) := by decide +kernel
theorem a_X5_refused_38 : ix_at mT_X5_refused 38 = some (.if_icmp .ne 7, 3) := by decide +kernel
theorem a_X5_refused_41 : ix_at mT_X5_refused 41 = some (.iconst 0, 1) := by decide +kernel
theorem a_X5_refused_42 : ix_at mT_X5_refused 42 = some (.goto 5, 3) := by decide +kernel
theorem a_X5_refused_45 : ix_at mT_X5_refused 45 = some (.bipush (-3), 2) := by decide +kernel
theorem a_X5_refused_47 : ix_at mT_X5_refused 47 = some (.ireturn, 1) := by decide +kernel
theorem a_X5_registers_0 : ix_at mT_X5_registers 0 = some (.aload_n 0, 1) := by decide +kernel
theorem a_X5_registers_1 : ix_at mT_X5_registers 1 = some (.getfield 40, 3) := by decide +kernel
theorem a_X5_registers_4 : ix_at mT_X5_registers 4 = some (.iload_n 1, 1) := by decide +kernel
theorem a_X5_registers_5 : ix_at mT_X5_registers 5 = some (.aload_n 0, 1) := by decide +kernel
theorem a_X5_registers_6 : ix_at mT_X5_registers 6 = some (.getfield 36, 3) := by decide +kernel
theorem a_X5_registers_9 : ix_at mT_X5_registers 9 = some (.iload_n 1, 1) := by decide +kernel
theorem a_X5_registers_10 : ix_at mT_X5_registers 10 = some (.baload, 1) := by decide +kernel
theorem a_X5_registers_11 : ix_at mT_X5_registers 11 = some (.ifCond .eq 14, 3) := by decide +kernel
theorem a_X5_registers_14 : ix_at mT_X5_registers 14 = some (.aload_n 0, 1) := by decide +kernel
theorem a_X5_registers_15 : ix_at mT_X5_registers 15 = some (.getfield 40, 3) := by decide +kernel
theorem a_X5_registers_18 : ix_at mT_X5_registers 18 = some (.iload_n 1, 1) := by decide +kernel
theorem a_X5_registers_19 : ix_at mT_X5_registers 19 = some (.iaload, 1) := by decide +kernel
theorem a_X5_registers_20 : ix_at mT_X5_registers 20 = some (.iconst 1, 1) := by decide +kernel
theorem a_X5_registers_21 : ix_at mT_X5_registers 21 = some (.iadd, 1) := by decide +kernel
theorem a_X5_registers_22 : ix_at mT_X5_registers 22 = some (.goto 4, 3) := by decide +kernel
theorem a_X5_registers_25 : ix_at mT_X5_registers 25 = some (.iconst 0, 1) := by decide +kernel
theorem a_X5_registers_26 : ix_at mT_X5_registers 26 = some (.iastore, 1) := by decide +kernel
theorem a_X5_registers_27 : ix_at mT_X5_registers 27 = some (.aload_n 0, 1) := by decide +kernel
theorem a_X5_registers_28 : ix_at mT_X5_registers 28 = some (.getfield 36, 3) := by decide +kernel
theorem a_X5_registers_31 : ix_at mT_X5_registers 31 = some (.iload_n 1, 1) := by decide +kernel
theorem a_X5_registers_32 : ix_at mT_X5_registers 32 = some (.iconst 1, 1) := by decide +kernel
theorem a_X5_registers_33 : ix_at mT_X5_registers 33 = some (.bastore, 1) := by decide +kernel
theorem a_X5_registers_34 : ix_at mT_X5_registers 34 = some (.aload_n 0, 1) := by decide +kernel
theorem a_X5_registers_35 : ix_at mT_X5_registers 35 = some (.aload_n 0, 1) := by decide +kernel
theorem a_X5_registers_36 : ix_at mT_X5_registers 36 = some (.getfield 87, 3) := by decide +kernel
theorem a_X5_registers_39 : ix_at mT_X5_registers 39 = some (.iconst 0, 1) := by decide +kernel
theorem a_X5_registers_40 : ix_at mT_X5_registers 40 = some (.iload_n 1, 1) := by decide +kernel
theorem a_X5_registers_41 : ix_at mT_X5_registers 41 = some (.aload_n 0, 1) := by decide +kernel
theorem a_X5_registers_42 : ix_at mT_X5_registers 42 = some (.getfield 40, 3) := by decide +kernel
theorem a_X5_registers_45 : ix_at mT_X5_registers 45 = some (.iload_n 1, 1) := by decide +kernel
theorem a_X5_registers_46 : ix_at mT_X5_registers 46 = some (.iaload, 1) := by decide +kernel
theorem a_X5_registers_47 : ix_at mT_X5_registers 47 = some (.iconst 0, 1) := by decide +kernel
theorem a_X5_registers_48 : ix_at mT_X5_registers 48 = some (.iconst 0, 1) := by decide +kernel
theorem a_X5_registers_49 : ix_at mT_X5_registers 49 = some (.invokevirtual 129, 3) := by decide +kernel
theorem a_X5_registers_52 : ix_at mT_X5_registers 52 = some (.istore_n 2, 1) := by decide +kernel
theorem a_X5_registers_53 : ix_at mT_X5_registers 53 = some (.return_, 1) := by decide +kernel
theorem a_X5_marksOf_0 : ix_at mT_X5_marksOf 0 = some (.iconst 0, 1) := by decide +kernel
theorem a_X5_marksOf_1 : ix_at mT_X5_marksOf 1 = some (.istore_n 2, 1) := by decide +kernel
theorem a_X5_marksOf_2 : ix_at mT_X5_marksOf 2 = some (.iload_n 2, 1) := by decide +kernel
theorem a_X5_marksOf_3 : ix_at mT_X5_marksOf 3 = some (.aload_n 0, 1) := by decide +kernel
theorem a_X5_marksOf_4 : ix_at mT_X5_marksOf 4 = some (.getfield 84, 3) := by decide +kernel
theorem a_X5_marksOf_7 : ix_at mT_X5_marksOf 7 = some (.if_icmp .ge 36, 3) := by decide +kernel
theorem a_X5_marksOf_10 : ix_at mT_X5_marksOf 10 = some (.aload_n 0, 1) := by decide +kernel
theorem a_X5_marksOf_11 : ix_at mT_X5_marksOf 11 = some (.getfield 58, 3) := by decide +kernel
theorem a_X5_marksOf_14 : ix_at mT_X5_marksOf 14 = some (.iload_n 2, 1) := by decide +kernel
theorem a_X5_marksOf_15 : ix_at mT_X5_marksOf 15 = some (.iaload, 1) := by decide +kernel
theorem a_X5_marksOf_16 : ix_at mT_X5_marksOf 16 = some (.iload_n 1, 1) := by decide +kernel
theorem a_X5_marksOf_17 : ix_at mT_X5_marksOf 17 = some (.if_icmp .ne 20, 3) := by decide +kernel
theorem a_X5_marksOf_20 : ix_at mT_X5_marksOf 20 = some (.aload_n 0, 1) := by decide +kernel
theorem a_X5_marksOf_21 : ix_at mT_X5_marksOf 21 = some (.getfield 52, 3) := by decide +kernel
theorem a_X5_marksOf_24 : ix_at mT_X5_marksOf 24 = some (.aload_n 0, 1) := by decide +kernel
theorem a_X5_marksOf_25 : ix_at mT_X5_marksOf 25 = some (.getfield 61, 3) := by decide +kernel
theorem a_X5_marksOf_28 : ix_at mT_X5_marksOf 28 = some (.iload_n 2, 1) := by decide +kernel
theorem a_X5_marksOf_29 : ix_at mT_X5_marksOf 29 = some (.iaload, 1) := by decide +kernel
theorem a_X5_marksOf_30 : ix_at mT_X5_marksOf 30 = some (.aload_n 0, 1) := by decide +kernel
theorem a_X5_marksOf_31 : ix_at mT_X5_marksOf 31 = some (.getfield 64, 3) := by decide +kernel
theorem a_X5_marksOf_34 : ix_at mT_X5_marksOf 34 = some (.iload_n 2, 1) := by decide +kernel
theorem a_X5_marksOf_35 : ix_at mT_X5_marksOf 35 = some (.iaload, 1) := by decide +kernel
theorem a_X5_marksOf_36 : ix_at mT_X5_marksOf 36 = some (.iastore, 1) := by decide +kernel
theorem a_X5_marksOf_37 : ix_at mT_X5_marksOf 37 = some (.iinc 2 1, 3) := by decide +kernel
theorem a_X5_marksOf_40 : ix_at mT_X5_marksOf 40 = some (.goto (-38), 3) := by decide +kernel
theorem a_X5_marksOf_43 : ix_at mT_X5_marksOf 43 = some (.return_, 1) := by decide +kernel
theorem a_X5_finishes_0 : ix_at mT_X5_finishes 0 = some (.aload_n 0, 1) := by decide +kernel
theorem a_X5_finishes_1 : ix_at mT_X5_finishes 1 = some (.getfield 43, 3) := by decide +kernel
theorem a_X5_finishes_4 : ix_at mT_X5_finishes 4 = some (.iload_n 1, 1) := by decide +kernel
theorem a_X5_finishes_5 : ix_at mT_X5_finishes 5 = some (.iaload, 1) := by decide +kernel
theorem a_X5_finishes_6 : ix_at mT_X5_finishes 6 = some (.istore_n 3, 1) := by decide +kernel
theorem a_X5_finishes_7 : ix_at mT_X5_finishes 7 = some (.iconst 0, 1) := by decide +kernel
theorem a_X5_finishes_8 : ix_at mT_X5_finishes 8 = some (.istore 4, 2) := by decide +kernel
theorem a_X5_finishes_10 : ix_at mT_X5_finishes 10 = some (.iload 4, 2) := by decide +kernel
theorem a_X5_finishes_12 : ix_at mT_X5_finishes 12 = some (.aload_n 0, 1) := by decide +kernel
theorem a_X5_finishes_13 : ix_at mT_X5_finishes 13 = some (.getfield 87, 3) := by decide +kernel
theorem a_X5_finishes_16 : ix_at mT_X5_finishes 16 = some (.if_icmp .ge 122, 3) := by decide +kernel
theorem a_X5_finishes_19 : ix_at mT_X5_finishes 19 = some (.iconst 0, 1) := by decide +kernel
theorem a_X5_finishes_20 : ix_at mT_X5_finishes 20 = some (.istore 5, 2) := by decide +kernel
theorem a_X5_finishes_22 : ix_at mT_X5_finishes 22 = some (.iconst 0, 1) := by decide +kernel
theorem a_X5_finishes_23 : ix_at mT_X5_finishes 23 = some (.istore 6, 2) := by decide +kernel
theorem a_X5_finishes_25 : ix_at mT_X5_finishes 25 = some (.iload 6, 2) := by decide +kernel
theorem a_X5_finishes_27 : ix_at mT_X5_finishes 27 = some (.aload_n 0, 1) := by decide +kernel
theorem a_X5_finishes_28 : ix_at mT_X5_finishes 28 = some (.getfield 106, 3) := by decide +kernel
theorem a_X5_finishes_31 : ix_at mT_X5_finishes 31 = some (.if_icmp .ge 55, 3) := by decide +kernel
theorem a_X5_finishes_34 : ix_at mT_X5_finishes 34 = some (.iload 5, 2) := by decide +kernel
theorem a_X5_finishes_36 : ix_at mT_X5_finishes 36 = some (.ifCond .ne 37, 3) := by decide +kernel
theorem a_X5_finishes_39 : ix_at mT_X5_finishes 39 = some (.aload_n 0, 1) := by decide +kernel
theorem a_X5_finishes_40 : ix_at mT_X5_finishes 40 = some (.getfield 9, 3) := by decide +kernel
theorem a_X5_finishes_43 : ix_at mT_X5_finishes 43 = some (.iload 6, 2) := by decide +kernel
theorem a_X5_finishes_45 : ix_at mT_X5_finishes 45 = some (.iaload, 1) := by decide +kernel
theorem a_X5_finishes_46 : ix_at mT_X5_finishes 46 = some (.iload 4, 2) := by decide +kernel
theorem a_X5_finishes_48 : ix_at mT_X5_finishes 48 = some (.if_icmp .ne 29, 3) := by decide +kernel
theorem a_X5_finishes_51 : ix_at mT_X5_finishes 51 = some (.aload_n 0, 1) := by decide +kernel
theorem a_X5_finishes_52 : ix_at mT_X5_finishes 52 = some (.getfield 13, 3) := by decide +kernel
theorem a_X5_finishes_55 : ix_at mT_X5_finishes 55 = some (.iload 6, 2) := by decide +kernel
theorem a_X5_finishes_57 : ix_at mT_X5_finishes 57 = some (.iaload, 1) := by decide +kernel
theorem a_X5_finishes_58 : ix_at mT_X5_finishes 58 = some (.iconst 1, 1) := by decide +kernel
theorem a_X5_finishes_59 : ix_at mT_X5_finishes 59 = some (.if_icmp .le 18, 3) := by decide +kernel
theorem a_X5_finishes_62 : ix_at mT_X5_finishes 62 = some (.aload_n 0, 1) := by decide +kernel
theorem a_X5_finishes_63 : ix_at mT_X5_finishes 63 = some (.getfield 22, 3) := by decide +kernel
theorem a_X5_finishes_66 : ix_at mT_X5_finishes 66 = some (.iload 6, 2) := by decide +kernel
theorem a_X5_finishes_68 : ix_at mT_X5_finishes 68 = some (.iaload, 1) := by decide +kernel
theorem a_X5_finishes_69 : ix_at mT_X5_finishes 69 = some (.iload_n 3, 1) := by decide +kernel
theorem a_X5_finishes_70 : ix_at mT_X5_finishes 70 = some (.if_icmp .ne 7, 3) := by decide +kernel
theorem a_X5_finishes_73 : ix_at mT_X5_finishes 73 = some (.iconst 1, 1) := by decide +kernel
theorem a_X5_finishes_74 : ix_at mT_X5_finishes 74 = some (.goto 4, 3) := by decide +kernel
theorem a_X5_finishes_77 : ix_at mT_X5_finishes 77 = some (.iconst 0, 1) := by decide +kernel
theorem a_X5_finishes_78 : ix_at mT_X5_finishes 78 = some (.istore 5, 2) := by decide +kernel
theorem a_X5_finishes_80 : ix_at mT_X5_finishes 80 = some (.iinc 6 1, 3) := by decide +kernel
theorem a_X5_finishes_83 : ix_at mT_X5_finishes 83 = some (.goto (-58), 3) := by decide +kernel
theorem a_X5_finishes_86 : ix_at mT_X5_finishes 86 = some (.aload_n 0, 1) := by decide +kernel
theorem a_X5_finishes_87 : ix_at mT_X5_finishes 87 = some (.getfield 49, 3) := by decide +kernel
theorem a_X5_finishes_90 : ix_at mT_X5_finishes 90 = some (.iload_n 1, 1) := by decide +kernel
theorem a_X5_finishes_91 : ix_at mT_X5_finishes 91 = some (.iaload, 1) := by decide +kernel
theorem a_X5_finishes_92 : ix_at mT_X5_finishes 92 = some (.iload 4, 2) := by decide +kernel
theorem a_X5_finishes_94 : ix_at mT_X5_finishes 94 = some (.ishr, 1) := by decide +kernel
theorem a_X5_finishes_95 : ix_at mT_X5_finishes 95 = some (.iconst 1, 1) := by decide +kernel
theorem a_X5_finishes_96 : ix_at mT_X5_finishes 96 = some (.iand, 1) := by decide +kernel
theorem a_X5_finishes_97 : ix_at mT_X5_finishes 97 = some (.iconst 1, 1) := by decide +kernel
theorem a_X5_finishes_98 : ix_at mT_X5_finishes 98 = some (.if_icmp .ne 34, 3) := by decide +kernel
theorem a_X5_finishes_101 : ix_at mT_X5_finishes 101 = some (.iload 5, 2) := by decide +kernel
theorem a_X5_finishes_103 : ix_at mT_X5_finishes 103 = some (.ifCond .ne 29, 3) := by decide +kernel
theorem a_X5_finishes_106 : ix_at mT_X5_finishes 106 = some (.aload_n 0, 1) := by decide +kernel
theorem a_X5_finishes_107 : ix_at mT_X5_finishes 107 = some (.iload 4, 2) := by decide +kernel
theorem a_X5_finishes_109 : ix_at mT_X5_finishes 109 = some (.iload_n 2, 1) := by decide +kernel
theorem a_X5_finishes_110 : ix_at mT_X5_finishes 110 = some (.ifCond .eq 7, 3) := by decide +kernel
theorem a_X5_finishes_113 : ix_at mT_X5_finishes 113 = some (.iconst 2, 1) := by decide +kernel
theorem a_X5_finishes_114 : ix_at mT_X5_finishes 114 = some (.goto 4, 3) := by decide +kernel
theorem a_X5_finishes_117 : ix_at mT_X5_finishes 117 = some (.iconst 3, 1) := by decide +kernel
theorem a_X5_finishes_118 : ix_at mT_X5_finishes 118 = some (.iload_n 1, 1) := by decide +kernel
theorem a_X5_finishes_119 : ix_at mT_X5_finishes 119 = some (.aload_n 0, 1) := by decide +kernel
theorem a_X5_finishes_120 : ix_at mT_X5_finishes 120 = some (.getfield 40, 3) := by decide +kernel
theorem a_X5_finishes_123 : ix_at mT_X5_finishes 123 = some (.iload_n 1, 1) := by decide +kernel
theorem a_X5_finishes_124 : ix_at mT_X5_finishes 124 = some (.iaload, 1) := by decide +kernel
theorem a_X5_finishes_125 : ix_at mT_X5_finishes 125 = some (.iload_n 3, 1) := by decide +kernel
theorem a_X5_finishes_126 : ix_at mT_X5_finishes 126 = some (.iconst 0, 1) := by decide +kernel
theorem a_X5_finishes_127 : ix_at mT_X5_finishes 127 = some (.invokevirtual 129, 3) := by decide +kernel
theorem a_X5_finishes_130 : ix_at mT_X5_finishes 130 = some (.istore 6, 2) := by decide +kernel
theorem a_X5_finishes_132 : ix_at mT_X5_finishes 132 = some (.iinc 4 1, 3) := by decide +kernel
theorem a_X5_finishes_135 : ix_at mT_X5_finishes 135 = some (.goto (-125), 3) := by decide +kernel
theorem a_X5_finishes_138 : ix_at mT_X5_finishes 138 = some (.aload_n 0, 1) := by decide +kernel
theorem a_X5_finishes_139 : ix_at mT_X5_finishes 139 = some (.aload_n 0, 1) := by decide +kernel
theorem a_X5_finishes_140 : ix_at mT_X5_finishes 140 = some (.getfield 87, 3) := by decide +kernel
theorem a_X5_finishes_143 : ix_at mT_X5_finishes 143 = some (.iconst 5, 1) := by decide +kernel
theorem a_X5_finishes_144 : ix_at mT_X5_finishes 144 = some (.iload_n 1, 1) := by decide +kernel
theorem a_X5_finishes_145 : ix_at mT_X5_finishes 145 = some (.aload_n 0, 1) := by decide +kernel
theorem a_X5_finishes_146 : ix_at mT_X5_finishes 146 = some (.getfield 40, 3) := by decide +kernel
theorem a_X5_finishes_149 : ix_at mT_X5_finishes 149 = some (.iload_n 1, 1) := by decide +kernel
theorem a_X5_finishes_150 : ix_at mT_X5_finishes 150 = some (.iaload, 1) := by decide +kernel
theorem a_X5_finishes_151 : ix_at mT_X5_finishes 151 = some (.iconst 0, 1) := by decide +kernel
theorem a_X5_finishes_152 : ix_at mT_X5_finishes 152 = some (.iload_n 3, 1) := by decide +kernel
theorem a_X5_finishes_153 : ix_at mT_X5_finishes 153 = some (.invokevirtual 129, 3) := by decide +kernel
theorem a_X5_finishes_156 : ix_at mT_X5_finishes 156 = some (.istore 4, 2) := by decide +kernel
theorem a_X5_finishes_158 : ix_at mT_X5_finishes 158 = some (.aload_n 0, 1) := by decide +kernel
theorem a_X5_finishes_159 : ix_at mT_X5_finishes 159 = some (.iload_n 1, 1) := by decide +kernel
theorem a_X5_finishes_160 : ix_at mT_X5_finishes 160 = some (.iload_n 2, 1) := by decide +kernel
theorem a_X5_finishes_161 : ix_at mT_X5_finishes 161 = some (.invokevirtual 133, 3) := by decide +kernel
theorem a_X5_finishes_164 : ix_at mT_X5_finishes 164 = some (.return_, 1) := by decide +kernel
theorem a_X5_closes_0 : ix_at mT_X5_closes 0 = some (.aload_n 0, 1) := by decide +kernel
theorem a_X5_closes_1 : ix_at mT_X5_closes 1 = some (.getfield 43, 3) := by decide +kernel
theorem a_X5_closes_4 : ix_at mT_X5_closes 4 = some (.iload_n 1, 1) := by decide +kernel
theorem a_X5_closes_5 : ix_at mT_X5_closes 5 = some (.iaload, 1) := by decide +kernel
theorem a_X5_closes_6 : ix_at mT_X5_closes 6 = some (.istore_n 3, 1) := by decide +kernel
theorem a_X5_closes_7 : ix_at mT_X5_closes 7 = some (.aload_n 0, 1) := by decide +kernel
theorem a_X5_closes_8 : ix_at mT_X5_closes 8 = some (.getfield 55, 3) := by decide +kernel
theorem a_X5_closes_11 : ix_at mT_X5_closes 11 = some (.iload_n 3, 1) := by decide +kernel
theorem a_X5_closes_12 : ix_at mT_X5_closes 12 = some (.iload_n 2, 1) := by decide +kernel
theorem a_X5_closes_13 : ix_at mT_X5_closes 13 = some (.ifCond .eq 7, 3) := by decide +kernel
theorem a_X5_closes_16 : ix_at mT_X5_closes 16 = some (.iconst 1, 1) := by decide +kernel
theorem a_X5_closes_17 : ix_at mT_X5_closes 17 = some (.goto 4, 3) := by decide +kernel
theorem a_X5_closes_20 : ix_at mT_X5_closes 20 = some (.iconst 2, 1) := by decide +kernel
theorem a_X5_closes_21 : ix_at mT_X5_closes 21 = some (.iastore, 1) := by decide +kernel
theorem a_X5_closes_22 : ix_at mT_X5_closes 22 = some (.iload_n 2, 1) := by decide +kernel
theorem a_X5_closes_23 : ix_at mT_X5_closes 23 = some (.ifCond .eq 8, 3) := by decide +kernel
theorem a_X5_closes_26 : ix_at mT_X5_closes 26 = some (.aload_n 0, 1) := by decide +kernel
theorem a_X5_closes_27 : ix_at mT_X5_closes 27 = some (.iload_n 3, 1) := by decide +kernel
theorem a_X5_closes_28 : ix_at mT_X5_closes 28 = some (.invokevirtual 137, 3) := by decide +kernel
theorem a_X5_closes_31 : ix_at mT_X5_closes 31 = some (.aload_n 0, 1) := by decide +kernel
theorem a_X5_closes_32 : ix_at mT_X5_closes 32 = some (.getfield 43, 3) := by decide +kernel
theorem a_X5_closes_35 : ix_at mT_X5_closes 35 = some (.iload_n 1, 1) := by decide +kernel
theorem a_X5_closes_36 : ix_at mT_X5_closes 36 = some (.iconst (-1), 1) := by decide +kernel
theorem a_X5_closes_37 : ix_at mT_X5_closes 37 = some (.iastore, 1) := by decide +kernel
theorem a_X5_closes_38 : ix_at mT_X5_closes 38 = some (.aload_n 0, 1) := by decide +kernel
theorem a_X5_closes_39 : ix_at mT_X5_closes 39 = some (.getfield 49, 3) := by decide +kernel
theorem a_X5_closes_42 : ix_at mT_X5_closes 42 = some (.iload_n 1, 1) := by decide +kernel
theorem a_X5_closes_43 : ix_at mT_X5_closes 43 = some (.iconst 0, 1) := by decide +kernel
theorem a_X5_closes_44 : ix_at mT_X5_closes 44 = some (.iastore, 1) := by decide +kernel
theorem a_X5_closes_45 : ix_at mT_X5_closes 45 = some (.return_, 1) := by decide +kernel
theorem a_X5_ends_0 : ix_at mT_X5_ends 0 = some (.aload_n 0, 1) := by decide +kernel
theorem a_X5_ends_1 : ix_at mT_X5_ends 1 = some (.aload_n 0, 1) := by decide +kernel
theorem a_X5_ends_2 : ix_at mT_X5_ends 2 = some (.getfield 87, 3) := by decide +kernel
theorem a_X5_ends_5 : ix_at mT_X5_ends 5 = some (.iconst 4, 1) := by decide +kernel
theorem a_X5_ends_6 : ix_at mT_X5_ends 6 = some (.iload_n 1, 1) := by decide +kernel
theorem a_X5_ends_7 : ix_at mT_X5_ends 7 = some (.aload_n 0, 1) := by decide +kernel
theorem a_X5_ends_8 : ix_at mT_X5_ends 8 = some (.getfield 40, 3) := by decide +kernel
theorem a_X5_ends_11 : ix_at mT_X5_ends 11 = some (.iload_n 1, 1) := by decide +kernel
theorem a_X5_ends_12 : ix_at mT_X5_ends 12 = some (.iaload, 1) := by decide +kernel
theorem a_X5_ends_13 : ix_at mT_X5_ends 13 = some (.iload_n 2, 1) := by decide +kernel
theorem a_X5_ends_14 : ix_at mT_X5_ends 14 = some (.ifCond .eq 7, 3) := by decide +kernel
theorem a_X5_ends_17 : ix_at mT_X5_ends 17 = some (.iconst 1, 1) := by decide +kernel
theorem a_X5_ends_18 : ix_at mT_X5_ends 18 = some (.goto 4, 3) := by decide +kernel
theorem a_X5_ends_21 : ix_at mT_X5_ends 21 = some (.iconst 0, 1) := by decide +kernel
theorem a_X5_ends_22 : ix_at mT_X5_ends 22 = some (.aload_n 0, 1) := by decide +kernel
theorem a_X5_ends_23 : ix_at mT_X5_ends 23 = some (.getfield 43, 3) := by decide +kernel
theorem a_X5_ends_26 : ix_at mT_X5_ends 26 = some (.iload_n 1, 1) := by decide +kernel
theorem a_X5_ends_27 : ix_at mT_X5_ends 27 = some (.iaload, 1) := by decide +kernel
theorem a_X5_ends_28 : ix_at mT_X5_ends 28 = some (.invokevirtual 129, 3) := by decide +kernel
theorem a_X5_ends_31 : ix_at mT_X5_ends 31 = some (.istore_n 3, 1) := by decide +kernel
theorem a_X5_ends_32 : ix_at mT_X5_ends 32 = some (.aload_n 0, 1) := by decide +kernel
theorem a_X5_ends_33 : ix_at mT_X5_ends 33 = some (.iload_n 1, 1) := by decide +kernel
theorem a_X5_ends_34 : ix_at mT_X5_ends 34 = some (.iload_n 2, 1) := by decide +kernel
theorem a_X5_ends_35 : ix_at mT_X5_ends 35 = some (.invokevirtual 141, 3) := by decide +kernel
theorem a_X5_ends_38 : ix_at mT_X5_ends 38 = some (.return_, 1) := by decide +kernel
theorem a_X5_register_0 : ix_at mT_X5_register 0 = some (.aload_n 0, 1) := by decide +kernel
theorem a_X5_register_1 : ix_at mT_X5_register 1 = some (.getfield 99, 3) := by decide +kernel
theorem a_X5_register_4 : ix_at mT_X5_register 4 = some (.ifCond .eq 5, 3) := by decide +kernel
theorem a_X5_register_7 : ix_at mT_X5_register 7 = some (.iconst (-1), 1) := by decide +kernel
theorem a_X5_register_8 : ix_at mT_X5_register 8 = some (.ireturn, 1) := by decide +kernel
theorem a_X5_register_9 : ix_at mT_X5_register 9 = some (.iload_n 1, 1) := by decide +kernel
theorem a_X5_register_10 : ix_at mT_X5_register 10 = some (.ifCond .lt 9, 3) := by decide +kernel
theorem a_X5_register_13 : ix_at mT_X5_register 13 = some (.iload_n 1, 1) := by decide +kernel
theorem a_X5_register_14 : ix_at mT_X5_register 14 = some (.bipush 31, 2) := by decide +kernel
theorem a_X5_register_16 : ix_at mT_X5_register 16 = some (.if_icmp .le 6, 3) := by decide +kernel
theorem a_X5_register_19 : ix_at mT_X5_register 19 = some (.bipush (-2), 2) := by decide +kernel
theorem a_X5_register_21 : ix_at mT_X5_register 21 = some (.ireturn, 1) := by decide +kernel
theorem a_X5_register_22 : ix_at mT_X5_register 22 = some (.aload_n 0, 1) := by decide +kernel
theorem a_X5_register_23 : ix_at mT_X5_register 23 = some (.getfield 43, 3) := by decide +kernel
theorem a_X5_register_26 : ix_at mT_X5_register 26 = some (.iload_n 1, 1) := by decide +kernel
theorem a_X5_register_27 : ix_at mT_X5_register 27 = some (.iaload, 1) := by decide +kernel
theorem a_X5_register_28 : ix_at mT_X5_register 28 = some (.iconst (-1), 1) := by decide +kernel
theorem a_X5_register_29 : ix_at mT_X5_register 29 = some (.if_icmp .eq 12, 3) := by decide +kernel
theorem a_X5_register_32 : ix_at mT_X5_register 32 = some (.aload_n 0, 1) := by decide +kernel
theorem a_X5_register_33 : ix_at mT_X5_register 33 = some (.iload_n 1, 1) := by decide +kernel
theorem a_X5_register_34 : ix_at mT_X5_register 34 = some (.iconst 0, 1) := by decide +kernel
theorem a_X5_register_35 : ix_at mT_X5_register 35 = some (.invokevirtual 144, 3) := by decide +kernel
theorem a_X5_register_38 : ix_at mT_X5_register 38 = some (.goto 19, 3) := by decide +kernel
theorem a_X5_register_41 : ix_at mT_X5_register 41 = some (.aload_n 0, 1) := by decide +kernel
theorem a_X5_register_42 : ix_at mT_X5_register 42 = some (.bipush 16, 2) := by decide +kernel
theorem a_X5_register_44 : ix_at mT_X5_register 44 = some (.aload_n 0, 1) := by decide +kernel
theorem a_X5_register_45 : ix_at mT_X5_register 45 = some (.invokevirtual 147, 3) := by decide +kernel
theorem a_X5_register_48 : ix_at mT_X5_register 48 = some (.invokevirtual 151, 3) := by decide +kernel
theorem a_X5_register_51 : ix_at mT_X5_register 51 = some (.ifCond .ne 6, 3) := by decide +kernel
theorem a_X5_register_54 : ix_at mT_X5_register 54 = some (.bipush (-8), 2) := by decide +kernel
theorem a_X5_register_56 : ix_at mT_X5_register 56 = some (.ireturn, 1) := by decide +kernel
theorem a_X5_register_57 : ix_at mT_X5_register 57 = some (.aload_n 0, 1) := by decide +kernel
theorem a_X5_register_58 : ix_at mT_X5_register 58 = some (.iload_n 1, 1) := by decide +kernel
theorem a_X5_register_59 : ix_at mT_X5_register 59 = some (.invokevirtual 155, 3) := by decide +kernel
theorem a_X5_register_62 : ix_at mT_X5_register 62 = some (.aload_n 0, 1) := by decide +kernel
theorem a_X5_register_63 : ix_at mT_X5_register 63 = some (.getfield 40, 3) := by decide +kernel
theorem a_X5_register_66 : ix_at mT_X5_register 66 = some (.iload_n 1, 1) := by decide +kernel
theorem a_X5_register_67 : ix_at mT_X5_register 67 = some (.iaload, 1) := by decide +kernel
theorem a_X5_register_68 : ix_at mT_X5_register 68 = some (.ireturn, 1) := by decide +kernel
theorem a_X5_begins_0 : ix_at mT_X5_begins 0 = some (.aload_n 0, 1) := by decide +kernel
theorem a_X5_begins_1 : ix_at mT_X5_begins 1 = some (.getfield 43, 3) := by decide +kernel
theorem a_X5_begins_4 : ix_at mT_X5_begins 4 = some (.iload_n 1, 1) := by decide +kernel
theorem a_X5_begins_5 : ix_at mT_X5_begins 5 = some (.iload_n 2, 1) := by decide +kernel
theorem a_X5_begins_6 : ix_at mT_X5_begins 6 = some (.iastore, 1) := by decide +kernel
theorem a_X5_begins_7 : ix_at mT_X5_begins 7 = some (.aload_n 0, 1) := by decide +kernel
theorem a_X5_begins_8 : ix_at mT_X5_begins 8 = some (.getfield 46, 3) := by decide +kernel
theorem a_X5_begins_11 : ix_at mT_X5_begins 11 = some (.iload_n 1, 1) := by decide +kernel
theorem a_X5_begins_12 : ix_at mT_X5_begins 12 = some (.iload_n 3, 1) := by decide +kernel
theorem a_X5_begins_13 : ix_at mT_X5_begins 13 = some (.iastore, 1) := by decide +kernel
theorem a_X5_begins_14 : ix_at mT_X5_begins 14 = some (.aload_n 0, 1) := by decide +kernel
theorem a_X5_begins_15 : ix_at mT_X5_begins 15 = some (.getfield 49, 3) := by decide +kernel
theorem a_X5_begins_18 : ix_at mT_X5_begins 18 = some (.iload_n 1, 1) := by decide +kernel
theorem a_X5_begins_19 : ix_at mT_X5_begins 19 = some (.iconst 0, 1) := by decide +kernel
theorem a_X5_begins_20 : ix_at mT_X5_begins 20 = some (.iastore, 1) := by decide +kernel
theorem a_X5_begins_21 : ix_at mT_X5_begins 21 = some (.aload_n 0, 1) := by decide +kernel
theorem a_X5_begins_22 : ix_at mT_X5_begins 22 = some (.getfield 55, 3) := by decide +kernel
theorem a_X5_begins_25 : ix_at mT_X5_begins 25 = some (.iload_n 2, 1) := by decide +kernel
theorem a_X5_begins_26 : ix_at mT_X5_begins 26 = some (.iconst 0, 1) := by decide +kernel
theorem a_X5_begins_27 : ix_at mT_X5_begins 27 = some (.iastore, 1) := by decide +kernel
theorem a_X5_begins_28 : ix_at mT_X5_begins 28 = some (.aload_n 0, 1) := by decide +kernel
theorem a_X5_begins_29 : ix_at mT_X5_begins 29 = some (.iload_n 2, 1) := by decide +kernel
theorem a_X5_begins_30 : ix_at mT_X5_begins 30 = some (.iconst 1, 1) := by decide +kernel
theorem a_X5_begins_31 : ix_at mT_X5_begins 31 = some (.iadd, 1) := by decide +kernel
theorem a_X5_begins_32 : ix_at mT_X5_begins 32 = some (.putfield 80, 3) := by decide +kernel
theorem a_X5_begins_35 : ix_at mT_X5_begins 35 = some (.return_, 1) := by decide +kernel
theorem a_X5_begin_0 : ix_at mT_X5_begin 0 = some (.aload_n 0, 1) := by decide +kernel
theorem a_X5_begin_1 : ix_at mT_X5_begin 1 = some (.iload_n 1, 1) := by decide +kernel
theorem a_X5_begin_2 : ix_at mT_X5_begin 2 = some (.iload_n 2, 1) := by decide +kernel
theorem a_X5_begin_3 : ix_at mT_X5_begin 3 = some (.invokevirtual 158, 3) := by decide +kernel
theorem a_X5_begin_6 : ix_at mT_X5_begin 6 = some (.istore_n 3, 1) := by decide +kernel
theorem a_X5_begin_7 : ix_at mT_X5_begin 7 = some (.iload_n 3, 1) := by decide +kernel
theorem a_X5_begin_8 : ix_at mT_X5_begin 8 = some (.ifCond .eq 5, 3) := by decide +kernel
theorem a_X5_begin_11 : ix_at mT_X5_begin 11 = some (.iload_n 3, 1) := by decide +kernel
theorem a_X5_begin_12 : ix_at mT_X5_begin 12 = some (.ireturn, 1) := by decide +kernel
theorem a_X5_begin_13 : ix_at mT_X5_begin 13 = some (.aload_n 0, 1) := by decide +kernel
theorem a_X5_begin_14 : ix_at mT_X5_begin 14 = some (.getfield 43, 3) := by decide +kernel
theorem a_X5_begin_17 : ix_at mT_X5_begin 17 = some (.iload_n 1, 1) := by decide +kernel
theorem a_X5_begin_18 : ix_at mT_X5_begin 18 = some (.iaload, 1) := by decide +kernel
theorem a_X5_begin_19 : ix_at mT_X5_begin 19 = some (.iconst (-1), 1) := by decide +kernel
theorem a_X5_begin_20 : ix_at mT_X5_begin 20 = some (.if_icmp .eq 6, 3) := by decide +kernel
theorem a_X5_begin_23 : ix_at mT_X5_begin 23 = some (.bipush (-4), 2) := by decide +kernel
theorem a_X5_begin_25 : ix_at mT_X5_begin 25 = some (.ireturn, 1) := by decide +kernel
theorem a_X5_begin_26 : ix_at mT_X5_begin 26 = some (.aload_n 0, 1) := by decide +kernel
theorem a_X5_begin_27 : ix_at mT_X5_begin 27 = some (.bipush 16, 2) := by decide +kernel
theorem a_X5_begin_29 : ix_at mT_X5_begin 29 = some (.aload_n 0, 1) := by decide +kernel
theorem a_X5_begin_30 : ix_at mT_X5_begin 30 = some (.invokevirtual 147, 3) := by decide +kernel
theorem a_X5_begin_33 : ix_at mT_X5_begin 33 = some (.iconst 1, 1) := by decide +kernel
theorem a_X5_begin_34 : ix_at mT_X5_begin 34 = some (.iadd, 1) := by decide +kernel
theorem a_X5_begin_35 : ix_at mT_X5_begin 35 = some (.invokevirtual 151, 3) := by decide +kernel
theorem a_X5_begin_38 : ix_at mT_X5_begin 38 = some (.ifCond .ne 6, 3) := by decide +kernel
theorem a_X5_begin_41 : ix_at mT_X5_begin 41 = some (.bipush (-8), 2) := by decide +kernel
theorem a_X5_begin_43 : ix_at mT_X5_begin 43 = some (.ireturn, 1) := by decide +kernel
theorem a_X5_begin_44 : ix_at mT_X5_begin 44 = some (.aload_n 0, 1) := by decide +kernel
theorem a_X5_begin_45 : ix_at mT_X5_begin 45 = some (.aload_n 0, 1) := by decide +kernel
theorem a_X5_begin_46 : ix_at mT_X5_begin 46 = some (.getfield 87, 3) := by decide +kernel
theorem a_X5_begin_49 : ix_at mT_X5_begin 49 = some (.iconst 1, 1) := by decide +kernel
theorem a_X5_begin_50 : ix_at mT_X5_begin 50 = some (.iload_n 1, 1) := by decide +kernel
theorem a_X5_begin_51 : ix_at mT_X5_begin 51 = some (.iload_n 2, 1) := by decide +kernel
theorem a_X5_begin_52 : ix_at mT_X5_begin 52 = some (.aload_n 0, 1) := by decide +kernel
theorem a_X5_begin_53 : ix_at mT_X5_begin 53 = some (.getfield 96, 3) := by decide +kernel
theorem a_X5_begin_56 : ix_at mT_X5_begin 56 = some (.aload_n 0, 1) := by decide +kernel
theorem a_X5_begin_57 : ix_at mT_X5_begin 57 = some (.getfield 80, 3) := by decide +kernel
theorem a_X5_begin_60 : ix_at mT_X5_begin 60 = some (.invokevirtual 129, 3) := by decide +kernel
theorem a_X5_begin_63 : ix_at mT_X5_begin 63 = some (.istore 4, 2) := by decide +kernel
theorem a_X5_begin_65 : ix_at mT_X5_begin 65 = some (.aload_n 0, 1) := by decide +kernel
theorem a_X5_begin_66 : ix_at mT_X5_begin 66 = some (.iload_n 1, 1) := by decide +kernel
theorem a_X5_begin_67 : ix_at mT_X5_begin 67 = some (.aload_n 0, 1) := by decide +kernel
theorem a_X5_begin_68 : ix_at mT_X5_begin 68 = some (.getfield 80, 3) := by decide +kernel
theorem a_X5_begin_71 : ix_at mT_X5_begin 71 = some (.aload_n 0, 1) := by decide +kernel
theorem a_X5_begin_72 : ix_at mT_X5_begin 72 = some (.getfield 96, 3) := by decide +kernel
theorem a_X5_begin_75 : ix_at mT_X5_begin 75 = some (.invokevirtual 161, 3) := by decide +kernel
theorem a_X5_begin_78 : ix_at mT_X5_begin 78 = some (.aload_n 0, 1) := by decide +kernel
theorem a_X5_begin_79 : ix_at mT_X5_begin 79 = some (.getfield 43, 3) := by decide +kernel
theorem a_X5_begin_82 : ix_at mT_X5_begin 82 = some (.iload_n 1, 1) := by decide +kernel
theorem a_X5_begin_83 : ix_at mT_X5_begin 83 = some (.iaload, 1) := by decide +kernel
theorem a_X5_begin_84 : ix_at mT_X5_begin 84 = some (.ireturn, 1) := by decide +kernel
theorem a_X5_offsetOf_0 : ix_at mT_X5_offsetOf 0 = some (.iconst 0, 1) := by decide +kernel
theorem a_X5_offsetOf_1 : ix_at mT_X5_offsetOf 1 = some (.istore_n 2, 1) := by decide +kernel
theorem a_X5_offsetOf_2 : ix_at mT_X5_offsetOf 2 = some (.iconst 0, 1) := by decide +kernel
theorem a_X5_offsetOf_3 : ix_at mT_X5_offsetOf 3 = some (.istore_n 3, 1) := by decide +kernel
theorem a_X5_offsetOf_4 : ix_at mT_X5_offsetOf 4 = some (.iload_n 3, 1) := by decide +kernel
theorem a_X5_offsetOf_5 : ix_at mT_X5_offsetOf 5 = some (.iload_n 1, 1) := by decide +kernel
theorem a_X5_offsetOf_6 : ix_at mT_X5_offsetOf 6 = some (.if_icmp .ge 32, 3) := by decide +kernel
theorem a_X5_offsetOf_9 : ix_at mT_X5_offsetOf 9 = some (.iload_n 2, 1) := by decide +kernel
theorem a_X5_offsetOf_10 : ix_at mT_X5_offsetOf 10 = some (.aload_n 0, 1) := by decide +kernel
theorem a_X5_offsetOf_11 : ix_at mT_X5_offsetOf 11 = some (.getfield 9, 3) := by decide +kernel
theorem a_X5_offsetOf_14 : ix_at mT_X5_offsetOf 14 = some (.iload_n 3, 1) := by decide +kernel
theorem a_X5_offsetOf_15 : ix_at mT_X5_offsetOf 15 = some (.iaload, 1) := by decide +kernel
theorem a_X5_offsetOf_16 : ix_at mT_X5_offsetOf 16 = some (.aload_n 0, 1) := by decide +kernel
theorem a_X5_offsetOf_17 : ix_at mT_X5_offsetOf 17 = some (.getfield 9, 3) := by decide +kernel
theorem a_X5_offsetOf_20 : ix_at mT_X5_offsetOf 20 = some (.iload_n 1, 1) := by decide +kernel
theorem a_X5_offsetOf_21 : ix_at mT_X5_offsetOf 21 = some (.iaload, 1) := by decide +kernel
theorem a_X5_offsetOf_22 : ix_at mT_X5_offsetOf 22 = some (.if_icmp .ne 7, 3) := by decide +kernel
theorem a_X5_offsetOf_25 : ix_at mT_X5_offsetOf 25 = some (.iconst 1, 1) := by decide +kernel
theorem a_X5_offsetOf_26 : ix_at mT_X5_offsetOf 26 = some (.goto 4, 3) := by decide +kernel
theorem a_X5_offsetOf_29 : ix_at mT_X5_offsetOf 29 = some (.iconst 0, 1) := by decide +kernel
theorem a_X5_offsetOf_30 : ix_at mT_X5_offsetOf 30 = some (.iadd, 1) := by decide +kernel
theorem a_X5_offsetOf_31 : ix_at mT_X5_offsetOf 31 = some (.istore_n 2, 1) := by decide +kernel
theorem a_X5_offsetOf_32 : ix_at mT_X5_offsetOf 32 = some (.iinc 3 1, 3) := by decide +kernel
theorem a_X5_offsetOf_35 : ix_at mT_X5_offsetOf 35 = some (.goto (-31), 3) := by decide +kernel
theorem a_X5_offsetOf_38 : ix_at mT_X5_offsetOf 38 = some (.iload_n 2, 1) := by decide +kernel
theorem a_X5_offsetOf_39 : ix_at mT_X5_offsetOf 39 = some (.ireturn, 1) := by decide +kernel
theorem a_X5_nextOf_0 : ix_at mT_X5_nextOf 0 = some (.aload_n 0, 1) := by decide +kernel
theorem a_X5_nextOf_1 : ix_at mT_X5_nextOf 1 = some (.getfield 106, 3) := by decide +kernel
theorem a_X5_nextOf_4 : ix_at mT_X5_nextOf 4 = some (.iconst 1, 1) := by decide +kernel
theorem a_X5_nextOf_5 : ix_at mT_X5_nextOf 5 = some (.isub, 1) := by decide +kernel
theorem a_X5_nextOf_6 : ix_at mT_X5_nextOf 6 = some (.istore_n 3, 1) := by decide +kernel
theorem a_X5_nextOf_7 : ix_at mT_X5_nextOf 7 = some (.iload_n 3, 1) := by decide +kernel
theorem a_X5_nextOf_8 : ix_at mT_X5_nextOf 8 = some (.ifCond .lt 63, 3) := by decide +kernel
theorem a_X5_nextOf_11 : ix_at mT_X5_nextOf 11 = some (.aload_n 0, 1) := by decide +kernel
theorem a_X5_nextOf_12 : ix_at mT_X5_nextOf 12 = some (.getfield 9, 3) := by decide +kernel
theorem a_X5_nextOf_15 : ix_at mT_X5_nextOf 15 = some (.iload_n 3, 1) := by decide +kernel
theorem a_X5_nextOf_16 : ix_at mT_X5_nextOf 16 = some (.iaload, 1) := by decide +kernel
theorem a_X5_nextOf_17 : ix_at mT_X5_nextOf 17 = some (.iload_n 2, 1) := by decide +kernel
theorem a_X5_nextOf_18 : ix_at mT_X5_nextOf 18 = some (.if_icmp .ne 47, 3) := by decide +kernel
theorem a_X5_nextOf_21 : ix_at mT_X5_nextOf 21 = some (.aload_n 0, 1) := by decide +kernel
theorem a_X5_nextOf_22 : ix_at mT_X5_nextOf 22 = some (.getfield 13, 3) := by decide +kernel
theorem a_X5_nextOf_25 : ix_at mT_X5_nextOf 25 = some (.iload_n 3, 1) := by decide +kernel
theorem a_X5_nextOf_26 : ix_at mT_X5_nextOf 26 = some (.iaload, 1) := by decide +kernel
theorem a_X5_nextOf_27 : ix_at mT_X5_nextOf 27 = some (.iconst 1, 1) := by decide +kernel
theorem a_X5_nextOf_28 : ix_at mT_X5_nextOf 28 = some (.if_icmp .gt 37, 3) := by decide +kernel
theorem a_X5_nextOf_31 : ix_at mT_X5_nextOf 31 = some (.aload_n 0, 1) := by decide +kernel
theorem a_X5_nextOf_32 : ix_at mT_X5_nextOf 32 = some (.getfield 16, 3) := by decide +kernel
theorem a_X5_nextOf_35 : ix_at mT_X5_nextOf 35 = some (.iload_n 3, 1) := by decide +kernel
theorem a_X5_nextOf_36 : ix_at mT_X5_nextOf 36 = some (.iaload, 1) := by decide +kernel
theorem a_X5_nextOf_37 : ix_at mT_X5_nextOf 37 = some (.iload_n 1, 1) := by decide +kernel
theorem a_X5_nextOf_38 : ix_at mT_X5_nextOf 38 = some (.if_icmp .ne 27, 3) := by decide +kernel
theorem a_X5_nextOf_41 : ix_at mT_X5_nextOf 41 = some (.aload_n 0, 1) := by decide +kernel
theorem a_X5_nextOf_42 : ix_at mT_X5_nextOf 42 = some (.getfield 19, 3) := by decide +kernel
theorem a_X5_nextOf_45 : ix_at mT_X5_nextOf 45 = some (.iload_n 3, 1) := by decide +kernel
theorem a_X5_nextOf_46 : ix_at mT_X5_nextOf 46 = some (.iaload, 1) := by decide +kernel
theorem a_X5_nextOf_47 : ix_at mT_X5_nextOf 47 = some (.aload_n 0, 1) := by decide +kernel
theorem a_X5_nextOf_48 : ix_at mT_X5_nextOf 48 = some (.getfield 40, 3) := by decide +kernel
theorem a_X5_nextOf_51 : ix_at mT_X5_nextOf 51 = some (.iload_n 1, 1) := by decide +kernel
theorem a_X5_nextOf_52 : ix_at mT_X5_nextOf 52 = some (.iaload, 1) := by decide +kernel
theorem a_X5_nextOf_53 : ix_at mT_X5_nextOf 53 = some (.if_icmp .ne 12, 3) := by decide +kernel
theorem a_X5_nextOf_56 : ix_at mT_X5_nextOf 56 = some (.aload_n 0, 1) := by decide +kernel
theorem a_X5_nextOf_57 : ix_at mT_X5_nextOf 57 = some (.getfield 22, 3) := by decide +kernel
theorem a_X5_nextOf_60 : ix_at mT_X5_nextOf 60 = some (.iload_n 3, 1) := by decide +kernel
theorem a_X5_nextOf_61 : ix_at mT_X5_nextOf 61 = some (.iaload, 1) := by decide +kernel
theorem a_X5_nextOf_62 : ix_at mT_X5_nextOf 62 = some (.iconst 1, 1) := by decide +kernel
theorem a_X5_nextOf_63 : ix_at mT_X5_nextOf 63 = some (.iadd, 1) := by decide +kernel
theorem a_X5_nextOf_64 : ix_at mT_X5_nextOf 64 = some (.ireturn, 1) := by decide +kernel
theorem a_X5_nextOf_65 : ix_at mT_X5_nextOf 65 = some (.iinc 3 (-1), 3) := by decide +kernel
theorem a_X5_nextOf_68 : ix_at mT_X5_nextOf 68 = some (.goto (-61), 3) := by decide +kernel
theorem a_X5_nextOf_71 : ix_at mT_X5_nextOf 71 = some (.iconst 0, 1) := by decide +kernel
theorem a_X5_nextOf_72 : ix_at mT_X5_nextOf 72 = some (.ireturn, 1) := by decide +kernel
theorem a_X5_again_0 : ix_at mT_X5_again 0 = some (.iconst 5, 1) := by decide +kernel
theorem a_X5_again_1 : ix_at mT_X5_again 1 = some (.istore 4, 2) := by decide +kernel
theorem a_X5_again_3 : ix_at mT_X5_again 3 = some (.aload_n 0, 1) := by decide +kernel
theorem a_X5_again_4 : ix_at mT_X5_again 4 = some (.getfield 106, 3) := by decide +kernel
theorem a_X5_again_7 : ix_at mT_X5_again 7 = some (.iconst 1, 1) := by decide +kernel
theorem a_X5_again_8 : ix_at mT_X5_again 8 = some (.isub, 1) := by decide +kernel
theorem a_X5_again_9 : ix_at mT_X5_again 9 = some (.istore 5, 2) := by decide +kernel
theorem a_X5_again_11 : ix_at mT_X5_again 11 = some (.iload 5, 2) := by decide +kernel
theorem a_X5_again_13 : ix_at mT_X5_again 13 = some (.ifCond .lt 84, 3) := by decide +kernel
theorem a_X5_again_16 : ix_at mT_X5_again 16 = some (.iload 4, 2) := by decide +kernel
theorem a_X5_again_18 : ix_at mT_X5_again 18 = some (.ifCond .le 79, 3) := by decide +kernel
theorem a_X5_again_21 : ix_at mT_X5_again 21 = some (.aload_n 0, 1) := by decide +kernel
theorem a_X5_again_22 : ix_at mT_X5_again 22 = some (.getfield 9, 3) := by decide +kernel
theorem a_X5_again_25 : ix_at mT_X5_again 25 = some (.iload 5, 2) := by decide +kernel
theorem a_X5_again_27 : ix_at mT_X5_again 27 = some (.iaload, 1) := by decide +kernel
theorem a_X5_again_28 : ix_at mT_X5_again 28 = some (.iload_n 2, 1) := by decide +kernel
theorem a_X5_again_29 : ix_at mT_X5_again 29 = some (.if_icmp .ne 62, 3) := by decide +kernel
theorem a_X5_again_32 : ix_at mT_X5_again 32 = some (.aload_n 0, 1) := by decide +kernel
theorem a_X5_again_33 : ix_at mT_X5_again 33 = some (.getfield 13, 3) := by decide +kernel
theorem a_X5_again_36 : ix_at mT_X5_again 36 = some (.iload 5, 2) := by decide +kernel
theorem a_X5_again_38 : ix_at mT_X5_again 38 = some (.iaload, 1) := by decide +kernel
theorem a_X5_again_39 : ix_at mT_X5_again 39 = some (.iconst 1, 1) := by decide +kernel
theorem a_X5_again_40 : ix_at mT_X5_again 40 = some (.if_icmp .gt 51, 3) := by decide +kernel
theorem a_X5_again_43 : ix_at mT_X5_again 43 = some (.aload_n 0, 1) := by decide +kernel
theorem a_X5_again_44 : ix_at mT_X5_again 44 = some (.getfield 16, 3) := by decide +kernel
theorem a_X5_again_47 : ix_at mT_X5_again 47 = some (.iload 5, 2) := by decide +kernel
theorem a_X5_again_49 : ix_at mT_X5_again 49 = some (.iaload, 1) := by decide +kernel
theorem a_X5_again_50 : ix_at mT_X5_again 50 = some (.iload_n 1, 1) := by decide +kernel
theorem a_X5_again_51 : ix_at mT_X5_again 51 = some (.if_icmp .ne 40, 3) := by decide +kernel
theorem a_X5_again_54 : ix_at mT_X5_again 54 = some (.aload_n 0, 1) := by decide +kernel
theorem a_X5_again_55 : ix_at mT_X5_again 55 = some (.getfield 19, 3) := by decide +kernel
theorem a_X5_again_58 : ix_at mT_X5_again 58 = some (.iload 5, 2) := by decide +kernel
theorem a_X5_again_60 : ix_at mT_X5_again 60 = some (.iaload, 1) := by decide +kernel
theorem a_X5_again_61 : ix_at mT_X5_again 61 = some (.aload_n 0, 1) := by decide +kernel
theorem a_X5_again_62 : ix_at mT_X5_again 62 = some (.getfield 40, 3) := by decide +kernel
theorem a_X5_again_65 : ix_at mT_X5_again 65 = some (.iload_n 1, 1) := by decide +kernel
theorem a_X5_again_66 : ix_at mT_X5_again 66 = some (.iaload, 1) := by decide +kernel
theorem a_X5_again_67 : ix_at mT_X5_again 67 = some (.if_icmp .ne 24, 3) := by decide +kernel
theorem a_X5_again_70 : ix_at mT_X5_again 70 = some (.aload_n 0, 1) := by decide +kernel
theorem a_X5_again_71 : ix_at mT_X5_again 71 = some (.getfield 22, 3) := by decide +kernel
theorem a_X5_again_74 : ix_at mT_X5_again 74 = some (.iload 5, 2) := by decide +kernel
theorem a_X5_again_76 : ix_at mT_X5_again 76 = some (.iaload, 1) := by decide +kernel
theorem a_X5_again_77 : ix_at mT_X5_again 77 = some (.iload_n 3, 1) := by decide +kernel
theorem a_X5_again_78 : ix_at mT_X5_again 78 = some (.if_icmp .ne 10, 3) := by decide +kernel
theorem a_X5_again_81 : ix_at mT_X5_again 81 = some (.aload_n 0, 1) := by decide +kernel
theorem a_X5_again_82 : ix_at mT_X5_again 82 = some (.iload 5, 2) := by decide +kernel
theorem a_X5_again_84 : ix_at mT_X5_again 84 = some (.invokevirtual 165, 3) := by decide +kernel
theorem a_X5_again_87 : ix_at mT_X5_again 87 = some (.ireturn, 1) := by decide +kernel
theorem a_X5_again_88 : ix_at mT_X5_again 88 = some (.iinc 4 (-1), 3) := by decide +kernel
theorem a_X5_again_91 : ix_at mT_X5_again 91 = some (.iinc 5 (-1), 3) := by decide +kernel
theorem a_X5_again_94 : ix_at mT_X5_again 94 = some (.goto (-83), 3) := by decide +kernel
theorem a_X5_again_97 : ix_at mT_X5_again 97 = some (.iconst (-1), 1) := by decide +kernel
theorem a_X5_again_98 : ix_at mT_X5_again 98 = some (.ireturn, 1) := by decide +kernel
theorem a_X5_send_0 : ix_at mT_X5_send 0 = some (.aload_n 0, 1) := by decide +kernel
theorem a_X5_send_1 : ix_at mT_X5_send 1 = some (.getfield 168, 3) := by decide +kernel
theorem a_X5_send_4 : ix_at mT_X5_send 4 = some (.istore 6, 2) := by decide +kernel
theorem a_X5_send_6 : ix_at mT_X5_send 6 = some (.aload_n 0, 1) := by decide +kernel
theorem a_X5_send_7 : ix_at mT_X5_send 7 = some (.iconst 0, 1) := by decide +kernel
theorem a_X5_send_8 : ix_at mT_X5_send 8 = some (.putfield 168, 3) := by decide +kernel
theorem a_X5_send_11 : ix_at mT_X5_send 11 = some (.aload_n 0, 1) := by decide +kernel
theorem a_X5_send_12 : ix_at mT_X5_send 12 = some (.getfield 99, 3) := by decide +kernel
theorem a_X5_send_15 : ix_at mT_X5_send 15 = some (.ifCond .eq 5, 3) := by decide +kernel
theorem a_X5_send_18 : ix_at mT_X5_send 18 = some (.iconst (-1), 1) := by decide +kernel
theorem a_X5_send_19 : ix_at mT_X5_send 19 = some (.ireturn, 1) := by decide +kernel
theorem a_X5_send_20 : ix_at mT_X5_send 20 = some (.iload_n 1, 1) := by decide +kernel
theorem a_X5_send_21 : ix_at mT_X5_send 21 = some (.ifCond .lt 30, 3) := by decide +kernel
theorem a_X5_send_24 : ix_at mT_X5_send 24 = some (.iload_n 1, 1) := by decide +kernel
theorem a_X5_send_25 : ix_at mT_X5_send 25 = some (.bipush 31, 2) := by decide +kernel
theorem a_X5_send_27 : ix_at mT_X5_send 27 = some (.if_icmp .gt 24, 3) := by decide +kernel
theorem a_X5_send_30 : ix_at mT_X5_send 30 = some (.aload_n 0, 1) := by decide +kernel
theorem a_X5_send_31 : ix_at mT_X5_send 31 = some (.getfield 36, 3) := by decide +kernel
theorem a_X5_send_34 : ix_at mT_X5_send 34 = some (.iload_n 1, 1) := by decide +kernel
theorem a_X5_send_35 : ix_at mT_X5_send 35 = some (.baload, 1) := by decide +kernel
theorem a_X5_send_36 : ix_at mT_X5_send 36 = some (.ifCond .eq 15, 3) := by decide +kernel
theorem a_X5_send_39 : ix_at mT_X5_send 39 = some (.iload_n 3, 1) := by decide +kernel
theorem a_X5_send_40 : ix_at mT_X5_send 40 = some (.ifCond .lt 11, 3) := by decide +kernel
theorem a_X5_send_43 : ix_at mT_X5_send 43 = some (.iload_n 3, 1) := by decide +kernel
theorem a_X5_send_44 : ix_at mT_X5_send 44 = some (.aload_n 0, 1) := by decide +kernel
theorem a_X5_send_45 : ix_at mT_X5_send 45 = some (.getfield 87, 3) := by decide +kernel
theorem a_X5_send_48 : ix_at mT_X5_send 48 = some (.if_icmp .lt 6, 3) := by decide +kernel
theorem a_X5_send_51 : ix_at mT_X5_send 51 = some (.bipush (-2), 2) := by decide +kernel
theorem a_X5_send_53 : ix_at mT_X5_send 53 = some (.ireturn, 1) := by decide +kernel
theorem a_X5_send_54 : ix_at mT_X5_send 54 = some (.aload_n 0, 1) := by decide +kernel
theorem a_X5_send_55 : ix_at mT_X5_send 55 = some (.getfield 40, 3) := by decide +kernel
theorem a_X5_send_58 : ix_at mT_X5_send 58 = some (.iload_n 1, 1) := by decide +kernel
theorem a_X5_send_59 : ix_at mT_X5_send 59 = some (.iaload, 1) := by decide +kernel
theorem a_X5_send_60 : ix_at mT_X5_send 60 = some (.iload_n 2, 1) := by decide +kernel
theorem a_X5_send_61 : ix_at mT_X5_send 61 = some (.if_icmp .eq 6, 3) := by decide +kernel
theorem a_X5_send_64 : ix_at mT_X5_send 64 = some (.bipush (-3), 2) := by decide +kernel
theorem a_X5_send_66 : ix_at mT_X5_send 66 = some (.ireturn, 1) := by decide +kernel
theorem a_X5_send_67 : ix_at mT_X5_send 67 = some (.iload 5, 2) := by decide +kernel
theorem a_X5_send_69 : ix_at mT_X5_send 69 = some (.aload_n 0, 1) := by decide +kernel
theorem a_X5_send_70 : ix_at mT_X5_send 70 = some (.getfield 43, 3) := by decide +kernel
theorem a_X5_send_73 : ix_at mT_X5_send 73 = some (.iload_n 1, 1) := by decide +kernel
theorem a_X5_send_74 : ix_at mT_X5_send 74 = some (.iaload, 1) := by decide +kernel
theorem a_X5_send_75 : ix_at mT_X5_send 75 = some (.iconst (-1), 1) := by decide +kernel
theorem a_X5_send_76 : ix_at mT_X5_send 76 = some (.if_icmp .ne 7, 3) := by decide +kernel
theorem a_X5_send_79 : ix_at mT_X5_send 79 = some (.iconst 1, 1) := by decide +kernel
theorem a_X5_send_80 : ix_at mT_X5_send 80 = some (.goto 4, 3) := by decide +kernel
theorem a_X5_send_83 : ix_at mT_X5_send 83 = some (.iconst 0, 1) := by decide +kernel
theorem a_X5_send_84 : ix_at mT_X5_send 84 = some (.if_icmp .ne 6, 3) := by decide +kernel
theorem a_X5_send_87 : ix_at mT_X5_send 87 = some (.bipush (-5), 2) := by decide +kernel
theorem a_X5_send_89 : ix_at mT_X5_send 89 = some (.ireturn, 1) := by decide +kernel
theorem a_X5_send_90 : ix_at mT_X5_send 90 = some (.aload_n 0, 1) := by decide +kernel
theorem a_X5_send_91 : ix_at mT_X5_send 91 = some (.iload_n 1, 1) := by decide +kernel
theorem a_X5_send_92 : ix_at mT_X5_send 92 = some (.iload_n 3, 1) := by decide +kernel
theorem a_X5_send_93 : ix_at mT_X5_send 93 = some (.iload 4, 2) := by decide +kernel
theorem a_X5_send_95 : ix_at mT_X5_send 95 = some (.invokevirtual 171, 3) := by decide +kernel
theorem a_X5_send_98 : ix_at mT_X5_send 98 = some (.istore 7, 2) := by decide +kernel
theorem a_X5_send_100 : ix_at mT_X5_send 100 = some (.iload 7, 2) := by decide +kernel
theorem a_X5_send_102 : ix_at mT_X5_send 102 = some (.iconst (-1), 1) := by decide +kernel
theorem a_X5_send_103 : ix_at mT_X5_send 103 = some (.if_icmp .eq 6, 3) := by decide +kernel
theorem a_X5_send_106 : ix_at mT_X5_send 106 = some (.iload 7, 2) := by decide +kernel
theorem a_X5_send_108 : ix_at mT_X5_send 108 = some (.ireturn, 1) := by decide +kernel
theorem a_X5_send_109 : ix_at mT_X5_send 109 = some (.iload 4, 2) := by decide +kernel
theorem a_X5_send_111 : ix_at mT_X5_send 111 = some (.aload_n 0, 1) := by decide +kernel
theorem a_X5_send_112 : ix_at mT_X5_send 112 = some (.iload_n 1, 1) := by decide +kernel
theorem a_X5_send_113 : ix_at mT_X5_send 113 = some (.iload_n 3, 1) := by decide +kernel
theorem a_X5_send_114 : ix_at mT_X5_send 114 = some (.invokevirtual 175, 3) := by decide +kernel
theorem a_X5_send_117 : ix_at mT_X5_send 117 = some (.if_icmp .eq 6, 3) := by decide +kernel
theorem a_X5_send_120 : ix_at mT_X5_send 120 = some (.bipush (-6), 2) := by decide +kernel
theorem a_X5_send_122 : ix_at mT_X5_send 122 = some (.ireturn, 1) := by decide +kernel
theorem a_X5_send_123 : ix_at mT_X5_send 123 = some (.iload 5, 2) := by decide +kernel
theorem a_X5_send_125 : ix_at mT_X5_send 125 = some (.ifCond .eq 20, 3) := by decide +kernel
theorem a_X5_send_128 : ix_at mT_X5_send 128 = some (.aload_n 0, 1) := by decide +kernel
theorem a_X5_send_129 : ix_at mT_X5_send 129 = some (.getfield 49, 3) := by decide +kernel
theorem a_X5_send_132 : ix_at mT_X5_send 132 = some (.iload_n 1, 1) := by decide +kernel
theorem a_X5_send_133 : ix_at mT_X5_send 133 = some (.iaload, 1) := by decide +kernel
theorem a_X5_send_134 : ix_at mT_X5_send 134 = some (.iload_n 3, 1) := by decide +kernel
theorem a_X5_send_135 : ix_at mT_X5_send 135 = some (.ishr, 1) := by decide +kernel
theorem a_X5_send_136 : ix_at mT_X5_send 136 = some (.iconst 1, 1) := by decide +kernel
theorem a_X5_send_137 : ix_at mT_X5_send 137 = some (.iand, 1) := by decide +kernel
theorem a_X5_send_138 : ix_at mT_X5_send 138 = some (.ifCond .ne 7, 3) := by decide +kernel
theorem a_X5_send_141 : ix_at mT_X5_send 141 = some (.iconst 1, 1) := by decide +kernel
theorem a_X5_send_142 : ix_at mT_X5_send 142 = some (.goto 4, 3) := by decide +kernel
theorem a_X5_send_145 : ix_at mT_X5_send 145 = some (.iconst 0, 1) := by decide +kernel
theorem a_X5_send_146 : ix_at mT_X5_send 146 = some (.istore 8, 2) := by decide +kernel
theorem a_X5_send_148 : ix_at mT_X5_send 148 = some (.aload_n 0, 1) := by decide +kernel
theorem a_X5_send_149 : ix_at mT_X5_send 149 = some (.iload_n 3, 1) := by decide +kernel
theorem a_X5_send_150 : ix_at mT_X5_send 150 = some (.iconst 0, 1) := by decide +kernel
theorem a_X5_send_151 : ix_at mT_X5_send 151 = some (.invokevirtual 125, 3) := by decide +kernel
theorem a_X5_send_154 : ix_at mT_X5_send 154 = some (.bipush 14, 2) := by decide +kernel
theorem a_X5_send_156 : ix_at mT_X5_send 156 = some (.iadd, 1) := by decide +kernel
theorem a_X5_send_157 : ix_at mT_X5_send 157 = some (.iload 6, 2) := by decide +kernel
theorem a_X5_send_159 : ix_at mT_X5_send 159 = some (.iadd, 1) := by decide +kernel
theorem a_X5_send_160 : ix_at mT_X5_send 160 = some (.bipush 14, 2) := by decide +kernel
theorem a_X5_send_162 : ix_at mT_X5_send 162 = some (.aload_n 0, 1) := by decide +kernel
theorem a_X5_send_163 : ix_at mT_X5_send 163 = some (.iload_n 3, 1) := by decide +kernel
theorem a_X5_send_164 : ix_at mT_X5_send 164 = some (.invokevirtual 178, 3) := by decide +kernel
theorem a_X5_send_167 : ix_at mT_X5_send 167 = some (.iload 8, 2) := by decide +kernel
theorem a_X5_send_169 : ix_at mT_X5_send 169 = some (.ifCond .eq 7, 3) := by decide +kernel
theorem a_X5_send_172 : ix_at mT_X5_send 172 = some (.iconst 1, 1) := by decide +kernel
theorem a_X5_send_173 : ix_at mT_X5_send 173 = some (.goto 4, 3) := by decide +kernel
theorem a_X5_send_176 : ix_at mT_X5_send 176 = some (.iconst 0, 1) := by decide +kernel
theorem a_X5_send_177 : ix_at mT_X5_send 177 = some (.iadd, 1) := by decide +kernel
theorem a_X5_send_178 : ix_at mT_X5_send 178 = some (.imul, 1) := by decide +kernel
theorem a_X5_send_179 : ix_at mT_X5_send 179 = some (.iadd, 1) := by decide +kernel
theorem a_X5_send_180 : ix_at mT_X5_send 180 = some (.istore 9, 2) := by decide +kernel
theorem a_X5_send_182 : ix_at mT_X5_send 182 = some (.iload 9, 2) := by decide +kernel
theorem a_X5_send_184 : ix_at mT_X5_send 184 = some (.aload_n 0, 1) := by decide +kernel
theorem a_X5_send_185 : ix_at mT_X5_send 185 = some (.getfield 90, 3) := by decide +kernel
theorem a_X5_send_188 : ix_at mT_X5_send 188 = some (.if_icmp .gt 21, 3) := by decide +kernel
theorem a_X5_send_191 : ix_at mT_X5_send 191 = some (.iload 8, 2) := by decide +kernel
theorem a_X5_send_193 : ix_at mT_X5_send 193 = some (.ifCond .eq 19, 3) := by decide +kernel
theorem a_X5_send_196 : ix_at mT_X5_send 196 = some (.aload_n 0, 1) := by decide +kernel
theorem a_X5_send_197 : ix_at mT_X5_send 197 = some (.bipush 16, 2) := by decide +kernel
theorem a_X5_send_199 : ix_at mT_X5_send 199 = some (.aload_n 0, 1) := by decide +kernel
theorem a_X5_send_200 : ix_at mT_X5_send 200 = some (.invokevirtual 147, 3) := by decide +kernel
theorem a_X5_send_203 : ix_at mT_X5_send 203 = some (.invokevirtual 151, 3) := by decide +kernel
theorem a_X5_send_206 : ix_at mT_X5_send 206 = some (.ifCond .ne 6, 3) := by decide +kernel
theorem a_X5_send_209 : ix_at mT_X5_send 209 = some (.bipush (-8), 2) := by decide +kernel
theorem a_X5_send_211 : ix_at mT_X5_send 211 = some (.ireturn, 1) := by decide +kernel
theorem a_X5_send_212 : ix_at mT_X5_send 212 = some (.iload 8, 2) := by decide +kernel
theorem a_X5_send_214 : ix_at mT_X5_send 214 = some (.ifCond .eq 30, 3) := by decide +kernel
theorem a_X5_send_217 : ix_at mT_X5_send 217 = some (.aload_n 0, 1) := by decide +kernel
theorem a_X5_send_218 : ix_at mT_X5_send 218 = some (.aload_n 0, 1) := by decide +kernel
theorem a_X5_send_219 : ix_at mT_X5_send 219 = some (.getfield 87, 3) := by decide +kernel
theorem a_X5_send_222 : ix_at mT_X5_send 222 = some (.iconst 2, 1) := by decide +kernel
theorem a_X5_send_223 : ix_at mT_X5_send 223 = some (.iload_n 1, 1) := by decide +kernel
theorem a_X5_send_224 : ix_at mT_X5_send 224 = some (.iload_n 2, 1) := by decide +kernel
theorem a_X5_send_225 : ix_at mT_X5_send 225 = some (.iload_n 3, 1) := by decide +kernel
theorem a_X5_send_226 : ix_at mT_X5_send 226 = some (.iconst 0, 1) := by decide +kernel
theorem a_X5_send_227 : ix_at mT_X5_send 227 = some (.invokevirtual 129, 3) := by decide +kernel
theorem a_X5_send_230 : ix_at mT_X5_send 230 = some (.istore 10, 2) := by decide +kernel
theorem a_X5_send_232 : ix_at mT_X5_send 232 = some (.aload_n 0, 1) := by decide +kernel
theorem a_X5_send_233 : ix_at mT_X5_send 233 = some (.getfield 49, 3) := by decide +kernel
theorem a_X5_send_236 : ix_at mT_X5_send 236 = some (.iload_n 1, 1) := by decide +kernel
theorem a_X5_send_237 : ix_at mT_X5_send 237 = some (.dup2, 1) := by decide +kernel
theorem a_X5_send_238 : ix_at mT_X5_send 238 = some (.iaload, 1) := by decide +kernel
theorem a_X5_send_239 : ix_at mT_X5_send 239 = some (.iconst 1, 1) := by decide +kernel
theorem a_X5_send_240 : ix_at mT_X5_send 240 = some (.iload_n 3, 1) := by decide +kernel
theorem a_X5_send_241 : ix_at mT_X5_send 241 = some (.ishl, 1) := by decide +kernel
theorem a_X5_send_242 : ix_at mT_X5_send 242 = some (.ior, 1) := by decide +kernel
theorem a_X5_send_243 : ix_at mT_X5_send 243 = some (.iastore, 1) := by decide +kernel
theorem a_X5_send_244 : ix_at mT_X5_send 244 = some (.aload_n 0, 1) := by decide +kernel
theorem a_X5_send_245 : ix_at mT_X5_send 245 = some (.iload_n 3, 1) := by decide +kernel
theorem a_X5_send_246 : ix_at mT_X5_send 246 = some (.iload 5, 2) := by decide +kernel
theorem a_X5_send_248 : ix_at mT_X5_send 248 = some (.ifCond .eq 7, 3) := by decide +kernel
theorem a_X5_send_251 : ix_at mT_X5_send 251 = some (.iconst 1, 1) := by decide +kernel
theorem a_X5_send_252 : ix_at mT_X5_send 252 = some (.goto 4, 3) := by decide +kernel
theorem a_X5_send_255 : ix_at mT_X5_send 255 = some (.iconst 0, 1) := by decide +kernel
theorem a_X5_send_256 : ix_at mT_X5_send 256 = some (.iload_n 1, 1) := by decide +kernel
theorem a_X5_send_257 : ix_at mT_X5_send 257 = some (.iload_n 2, 1) := by decide +kernel
theorem a_X5_send_258 : ix_at mT_X5_send 258 = some (.iload 4, 2) := by decide +kernel
theorem a_X5_send_260 : ix_at mT_X5_send 260 = some (.iload 6, 2) := by decide +kernel
theorem a_X5_send_262 : ix_at mT_X5_send 262 = some (.invokevirtual 129, 3) := by decide +kernel
theorem a_X5_send_265 : ix_at mT_X5_send 265 = some (.istore 10, 2) := by decide +kernel
theorem a_X5_send_267 : ix_at mT_X5_send 267 = some (.aload_n 0, 1) := by decide +kernel
theorem a_X5_send_268 : ix_at mT_X5_send 268 = some (.getfield 28, 3) := by decide +kernel
theorem a_X5_send_271 : ix_at mT_X5_send 271 = some (.iload 10, 2) := by decide +kernel
theorem a_X5_send_273 : ix_at mT_X5_send 273 = some (.iload 5, 2) := by decide +kernel
theorem a_X5_send_275 : ix_at mT_X5_send 275 = some (.ifCond .eq 12, 3) := by decide +kernel
theorem a_X5_send_278 : ix_at mT_X5_send 278 = some (.aload_n 0, 1) := by decide +kernel
theorem a_X5_send_279 : ix_at mT_X5_send 279 = some (.getfield 43, 3) := by decide +kernel
theorem a_X5_send_282 : ix_at mT_X5_send 282 = some (.iload_n 1, 1) := by decide +kernel
theorem a_X5_send_283 : ix_at mT_X5_send 283 = some (.iaload, 1) := by decide +kernel
theorem a_X5_send_284 : ix_at mT_X5_send 284 = some (.goto 4, 3) := by decide +kernel
theorem a_X5_send_287 : ix_at mT_X5_send 287 = some (.iconst (-1), 1) := by decide +kernel
theorem a_X5_send_288 : ix_at mT_X5_send 288 = some (.iastore, 1) := by decide +kernel
theorem a_X5_send_289 : ix_at mT_X5_send 289 = some (.iconst 0, 1) := by decide +kernel
theorem a_X5_send_290 : ix_at mT_X5_send 290 = some (.istore 11, 2) := by decide +kernel
theorem a_X5_send_292 : ix_at mT_X5_send 292 = some (.iload 11, 2) := by decide +kernel
theorem a_X5_send_294 : ix_at mT_X5_send 294 = some (.iload 6, 2) := by decide +kernel
theorem a_X5_send_296 : ix_at mT_X5_send 296 = some (.if_icmp .ge 29, 3) := by decide +kernel
theorem a_X5_send_299 : ix_at mT_X5_send 299 = some (.aload_n 0, 1) := by decide +kernel
theorem a_X5_send_300 : ix_at mT_X5_send 300 = some (.getfield 32, 3) := by decide +kernel
theorem a_X5_send_303 : ix_at mT_X5_send 303 = some (.bipush 40, 2) := by decide +kernel
theorem a_X5_send_305 : ix_at mT_X5_send 305 = some (.iload 10, 2) := by decide +kernel
theorem a_X5_send_307 : ix_at mT_X5_send 307 = some (.imul, 1) := by decide +kernel
theorem a_X5_send_308 : ix_at mT_X5_send 308 = some (.iload 11, 2) := by decide +kernel
theorem a_X5_send_310 : ix_at mT_X5_send 310 = some (.iadd, 1) := by decide +kernel
theorem a_X5_send_311 : ix_at mT_X5_send 311 = some (.aload_n 0, 1) := by decide +kernel
theorem a_X5_send_312 : ix_at mT_X5_send 312 = some (.getfield 67, 3) := by decide +kernel
theorem a_X5_send_315 : ix_at mT_X5_send 315 = some (.iload 11, 2) := by decide +kernel
theorem a_X5_send_317 : ix_at mT_X5_send 317 = some (.baload, 1) := by decide +kernel
theorem a_X5_send_318 : ix_at mT_X5_send 318 = some (.bastore, 1) := by decide +kernel
theorem a_X5_send_319 : ix_at mT_X5_send 319 = some (.iinc 11 1, 3) := by decide +kernel
theorem a_X5_send_322 : ix_at mT_X5_send 322 = some (.goto (-30), 3) := by decide +kernel
theorem a_X5_send_325 : ix_at mT_X5_send 325 = some (.aload_n 0, 1) := by decide +kernel
theorem a_X5_send_326 : ix_at mT_X5_send 326 = some (.iload 10, 2) := by decide +kernel
theorem a_X5_send_328 : ix_at mT_X5_send 328 = some (.invokevirtual 165, 3) := by decide +kernel
theorem a_X5_send_331 : ix_at mT_X5_send 331 = some (.ireturn, 1) := by decide +kernel
theorem a_X5_isGroup_0 : ix_at mT_X5_isGroup 0 = some (.iload_n 0, 1) := by decide +kernel
theorem a_X5_isGroup_1 : ix_at mT_X5_isGroup 1 = some (.ifCond .lt 13, 3) := by decide +kernel
theorem a_X5_isGroup_4 : ix_at mT_X5_isGroup 4 = some (.iload_n 0, 1) := by decide +kernel
theorem a_X5_isGroup_5 : ix_at mT_X5_isGroup 5 = some (.bipush 7, 2) := by decide +kernel
theorem a_X5_isGroup_7 : ix_at mT_X5_isGroup 7 = some (.if_icmp .gt 7, 3) := by decide +kernel
theorem a_X5_isGroup_10 : ix_at mT_X5_isGroup 10 = some (.iconst 1, 1) := by decide +kernel
theorem a_X5_isGroup_11 : ix_at mT_X5_isGroup 11 = some (.goto 4, 3) := by decide +kernel
theorem a_X5_isGroup_14 : ix_at mT_X5_isGroup 14 = some (.iconst 0, 1) := by decide +kernel
theorem a_X5_isGroup_15 : ix_at mT_X5_isGroup 15 = some (.ireturn, 1) := by decide +kernel
theorem a_X5_isPartition_0 : ix_at mT_X5_isPartition 0 = some (.iload_n 1, 1) := by decide +kernel
theorem a_X5_isPartition_1 : ix_at mT_X5_isPartition 1 = some (.ifCond .lt 15, 3) := by decide +kernel
theorem a_X5_isPartition_4 : ix_at mT_X5_isPartition 4 = some (.iload_n 1, 1) := by decide +kernel
theorem a_X5_isPartition_5 : ix_at mT_X5_isPartition 5 = some (.aload_n 0, 1) := by decide +kernel
theorem a_X5_isPartition_6 : ix_at mT_X5_isPartition 6 = some (.getfield 87, 3) := by decide +kernel
theorem a_X5_isPartition_9 : ix_at mT_X5_isPartition 9 = some (.if_icmp .ge 7, 3) := by decide +kernel
theorem a_X5_isPartition_12 : ix_at mT_X5_isPartition 12 = some (.iconst 1, 1) := by decide +kernel
theorem a_X5_isPartition_13 : ix_at mT_X5_isPartition 13 = some (.goto 4, 3) := by decide +kernel
theorem a_X5_isPartition_16 : ix_at mT_X5_isPartition 16 = some (.iconst 0, 1) := by decide +kernel
theorem a_X5_isPartition_17 : ix_at mT_X5_isPartition 17 = some (.ireturn, 1) := by decide +kernel
theorem a_X5_later_0 : ix_at mT_X5_later 0 = some (.aload_n 0, 1) := by decide +kernel
theorem a_X5_later_1 : ix_at mT_X5_later 1 = some (.getfield 58, 3) := by decide +kernel
theorem a_X5_later_4 : ix_at mT_X5_later 4 = some (.aload_n 0, 1) := by decide +kernel
theorem a_X5_later_5 : ix_at mT_X5_later 5 = some (.getfield 84, 3) := by decide +kernel
theorem a_X5_later_8 : ix_at mT_X5_later 8 = some (.iload_n 1, 1) := by decide +kernel
theorem a_X5_later_9 : ix_at mT_X5_later 9 = some (.iastore, 1) := by decide +kernel
theorem a_X5_later_10 : ix_at mT_X5_later 10 = some (.aload_n 0, 1) := by decide +kernel
theorem a_X5_later_11 : ix_at mT_X5_later 11 = some (.getfield 61, 3) := by decide +kernel
theorem a_X5_later_14 : ix_at mT_X5_later 14 = some (.aload_n 0, 1) := by decide +kernel
theorem a_X5_later_15 : ix_at mT_X5_later 15 = some (.getfield 84, 3) := by decide +kernel
theorem a_X5_later_18 : ix_at mT_X5_later 18 = some (.iload_n 2, 1) := by decide +kernel
theorem a_X5_later_19 : ix_at mT_X5_later 19 = some (.iastore, 1) := by decide +kernel
theorem a_X5_later_20 : ix_at mT_X5_later 20 = some (.aload_n 0, 1) := by decide +kernel
theorem a_X5_later_21 : ix_at mT_X5_later 21 = some (.getfield 64, 3) := by decide +kernel
theorem a_X5_later_24 : ix_at mT_X5_later 24 = some (.aload_n 0, 1) := by decide +kernel
theorem a_X5_later_25 : ix_at mT_X5_later 25 = some (.getfield 84, 3) := by decide +kernel
theorem a_X5_later_28 : ix_at mT_X5_later 28 = some (.iload_n 3, 1) := by decide +kernel
theorem a_X5_later_29 : ix_at mT_X5_later 29 = some (.iastore, 1) := by decide +kernel
theorem a_X5_later_30 : ix_at mT_X5_later 30 = some (.aload_n 0, 1) := by decide +kernel
theorem a_X5_later_31 : ix_at mT_X5_later 31 = some (.dup, 1) := by decide +kernel
theorem a_X5_later_32 : ix_at mT_X5_later 32 = some (.getfield 84, 3) := by decide +kernel
theorem a_X5_later_35 : ix_at mT_X5_later 35 = some (.iconst 1, 1) := by decide +kernel
theorem a_X5_later_36 : ix_at mT_X5_later 36 = some (.iadd, 1) := by decide +kernel
theorem a_X5_later_37 : ix_at mT_X5_later 37 = some (.putfield 84, 3) := by decide +kernel
theorem a_X5_later_40 : ix_at mT_X5_later 40 = some (.return_, 1) := by decide +kernel
theorem a_X5_later__0 : ix_at mT_X5_later_ 0 = some (.aload_n 0, 1) := by decide +kernel
theorem a_X5_later__1 : ix_at mT_X5_later_ 1 = some (.getfield 99, 3) := by decide +kernel
theorem a_X5_later__4 : ix_at mT_X5_later_ 4 = some (.ifCond .eq 5, 3) := by decide +kernel
theorem a_X5_later__7 : ix_at mT_X5_later_ 7 = some (.iconst (-1), 1) := by decide +kernel
theorem a_X5_later__8 : ix_at mT_X5_later_ 8 = some (.ireturn, 1) := by decide +kernel
theorem a_X5_later__9 : ix_at mT_X5_later_ 9 = some (.iload_n 3, 1) := by decide +kernel
theorem a_X5_later__10 : ix_at mT_X5_later_ 10 = some (.invokestatic 181, 3) := by decide +kernel
theorem a_X5_later__13 : ix_at mT_X5_later_ 13 = some (.ifCond .eq 17, 3) := by decide +kernel
theorem a_X5_later__16 : ix_at mT_X5_later_ 16 = some (.aload_n 0, 1) := by decide +kernel
theorem a_X5_later__17 : ix_at mT_X5_later_ 17 = some (.iload 4, 2) := by decide +kernel
theorem a_X5_later__19 : ix_at mT_X5_later_ 19 = some (.invokevirtual 185, 3) := by decide +kernel
theorem a_X5_later__22 : ix_at mT_X5_later_ 22 = some (.ifCond .eq 8, 3) := by decide +kernel
theorem a_X5_later__25 : ix_at mT_X5_later_ 25 = some (.iload 5, 2) := by decide +kernel
theorem a_X5_later__27 : ix_at mT_X5_later_ 27 = some (.ifCond .ge 6, 3) := by decide +kernel
theorem a_X5_later__30 : ix_at mT_X5_later_ 30 = some (.bipush (-2), 2) := by decide +kernel
theorem a_X5_later__32 : ix_at mT_X5_later_ 32 = some (.ireturn, 1) := by decide +kernel
theorem a_X5_later__33 : ix_at mT_X5_later_ 33 = some (.aload_n 0, 1) := by decide +kernel
theorem a_X5_later__34 : ix_at mT_X5_later_ 34 = some (.iload_n 1, 1) := by decide +kernel
theorem a_X5_later__35 : ix_at mT_X5_later_ 35 = some (.iload_n 2, 1) := by decide +kernel
theorem a_X5_later__36 : ix_at mT_X5_later_ 36 = some (.invokevirtual 158, 3) := by decide +kernel
theorem a_X5_later__39 : ix_at mT_X5_later_ 39 = some (.istore 6, 2) := by decide +kernel
theorem a_X5_later__41 : ix_at mT_X5_later_ 41 = some (.iload 6, 2) := by decide +kernel
theorem a_X5_later__43 : ix_at mT_X5_later_ 43 = some (.ifCond .eq 6, 3) := by decide +kernel
theorem a_X5_later__46 : ix_at mT_X5_later_ 46 = some (.iload 6, 2) := by decide +kernel
theorem a_X5_later__48 : ix_at mT_X5_later_ 48 = some (.ireturn, 1) := by decide +kernel
theorem a_X5_later__49 : ix_at mT_X5_later_ 49 = some (.aload_n 0, 1) := by decide +kernel
theorem a_X5_later__50 : ix_at mT_X5_later_ 50 = some (.getfield 43, 3) := by decide +kernel
theorem a_X5_later__53 : ix_at mT_X5_later_ 53 = some (.iload_n 1, 1) := by decide +kernel
theorem a_X5_later__54 : ix_at mT_X5_later_ 54 = some (.iaload, 1) := by decide +kernel
theorem a_X5_later__55 : ix_at mT_X5_later_ 55 = some (.iconst (-1), 1) := by decide +kernel
theorem a_X5_later__56 : ix_at mT_X5_later_ 56 = some (.if_icmp .ne 6, 3) := by decide +kernel
theorem a_X5_later__59 : ix_at mT_X5_later_ 59 = some (.bipush (-5), 2) := by decide +kernel
theorem a_X5_later__61 : ix_at mT_X5_later_ 61 = some (.ireturn, 1) := by decide +kernel
theorem a_X5_later__62 : ix_at mT_X5_later_ 62 = some (.aload_n 0, 1) := by decide +kernel
theorem a_X5_later__63 : ix_at mT_X5_later_ 63 = some (.bipush 16, 2) := by decide +kernel
theorem a_X5_later__65 : ix_at mT_X5_later_ 65 = some (.aload_n 0, 1) := by decide +kernel
theorem a_X5_later__66 : ix_at mT_X5_later_ 66 = some (.invokevirtual 147, 3) := by decide +kernel
theorem a_X5_later__69 : ix_at mT_X5_later_ 69 = some (.invokevirtual 151, 3) := by decide +kernel
theorem a_X5_later__72 : ix_at mT_X5_later_ 72 = some (.ifCond .ne 6, 3) := by decide +kernel
theorem a_X5_later__75 : ix_at mT_X5_later_ 75 = some (.bipush (-8), 2) := by decide +kernel
theorem a_X5_later__77 : ix_at mT_X5_later_ 77 = some (.ireturn, 1) := by decide +kernel
theorem a_X5_later__78 : ix_at mT_X5_later_ 78 = some (.aload_n 0, 1) := by decide +kernel
theorem a_X5_later__79 : ix_at mT_X5_later_ 79 = some (.aload_n 0, 1) := by decide +kernel
theorem a_X5_later__80 : ix_at mT_X5_later_ 80 = some (.getfield 87, 3) := by decide +kernel
theorem a_X5_later__83 : ix_at mT_X5_later_ 83 = some (.iconst 3, 1) := by decide +kernel
theorem a_X5_later__84 : ix_at mT_X5_later_ 84 = some (.iload_n 1, 1) := by decide +kernel
theorem a_X5_later__85 : ix_at mT_X5_later_ 85 = some (.iload_n 2, 1) := by decide +kernel
theorem a_X5_later__86 : ix_at mT_X5_later_ 86 = some (.bipush 8, 2) := by decide +kernel
theorem a_X5_later__88 : ix_at mT_X5_later_ 88 = some (.iload_n 3, 1) := by decide +kernel
theorem a_X5_later__89 : ix_at mT_X5_later_ 89 = some (.imul, 1) := by decide +kernel
theorem a_X5_later__90 : ix_at mT_X5_later_ 90 = some (.iload 4, 2) := by decide +kernel
theorem a_X5_later__92 : ix_at mT_X5_later_ 92 = some (.iadd, 1) := by decide +kernel
theorem a_X5_later__93 : ix_at mT_X5_later_ 93 = some (.iload 5, 2) := by decide +kernel
theorem a_X5_later__95 : ix_at mT_X5_later_ 95 = some (.invokevirtual 129, 3) := by decide +kernel
theorem a_X5_later__98 : ix_at mT_X5_later_ 98 = some (.istore 7, 2) := by decide +kernel
theorem a_X5_later__100 : ix_at mT_X5_later_ 100 = some (.aload_n 0, 1) := by decide +kernel
theorem a_X5_later__101 : ix_at mT_X5_later_ 101 = some (.aload_n 0, 1) := by decide +kernel
theorem a_X5_later__102 : ix_at mT_X5_later_ 102 = some (.getfield 43, 3) := by decide +kernel
theorem a_X5_later__105 : ix_at mT_X5_later_ 105 = some (.iload_n 1, 1) := by decide +kernel
theorem a_X5_later__106 : ix_at mT_X5_later_ 106 = some (.iaload, 1) := by decide +kernel
theorem a_X5_later__107 : ix_at mT_X5_later_ 107 = some (.bipush 8, 2) := by decide +kernel
theorem a_X5_later__109 : ix_at mT_X5_later_ 109 = some (.iload_n 3, 1) := by decide +kernel
theorem a_X5_later__110 : ix_at mT_X5_later_ 110 = some (.imul, 1) := by decide +kernel
theorem a_X5_later__111 : ix_at mT_X5_later_ 111 = some (.iload 4, 2) := by decide +kernel
theorem a_X5_later__113 : ix_at mT_X5_later_ 113 = some (.iadd, 1) := by decide +kernel
theorem a_X5_later__114 : ix_at mT_X5_later_ 114 = some (.iload 5, 2) := by decide +kernel
theorem a_X5_later__116 : ix_at mT_X5_later_ 116 = some (.invokevirtual 188, 3) := by decide +kernel
theorem a_X5_later__119 : ix_at mT_X5_later_ 119 = some (.iconst 0, 1) := by decide +kernel
theorem a_X5_later__120 : ix_at mT_X5_later_ 120 = some (.ireturn, 1) := by decide +kernel
theorem a_X5_end_0 : ix_at mT_X5_end 0 = some (.aload_n 0, 1) := by decide +kernel
theorem a_X5_end_1 : ix_at mT_X5_end 1 = some (.iload_n 1, 1) := by decide +kernel
theorem a_X5_end_2 : ix_at mT_X5_end 2 = some (.iload_n 2, 1) := by decide +kernel
theorem a_X5_end_3 : ix_at mT_X5_end 3 = some (.invokevirtual 158, 3) := by decide +kernel
theorem a_X5_end_6 : ix_at mT_X5_end 6 = some (.istore 4, 2) := by decide +kernel
theorem a_X5_end_8 : ix_at mT_X5_end 8 = some (.iload 4, 2) := by decide +kernel
theorem a_X5_end_10 : ix_at mT_X5_end 10 = some (.ifCond .eq 6, 3) := by decide +kernel
theorem a_X5_end_13 : ix_at mT_X5_end 13 = some (.iload 4, 2) := by decide +kernel
theorem a_X5_end_15 : ix_at mT_X5_end 15 = some (.ireturn, 1) := by decide +kernel
theorem a_X5_end_16 : ix_at mT_X5_end 16 = some (.aload_n 0, 1) := by decide +kernel
theorem a_X5_end_17 : ix_at mT_X5_end 17 = some (.getfield 43, 3) := by decide +kernel
theorem a_X5_end_20 : ix_at mT_X5_end 20 = some (.iload_n 1, 1) := by decide +kernel
theorem a_X5_end_21 : ix_at mT_X5_end 21 = some (.iaload, 1) := by decide +kernel
theorem a_X5_end_22 : ix_at mT_X5_end 22 = some (.iconst (-1), 1) := by decide +kernel
theorem a_X5_end_23 : ix_at mT_X5_end 23 = some (.if_icmp .ne 6, 3) := by decide +kernel
theorem a_X5_end_26 : ix_at mT_X5_end 26 = some (.bipush (-5), 2) := by decide +kernel
theorem a_X5_end_28 : ix_at mT_X5_end 28 = some (.ireturn, 1) := by decide +kernel
theorem a_X5_end_29 : ix_at mT_X5_end 29 = some (.aload_n 0, 1) := by decide +kernel
theorem a_X5_end_30 : ix_at mT_X5_end 30 = some (.iload_n 1, 1) := by decide +kernel
theorem a_X5_end_31 : ix_at mT_X5_end 31 = some (.iload_n 3, 1) := by decide +kernel
theorem a_X5_end_32 : ix_at mT_X5_end 32 = some (.invokevirtual 144, 3) := by decide +kernel
theorem a_X5_end_35 : ix_at mT_X5_end 35 = some (.iconst 0, 1) := by decide +kernel
theorem a_X5_end_36 : ix_at mT_X5_end 36 = some (.ireturn, 1) := by decide +kernel
theorem a_X5_mark_0 : ix_at mT_X5_mark 0 = some (.aload_n 0, 1) := by decide +kernel
theorem a_X5_mark_1 : ix_at mT_X5_mark 1 = some (.getfield 99, 3) := by decide +kernel
theorem a_X5_mark_4 : ix_at mT_X5_mark 4 = some (.ifCond .eq 5, 3) := by decide +kernel
theorem a_X5_mark_7 : ix_at mT_X5_mark 7 = some (.iconst (-1), 1) := by decide +kernel
theorem a_X5_mark_8 : ix_at mT_X5_mark 8 = some (.ireturn, 1) := by decide +kernel
theorem a_X5_mark_9 : ix_at mT_X5_mark 9 = some (.iload_n 1, 1) := by decide +kernel
theorem a_X5_mark_10 : ix_at mT_X5_mark 10 = some (.invokestatic 181, 3) := by decide +kernel
theorem a_X5_mark_13 : ix_at mT_X5_mark 13 = some (.ifCond .eq 15, 3) := by decide +kernel
theorem a_X5_mark_16 : ix_at mT_X5_mark 16 = some (.aload_n 0, 1) := by decide +kernel
theorem a_X5_mark_17 : ix_at mT_X5_mark 17 = some (.iload_n 2, 1) := by decide +kernel
theorem a_X5_mark_18 : ix_at mT_X5_mark 18 = some (.invokevirtual 185, 3) := by decide +kernel
theorem a_X5_mark_21 : ix_at mT_X5_mark 21 = some (.ifCond .eq 7, 3) := by decide +kernel
theorem a_X5_mark_24 : ix_at mT_X5_mark 24 = some (.iload_n 3, 1) := by decide +kernel
theorem a_X5_mark_25 : ix_at mT_X5_mark 25 = some (.ifCond .ge 6, 3) := by decide +kernel
theorem a_X5_mark_28 : ix_at mT_X5_mark 28 = some (.bipush (-2), 2) := by decide +kernel
theorem a_X5_mark_30 : ix_at mT_X5_mark 30 = some (.ireturn, 1) := by decide +kernel
theorem a_X5_mark_31 : ix_at mT_X5_mark 31 = some (.aload_n 0, 1) := by decide +kernel
theorem a_X5_mark_32 : ix_at mT_X5_mark 32 = some (.bipush 16, 2) := by decide +kernel
theorem a_X5_mark_34 : ix_at mT_X5_mark 34 = some (.aload_n 0, 1) := by decide +kernel
theorem a_X5_mark_35 : ix_at mT_X5_mark 35 = some (.invokevirtual 147, 3) := by decide +kernel
theorem a_X5_mark_38 : ix_at mT_X5_mark 38 = some (.invokevirtual 151, 3) := by decide +kernel
theorem a_X5_mark_41 : ix_at mT_X5_mark 41 = some (.ifCond .ne 6, 3) := by decide +kernel
theorem a_X5_mark_44 : ix_at mT_X5_mark 44 = some (.bipush (-8), 2) := by decide +kernel
theorem a_X5_mark_46 : ix_at mT_X5_mark 46 = some (.ireturn, 1) := by decide +kernel
theorem a_X5_mark_47 : ix_at mT_X5_mark 47 = some (.aload_n 0, 1) := by decide +kernel
theorem a_X5_mark_48 : ix_at mT_X5_mark 48 = some (.aload_n 0, 1) := by decide +kernel
theorem a_X5_mark_49 : ix_at mT_X5_mark 49 = some (.getfield 87, 3) := by decide +kernel
theorem a_X5_mark_52 : ix_at mT_X5_mark 52 = some (.bipush 6, 2) := by decide +kernel
theorem a_X5_mark_54 : ix_at mT_X5_mark 54 = some (.iconst 0, 1) := by decide +kernel
theorem a_X5_mark_55 : ix_at mT_X5_mark 55 = some (.iconst 0, 1) := by decide +kernel
theorem a_X5_mark_56 : ix_at mT_X5_mark 56 = some (.bipush 8, 2) := by decide +kernel
theorem a_X5_mark_58 : ix_at mT_X5_mark 58 = some (.iload_n 1, 1) := by decide +kernel
theorem a_X5_mark_59 : ix_at mT_X5_mark 59 = some (.imul, 1) := by decide +kernel
theorem a_X5_mark_60 : ix_at mT_X5_mark 60 = some (.iload_n 2, 1) := by decide +kernel
theorem a_X5_mark_61 : ix_at mT_X5_mark 61 = some (.iadd, 1) := by decide +kernel
theorem a_X5_mark_62 : ix_at mT_X5_mark 62 = some (.iload_n 3, 1) := by decide +kernel
theorem a_X5_mark_63 : ix_at mT_X5_mark 63 = some (.invokevirtual 129, 3) := by decide +kernel
theorem a_X5_mark_66 : ix_at mT_X5_mark 66 = some (.istore 4, 2) := by decide +kernel
theorem a_X5_mark_68 : ix_at mT_X5_mark 68 = some (.aload_n 0, 1) := by decide +kernel
theorem a_X5_mark_69 : ix_at mT_X5_mark 69 = some (.getfield 52, 3) := by decide +kernel
theorem a_X5_mark_72 : ix_at mT_X5_mark 72 = some (.bipush 8, 2) := by decide +kernel
theorem a_X5_mark_74 : ix_at mT_X5_mark 74 = some (.iload_n 1, 1) := by decide +kernel
theorem a_X5_mark_75 : ix_at mT_X5_mark 75 = some (.imul, 1) := by decide +kernel
theorem a_X5_mark_76 : ix_at mT_X5_mark 76 = some (.iload_n 2, 1) := by decide +kernel
theorem a_X5_mark_77 : ix_at mT_X5_mark 77 = some (.iadd, 1) := by decide +kernel
theorem a_X5_mark_78 : ix_at mT_X5_mark 78 = some (.iload_n 3, 1) := by decide +kernel
theorem a_X5_mark_79 : ix_at mT_X5_mark 79 = some (.iastore, 1) := by decide +kernel
theorem a_X5_mark_80 : ix_at mT_X5_mark 80 = some (.iconst 0, 1) := by decide +kernel
theorem a_X5_mark_81 : ix_at mT_X5_mark 81 = some (.ireturn, 1) := by decide +kernel
theorem a_X5_marked_0 : ix_at mT_X5_marked 0 = some (.aload_n 0, 1) := by decide +kernel
theorem a_X5_marked_1 : ix_at mT_X5_marked 1 = some (.getfield 99, 3) := by decide +kernel
theorem a_X5_marked_4 : ix_at mT_X5_marked 4 = some (.ifCond .ne 18, 3) := by decide +kernel
theorem a_X5_marked_7 : ix_at mT_X5_marked 7 = some (.iload_n 1, 1) := by decide +kernel
theorem a_X5_marked_8 : ix_at mT_X5_marked 8 = some (.invokestatic 181, 3) := by decide +kernel
theorem a_X5_marked_11 : ix_at mT_X5_marked 11 = some (.ifCond .eq 11, 3) := by decide +kernel
theorem a_X5_marked_14 : ix_at mT_X5_marked 14 = some (.aload_n 0, 1) := by decide +kernel
theorem a_X5_marked_15 : ix_at mT_X5_marked 15 = some (.iload_n 2, 1) := by decide +kernel
theorem a_X5_marked_16 : ix_at mT_X5_marked 16 = some (.invokevirtual 185, 3) := by decide +kernel
theorem a_X5_marked_19 : ix_at mT_X5_marked 19 = some (.ifCond .ne 7, 3) := by decide +kernel
theorem a_X5_marked_22 : ix_at mT_X5_marked 22 = some (.iconst (-1), 1) := by decide +kernel
theorem a_X5_marked_23 : ix_at mT_X5_marked 23 = some (.goto 14, 3) := by decide +kernel
theorem a_X5_marked_26 : ix_at mT_X5_marked 26 = some (.aload_n 0, 1) := by decide +kernel
theorem a_X5_marked_27 : ix_at mT_X5_marked 27 = some (.getfield 52, 3) := by decide +kernel
theorem a_X5_marked_30 : ix_at mT_X5_marked 30 = some (.bipush 8, 2) := by decide +kernel
theorem a_X5_marked_32 : ix_at mT_X5_marked 32 = some (.iload_n 1, 1) := by decide +kernel
theorem a_X5_marked_33 : ix_at mT_X5_marked 33 = some (.imul, 1) := by decide +kernel
theorem a_X5_marked_34 : ix_at mT_X5_marked 34 = some (.iload_n 2, 1) := by decide +kernel
theorem a_X5_marked_35 : ix_at mT_X5_marked 35 = some (.iadd, 1) := by decide +kernel
theorem a_X5_marked_36 : ix_at mT_X5_marked 36 = some (.iaload, 1) := by decide +kernel
theorem a_X5_marked_37 : ix_at mT_X5_marked 37 = some (.ireturn, 1) := by decide +kernel
theorem a_X5_tick_0 : ix_at mT_X5_tick 0 = some (.iload_n 1, 1) := by decide +kernel
theorem a_X5_tick_1 : ix_at mT_X5_tick 1 = some (.ifCond .lt 21, 3) := by decide +kernel
theorem a_X5_tick_4 : ix_at mT_X5_tick 4 = some (.iload_n 1, 1) := by decide +kernel
theorem a_X5_tick_5 : ix_at mT_X5_tick 5 = some (.sipush 1000, 3) := by decide +kernel
theorem a_X5_tick_8 : ix_at mT_X5_tick 8 = some (.if_icmp .gt 14, 3) := by decide +kernel
theorem a_X5_tick_11 : ix_at mT_X5_tick 11 = some (.aload_n 0, 1) := by decide +kernel
theorem a_X5_tick_12 : ix_at mT_X5_tick 12 = some (.getfield 96, 3) := by decide +kernel
theorem a_X5_tick_15 : ix_at mT_X5_tick 15 = some (.iload_n 1, 1) := by decide +kernel
theorem a_X5_tick_16 : ix_at mT_X5_tick 16 = some (.iadd, 1) := by decide +kernel
theorem a_X5_tick_17 : ix_at mT_X5_tick 17 = some (.ldc 191, 2) := by decide +kernel
theorem a_X5_tick_19 : ix_at mT_X5_tick 19 = some (.if_icmp .le 6, 3) := by decide +kernel
theorem a_X5_tick_22 : ix_at mT_X5_tick 22 = some (.bipush (-2), 2) := by decide +kernel
theorem a_X5_tick_24 : ix_at mT_X5_tick 24 = some (.ireturn, 1) := by decide +kernel
theorem a_X5_tick_25 : ix_at mT_X5_tick 25 = some (.aload_n 0, 1) := by decide +kernel
theorem a_X5_tick_26 : ix_at mT_X5_tick 26 = some (.dup, 1) := by decide +kernel
theorem a_X5_tick_27 : ix_at mT_X5_tick 27 = some (.getfield 96, 3) := by decide +kernel
theorem a_X5_tick_30 : ix_at mT_X5_tick 30 = some (.iload_n 1, 1) := by decide +kernel
theorem a_X5_tick_31 : ix_at mT_X5_tick 31 = some (.iadd, 1) := by decide +kernel
theorem a_X5_tick_32 : ix_at mT_X5_tick 32 = some (.putfield 96, 3) := by decide +kernel
theorem a_X5_tick_35 : ix_at mT_X5_tick 35 = some (.iconst 0, 1) := by decide +kernel
theorem a_X5_tick_36 : ix_at mT_X5_tick 36 = some (.istore_n 2, 1) := by decide +kernel
theorem a_X5_tick_37 : ix_at mT_X5_tick 37 = some (.iconst 0, 1) := by decide +kernel
theorem a_X5_tick_38 : ix_at mT_X5_tick 38 = some (.istore_n 3, 1) := by decide +kernel
theorem a_X5_tick_39 : ix_at mT_X5_tick 39 = some (.iload_n 3, 1) := by decide +kernel
theorem a_X5_tick_40 : ix_at mT_X5_tick 40 = some (.aload_n 0, 1) := by decide +kernel
theorem a_X5_tick_41 : ix_at mT_X5_tick 41 = some (.getfield 80, 3) := by decide +kernel
theorem a_X5_tick_44 : ix_at mT_X5_tick 44 = some (.if_icmp .ge 78, 3) := by decide +kernel
theorem a_X5_tick_47 : ix_at mT_X5_tick 47 = some (.aload_n 0, 1) := by decide +kernel
theorem a_X5_tick_48 : ix_at mT_X5_tick 48 = some (.getfield 99, 3) := by decide +kernel
theorem a_X5_tick_51 : ix_at mT_X5_tick 51 = some (.ifCond .ne 71, 3) := by decide +kernel
theorem a_X5_tick_54 : ix_at mT_X5_tick 54 = some (.iconst 0, 1) := by decide +kernel
theorem a_X5_tick_55 : ix_at mT_X5_tick 55 = some (.istore 4, 2) := by decide +kernel
theorem a_X5_tick_57 : ix_at mT_X5_tick 57 = some (.iload 4, 2) := by decide +kernel
theorem a_X5_tick_59 : ix_at mT_X5_tick 59 = some (.bipush 32, 2) := by decide +kernel
theorem a_X5_tick_61 : ix_at mT_X5_tick 61 = some (.if_icmp .ge 55, 3) := by decide +kernel
theorem a_X5_tick_64 : ix_at mT_X5_tick 64 = some (.aload_n 0, 1) := by decide +kernel
theorem a_X5_tick_65 : ix_at mT_X5_tick 65 = some (.getfield 43, 3) := by decide +kernel
theorem a_X5_tick_68 : ix_at mT_X5_tick 68 = some (.iload 4, 2) := by decide +kernel
theorem a_X5_tick_70 : ix_at mT_X5_tick 70 = some (.iaload, 1) := by decide +kernel
theorem a_X5_tick_71 : ix_at mT_X5_tick 71 = some (.iload_n 3, 1) := by decide +kernel
theorem a_X5_tick_72 : ix_at mT_X5_tick 72 = some (.if_icmp .ne 38, 3) := by decide +kernel
theorem a_X5_tick_75 : ix_at mT_X5_tick 75 = some (.aload_n 0, 1) := by decide +kernel
theorem a_X5_tick_76 : ix_at mT_X5_tick 76 = some (.getfield 96, 3) := by decide +kernel
theorem a_X5_tick_79 : ix_at mT_X5_tick 79 = some (.aload_n 0, 1) := by decide +kernel
theorem a_X5_tick_80 : ix_at mT_X5_tick 80 = some (.getfield 46, 3) := by decide +kernel
theorem a_X5_tick_83 : ix_at mT_X5_tick 83 = some (.iload 4, 2) := by decide +kernel
theorem a_X5_tick_85 : ix_at mT_X5_tick 85 = some (.iaload, 1) := by decide +kernel
theorem a_X5_tick_86 : ix_at mT_X5_tick 86 = some (.isub, 1) := by decide +kernel
theorem a_X5_tick_87 : ix_at mT_X5_tick 87 = some (.aload_n 0, 1) := by decide +kernel
theorem a_X5_tick_88 : ix_at mT_X5_tick 88 = some (.getfield 93, 3) := by decide +kernel
theorem a_X5_tick_91 : ix_at mT_X5_tick 91 = some (.if_icmp .le 19, 3) := by decide +kernel
theorem a_X5_tick_94 : ix_at mT_X5_tick 94 = some (.aload_n 0, 1) := by decide +kernel
theorem a_X5_tick_95 : ix_at mT_X5_tick 95 = some (.iload 4, 2) := by decide +kernel
theorem a_X5_tick_97 : ix_at mT_X5_tick 97 = some (.iconst 0, 1) := by decide +kernel
theorem a_X5_tick_98 : ix_at mT_X5_tick 98 = some (.invokevirtual 144, 3) := by decide +kernel
theorem a_X5_tick_101 : ix_at mT_X5_tick 101 = some (.aload_n 0, 1) := by decide +kernel
theorem a_X5_tick_102 : ix_at mT_X5_tick 102 = some (.iload 4, 2) := by decide +kernel
theorem a_X5_tick_104 : ix_at mT_X5_tick 104 = some (.invokevirtual 155, 3) := by decide +kernel
theorem a_X5_tick_107 : ix_at mT_X5_tick 107 = some (.iinc 2 1, 3) := by decide +kernel
theorem a_X5_tick_110 : ix_at mT_X5_tick 110 = some (.iinc 4 1, 3) := by decide +kernel
theorem a_X5_tick_113 : ix_at mT_X5_tick 113 = some (.goto (-56), 3) := by decide +kernel
theorem a_X5_tick_116 : ix_at mT_X5_tick 116 = some (.iinc 3 1, 3) := by decide +kernel
theorem a_X5_tick_119 : ix_at mT_X5_tick 119 = some (.goto (-80), 3) := by decide +kernel
theorem a_X5_tick_122 : ix_at mT_X5_tick 122 = some (.iload_n 2, 1) := by decide +kernel
theorem a_X5_tick_123 : ix_at mT_X5_tick 123 = some (.ireturn, 1) := by decide +kernel
theorem a_X5_manyOf_0 : ix_at mT_X5_manyOf 0 = some (.iconst 0, 1) := by decide +kernel
theorem a_X5_manyOf_1 : ix_at mT_X5_manyOf 1 = some (.istore_n 2, 1) := by decide +kernel
theorem a_X5_manyOf_2 : ix_at mT_X5_manyOf 2 = some (.iconst 0, 1) := by decide +kernel
theorem a_X5_manyOf_3 : ix_at mT_X5_manyOf 3 = some (.istore_n 3, 1) := by decide +kernel
theorem a_X5_manyOf_4 : ix_at mT_X5_manyOf 4 = some (.iload_n 3, 1) := by decide +kernel
theorem a_X5_manyOf_5 : ix_at mT_X5_manyOf 5 = some (.aload_n 0, 1) := by decide +kernel
theorem a_X5_manyOf_6 : ix_at mT_X5_manyOf 6 = some (.getfield 106, 3) := by decide +kernel
theorem a_X5_manyOf_9 : ix_at mT_X5_manyOf 9 = some (.if_icmp .ge 27, 3) := by decide +kernel
theorem a_X5_manyOf_12 : ix_at mT_X5_manyOf 12 = some (.iload_n 2, 1) := by decide +kernel
theorem a_X5_manyOf_13 : ix_at mT_X5_manyOf 13 = some (.aload_n 0, 1) := by decide +kernel
theorem a_X5_manyOf_14 : ix_at mT_X5_manyOf 14 = some (.getfield 9, 3) := by decide +kernel
theorem a_X5_manyOf_17 : ix_at mT_X5_manyOf 17 = some (.iload_n 3, 1) := by decide +kernel
theorem a_X5_manyOf_18 : ix_at mT_X5_manyOf 18 = some (.iaload, 1) := by decide +kernel
theorem a_X5_manyOf_19 : ix_at mT_X5_manyOf 19 = some (.iload_n 1, 1) := by decide +kernel
theorem a_X5_manyOf_20 : ix_at mT_X5_manyOf 20 = some (.if_icmp .ne 7, 3) := by decide +kernel
theorem a_X5_manyOf_23 : ix_at mT_X5_manyOf 23 = some (.iconst 1, 1) := by decide +kernel
theorem a_X5_manyOf_24 : ix_at mT_X5_manyOf 24 = some (.goto 4, 3) := by decide +kernel
theorem a_X5_manyOf_27 : ix_at mT_X5_manyOf 27 = some (.iconst 0, 1) := by decide +kernel
theorem a_X5_manyOf_28 : ix_at mT_X5_manyOf 28 = some (.iadd, 1) := by decide +kernel
theorem a_X5_manyOf_29 : ix_at mT_X5_manyOf 29 = some (.istore_n 2, 1) := by decide +kernel
theorem a_X5_manyOf_30 : ix_at mT_X5_manyOf 30 = some (.iinc 3 1, 3) := by decide +kernel
theorem a_X5_manyOf_33 : ix_at mT_X5_manyOf 33 = some (.goto (-29), 3) := by decide +kernel
theorem a_X5_manyOf_36 : ix_at mT_X5_manyOf 36 = some (.iload_n 2, 1) := by decide +kernel
theorem a_X5_manyOf_37 : ix_at mT_X5_manyOf 37 = some (.ireturn, 1) := by decide +kernel
theorem a_X5_stable_0 : ix_at mT_X5_stable 0 = some (.iconst 0, 1) := by decide +kernel
theorem a_X5_stable_1 : ix_at mT_X5_stable 1 = some (.istore_n 2, 1) := by decide +kernel
theorem a_X5_stable_2 : ix_at mT_X5_stable 2 = some (.iconst 0, 1) := by decide +kernel
theorem a_X5_stable_3 : ix_at mT_X5_stable 3 = some (.istore_n 3, 1) := by decide +kernel
theorem a_X5_stable_4 : ix_at mT_X5_stable 4 = some (.iload_n 3, 1) := by decide +kernel
theorem a_X5_stable_5 : ix_at mT_X5_stable 5 = some (.aload_n 0, 1) := by decide +kernel
theorem a_X5_stable_6 : ix_at mT_X5_stable 6 = some (.getfield 106, 3) := by decide +kernel
theorem a_X5_stable_9 : ix_at mT_X5_stable 9 = some (.if_icmp .ge 51, 3) := by decide +kernel
theorem a_X5_stable_12 : ix_at mT_X5_stable 12 = some (.aload_n 0, 1) := by decide +kernel
theorem a_X5_stable_13 : ix_at mT_X5_stable 13 = some (.getfield 9, 3) := by decide +kernel
theorem a_X5_stable_16 : ix_at mT_X5_stable 16 = some (.iload_n 3, 1) := by decide +kernel
theorem a_X5_stable_17 : ix_at mT_X5_stable 17 = some (.iaload, 1) := by decide +kernel
theorem a_X5_stable_18 : ix_at mT_X5_stable 18 = some (.iload_n 1, 1) := by decide +kernel
theorem a_X5_stable_19 : ix_at mT_X5_stable 19 = some (.if_icmp .eq 6, 3) := by decide +kernel
theorem a_X5_stable_22 : ix_at mT_X5_stable 22 = some (.goto 32, 3) := by decide +kernel
theorem a_X5_stable_25 : ix_at mT_X5_stable 25 = some (.aload_n 0, 1) := by decide +kernel
theorem a_X5_stable_26 : ix_at mT_X5_stable 26 = some (.getfield 13, 3) := by decide +kernel
theorem a_X5_stable_29 : ix_at mT_X5_stable 29 = some (.iload_n 3, 1) := by decide +kernel
theorem a_X5_stable_30 : ix_at mT_X5_stable 30 = some (.iaload, 1) := by decide +kernel
theorem a_X5_stable_31 : ix_at mT_X5_stable 31 = some (.iconst 1, 1) := by decide +kernel
theorem a_X5_stable_32 : ix_at mT_X5_stable 32 = some (.if_icmp .ne 19, 3) := by decide +kernel
theorem a_X5_stable_35 : ix_at mT_X5_stable 35 = some (.aload_n 0, 1) := by decide +kernel
theorem a_X5_stable_36 : ix_at mT_X5_stable 36 = some (.getfield 55, 3) := by decide +kernel
theorem a_X5_stable_39 : ix_at mT_X5_stable 39 = some (.aload_n 0, 1) := by decide +kernel
theorem a_X5_stable_40 : ix_at mT_X5_stable 40 = some (.getfield 28, 3) := by decide +kernel
theorem a_X5_stable_43 : ix_at mT_X5_stable 43 = some (.iload_n 3, 1) := by decide +kernel
theorem a_X5_stable_44 : ix_at mT_X5_stable 44 = some (.iaload, 1) := by decide +kernel
theorem a_X5_stable_45 : ix_at mT_X5_stable 45 = some (.iaload, 1) := by decide +kernel
theorem a_X5_stable_46 : ix_at mT_X5_stable 46 = some (.ifCond .ne 5, 3) := by decide +kernel
theorem a_X5_stable_49 : ix_at mT_X5_stable 49 = some (.iload_n 2, 1) := by decide +kernel
theorem a_X5_stable_50 : ix_at mT_X5_stable 50 = some (.ireturn, 1) := by decide +kernel
theorem a_X5_stable_51 : ix_at mT_X5_stable 51 = some (.iinc 2 1, 3) := by decide +kernel
theorem a_X5_stable_54 : ix_at mT_X5_stable 54 = some (.iinc 3 1, 3) := by decide +kernel
theorem a_X5_stable_57 : ix_at mT_X5_stable 57 = some (.goto (-53), 3) := by decide +kernel
theorem a_X5_stable_60 : ix_at mT_X5_stable 60 = some (.iload_n 2, 1) := by decide +kernel
theorem a_X5_stable_61 : ix_at mT_X5_stable 61 = some (.ireturn, 1) := by decide +kernel
theorem a_X5_isSeen_0 : ix_at mT_X5_isSeen 0 = some (.aload_n 0, 1) := by decide +kernel
theorem a_X5_isSeen_1 : ix_at mT_X5_isSeen 1 = some (.getfield 13, 3) := by decide +kernel
theorem a_X5_isSeen_4 : ix_at mT_X5_isSeen 4 = some (.iload_n 1, 1) := by decide +kernel
theorem a_X5_isSeen_5 : ix_at mT_X5_isSeen 5 = some (.iaload, 1) := by decide +kernel
theorem a_X5_isSeen_6 : ix_at mT_X5_isSeen 6 = some (.iconst 1, 1) := by decide +kernel
theorem a_X5_isSeen_7 : ix_at mT_X5_isSeen 7 = some (.if_icmp .le 5, 3) := by decide +kernel
theorem a_X5_isSeen_10 : ix_at mT_X5_isSeen 10 = some (.iconst 0, 1) := by decide +kernel
theorem a_X5_isSeen_11 : ix_at mT_X5_isSeen 11 = some (.ireturn, 1) := by decide +kernel
theorem a_X5_isSeen_12 : ix_at mT_X5_isSeen 12 = some (.iload_n 2, 1) := by decide +kernel
theorem a_X5_isSeen_13 : ix_at mT_X5_isSeen 13 = some (.ifCond .eq 33, 3) := by decide +kernel
theorem a_X5_isSeen_16 : ix_at mT_X5_isSeen 16 = some (.iload_n 3, 1) := by decide +kernel
theorem a_X5_isSeen_17 : ix_at mT_X5_isSeen 17 = some (.iload 4, 2) := by decide +kernel
theorem a_X5_isSeen_19 : ix_at mT_X5_isSeen 19 = some (.if_icmp .ge 31, 3) := by decide +kernel
theorem a_X5_isSeen_22 : ix_at mT_X5_isSeen 22 = some (.aload_n 0, 1) := by decide +kernel
theorem a_X5_isSeen_23 : ix_at mT_X5_isSeen 23 = some (.getfield 13, 3) := by decide +kernel
theorem a_X5_isSeen_26 : ix_at mT_X5_isSeen 26 = some (.iload_n 1, 1) := by decide +kernel
theorem a_X5_isSeen_27 : ix_at mT_X5_isSeen 27 = some (.iaload, 1) := by decide +kernel
theorem a_X5_isSeen_28 : ix_at mT_X5_isSeen 28 = some (.ifCond .eq 18, 3) := by decide +kernel
theorem a_X5_isSeen_31 : ix_at mT_X5_isSeen 31 = some (.aload_n 0, 1) := by decide +kernel
theorem a_X5_isSeen_32 : ix_at mT_X5_isSeen 32 = some (.getfield 55, 3) := by decide +kernel
theorem a_X5_isSeen_35 : ix_at mT_X5_isSeen 35 = some (.aload_n 0, 1) := by decide +kernel
theorem a_X5_isSeen_36 : ix_at mT_X5_isSeen 36 = some (.getfield 28, 3) := by decide +kernel
theorem a_X5_isSeen_39 : ix_at mT_X5_isSeen 39 = some (.iload_n 1, 1) := by decide +kernel
theorem a_X5_isSeen_40 : ix_at mT_X5_isSeen 40 = some (.iaload, 1) := by decide +kernel
theorem a_X5_isSeen_41 : ix_at mT_X5_isSeen 41 = some (.iaload, 1) := by decide +kernel
theorem a_X5_isSeen_42 : ix_at mT_X5_isSeen 42 = some (.iconst 1, 1) := by decide +kernel
theorem a_X5_isSeen_43 : ix_at mT_X5_isSeen 43 = some (.if_icmp .ne 7, 3) := by decide +kernel
theorem a_X5_isSeen_46 : ix_at mT_X5_isSeen 46 = some (.iconst 1, 1) := by decide +kernel
theorem a_X5_isSeen_47 : ix_at mT_X5_isSeen 47 = some (.goto 4, 3) := by decide +kernel
theorem a_X5_isSeen_50 : ix_at mT_X5_isSeen 50 = some (.iconst 0, 1) := by decide +kernel
theorem a_X5_isSeen_51 : ix_at mT_X5_isSeen 51 = some (.ireturn, 1) := by decide +kernel
theorem a_X5_fetch_0 : ix_at mT_X5_fetch 0 = some (.aload_n 0, 1) := by decide +kernel
theorem a_X5_fetch_1 : ix_at mT_X5_fetch 1 = some (.iconst 0, 1) := by decide +kernel
theorem a_X5_fetch_2 : ix_at mT_X5_fetch 2 = some (.putfield 115, 3) := by decide +kernel
theorem a_X5_fetch_5 : ix_at mT_X5_fetch 5 = some (.aload_n 0, 1) := by decide +kernel
theorem a_X5_fetch_6 : ix_at mT_X5_fetch 6 = some (.getfield 99, 3) := by decide +kernel
theorem a_X5_fetch_9 : ix_at mT_X5_fetch 9 = some (.ifCond .ne 15, 3) := by decide +kernel
theorem a_X5_fetch_12 : ix_at mT_X5_fetch 12 = some (.aload_n 0, 1) := by decide +kernel
theorem a_X5_fetch_13 : ix_at mT_X5_fetch 13 = some (.iload_n 1, 1) := by decide +kernel
theorem a_X5_fetch_14 : ix_at mT_X5_fetch 14 = some (.invokevirtual 185, 3) := by decide +kernel
theorem a_X5_fetch_17 : ix_at mT_X5_fetch 17 = some (.ifCond .eq 7, 3) := by decide +kernel
theorem a_X5_fetch_20 : ix_at mT_X5_fetch 20 = some (.iload_n 2, 1) := by decide +kernel
theorem a_X5_fetch_21 : ix_at mT_X5_fetch 21 = some (.ifCond .ge 5, 3) := by decide +kernel
theorem a_X5_fetch_24 : ix_at mT_X5_fetch 24 = some (.iconst (-1), 1) := by decide +kernel
theorem a_X5_fetch_25 : ix_at mT_X5_fetch 25 = some (.ireturn, 1) := by decide +kernel
theorem a_X5_fetch_26 : ix_at mT_X5_fetch 26 = some (.aload_n 0, 1) := by decide +kernel
theorem a_X5_fetch_27 : ix_at mT_X5_fetch 27 = some (.iload_n 1, 1) := by decide +kernel
theorem a_X5_fetch_28 : ix_at mT_X5_fetch 28 = some (.invokevirtual 192, 3) := by decide +kernel
theorem a_X5_fetch_31 : ix_at mT_X5_fetch 31 = some (.istore 4, 2) := by decide +kernel
theorem a_X5_fetch_33 : ix_at mT_X5_fetch 33 = some (.iconst 0, 1) := by decide +kernel
theorem a_X5_fetch_34 : ix_at mT_X5_fetch 34 = some (.istore 5, 2) := by decide +kernel
theorem a_X5_fetch_36 : ix_at mT_X5_fetch 36 = some (.iconst 0, 1) := by decide +kernel
theorem a_X5_fetch_37 : ix_at mT_X5_fetch 37 = some (.istore 6, 2) := by decide +kernel
theorem a_X5_fetch_39 : ix_at mT_X5_fetch 39 = some (.iload 6, 2) := by decide +kernel
theorem a_X5_fetch_41 : ix_at mT_X5_fetch 41 = some (.aload_n 0, 1) := by decide +kernel
theorem a_X5_fetch_42 : ix_at mT_X5_fetch 42 = some (.getfield 106, 3) := by decide +kernel
theorem a_X5_fetch_45 : ix_at mT_X5_fetch 45 = some (.if_icmp .ge 98, 3) := by decide +kernel
theorem a_X5_fetch_48 : ix_at mT_X5_fetch 48 = some (.aload_n 0, 1) := by decide +kernel
theorem a_X5_fetch_49 : ix_at mT_X5_fetch 49 = some (.getfield 9, 3) := by decide +kernel
theorem a_X5_fetch_52 : ix_at mT_X5_fetch 52 = some (.iload 6, 2) := by decide +kernel
theorem a_X5_fetch_54 : ix_at mT_X5_fetch 54 = some (.iaload, 1) := by decide +kernel
theorem a_X5_fetch_55 : ix_at mT_X5_fetch 55 = some (.iload_n 1, 1) := by decide +kernel
theorem a_X5_fetch_56 : ix_at mT_X5_fetch 56 = some (.if_icmp .eq 6, 3) := by decide +kernel
theorem a_X5_fetch_59 : ix_at mT_X5_fetch 59 = some (.goto 78, 3) := by decide +kernel
theorem a_X5_fetch_62 : ix_at mT_X5_fetch 62 = some (.iload 5, 2) := by decide +kernel
theorem a_X5_fetch_64 : ix_at mT_X5_fetch 64 = some (.iload_n 2, 1) := by decide +kernel
theorem a_X5_fetch_65 : ix_at mT_X5_fetch 65 = some (.if_icmp .lt 69, 3) := by decide +kernel
theorem a_X5_fetch_68 : ix_at mT_X5_fetch 68 = some (.aload_n 0, 1) := by decide +kernel
theorem a_X5_fetch_69 : ix_at mT_X5_fetch 69 = some (.iload 6, 2) := by decide +kernel
theorem a_X5_fetch_71 : ix_at mT_X5_fetch 71 = some (.iload_n 3, 1) := by decide +kernel
theorem a_X5_fetch_72 : ix_at mT_X5_fetch 72 = some (.iload 5, 2) := by decide +kernel
theorem a_X5_fetch_74 : ix_at mT_X5_fetch 74 = some (.iload 4, 2) := by decide +kernel
theorem a_X5_fetch_76 : ix_at mT_X5_fetch 76 = some (.invokevirtual 195, 3) := by decide +kernel
theorem a_X5_fetch_79 : ix_at mT_X5_fetch 79 = some (.ifCond .eq 55, 3) := by decide +kernel
theorem a_X5_fetch_82 : ix_at mT_X5_fetch 82 = some (.aload_n 0, 1) := by decide +kernel
theorem a_X5_fetch_83 : ix_at mT_X5_fetch 83 = some (.aload_n 0, 1) := by decide +kernel
theorem a_X5_fetch_84 : ix_at mT_X5_fetch 84 = some (.getfield 25, 3) := by decide +kernel
theorem a_X5_fetch_87 : ix_at mT_X5_fetch 87 = some (.iload 6, 2) := by decide +kernel
theorem a_X5_fetch_89 : ix_at mT_X5_fetch 89 = some (.iaload, 1) := by decide +kernel
theorem a_X5_fetch_90 : ix_at mT_X5_fetch 90 = some (.putfield 115, 3) := by decide +kernel
theorem a_X5_fetch_93 : ix_at mT_X5_fetch 93 = some (.iconst 0, 1) := by decide +kernel
theorem a_X5_fetch_94 : ix_at mT_X5_fetch 94 = some (.istore 7, 2) := by decide +kernel
theorem a_X5_fetch_96 : ix_at mT_X5_fetch 96 = some (.iload 7, 2) := by decide +kernel
theorem a_X5_fetch_98 : ix_at mT_X5_fetch 98 = some (.aload_n 0, 1) := by decide +kernel
theorem a_X5_fetch_99 : ix_at mT_X5_fetch 99 = some (.getfield 115, 3) := by decide +kernel
theorem a_X5_fetch_102 : ix_at mT_X5_fetch 102 = some (.if_icmp .ge 29, 3) := by decide +kernel
theorem a_X5_fetch_105 : ix_at mT_X5_fetch 105 = some (.aload_n 0, 1) := by decide +kernel
theorem a_X5_fetch_106 : ix_at mT_X5_fetch 106 = some (.getfield 70, 3) := by decide +kernel
theorem a_X5_fetch_109 : ix_at mT_X5_fetch 109 = some (.iload 7, 2) := by decide +kernel
theorem a_X5_fetch_111 : ix_at mT_X5_fetch 111 = some (.aload_n 0, 1) := by decide +kernel
theorem a_X5_fetch_112 : ix_at mT_X5_fetch 112 = some (.getfield 32, 3) := by decide +kernel
theorem a_X5_fetch_115 : ix_at mT_X5_fetch 115 = some (.bipush 40, 2) := by decide +kernel
theorem a_X5_fetch_117 : ix_at mT_X5_fetch 117 = some (.iload 6, 2) := by decide +kernel
theorem a_X5_fetch_119 : ix_at mT_X5_fetch 119 = some (.imul, 1) := by decide +kernel
theorem a_X5_fetch_120 : ix_at mT_X5_fetch 120 = some (.iload 7, 2) := by decide +kernel
theorem a_X5_fetch_122 : ix_at mT_X5_fetch 122 = some (.iadd, 1) := by decide +kernel
theorem a_X5_fetch_123 : ix_at mT_X5_fetch 123 = some (.baload, 1) := by decide +kernel
theorem a_X5_fetch_124 : ix_at mT_X5_fetch 124 = some (.bastore, 1) := by decide +kernel
theorem a_X5_fetch_125 : ix_at mT_X5_fetch 125 = some (.iinc 7 1, 3) := by decide +kernel
theorem a_X5_fetch_128 : ix_at mT_X5_fetch 128 = some (.goto (-32), 3) := by decide +kernel
theorem a_X5_fetch_131 : ix_at mT_X5_fetch 131 = some (.iload 5, 2) := by decide +kernel
theorem a_X5_fetch_133 : ix_at mT_X5_fetch 133 = some (.ireturn, 1) := by decide +kernel
theorem a_X5_fetch_134 : ix_at mT_X5_fetch 134 = some (.iinc 5 1, 3) := by decide +kernel
theorem a_X5_fetch_137 : ix_at mT_X5_fetch 137 = some (.iinc 6 1, 3) := by decide +kernel
theorem a_X5_fetch_140 : ix_at mT_X5_fetch 140 = some (.goto (-101), 3) := by decide +kernel
theorem a_X5_fetch_143 : ix_at mT_X5_fetch 143 = some (.iconst (-1), 1) := by decide +kernel
theorem a_X5_fetch_144 : ix_at mT_X5_fetch 144 = some (.ireturn, 1) := by decide +kernel
theorem a_X5_answer_0 : ix_at mT_X5_answer 0 = some (.iload_n 1, 1) := by decide +kernel
theorem a_X5_answer_1 : ix_at mT_X5_answer 1 = some (.ifCond .lt 11, 3) := by decide +kernel
theorem a_X5_answer_4 : ix_at mT_X5_answer 4 = some (.iload_n 1, 1) := by decide +kernel
theorem a_X5_answer_5 : ix_at mT_X5_answer 5 = some (.aload_n 0, 1) := by decide +kernel
theorem a_X5_answer_6 : ix_at mT_X5_answer 6 = some (.getfield 115, 3) := by decide +kernel
theorem a_X5_answer_9 : ix_at mT_X5_answer 9 = some (.if_icmp .lt 7, 3) := by decide +kernel
theorem a_X5_answer_12 : ix_at mT_X5_answer 12 = some (.iconst (-1), 1) := by decide +kernel
theorem a_X5_answer_13 : ix_at mT_X5_answer 13 = some (.goto 13, 3) := by decide +kernel
theorem a_X5_answer_16 : ix_at mT_X5_answer 16 = some (.aload_n 0, 1) := by decide +kernel
theorem a_X5_answer_17 : ix_at mT_X5_answer 17 = some (.getfield 70, 3) := by decide +kernel
theorem a_X5_answer_20 : ix_at mT_X5_answer 20 = some (.iload_n 1, 1) := by decide +kernel
theorem a_X5_answer_21 : ix_at mT_X5_answer 21 = some (.baload, 1) := by decide +kernel
theorem a_X5_answer_22 : ix_at mT_X5_answer 22 = some (.sipush 255, 3) := by decide +kernel
theorem a_X5_answer_25 : ix_at mT_X5_answer 25 = some (.iand, 1) := by decide +kernel
theorem a_X5_answer_26 : ix_at mT_X5_answer 26 = some (.ireturn, 1) := by decide +kernel
theorem a_X5_feed_0 : ix_at mT_X5_feed 0 = some (.iload_n 1, 1) := by decide +kernel
theorem a_X5_feed_1 : ix_at mT_X5_feed 1 = some (.iconst 1, 1) := by decide +kernel
theorem a_X5_feed_2 : ix_at mT_X5_feed 2 = some (.if_icmp .lt 20, 3) := by decide +kernel
theorem a_X5_feed_5 : ix_at mT_X5_feed 5 = some (.iload_n 1, 1) := by decide +kernel
theorem a_X5_feed_6 : ix_at mT_X5_feed 6 = some (.bipush 16, 2) := by decide +kernel
theorem a_X5_feed_8 : ix_at mT_X5_feed 8 = some (.if_icmp .gt 14, 3) := by decide +kernel
theorem a_X5_feed_11 : ix_at mT_X5_feed 11 = some (.aload_n 0, 1) := by decide +kernel
theorem a_X5_feed_12 : ix_at mT_X5_feed 12 = some (.getfield 168, 3) := by decide +kernel
theorem a_X5_feed_15 : ix_at mT_X5_feed 15 = some (.iload_n 1, 1) := by decide +kernel
theorem a_X5_feed_16 : ix_at mT_X5_feed 16 = some (.iadd, 1) := by decide +kernel
theorem a_X5_feed_17 : ix_at mT_X5_feed 17 = some (.bipush 40, 2) := by decide +kernel
theorem a_X5_feed_19 : ix_at mT_X5_feed 19 = some (.if_icmp .le 5, 3) := by decide +kernel
theorem a_X5_feed_22 : ix_at mT_X5_feed 22 = some (.iconst (-1), 1) := by decide +kernel
theorem a_X5_feed_23 : ix_at mT_X5_feed 23 = some (.ireturn, 1) := by decide +kernel
theorem a_X5_feed_24 : ix_at mT_X5_feed 24 = some (.iconst 0, 1) := by decide +kernel
theorem a_X5_feed_25 : ix_at mT_X5_feed 25 = some (.istore 6, 2) := by decide +kernel
theorem a_X5_feed_27 : ix_at mT_X5_feed 27 = some (.iload 6, 2) := by decide +kernel
theorem a_X5_feed_29 : ix_at mT_X5_feed 29 = some (.iload_n 1, 1) := by decide +kernel
theorem a_X5_feed_30 : ix_at mT_X5_feed 30 = some (.if_icmp .ge 52, 3) := by decide +kernel
theorem a_X5_feed_33 : ix_at mT_X5_feed 33 = some (.aload_n 0, 1) := by decide +kernel
theorem a_X5_feed_34 : ix_at mT_X5_feed 34 = some (.getfield 67, 3) := by decide +kernel
theorem a_X5_feed_37 : ix_at mT_X5_feed 37 = some (.aload_n 0, 1) := by decide +kernel
theorem a_X5_feed_38 : ix_at mT_X5_feed 38 = some (.getfield 168, 3) := by decide +kernel
theorem a_X5_feed_41 : ix_at mT_X5_feed 41 = some (.iload 6, 2) := by decide +kernel
theorem a_X5_feed_43 : ix_at mT_X5_feed 43 = some (.bipush 8, 2) := by decide +kernel
theorem a_X5_feed_45 : ix_at mT_X5_feed 45 = some (.if_icmp .ge 7, 3) := by decide +kernel
theorem a_X5_feed_48 : ix_at mT_X5_feed 48 = some (.lload_n 2, 1) := by decide +kernel
theorem a_X5_feed_49 : ix_at mT_X5_feed 49 = some (.goto 5, 3) := by decide +kernel
theorem a_X5_feed_52 : ix_at mT_X5_feed 52 = some (.lload 4, 2) := by decide +kernel
theorem a_X5_feed_54 : ix_at mT_X5_feed 54 = some (.bipush 8, 2) := by decide +kernel
theorem a_X5_feed_56 : ix_at mT_X5_feed 56 = some (.iload 6, 2) := by decide +kernel
theorem a_X5_feed_58 : ix_at mT_X5_feed 58 = some (.bipush 8, 2) := by decide +kernel
theorem a_X5_feed_60 : ix_at mT_X5_feed 60 = some (.irem, 1) := by decide +kernel
theorem a_X5_feed_61 : ix_at mT_X5_feed 61 = some (.imul, 1) := by decide +kernel
theorem a_X5_feed_62 : ix_at mT_X5_feed 62 = some (.lshr, 1) := by decide +kernel
theorem a_X5_feed_63 : ix_at mT_X5_feed 63 = some (.l2i, 1) := by decide +kernel
theorem a_X5_feed_64 : ix_at mT_X5_feed 64 = some (.i2b, 1) := by decide +kernel
theorem a_X5_feed_65 : ix_at mT_X5_feed 65 = some (.bastore, 1) := by decide +kernel
theorem a_X5_feed_66 : ix_at mT_X5_feed 66 = some (.aload_n 0, 1) := by decide +kernel
theorem a_X5_feed_67 : ix_at mT_X5_feed 67 = some (.dup, 1) := by decide +kernel
theorem a_X5_feed_68 : ix_at mT_X5_feed 68 = some (.getfield 168, 3) := by decide +kernel
theorem a_X5_feed_71 : ix_at mT_X5_feed 71 = some (.iconst 1, 1) := by decide +kernel
theorem a_X5_feed_72 : ix_at mT_X5_feed 72 = some (.iadd, 1) := by decide +kernel
theorem a_X5_feed_73 : ix_at mT_X5_feed 73 = some (.putfield 168, 3) := by decide +kernel
theorem a_X5_feed_76 : ix_at mT_X5_feed 76 = some (.iinc 6 1, 3) := by decide +kernel
theorem a_X5_feed_79 : ix_at mT_X5_feed 79 = some (.goto (-52), 3) := by decide +kernel
theorem a_X5_feed_82 : ix_at mT_X5_feed 82 = some (.aload_n 0, 1) := by decide +kernel
theorem a_X5_feed_83 : ix_at mT_X5_feed 83 = some (.getfield 168, 3) := by decide +kernel
theorem a_X5_feed_86 : ix_at mT_X5_feed 86 = some (.ireturn, 1) := by decide +kernel
theorem a_X5_sync_0 : ix_at mT_X5_sync 0 = some (.aload_n 0, 1) := by decide +kernel
theorem a_X5_sync_1 : ix_at mT_X5_sync 1 = some (.getfield 99, 3) := by decide +kernel
theorem a_X5_sync_4 : ix_at mT_X5_sync 4 = some (.ifCond .eq 5, 3) := by decide +kernel
theorem a_X5_sync_7 : ix_at mT_X5_sync 7 = some (.iconst (-1), 1) := by decide +kernel
theorem a_X5_sync_8 : ix_at mT_X5_sync 8 = some (.ireturn, 1) := by decide +kernel
theorem a_X5_sync_9 : ix_at mT_X5_sync 9 = some (.aload_n 0, 1) := by decide +kernel
theorem a_X5_sync_10 : ix_at mT_X5_sync 10 = some (.invokevirtual 199, 3) := by decide +kernel
theorem a_X5_sync_13 : ix_at mT_X5_sync 13 = some (.istore_n 1, 1) := by decide +kernel
theorem a_X5_sync_14 : ix_at mT_X5_sync 14 = some (.aload_n 0, 1) := by decide +kernel
theorem a_X5_sync_15 : ix_at mT_X5_sync 15 = some (.aload_n 0, 1) := by decide +kernel
theorem a_X5_sync_16 : ix_at mT_X5_sync 16 = some (.getfield 106, 3) := by decide +kernel
theorem a_X5_sync_19 : ix_at mT_X5_sync 19 = some (.putfield 109, 3) := by decide +kernel
theorem a_X5_sync_22 : ix_at mT_X5_sync 22 = some (.iload_n 1, 1) := by decide +kernel
theorem a_X5_sync_23 : ix_at mT_X5_sync 23 = some (.ireturn, 1) := by decide +kernel
theorem a_X5_crash_0 : ix_at mT_X5_crash 0 = some (.aload_n 0, 1) := by decide +kernel
theorem a_X5_crash_1 : ix_at mT_X5_crash 1 = some (.getfield 99, 3) := by decide +kernel
theorem a_X5_crash_4 : ix_at mT_X5_crash 4 = some (.ifCond .eq 5, 3) := by decide +kernel
theorem a_X5_crash_7 : ix_at mT_X5_crash 7 = some (.iconst (-1), 1) := by decide +kernel
theorem a_X5_crash_8 : ix_at mT_X5_crash 8 = some (.ireturn, 1) := by decide +kernel
theorem a_X5_crash_9 : ix_at mT_X5_crash 9 = some (.aload_n 0, 1) := by decide +kernel
theorem a_X5_crash_10 : ix_at mT_X5_crash 10 = some (.invokevirtual 199, 3) := by decide +kernel
theorem a_X5_crash_13 : ix_at mT_X5_crash 13 = some (.istore_n 2, 1) := by decide +kernel
theorem a_X5_crash_14 : ix_at mT_X5_crash 14 = some (.iload_n 1, 1) := by decide +kernel
theorem a_X5_crash_15 : ix_at mT_X5_crash 15 = some (.ifCond .lt 8, 3) := by decide +kernel
theorem a_X5_crash_18 : ix_at mT_X5_crash 18 = some (.iload_n 1, 1) := by decide +kernel
theorem a_X5_crash_19 : ix_at mT_X5_crash 19 = some (.iload_n 2, 1) := by decide +kernel
theorem a_X5_crash_20 : ix_at mT_X5_crash 20 = some (.if_icmp .le 6, 3) := by decide +kernel
theorem a_X5_crash_23 : ix_at mT_X5_crash 23 = some (.bipush (-2), 2) := by decide +kernel
theorem a_X5_crash_25 : ix_at mT_X5_crash 25 = some (.ireturn, 1) := by decide +kernel
theorem a_X5_crash_26 : ix_at mT_X5_crash 26 = some (.iload_n 1, 1) := by decide +kernel
theorem a_X5_crash_27 : ix_at mT_X5_crash 27 = some (.istore_n 3, 1) := by decide +kernel
theorem a_X5_crash_28 : ix_at mT_X5_crash 28 = some (.aload_n 0, 1) := by decide +kernel
theorem a_X5_crash_29 : ix_at mT_X5_crash 29 = some (.getfield 109, 3) := by decide +kernel
theorem a_X5_crash_32 : ix_at mT_X5_crash 32 = some (.istore 4, 2) := by decide +kernel
theorem a_X5_crash_34 : ix_at mT_X5_crash 34 = some (.iload 4, 2) := by decide +kernel
theorem a_X5_crash_36 : ix_at mT_X5_crash 36 = some (.aload_n 0, 1) := by decide +kernel
theorem a_X5_crash_37 : ix_at mT_X5_crash 37 = some (.getfield 106, 3) := by decide +kernel
theorem a_X5_crash_40 : ix_at mT_X5_crash 40 = some (.if_icmp .ge 28, 3) := by decide +kernel
theorem a_X5_crash_43 : ix_at mT_X5_crash 43 = some (.aload_n 0, 1) := by decide +kernel
theorem a_X5_crash_44 : ix_at mT_X5_crash 44 = some (.iload 4, 2) := by decide +kernel
theorem a_X5_crash_46 : ix_at mT_X5_crash 46 = some (.invokevirtual 121, 3) := by decide +kernel
theorem a_X5_crash_49 : ix_at mT_X5_crash 49 = some (.iload_n 3, 1) := by decide +kernel
theorem a_X5_crash_50 : ix_at mT_X5_crash 50 = some (.if_icmp .gt 18, 3) := by decide +kernel
theorem a_X5_crash_53 : ix_at mT_X5_crash 53 = some (.iload_n 3, 1) := by decide +kernel
theorem a_X5_crash_54 : ix_at mT_X5_crash 54 = some (.aload_n 0, 1) := by decide +kernel
theorem a_X5_crash_55 : ix_at mT_X5_crash 55 = some (.iload 4, 2) := by decide +kernel
theorem a_X5_crash_57 : ix_at mT_X5_crash 57 = some (.invokevirtual 121, 3) := by decide +kernel
theorem a_X5_crash_60 : ix_at mT_X5_crash 60 = some (.isub, 1) := by decide +kernel
theorem a_X5_crash_61 : ix_at mT_X5_crash 61 = some (.istore_n 3, 1) := by decide +kernel
theorem a_X5_crash_62 : ix_at mT_X5_crash 62 = some (.iinc 4 1, 3) := by decide +kernel
theorem a_X5_crash_65 : ix_at mT_X5_crash 65 = some (.goto (-31), 3) := by decide +kernel
theorem a_X5_crash_68 : ix_at mT_X5_crash 68 = some (.aload_n 0, 1) := by decide +kernel
theorem a_X5_crash_69 : ix_at mT_X5_crash 69 = some (.iload 4, 2) := by decide +kernel
theorem a_X5_crash_71 : ix_at mT_X5_crash 71 = some (.putfield 106, 3) := by decide +kernel
theorem a_X5_crash_74 : ix_at mT_X5_crash 74 = some (.aload_n 0, 1) := by decide +kernel
theorem a_X5_crash_75 : ix_at mT_X5_crash 75 = some (.iload 4, 2) := by decide +kernel
theorem a_X5_crash_77 : ix_at mT_X5_crash 77 = some (.putfield 109, 3) := by decide +kernel
theorem a_X5_crash_80 : ix_at mT_X5_crash 80 = some (.aload_n 0, 1) := by decide +kernel
theorem a_X5_crash_81 : ix_at mT_X5_crash 81 = some (.iload_n 3, 1) := by decide +kernel
theorem a_X5_crash_82 : ix_at mT_X5_crash 82 = some (.putfield 112, 3) := by decide +kernel
theorem a_X5_crash_85 : ix_at mT_X5_crash 85 = some (.aload_n 0, 1) := by decide +kernel
theorem a_X5_crash_86 : ix_at mT_X5_crash 86 = some (.iconst 1, 1) := by decide +kernel
theorem a_X5_crash_87 : ix_at mT_X5_crash 87 = some (.putfield 99, 3) := by decide +kernel
theorem a_X5_crash_90 : ix_at mT_X5_crash 90 = some (.aload_n 0, 1) := by decide +kernel
theorem a_X5_crash_91 : ix_at mT_X5_crash 91 = some (.invokevirtual 118, 3) := by decide +kernel
theorem a_X5_crash_94 : ix_at mT_X5_crash 94 = some (.iload_n 2, 1) := by decide +kernel
theorem a_X5_crash_95 : ix_at mT_X5_crash 95 = some (.iload_n 1, 1) := by decide +kernel
theorem a_X5_crash_96 : ix_at mT_X5_crash 96 = some (.isub, 1) := by decide +kernel
theorem a_X5_crash_97 : ix_at mT_X5_crash 97 = some (.ireturn, 1) := by decide +kernel
theorem a_X5_tells_0 : ix_at mT_X5_tells 0 = some (.aload_n 0, 1) := by decide +kernel
theorem a_X5_tells_1 : ix_at mT_X5_tells 1 = some (.getfield 16, 3) := by decide +kernel
theorem a_X5_tells_4 : ix_at mT_X5_tells 4 = some (.iload_n 1, 1) := by decide +kernel
theorem a_X5_tells_5 : ix_at mT_X5_tells 5 = some (.iaload, 1) := by decide +kernel
theorem a_X5_tells_6 : ix_at mT_X5_tells 6 = some (.istore_n 2, 1) := by decide +kernel
theorem a_X5_tells_7 : ix_at mT_X5_tells 7 = some (.aload_n 0, 1) := by decide +kernel
theorem a_X5_tells_8 : ix_at mT_X5_tells 8 = some (.getfield 13, 3) := by decide +kernel
theorem a_X5_tells_11 : ix_at mT_X5_tells 11 = some (.iload_n 1, 1) := by decide +kernel
theorem a_X5_tells_12 : ix_at mT_X5_tells 12 = some (.iaload, 1) := by decide +kernel
theorem a_X5_tells_13 : ix_at mT_X5_tells 13 = some (.tableswitch 183 0 5 #[39, 61, 81, 101, 126, 155], 39) := by decide +kernel
theorem a_X5_tells_52 : ix_at mT_X5_tells 52 = some (.aload_n 0, 1) := by decide +kernel
theorem a_X5_tells_53 : ix_at mT_X5_tells 53 = some (.getfield 36, 3) := by decide +kernel
theorem a_X5_tells_56 : ix_at mT_X5_tells 56 = some (.iload_n 2, 1) := by decide +kernel
theorem a_X5_tells_57 : ix_at mT_X5_tells 57 = some (.iconst 1, 1) := by decide +kernel
theorem a_X5_tells_58 : ix_at mT_X5_tells 58 = some (.bastore, 1) := by decide +kernel
theorem a_X5_tells_59 : ix_at mT_X5_tells 59 = some (.aload_n 0, 1) := by decide +kernel
theorem a_X5_tells_60 : ix_at mT_X5_tells 60 = some (.getfield 40, 3) := by decide +kernel
theorem a_X5_tells_63 : ix_at mT_X5_tells 63 = some (.iload_n 2, 1) := by decide +kernel
theorem a_X5_tells_64 : ix_at mT_X5_tells 64 = some (.aload_n 0, 1) := by decide +kernel
theorem a_X5_tells_65 : ix_at mT_X5_tells 65 = some (.getfield 19, 3) := by decide +kernel
theorem a_X5_tells_68 : ix_at mT_X5_tells 68 = some (.iload_n 1, 1) := by decide +kernel
theorem a_X5_tells_69 : ix_at mT_X5_tells 69 = some (.iaload, 1) := by decide +kernel
theorem a_X5_tells_70 : ix_at mT_X5_tells 70 = some (.iastore, 1) := by decide +kernel
theorem a_X5_tells_71 : ix_at mT_X5_tells 71 = some (.goto 142, 3) := by decide +kernel
theorem a_X5_tells_74 : ix_at mT_X5_tells 74 = some (.aload_n 0, 1) := by decide +kernel
theorem a_X5_tells_75 : ix_at mT_X5_tells 75 = some (.iload_n 2, 1) := by decide +kernel
theorem a_X5_tells_76 : ix_at mT_X5_tells 76 = some (.aload_n 0, 1) := by decide +kernel
theorem a_X5_tells_77 : ix_at mT_X5_tells 77 = some (.getfield 25, 3) := by decide +kernel
theorem a_X5_tells_80 : ix_at mT_X5_tells 80 = some (.iload_n 1, 1) := by decide +kernel
theorem a_X5_tells_81 : ix_at mT_X5_tells 81 = some (.iaload, 1) := by decide +kernel
theorem a_X5_tells_82 : ix_at mT_X5_tells 82 = some (.aload_n 0, 1) := by decide +kernel
theorem a_X5_tells_83 : ix_at mT_X5_tells 83 = some (.getfield 22, 3) := by decide +kernel
theorem a_X5_tells_86 : ix_at mT_X5_tells 86 = some (.iload_n 1, 1) := by decide +kernel
theorem a_X5_tells_87 : ix_at mT_X5_tells 87 = some (.iaload, 1) := by decide +kernel
theorem a_X5_tells_88 : ix_at mT_X5_tells 88 = some (.invokevirtual 161, 3) := by decide +kernel
theorem a_X5_tells_91 : ix_at mT_X5_tells 91 = some (.goto 122, 3) := by decide +kernel
theorem a_X5_tells_94 : ix_at mT_X5_tells 94 = some (.aload_n 0, 1) := by decide +kernel
theorem a_X5_tells_95 : ix_at mT_X5_tells 95 = some (.getfield 49, 3) := by decide +kernel
theorem a_X5_tells_98 : ix_at mT_X5_tells 98 = some (.iload_n 2, 1) := by decide +kernel
theorem a_X5_tells_99 : ix_at mT_X5_tells 99 = some (.dup2, 1) := by decide +kernel
theorem a_X5_tells_100 : ix_at mT_X5_tells 100 = some (.iaload, 1) := by decide +kernel
theorem a_X5_tells_101 : ix_at mT_X5_tells 101 = some (.iconst 1, 1) := by decide +kernel
theorem a_X5_tells_102 : ix_at mT_X5_tells 102 = some (.aload_n 0, 1) := by decide +kernel
theorem a_X5_tells_103 : ix_at mT_X5_tells 103 = some (.getfield 22, 3) := by decide +kernel
theorem a_X5_tells_106 : ix_at mT_X5_tells 106 = some (.iload_n 1, 1) := by decide +kernel
theorem a_X5_tells_107 : ix_at mT_X5_tells 107 = some (.iaload, 1) := by decide +kernel
theorem a_X5_tells_108 : ix_at mT_X5_tells 108 = some (.ishl, 1) := by decide +kernel
theorem a_X5_tells_109 : ix_at mT_X5_tells 109 = some (.ior, 1) := by decide +kernel
theorem a_X5_tells_110 : ix_at mT_X5_tells 110 = some (.iastore, 1) := by decide +kernel
theorem a_X5_tells_111 : ix_at mT_X5_tells 111 = some (.goto 102, 3) := by decide +kernel
theorem a_X5_tells_114 : ix_at mT_X5_tells 114 = some (.aload_n 0, 1) := by decide +kernel
theorem a_X5_tells_115 : ix_at mT_X5_tells 115 = some (.aload_n 0, 1) := by decide +kernel
theorem a_X5_tells_116 : ix_at mT_X5_tells 116 = some (.getfield 43, 3) := by decide +kernel
theorem a_X5_tells_119 : ix_at mT_X5_tells 119 = some (.iload_n 2, 1) := by decide +kernel
theorem a_X5_tells_120 : ix_at mT_X5_tells 120 = some (.iaload, 1) := by decide +kernel
theorem a_X5_tells_121 : ix_at mT_X5_tells 121 = some (.aload_n 0, 1) := by decide +kernel
theorem a_X5_tells_122 : ix_at mT_X5_tells 122 = some (.getfield 22, 3) := by decide +kernel
theorem a_X5_tells_125 : ix_at mT_X5_tells 125 = some (.iload_n 1, 1) := by decide +kernel
theorem a_X5_tells_126 : ix_at mT_X5_tells 126 = some (.iaload, 1) := by decide +kernel
theorem a_X5_tells_127 : ix_at mT_X5_tells 127 = some (.aload_n 0, 1) := by decide +kernel
theorem a_X5_tells_128 : ix_at mT_X5_tells 128 = some (.getfield 25, 3) := by decide +kernel
theorem a_X5_tells_131 : ix_at mT_X5_tells 131 = some (.iload_n 1, 1) := by decide +kernel
theorem a_X5_tells_132 : ix_at mT_X5_tells 132 = some (.iaload, 1) := by decide +kernel
theorem a_X5_tells_133 : ix_at mT_X5_tells 133 = some (.invokevirtual 188, 3) := by decide +kernel
theorem a_X5_tells_136 : ix_at mT_X5_tells 136 = some (.goto 77, 3) := by decide +kernel
theorem a_X5_tells_139 : ix_at mT_X5_tells 139 = some (.aload_n 0, 1) := by decide +kernel
theorem a_X5_tells_140 : ix_at mT_X5_tells 140 = some (.getfield 73, 3) := by decide +kernel
theorem a_X5_tells_143 : ix_at mT_X5_tells 143 = some (.aload_n 0, 1) := by decide +kernel
theorem a_X5_tells_144 : ix_at mT_X5_tells 144 = some (.getfield 25, 3) := by decide +kernel
theorem a_X5_tells_147 : ix_at mT_X5_tells 147 = some (.iload_n 1, 1) := by decide +kernel
theorem a_X5_tells_148 : ix_at mT_X5_tells 148 = some (.iaload, 1) := by decide +kernel
theorem a_X5_tells_149 : ix_at mT_X5_tells 149 = some (.aload_n 0, 1) := by decide +kernel
theorem a_X5_tells_150 : ix_at mT_X5_tells 150 = some (.getfield 22, 3) := by decide +kernel
theorem a_X5_tells_153 : ix_at mT_X5_tells 153 = some (.iload_n 1, 1) := by decide +kernel
theorem a_X5_tells_154 : ix_at mT_X5_tells 154 = some (.iaload, 1) := by decide +kernel
theorem a_X5_tells_155 : ix_at mT_X5_tells 155 = some (.iconst 1, 1) := by decide +kernel
theorem a_X5_tells_156 : ix_at mT_X5_tells 156 = some (.if_icmp .ne 7, 3) := by decide +kernel
theorem a_X5_tells_159 : ix_at mT_X5_tells 159 = some (.iconst 1, 1) := by decide +kernel
theorem a_X5_tells_160 : ix_at mT_X5_tells 160 = some (.goto 4, 3) := by decide +kernel
theorem a_X5_tells_163 : ix_at mT_X5_tells 163 = some (.iconst 2, 1) := by decide +kernel
theorem a_X5_tells_164 : ix_at mT_X5_tells 164 = some (.iastore, 1) := by decide +kernel
theorem a_X5_tells_165 : ix_at mT_X5_tells 165 = some (.goto 48, 3) := by decide +kernel
theorem a_X5_tells_168 : ix_at mT_X5_tells 168 = some (.aload_n 0, 1) := by decide +kernel
theorem a_X5_tells_169 : ix_at mT_X5_tells 169 = some (.iload_n 2, 1) := by decide +kernel
theorem a_X5_tells_170 : ix_at mT_X5_tells 170 = some (.aload_n 0, 1) := by decide +kernel
theorem a_X5_tells_171 : ix_at mT_X5_tells 171 = some (.getfield 73, 3) := by decide +kernel
theorem a_X5_tells_174 : ix_at mT_X5_tells 174 = some (.aload_n 0, 1) := by decide +kernel
theorem a_X5_tells_175 : ix_at mT_X5_tells 175 = some (.getfield 25, 3) := by decide +kernel
theorem a_X5_tells_178 : ix_at mT_X5_tells 178 = some (.iload_n 1, 1) := by decide +kernel
theorem a_X5_tells_179 : ix_at mT_X5_tells 179 = some (.iaload, 1) := by decide +kernel
theorem a_X5_tells_180 : ix_at mT_X5_tells 180 = some (.iaload, 1) := by decide +kernel
theorem a_X5_tells_181 : ix_at mT_X5_tells 181 = some (.iconst 1, 1) := by decide +kernel
theorem a_X5_tells_182 : ix_at mT_X5_tells 182 = some (.if_icmp .ne 7, 3) := by decide +kernel
theorem a_X5_tells_185 : ix_at mT_X5_tells 185 = some (.iconst 1, 1) := by decide +kernel
theorem a_X5_tells_186 : ix_at mT_X5_tells 186 = some (.goto 4, 3) := by decide +kernel
theorem a_X5_tells_189 : ix_at mT_X5_tells 189 = some (.iconst 0, 1) := by decide +kernel
theorem a_X5_tells_190 : ix_at mT_X5_tells 190 = some (.invokevirtual 133, 3) := by decide +kernel
theorem a_X5_tells_193 : ix_at mT_X5_tells 193 = some (.goto 20, 3) := by decide +kernel
theorem a_X5_tells_196 : ix_at mT_X5_tells 196 = some (.aload_n 0, 1) := by decide +kernel
theorem a_X5_tells_197 : ix_at mT_X5_tells 197 = some (.getfield 52, 3) := by decide +kernel
theorem a_X5_tells_200 : ix_at mT_X5_tells 200 = some (.aload_n 0, 1) := by decide +kernel
theorem a_X5_tells_201 : ix_at mT_X5_tells 201 = some (.getfield 22, 3) := by decide +kernel
theorem a_X5_tells_204 : ix_at mT_X5_tells 204 = some (.iload_n 1, 1) := by decide +kernel
theorem a_X5_tells_205 : ix_at mT_X5_tells 205 = some (.iaload, 1) := by decide +kernel
theorem a_X5_tells_206 : ix_at mT_X5_tells 206 = some (.aload_n 0, 1) := by decide +kernel
theorem a_X5_tells_207 : ix_at mT_X5_tells 207 = some (.getfield 25, 3) := by decide +kernel
theorem a_X5_tells_210 : ix_at mT_X5_tells 210 = some (.iload_n 1, 1) := by decide +kernel
theorem a_X5_tells_211 : ix_at mT_X5_tells 211 = some (.iaload, 1) := by decide +kernel
theorem a_X5_tells_212 : ix_at mT_X5_tells 212 = some (.iastore, 1) := by decide +kernel
theorem a_X5_tells_213 : ix_at mT_X5_tells 213 = some (.return_, 1) := by decide +kernel
theorem a_X5_open_0 : ix_at mT_X5_open 0 = some (.aload_n 0, 1) := by decide +kernel
theorem a_X5_open_1 : ix_at mT_X5_open 1 = some (.getfield 99, 3) := by decide +kernel
theorem a_X5_open_4 : ix_at mT_X5_open 4 = some (.ifCond .ne 5, 3) := by decide +kernel
theorem a_X5_open_7 : ix_at mT_X5_open 7 = some (.iconst (-1), 1) := by decide +kernel
theorem a_X5_open_8 : ix_at mT_X5_open 8 = some (.ireturn, 1) := by decide +kernel
theorem a_X5_open_9 : ix_at mT_X5_open 9 = some (.aload_n 0, 1) := by decide +kernel
theorem a_X5_open_10 : ix_at mT_X5_open 10 = some (.iconst 0, 1) := by decide +kernel
theorem a_X5_open_11 : ix_at mT_X5_open 11 = some (.putfield 99, 3) := by decide +kernel
theorem a_X5_open_14 : ix_at mT_X5_open 14 = some (.aload_n 0, 1) := by decide +kernel
theorem a_X5_open_15 : ix_at mT_X5_open 15 = some (.aload_n 0, 1) := by decide +kernel
theorem a_X5_open_16 : ix_at mT_X5_open 16 = some (.getfield 112, 3) := by decide +kernel
theorem a_X5_open_19 : ix_at mT_X5_open 19 = some (.putfield 103, 3) := by decide +kernel
theorem a_X5_open_22 : ix_at mT_X5_open 22 = some (.aload_n 0, 1) := by decide +kernel
theorem a_X5_open_23 : ix_at mT_X5_open 23 = some (.iconst 0, 1) := by decide +kernel
theorem a_X5_open_24 : ix_at mT_X5_open 24 = some (.putfield 112, 3) := by decide +kernel
theorem a_X5_open_27 : ix_at mT_X5_open 27 = some (.iconst 0, 1) := by decide +kernel
theorem a_X5_open_28 : ix_at mT_X5_open 28 = some (.istore_n 1, 1) := by decide +kernel
theorem a_X5_open_29 : ix_at mT_X5_open 29 = some (.iload_n 1, 1) := by decide +kernel
theorem a_X5_open_30 : ix_at mT_X5_open 30 = some (.sipush 1100, 3) := by decide +kernel
theorem a_X5_open_33 : ix_at mT_X5_open 33 = some (.if_icmp .ge 16, 3) := by decide +kernel
theorem a_X5_open_36 : ix_at mT_X5_open 36 = some (.aload_n 0, 1) := by decide +kernel
theorem a_X5_open_37 : ix_at mT_X5_open 37 = some (.getfield 73, 3) := by decide +kernel
theorem a_X5_open_40 : ix_at mT_X5_open 40 = some (.iload_n 1, 1) := by decide +kernel
theorem a_X5_open_41 : ix_at mT_X5_open 41 = some (.iconst 0, 1) := by decide +kernel
theorem a_X5_open_42 : ix_at mT_X5_open 42 = some (.iastore, 1) := by decide +kernel
theorem a_X5_open_43 : ix_at mT_X5_open 43 = some (.iinc 1 1, 3) := by decide +kernel
theorem a_X5_open_46 : ix_at mT_X5_open 46 = some (.goto (-17), 3) := by decide +kernel
theorem a_X5_open_49 : ix_at mT_X5_open 49 = some (.iconst 0, 1) := by decide +kernel
theorem a_X5_open_50 : ix_at mT_X5_open 50 = some (.istore_n 1, 1) := by decide +kernel
theorem a_X5_open_51 : ix_at mT_X5_open 51 = some (.iload_n 1, 1) := by decide +kernel
theorem a_X5_open_52 : ix_at mT_X5_open 52 = some (.aload_n 0, 1) := by decide +kernel
theorem a_X5_open_53 : ix_at mT_X5_open 53 = some (.getfield 106, 3) := by decide +kernel
theorem a_X5_open_56 : ix_at mT_X5_open 56 = some (.if_icmp .ge 27, 3) := by decide +kernel
theorem a_X5_open_59 : ix_at mT_X5_open 59 = some (.aload_n 0, 1) := by decide +kernel
theorem a_X5_open_60 : ix_at mT_X5_open 60 = some (.getfield 9, 3) := by decide +kernel
theorem a_X5_open_63 : ix_at mT_X5_open 63 = some (.iload_n 1, 1) := by decide +kernel
theorem a_X5_open_64 : ix_at mT_X5_open 64 = some (.iaload, 1) := by decide +kernel
theorem a_X5_open_65 : ix_at mT_X5_open 65 = some (.aload_n 0, 1) := by decide +kernel
theorem a_X5_open_66 : ix_at mT_X5_open 66 = some (.getfield 87, 3) := by decide +kernel
theorem a_X5_open_69 : ix_at mT_X5_open 69 = some (.if_icmp .ne 8, 3) := by decide +kernel
theorem a_X5_open_72 : ix_at mT_X5_open 72 = some (.aload_n 0, 1) := by decide +kernel
theorem a_X5_open_73 : ix_at mT_X5_open 73 = some (.iload_n 1, 1) := by decide +kernel
theorem a_X5_open_74 : ix_at mT_X5_open 74 = some (.invokevirtual 202, 3) := by decide +kernel
theorem a_X5_open_77 : ix_at mT_X5_open 77 = some (.iinc 1 1, 3) := by decide +kernel
theorem a_X5_open_80 : ix_at mT_X5_open 80 = some (.goto (-29), 3) := by decide +kernel
theorem a_X5_open_83 : ix_at mT_X5_open 83 = some (.iconst 0, 1) := by decide +kernel
theorem a_X5_open_84 : ix_at mT_X5_open 84 = some (.istore_n 1, 1) := by decide +kernel
theorem a_X5_open_85 : ix_at mT_X5_open 85 = some (.iconst 0, 1) := by decide +kernel
theorem a_X5_open_86 : ix_at mT_X5_open 86 = some (.istore_n 2, 1) := by decide +kernel
theorem a_X5_open_87 : ix_at mT_X5_open 87 = some (.iload_n 2, 1) := by decide +kernel
theorem a_X5_open_88 : ix_at mT_X5_open 88 = some (.aload_n 0, 1) := by decide +kernel
theorem a_X5_open_89 : ix_at mT_X5_open 89 = some (.getfield 80, 3) := by decide +kernel
theorem a_X5_open_92 : ix_at mT_X5_open 92 = some (.if_icmp .ge 65, 3) := by decide +kernel
theorem a_X5_open_95 : ix_at mT_X5_open 95 = some (.iconst 0, 1) := by decide +kernel
theorem a_X5_open_96 : ix_at mT_X5_open 96 = some (.istore_n 3, 1) := by decide +kernel
theorem a_X5_open_97 : ix_at mT_X5_open 97 = some (.iload_n 3, 1) := by decide +kernel
theorem a_X5_open_98 : ix_at mT_X5_open 98 = some (.bipush 32, 2) := by decide +kernel
theorem a_X5_open_100 : ix_at mT_X5_open 100 = some (.if_icmp .ge 51, 3) := by decide +kernel
theorem a_X5_open_103 : ix_at mT_X5_open 103 = some (.aload_n 0, 1) := by decide +kernel
theorem a_X5_open_104 : ix_at mT_X5_open 104 = some (.getfield 43, 3) := by decide +kernel
theorem a_X5_open_107 : ix_at mT_X5_open 107 = some (.iload_n 3, 1) := by decide +kernel
theorem a_X5_open_108 : ix_at mT_X5_open 108 = some (.iaload, 1) := by decide +kernel
theorem a_X5_open_109 : ix_at mT_X5_open 109 = some (.iload_n 2, 1) := by decide +kernel
theorem a_X5_open_110 : ix_at mT_X5_open 110 = some (.if_icmp .ne 35, 3) := by decide +kernel
theorem a_X5_open_113 : ix_at mT_X5_open 113 = some (.aload_n 0, 1) := by decide +kernel
theorem a_X5_open_114 : ix_at mT_X5_open 114 = some (.getfield 73, 3) := by decide +kernel
theorem a_X5_open_117 : ix_at mT_X5_open 117 = some (.iload_n 2, 1) := by decide +kernel
theorem a_X5_open_118 : ix_at mT_X5_open 118 = some (.iaload, 1) := by decide +kernel
theorem a_X5_open_119 : ix_at mT_X5_open 119 = some (.ifCond .eq 26, 3) := by decide +kernel
theorem a_X5_open_122 : ix_at mT_X5_open 122 = some (.aload_n 0, 1) := by decide +kernel
theorem a_X5_open_123 : ix_at mT_X5_open 123 = some (.iload_n 3, 1) := by decide +kernel
theorem a_X5_open_124 : ix_at mT_X5_open 124 = some (.aload_n 0, 1) := by decide +kernel
theorem a_X5_open_125 : ix_at mT_X5_open 125 = some (.getfield 73, 3) := by decide +kernel
theorem a_X5_open_128 : ix_at mT_X5_open 128 = some (.iload_n 2, 1) := by decide +kernel
theorem a_X5_open_129 : ix_at mT_X5_open 129 = some (.iaload, 1) := by decide +kernel
theorem a_X5_open_130 : ix_at mT_X5_open 130 = some (.iconst 1, 1) := by decide +kernel
theorem a_X5_open_131 : ix_at mT_X5_open 131 = some (.if_icmp .ne 7, 3) := by decide +kernel
theorem a_X5_open_134 : ix_at mT_X5_open 134 = some (.iconst 1, 1) := by decide +kernel
theorem a_X5_open_135 : ix_at mT_X5_open 135 = some (.goto 4, 3) := by decide +kernel
theorem a_X5_open_138 : ix_at mT_X5_open 138 = some (.iconst 0, 1) := by decide +kernel
theorem a_X5_open_139 : ix_at mT_X5_open 139 = some (.invokevirtual 141, 3) := by decide +kernel
theorem a_X5_open_142 : ix_at mT_X5_open 142 = some (.iinc 1 1, 3) := by decide +kernel
theorem a_X5_open_145 : ix_at mT_X5_open 145 = some (.iinc 3 1, 3) := by decide +kernel
theorem a_X5_open_148 : ix_at mT_X5_open 148 = some (.goto (-51), 3) := by decide +kernel
theorem a_X5_open_151 : ix_at mT_X5_open 151 = some (.iinc 2 1, 3) := by decide +kernel
theorem a_X5_open_154 : ix_at mT_X5_open 154 = some (.goto (-67), 3) := by decide +kernel
theorem a_X5_open_157 : ix_at mT_X5_open 157 = some (.iload_n 1, 1) := by decide +kernel
theorem a_X5_open_158 : ix_at mT_X5_open 158 = some (.ireturn, 1) := by decide +kernel
theorem a_X5_partition_0 : ix_at mT_X5_partition 0 = some (.aload_n 0, 1) := by decide +kernel
theorem a_X5_partition_1 : ix_at mT_X5_partition 1 = some (.iload_n 1, 1) := by decide +kernel
theorem a_X5_partition_2 : ix_at mT_X5_partition 2 = some (.invokevirtual 185, 3) := by decide +kernel
theorem a_X5_partition_5 : ix_at mT_X5_partition 5 = some (.ifCond .ne 5, 3) := by decide +kernel
theorem a_X5_partition_8 : ix_at mT_X5_partition 8 = some (.iconst (-1), 1) := by decide +kernel
theorem a_X5_partition_9 : ix_at mT_X5_partition 9 = some (.ireturn, 1) := by decide +kernel
theorem a_X5_partition_10 : ix_at mT_X5_partition 10 = some (.iload_n 2, 1) := by decide +kernel
theorem a_X5_partition_11 : ix_at mT_X5_partition 11 = some (.tableswitch 110 0 5 #[37, 43, 60, 66, 76, 93], 37) := by decide +kernel
theorem a_X5_partition_48 : ix_at mT_X5_partition 48 = some (.aload_n 0, 1) := by decide +kernel
theorem a_X5_partition_49 : ix_at mT_X5_partition 49 = some (.iload_n 1, 1) := by decide +kernel
theorem a_X5_partition_50 : ix_at mT_X5_partition 50 = some (.invokevirtual 205, 3) := by decide +kernel
theorem a_X5_partition_53 : ix_at mT_X5_partition 53 = some (.ireturn, 1) := by decide +kernel
theorem a_X5_partition_54 : ix_at mT_X5_partition 54 = some (.aload_n 0, 1) := by decide +kernel
theorem a_X5_partition_55 : ix_at mT_X5_partition 55 = some (.getfield 99, 3) := by decide +kernel
theorem a_X5_partition_58 : ix_at mT_X5_partition 58 = some (.ifCond .eq 7, 3) := by decide +kernel
theorem a_X5_partition_61 : ix_at mT_X5_partition 61 = some (.iconst (-1), 1) := by decide +kernel
theorem a_X5_partition_62 : ix_at mT_X5_partition 62 = some (.goto 8, 3) := by decide +kernel
theorem a_X5_partition_65 : ix_at mT_X5_partition 65 = some (.aload_n 0, 1) := by decide +kernel
theorem a_X5_partition_66 : ix_at mT_X5_partition 66 = some (.iload_n 1, 1) := by decide +kernel
theorem a_X5_partition_67 : ix_at mT_X5_partition 67 = some (.invokevirtual 192, 3) := by decide +kernel
theorem a_X5_partition_70 : ix_at mT_X5_partition 70 = some (.ireturn, 1) := by decide +kernel
theorem a_X5_partition_71 : ix_at mT_X5_partition 71 = some (.aload_n 0, 1) := by decide +kernel
theorem a_X5_partition_72 : ix_at mT_X5_partition 72 = some (.iload_n 1, 1) := by decide +kernel
theorem a_X5_partition_73 : ix_at mT_X5_partition 73 = some (.invokevirtual 208, 3) := by decide +kernel
theorem a_X5_partition_76 : ix_at mT_X5_partition 76 = some (.ireturn, 1) := by decide +kernel
theorem a_X5_partition_77 : ix_at mT_X5_partition 77 = some (.aload_n 0, 1) := by decide +kernel
theorem a_X5_partition_78 : ix_at mT_X5_partition 78 = some (.iload_n 1, 1) := by decide +kernel
theorem a_X5_partition_79 : ix_at mT_X5_partition 79 = some (.aload_n 0, 1) := by decide +kernel
theorem a_X5_partition_80 : ix_at mT_X5_partition 80 = some (.getfield 109, 3) := by decide +kernel
theorem a_X5_partition_83 : ix_at mT_X5_partition 83 = some (.invokevirtual 125, 3) := by decide +kernel
theorem a_X5_partition_86 : ix_at mT_X5_partition 86 = some (.ireturn, 1) := by decide +kernel
theorem a_X5_partition_87 : ix_at mT_X5_partition 87 = some (.aload_n 0, 1) := by decide +kernel
theorem a_X5_partition_88 : ix_at mT_X5_partition 88 = some (.getfield 99, 3) := by decide +kernel
theorem a_X5_partition_91 : ix_at mT_X5_partition 91 = some (.ifCond .eq 7, 3) := by decide +kernel
theorem a_X5_partition_94 : ix_at mT_X5_partition 94 = some (.iconst (-1), 1) := by decide +kernel
theorem a_X5_partition_95 : ix_at mT_X5_partition 95 = some (.goto 8, 3) := by decide +kernel
theorem a_X5_partition_98 : ix_at mT_X5_partition 98 = some (.aload_n 0, 1) := by decide +kernel
theorem a_X5_partition_99 : ix_at mT_X5_partition 99 = some (.iload_n 1, 1) := by decide +kernel
theorem a_X5_partition_100 : ix_at mT_X5_partition 100 = some (.invokevirtual 211, 3) := by decide +kernel
theorem a_X5_partition_103 : ix_at mT_X5_partition 103 = some (.ireturn, 1) := by decide +kernel
theorem a_X5_partition_104 : ix_at mT_X5_partition 104 = some (.aload_n 0, 1) := by decide +kernel
theorem a_X5_partition_105 : ix_at mT_X5_partition 105 = some (.getfield 99, 3) := by decide +kernel
theorem a_X5_partition_108 : ix_at mT_X5_partition 108 = some (.ifCond .eq 7, 3) := by decide +kernel
theorem a_X5_partition_111 : ix_at mT_X5_partition 111 = some (.iconst (-1), 1) := by decide +kernel
theorem a_X5_partition_112 : ix_at mT_X5_partition 112 = some (.goto 8, 3) := by decide +kernel
theorem a_X5_partition_115 : ix_at mT_X5_partition 115 = some (.aload_n 0, 1) := by decide +kernel
theorem a_X5_partition_116 : ix_at mT_X5_partition 116 = some (.iload_n 1, 1) := by decide +kernel
theorem a_X5_partition_117 : ix_at mT_X5_partition 117 = some (.invokevirtual 178, 3) := by decide +kernel
theorem a_X5_partition_120 : ix_at mT_X5_partition 120 = some (.ireturn, 1) := by decide +kernel
theorem a_X5_partition_121 : ix_at mT_X5_partition 121 = some (.iconst (-1), 1) := by decide +kernel
theorem a_X5_partition_122 : ix_at mT_X5_partition 122 = some (.ireturn, 1) := by decide +kernel
theorem a_X5_bytesOf_0 : ix_at mT_X5_bytesOf 0 = some (.aload_n 0, 1) := by decide +kernel
theorem a_X5_bytesOf_1 : ix_at mT_X5_bytesOf 1 = some (.iload_n 1, 1) := by decide +kernel
theorem a_X5_bytesOf_2 : ix_at mT_X5_bytesOf 2 = some (.iconst 0, 1) := by decide +kernel
theorem a_X5_bytesOf_3 : ix_at mT_X5_bytesOf 3 = some (.invokevirtual 125, 3) := by decide +kernel
theorem a_X5_bytesOf_6 : ix_at mT_X5_bytesOf 6 = some (.aload_n 0, 1) := by decide +kernel
theorem a_X5_bytesOf_7 : ix_at mT_X5_bytesOf 7 = some (.getfield 112, 3) := by decide +kernel
theorem a_X5_bytesOf_10 : ix_at mT_X5_bytesOf 10 = some (.ifCond .le 23, 3) := by decide +kernel
theorem a_X5_bytesOf_13 : ix_at mT_X5_bytesOf 13 = some (.aload_n 0, 1) := by decide +kernel
theorem a_X5_bytesOf_14 : ix_at mT_X5_bytesOf 14 = some (.getfield 9, 3) := by decide +kernel
theorem a_X5_bytesOf_17 : ix_at mT_X5_bytesOf 17 = some (.aload_n 0, 1) := by decide +kernel
theorem a_X5_bytesOf_18 : ix_at mT_X5_bytesOf 18 = some (.getfield 106, 3) := by decide +kernel
theorem a_X5_bytesOf_21 : ix_at mT_X5_bytesOf 21 = some (.iaload, 1) := by decide +kernel
theorem a_X5_bytesOf_22 : ix_at mT_X5_bytesOf 22 = some (.iload_n 1, 1) := by decide +kernel
theorem a_X5_bytesOf_23 : ix_at mT_X5_bytesOf 23 = some (.if_icmp .ne 10, 3) := by decide +kernel
theorem a_X5_bytesOf_26 : ix_at mT_X5_bytesOf 26 = some (.aload_n 0, 1) := by decide +kernel
theorem a_X5_bytesOf_27 : ix_at mT_X5_bytesOf 27 = some (.getfield 112, 3) := by decide +kernel
theorem a_X5_bytesOf_30 : ix_at mT_X5_bytesOf 30 = some (.goto 4, 3) := by decide +kernel
theorem a_X5_bytesOf_33 : ix_at mT_X5_bytesOf 33 = some (.iconst 0, 1) := by decide +kernel
theorem a_X5_bytesOf_34 : ix_at mT_X5_bytesOf 34 = some (.iadd, 1) := by decide +kernel
theorem a_X5_bytesOf_35 : ix_at mT_X5_bytesOf 35 = some (.ireturn, 1) := by decide +kernel
theorem a_X5_seenOf_0 : ix_at mT_X5_seenOf 0 = some (.aload_n 0, 1) := by decide +kernel
theorem a_X5_seenOf_1 : ix_at mT_X5_seenOf 1 = some (.iload_n 1, 1) := by decide +kernel
theorem a_X5_seenOf_2 : ix_at mT_X5_seenOf 2 = some (.invokevirtual 192, 3) := by decide +kernel
theorem a_X5_seenOf_5 : ix_at mT_X5_seenOf 5 = some (.istore_n 2, 1) := by decide +kernel
theorem a_X5_seenOf_6 : ix_at mT_X5_seenOf 6 = some (.iconst 0, 1) := by decide +kernel
theorem a_X5_seenOf_7 : ix_at mT_X5_seenOf 7 = some (.istore_n 3, 1) := by decide +kernel
theorem a_X5_seenOf_8 : ix_at mT_X5_seenOf 8 = some (.iconst 0, 1) := by decide +kernel
theorem a_X5_seenOf_9 : ix_at mT_X5_seenOf 9 = some (.istore 4, 2) := by decide +kernel
theorem a_X5_seenOf_11 : ix_at mT_X5_seenOf 11 = some (.iconst 0, 1) := by decide +kernel
theorem a_X5_seenOf_12 : ix_at mT_X5_seenOf 12 = some (.istore 5, 2) := by decide +kernel
theorem a_X5_seenOf_14 : ix_at mT_X5_seenOf 14 = some (.iload 5, 2) := by decide +kernel
theorem a_X5_seenOf_16 : ix_at mT_X5_seenOf 16 = some (.aload_n 0, 1) := by decide +kernel
theorem a_X5_seenOf_17 : ix_at mT_X5_seenOf 17 = some (.getfield 106, 3) := by decide +kernel
theorem a_X5_seenOf_20 : ix_at mT_X5_seenOf 20 = some (.if_icmp .ge 45, 3) := by decide +kernel
theorem a_X5_seenOf_23 : ix_at mT_X5_seenOf 23 = some (.aload_n 0, 1) := by decide +kernel
theorem a_X5_seenOf_24 : ix_at mT_X5_seenOf 24 = some (.getfield 9, 3) := by decide +kernel
theorem a_X5_seenOf_27 : ix_at mT_X5_seenOf 27 = some (.iload 5, 2) := by decide +kernel
theorem a_X5_seenOf_29 : ix_at mT_X5_seenOf 29 = some (.iaload, 1) := by decide +kernel
theorem a_X5_seenOf_30 : ix_at mT_X5_seenOf 30 = some (.iload_n 1, 1) := by decide +kernel
theorem a_X5_seenOf_31 : ix_at mT_X5_seenOf 31 = some (.if_icmp .ne 28, 3) := by decide +kernel
theorem a_X5_seenOf_34 : ix_at mT_X5_seenOf 34 = some (.iload 4, 2) := by decide +kernel
theorem a_X5_seenOf_36 : ix_at mT_X5_seenOf 36 = some (.aload_n 0, 1) := by decide +kernel
theorem a_X5_seenOf_37 : ix_at mT_X5_seenOf 37 = some (.iload 5, 2) := by decide +kernel
theorem a_X5_seenOf_39 : ix_at mT_X5_seenOf 39 = some (.iconst 1, 1) := by decide +kernel
theorem a_X5_seenOf_40 : ix_at mT_X5_seenOf 40 = some (.iload_n 3, 1) := by decide +kernel
theorem a_X5_seenOf_41 : ix_at mT_X5_seenOf 41 = some (.iload_n 2, 1) := by decide +kernel
theorem a_X5_seenOf_42 : ix_at mT_X5_seenOf 42 = some (.invokevirtual 195, 3) := by decide +kernel
theorem a_X5_seenOf_45 : ix_at mT_X5_seenOf 45 = some (.ifCond .eq 7, 3) := by decide +kernel
theorem a_X5_seenOf_48 : ix_at mT_X5_seenOf 48 = some (.iconst 1, 1) := by decide +kernel
theorem a_X5_seenOf_49 : ix_at mT_X5_seenOf 49 = some (.goto 4, 3) := by decide +kernel
theorem a_X5_seenOf_52 : ix_at mT_X5_seenOf 52 = some (.iconst 0, 1) := by decide +kernel
theorem a_X5_seenOf_53 : ix_at mT_X5_seenOf 53 = some (.iadd, 1) := by decide +kernel
theorem a_X5_seenOf_54 : ix_at mT_X5_seenOf 54 = some (.istore 4, 2) := by decide +kernel
theorem a_X5_seenOf_56 : ix_at mT_X5_seenOf 56 = some (.iinc 3 1, 3) := by decide +kernel
theorem a_X5_seenOf_59 : ix_at mT_X5_seenOf 59 = some (.iinc 5 1, 3) := by decide +kernel
theorem a_X5_seenOf_62 : ix_at mT_X5_seenOf 62 = some (.goto (-48), 3) := by decide +kernel
theorem a_X5_seenOf_65 : ix_at mT_X5_seenOf 65 = some (.iload 4, 2) := by decide +kernel
theorem a_X5_seenOf_67 : ix_at mT_X5_seenOf 67 = some (.ireturn, 1) := by decide +kernel
theorem a_X5_entry_0 : ix_at mT_X5_entry 0 = some (.aload_n 0, 1) := by decide +kernel
theorem a_X5_entry_1 : ix_at mT_X5_entry 1 = some (.iload_n 1, 1) := by decide +kernel
theorem a_X5_entry_2 : ix_at mT_X5_entry 2 = some (.invokevirtual 185, 3) := by decide +kernel
theorem a_X5_entry_5 : ix_at mT_X5_entry 5 = some (.ifCond .eq 7, 3) := by decide +kernel
theorem a_X5_entry_8 : ix_at mT_X5_entry 8 = some (.iload_n 2, 1) := by decide +kernel
theorem a_X5_entry_9 : ix_at mT_X5_entry 9 = some (.ifCond .ge 5, 3) := by decide +kernel
theorem a_X5_entry_12 : ix_at mT_X5_entry 12 = some (.iconst (-1), 1) := by decide +kernel
theorem a_X5_entry_13 : ix_at mT_X5_entry 13 = some (.ireturn, 1) := by decide +kernel
theorem a_X5_entry_14 : ix_at mT_X5_entry 14 = some (.iload_n 2, 1) := by decide +kernel
theorem a_X5_entry_15 : ix_at mT_X5_entry 15 = some (.istore 4, 2) := by decide +kernel
theorem a_X5_entry_17 : ix_at mT_X5_entry 17 = some (.iconst 0, 1) := by decide +kernel
theorem a_X5_entry_18 : ix_at mT_X5_entry 18 = some (.istore 5, 2) := by decide +kernel
theorem a_X5_entry_20 : ix_at mT_X5_entry 20 = some (.iload 5, 2) := by decide +kernel
theorem a_X5_entry_22 : ix_at mT_X5_entry 22 = some (.aload_n 0, 1) := by decide +kernel
theorem a_X5_entry_23 : ix_at mT_X5_entry 23 = some (.getfield 106, 3) := by decide +kernel
theorem a_X5_entry_26 : ix_at mT_X5_entry 26 = some (.if_icmp .ge 107, 3) := by decide +kernel
theorem a_X5_entry_29 : ix_at mT_X5_entry 29 = some (.aload_n 0, 1) := by decide +kernel
theorem a_X5_entry_30 : ix_at mT_X5_entry 30 = some (.getfield 9, 3) := by decide +kernel
theorem a_X5_entry_33 : ix_at mT_X5_entry 33 = some (.iload 5, 2) := by decide +kernel
theorem a_X5_entry_35 : ix_at mT_X5_entry 35 = some (.iaload, 1) := by decide +kernel
theorem a_X5_entry_36 : ix_at mT_X5_entry 36 = some (.iload_n 1, 1) := by decide +kernel
theorem a_X5_entry_37 : ix_at mT_X5_entry 37 = some (.if_icmp .eq 6, 3) := by decide +kernel
theorem a_X5_entry_40 : ix_at mT_X5_entry 40 = some (.goto 87, 3) := by decide +kernel
theorem a_X5_entry_43 : ix_at mT_X5_entry 43 = some (.iload 4, 2) := by decide +kernel
theorem a_X5_entry_45 : ix_at mT_X5_entry 45 = some (.ifCond .ne 79, 3) := by decide +kernel
theorem a_X5_entry_48 : ix_at mT_X5_entry 48 = some (.iload_n 3, 1) := by decide +kernel
theorem a_X5_entry_49 : ix_at mT_X5_entry 49 = some (.ifCond .ne 13, 3) := by decide +kernel
theorem a_X5_entry_52 : ix_at mT_X5_entry 52 = some (.aload_n 0, 1) := by decide +kernel
theorem a_X5_entry_53 : ix_at mT_X5_entry 53 = some (.getfield 13, 3) := by decide +kernel
theorem a_X5_entry_56 : ix_at mT_X5_entry 56 = some (.iload 5, 2) := by decide +kernel
theorem a_X5_entry_58 : ix_at mT_X5_entry 58 = some (.iaload, 1) := by decide +kernel
theorem a_X5_entry_59 : ix_at mT_X5_entry 59 = some (.goto 64, 3) := by decide +kernel
theorem a_X5_entry_62 : ix_at mT_X5_entry 62 = some (.iload_n 3, 1) := by decide +kernel
theorem a_X5_entry_63 : ix_at mT_X5_entry 63 = some (.iconst 1, 1) := by decide +kernel
theorem a_X5_entry_64 : ix_at mT_X5_entry 64 = some (.if_icmp .ne 13, 3) := by decide +kernel
theorem a_X5_entry_67 : ix_at mT_X5_entry 67 = some (.aload_n 0, 1) := by decide +kernel
theorem a_X5_entry_68 : ix_at mT_X5_entry 68 = some (.getfield 16, 3) := by decide +kernel
theorem a_X5_entry_71 : ix_at mT_X5_entry 71 = some (.iload 5, 2) := by decide +kernel
theorem a_X5_entry_73 : ix_at mT_X5_entry 73 = some (.iaload, 1) := by decide +kernel
theorem a_X5_entry_74 : ix_at mT_X5_entry 74 = some (.goto 49, 3) := by decide +kernel
theorem a_X5_entry_77 : ix_at mT_X5_entry 77 = some (.iload_n 3, 1) := by decide +kernel
theorem a_X5_entry_78 : ix_at mT_X5_entry 78 = some (.iconst 2, 1) := by decide +kernel
theorem a_X5_entry_79 : ix_at mT_X5_entry 79 = some (.if_icmp .ne 13, 3) := by decide +kernel
theorem a_X5_entry_82 : ix_at mT_X5_entry 82 = some (.aload_n 0, 1) := by decide +kernel
theorem a_X5_entry_83 : ix_at mT_X5_entry 83 = some (.getfield 19, 3) := by decide +kernel
theorem a_X5_entry_86 : ix_at mT_X5_entry 86 = some (.iload 5, 2) := by decide +kernel
theorem a_X5_entry_88 : ix_at mT_X5_entry 88 = some (.iaload, 1) := by decide +kernel
theorem a_X5_entry_89 : ix_at mT_X5_entry 89 = some (.goto 34, 3) := by decide +kernel
theorem a_X5_entry_92 : ix_at mT_X5_entry 92 = some (.iload_n 3, 1) := by decide +kernel
theorem a_X5_entry_93 : ix_at mT_X5_entry 93 = some (.iconst 3, 1) := by decide +kernel
theorem a_X5_entry_94 : ix_at mT_X5_entry 94 = some (.if_icmp .ne 13, 3) := by decide +kernel
theorem a_X5_entry_97 : ix_at mT_X5_entry 97 = some (.aload_n 0, 1) := by decide +kernel
theorem a_X5_entry_98 : ix_at mT_X5_entry 98 = some (.getfield 22, 3) := by decide +kernel
theorem a_X5_entry_101 : ix_at mT_X5_entry 101 = some (.iload 5, 2) := by decide +kernel
theorem a_X5_entry_103 : ix_at mT_X5_entry 103 = some (.iaload, 1) := by decide +kernel
theorem a_X5_entry_104 : ix_at mT_X5_entry 104 = some (.goto 19, 3) := by decide +kernel
theorem a_X5_entry_107 : ix_at mT_X5_entry 107 = some (.iload_n 3, 1) := by decide +kernel
theorem a_X5_entry_108 : ix_at mT_X5_entry 108 = some (.iconst 4, 1) := by decide +kernel
theorem a_X5_entry_109 : ix_at mT_X5_entry 109 = some (.if_icmp .ne 13, 3) := by decide +kernel
theorem a_X5_entry_112 : ix_at mT_X5_entry 112 = some (.aload_n 0, 1) := by decide +kernel
theorem a_X5_entry_113 : ix_at mT_X5_entry 113 = some (.getfield 25, 3) := by decide +kernel
theorem a_X5_entry_116 : ix_at mT_X5_entry 116 = some (.iload 5, 2) := by decide +kernel
theorem a_X5_entry_118 : ix_at mT_X5_entry 118 = some (.iaload, 1) := by decide +kernel
theorem a_X5_entry_119 : ix_at mT_X5_entry 119 = some (.goto 4, 3) := by decide +kernel
theorem a_X5_entry_122 : ix_at mT_X5_entry 122 = some (.iconst (-1), 1) := by decide +kernel
theorem a_X5_entry_123 : ix_at mT_X5_entry 123 = some (.ireturn, 1) := by decide +kernel
theorem a_X5_entry_124 : ix_at mT_X5_entry 124 = some (.iinc 4 (-1), 3) := by decide +kernel
theorem a_X5_entry_127 : ix_at mT_X5_entry 127 = some (.iinc 5 1, 3) := by decide +kernel
theorem a_X5_entry_130 : ix_at mT_X5_entry 130 = some (.goto (-110), 3) := by decide +kernel
theorem a_X5_entry_133 : ix_at mT_X5_entry 133 = some (.iconst (-1), 1) := by decide +kernel
theorem a_X5_entry_134 : ix_at mT_X5_entry 134 = some (.ireturn, 1) := by decide +kernel
theorem a_X5_producer_0 : ix_at mT_X5_producer 0 = some (.aload_n 0, 1) := by decide +kernel
theorem a_X5_producer_1 : ix_at mT_X5_producer 1 = some (.getfield 99, 3) := by decide +kernel
theorem a_X5_producer_4 : ix_at mT_X5_producer 4 = some (.ifCond .ne 22, 3) := by decide +kernel
theorem a_X5_producer_7 : ix_at mT_X5_producer 7 = some (.iload_n 1, 1) := by decide +kernel
theorem a_X5_producer_8 : ix_at mT_X5_producer 8 = some (.ifCond .lt 18, 3) := by decide +kernel
theorem a_X5_producer_11 : ix_at mT_X5_producer 11 = some (.iload_n 1, 1) := by decide +kernel
theorem a_X5_producer_12 : ix_at mT_X5_producer 12 = some (.bipush 31, 2) := by decide +kernel
theorem a_X5_producer_14 : ix_at mT_X5_producer 14 = some (.if_icmp .gt 12, 3) := by decide +kernel
theorem a_X5_producer_17 : ix_at mT_X5_producer 17 = some (.aload_n 0, 1) := by decide +kernel
theorem a_X5_producer_18 : ix_at mT_X5_producer 18 = some (.getfield 36, 3) := by decide +kernel
theorem a_X5_producer_21 : ix_at mT_X5_producer 21 = some (.iload_n 1, 1) := by decide +kernel
theorem a_X5_producer_22 : ix_at mT_X5_producer 22 = some (.baload, 1) := by decide +kernel
theorem a_X5_producer_23 : ix_at mT_X5_producer 23 = some (.ifCond .ne 5, 3) := by decide +kernel
theorem a_X5_producer_26 : ix_at mT_X5_producer 26 = some (.iconst (-1), 1) := by decide +kernel
theorem a_X5_producer_27 : ix_at mT_X5_producer 27 = some (.ireturn, 1) := by decide +kernel
theorem a_X5_producer_28 : ix_at mT_X5_producer 28 = some (.iload_n 2, 1) := by decide +kernel
theorem a_X5_producer_29 : ix_at mT_X5_producer 29 = some (.tableswitch 147 0 4 #[35, 42, 49, 70, 91], 35) := by decide +kernel
theorem a_X5_producer_64 : ix_at mT_X5_producer 64 = some (.aload_n 0, 1) := by decide +kernel
theorem a_X5_producer_65 : ix_at mT_X5_producer 65 = some (.getfield 40, 3) := by decide +kernel
theorem a_X5_producer_68 : ix_at mT_X5_producer 68 = some (.iload_n 1, 1) := by decide +kernel
theorem a_X5_producer_69 : ix_at mT_X5_producer 69 = some (.iaload, 1) := by decide +kernel
theorem a_X5_producer_70 : ix_at mT_X5_producer 70 = some (.ireturn, 1) := by decide +kernel
theorem a_X5_producer_71 : ix_at mT_X5_producer 71 = some (.aload_n 0, 1) := by decide +kernel
theorem a_X5_producer_72 : ix_at mT_X5_producer 72 = some (.getfield 43, 3) := by decide +kernel
theorem a_X5_producer_75 : ix_at mT_X5_producer 75 = some (.iload_n 1, 1) := by decide +kernel
theorem a_X5_producer_76 : ix_at mT_X5_producer 76 = some (.iaload, 1) := by decide +kernel
theorem a_X5_producer_77 : ix_at mT_X5_producer 77 = some (.ireturn, 1) := by decide +kernel
theorem a_X5_producer_78 : ix_at mT_X5_producer 78 = some (.aload_n 0, 1) := by decide +kernel
theorem a_X5_producer_79 : ix_at mT_X5_producer 79 = some (.getfield 43, 3) := by decide +kernel
theorem a_X5_producer_82 : ix_at mT_X5_producer 82 = some (.iload_n 1, 1) := by decide +kernel
theorem a_X5_producer_83 : ix_at mT_X5_producer 83 = some (.iaload, 1) := by decide +kernel
theorem a_X5_producer_84 : ix_at mT_X5_producer 84 = some (.iconst (-1), 1) := by decide +kernel
theorem a_X5_producer_85 : ix_at mT_X5_producer 85 = some (.if_icmp .ne 7, 3) := by decide +kernel
theorem a_X5_producer_88 : ix_at mT_X5_producer 88 = some (.iconst (-1), 1) := by decide +kernel
theorem a_X5_producer_89 : ix_at mT_X5_producer 89 = some (.goto 9, 3) := by decide +kernel
theorem a_X5_producer_92 : ix_at mT_X5_producer 92 = some (.aload_n 0, 1) := by decide +kernel
theorem a_X5_producer_93 : ix_at mT_X5_producer 93 = some (.getfield 46, 3) := by decide +kernel
theorem a_X5_producer_96 : ix_at mT_X5_producer 96 = some (.iload_n 1, 1) := by decide +kernel
theorem a_X5_producer_97 : ix_at mT_X5_producer 97 = some (.iaload, 1) := by decide +kernel
theorem a_X5_producer_98 : ix_at mT_X5_producer 98 = some (.ireturn, 1) := by decide +kernel
theorem a_X5_producer_99 : ix_at mT_X5_producer 99 = some (.aload_n 0, 1) := by decide +kernel
theorem a_X5_producer_100 : ix_at mT_X5_producer 100 = some (.getfield 43, 3) := by decide +kernel
theorem a_X5_producer_103 : ix_at mT_X5_producer 103 = some (.iload_n 1, 1) := by decide +kernel
theorem a_X5_producer_104 : ix_at mT_X5_producer 104 = some (.iaload, 1) := by decide +kernel
theorem a_X5_producer_105 : ix_at mT_X5_producer 105 = some (.iconst (-1), 1) := by decide +kernel
theorem a_X5_producer_106 : ix_at mT_X5_producer 106 = some (.if_icmp .ne 7, 3) := by decide +kernel
theorem a_X5_producer_109 : ix_at mT_X5_producer 109 = some (.iconst 0, 1) := by decide +kernel
theorem a_X5_producer_110 : ix_at mT_X5_producer 110 = some (.goto 9, 3) := by decide +kernel
theorem a_X5_producer_113 : ix_at mT_X5_producer 113 = some (.aload_n 0, 1) := by decide +kernel
theorem a_X5_producer_114 : ix_at mT_X5_producer 114 = some (.getfield 49, 3) := by decide +kernel
theorem a_X5_producer_117 : ix_at mT_X5_producer 117 = some (.iload_n 1, 1) := by decide +kernel
theorem a_X5_producer_118 : ix_at mT_X5_producer 118 = some (.iaload, 1) := by decide +kernel
theorem a_X5_producer_119 : ix_at mT_X5_producer 119 = some (.ireturn, 1) := by decide +kernel
theorem a_X5_producer_120 : ix_at mT_X5_producer 120 = some (.iconst 0, 1) := by decide +kernel
theorem a_X5_producer_121 : ix_at mT_X5_producer 121 = some (.istore_n 3, 1) := by decide +kernel
theorem a_X5_producer_122 : ix_at mT_X5_producer 122 = some (.iconst 0, 1) := by decide +kernel
theorem a_X5_producer_123 : ix_at mT_X5_producer 123 = some (.istore 4, 2) := by decide +kernel
theorem a_X5_producer_125 : ix_at mT_X5_producer 125 = some (.iload 4, 2) := by decide +kernel
theorem a_X5_producer_127 : ix_at mT_X5_producer 127 = some (.aload_n 0, 1) := by decide +kernel
theorem a_X5_producer_128 : ix_at mT_X5_producer 128 = some (.getfield 84, 3) := by decide +kernel
theorem a_X5_producer_131 : ix_at mT_X5_producer 131 = some (.if_icmp .ge 43, 3) := by decide +kernel
theorem a_X5_producer_134 : ix_at mT_X5_producer 134 = some (.aload_n 0, 1) := by decide +kernel
theorem a_X5_producer_135 : ix_at mT_X5_producer 135 = some (.getfield 43, 3) := by decide +kernel
theorem a_X5_producer_138 : ix_at mT_X5_producer 138 = some (.iload_n 1, 1) := by decide +kernel
theorem a_X5_producer_139 : ix_at mT_X5_producer 139 = some (.iaload, 1) := by decide +kernel
theorem a_X5_producer_140 : ix_at mT_X5_producer 140 = some (.iconst (-1), 1) := by decide +kernel
theorem a_X5_producer_141 : ix_at mT_X5_producer 141 = some (.if_icmp .eq 33, 3) := by decide +kernel
theorem a_X5_producer_144 : ix_at mT_X5_producer 144 = some (.iload_n 3, 1) := by decide +kernel
theorem a_X5_producer_145 : ix_at mT_X5_producer 145 = some (.aload_n 0, 1) := by decide +kernel
theorem a_X5_producer_146 : ix_at mT_X5_producer 146 = some (.getfield 58, 3) := by decide +kernel
theorem a_X5_producer_149 : ix_at mT_X5_producer 149 = some (.iload 4, 2) := by decide +kernel
theorem a_X5_producer_151 : ix_at mT_X5_producer 151 = some (.iaload, 1) := by decide +kernel
theorem a_X5_producer_152 : ix_at mT_X5_producer 152 = some (.aload_n 0, 1) := by decide +kernel
theorem a_X5_producer_153 : ix_at mT_X5_producer 153 = some (.getfield 43, 3) := by decide +kernel
theorem a_X5_producer_156 : ix_at mT_X5_producer 156 = some (.iload_n 1, 1) := by decide +kernel
theorem a_X5_producer_157 : ix_at mT_X5_producer 157 = some (.iaload, 1) := by decide +kernel
theorem a_X5_producer_158 : ix_at mT_X5_producer 158 = some (.if_icmp .ne 7, 3) := by decide +kernel
theorem a_X5_producer_161 : ix_at mT_X5_producer 161 = some (.iconst 1, 1) := by decide +kernel
theorem a_X5_producer_162 : ix_at mT_X5_producer 162 = some (.goto 4, 3) := by decide +kernel
theorem a_X5_producer_165 : ix_at mT_X5_producer 165 = some (.iconst 0, 1) := by decide +kernel
theorem a_X5_producer_166 : ix_at mT_X5_producer 166 = some (.iadd, 1) := by decide +kernel
theorem a_X5_producer_167 : ix_at mT_X5_producer 167 = some (.istore_n 3, 1) := by decide +kernel
theorem a_X5_producer_168 : ix_at mT_X5_producer 168 = some (.iinc 4 1, 3) := by decide +kernel
theorem a_X5_producer_171 : ix_at mT_X5_producer 171 = some (.goto (-46), 3) := by decide +kernel
theorem a_X5_producer_174 : ix_at mT_X5_producer 174 = some (.iload_n 3, 1) := by decide +kernel
theorem a_X5_producer_175 : ix_at mT_X5_producer 175 = some (.ireturn, 1) := by decide +kernel
theorem a_X5_producer_176 : ix_at mT_X5_producer 176 = some (.iconst (-1), 1) := by decide +kernel
theorem a_X5_producer_177 : ix_at mT_X5_producer 177 = some (.ireturn, 1) := by decide +kernel
theorem a_X5_next_0 : ix_at mT_X5_next 0 = some (.aload_n 0, 1) := by decide +kernel
theorem a_X5_next_1 : ix_at mT_X5_next 1 = some (.getfield 99, 3) := by decide +kernel
theorem a_X5_next_4 : ix_at mT_X5_next 4 = some (.ifCond .ne 30, 3) := by decide +kernel
theorem a_X5_next_7 : ix_at mT_X5_next 7 = some (.iload_n 1, 1) := by decide +kernel
theorem a_X5_next_8 : ix_at mT_X5_next 8 = some (.ifCond .lt 26, 3) := by decide +kernel
theorem a_X5_next_11 : ix_at mT_X5_next 11 = some (.iload_n 1, 1) := by decide +kernel
theorem a_X5_next_12 : ix_at mT_X5_next 12 = some (.bipush 31, 2) := by decide +kernel
theorem a_X5_next_14 : ix_at mT_X5_next 14 = some (.if_icmp .gt 20, 3) := by decide +kernel
theorem a_X5_next_17 : ix_at mT_X5_next 17 = some (.aload_n 0, 1) := by decide +kernel
theorem a_X5_next_18 : ix_at mT_X5_next 18 = some (.getfield 36, 3) := by decide +kernel
theorem a_X5_next_21 : ix_at mT_X5_next 21 = some (.iload_n 1, 1) := by decide +kernel
theorem a_X5_next_22 : ix_at mT_X5_next 22 = some (.baload, 1) := by decide +kernel
theorem a_X5_next_23 : ix_at mT_X5_next 23 = some (.ifCond .eq 11, 3) := by decide +kernel
theorem a_X5_next_26 : ix_at mT_X5_next 26 = some (.aload_n 0, 1) := by decide +kernel
theorem a_X5_next_27 : ix_at mT_X5_next 27 = some (.iload_n 2, 1) := by decide +kernel
theorem a_X5_next_28 : ix_at mT_X5_next 28 = some (.invokevirtual 185, 3) := by decide +kernel
theorem a_X5_next_31 : ix_at mT_X5_next 31 = some (.ifCond .ne 7, 3) := by decide +kernel
theorem a_X5_next_34 : ix_at mT_X5_next 34 = some (.iconst (-1), 1) := by decide +kernel
theorem a_X5_next_35 : ix_at mT_X5_next 35 = some (.goto 9, 3) := by decide +kernel
theorem a_X5_next_38 : ix_at mT_X5_next 38 = some (.aload_n 0, 1) := by decide +kernel
theorem a_X5_next_39 : ix_at mT_X5_next 39 = some (.iload_n 1, 1) := by decide +kernel
theorem a_X5_next_40 : ix_at mT_X5_next 40 = some (.iload_n 2, 1) := by decide +kernel
theorem a_X5_next_41 : ix_at mT_X5_next 41 = some (.invokevirtual 175, 3) := by decide +kernel
theorem a_X5_next_44 : ix_at mT_X5_next 44 = some (.ireturn, 1) := by decide +kernel
theorem a_X5_byteIn_0 : ix_at mT_X5_byteIn 0 = some (.iload_n 0, 1) := by decide +kernel
theorem a_X5_byteIn_1 : ix_at mT_X5_byteIn 1 = some (.bipush 8, 2) := by decide +kernel
theorem a_X5_byteIn_3 : ix_at mT_X5_byteIn 3 = some (.iload_n 1, 1) := by decide +kernel
theorem a_X5_byteIn_4 : ix_at mT_X5_byteIn 4 = some (.iconst 1, 1) := by decide +kernel
theorem a_X5_byteIn_5 : ix_at mT_X5_byteIn 5 = some (.isub, 1) := by decide +kernel
theorem a_X5_byteIn_6 : ix_at mT_X5_byteIn 6 = some (.iload_n 2, 1) := by decide +kernel
theorem a_X5_byteIn_7 : ix_at mT_X5_byteIn 7 = some (.isub, 1) := by decide +kernel
theorem a_X5_byteIn_8 : ix_at mT_X5_byteIn 8 = some (.imul, 1) := by decide +kernel
theorem a_X5_byteIn_9 : ix_at mT_X5_byteIn 9 = some (.ishr, 1) := by decide +kernel
theorem a_X5_byteIn_10 : ix_at mT_X5_byteIn 10 = some (.sipush 255, 3) := by decide +kernel
theorem a_X5_byteIn_13 : ix_at mT_X5_byteIn 13 = some (.iand, 1) := by decide +kernel
theorem a_X5_byteIn_14 : ix_at mT_X5_byteIn 14 = some (.ireturn, 1) := by decide +kernel
theorem a_X5_behind_0 : ix_at mT_X5_behind 0 = some (.aload_n 0, 1) := by decide +kernel
theorem a_X5_behind_1 : ix_at mT_X5_behind 1 = some (.getfield 9, 3) := by decide +kernel
theorem a_X5_behind_4 : ix_at mT_X5_behind 4 = some (.iload_n 1, 1) := by decide +kernel
theorem a_X5_behind_5 : ix_at mT_X5_behind 5 = some (.iaload, 1) := by decide +kernel
theorem a_X5_behind_6 : ix_at mT_X5_behind 6 = some (.aload_n 0, 1) := by decide +kernel
theorem a_X5_behind_7 : ix_at mT_X5_behind 7 = some (.getfield 87, 3) := by decide +kernel
theorem a_X5_behind_10 : ix_at mT_X5_behind 10 = some (.if_icmp .ne 92, 3) := by decide +kernel
theorem a_X5_behind_13 : ix_at mT_X5_behind 13 = some (.iload_n 2, 1) := by decide +kernel
theorem a_X5_behind_14 : ix_at mT_X5_behind 14 = some (.iconst 4, 1) := by decide +kernel
theorem a_X5_behind_15 : ix_at mT_X5_behind 15 = some (.if_icmp .ne 12, 3) := by decide +kernel
theorem a_X5_behind_18 : ix_at mT_X5_behind 18 = some (.aload_n 0, 1) := by decide +kernel
theorem a_X5_behind_19 : ix_at mT_X5_behind 19 = some (.getfield 13, 3) := by decide +kernel
theorem a_X5_behind_22 : ix_at mT_X5_behind 22 = some (.iload_n 1, 1) := by decide +kernel
theorem a_X5_behind_23 : ix_at mT_X5_behind 23 = some (.iaload, 1) := by decide +kernel
theorem a_X5_behind_24 : ix_at mT_X5_behind 24 = some (.goto 77, 3) := by decide +kernel
theorem a_X5_behind_27 : ix_at mT_X5_behind 27 = some (.iload_n 2, 1) := by decide +kernel
theorem a_X5_behind_28 : ix_at mT_X5_behind 28 = some (.iconst 5, 1) := by decide +kernel
theorem a_X5_behind_29 : ix_at mT_X5_behind 29 = some (.if_icmp .ne 12, 3) := by decide +kernel
theorem a_X5_behind_32 : ix_at mT_X5_behind 32 = some (.aload_n 0, 1) := by decide +kernel
theorem a_X5_behind_33 : ix_at mT_X5_behind 33 = some (.getfield 16, 3) := by decide +kernel
theorem a_X5_behind_36 : ix_at mT_X5_behind 36 = some (.iload_n 1, 1) := by decide +kernel
theorem a_X5_behind_37 : ix_at mT_X5_behind 37 = some (.iaload, 1) := by decide +kernel
theorem a_X5_behind_38 : ix_at mT_X5_behind 38 = some (.goto 63, 3) := by decide +kernel
theorem a_X5_behind_41 : ix_at mT_X5_behind 41 = some (.iload_n 2, 1) := by decide +kernel
theorem a_X5_behind_42 : ix_at mT_X5_behind 42 = some (.bipush 8, 2) := by decide +kernel
theorem a_X5_behind_44 : ix_at mT_X5_behind 44 = some (.if_icmp .ge 20, 3) := by decide +kernel
theorem a_X5_behind_47 : ix_at mT_X5_behind 47 = some (.aload_n 0, 1) := by decide +kernel
theorem a_X5_behind_48 : ix_at mT_X5_behind 48 = some (.getfield 19, 3) := by decide +kernel
theorem a_X5_behind_51 : ix_at mT_X5_behind 51 = some (.iload_n 1, 1) := by decide +kernel
theorem a_X5_behind_52 : ix_at mT_X5_behind 52 = some (.iaload, 1) := by decide +kernel
theorem a_X5_behind_53 : ix_at mT_X5_behind 53 = some (.iconst 2, 1) := by decide +kernel
theorem a_X5_behind_54 : ix_at mT_X5_behind 54 = some (.iload_n 2, 1) := by decide +kernel
theorem a_X5_behind_55 : ix_at mT_X5_behind 55 = some (.bipush 6, 2) := by decide +kernel
theorem a_X5_behind_57 : ix_at mT_X5_behind 57 = some (.isub, 1) := by decide +kernel
theorem a_X5_behind_58 : ix_at mT_X5_behind 58 = some (.invokestatic 214, 3) := by decide +kernel
theorem a_X5_behind_61 : ix_at mT_X5_behind 61 = some (.goto 40, 3) := by decide +kernel
theorem a_X5_behind_64 : ix_at mT_X5_behind 64 = some (.iload_n 2, 1) := by decide +kernel
theorem a_X5_behind_65 : ix_at mT_X5_behind 65 = some (.bipush 12, 2) := by decide +kernel
theorem a_X5_behind_67 : ix_at mT_X5_behind 67 = some (.if_icmp .ge 20, 3) := by decide +kernel
theorem a_X5_behind_70 : ix_at mT_X5_behind 70 = some (.aload_n 0, 1) := by decide +kernel
theorem a_X5_behind_71 : ix_at mT_X5_behind 71 = some (.getfield 22, 3) := by decide +kernel
theorem a_X5_behind_74 : ix_at mT_X5_behind 74 = some (.iload_n 1, 1) := by decide +kernel
theorem a_X5_behind_75 : ix_at mT_X5_behind 75 = some (.iaload, 1) := by decide +kernel
theorem a_X5_behind_76 : ix_at mT_X5_behind 76 = some (.iconst 4, 1) := by decide +kernel
theorem a_X5_behind_77 : ix_at mT_X5_behind 77 = some (.iload_n 2, 1) := by decide +kernel
theorem a_X5_behind_78 : ix_at mT_X5_behind 78 = some (.bipush 8, 2) := by decide +kernel
theorem a_X5_behind_80 : ix_at mT_X5_behind 80 = some (.isub, 1) := by decide +kernel
theorem a_X5_behind_81 : ix_at mT_X5_behind 81 = some (.invokestatic 214, 3) := by decide +kernel
theorem a_X5_behind_84 : ix_at mT_X5_behind 84 = some (.goto 17, 3) := by decide +kernel
theorem a_X5_behind_87 : ix_at mT_X5_behind 87 = some (.aload_n 0, 1) := by decide +kernel
theorem a_X5_behind_88 : ix_at mT_X5_behind 88 = some (.getfield 25, 3) := by decide +kernel
theorem a_X5_behind_91 : ix_at mT_X5_behind 91 = some (.iload_n 1, 1) := by decide +kernel
theorem a_X5_behind_92 : ix_at mT_X5_behind 92 = some (.iaload, 1) := by decide +kernel
theorem a_X5_behind_93 : ix_at mT_X5_behind 93 = some (.iconst 4, 1) := by decide +kernel
theorem a_X5_behind_94 : ix_at mT_X5_behind 94 = some (.iload_n 2, 1) := by decide +kernel
theorem a_X5_behind_95 : ix_at mT_X5_behind 95 = some (.bipush 12, 2) := by decide +kernel
theorem a_X5_behind_97 : ix_at mT_X5_behind 97 = some (.isub, 1) := by decide +kernel
theorem a_X5_behind_98 : ix_at mT_X5_behind 98 = some (.invokestatic 214, 3) := by decide +kernel
theorem a_X5_behind_101 : ix_at mT_X5_behind 101 = some (.ireturn, 1) := by decide +kernel
theorem a_X5_behind_102 : ix_at mT_X5_behind 102 = some (.iload_n 2, 1) := by decide +kernel
theorem a_X5_behind_103 : ix_at mT_X5_behind 103 = some (.bipush 6, 2) := by decide +kernel
theorem a_X5_behind_105 : ix_at mT_X5_behind 105 = some (.if_icmp .ge 17, 3) := by decide +kernel
theorem a_X5_behind_108 : ix_at mT_X5_behind 108 = some (.aload_n 0, 1) := by decide +kernel
theorem a_X5_behind_109 : ix_at mT_X5_behind 109 = some (.getfield 25, 3) := by decide +kernel
theorem a_X5_behind_112 : ix_at mT_X5_behind 112 = some (.iload_n 1, 1) := by decide +kernel
theorem a_X5_behind_113 : ix_at mT_X5_behind 113 = some (.iaload, 1) := by decide +kernel
theorem a_X5_behind_114 : ix_at mT_X5_behind 114 = some (.iconst 2, 1) := by decide +kernel
theorem a_X5_behind_115 : ix_at mT_X5_behind 115 = some (.iload_n 2, 1) := by decide +kernel
theorem a_X5_behind_116 : ix_at mT_X5_behind 116 = some (.iconst 4, 1) := by decide +kernel
theorem a_X5_behind_117 : ix_at mT_X5_behind 117 = some (.isub, 1) := by decide +kernel
theorem a_X5_behind_118 : ix_at mT_X5_behind 118 = some (.invokestatic 214, 3) := by decide +kernel
theorem a_X5_behind_121 : ix_at mT_X5_behind 121 = some (.ireturn, 1) := by decide +kernel
theorem a_X5_behind_122 : ix_at mT_X5_behind 122 = some (.iload_n 2, 1) := by decide +kernel
theorem a_X5_behind_123 : ix_at mT_X5_behind 123 = some (.bipush 8, 2) := by decide +kernel
theorem a_X5_behind_125 : ix_at mT_X5_behind 125 = some (.if_icmp .ge 25, 3) := by decide +kernel
theorem a_X5_behind_128 : ix_at mT_X5_behind 128 = some (.iload_n 2, 1) := by decide +kernel
theorem a_X5_behind_129 : ix_at mT_X5_behind 129 = some (.bipush 6, 2) := by decide +kernel
theorem a_X5_behind_131 : ix_at mT_X5_behind 131 = some (.if_icmp .ne 12, 3) := by decide +kernel
theorem a_X5_behind_134 : ix_at mT_X5_behind 134 = some (.aload_n 0, 1) := by decide +kernel
theorem a_X5_behind_135 : ix_at mT_X5_behind 135 = some (.getfield 13, 3) := by decide +kernel
theorem a_X5_behind_138 : ix_at mT_X5_behind 138 = some (.iload_n 1, 1) := by decide +kernel
theorem a_X5_behind_139 : ix_at mT_X5_behind 139 = some (.iaload, 1) := by decide +kernel
theorem a_X5_behind_140 : ix_at mT_X5_behind 140 = some (.goto 9, 3) := by decide +kernel
theorem a_X5_behind_143 : ix_at mT_X5_behind 143 = some (.aload_n 0, 1) := by decide +kernel
theorem a_X5_behind_144 : ix_at mT_X5_behind 144 = some (.getfield 16, 3) := by decide +kernel
theorem a_X5_behind_147 : ix_at mT_X5_behind 147 = some (.iload_n 1, 1) := by decide +kernel
theorem a_X5_behind_148 : ix_at mT_X5_behind 148 = some (.iaload, 1) := by decide +kernel
theorem a_X5_behind_149 : ix_at mT_X5_behind 149 = some (.ireturn, 1) := by decide +kernel
theorem a_X5_behind_150 : ix_at mT_X5_behind 150 = some (.iload_n 2, 1) := by decide +kernel
theorem a_X5_behind_151 : ix_at mT_X5_behind 151 = some (.bipush 10, 2) := by decide +kernel
theorem a_X5_behind_153 : ix_at mT_X5_behind 153 = some (.if_icmp .ge 20, 3) := by decide +kernel
theorem a_X5_behind_156 : ix_at mT_X5_behind 156 = some (.aload_n 0, 1) := by decide +kernel
theorem a_X5_behind_157 : ix_at mT_X5_behind 157 = some (.getfield 19, 3) := by decide +kernel
theorem a_X5_behind_160 : ix_at mT_X5_behind 160 = some (.iload_n 1, 1) := by decide +kernel
theorem a_X5_behind_161 : ix_at mT_X5_behind 161 = some (.iaload, 1) := by decide +kernel
theorem a_X5_behind_162 : ix_at mT_X5_behind 162 = some (.iconst 2, 1) := by decide +kernel
theorem a_X5_behind_163 : ix_at mT_X5_behind 163 = some (.iload_n 2, 1) := by decide +kernel
theorem a_X5_behind_164 : ix_at mT_X5_behind 164 = some (.bipush 8, 2) := by decide +kernel
theorem a_X5_behind_166 : ix_at mT_X5_behind 166 = some (.isub, 1) := by decide +kernel
theorem a_X5_behind_167 : ix_at mT_X5_behind 167 = some (.invokestatic 214, 3) := by decide +kernel
theorem a_X5_behind_170 : ix_at mT_X5_behind 170 = some (.goto 44, 3) := by decide +kernel
theorem a_X5_behind_173 : ix_at mT_X5_behind 173 = some (.iload_n 2, 1) := by decide +kernel
theorem a_X5_behind_174 : ix_at mT_X5_behind 174 = some (.bipush 14, 2) := by decide +kernel
theorem a_X5_behind_176 : ix_at mT_X5_behind 176 = some (.if_icmp .ge 20, 3) := by decide +kernel
theorem a_X5_behind_179 : ix_at mT_X5_behind 179 = some (.aload_n 0, 1) := by decide +kernel
theorem a_X5_behind_180 : ix_at mT_X5_behind 180 = some (.getfield 22, 3) := by decide +kernel
theorem a_X5_behind_183 : ix_at mT_X5_behind 183 = some (.iload_n 1, 1) := by decide +kernel
theorem a_X5_behind_184 : ix_at mT_X5_behind 184 = some (.iaload, 1) := by decide +kernel
theorem a_X5_behind_185 : ix_at mT_X5_behind 185 = some (.iconst 4, 1) := by decide +kernel
theorem a_X5_behind_186 : ix_at mT_X5_behind 186 = some (.iload_n 2, 1) := by decide +kernel
theorem a_X5_behind_187 : ix_at mT_X5_behind 187 = some (.bipush 10, 2) := by decide +kernel
theorem a_X5_behind_189 : ix_at mT_X5_behind 189 = some (.isub, 1) := by decide +kernel
theorem a_X5_behind_190 : ix_at mT_X5_behind 190 = some (.invokestatic 214, 3) := by decide +kernel
theorem a_X5_behind_193 : ix_at mT_X5_behind 193 = some (.goto 21, 3) := by decide +kernel
theorem a_X5_behind_196 : ix_at mT_X5_behind 196 = some (.aload_n 0, 1) := by decide +kernel
theorem a_X5_behind_197 : ix_at mT_X5_behind 197 = some (.getfield 32, 3) := by decide +kernel
theorem a_X5_behind_200 : ix_at mT_X5_behind 200 = some (.bipush 40, 2) := by decide +kernel
theorem a_X5_behind_202 : ix_at mT_X5_behind 202 = some (.iload_n 1, 1) := by decide +kernel
theorem a_X5_behind_203 : ix_at mT_X5_behind 203 = some (.imul, 1) := by decide +kernel
theorem a_X5_behind_204 : ix_at mT_X5_behind 204 = some (.iload_n 2, 1) := by decide +kernel
theorem a_X5_behind_205 : ix_at mT_X5_behind 205 = some (.iadd, 1) := by decide +kernel
theorem a_X5_behind_206 : ix_at mT_X5_behind 206 = some (.bipush 14, 2) := by decide +kernel
theorem a_X5_behind_208 : ix_at mT_X5_behind 208 = some (.isub, 1) := by decide +kernel
theorem a_X5_behind_209 : ix_at mT_X5_behind 209 = some (.baload, 1) := by decide +kernel
theorem a_X5_behind_210 : ix_at mT_X5_behind 210 = some (.sipush 255, 3) := by decide +kernel
theorem a_X5_behind_213 : ix_at mT_X5_behind 213 = some (.iand, 1) := by decide +kernel
theorem a_X5_behind_214 : ix_at mT_X5_behind 214 = some (.ireturn, 1) := by decide +kernel
theorem a_X5_byteAt_0 : ix_at mT_X5_byteAt 0 = some (.iload_n 2, 1) := by decide +kernel
theorem a_X5_byteAt_1 : ix_at mT_X5_byteAt 1 = some (.iconst 4, 1) := by decide +kernel
theorem a_X5_byteAt_2 : ix_at mT_X5_byteAt 2 = some (.if_icmp .lt 10, 3) := by decide +kernel
theorem a_X5_byteAt_5 : ix_at mT_X5_byteAt 5 = some (.aload_n 0, 1) := by decide +kernel
theorem a_X5_byteAt_6 : ix_at mT_X5_byteAt 6 = some (.iload_n 1, 1) := by decide +kernel
theorem a_X5_byteAt_7 : ix_at mT_X5_byteAt 7 = some (.iload_n 2, 1) := by decide +kernel
theorem a_X5_byteAt_8 : ix_at mT_X5_byteAt 8 = some (.invokevirtual 217, 3) := by decide +kernel
theorem a_X5_byteAt_11 : ix_at mT_X5_byteAt 11 = some (.ireturn, 1) := by decide +kernel
theorem a_X5_byteAt_12 : ix_at mT_X5_byteAt 12 = some (.bipush 17, 2) := by decide +kernel
theorem a_X5_byteAt_14 : ix_at mT_X5_byteAt 14 = some (.istore_n 3, 1) := by decide +kernel
theorem a_X5_byteAt_15 : ix_at mT_X5_byteAt 15 = some (.iconst 4, 1) := by decide +kernel
theorem a_X5_byteAt_16 : ix_at mT_X5_byteAt 16 = some (.istore 4, 2) := by decide +kernel
theorem a_X5_byteAt_18 : ix_at mT_X5_byteAt 18 = some (.iload 4, 2) := by decide +kernel
theorem a_X5_byteAt_20 : ix_at mT_X5_byteAt 20 = some (.aload_n 0, 1) := by decide +kernel
theorem a_X5_byteAt_21 : ix_at mT_X5_byteAt 21 = some (.iload_n 1, 1) := by decide +kernel
theorem a_X5_byteAt_22 : ix_at mT_X5_byteAt 22 = some (.invokevirtual 121, 3) := by decide +kernel
theorem a_X5_byteAt_25 : ix_at mT_X5_byteAt 25 = some (.if_icmp .ge 22, 3) := by decide +kernel
theorem a_X5_byteAt_28 : ix_at mT_X5_byteAt 28 = some (.iload_n 3, 1) := by decide +kernel
theorem a_X5_byteAt_29 : ix_at mT_X5_byteAt 29 = some (.bipush 31, 2) := by decide +kernel
theorem a_X5_byteAt_31 : ix_at mT_X5_byteAt 31 = some (.imul, 1) := by decide +kernel
theorem a_X5_byteAt_32 : ix_at mT_X5_byteAt 32 = some (.aload_n 0, 1) := by decide +kernel
theorem a_X5_byteAt_33 : ix_at mT_X5_byteAt 33 = some (.iload_n 1, 1) := by decide +kernel
theorem a_X5_byteAt_34 : ix_at mT_X5_byteAt 34 = some (.iload 4, 2) := by decide +kernel
theorem a_X5_byteAt_36 : ix_at mT_X5_byteAt 36 = some (.invokevirtual 217, 3) := by decide +kernel
theorem a_X5_byteAt_39 : ix_at mT_X5_byteAt 39 = some (.iadd, 1) := by decide +kernel
theorem a_X5_byteAt_40 : ix_at mT_X5_byteAt 40 = some (.istore_n 3, 1) := by decide +kernel
theorem a_X5_byteAt_41 : ix_at mT_X5_byteAt 41 = some (.iinc 4 1, 3) := by decide +kernel
theorem a_X5_byteAt_44 : ix_at mT_X5_byteAt 44 = some (.goto (-26), 3) := by decide +kernel
theorem a_X5_byteAt_47 : ix_at mT_X5_byteAt 47 = some (.iload_n 3, 1) := by decide +kernel
theorem a_X5_byteAt_48 : ix_at mT_X5_byteAt 48 = some (.iconst 4, 1) := by decide +kernel
theorem a_X5_byteAt_49 : ix_at mT_X5_byteAt 49 = some (.iload_n 2, 1) := by decide +kernel
theorem a_X5_byteAt_50 : ix_at mT_X5_byteAt 50 = some (.invokestatic 214, 3) := by decide +kernel
theorem a_X5_byteAt_53 : ix_at mT_X5_byteAt 53 = some (.ireturn, 1) := by decide +kernel
theorem a_X5_byteOf_0 : ix_at mT_X5_byteOf 0 = some (.iload_n 1, 1) := by decide +kernel
theorem a_X5_byteOf_1 : ix_at mT_X5_byteOf 1 = some (.ifCond .lt 24, 3) := by decide +kernel
theorem a_X5_byteOf_4 : ix_at mT_X5_byteOf 4 = some (.iload_n 1, 1) := by decide +kernel
theorem a_X5_byteOf_5 : ix_at mT_X5_byteOf 5 = some (.aload_n 0, 1) := by decide +kernel
theorem a_X5_byteOf_6 : ix_at mT_X5_byteOf 6 = some (.getfield 87, 3) := by decide +kernel
theorem a_X5_byteOf_9 : ix_at mT_X5_byteOf 9 = some (.if_icmp .gt 16, 3) := by decide +kernel
theorem a_X5_byteOf_12 : ix_at mT_X5_byteOf 12 = some (.iload_n 2, 1) := by decide +kernel
theorem a_X5_byteOf_13 : ix_at mT_X5_byteOf 13 = some (.ifCond .lt 12, 3) := by decide +kernel
theorem a_X5_byteOf_16 : ix_at mT_X5_byteOf 16 = some (.iload_n 2, 1) := by decide +kernel
theorem a_X5_byteOf_17 : ix_at mT_X5_byteOf 17 = some (.aload_n 0, 1) := by decide +kernel
theorem a_X5_byteOf_18 : ix_at mT_X5_byteOf 18 = some (.iload_n 1, 1) := by decide +kernel
theorem a_X5_byteOf_19 : ix_at mT_X5_byteOf 19 = some (.invokevirtual 208, 3) := by decide +kernel
theorem a_X5_byteOf_22 : ix_at mT_X5_byteOf 22 = some (.if_icmp .lt 5, 3) := by decide +kernel
theorem a_X5_byteOf_25 : ix_at mT_X5_byteOf 25 = some (.iconst (-1), 1) := by decide +kernel
theorem a_X5_byteOf_26 : ix_at mT_X5_byteOf 26 = some (.ireturn, 1) := by decide +kernel
theorem a_X5_byteOf_27 : ix_at mT_X5_byteOf 27 = some (.iload_n 2, 1) := by decide +kernel
theorem a_X5_byteOf_28 : ix_at mT_X5_byteOf 28 = some (.istore_n 3, 1) := by decide +kernel
theorem a_X5_byteOf_29 : ix_at mT_X5_byteOf 29 = some (.iconst 0, 1) := by decide +kernel
theorem a_X5_byteOf_30 : ix_at mT_X5_byteOf 30 = some (.istore 4, 2) := by decide +kernel
theorem a_X5_byteOf_32 : ix_at mT_X5_byteOf 32 = some (.iload 4, 2) := by decide +kernel
theorem a_X5_byteOf_34 : ix_at mT_X5_byteOf 34 = some (.aload_n 0, 1) := by decide +kernel
theorem a_X5_byteOf_35 : ix_at mT_X5_byteOf 35 = some (.getfield 106, 3) := by decide +kernel
theorem a_X5_byteOf_38 : ix_at mT_X5_byteOf 38 = some (.if_icmp .ge 50, 3) := by decide +kernel
theorem a_X5_byteOf_41 : ix_at mT_X5_byteOf 41 = some (.aload_n 0, 1) := by decide +kernel
theorem a_X5_byteOf_42 : ix_at mT_X5_byteOf 42 = some (.getfield 9, 3) := by decide +kernel
theorem a_X5_byteOf_45 : ix_at mT_X5_byteOf 45 = some (.iload 4, 2) := by decide +kernel
theorem a_X5_byteOf_47 : ix_at mT_X5_byteOf 47 = some (.iaload, 1) := by decide +kernel
theorem a_X5_byteOf_48 : ix_at mT_X5_byteOf 48 = some (.iload_n 1, 1) := by decide +kernel
theorem a_X5_byteOf_49 : ix_at mT_X5_byteOf 49 = some (.if_icmp .eq 6, 3) := by decide +kernel
theorem a_X5_byteOf_52 : ix_at mT_X5_byteOf 52 = some (.goto 30, 3) := by decide +kernel
theorem a_X5_byteOf_55 : ix_at mT_X5_byteOf 55 = some (.iload_n 3, 1) := by decide +kernel
theorem a_X5_byteOf_56 : ix_at mT_X5_byteOf 56 = some (.aload_n 0, 1) := by decide +kernel
theorem a_X5_byteOf_57 : ix_at mT_X5_byteOf 57 = some (.iload 4, 2) := by decide +kernel
theorem a_X5_byteOf_59 : ix_at mT_X5_byteOf 59 = some (.invokevirtual 121, 3) := by decide +kernel
theorem a_X5_byteOf_62 : ix_at mT_X5_byteOf 62 = some (.if_icmp .ge 11, 3) := by decide +kernel
theorem a_X5_byteOf_65 : ix_at mT_X5_byteOf 65 = some (.aload_n 0, 1) := by decide +kernel
theorem a_X5_byteOf_66 : ix_at mT_X5_byteOf 66 = some (.iload 4, 2) := by decide +kernel
theorem a_X5_byteOf_68 : ix_at mT_X5_byteOf 68 = some (.iload_n 3, 1) := by decide +kernel
theorem a_X5_byteOf_69 : ix_at mT_X5_byteOf 69 = some (.invokevirtual 220, 3) := by decide +kernel
theorem a_X5_byteOf_72 : ix_at mT_X5_byteOf 72 = some (.ireturn, 1) := by decide +kernel
theorem a_X5_byteOf_73 : ix_at mT_X5_byteOf 73 = some (.iload_n 3, 1) := by decide +kernel
theorem a_X5_byteOf_74 : ix_at mT_X5_byteOf 74 = some (.aload_n 0, 1) := by decide +kernel
theorem a_X5_byteOf_75 : ix_at mT_X5_byteOf 75 = some (.iload 4, 2) := by decide +kernel
theorem a_X5_byteOf_77 : ix_at mT_X5_byteOf 77 = some (.invokevirtual 121, 3) := by decide +kernel
theorem a_X5_byteOf_80 : ix_at mT_X5_byteOf 80 = some (.isub, 1) := by decide +kernel
theorem a_X5_byteOf_81 : ix_at mT_X5_byteOf 81 = some (.istore_n 3, 1) := by decide +kernel
theorem a_X5_byteOf_82 : ix_at mT_X5_byteOf 82 = some (.iinc 4 1, 3) := by decide +kernel
theorem a_X5_byteOf_85 : ix_at mT_X5_byteOf 85 = some (.goto (-53), 3) := by decide +kernel
theorem a_X5_byteOf_88 : ix_at mT_X5_byteOf 88 = some (.aload_n 0, 1) := by decide +kernel
theorem a_X5_byteOf_89 : ix_at mT_X5_byteOf 89 = some (.aload_n 0, 1) := by decide +kernel
theorem a_X5_byteOf_90 : ix_at mT_X5_byteOf 90 = some (.getfield 106, 3) := by decide +kernel
theorem a_X5_byteOf_93 : ix_at mT_X5_byteOf 93 = some (.iload_n 3, 1) := by decide +kernel
theorem a_X5_byteOf_94 : ix_at mT_X5_byteOf 94 = some (.invokevirtual 220, 3) := by decide +kernel
theorem a_X5_byteOf_97 : ix_at mT_X5_byteOf 97 = some (.ireturn, 1) := by decide +kernel
theorem a_X5_count_0 : ix_at mT_X5_count 0 = some (.iconst 0, 1) := by decide +kernel
theorem a_X5_count_1 : ix_at mT_X5_count 1 = some (.istore_n 2, 1) := by decide +kernel
theorem a_X5_count_2 : ix_at mT_X5_count 2 = some (.iconst 0, 1) := by decide +kernel
theorem a_X5_count_3 : ix_at mT_X5_count 3 = some (.istore_n 3, 1) := by decide +kernel
theorem a_X5_count_4 : ix_at mT_X5_count 4 = some (.iload_n 3, 1) := by decide +kernel
theorem a_X5_count_5 : ix_at mT_X5_count 5 = some (.bipush 32, 2) := by decide +kernel
theorem a_X5_count_7 : ix_at mT_X5_count 7 = some (.if_icmp .ge 26, 3) := by decide +kernel
theorem a_X5_count_10 : ix_at mT_X5_count 10 = some (.iload_n 2, 1) := by decide +kernel
theorem a_X5_count_11 : ix_at mT_X5_count 11 = some (.aload_n 0, 1) := by decide +kernel
theorem a_X5_count_12 : ix_at mT_X5_count 12 = some (.getfield 36, 3) := by decide +kernel
theorem a_X5_count_15 : ix_at mT_X5_count 15 = some (.iload_n 3, 1) := by decide +kernel
theorem a_X5_count_16 : ix_at mT_X5_count 16 = some (.baload, 1) := by decide +kernel
theorem a_X5_count_17 : ix_at mT_X5_count 17 = some (.ifCond .eq 7, 3) := by decide +kernel
theorem a_X5_count_20 : ix_at mT_X5_count 20 = some (.iconst 1, 1) := by decide +kernel
theorem a_X5_count_21 : ix_at mT_X5_count 21 = some (.goto 4, 3) := by decide +kernel
theorem a_X5_count_24 : ix_at mT_X5_count 24 = some (.iconst 0, 1) := by decide +kernel
theorem a_X5_count_25 : ix_at mT_X5_count 25 = some (.iadd, 1) := by decide +kernel
theorem a_X5_count_26 : ix_at mT_X5_count 26 = some (.istore_n 2, 1) := by decide +kernel
theorem a_X5_count_27 : ix_at mT_X5_count 27 = some (.iinc 3 1, 3) := by decide +kernel
theorem a_X5_count_30 : ix_at mT_X5_count 30 = some (.goto (-26), 3) := by decide +kernel
theorem a_X5_count_33 : ix_at mT_X5_count 33 = some (.iload_n 1, 1) := by decide +kernel
theorem a_X5_count_34 : ix_at mT_X5_count 34 = some (.tableswitch 164 0 11 #[62, 67, 72, 77, 82, 87, 96, 101, 114, 119, 132, 148], 62) := by decide +kernel
theorem a_X5_count_96 : ix_at mT_X5_count 96 = some (.aload_n 0, 1) := by decide +kernel
theorem a_X5_count_97 : ix_at mT_X5_count 97 = some (.getfield 87, 3) := by decide +kernel
theorem a_X5_count_100 : ix_at mT_X5_count 100 = some (.ireturn, 1) := by decide +kernel
theorem a_X5_count_101 : ix_at mT_X5_count 101 = some (.aload_n 0, 1) := by decide +kernel
theorem a_X5_count_102 : ix_at mT_X5_count 102 = some (.getfield 90, 3) := by decide +kernel
theorem a_X5_count_105 : ix_at mT_X5_count 105 = some (.ireturn, 1) := by decide +kernel
theorem a_X5_count_106 : ix_at mT_X5_count 106 = some (.aload_n 0, 1) := by decide +kernel
theorem a_X5_count_107 : ix_at mT_X5_count 107 = some (.getfield 93, 3) := by decide +kernel
theorem a_X5_count_110 : ix_at mT_X5_count 110 = some (.ireturn, 1) := by decide +kernel
theorem a_X5_count_111 : ix_at mT_X5_count 111 = some (.aload_n 0, 1) := by decide +kernel
theorem a_X5_count_112 : ix_at mT_X5_count 112 = some (.getfield 96, 3) := by decide +kernel
theorem a_X5_count_115 : ix_at mT_X5_count 115 = some (.ireturn, 1) := by decide +kernel
theorem a_X5_count_116 : ix_at mT_X5_count 116 = some (.aload_n 0, 1) := by decide +kernel
theorem a_X5_count_117 : ix_at mT_X5_count 117 = some (.invokevirtual 199, 3) := by decide +kernel
theorem a_X5_count_120 : ix_at mT_X5_count 120 = some (.ireturn, 1) := by decide +kernel
theorem a_X5_count_121 : ix_at mT_X5_count 121 = some (.aload_n 0, 1) := by decide +kernel
theorem a_X5_count_122 : ix_at mT_X5_count 122 = some (.aload_n 0, 1) := by decide +kernel
theorem a_X5_count_123 : ix_at mT_X5_count 123 = some (.getfield 87, 3) := by decide +kernel
theorem a_X5_count_126 : ix_at mT_X5_count 126 = some (.invokevirtual 208, 3) := by decide +kernel
theorem a_X5_count_129 : ix_at mT_X5_count 129 = some (.ireturn, 1) := by decide +kernel
theorem a_X5_count_130 : ix_at mT_X5_count 130 = some (.aload_n 0, 1) := by decide +kernel
theorem a_X5_count_131 : ix_at mT_X5_count 131 = some (.getfield 168, 3) := by decide +kernel
theorem a_X5_count_134 : ix_at mT_X5_count 134 = some (.ireturn, 1) := by decide +kernel
theorem a_X5_count_135 : ix_at mT_X5_count 135 = some (.aload_n 0, 1) := by decide +kernel
theorem a_X5_count_136 : ix_at mT_X5_count 136 = some (.getfield 99, 3) := by decide +kernel
theorem a_X5_count_139 : ix_at mT_X5_count 139 = some (.ifCond .eq 7, 3) := by decide +kernel
theorem a_X5_count_142 : ix_at mT_X5_count 142 = some (.iconst 1, 1) := by decide +kernel
theorem a_X5_count_143 : ix_at mT_X5_count 143 = some (.goto 4, 3) := by decide +kernel
theorem a_X5_count_146 : ix_at mT_X5_count 146 = some (.iconst 0, 1) := by decide +kernel
theorem a_X5_count_147 : ix_at mT_X5_count 147 = some (.ireturn, 1) := by decide +kernel
theorem a_X5_count_148 : ix_at mT_X5_count 148 = some (.aload_n 0, 1) := by decide +kernel
theorem a_X5_count_149 : ix_at mT_X5_count 149 = some (.getfield 103, 3) := by decide +kernel
theorem a_X5_count_152 : ix_at mT_X5_count 152 = some (.ireturn, 1) := by decide +kernel
theorem a_X5_count_153 : ix_at mT_X5_count 153 = some (.aload_n 0, 1) := by decide +kernel
theorem a_X5_count_154 : ix_at mT_X5_count 154 = some (.getfield 99, 3) := by decide +kernel
theorem a_X5_count_157 : ix_at mT_X5_count 157 = some (.ifCond .eq 7, 3) := by decide +kernel
theorem a_X5_count_160 : ix_at mT_X5_count 160 = some (.iconst (-1), 1) := by decide +kernel
theorem a_X5_count_161 : ix_at mT_X5_count 161 = some (.goto 4, 3) := by decide +kernel
theorem a_X5_count_164 : ix_at mT_X5_count 164 = some (.iload_n 2, 1) := by decide +kernel
theorem a_X5_count_165 : ix_at mT_X5_count 165 = some (.ireturn, 1) := by decide +kernel
theorem a_X5_count_166 : ix_at mT_X5_count 166 = some (.aload_n 0, 1) := by decide +kernel
theorem a_X5_count_167 : ix_at mT_X5_count 167 = some (.getfield 99, 3) := by decide +kernel
theorem a_X5_count_170 : ix_at mT_X5_count 170 = some (.ifCond .eq 7, 3) := by decide +kernel
theorem a_X5_count_173 : ix_at mT_X5_count 173 = some (.iconst (-1), 1) := by decide +kernel
theorem a_X5_count_174 : ix_at mT_X5_count 174 = some (.goto 7, 3) := by decide +kernel
theorem a_X5_count_177 : ix_at mT_X5_count 177 = some (.aload_n 0, 1) := by decide +kernel
theorem a_X5_count_178 : ix_at mT_X5_count 178 = some (.invokevirtual 147, 3) := by decide +kernel
theorem a_X5_count_181 : ix_at mT_X5_count 181 = some (.ireturn, 1) := by decide +kernel
theorem a_X5_count_182 : ix_at mT_X5_count 182 = some (.aload_n 0, 1) := by decide +kernel
theorem a_X5_count_183 : ix_at mT_X5_count 183 = some (.getfield 99, 3) := by decide +kernel
theorem a_X5_count_186 : ix_at mT_X5_count 186 = some (.ifCond .eq 7, 3) := by decide +kernel
theorem a_X5_count_189 : ix_at mT_X5_count 189 = some (.iconst (-1), 1) := by decide +kernel
theorem a_X5_count_190 : ix_at mT_X5_count 190 = some (.goto 7, 3) := by decide +kernel
theorem a_X5_count_193 : ix_at mT_X5_count 193 = some (.aload_n 0, 1) := by decide +kernel
theorem a_X5_count_194 : ix_at mT_X5_count 194 = some (.getfield 80, 3) := by decide +kernel
theorem a_X5_count_197 : ix_at mT_X5_count 197 = some (.ireturn, 1) := by decide +kernel
theorem a_X5_count_198 : ix_at mT_X5_count 198 = some (.iconst (-1), 1) := by decide +kernel
theorem a_X5_count_199 : ix_at mT_X5_count 199 = some (.ireturn, 1) := by decide +kernel
theorem a_J7_fill_53178_0 : ix_at mT_J7_fill_53178 0 = some (.iconst 0, 1) := by decide +kernel
theorem a_J7_fill_53178_1 : ix_at mT_J7_fill_53178 1 = some (.istore_n 2, 1) := by decide +kernel
theorem a_J7_fill_53178_2 : ix_at mT_J7_fill_53178 2 = some (.aload_n 0, 1) := by decide +kernel
theorem a_J7_fill_53178_3 : ix_at mT_J7_fill_53178 3 = some (.arraylength, 1) := by decide +kernel
theorem a_J7_fill_53178_4 : ix_at mT_J7_fill_53178 4 = some (.istore_n 3, 1) := by decide +kernel
theorem a_J7_fill_53178_5 : ix_at mT_J7_fill_53178 5 = some (.iload_n 2, 1) := by decide +kernel
theorem a_J7_fill_53178_6 : ix_at mT_J7_fill_53178 6 = some (.iload_n 3, 1) := by decide +kernel
theorem a_J7_fill_53178_7 : ix_at mT_J7_fill_53178 7 = some (.if_icmp .ge 13, 3) := by decide +kernel
theorem a_J7_fill_53178_10 : ix_at mT_J7_fill_53178 10 = some (.aload_n 0, 1) := by decide +kernel
theorem a_J7_fill_53178_11 : ix_at mT_J7_fill_53178 11 = some (.iload_n 2, 1) := by decide +kernel
theorem a_J7_fill_53178_12 : ix_at mT_J7_fill_53178 12 = some (.iload_n 1, 1) := by decide +kernel
theorem a_J7_fill_53178_13 : ix_at mT_J7_fill_53178 13 = some (.iastore, 1) := by decide +kernel
theorem a_J7_fill_53178_14 : ix_at mT_J7_fill_53178 14 = some (.iinc 2 1, 3) := by decide +kernel
theorem a_J7_fill_53178_17 : ix_at mT_J7_fill_53178 17 = some (.goto (-12), 3) := by decide +kernel
theorem a_J7_fill_53178_20 : ix_at mT_J7_fill_53178 20 = some (.return_, 1) := by decide +kernel
theorem a_L_law_0 : ix_at mT_L_law 0 = some (.new 7, 3) := by decide +kernel
theorem a_L_law_3 : ix_at mT_L_law 3 = some (.dup, 1) := by decide +kernel
theorem a_L_law_4 : ix_at mT_L_law 4 = some (.invokespecial 9, 3) := by decide +kernel
theorem a_L_law_7 : ix_at mT_L_law 7 = some (.astore_n 1, 1) := by decide +kernel
theorem a_L_law_8 : ix_at mT_L_law 8 = some (.new 10, 3) := by decide +kernel
theorem a_L_law_11 : ix_at mT_L_law 11 = some (.dup, 1) := by decide +kernel
theorem a_L_law_12 : ix_at mT_L_law 12 = some (.invokespecial 12, 3) := by decide +kernel
theorem a_L_law_15 : ix_at mT_L_law 15 = some (.astore_n 2, 1) := by decide +kernel
theorem a_L_law_16 : ix_at mT_L_law 16 = some (.iconst 0, 1) := by decide +kernel
theorem a_L_law_17 : ix_at mT_L_law 17 = some (.istore_n 3, 1) := by decide +kernel
theorem a_L_law_18 : ix_at mT_L_law 18 = some (.iload_n 3, 1) := by decide +kernel
theorem a_L_law_19 : ix_at mT_L_law 19 = some (.aload_n 0, 1) := by decide +kernel
theorem a_L_law_20 : ix_at mT_L_law 20 = some (.arraylength, 1) := by decide +kernel
theorem a_L_law_21 : ix_at mT_L_law 21 = some (.bipush 6, 2) := by decide +kernel
theorem a_L_law_23 : ix_at mT_L_law 23 = some (.isub, 1) := by decide +kernel
theorem a_L_law_24 : ix_at mT_L_law 24 = some (.if_icmp .gt 945, 3) := by decide +kernel
theorem a_L_law_27 : ix_at mT_L_law 27 = some (.aload_n 0, 1) := by decide +kernel
theorem a_L_law_28 : ix_at mT_L_law 28 = some (.iload_n 3, 1) := by decide +kernel
theorem a_L_law_29 : ix_at mT_L_law 29 = some (.iaload, 1) := by decide +kernel
theorem a_L_law_30 : ix_at mT_L_law 30 = some (.bipush 31, 2) := by decide +kernel
theorem a_L_law_32 : ix_at mT_L_law 32 = some (.iand, 1) := by decide +kernel
theorem a_L_law_33 : ix_at mT_L_law 33 = some (.tableswitch 930 0 20 #[99, 142, 245, 268, 301, 380, 443, 502, 545, 578, 601, 660, 683, 696, 719, 732, 765, 808, 841, 874, 907], 99) := by decide +kernel
theorem a_L_law_132 : ix_at mT_L_law 132 = some (.aload_n 1, 1) := by decide +kernel
theorem a_L_law_133 : ix_at mT_L_law 133 = some (.aload_n 0, 1) := by decide +kernel
theorem a_L_law_134 : ix_at mT_L_law 134 = some (.iload_n 3, 1) := by decide +kernel
theorem a_L_law_135 : ix_at mT_L_law 135 = some (.iconst 1, 1) := by decide +kernel
theorem a_L_law_136 : ix_at mT_L_law 136 = some (.iadd, 1) := by decide +kernel
theorem a_L_law_137 : ix_at mT_L_law 137 = some (.iaload, 1) := by decide +kernel
theorem a_L_law_138 : ix_at mT_L_law 138 = some (.aload_n 0, 1) := by decide +kernel
theorem a_L_law_139 : ix_at mT_L_law 139 = some (.iload_n 3, 1) := by decide +kernel
theorem a_L_law_140 : ix_at mT_L_law 140 = some (.iconst 2, 1) := by decide +kernel
theorem a_L_law_141 : ix_at mT_L_law 141 = some (.iadd, 1) := by decide +kernel
theorem a_L_law_142 : ix_at mT_L_law 142 = some (.iaload, 1) := by decide +kernel
theorem a_L_law_143 : ix_at mT_L_law 143 = some (.aload_n 0, 1) := by decide +kernel
theorem a_L_law_144 : ix_at mT_L_law 144 = some (.iload_n 3, 1) := by decide +kernel
theorem a_L_law_145 : ix_at mT_L_law 145 = some (.iconst 3, 1) := by decide +kernel
theorem a_L_law_146 : ix_at mT_L_law 146 = some (.iadd, 1) := by decide +kernel
theorem a_L_law_147 : ix_at mT_L_law 147 = some (.iaload, 1) := by decide +kernel
theorem a_L_law_148 : ix_at mT_L_law 148 = some (.invokevirtual 13, 3) := by decide +kernel
theorem a_L_law_151 : ix_at mT_L_law 151 = some (.aload_n 2, 1) := by decide +kernel
theorem a_L_law_152 : ix_at mT_L_law 152 = some (.aload_n 0, 1) := by decide +kernel
theorem a_L_law_153 : ix_at mT_L_law 153 = some (.iload_n 3, 1) := by decide +kernel
theorem a_L_law_154 : ix_at mT_L_law 154 = some (.iconst 1, 1) := by decide +kernel
theorem a_L_law_155 : ix_at mT_L_law 155 = some (.iadd, 1) := by decide +kernel
theorem a_L_law_156 : ix_at mT_L_law 156 = some (.iaload, 1) := by decide +kernel
theorem a_L_law_157 : ix_at mT_L_law 157 = some (.aload_n 0, 1) := by decide +kernel
theorem a_L_law_158 : ix_at mT_L_law 158 = some (.iload_n 3, 1) := by decide +kernel
theorem a_L_law_159 : ix_at mT_L_law 159 = some (.iconst 2, 1) := by decide +kernel
theorem a_L_law_160 : ix_at mT_L_law 160 = some (.iadd, 1) := by decide +kernel
theorem a_L_law_161 : ix_at mT_L_law 161 = some (.iaload, 1) := by decide +kernel
theorem a_L_law_162 : ix_at mT_L_law 162 = some (.aload_n 0, 1) := by decide +kernel
theorem a_L_law_163 : ix_at mT_L_law 163 = some (.iload_n 3, 1) := by decide +kernel
theorem a_L_law_164 : ix_at mT_L_law 164 = some (.iconst 3, 1) := by decide +kernel
theorem a_L_law_165 : ix_at mT_L_law 165 = some (.iadd, 1) := by decide +kernel
theorem a_L_law_166 : ix_at mT_L_law 166 = some (.iaload, 1) := by decide +kernel
theorem a_L_law_167 : ix_at mT_L_law 167 = some (.invokevirtual 17, 3) := by decide +kernel
theorem a_L_law_170 : ix_at mT_L_law 170 = some (.if_icmp .eq 793, 3) := by decide +kernel
theorem a_L_law_173 : ix_at mT_L_law 173 = some (.iconst 0, 1) := by decide +kernel
theorem a_L_law_174 : ix_at mT_L_law 174 = some (.ireturn, 1) := by decide +kernel
theorem a_L_law_175 : ix_at mT_L_law 175 = some (.aload_n 1, 1) := by decide +kernel
theorem a_L_law_176 : ix_at mT_L_law 176 = some (.aload_n 0, 1) := by decide +kernel
theorem a_L_law_177 : ix_at mT_L_law 177 = some (.iload_n 3, 1) := by decide +kernel
theorem a_L_law_178 : ix_at mT_L_law 178 = some (.iconst 1, 1) := by decide +kernel
theorem a_L_law_179 : ix_at mT_L_law 179 = some (.iadd, 1) := by decide +kernel
theorem a_L_law_180 : ix_at mT_L_law 180 = some (.iaload, 1) := by decide +kernel
theorem a_L_law_181 : ix_at mT_L_law 181 = some (.aload_n 0, 1) := by decide +kernel
theorem a_L_law_182 : ix_at mT_L_law 182 = some (.iload_n 3, 1) := by decide +kernel
theorem a_L_law_183 : ix_at mT_L_law 183 = some (.iconst 2, 1) := by decide +kernel
theorem a_L_law_184 : ix_at mT_L_law 184 = some (.iadd, 1) := by decide +kernel
theorem a_L_law_185 : ix_at mT_L_law 185 = some (.iaload, 1) := by decide +kernel
theorem a_L_law_186 : ix_at mT_L_law 186 = some (.i2l, 1) := by decide +kernel
theorem a_L_law_187 : ix_at mT_L_law 187 = some (.bipush 32, 2) := by decide +kernel
theorem a_L_law_189 : ix_at mT_L_law 189 = some (.lshl, 1) := by decide +kernel
theorem a_L_law_190 : ix_at mT_L_law 190 = some (.aload_n 0, 1) := by decide +kernel
theorem a_L_law_191 : ix_at mT_L_law 191 = some (.iload_n 3, 1) := by decide +kernel
theorem a_L_law_192 : ix_at mT_L_law 192 = some (.iconst 3, 1) := by decide +kernel
theorem a_L_law_193 : ix_at mT_L_law 193 = some (.iadd, 1) := by decide +kernel
theorem a_L_law_194 : ix_at mT_L_law 194 = some (.iaload, 1) := by decide +kernel
theorem a_L_law_195 : ix_at mT_L_law 195 = some (.i2l, 1) := by decide +kernel
theorem a_L_law_196 : ix_at mT_L_law 196 = some (.ldc2_w 18, 3) := by decide +kernel
theorem a_L_law_199 : ix_at mT_L_law 199 = some (.land, 1) := by decide +kernel
theorem a_L_law_200 : ix_at mT_L_law 200 = some (.lor, 1) := by decide +kernel
theorem a_L_law_201 : ix_at mT_L_law 201 = some (.aload_n 0, 1) := by decide +kernel
theorem a_L_law_202 : ix_at mT_L_law 202 = some (.iload_n 3, 1) := by decide +kernel
theorem a_L_law_203 : ix_at mT_L_law 203 = some (.iconst 4, 1) := by decide +kernel
theorem a_L_law_204 : ix_at mT_L_law 204 = some (.iadd, 1) := by decide +kernel
theorem a_L_law_205 : ix_at mT_L_law 205 = some (.iaload, 1) := by decide +kernel
theorem a_L_law_206 : ix_at mT_L_law 206 = some (.i2l, 1) := by decide +kernel
theorem a_L_law_207 : ix_at mT_L_law 207 = some (.bipush 32, 2) := by decide +kernel
theorem a_L_law_209 : ix_at mT_L_law 209 = some (.lshl, 1) := by decide +kernel
theorem a_L_law_210 : ix_at mT_L_law 210 = some (.aload_n 0, 1) := by decide +kernel
theorem a_L_law_211 : ix_at mT_L_law 211 = some (.iload_n 3, 1) := by decide +kernel
theorem a_L_law_212 : ix_at mT_L_law 212 = some (.iconst 5, 1) := by decide +kernel
theorem a_L_law_213 : ix_at mT_L_law 213 = some (.iadd, 1) := by decide +kernel
theorem a_L_law_214 : ix_at mT_L_law 214 = some (.iaload, 1) := by decide +kernel
theorem a_L_law_215 : ix_at mT_L_law 215 = some (.i2l, 1) := by decide +kernel
theorem a_L_law_216 : ix_at mT_L_law 216 = some (.ldc2_w 18, 3) := by decide +kernel
theorem a_L_law_219 : ix_at mT_L_law 219 = some (.land, 1) := by decide +kernel
theorem a_L_law_220 : ix_at mT_L_law 220 = some (.lor, 1) := by decide +kernel
theorem a_L_law_221 : ix_at mT_L_law 221 = some (.invokevirtual 20, 3) := by decide +kernel
theorem a_L_law_224 : ix_at mT_L_law 224 = some (.aload_n 2, 1) := by decide +kernel
theorem a_L_law_225 : ix_at mT_L_law 225 = some (.aload_n 0, 1) := by decide +kernel
theorem a_L_law_226 : ix_at mT_L_law 226 = some (.iload_n 3, 1) := by decide +kernel
theorem a_L_law_227 : ix_at mT_L_law 227 = some (.iconst 1, 1) := by decide +kernel
theorem a_L_law_228 : ix_at mT_L_law 228 = some (.iadd, 1) := by decide +kernel
theorem a_L_law_229 : ix_at mT_L_law 229 = some (.iaload, 1) := by decide +kernel
theorem a_L_law_230 : ix_at mT_L_law 230 = some (.aload_n 0, 1) := by decide +kernel
theorem a_L_law_231 : ix_at mT_L_law 231 = some (.iload_n 3, 1) := by decide +kernel
theorem a_L_law_232 : ix_at mT_L_law 232 = some (.iconst 2, 1) := by decide +kernel
theorem a_L_law_233 : ix_at mT_L_law 233 = some (.iadd, 1) := by decide +kernel
theorem a_L_law_234 : ix_at mT_L_law 234 = some (.iaload, 1) := by decide +kernel
theorem a_L_law_235 : ix_at mT_L_law 235 = some (.i2l, 1) := by decide +kernel
theorem a_L_law_236 : ix_at mT_L_law 236 = some (.bipush 32, 2) := by decide +kernel
theorem a_L_law_238 : ix_at mT_L_law 238 = some (.lshl, 1) := by decide +kernel
theorem a_L_law_239 : ix_at mT_L_law 239 = some (.aload_n 0, 1) := by decide +kernel
theorem a_L_law_240 : ix_at mT_L_law 240 = some (.iload_n 3, 1) := by decide +kernel
theorem a_L_law_241 : ix_at mT_L_law 241 = some (.iconst 3, 1) := by decide +kernel
theorem a_L_law_242 : ix_at mT_L_law 242 = some (.iadd, 1) := by decide +kernel
theorem a_L_law_243 : ix_at mT_L_law 243 = some (.iaload, 1) := by decide +kernel
theorem a_L_law_244 : ix_at mT_L_law 244 = some (.i2l, 1) := by decide +kernel
theorem a_L_law_245 : ix_at mT_L_law 245 = some (.ldc2_w 18, 3) := by decide +kernel
theorem a_L_law_248 : ix_at mT_L_law 248 = some (.land, 1) := by decide +kernel
theorem a_L_law_249 : ix_at mT_L_law 249 = some (.lor, 1) := by decide +kernel
theorem a_L_law_250 : ix_at mT_L_law 250 = some (.aload_n 0, 1) := by decide +kernel
theorem a_L_law_251 : ix_at mT_L_law 251 = some (.iload_n 3, 1) := by decide +kernel
theorem a_L_law_252 : ix_at mT_L_law 252 = some (.iconst 4, 1) := by decide +kernel
theorem a_L_law_253 : ix_at mT_L_law 253 = some (.iadd, 1) := by decide +kernel
theorem a_L_law_254 : ix_at mT_L_law 254 = some (.iaload, 1) := by decide +kernel
theorem a_L_law_255 : ix_at mT_L_law 255 = some (.i2l, 1) := by decide +kernel
theorem a_L_law_256 : ix_at mT_L_law 256 = some (.bipush 32, 2) := by decide +kernel
theorem a_L_law_258 : ix_at mT_L_law 258 = some (.lshl, 1) := by decide +kernel
theorem a_L_law_259 : ix_at mT_L_law 259 = some (.aload_n 0, 1) := by decide +kernel
theorem a_L_law_260 : ix_at mT_L_law 260 = some (.iload_n 3, 1) := by decide +kernel
theorem a_L_law_261 : ix_at mT_L_law 261 = some (.iconst 5, 1) := by decide +kernel
theorem a_L_law_262 : ix_at mT_L_law 262 = some (.iadd, 1) := by decide +kernel
theorem a_L_law_263 : ix_at mT_L_law 263 = some (.iaload, 1) := by decide +kernel
theorem a_L_law_264 : ix_at mT_L_law 264 = some (.i2l, 1) := by decide +kernel
theorem a_L_law_265 : ix_at mT_L_law 265 = some (.ldc2_w 18, 3) := by decide +kernel
theorem a_L_law_268 : ix_at mT_L_law 268 = some (.land, 1) := by decide +kernel
theorem a_L_law_269 : ix_at mT_L_law 269 = some (.lor, 1) := by decide +kernel
theorem a_L_law_270 : ix_at mT_L_law 270 = some (.invokevirtual 24, 3) := by decide +kernel
theorem a_L_law_273 : ix_at mT_L_law 273 = some (.if_icmp .eq 690, 3) := by decide +kernel
theorem a_L_law_276 : ix_at mT_L_law 276 = some (.iconst 0, 1) := by decide +kernel
theorem a_L_law_277 : ix_at mT_L_law 277 = some (.ireturn, 1) := by decide +kernel
theorem a_L_law_278 : ix_at mT_L_law 278 = some (.aload_n 1, 1) := by decide +kernel
theorem a_L_law_279 : ix_at mT_L_law 279 = some (.aload_n 0, 1) := by decide +kernel
theorem a_L_law_280 : ix_at mT_L_law 280 = some (.iload_n 3, 1) := by decide +kernel
theorem a_L_law_281 : ix_at mT_L_law 281 = some (.iconst 1, 1) := by decide +kernel
theorem a_L_law_282 : ix_at mT_L_law 282 = some (.iadd, 1) := by decide +kernel
theorem a_L_law_283 : ix_at mT_L_law 283 = some (.iaload, 1) := by decide +kernel
theorem a_L_law_284 : ix_at mT_L_law 284 = some (.invokevirtual 25, 3) := by decide +kernel
theorem a_L_law_287 : ix_at mT_L_law 287 = some (.aload_n 2, 1) := by decide +kernel
theorem a_L_law_288 : ix_at mT_L_law 288 = some (.aload_n 0, 1) := by decide +kernel
theorem a_L_law_289 : ix_at mT_L_law 289 = some (.iload_n 3, 1) := by decide +kernel
theorem a_L_law_290 : ix_at mT_L_law 290 = some (.iconst 1, 1) := by decide +kernel
theorem a_L_law_291 : ix_at mT_L_law 291 = some (.iadd, 1) := by decide +kernel
theorem a_L_law_292 : ix_at mT_L_law 292 = some (.iaload, 1) := by decide +kernel
theorem a_L_law_293 : ix_at mT_L_law 293 = some (.invokevirtual 29, 3) := by decide +kernel
theorem a_L_law_296 : ix_at mT_L_law 296 = some (.if_icmp .eq 667, 3) := by decide +kernel
theorem a_L_law_299 : ix_at mT_L_law 299 = some (.iconst 0, 1) := by decide +kernel
theorem a_L_law_300 : ix_at mT_L_law 300 = some (.ireturn, 1) := by decide +kernel
theorem a_L_law_301 : ix_at mT_L_law 301 = some (.aload_n 1, 1) := by decide +kernel
theorem a_L_law_302 : ix_at mT_L_law 302 = some (.aload_n 0, 1) := by decide +kernel
theorem a_L_law_303 : ix_at mT_L_law 303 = some (.iload_n 3, 1) := by decide +kernel
theorem a_L_law_304 : ix_at mT_L_law 304 = some (.iconst 1, 1) := by decide +kernel
theorem a_L_law_305 : ix_at mT_L_law 305 = some (.iadd, 1) := by decide +kernel
theorem a_L_law_306 : ix_at mT_L_law 306 = some (.iaload, 1) := by decide +kernel
theorem a_L_law_307 : ix_at mT_L_law 307 = some (.aload_n 0, 1) := by decide +kernel
theorem a_L_law_308 : ix_at mT_L_law 308 = some (.iload_n 3, 1) := by decide +kernel
theorem a_L_law_309 : ix_at mT_L_law 309 = some (.iconst 2, 1) := by decide +kernel
theorem a_L_law_310 : ix_at mT_L_law 310 = some (.iadd, 1) := by decide +kernel
theorem a_L_law_311 : ix_at mT_L_law 311 = some (.iaload, 1) := by decide +kernel
theorem a_L_law_312 : ix_at mT_L_law 312 = some (.invokevirtual 30, 3) := by decide +kernel
theorem a_L_law_315 : ix_at mT_L_law 315 = some (.aload_n 2, 1) := by decide +kernel
theorem a_L_law_316 : ix_at mT_L_law 316 = some (.aload_n 0, 1) := by decide +kernel
theorem a_L_law_317 : ix_at mT_L_law 317 = some (.iload_n 3, 1) := by decide +kernel
theorem a_L_law_318 : ix_at mT_L_law 318 = some (.iconst 1, 1) := by decide +kernel
theorem a_L_law_319 : ix_at mT_L_law 319 = some (.iadd, 1) := by decide +kernel
theorem a_L_law_320 : ix_at mT_L_law 320 = some (.iaload, 1) := by decide +kernel
theorem a_L_law_321 : ix_at mT_L_law 321 = some (.aload_n 0, 1) := by decide +kernel
theorem a_L_law_322 : ix_at mT_L_law 322 = some (.iload_n 3, 1) := by decide +kernel
theorem a_L_law_323 : ix_at mT_L_law 323 = some (.iconst 2, 1) := by decide +kernel
theorem a_L_law_324 : ix_at mT_L_law 324 = some (.iadd, 1) := by decide +kernel
theorem a_L_law_325 : ix_at mT_L_law 325 = some (.iaload, 1) := by decide +kernel
theorem a_L_law_326 : ix_at mT_L_law 326 = some (.invokevirtual 34, 3) := by decide +kernel
theorem a_L_law_329 : ix_at mT_L_law 329 = some (.if_icmp .eq 634, 3) := by decide +kernel
theorem a_L_law_332 : ix_at mT_L_law 332 = some (.iconst 0, 1) := by decide +kernel
theorem a_L_law_333 : ix_at mT_L_law 333 = some (.ireturn, 1) := by decide +kernel
theorem a_L_law_334 : ix_at mT_L_law 334 = some (.aload_n 1, 1) := by decide +kernel
theorem a_L_law_335 : ix_at mT_L_law 335 = some (.aload_n 0, 1) := by decide +kernel
theorem a_L_law_336 : ix_at mT_L_law 336 = some (.iload_n 3, 1) := by decide +kernel
theorem a_L_law_337 : ix_at mT_L_law 337 = some (.iconst 1, 1) := by decide +kernel
theorem a_L_law_338 : ix_at mT_L_law 338 = some (.iadd, 1) := by decide +kernel
theorem a_L_law_339 : ix_at mT_L_law 339 = some (.iaload, 1) := by decide +kernel
theorem a_L_law_340 : ix_at mT_L_law 340 = some (.aload_n 0, 1) := by decide +kernel
theorem a_L_law_341 : ix_at mT_L_law 341 = some (.iload_n 3, 1) := by decide +kernel
theorem a_L_law_342 : ix_at mT_L_law 342 = some (.iconst 2, 1) := by decide +kernel
theorem a_L_law_343 : ix_at mT_L_law 343 = some (.iadd, 1) := by decide +kernel
theorem a_L_law_344 : ix_at mT_L_law 344 = some (.iaload, 1) := by decide +kernel
theorem a_L_law_345 : ix_at mT_L_law 345 = some (.aload_n 0, 1) := by decide +kernel
theorem a_L_law_346 : ix_at mT_L_law 346 = some (.iload_n 3, 1) := by decide +kernel
theorem a_L_law_347 : ix_at mT_L_law 347 = some (.iconst 3, 1) := by decide +kernel
theorem a_L_law_348 : ix_at mT_L_law 348 = some (.iadd, 1) := by decide +kernel
theorem a_L_law_349 : ix_at mT_L_law 349 = some (.iaload, 1) := by decide +kernel
theorem a_L_law_350 : ix_at mT_L_law 350 = some (.aload_n 0, 1) := by decide +kernel
theorem a_L_law_351 : ix_at mT_L_law 351 = some (.iload_n 3, 1) := by decide +kernel
theorem a_L_law_352 : ix_at mT_L_law 352 = some (.iconst 4, 1) := by decide +kernel
theorem a_L_law_353 : ix_at mT_L_law 353 = some (.iadd, 1) := by decide +kernel
theorem a_L_law_354 : ix_at mT_L_law 354 = some (.iaload, 1) := by decide +kernel
theorem a_L_law_355 : ix_at mT_L_law 355 = some (.aload_n 0, 1) := by decide +kernel
theorem a_L_law_356 : ix_at mT_L_law 356 = some (.iload_n 3, 1) := by decide +kernel
theorem a_L_law_357 : ix_at mT_L_law 357 = some (.iconst 5, 1) := by decide +kernel
theorem a_L_law_358 : ix_at mT_L_law 358 = some (.iadd, 1) := by decide +kernel
theorem a_L_law_359 : ix_at mT_L_law 359 = some (.iaload, 1) := by decide +kernel
theorem a_L_law_360 : ix_at mT_L_law 360 = some (.ifCond .eq 7, 3) := by decide +kernel
theorem a_L_law_363 : ix_at mT_L_law 363 = some (.iconst 1, 1) := by decide +kernel
theorem a_L_law_364 : ix_at mT_L_law 364 = some (.goto 4, 3) := by decide +kernel
theorem a_L_law_367 : ix_at mT_L_law 367 = some (.iconst 0, 1) := by decide +kernel
theorem a_L_law_368 : ix_at mT_L_law 368 = some (.invokevirtual 35, 3) := by decide +kernel
theorem a_L_law_371 : ix_at mT_L_law 371 = some (.aload_n 2, 1) := by decide +kernel
theorem a_L_law_372 : ix_at mT_L_law 372 = some (.aload_n 0, 1) := by decide +kernel
theorem a_L_law_373 : ix_at mT_L_law 373 = some (.iload_n 3, 1) := by decide +kernel
theorem a_L_law_374 : ix_at mT_L_law 374 = some (.iconst 1, 1) := by decide +kernel
theorem a_L_law_375 : ix_at mT_L_law 375 = some (.iadd, 1) := by decide +kernel
theorem a_L_law_376 : ix_at mT_L_law 376 = some (.iaload, 1) := by decide +kernel
theorem a_L_law_377 : ix_at mT_L_law 377 = some (.aload_n 0, 1) := by decide +kernel
theorem a_L_law_378 : ix_at mT_L_law 378 = some (.iload_n 3, 1) := by decide +kernel
theorem a_L_law_379 : ix_at mT_L_law 379 = some (.iconst 2, 1) := by decide +kernel
theorem a_L_law_380 : ix_at mT_L_law 380 = some (.iadd, 1) := by decide +kernel
theorem a_L_law_381 : ix_at mT_L_law 381 = some (.iaload, 1) := by decide +kernel
theorem a_L_law_382 : ix_at mT_L_law 382 = some (.aload_n 0, 1) := by decide +kernel
theorem a_L_law_383 : ix_at mT_L_law 383 = some (.iload_n 3, 1) := by decide +kernel
theorem a_L_law_384 : ix_at mT_L_law 384 = some (.iconst 3, 1) := by decide +kernel
theorem a_L_law_385 : ix_at mT_L_law 385 = some (.iadd, 1) := by decide +kernel
theorem a_L_law_386 : ix_at mT_L_law 386 = some (.iaload, 1) := by decide +kernel
theorem a_L_law_387 : ix_at mT_L_law 387 = some (.aload_n 0, 1) := by decide +kernel
theorem a_L_law_388 : ix_at mT_L_law 388 = some (.iload_n 3, 1) := by decide +kernel
theorem a_L_law_389 : ix_at mT_L_law 389 = some (.iconst 4, 1) := by decide +kernel
theorem a_L_law_390 : ix_at mT_L_law 390 = some (.iadd, 1) := by decide +kernel
theorem a_L_law_391 : ix_at mT_L_law 391 = some (.iaload, 1) := by decide +kernel
theorem a_L_law_392 : ix_at mT_L_law 392 = some (.aload_n 0, 1) := by decide +kernel
theorem a_L_law_393 : ix_at mT_L_law 393 = some (.iload_n 3, 1) := by decide +kernel
theorem a_L_law_394 : ix_at mT_L_law 394 = some (.iconst 5, 1) := by decide +kernel
theorem a_L_law_395 : ix_at mT_L_law 395 = some (.iadd, 1) := by decide +kernel
theorem a_L_law_396 : ix_at mT_L_law 396 = some (.iaload, 1) := by decide +kernel
theorem a_L_law_397 : ix_at mT_L_law 397 = some (.ifCond .eq 7, 3) := by decide +kernel
theorem a_L_law_400 : ix_at mT_L_law 400 = some (.iconst 1, 1) := by decide +kernel
theorem a_L_law_401 : ix_at mT_L_law 401 = some (.goto 4, 3) := by decide +kernel
theorem a_L_law_404 : ix_at mT_L_law 404 = some (.iconst 0, 1) := by decide +kernel
theorem a_L_law_405 : ix_at mT_L_law 405 = some (.invokevirtual 39, 3) := by decide +kernel
theorem a_L_law_408 : ix_at mT_L_law 408 = some (.if_icmp .eq 555, 3) := by decide +kernel
theorem a_L_law_411 : ix_at mT_L_law 411 = some (.iconst 0, 1) := by decide +kernel
theorem a_L_law_412 : ix_at mT_L_law 412 = some (.ireturn, 1) := by decide +kernel
theorem a_L_law_413 : ix_at mT_L_law 413 = some (.aload_n 1, 1) := by decide +kernel
theorem a_L_law_414 : ix_at mT_L_law 414 = some (.aload_n 0, 1) := by decide +kernel
theorem a_L_law_415 : ix_at mT_L_law 415 = some (.iload_n 3, 1) := by decide +kernel
theorem a_L_law_416 : ix_at mT_L_law 416 = some (.iconst 1, 1) := by decide +kernel
theorem a_L_law_417 : ix_at mT_L_law 417 = some (.iadd, 1) := by decide +kernel
theorem a_L_law_418 : ix_at mT_L_law 418 = some (.iaload, 1) := by decide +kernel
theorem a_L_law_419 : ix_at mT_L_law 419 = some (.aload_n 0, 1) := by decide +kernel
theorem a_L_law_420 : ix_at mT_L_law 420 = some (.iload_n 3, 1) := by decide +kernel
theorem a_L_law_421 : ix_at mT_L_law 421 = some (.iconst 2, 1) := by decide +kernel
theorem a_L_law_422 : ix_at mT_L_law 422 = some (.iadd, 1) := by decide +kernel
theorem a_L_law_423 : ix_at mT_L_law 423 = some (.iaload, 1) := by decide +kernel
theorem a_L_law_424 : ix_at mT_L_law 424 = some (.aload_n 0, 1) := by decide +kernel
theorem a_L_law_425 : ix_at mT_L_law 425 = some (.iload_n 3, 1) := by decide +kernel
theorem a_L_law_426 : ix_at mT_L_law 426 = some (.iconst 3, 1) := by decide +kernel
theorem a_L_law_427 : ix_at mT_L_law 427 = some (.iadd, 1) := by decide +kernel
theorem a_L_law_428 : ix_at mT_L_law 428 = some (.iaload, 1) := by decide +kernel
theorem a_L_law_429 : ix_at mT_L_law 429 = some (.aload_n 0, 1) := by decide +kernel
theorem a_L_law_430 : ix_at mT_L_law 430 = some (.iload_n 3, 1) := by decide +kernel
theorem a_L_law_431 : ix_at mT_L_law 431 = some (.iconst 4, 1) := by decide +kernel
theorem a_L_law_432 : ix_at mT_L_law 432 = some (.iadd, 1) := by decide +kernel
theorem a_L_law_433 : ix_at mT_L_law 433 = some (.iaload, 1) := by decide +kernel
theorem a_L_law_434 : ix_at mT_L_law 434 = some (.aload_n 0, 1) := by decide +kernel
theorem a_L_law_435 : ix_at mT_L_law 435 = some (.iload_n 3, 1) := by decide +kernel
theorem a_L_law_436 : ix_at mT_L_law 436 = some (.iconst 5, 1) := by decide +kernel
theorem a_L_law_437 : ix_at mT_L_law 437 = some (.iadd, 1) := by decide +kernel
theorem a_L_law_438 : ix_at mT_L_law 438 = some (.iaload, 1) := by decide +kernel
theorem a_L_law_439 : ix_at mT_L_law 439 = some (.invokevirtual 40, 3) := by decide +kernel
theorem a_L_law_442 : ix_at mT_L_law 442 = some (.aload_n 2, 1) := by decide +kernel
theorem a_L_law_443 : ix_at mT_L_law 443 = some (.aload_n 0, 1) := by decide +kernel
theorem a_L_law_444 : ix_at mT_L_law 444 = some (.iload_n 3, 1) := by decide +kernel
theorem a_L_law_445 : ix_at mT_L_law 445 = some (.iconst 1, 1) := by decide +kernel
theorem a_L_law_446 : ix_at mT_L_law 446 = some (.iadd, 1) := by decide +kernel
theorem a_L_law_447 : ix_at mT_L_law 447 = some (.iaload, 1) := by decide +kernel
theorem a_L_law_448 : ix_at mT_L_law 448 = some (.aload_n 0, 1) := by decide +kernel
theorem a_L_law_449 : ix_at mT_L_law 449 = some (.iload_n 3, 1) := by decide +kernel
theorem a_L_law_450 : ix_at mT_L_law 450 = some (.iconst 2, 1) := by decide +kernel
theorem a_L_law_451 : ix_at mT_L_law 451 = some (.iadd, 1) := by decide +kernel
theorem a_L_law_452 : ix_at mT_L_law 452 = some (.iaload, 1) := by decide +kernel
theorem a_L_law_453 : ix_at mT_L_law 453 = some (.aload_n 0, 1) := by decide +kernel
theorem a_L_law_454 : ix_at mT_L_law 454 = some (.iload_n 3, 1) := by decide +kernel
theorem a_L_law_455 : ix_at mT_L_law 455 = some (.iconst 3, 1) := by decide +kernel
theorem a_L_law_456 : ix_at mT_L_law 456 = some (.iadd, 1) := by decide +kernel
theorem a_L_law_457 : ix_at mT_L_law 457 = some (.iaload, 1) := by decide +kernel
theorem a_L_law_458 : ix_at mT_L_law 458 = some (.aload_n 0, 1) := by decide +kernel
theorem a_L_law_459 : ix_at mT_L_law 459 = some (.iload_n 3, 1) := by decide +kernel
theorem a_L_law_460 : ix_at mT_L_law 460 = some (.iconst 4, 1) := by decide +kernel
theorem a_L_law_461 : ix_at mT_L_law 461 = some (.iadd, 1) := by decide +kernel
theorem a_L_law_462 : ix_at mT_L_law 462 = some (.iaload, 1) := by decide +kernel
theorem a_L_law_463 : ix_at mT_L_law 463 = some (.aload_n 0, 1) := by decide +kernel
theorem a_L_law_464 : ix_at mT_L_law 464 = some (.iload_n 3, 1) := by decide +kernel
theorem a_L_law_465 : ix_at mT_L_law 465 = some (.iconst 5, 1) := by decide +kernel
theorem a_L_law_466 : ix_at mT_L_law 466 = some (.iadd, 1) := by decide +kernel
theorem a_L_law_467 : ix_at mT_L_law 467 = some (.iaload, 1) := by decide +kernel
theorem a_L_law_468 : ix_at mT_L_law 468 = some (.invokevirtual 44, 3) := by decide +kernel
theorem a_L_law_471 : ix_at mT_L_law 471 = some (.if_icmp .eq 492, 3) := by decide +kernel
theorem a_L_law_474 : ix_at mT_L_law 474 = some (.iconst 0, 1) := by decide +kernel
theorem a_L_law_475 : ix_at mT_L_law 475 = some (.ireturn, 1) := by decide +kernel
theorem a_L_law_476 : ix_at mT_L_law 476 = some (.aload_n 1, 1) := by decide +kernel
theorem a_L_law_477 : ix_at mT_L_law 477 = some (.aload_n 0, 1) := by decide +kernel
theorem a_L_law_478 : ix_at mT_L_law 478 = some (.iload_n 3, 1) := by decide +kernel
theorem a_L_law_479 : ix_at mT_L_law 479 = some (.iconst 1, 1) := by decide +kernel
theorem a_L_law_480 : ix_at mT_L_law 480 = some (.iadd, 1) := by decide +kernel
theorem a_L_law_481 : ix_at mT_L_law 481 = some (.iaload, 1) := by decide +kernel
theorem a_L_law_482 : ix_at mT_L_law 482 = some (.aload_n 0, 1) := by decide +kernel
theorem a_L_law_483 : ix_at mT_L_law 483 = some (.iload_n 3, 1) := by decide +kernel
theorem a_L_law_484 : ix_at mT_L_law 484 = some (.iconst 2, 1) := by decide +kernel
theorem a_L_law_485 : ix_at mT_L_law 485 = some (.iadd, 1) := by decide +kernel
theorem a_L_law_486 : ix_at mT_L_law 486 = some (.iaload, 1) := by decide +kernel
theorem a_L_law_487 : ix_at mT_L_law 487 = some (.aload_n 0, 1) := by decide +kernel
theorem a_L_law_488 : ix_at mT_L_law 488 = some (.iload_n 3, 1) := by decide +kernel
theorem a_L_law_489 : ix_at mT_L_law 489 = some (.iconst 3, 1) := by decide +kernel
theorem a_L_law_490 : ix_at mT_L_law 490 = some (.iadd, 1) := by decide +kernel
theorem a_L_law_491 : ix_at mT_L_law 491 = some (.iaload, 1) := by decide +kernel
theorem a_L_law_492 : ix_at mT_L_law 492 = some (.ifCond .eq 7, 3) := by decide +kernel
theorem a_L_law_495 : ix_at mT_L_law 495 = some (.iconst 1, 1) := by decide +kernel
theorem a_L_law_496 : ix_at mT_L_law 496 = some (.goto 4, 3) := by decide +kernel
theorem a_L_law_499 : ix_at mT_L_law 499 = some (.iconst 0, 1) := by decide +kernel
theorem a_L_law_500 : ix_at mT_L_law 500 = some (.invokevirtual 45, 3) := by decide +kernel
theorem a_L_law_503 : ix_at mT_L_law 503 = some (.aload_n 2, 1) := by decide +kernel
theorem a_L_law_504 : ix_at mT_L_law 504 = some (.aload_n 0, 1) := by decide +kernel
theorem a_L_law_505 : ix_at mT_L_law 505 = some (.iload_n 3, 1) := by decide +kernel
theorem a_L_law_506 : ix_at mT_L_law 506 = some (.iconst 1, 1) := by decide +kernel
theorem a_L_law_507 : ix_at mT_L_law 507 = some (.iadd, 1) := by decide +kernel
theorem a_L_law_508 : ix_at mT_L_law 508 = some (.iaload, 1) := by decide +kernel
theorem a_L_law_509 : ix_at mT_L_law 509 = some (.aload_n 0, 1) := by decide +kernel
theorem a_L_law_510 : ix_at mT_L_law 510 = some (.iload_n 3, 1) := by decide +kernel
theorem a_L_law_511 : ix_at mT_L_law 511 = some (.iconst 2, 1) := by decide +kernel
theorem a_L_law_512 : ix_at mT_L_law 512 = some (.iadd, 1) := by decide +kernel
theorem a_L_law_513 : ix_at mT_L_law 513 = some (.iaload, 1) := by decide +kernel
theorem a_L_law_514 : ix_at mT_L_law 514 = some (.aload_n 0, 1) := by decide +kernel
theorem a_L_law_515 : ix_at mT_L_law 515 = some (.iload_n 3, 1) := by decide +kernel
theorem a_L_law_516 : ix_at mT_L_law 516 = some (.iconst 3, 1) := by decide +kernel
theorem a_L_law_517 : ix_at mT_L_law 517 = some (.iadd, 1) := by decide +kernel
theorem a_L_law_518 : ix_at mT_L_law 518 = some (.iaload, 1) := by decide +kernel
theorem a_L_law_519 : ix_at mT_L_law 519 = some (.ifCond .eq 7, 3) := by decide +kernel
theorem a_L_law_522 : ix_at mT_L_law 522 = some (.iconst 1, 1) := by decide +kernel
theorem a_L_law_523 : ix_at mT_L_law 523 = some (.goto 4, 3) := by decide +kernel
theorem a_L_law_526 : ix_at mT_L_law 526 = some (.iconst 0, 1) := by decide +kernel
theorem a_L_law_527 : ix_at mT_L_law 527 = some (.invokevirtual 49, 3) := by decide +kernel
theorem a_L_law_530 : ix_at mT_L_law 530 = some (.if_icmp .eq 433, 3) := by decide +kernel
theorem a_L_law_533 : ix_at mT_L_law 533 = some (.iconst 0, 1) := by decide +kernel
theorem a_L_law_534 : ix_at mT_L_law 534 = some (.ireturn, 1) := by decide +kernel
theorem a_L_law_535 : ix_at mT_L_law 535 = some (.aload_n 1, 1) := by decide +kernel
theorem a_L_law_536 : ix_at mT_L_law 536 = some (.aload_n 0, 1) := by decide +kernel
theorem a_L_law_537 : ix_at mT_L_law 537 = some (.iload_n 3, 1) := by decide +kernel
theorem a_L_law_538 : ix_at mT_L_law 538 = some (.iconst 1, 1) := by decide +kernel
theorem a_L_law_539 : ix_at mT_L_law 539 = some (.iadd, 1) := by decide +kernel
theorem a_L_law_540 : ix_at mT_L_law 540 = some (.iaload, 1) := by decide +kernel
theorem a_L_law_541 : ix_at mT_L_law 541 = some (.aload_n 0, 1) := by decide +kernel
theorem a_L_law_542 : ix_at mT_L_law 542 = some (.iload_n 3, 1) := by decide +kernel
theorem a_L_law_543 : ix_at mT_L_law 543 = some (.iconst 2, 1) := by decide +kernel
theorem a_L_law_544 : ix_at mT_L_law 544 = some (.iadd, 1) := by decide +kernel
theorem a_L_law_545 : ix_at mT_L_law 545 = some (.iaload, 1) := by decide +kernel
theorem a_L_law_546 : ix_at mT_L_law 546 = some (.aload_n 0, 1) := by decide +kernel
theorem a_L_law_547 : ix_at mT_L_law 547 = some (.iload_n 3, 1) := by decide +kernel
theorem a_L_law_548 : ix_at mT_L_law 548 = some (.iconst 3, 1) := by decide +kernel
theorem a_L_law_549 : ix_at mT_L_law 549 = some (.iadd, 1) := by decide +kernel
theorem a_L_law_550 : ix_at mT_L_law 550 = some (.iaload, 1) := by decide +kernel
theorem a_L_law_551 : ix_at mT_L_law 551 = some (.invokevirtual 50, 3) := by decide +kernel
theorem a_L_law_554 : ix_at mT_L_law 554 = some (.aload_n 2, 1) := by decide +kernel
theorem a_L_law_555 : ix_at mT_L_law 555 = some (.aload_n 0, 1) := by decide +kernel
theorem a_L_law_556 : ix_at mT_L_law 556 = some (.iload_n 3, 1) := by decide +kernel
theorem a_L_law_557 : ix_at mT_L_law 557 = some (.iconst 1, 1) := by decide +kernel
theorem a_L_law_558 : ix_at mT_L_law 558 = some (.iadd, 1) := by decide +kernel
theorem a_L_law_559 : ix_at mT_L_law 559 = some (.iaload, 1) := by decide +kernel
theorem a_L_law_560 : ix_at mT_L_law 560 = some (.aload_n 0, 1) := by decide +kernel
theorem a_L_law_561 : ix_at mT_L_law 561 = some (.iload_n 3, 1) := by decide +kernel
theorem a_L_law_562 : ix_at mT_L_law 562 = some (.iconst 2, 1) := by decide +kernel
theorem a_L_law_563 : ix_at mT_L_law 563 = some (.iadd, 1) := by decide +kernel
theorem a_L_law_564 : ix_at mT_L_law 564 = some (.iaload, 1) := by decide +kernel
theorem a_L_law_565 : ix_at mT_L_law 565 = some (.aload_n 0, 1) := by decide +kernel
theorem a_L_law_566 : ix_at mT_L_law 566 = some (.iload_n 3, 1) := by decide +kernel
theorem a_L_law_567 : ix_at mT_L_law 567 = some (.iconst 3, 1) := by decide +kernel
theorem a_L_law_568 : ix_at mT_L_law 568 = some (.iadd, 1) := by decide +kernel
theorem a_L_law_569 : ix_at mT_L_law 569 = some (.iaload, 1) := by decide +kernel
theorem a_L_law_570 : ix_at mT_L_law 570 = some (.invokevirtual 54, 3) := by decide +kernel
theorem a_L_law_573 : ix_at mT_L_law 573 = some (.if_icmp .eq 390, 3) := by decide +kernel
theorem a_L_law_576 : ix_at mT_L_law 576 = some (.iconst 0, 1) := by decide +kernel
theorem a_L_law_577 : ix_at mT_L_law 577 = some (.ireturn, 1) := by decide +kernel
theorem a_L_law_578 : ix_at mT_L_law 578 = some (.aload_n 1, 1) := by decide +kernel
theorem a_L_law_579 : ix_at mT_L_law 579 = some (.aload_n 0, 1) := by decide +kernel
theorem a_L_law_580 : ix_at mT_L_law 580 = some (.iload_n 3, 1) := by decide +kernel
theorem a_L_law_581 : ix_at mT_L_law 581 = some (.iconst 1, 1) := by decide +kernel
theorem a_L_law_582 : ix_at mT_L_law 582 = some (.iadd, 1) := by decide +kernel
theorem a_L_law_583 : ix_at mT_L_law 583 = some (.iaload, 1) := by decide +kernel
theorem a_L_law_584 : ix_at mT_L_law 584 = some (.aload_n 0, 1) := by decide +kernel
theorem a_L_law_585 : ix_at mT_L_law 585 = some (.iload_n 3, 1) := by decide +kernel
theorem a_L_law_586 : ix_at mT_L_law 586 = some (.iconst 2, 1) := by decide +kernel
theorem a_L_law_587 : ix_at mT_L_law 587 = some (.iadd, 1) := by decide +kernel
theorem a_L_law_588 : ix_at mT_L_law 588 = some (.iaload, 1) := by decide +kernel
theorem a_L_law_589 : ix_at mT_L_law 589 = some (.invokevirtual 55, 3) := by decide +kernel
theorem a_L_law_592 : ix_at mT_L_law 592 = some (.aload_n 2, 1) := by decide +kernel
theorem a_L_law_593 : ix_at mT_L_law 593 = some (.aload_n 0, 1) := by decide +kernel
theorem a_L_law_594 : ix_at mT_L_law 594 = some (.iload_n 3, 1) := by decide +kernel
theorem a_L_law_595 : ix_at mT_L_law 595 = some (.iconst 1, 1) := by decide +kernel
theorem a_L_law_596 : ix_at mT_L_law 596 = some (.iadd, 1) := by decide +kernel
theorem a_L_law_597 : ix_at mT_L_law 597 = some (.iaload, 1) := by decide +kernel
theorem a_L_law_598 : ix_at mT_L_law 598 = some (.aload_n 0, 1) := by decide +kernel
theorem a_L_law_599 : ix_at mT_L_law 599 = some (.iload_n 3, 1) := by decide +kernel
theorem a_L_law_600 : ix_at mT_L_law 600 = some (.iconst 2, 1) := by decide +kernel
theorem a_L_law_601 : ix_at mT_L_law 601 = some (.iadd, 1) := by decide +kernel
theorem a_L_law_602 : ix_at mT_L_law 602 = some (.iaload, 1) := by decide +kernel
theorem a_L_law_603 : ix_at mT_L_law 603 = some (.invokevirtual 58, 3) := by decide +kernel
theorem a_L_law_606 : ix_at mT_L_law 606 = some (.if_icmp .eq 357, 3) := by decide +kernel
theorem a_L_law_609 : ix_at mT_L_law 609 = some (.iconst 0, 1) := by decide +kernel
theorem a_L_law_610 : ix_at mT_L_law 610 = some (.ireturn, 1) := by decide +kernel
theorem a_L_law_611 : ix_at mT_L_law 611 = some (.aload_n 1, 1) := by decide +kernel
theorem a_L_law_612 : ix_at mT_L_law 612 = some (.aload_n 0, 1) := by decide +kernel
theorem a_L_law_613 : ix_at mT_L_law 613 = some (.iload_n 3, 1) := by decide +kernel
theorem a_L_law_614 : ix_at mT_L_law 614 = some (.iconst 1, 1) := by decide +kernel
theorem a_L_law_615 : ix_at mT_L_law 615 = some (.iadd, 1) := by decide +kernel
theorem a_L_law_616 : ix_at mT_L_law 616 = some (.iaload, 1) := by decide +kernel
theorem a_L_law_617 : ix_at mT_L_law 617 = some (.invokevirtual 59, 3) := by decide +kernel
theorem a_L_law_620 : ix_at mT_L_law 620 = some (.aload_n 2, 1) := by decide +kernel
theorem a_L_law_621 : ix_at mT_L_law 621 = some (.aload_n 0, 1) := by decide +kernel
theorem a_L_law_622 : ix_at mT_L_law 622 = some (.iload_n 3, 1) := by decide +kernel
theorem a_L_law_623 : ix_at mT_L_law 623 = some (.iconst 1, 1) := by decide +kernel
theorem a_L_law_624 : ix_at mT_L_law 624 = some (.iadd, 1) := by decide +kernel
theorem a_L_law_625 : ix_at mT_L_law 625 = some (.iaload, 1) := by decide +kernel
theorem a_L_law_626 : ix_at mT_L_law 626 = some (.invokevirtual 62, 3) := by decide +kernel
theorem a_L_law_629 : ix_at mT_L_law 629 = some (.if_icmp .eq 334, 3) := by decide +kernel
theorem a_L_law_632 : ix_at mT_L_law 632 = some (.iconst 0, 1) := by decide +kernel
theorem a_L_law_633 : ix_at mT_L_law 633 = some (.ireturn, 1) := by decide +kernel
theorem a_L_law_634 : ix_at mT_L_law 634 = some (.aload_n 1, 1) := by decide +kernel
theorem a_L_law_635 : ix_at mT_L_law 635 = some (.aload_n 0, 1) := by decide +kernel
theorem a_L_law_636 : ix_at mT_L_law 636 = some (.iload_n 3, 1) := by decide +kernel
theorem a_L_law_637 : ix_at mT_L_law 637 = some (.iconst 1, 1) := by decide +kernel
theorem a_L_law_638 : ix_at mT_L_law 638 = some (.iadd, 1) := by decide +kernel
theorem a_L_law_639 : ix_at mT_L_law 639 = some (.iaload, 1) := by decide +kernel
theorem a_L_law_640 : ix_at mT_L_law 640 = some (.aload_n 0, 1) := by decide +kernel
theorem a_L_law_641 : ix_at mT_L_law 641 = some (.iload_n 3, 1) := by decide +kernel
theorem a_L_law_642 : ix_at mT_L_law 642 = some (.iconst 2, 1) := by decide +kernel
theorem a_L_law_643 : ix_at mT_L_law 643 = some (.iadd, 1) := by decide +kernel
theorem a_L_law_644 : ix_at mT_L_law 644 = some (.iaload, 1) := by decide +kernel
theorem a_L_law_645 : ix_at mT_L_law 645 = some (.aload_n 0, 1) := by decide +kernel
theorem a_L_law_646 : ix_at mT_L_law 646 = some (.iload_n 3, 1) := by decide +kernel
theorem a_L_law_647 : ix_at mT_L_law 647 = some (.iconst 3, 1) := by decide +kernel
theorem a_L_law_648 : ix_at mT_L_law 648 = some (.iadd, 1) := by decide +kernel
theorem a_L_law_649 : ix_at mT_L_law 649 = some (.iaload, 1) := by decide +kernel
theorem a_L_law_650 : ix_at mT_L_law 650 = some (.ifCond .eq 7, 3) := by decide +kernel
theorem a_L_law_653 : ix_at mT_L_law 653 = some (.iconst 1, 1) := by decide +kernel
theorem a_L_law_654 : ix_at mT_L_law 654 = some (.goto 4, 3) := by decide +kernel
theorem a_L_law_657 : ix_at mT_L_law 657 = some (.iconst 0, 1) := by decide +kernel
theorem a_L_law_658 : ix_at mT_L_law 658 = some (.invokevirtual 63, 3) := by decide +kernel
theorem a_L_law_661 : ix_at mT_L_law 661 = some (.aload_n 2, 1) := by decide +kernel
theorem a_L_law_662 : ix_at mT_L_law 662 = some (.aload_n 0, 1) := by decide +kernel
theorem a_L_law_663 : ix_at mT_L_law 663 = some (.iload_n 3, 1) := by decide +kernel
theorem a_L_law_664 : ix_at mT_L_law 664 = some (.iconst 1, 1) := by decide +kernel
theorem a_L_law_665 : ix_at mT_L_law 665 = some (.iadd, 1) := by decide +kernel
theorem a_L_law_666 : ix_at mT_L_law 666 = some (.iaload, 1) := by decide +kernel
theorem a_L_law_667 : ix_at mT_L_law 667 = some (.aload_n 0, 1) := by decide +kernel
theorem a_L_law_668 : ix_at mT_L_law 668 = some (.iload_n 3, 1) := by decide +kernel
theorem a_L_law_669 : ix_at mT_L_law 669 = some (.iconst 2, 1) := by decide +kernel
theorem a_L_law_670 : ix_at mT_L_law 670 = some (.iadd, 1) := by decide +kernel
theorem a_L_law_671 : ix_at mT_L_law 671 = some (.iaload, 1) := by decide +kernel
theorem a_L_law_672 : ix_at mT_L_law 672 = some (.aload_n 0, 1) := by decide +kernel
theorem a_L_law_673 : ix_at mT_L_law 673 = some (.iload_n 3, 1) := by decide +kernel
theorem a_L_law_674 : ix_at mT_L_law 674 = some (.iconst 3, 1) := by decide +kernel
theorem a_L_law_675 : ix_at mT_L_law 675 = some (.iadd, 1) := by decide +kernel
theorem a_L_law_676 : ix_at mT_L_law 676 = some (.iaload, 1) := by decide +kernel
theorem a_L_law_677 : ix_at mT_L_law 677 = some (.ifCond .eq 7, 3) := by decide +kernel
theorem a_L_law_680 : ix_at mT_L_law 680 = some (.iconst 1, 1) := by decide +kernel
theorem a_L_law_681 : ix_at mT_L_law 681 = some (.goto 4, 3) := by decide +kernel
theorem a_L_law_684 : ix_at mT_L_law 684 = some (.iconst 0, 1) := by decide +kernel
theorem a_L_law_685 : ix_at mT_L_law 685 = some (.invokevirtual 66, 3) := by decide +kernel
theorem a_L_law_688 : ix_at mT_L_law 688 = some (.if_icmp .eq 275, 3) := by decide +kernel
theorem a_L_law_691 : ix_at mT_L_law 691 = some (.iconst 0, 1) := by decide +kernel
theorem a_L_law_692 : ix_at mT_L_law 692 = some (.ireturn, 1) := by decide +kernel
theorem a_L_law_693 : ix_at mT_L_law 693 = some (.aload_n 1, 1) := by decide +kernel
theorem a_L_law_694 : ix_at mT_L_law 694 = some (.aload_n 0, 1) := by decide +kernel
theorem a_L_law_695 : ix_at mT_L_law 695 = some (.iload_n 3, 1) := by decide +kernel
theorem a_L_law_696 : ix_at mT_L_law 696 = some (.iconst 1, 1) := by decide +kernel
theorem a_L_law_697 : ix_at mT_L_law 697 = some (.iadd, 1) := by decide +kernel
theorem a_L_law_698 : ix_at mT_L_law 698 = some (.iaload, 1) := by decide +kernel
theorem a_L_law_699 : ix_at mT_L_law 699 = some (.invokevirtual 67, 3) := by decide +kernel
theorem a_L_law_702 : ix_at mT_L_law 702 = some (.aload_n 2, 1) := by decide +kernel
theorem a_L_law_703 : ix_at mT_L_law 703 = some (.aload_n 0, 1) := by decide +kernel
theorem a_L_law_704 : ix_at mT_L_law 704 = some (.iload_n 3, 1) := by decide +kernel
theorem a_L_law_705 : ix_at mT_L_law 705 = some (.iconst 1, 1) := by decide +kernel
theorem a_L_law_706 : ix_at mT_L_law 706 = some (.iadd, 1) := by decide +kernel
theorem a_L_law_707 : ix_at mT_L_law 707 = some (.iaload, 1) := by decide +kernel
theorem a_L_law_708 : ix_at mT_L_law 708 = some (.invokevirtual 70, 3) := by decide +kernel
theorem a_L_law_711 : ix_at mT_L_law 711 = some (.if_icmp .eq 252, 3) := by decide +kernel
theorem a_L_law_714 : ix_at mT_L_law 714 = some (.iconst 0, 1) := by decide +kernel
theorem a_L_law_715 : ix_at mT_L_law 715 = some (.ireturn, 1) := by decide +kernel
theorem a_L_law_716 : ix_at mT_L_law 716 = some (.aload_n 1, 1) := by decide +kernel
theorem a_L_law_717 : ix_at mT_L_law 717 = some (.invokevirtual 71, 3) := by decide +kernel
theorem a_L_law_720 : ix_at mT_L_law 720 = some (.aload_n 2, 1) := by decide +kernel
theorem a_L_law_721 : ix_at mT_L_law 721 = some (.invokevirtual 75, 3) := by decide +kernel
theorem a_L_law_724 : ix_at mT_L_law 724 = some (.if_icmp .eq 239, 3) := by decide +kernel
theorem a_L_law_727 : ix_at mT_L_law 727 = some (.iconst 0, 1) := by decide +kernel
theorem a_L_law_728 : ix_at mT_L_law 728 = some (.ireturn, 1) := by decide +kernel
theorem a_L_law_729 : ix_at mT_L_law 729 = some (.aload_n 1, 1) := by decide +kernel
theorem a_L_law_730 : ix_at mT_L_law 730 = some (.aload_n 0, 1) := by decide +kernel
theorem a_L_law_731 : ix_at mT_L_law 731 = some (.iload_n 3, 1) := by decide +kernel
theorem a_L_law_732 : ix_at mT_L_law 732 = some (.iconst 1, 1) := by decide +kernel
theorem a_L_law_733 : ix_at mT_L_law 733 = some (.iadd, 1) := by decide +kernel
theorem a_L_law_734 : ix_at mT_L_law 734 = some (.iaload, 1) := by decide +kernel
theorem a_L_law_735 : ix_at mT_L_law 735 = some (.invokevirtual 76, 3) := by decide +kernel
theorem a_L_law_738 : ix_at mT_L_law 738 = some (.aload_n 2, 1) := by decide +kernel
theorem a_L_law_739 : ix_at mT_L_law 739 = some (.aload_n 0, 1) := by decide +kernel
theorem a_L_law_740 : ix_at mT_L_law 740 = some (.iload_n 3, 1) := by decide +kernel
theorem a_L_law_741 : ix_at mT_L_law 741 = some (.iconst 1, 1) := by decide +kernel
theorem a_L_law_742 : ix_at mT_L_law 742 = some (.iadd, 1) := by decide +kernel
theorem a_L_law_743 : ix_at mT_L_law 743 = some (.iaload, 1) := by decide +kernel
theorem a_L_law_744 : ix_at mT_L_law 744 = some (.invokevirtual 79, 3) := by decide +kernel
theorem a_L_law_747 : ix_at mT_L_law 747 = some (.if_icmp .eq 216, 3) := by decide +kernel
theorem a_L_law_750 : ix_at mT_L_law 750 = some (.iconst 0, 1) := by decide +kernel
theorem a_L_law_751 : ix_at mT_L_law 751 = some (.ireturn, 1) := by decide +kernel
theorem a_L_law_752 : ix_at mT_L_law 752 = some (.aload_n 1, 1) := by decide +kernel
theorem a_L_law_753 : ix_at mT_L_law 753 = some (.invokevirtual 80, 3) := by decide +kernel
theorem a_L_law_756 : ix_at mT_L_law 756 = some (.aload_n 2, 1) := by decide +kernel
theorem a_L_law_757 : ix_at mT_L_law 757 = some (.invokevirtual 83, 3) := by decide +kernel
theorem a_L_law_760 : ix_at mT_L_law 760 = some (.if_icmp .eq 203, 3) := by decide +kernel
theorem a_L_law_763 : ix_at mT_L_law 763 = some (.iconst 0, 1) := by decide +kernel
theorem a_L_law_764 : ix_at mT_L_law 764 = some (.ireturn, 1) := by decide +kernel
theorem a_L_law_765 : ix_at mT_L_law 765 = some (.aload_n 1, 1) := by decide +kernel
theorem a_L_law_766 : ix_at mT_L_law 766 = some (.aload_n 0, 1) := by decide +kernel
theorem a_L_law_767 : ix_at mT_L_law 767 = some (.iload_n 3, 1) := by decide +kernel
theorem a_L_law_768 : ix_at mT_L_law 768 = some (.iconst 1, 1) := by decide +kernel
theorem a_L_law_769 : ix_at mT_L_law 769 = some (.iadd, 1) := by decide +kernel
theorem a_L_law_770 : ix_at mT_L_law 770 = some (.iaload, 1) := by decide +kernel
theorem a_L_law_771 : ix_at mT_L_law 771 = some (.aload_n 0, 1) := by decide +kernel
theorem a_L_law_772 : ix_at mT_L_law 772 = some (.iload_n 3, 1) := by decide +kernel
theorem a_L_law_773 : ix_at mT_L_law 773 = some (.iconst 2, 1) := by decide +kernel
theorem a_L_law_774 : ix_at mT_L_law 774 = some (.iadd, 1) := by decide +kernel
theorem a_L_law_775 : ix_at mT_L_law 775 = some (.iaload, 1) := by decide +kernel
theorem a_L_law_776 : ix_at mT_L_law 776 = some (.invokevirtual 84, 3) := by decide +kernel
theorem a_L_law_779 : ix_at mT_L_law 779 = some (.aload_n 2, 1) := by decide +kernel
theorem a_L_law_780 : ix_at mT_L_law 780 = some (.aload_n 0, 1) := by decide +kernel
theorem a_L_law_781 : ix_at mT_L_law 781 = some (.iload_n 3, 1) := by decide +kernel
theorem a_L_law_782 : ix_at mT_L_law 782 = some (.iconst 1, 1) := by decide +kernel
theorem a_L_law_783 : ix_at mT_L_law 783 = some (.iadd, 1) := by decide +kernel
theorem a_L_law_784 : ix_at mT_L_law 784 = some (.iaload, 1) := by decide +kernel
theorem a_L_law_785 : ix_at mT_L_law 785 = some (.aload_n 0, 1) := by decide +kernel
theorem a_L_law_786 : ix_at mT_L_law 786 = some (.iload_n 3, 1) := by decide +kernel
theorem a_L_law_787 : ix_at mT_L_law 787 = some (.iconst 2, 1) := by decide +kernel
theorem a_L_law_788 : ix_at mT_L_law 788 = some (.iadd, 1) := by decide +kernel
theorem a_L_law_789 : ix_at mT_L_law 789 = some (.iaload, 1) := by decide +kernel
theorem a_L_law_790 : ix_at mT_L_law 790 = some (.invokevirtual 87, 3) := by decide +kernel
theorem a_L_law_793 : ix_at mT_L_law 793 = some (.if_icmp .eq 170, 3) := by decide +kernel
theorem a_L_law_796 : ix_at mT_L_law 796 = some (.iconst 0, 1) := by decide +kernel
theorem a_L_law_797 : ix_at mT_L_law 797 = some (.ireturn, 1) := by decide +kernel
theorem a_L_law_798 : ix_at mT_L_law 798 = some (.aload_n 1, 1) := by decide +kernel
theorem a_L_law_799 : ix_at mT_L_law 799 = some (.aload_n 0, 1) := by decide +kernel
theorem a_L_law_800 : ix_at mT_L_law 800 = some (.iload_n 3, 1) := by decide +kernel
theorem a_L_law_801 : ix_at mT_L_law 801 = some (.iconst 1, 1) := by decide +kernel
theorem a_L_law_802 : ix_at mT_L_law 802 = some (.iadd, 1) := by decide +kernel
theorem a_L_law_803 : ix_at mT_L_law 803 = some (.iaload, 1) := by decide +kernel
theorem a_L_law_804 : ix_at mT_L_law 804 = some (.aload_n 0, 1) := by decide +kernel
theorem a_L_law_805 : ix_at mT_L_law 805 = some (.iload_n 3, 1) := by decide +kernel
theorem a_L_law_806 : ix_at mT_L_law 806 = some (.iconst 2, 1) := by decide +kernel
theorem a_L_law_807 : ix_at mT_L_law 807 = some (.iadd, 1) := by decide +kernel
theorem a_L_law_808 : ix_at mT_L_law 808 = some (.iaload, 1) := by decide +kernel
theorem a_L_law_809 : ix_at mT_L_law 809 = some (.aload_n 0, 1) := by decide +kernel
theorem a_L_law_810 : ix_at mT_L_law 810 = some (.iload_n 3, 1) := by decide +kernel
theorem a_L_law_811 : ix_at mT_L_law 811 = some (.iconst 3, 1) := by decide +kernel
theorem a_L_law_812 : ix_at mT_L_law 812 = some (.iadd, 1) := by decide +kernel
theorem a_L_law_813 : ix_at mT_L_law 813 = some (.iaload, 1) := by decide +kernel
theorem a_L_law_814 : ix_at mT_L_law 814 = some (.invokevirtual 88, 3) := by decide +kernel
theorem a_L_law_817 : ix_at mT_L_law 817 = some (.aload_n 2, 1) := by decide +kernel
theorem a_L_law_818 : ix_at mT_L_law 818 = some (.aload_n 0, 1) := by decide +kernel
theorem a_L_law_819 : ix_at mT_L_law 819 = some (.iload_n 3, 1) := by decide +kernel
theorem a_L_law_820 : ix_at mT_L_law 820 = some (.iconst 1, 1) := by decide +kernel
theorem a_L_law_821 : ix_at mT_L_law 821 = some (.iadd, 1) := by decide +kernel
theorem a_L_law_822 : ix_at mT_L_law 822 = some (.iaload, 1) := by decide +kernel
theorem a_L_law_823 : ix_at mT_L_law 823 = some (.aload_n 0, 1) := by decide +kernel
theorem a_L_law_824 : ix_at mT_L_law 824 = some (.iload_n 3, 1) := by decide +kernel
theorem a_L_law_825 : ix_at mT_L_law 825 = some (.iconst 2, 1) := by decide +kernel
theorem a_L_law_826 : ix_at mT_L_law 826 = some (.iadd, 1) := by decide +kernel
theorem a_L_law_827 : ix_at mT_L_law 827 = some (.iaload, 1) := by decide +kernel
theorem a_L_law_828 : ix_at mT_L_law 828 = some (.aload_n 0, 1) := by decide +kernel
theorem a_L_law_829 : ix_at mT_L_law 829 = some (.iload_n 3, 1) := by decide +kernel
theorem a_L_law_830 : ix_at mT_L_law 830 = some (.iconst 3, 1) := by decide +kernel
theorem a_L_law_831 : ix_at mT_L_law 831 = some (.iadd, 1) := by decide +kernel
theorem a_L_law_832 : ix_at mT_L_law 832 = some (.iaload, 1) := by decide +kernel
theorem a_L_law_833 : ix_at mT_L_law 833 = some (.invokevirtual 91, 3) := by decide +kernel
theorem a_L_law_836 : ix_at mT_L_law 836 = some (.if_icmp .eq 127, 3) := by decide +kernel
theorem a_L_law_839 : ix_at mT_L_law 839 = some (.iconst 0, 1) := by decide +kernel
theorem a_L_law_840 : ix_at mT_L_law 840 = some (.ireturn, 1) := by decide +kernel
theorem a_L_law_841 : ix_at mT_L_law 841 = some (.aload_n 1, 1) := by decide +kernel
theorem a_L_law_842 : ix_at mT_L_law 842 = some (.aload_n 0, 1) := by decide +kernel
theorem a_L_law_843 : ix_at mT_L_law 843 = some (.iload_n 3, 1) := by decide +kernel
theorem a_L_law_844 : ix_at mT_L_law 844 = some (.iconst 1, 1) := by decide +kernel
theorem a_L_law_845 : ix_at mT_L_law 845 = some (.iadd, 1) := by decide +kernel
theorem a_L_law_846 : ix_at mT_L_law 846 = some (.iaload, 1) := by decide +kernel
theorem a_L_law_847 : ix_at mT_L_law 847 = some (.aload_n 0, 1) := by decide +kernel
theorem a_L_law_848 : ix_at mT_L_law 848 = some (.iload_n 3, 1) := by decide +kernel
theorem a_L_law_849 : ix_at mT_L_law 849 = some (.iconst 2, 1) := by decide +kernel
theorem a_L_law_850 : ix_at mT_L_law 850 = some (.iadd, 1) := by decide +kernel
theorem a_L_law_851 : ix_at mT_L_law 851 = some (.iaload, 1) := by decide +kernel
theorem a_L_law_852 : ix_at mT_L_law 852 = some (.invokevirtual 92, 3) := by decide +kernel
theorem a_L_law_855 : ix_at mT_L_law 855 = some (.aload_n 2, 1) := by decide +kernel
theorem a_L_law_856 : ix_at mT_L_law 856 = some (.aload_n 0, 1) := by decide +kernel
theorem a_L_law_857 : ix_at mT_L_law 857 = some (.iload_n 3, 1) := by decide +kernel
theorem a_L_law_858 : ix_at mT_L_law 858 = some (.iconst 1, 1) := by decide +kernel
theorem a_L_law_859 : ix_at mT_L_law 859 = some (.iadd, 1) := by decide +kernel
theorem a_L_law_860 : ix_at mT_L_law 860 = some (.iaload, 1) := by decide +kernel
theorem a_L_law_861 : ix_at mT_L_law 861 = some (.aload_n 0, 1) := by decide +kernel
theorem a_L_law_862 : ix_at mT_L_law 862 = some (.iload_n 3, 1) := by decide +kernel
theorem a_L_law_863 : ix_at mT_L_law 863 = some (.iconst 2, 1) := by decide +kernel
theorem a_L_law_864 : ix_at mT_L_law 864 = some (.iadd, 1) := by decide +kernel
theorem a_L_law_865 : ix_at mT_L_law 865 = some (.iaload, 1) := by decide +kernel
theorem a_L_law_866 : ix_at mT_L_law 866 = some (.invokevirtual 95, 3) := by decide +kernel
theorem a_L_law_869 : ix_at mT_L_law 869 = some (.if_icmp .eq 94, 3) := by decide +kernel
theorem a_L_law_872 : ix_at mT_L_law 872 = some (.iconst 0, 1) := by decide +kernel
theorem a_L_law_873 : ix_at mT_L_law 873 = some (.ireturn, 1) := by decide +kernel
theorem a_L_law_874 : ix_at mT_L_law 874 = some (.aload_n 1, 1) := by decide +kernel
theorem a_L_law_875 : ix_at mT_L_law 875 = some (.aload_n 0, 1) := by decide +kernel
theorem a_L_law_876 : ix_at mT_L_law 876 = some (.iload_n 3, 1) := by decide +kernel
theorem a_L_law_877 : ix_at mT_L_law 877 = some (.iconst 1, 1) := by decide +kernel
theorem a_L_law_878 : ix_at mT_L_law 878 = some (.iadd, 1) := by decide +kernel
theorem a_L_law_879 : ix_at mT_L_law 879 = some (.iaload, 1) := by decide +kernel
theorem a_L_law_880 : ix_at mT_L_law 880 = some (.aload_n 0, 1) := by decide +kernel
theorem a_L_law_881 : ix_at mT_L_law 881 = some (.iload_n 3, 1) := by decide +kernel
theorem a_L_law_882 : ix_at mT_L_law 882 = some (.iconst 2, 1) := by decide +kernel
theorem a_L_law_883 : ix_at mT_L_law 883 = some (.iadd, 1) := by decide +kernel
theorem a_L_law_884 : ix_at mT_L_law 884 = some (.iaload, 1) := by decide +kernel
theorem a_L_law_885 : ix_at mT_L_law 885 = some (.invokevirtual 96, 3) := by decide +kernel
theorem a_L_law_888 : ix_at mT_L_law 888 = some (.aload_n 2, 1) := by decide +kernel
theorem a_L_law_889 : ix_at mT_L_law 889 = some (.aload_n 0, 1) := by decide +kernel
theorem a_L_law_890 : ix_at mT_L_law 890 = some (.iload_n 3, 1) := by decide +kernel
theorem a_L_law_891 : ix_at mT_L_law 891 = some (.iconst 1, 1) := by decide +kernel
theorem a_L_law_892 : ix_at mT_L_law 892 = some (.iadd, 1) := by decide +kernel
theorem a_L_law_893 : ix_at mT_L_law 893 = some (.iaload, 1) := by decide +kernel
theorem a_L_law_894 : ix_at mT_L_law 894 = some (.aload_n 0, 1) := by decide +kernel
theorem a_L_law_895 : ix_at mT_L_law 895 = some (.iload_n 3, 1) := by decide +kernel
theorem a_L_law_896 : ix_at mT_L_law 896 = some (.iconst 2, 1) := by decide +kernel
theorem a_L_law_897 : ix_at mT_L_law 897 = some (.iadd, 1) := by decide +kernel
theorem a_L_law_898 : ix_at mT_L_law 898 = some (.iaload, 1) := by decide +kernel
theorem a_L_law_899 : ix_at mT_L_law 899 = some (.invokevirtual 99, 3) := by decide +kernel
theorem a_L_law_902 : ix_at mT_L_law 902 = some (.if_icmp .eq 61, 3) := by decide +kernel
theorem a_L_law_905 : ix_at mT_L_law 905 = some (.iconst 0, 1) := by decide +kernel
theorem a_L_law_906 : ix_at mT_L_law 906 = some (.ireturn, 1) := by decide +kernel
theorem a_L_law_907 : ix_at mT_L_law 907 = some (.aload_n 1, 1) := by decide +kernel
theorem a_L_law_908 : ix_at mT_L_law 908 = some (.aload_n 0, 1) := by decide +kernel
theorem a_L_law_909 : ix_at mT_L_law 909 = some (.iload_n 3, 1) := by decide +kernel
theorem a_L_law_910 : ix_at mT_L_law 910 = some (.iconst 1, 1) := by decide +kernel
theorem a_L_law_911 : ix_at mT_L_law 911 = some (.iadd, 1) := by decide +kernel
theorem a_L_law_912 : ix_at mT_L_law 912 = some (.iaload, 1) := by decide +kernel
theorem a_L_law_913 : ix_at mT_L_law 913 = some (.aload_n 0, 1) := by decide +kernel
theorem a_L_law_914 : ix_at mT_L_law 914 = some (.iload_n 3, 1) := by decide +kernel
theorem a_L_law_915 : ix_at mT_L_law 915 = some (.iconst 2, 1) := by decide +kernel
theorem a_L_law_916 : ix_at mT_L_law 916 = some (.iadd, 1) := by decide +kernel
theorem a_L_law_917 : ix_at mT_L_law 917 = some (.iaload, 1) := by decide +kernel
theorem a_L_law_918 : ix_at mT_L_law 918 = some (.invokevirtual 100, 3) := by decide +kernel
theorem a_L_law_921 : ix_at mT_L_law 921 = some (.aload_n 2, 1) := by decide +kernel
theorem a_L_law_922 : ix_at mT_L_law 922 = some (.aload_n 0, 1) := by decide +kernel
theorem a_L_law_923 : ix_at mT_L_law 923 = some (.iload_n 3, 1) := by decide +kernel
theorem a_L_law_924 : ix_at mT_L_law 924 = some (.iconst 1, 1) := by decide +kernel
theorem a_L_law_925 : ix_at mT_L_law 925 = some (.iadd, 1) := by decide +kernel
theorem a_L_law_926 : ix_at mT_L_law 926 = some (.iaload, 1) := by decide +kernel
theorem a_L_law_927 : ix_at mT_L_law 927 = some (.aload_n 0, 1) := by decide +kernel
theorem a_L_law_928 : ix_at mT_L_law 928 = some (.iload_n 3, 1) := by decide +kernel
theorem a_L_law_929 : ix_at mT_L_law 929 = some (.iconst 2, 1) := by decide +kernel
theorem a_L_law_930 : ix_at mT_L_law 930 = some (.iadd, 1) := by decide +kernel
theorem a_L_law_931 : ix_at mT_L_law 931 = some (.iaload, 1) := by decide +kernel
theorem a_L_law_932 : ix_at mT_L_law 932 = some (.invokevirtual 103, 3) := by decide +kernel
theorem a_L_law_935 : ix_at mT_L_law 935 = some (.if_icmp .eq 28, 3) := by decide +kernel
theorem a_L_law_938 : ix_at mT_L_law 938 = some (.iconst 0, 1) := by decide +kernel
theorem a_L_law_939 : ix_at mT_L_law 939 = some (.ireturn, 1) := by decide +kernel
theorem a_L_law_940 : ix_at mT_L_law 940 = some (.aload_n 1, 1) := by decide +kernel
theorem a_L_law_941 : ix_at mT_L_law 941 = some (.aload_n 0, 1) := by decide +kernel
theorem a_L_law_942 : ix_at mT_L_law 942 = some (.iload_n 3, 1) := by decide +kernel
theorem a_L_law_943 : ix_at mT_L_law 943 = some (.iconst 1, 1) := by decide +kernel
theorem a_L_law_944 : ix_at mT_L_law 944 = some (.iadd, 1) := by decide +kernel
theorem a_L_law_945 : ix_at mT_L_law 945 = some (.iaload, 1) := by decide +kernel
theorem a_L_law_946 : ix_at mT_L_law 946 = some (.invokevirtual 104, 3) := by decide +kernel
theorem a_L_law_949 : ix_at mT_L_law 949 = some (.aload_n 2, 1) := by decide +kernel
theorem a_L_law_950 : ix_at mT_L_law 950 = some (.aload_n 0, 1) := by decide +kernel
theorem a_L_law_951 : ix_at mT_L_law 951 = some (.iload_n 3, 1) := by decide +kernel
theorem a_L_law_952 : ix_at mT_L_law 952 = some (.iconst 1, 1) := by decide +kernel
theorem a_L_law_953 : ix_at mT_L_law 953 = some (.iadd, 1) := by decide +kernel
theorem a_L_law_954 : ix_at mT_L_law 954 = some (.iaload, 1) := by decide +kernel
theorem a_L_law_955 : ix_at mT_L_law 955 = some (.invokevirtual 107, 3) := by decide +kernel
theorem a_L_law_958 : ix_at mT_L_law 958 = some (.if_icmp .eq 5, 3) := by decide +kernel
theorem a_L_law_961 : ix_at mT_L_law 961 = some (.iconst 0, 1) := by decide +kernel
theorem a_L_law_962 : ix_at mT_L_law 962 = some (.ireturn, 1) := by decide +kernel
theorem a_L_law_963 : ix_at mT_L_law 963 = some (.iinc 3 6, 3) := by decide +kernel
theorem a_L_law_966 : ix_at mT_L_law 966 = some (.goto (-948), 3) := by decide +kernel
theorem a_L_law_969 : ix_at mT_L_law 969 = some (.iconst 1, 1) := by decide +kernel
theorem a_L_law_970 : ix_at mT_L_law 970 = some (.ireturn, 1) := by decide +kernel
theorem f_0_15 : ix_fld 0 15 = some (0, 0, 0, 80) := by decide +kernel
theorem f_0_21 : ix_fld 0 21 = some (0, 0, 1, 81) := by decide +kernel
theorem f_4_56 : ix_fld 4 56 = some (1, 0, 1, 82) := by decide +kernel
theorem f_1_38 : ix_fld 1 38 = some (1, 0, 1, 83) := by decide +kernel
theorem f_3_9 : ix_fld 3 9 = some (0, 3, 0, 98) := by decide +kernel
theorem f_3_15 : ix_fld 3 15 = some (0, 3, 1, 99) := by decide +kernel
theorem f_3_18 : ix_fld 3 18 = some (0, 3, 2, 100) := by decide +kernel
theorem f_3_21 : ix_fld 3 21 = some (0, 3, 3, 101) := by decide +kernel
theorem f_3_25 : ix_fld 3 25 = some (0, 3, 4, 102) := by decide +kernel
theorem f_4_142 : ix_fld 4 142 = some (1, 3, 4, 103) := by decide +kernel
theorem f_1_14 : ix_fld 1 14 = some (0, 1, 0, 125) := by decide +kernel
theorem f_4_186 : ix_fld 4 186 = some (1, 1, 0, 126) := by decide +kernel
theorem f_1_20 : ix_fld 1 20 = some (0, 1, 1, 127) := by decide +kernel
theorem f_1_24 : ix_fld 1 24 = some (0, 1, 2, 128) := by decide +kernel
theorem f_1_28 : ix_fld 1 28 = some (0, 1, 3, 129) := by decide +kernel
theorem f_1_34 : ix_fld 1 34 = some (0, 1, 4, 130) := by decide +kernel
theorem f_4_180 : ix_fld 4 180 = some (1, 1, 4, 131) := by decide +kernel
theorem f_2_9 : ix_fld 2 9 = some (0, 2, 0, 149) := by decide +kernel
theorem f_4_88 : ix_fld 4 88 = some (1, 2, 0, 150) := by decide +kernel
theorem f_2_18 : ix_fld 2 18 = some (0, 2, 1, 151) := by decide +kernel
theorem f_4_205 : ix_fld 4 205 = some (1, 2, 1, 152) := by decide +kernel
theorem f_2_21 : ix_fld 2 21 = some (0, 2, 2, 153) := by decide +kernel
theorem f_4_208 : ix_fld 4 208 = some (1, 2, 2, 154) := by decide +kernel
theorem f_2_24 : ix_fld 2 24 = some (0, 2, 3, 155) := by decide +kernel
theorem f_4_277 : ix_fld 4 277 = some (1, 2, 3, 156) := by decide +kernel
theorem f_2_27 : ix_fld 2 27 = some (0, 2, 4, 157) := by decide +kernel
theorem f_4_211 : ix_fld 4 211 = some (1, 2, 4, 158) := by decide +kernel
theorem f_2_30 : ix_fld 2 30 = some (0, 2, 5, 159) := by decide +kernel
theorem f_4_214 : ix_fld 4 214 = some (1, 2, 5, 160) := by decide +kernel
theorem f_2_33 : ix_fld 2 33 = some (0, 2, 6, 161) := by decide +kernel
theorem f_4_274 : ix_fld 4 274 = some (1, 2, 6, 162) := by decide +kernel
theorem f_4_14 : ix_fld 4 14 = some (0, 4, 0, 211) := by decide +kernel
theorem f_4_18 : ix_fld 4 18 = some (0, 4, 1, 212) := by decide +kernel
theorem f_4_21 : ix_fld 4 21 = some (0, 4, 2, 213) := by decide +kernel
theorem f_4_26 : ix_fld 4 26 = some (0, 4, 3, 214) := by decide +kernel
theorem f_4_30 : ix_fld 4 30 = some (0, 4, 4, 215) := by decide +kernel
theorem f_4_36 : ix_fld 4 36 = some (0, 4, 5, 216) := by decide +kernel
theorem f_4_42 : ix_fld 4 42 = some (0, 4, 6, 217) := by decide +kernel
theorem f_4_46 : ix_fld 4 46 = some (0, 4, 7, 218) := by decide +kernel
theorem f_4_146 : ix_fld 4 146 = some (0, 4, 8, 219) := by decide +kernel
theorem f_4_220 : ix_fld 4 220 = some (0, 4, 9, 220) := by decide +kernel
theorem f_4_223 : ix_fld 4 223 = some (0, 4, 10, 221) := by decide +kernel
theorem f_4_98 : ix_fld 4 98 = some (0, 4, 11, 222) := by decide +kernel
theorem f_4_63 : ix_fld 4 63 = some (0, 4, 12, 223) := by decide +kernel
theorem f_4_168 : ix_fld 4 168 = some (0, 4, 13, 224) := by decide +kernel
theorem f_4_95 : ix_fld 4 95 = some (0, 4, 14, 225) := by decide +kernel
theorem f_5_87 : ix_fld 5 87 = some (0, 5, 0, 585) := by decide +kernel
theorem f_5_90 : ix_fld 5 90 = some (0, 5, 1, 586) := by decide +kernel
theorem f_5_93 : ix_fld 5 93 = some (0, 5, 2, 587) := by decide +kernel
theorem f_5_96 : ix_fld 5 96 = some (0, 5, 3, 588) := by decide +kernel
theorem f_5_99 : ix_fld 5 99 = some (0, 5, 4, 589) := by decide +kernel
theorem f_5_103 : ix_fld 5 103 = some (0, 5, 5, 590) := by decide +kernel
theorem f_5_106 : ix_fld 5 106 = some (0, 5, 6, 591) := by decide +kernel
theorem f_5_109 : ix_fld 5 109 = some (0, 5, 7, 592) := by decide +kernel
theorem f_5_9 : ix_fld 5 9 = some (0, 5, 8, 593) := by decide +kernel
theorem f_5_13 : ix_fld 5 13 = some (0, 5, 9, 594) := by decide +kernel
theorem f_5_16 : ix_fld 5 16 = some (0, 5, 10, 595) := by decide +kernel
theorem f_5_19 : ix_fld 5 19 = some (0, 5, 11, 596) := by decide +kernel
theorem f_5_22 : ix_fld 5 22 = some (0, 5, 12, 597) := by decide +kernel
theorem f_5_25 : ix_fld 5 25 = some (0, 5, 13, 598) := by decide +kernel
theorem f_5_28 : ix_fld 5 28 = some (0, 5, 14, 599) := by decide +kernel
theorem f_5_32 : ix_fld 5 32 = some (0, 5, 15, 600) := by decide +kernel
theorem f_5_112 : ix_fld 5 112 = some (0, 5, 16, 601) := by decide +kernel
theorem f_5_36 : ix_fld 5 36 = some (0, 5, 17, 602) := by decide +kernel
theorem f_5_40 : ix_fld 5 40 = some (0, 5, 18, 603) := by decide +kernel
theorem f_5_43 : ix_fld 5 43 = some (0, 5, 19, 604) := by decide +kernel
theorem f_5_46 : ix_fld 5 46 = some (0, 5, 20, 605) := by decide +kernel
theorem f_5_49 : ix_fld 5 49 = some (0, 5, 21, 606) := by decide +kernel
theorem f_5_80 : ix_fld 5 80 = some (0, 5, 22, 607) := by decide +kernel
theorem f_5_52 : ix_fld 5 52 = some (0, 5, 23, 608) := by decide +kernel
theorem f_5_55 : ix_fld 5 55 = some (0, 5, 24, 609) := by decide +kernel
theorem f_5_84 : ix_fld 5 84 = some (0, 5, 25, 610) := by decide +kernel
theorem f_5_58 : ix_fld 5 58 = some (0, 5, 26, 611) := by decide +kernel
theorem f_5_61 : ix_fld 5 61 = some (0, 5, 27, 612) := by decide +kernel
theorem f_5_64 : ix_fld 5 64 = some (0, 5, 28, 613) := by decide +kernel
theorem f_5_67 : ix_fld 5 67 = some (0, 5, 29, 614) := by decide +kernel
theorem f_5_168 : ix_fld 5 168 = some (0, 5, 30, 615) := by decide +kernel
theorem f_5_70 : ix_fld 5 70 = some (0, 5, 31, 616) := by decide +kernel
theorem f_5_115 : ix_fld 5 115 = some (0, 5, 32, 617) := by decide +kernel
theorem f_5_73 : ix_fld 5 73 = some (0, 5, 33, 618) := by decide +kernel
theorem k_6_9 : ix_mth 6 9 = some (0, 38, 65) := by decide +kernel
theorem k_4_3 : ix_mth 4 3 = some (2, 0, 68) := by decide +kernel
theorem k_4_11 : ix_mth 4 11 = some (0, 0, 73) := by decide +kernel
theorem k_0_3 : ix_mth 0 3 = some (2, 0, 76) := by decide +kernel
theorem k_0_9 : ix_mth 0 9 = some (3, 0, 77) := by decide +kernel
theorem k_4_35 : ix_mth 4 35 = some (1, 33, 94) := by decide +kernel
theorem k_3_3 : ix_mth 3 3 = some (2, 0, 97) := by decide +kernel
theorem k_4_50 : ix_mth 4 50 = some (1, 8, 119) := by decide +kernel
theorem k_1_3 : ix_mth 1 3 = some (2, 0, 122) := by decide +kernel
theorem k_1_11 : ix_mth 1 11 = some (0, 0, 124) := by decide +kernel
theorem k_4_51 : ix_mth 4 51 = some (1, 27, 145) := by decide +kernel
theorem k_2_3 : ix_mth 2 3 = some (2, 0, 148) := by decide +kernel
theorem k_4_52 : ix_mth 4 52 = some (0, 60, 178) := by decide +kernel
theorem k_4_232 : ix_mth 4 232 = some (0, 9, 182) := by decide +kernel
theorem k_1_31 : ix_mth 1 31 = some (0, 1, 186) := by decide +kernel
theorem k_4_109 : ix_mth 4 109 = some (0, 1, 190) := by decide +kernel
theorem k_4_145 : ix_mth 4 145 = some (0, 34, 191) := by decide +kernel
theorem k_3_28 : ix_mth 3 28 = some (0, 138, 195) := by decide +kernel
theorem k_4_165 : ix_mth 4 165 = some (0, 61, 198) := by decide +kernel
theorem k_4_233 : ix_mth 4 233 = some (0, 28, 202) := by decide +kernel
theorem k_2_15 : ix_mth 2 15 = some (0, 30, 206) := by decide +kernel
theorem k_4_234 : ix_mth 4 234 = some (0, 138, 210) := by decide +kernel
theorem k_6_13 : ix_mth 6 13 = some (0, 39, 257) := by decide +kernel
theorem k_6_20 : ix_mth 6 20 = some (0, 40, 261) := by decide +kernel
theorem k_4_60 : ix_mth 4 60 = some (0, 4, 265) := by decide +kernel
theorem k_6_25 : ix_mth 6 25 = some (0, 41, 269) := by decide +kernel
theorem k_4_67 : ix_mth 4 67 = some (0, 62, 273) := by decide +kernel
theorem k_4_71 : ix_mth 4 71 = some (0, 31, 277) := by decide +kernel
theorem k_4_75 : ix_mth 4 75 = some (0, 81, 281) := by decide +kernel
theorem k_4_101 : ix_mth 4 101 = some (0, 76, 285) := by decide +kernel
theorem k_4_262 : ix_mth 4 262 = some (0, 5, 289) := by decide +kernel
theorem k_0_25 : ix_mth 0 25 = some (0, 4, 293) := by decide +kernel
theorem k_4_265 : ix_mth 4 265 = some (0, 7, 294) := by decide +kernel
theorem k_4_258 : ix_mth 4 258 = some (0, 35, 298) := by decide +kernel
theorem k_4_174 : ix_mth 4 174 = some (0, 77, 302) := by decide +kernel
theorem k_4_268 : ix_mth 4 268 = some (0, 6, 306) := by decide +kernel
theorem k_4_271 : ix_mth 4 271 = some (0, 29, 310) := by decide +kernel
theorem k_4_280 : ix_mth 4 280 = some (0, 78, 314) := by decide +kernel
theorem k_4_286 : ix_mth 4 286 = some (0, 79, 318) := by decide +kernel
theorem k_4_283 : ix_mth 4 283 = some (0, 30, 322) := by decide +kernel
theorem k_4_79 : ix_mth 4 79 = some (0, 82, 323) := by decide +kernel
theorem k_4_243 : ix_mth 4 243 = some (0, 32, 327) := by decide +kernel
theorem k_4_289 : ix_mth 4 289 = some (0, 21, 331) := by decide +kernel
theorem k_1_68 : ix_mth 1 68 = some (0, 15, 335) := by decide +kernel
theorem k_1_62 : ix_mth 1 62 = some (0, 14, 339) := by decide +kernel
theorem k_1_55 : ix_mth 1 55 = some (0, 12, 343) := by decide +kernel
theorem k_1_58 : ix_mth 1 58 = some (0, 6, 347) := by decide +kernel
theorem k_1_72 : ix_mth 1 72 = some (0, 13, 348) := by decide +kernel
theorem k_4_250 : ix_mth 4 250 = some (0, 75, 352) := by decide +kernel
theorem k_4_254 : ix_mth 4 254 = some (0, 10, 356) := by decide +kernel
theorem k_1_41 : ix_mth 1 41 = some (0, 5, 360) := by decide +kernel
theorem k_1_45 : ix_mth 1 45 = some (0, 3, 361) := by decide +kernel
theorem k_1_49 : ix_mth 1 49 = some (0, 4, 365) := by decide +kernel
theorem k_1_52 : ix_mth 1 52 = some (0, 7, 366) := by decide +kernel
theorem k_4_82 : ix_mth 4 82 = some (0, 71, 367) := by decide +kernel
theorem k_4_229 : ix_mth 4 229 = some (0, 73, 371) := by decide +kernel
theorem k_4_85 : ix_mth 4 85 = some (0, 80, 375) := by decide +kernel
theorem k_6_30 : ix_mth 6 30 = some (0, 42, 379) := by decide +kernel
theorem k_4_91 : ix_mth 4 91 = some (0, 68, 383) := by decide +kernel
theorem k_4_202 : ix_mth 4 202 = some (0, 63, 387) := by decide +kernel
theorem k_6_35 : ix_mth 6 35 = some (0, 43, 391) := by decide +kernel
theorem k_4_105 : ix_mth 4 105 = some (0, 69, 395) := by decide +kernel
theorem k_4_125 : ix_mth 4 125 = some (0, 64, 399) := by decide +kernel
theorem k_4_240 : ix_mth 4 240 = some (0, 20, 403) := by decide +kernel
theorem k_1_76 : ix_mth 1 76 = some (0, 18, 407) := by decide +kernel
theorem k_4_217 : ix_mth 4 217 = some (0, 19, 411) := by decide +kernel
theorem k_4_246 : ix_mth 4 246 = some (0, 70, 415) := by decide +kernel
theorem k_4_192 : ix_mth 4 192 = some (0, 74, 419) := by decide +kernel
theorem k_6_40 : ix_mth 6 40 = some (0, 44, 423) := by decide +kernel
theorem k_4_112 : ix_mth 4 112 = some (0, 65, 427) := by decide +kernel
theorem k_4_116 : ix_mth 4 116 = some (0, 66, 431) := by decide +kernel
theorem k_6_45 : ix_mth 6 45 = some (0, 45, 435) := by decide +kernel
theorem k_6_50 : ix_mth 6 50 = some (0, 46, 439) := by decide +kernel
theorem k_6_55 : ix_mth 6 55 = some (0, 47, 443) := by decide +kernel
theorem k_6_59 : ix_mth 6 59 = some (0, 48, 447) := by decide +kernel
theorem k_4_121 : ix_mth 4 121 = some (0, 83, 452) := by decide +kernel
theorem k_4_292 : ix_mth 4 292 = some (0, 85, 456) := by decide +kernel
theorem k_6_63 : ix_mth 6 63 = some (0, 49, 460) := by decide +kernel
theorem k_4_128 : ix_mth 4 128 = some (0, 24, 464) := by decide +kernel
theorem k_1_91 : ix_mth 1 91 = some (0, 22, 468) := by decide +kernel
theorem k_1_80 : ix_mth 1 80 = some (0, 138, 472) := by decide +kernel
theorem k_1_86 : ix_mth 1 86 = some (4, 0, 473) := by decide +kernel
theorem k_1_95 : ix_mth 1 95 = some (3, 0, 476) := by decide +kernel
theorem k_4_132 : ix_mth 4 132 = some (0, 25, 477) := by decide +kernel
theorem k_4_135 : ix_mth 4 135 = some (0, 26, 481) := by decide +kernel
theorem k_6_67 : ix_mth 6 67 = some (0, 50, 485) := by decide +kernel
theorem k_4_139 : ix_mth 4 139 = some (0, 3, 489) := by decide +kernel
theorem k_6_71 : ix_mth 6 71 = some (0, 51, 490) := by decide +kernel
theorem k_6_76 : ix_mth 6 76 = some (0, 52, 494) := by decide +kernel
theorem k_4_149 : ix_mth 4 149 = some (0, 67, 498) := by decide +kernel
theorem k_4_153 : ix_mth 4 153 = some (0, 36, 502) := by decide +kernel
theorem k_4_156 : ix_mth 4 156 = some (0, 37, 506) := by decide +kernel
theorem k_3_34 : ix_mth 3 34 = some (4, 0, 510) := by decide +kernel
theorem k_4_159 : ix_mth 4 159 = some (0, 2, 511) := by decide +kernel
theorem k_4_162 : ix_mth 4 162 = some (0, 16, 515) := by decide +kernel
theorem k_6_80 : ix_mth 6 80 = some (0, 53, 519) := by decide +kernel
theorem k_4_171 : ix_mth 4 171 = some (0, 17, 523) := by decide +kernel
theorem k_1_65 : ix_mth 1 65 = some (0, 2, 527) := by decide +kernel
theorem k_4_177 : ix_mth 4 177 = some (0, 84, 528) := by decide +kernel
theorem k_6_84 : ix_mth 6 84 = some (0, 54, 532) := by decide +kernel
theorem k_4_183 : ix_mth 4 183 = some (0, 22, 536) := by decide +kernel
theorem k_4_189 : ix_mth 4 189 = some (0, 23, 537) := by decide +kernel
theorem k_6_88 : ix_mth 6 88 = some (0, 55, 541) := by decide +kernel
theorem k_4_195 : ix_mth 4 195 = some (0, 11, 545) := by decide +kernel
theorem k_4_198 : ix_mth 4 198 = some (0, 13, 549) := by decide +kernel
theorem k_6_92 : ix_mth 6 92 = some (0, 56, 550) := by decide +kernel
theorem k_6_96 : ix_mth 6 96 = some (0, 57, 554) := by decide +kernel
theorem k_6_100 : ix_mth 6 100 = some (0, 58, 558) := by decide +kernel
theorem k_6_104 : ix_mth 6 104 = some (0, 59, 562) := by decide +kernel
theorem k_4_226 : ix_mth 4 226 = some (0, 72, 566) := by decide +kernel
theorem k_6_12 : ix_mth 6 12 = some (0, 86, 572) := by decide +kernel
theorem k_5_1 : ix_mth 5 1 = some (2, 0, 575) := by decide +kernel
theorem k_5_76 : ix_mth 5 76 = some (0, 88, 577) := by decide +kernel
theorem k_5_118 : ix_mth 5 118 = some (0, 87, 581) := by decide +kernel
theorem k_6_17 : ix_mth 6 17 = some (0, 88, 688) := by decide +kernel
theorem k_6_29 : ix_mth 6 29 = some (0, 102, 689) := by decide +kernel
theorem k_5_144 : ix_mth 5 144 = some (0, 101, 693) := by decide +kernel
theorem k_5_129 : ix_mth 5 129 = some (0, 92, 697) := by decide +kernel
theorem k_5_141 : ix_mth 5 141 = some (0, 99, 701) := by decide +kernel
theorem k_5_133 : ix_mth 5 133 = some (0, 100, 705) := by decide +kernel
theorem k_5_137 : ix_mth 5 137 = some (0, 98, 709) := by decide +kernel
theorem k_5_147 : ix_mth 5 147 = some (0, 93, 713) := by decide +kernel
theorem k_5_151 : ix_mth 5 151 = some (0, 95, 717) := by decide +kernel
theorem k_5_125 : ix_mth 5 125 = some (0, 90, 721) := by decide +kernel
theorem k_5_121 : ix_mth 5 121 = some (0, 89, 725) := by decide +kernel
theorem k_5_155 : ix_mth 5 155 = some (0, 97, 729) := by decide +kernel
theorem k_6_34 : ix_mth 6 34 = some (0, 104, 733) := by decide +kernel
theorem k_5_158 : ix_mth 5 158 = some (0, 96, 737) := by decide +kernel
theorem k_5_161 : ix_mth 5 161 = some (0, 103, 741) := by decide +kernel
theorem k_6_39 : ix_mth 6 39 = some (0, 108, 745) := by decide +kernel
theorem k_5_171 : ix_mth 5 171 = some (0, 107, 749) := by decide +kernel
theorem k_5_165 : ix_mth 5 165 = some (0, 105, 753) := by decide +kernel
theorem k_5_175 : ix_mth 5 175 = some (0, 106, 757) := by decide +kernel
theorem k_5_178 : ix_mth 5 178 = some (0, 94, 761) := by decide +kernel
theorem k_6_44 : ix_mth 6 44 = some (0, 112, 765) := by decide +kernel
theorem k_5_181 : ix_mth 5 181 = some (0, 109, 769) := by decide +kernel
theorem k_5_185 : ix_mth 5 185 = some (0, 110, 772) := by decide +kernel
theorem k_5_188 : ix_mth 5 188 = some (0, 111, 776) := by decide +kernel
theorem k_6_49 : ix_mth 6 49 = some (0, 113, 780) := by decide +kernel
theorem k_6_54 : ix_mth 6 54 = some (0, 114, 784) := by decide +kernel
theorem k_6_58 : ix_mth 6 58 = some (0, 115, 788) := by decide +kernel
theorem k_6_62 : ix_mth 6 62 = some (0, 116, 792) := by decide +kernel
theorem k_6_66 : ix_mth 6 66 = some (0, 120, 797) := by decide +kernel
theorem k_5_192 : ix_mth 5 192 = some (0, 118, 801) := by decide +kernel
theorem k_5_195 : ix_mth 5 195 = some (0, 119, 805) := by decide +kernel
theorem k_6_70 : ix_mth 6 70 = some (0, 121, 809) := by decide +kernel
theorem k_6_24 : ix_mth 6 24 = some (0, 122, 813) := by decide +kernel
theorem k_6_75 : ix_mth 6 75 = some (0, 123, 817) := by decide +kernel
theorem k_5_199 : ix_mth 5 199 = some (0, 91, 821) := by decide +kernel
theorem k_6_79 : ix_mth 6 79 = some (0, 124, 825) := by decide +kernel
theorem k_6_83 : ix_mth 6 83 = some (0, 126, 829) := by decide +kernel
theorem k_5_202 : ix_mth 5 202 = some (0, 125, 833) := by decide +kernel
theorem k_6_87 : ix_mth 6 87 = some (0, 127, 837) := by decide +kernel
theorem k_5_205 : ix_mth 5 205 = some (0, 117, 841) := by decide +kernel
theorem k_5_208 : ix_mth 5 208 = some (0, 128, 845) := by decide +kernel
theorem k_5_211 : ix_mth 5 211 = some (0, 129, 849) := by decide +kernel
theorem k_6_91 : ix_mth 6 91 = some (0, 130, 853) := by decide +kernel
theorem k_6_95 : ix_mth 6 95 = some (0, 131, 857) := by decide +kernel
theorem k_6_99 : ix_mth 6 99 = some (0, 132, 861) := by decide +kernel
theorem k_6_103 : ix_mth 6 103 = some (0, 136, 865) := by decide +kernel
theorem k_5_220 : ix_mth 5 220 = some (0, 135, 869) := by decide +kernel
theorem k_5_217 : ix_mth 5 217 = some (0, 134, 873) := by decide +kernel
theorem k_5_214 : ix_mth 5 214 = some (0, 133, 877) := by decide +kernel
theorem k_6_107 : ix_mth 6 107 = some (0, 137, 880) := by decide +kernel
theorem c_6_7 : ix_cls 6 7 = some (4, 63) := by decide +kernel
theorem c_4_9 : ix_cls 4 9 = some (0, 71) := by decide +kernel
theorem c_4_24 : ix_cls 4 24 = some (1, 90) := by decide +kernel
theorem c_4_33 : ix_cls 4 33 = some (3, 92) := by decide +kernel
theorem c_4_40 : ix_cls 4 40 = some (2, 116) := by decide +kernel
theorem c_1_9 : ix_cls 1 9 = some (0, 123) := by decide +kernel
theorem c_6_10 : ix_cls 6 10 = some (5, 570) := by decide +kernel
theorem v_4_120 : ix_con 4 120 = some (1000000, 451) := by decide +kernel
theorem v_5_31 : ix_con 5 31 = some (168000, 576) := by decide +kernel
theorem v_5_191 : ix_con 5 191 = some (1000000, 796) := by decide +kernel
theorem v_6_18 : ix_cnl 6 18 = some (4294967295, 884) := by decide +kernel
abbrev n_X0_init : Nat := 0
theorem q_X0_init : mNs[n_X0_init]? = some mD_X0_init := rfl
abbrev n_X0_clear : Nat := 1
theorem q_X0_clear : mNs[n_X0_clear]? = some mD_X0_clear := rfl
abbrev n_X0_cutTo : Nat := 2
theorem q_X0_cutTo : mNs[n_X0_cutTo]? = some mD_X0_cutTo := rfl
abbrev n_X0_at : Nat := 3
theorem q_X0_at : mNs[n_X0_at]? = some mD_X0_at := rfl
abbrev n_X0_add : Nat := 4
theorem q_X0_add : mNs[n_X0_add]? = some mD_X0_add := rfl
abbrev n_X0_addNumber : Nat := 5
theorem q_X0_addNumber : mNs[n_X0_addNumber]? = some mD_X0_addNumber := rfl
abbrev n_X0_number : Nat := 6
theorem q_X0_number : mNs[n_X0_number]? = some mD_X0_number := rfl
abbrev n_X0_seal : Nat := 7
theorem q_X0_seal : mNs[n_X0_seal]? = some mD_X0_seal := rfl
abbrev n_X1_init : Nat := 8
theorem q_X1_init : mNs[n_X1_init]? = some mD_X1_init := rfl
abbrev n_X1_clear : Nat := 9
theorem q_X1_clear : mNs[n_X1_clear]? = some mD_X1_clear := rfl
abbrev n_X1_append : Nat := 10
theorem q_X1_append : mNs[n_X1_append]? = some mD_X1_append := rfl
abbrev n_X1_has : Nat := 11
theorem q_X1_has : mNs[n_X1_has]? = some mD_X1_has := rfl
abbrev n_X1_startOf : Nat := 12
theorem q_X1_startOf : mNs[n_X1_startOf]? = some mD_X1_startOf := rfl
abbrev n_X1_field : Nat := 13
theorem q_X1_field : mNs[n_X1_field]? = some mD_X1_field := rfl
abbrev n_X1_kindOf : Nat := 14
theorem q_X1_kindOf : mNs[n_X1_kindOf]? = some mD_X1_kindOf := rfl
abbrev n_X1_isSeen : Nat := 15
theorem q_X1_isSeen : mNs[n_X1_isSeen]? = some mD_X1_isSeen := rfl
abbrev n_X1_dropBroken : Nat := 16
theorem q_X1_dropBroken : mNs[n_X1_dropBroken]? = some mD_X1_dropBroken := rfl
abbrev n_X1_cutBroken : Nat := 17
theorem q_X1_cutBroken : mNs[n_X1_cutBroken]? = some mD_X1_cutBroken := rfl
abbrev n_X1_isSentBy : Nat := 18
theorem q_X1_isSentBy : mNs[n_X1_isSentBy]? = some mD_X1_isSentBy := rfl
abbrev n_X1_nextOf : Nat := 19
theorem q_X1_nextOf : mNs[n_X1_nextOf]? = some mD_X1_nextOf := rfl
abbrev n_X1_offsetOfRecent : Nat := 20
theorem q_X1_offsetOfRecent : mNs[n_X1_offsetOfRecent]? = some mD_X1_offsetOfRecent := rfl
abbrev n_X1_hasEndOf : Nat := 21
theorem q_X1_hasEndOf : mNs[n_X1_hasEndOf]? = some mD_X1_hasEndOf := rfl
abbrev n_X1_stable : Nat := 22
theorem q_X1_stable : mNs[n_X1_stable]? = some mD_X1_stable := rfl
abbrev n_X1_committedEntries : Nat := 23
theorem q_X1_committedEntries : mNs[n_X1_committedEntries]? = some mD_X1_committedEntries := rfl
abbrev n_X1_firstCommitted : Nat := 24
theorem q_X1_firstCommitted : mNs[n_X1_firstCommitted]? = some mD_X1_firstCommitted := rfl
abbrev n_X1_firstSeen : Nat := 25
theorem q_X1_firstSeen : mNs[n_X1_firstSeen]? = some mD_X1_firstSeen := rfl
abbrev n_X1_copyPayload : Nat := 26
theorem q_X1_copyPayload : mNs[n_X1_copyPayload]? = some mD_X1_copyPayload := rfl
abbrev n_X2_init : Nat := 27
theorem q_X2_init : mNs[n_X2_init]? = some mD_X2_init := rfl
abbrev n_X2_forget : Nat := 28
theorem q_X2_forget : mNs[n_X2_forget]? = some mD_X2_forget := rfl
abbrev n_X2_openTransaction : Nat := 29
theorem q_X2_openTransaction : mNs[n_X2_openTransaction]? = some mD_X2_openTransaction := rfl
abbrev n_X2_closeTransaction : Nat := 30
theorem q_X2_closeTransaction : mNs[n_X2_closeTransaction]? = some mD_X2_closeTransaction := rfl
abbrev n_X2_isOpen : Nat := 31
theorem q_X2_isOpen : mNs[n_X2_isOpen]? = some mD_X2_isOpen := rfl
abbrev n_X2_hasAdded : Nat := 32
theorem q_X2_hasAdded : mNs[n_X2_hasAdded]? = some mD_X2_hasAdded := rfl
abbrev n_X3_init : Nat := 33
theorem q_X3_init : mNs[n_X3_init]? = some mD_X3_init := rfl
abbrev n_X3_clear : Nat := 34
theorem q_X3_clear : mNs[n_X3_clear]? = some mD_X3_clear := rfl
abbrev n_X3_note : Nat := 35
theorem q_X3_note : mNs[n_X3_note]? = some mD_X3_note := rfl
abbrev n_X3_bytesOf : Nat := 36
theorem q_X3_bytesOf : mNs[n_X3_bytesOf]? = some mD_X3_bytesOf := rfl
abbrev n_X3_keptOf : Nat := 37
theorem q_X3_keptOf : mNs[n_X3_keptOf]? = some mD_X3_keptOf := rfl
abbrev n_X4_init : Nat := 38
theorem q_X4_init : mNs[n_X4_init]? = some mD_X4_init := rfl
abbrev n_X4_format : Nat := 39
theorem q_X4_format : mNs[n_X4_format]? = some mD_X4_format := rfl
abbrev n_X4_feed : Nat := 40
theorem q_X4_feed : mNs[n_X4_feed]? = some mD_X4_feed := rfl
abbrev n_X4_register : Nat := 41
theorem q_X4_register : mNs[n_X4_register]? = some mD_X4_register := rfl
abbrev n_X4_begin : Nat := 42
theorem q_X4_begin : mNs[n_X4_begin]? = some mD_X4_begin := rfl
abbrev n_X4_send : Nat := 43
theorem q_X4_send : mNs[n_X4_send]? = some mD_X4_send := rfl
abbrev n_X4_later : Nat := 44
theorem q_X4_later : mNs[n_X4_later]? = some mD_X4_later := rfl
abbrev n_X4_end : Nat := 45
theorem q_X4_end : mNs[n_X4_end]? = some mD_X4_end := rfl
abbrev n_X4_mark : Nat := 46
theorem q_X4_mark : mNs[n_X4_mark]? = some mD_X4_mark := rfl
abbrev n_X4_marked : Nat := 47
theorem q_X4_marked : mNs[n_X4_marked]? = some mD_X4_marked := rfl
abbrev n_X4_tick : Nat := 48
theorem q_X4_tick : mNs[n_X4_tick]? = some mD_X4_tick := rfl
abbrev n_X4_fetch : Nat := 49
theorem q_X4_fetch : mNs[n_X4_fetch]? = some mD_X4_fetch := rfl
abbrev n_X4_answer : Nat := 50
theorem q_X4_answer : mNs[n_X4_answer]? = some mD_X4_answer := rfl
abbrev n_X4_sync : Nat := 51
theorem q_X4_sync : mNs[n_X4_sync]? = some mD_X4_sync := rfl
abbrev n_X4_crash : Nat := 52
theorem q_X4_crash : mNs[n_X4_crash]? = some mD_X4_crash := rfl
abbrev n_X4_open : Nat := 53
theorem q_X4_open : mNs[n_X4_open]? = some mD_X4_open := rfl
abbrev n_X4_partition : Nat := 54
theorem q_X4_partition : mNs[n_X4_partition]? = some mD_X4_partition := rfl
abbrev n_X4_entry : Nat := 55
theorem q_X4_entry : mNs[n_X4_entry]? = some mD_X4_entry := rfl
abbrev n_X4_producer : Nat := 56
theorem q_X4_producer : mNs[n_X4_producer]? = some mD_X4_producer := rfl
abbrev n_X4_next : Nat := 57
theorem q_X4_next : mNs[n_X4_next]? = some mD_X4_next := rfl
abbrev n_X4_byteOf : Nat := 58
theorem q_X4_byteOf : mNs[n_X4_byteOf]? = some mD_X4_byteOf := rfl
abbrev n_X4_count : Nat := 59
theorem q_X4_count : mNs[n_X4_count]? = some mD_X4_count := rfl
abbrev n_X4_build : Nat := 60
theorem q_X4_build : mNs[n_X4_build]? = some mD_X4_build := rfl
abbrev n_X4_forget : Nat := 61
theorem q_X4_forget : mNs[n_X4_forget]? = some mD_X4_forget := rfl
abbrev n_X4_isKey : Nat := 62
theorem q_X4_isKey : mNs[n_X4_isKey]? = some mD_X4_isKey := rfl
abbrev n_X4_isRegistered : Nat := 63
theorem q_X4_isRegistered : mNs[n_X4_isRegistered]? = some mD_X4_isRegistered := rfl
abbrev n_X4_isPartition : Nat := 64
theorem q_X4_isPartition : mNs[n_X4_isPartition]? = some mD_X4_isPartition := rfl
abbrev n_X4_isPlace : Nat := 65
theorem q_X4_isPlace : mNs[n_X4_isPlace]? = some mD_X4_isPlace := rfl
abbrev n_X4_placeOf : Nat := 66
theorem q_X4_placeOf : mNs[n_X4_placeOf]? = some mD_X4_placeOf := rfl
abbrev n_X4_rowOf : Nat := 67
theorem q_X4_rowOf : mNs[n_X4_rowOf]? = some mD_X4_rowOf := rfl
abbrev n_X4_refusalOf : Nat := 68
theorem q_X4_refusalOf : mNs[n_X4_refusalOf]? = some mD_X4_refusalOf := rfl
abbrev n_X4_takeSent : Nat := 69
theorem q_X4_takeSent : mNs[n_X4_takeSent]? = some mD_X4_takeSent := rfl
abbrev n_X4_logHasRoom : Nat := 70
theorem q_X4_logHasRoom : mNs[n_X4_logHasRoom]? = some mD_X4_logHasRoom := rfl
abbrev n_X4_bookHasRoom : Nat := 71
theorem q_X4_bookHasRoom : mNs[n_X4_bookHasRoom]? = some mD_X4_bookHasRoom := rfl
abbrev n_X4_registeredProducers : Nat := 72
theorem q_X4_registeredProducers : mNs[n_X4_registeredProducers]? = some mD_X4_registeredProducers := rfl
abbrev n_X4_openTransactions : Nat := 73
theorem q_X4_openTransactions : mNs[n_X4_openTransactions]? = some mD_X4_openTransactions := rfl
abbrev n_X4_openThatAdded : Nat := 74
theorem q_X4_openThatAdded : mNs[n_X4_openThatAdded]? = some mD_X4_openThatAdded := rfl
abbrev n_X4_writeToLog : Nat := 75
theorem q_X4_writeToLog : mNs[n_X4_writeToLog]? = some mD_X4_writeToLog := rfl
abbrev n_X4_writeToBook : Nat := 76
theorem q_X4_writeToBook : mNs[n_X4_writeToBook]? = some mD_X4_writeToBook := rfl
abbrev n_X4_learn : Nat := 77
theorem q_X4_learn : mNs[n_X4_learn]? = some mD_X4_learn := rfl
abbrev n_X4_markLaters : Nat := 78
theorem q_X4_markLaters : mNs[n_X4_markLaters]? = some mD_X4_markLaters := rfl
abbrev n_X4_setMark : Nat := 79
theorem q_X4_setMark : mNs[n_X4_setMark]? = some mD_X4_setMark := rfl
abbrev n_X4_raiseEpoch : Nat := 80
theorem q_X4_raiseEpoch : mNs[n_X4_raiseEpoch]? = some mD_X4_raiseEpoch := rfl
abbrev n_X4_decide : Nat := 81
theorem q_X4_decide : mNs[n_X4_decide]? = some mD_X4_decide := rfl
abbrev n_X4_finish : Nat := 82
theorem q_X4_finish : mNs[n_X4_finish]? = some mD_X4_finish := rfl
abbrev n_X4_endOverdue : Nat := 83
theorem q_X4_endOverdue : mNs[n_X4_endOverdue]? = some mD_X4_endOverdue := rfl
abbrev n_X4_finishDecided : Nat := 84
theorem q_X4_finishDecided : mNs[n_X4_finishDecided]? = some mD_X4_finishDecided := rfl
abbrev n_X4_firstToEnd : Nat := 85
theorem q_X4_firstToEnd : mNs[n_X4_firstToEnd]? = some mD_X4_firstToEnd := rfl
abbrev n_X5_init : Nat := 86
theorem q_X5_init : mNs[n_X5_init]? = some mD_X5_init := rfl
abbrev n_X5_forgets : Nat := 87
theorem q_X5_forgets : mNs[n_X5_forgets]? = some mD_X5_forgets := rfl
abbrev n_X5_format : Nat := 88
theorem q_X5_format : mNs[n_X5_format]? = some mD_X5_format := rfl
abbrev n_X5_sizeOf : Nat := 89
theorem q_X5_sizeOf : mNs[n_X5_sizeOf]? = some mD_X5_sizeOf := rfl
abbrev n_X5_bytesFrom : Nat := 90
theorem q_X5_bytesFrom : mNs[n_X5_bytesFrom]? = some mD_X5_bytesFrom := rfl
abbrev n_X5_unsynced : Nat := 91
theorem q_X5_unsynced : mNs[n_X5_unsynced]? = some mD_X5_unsynced := rfl
abbrev n_X5_add : Nat := 92
theorem q_X5_add : mNs[n_X5_add]? = some mD_X5_add := rfl
abbrev n_X5_opened : Nat := 93
theorem q_X5_opened : mNs[n_X5_opened]? = some mD_X5_opened := rfl
abbrev n_X5_openedAt : Nat := 94
theorem q_X5_openedAt : mNs[n_X5_openedAt]? = some mD_X5_openedAt := rfl
abbrev n_X5_bookHas : Nat := 95
theorem q_X5_bookHas : mNs[n_X5_bookHas]? = some mD_X5_bookHas := rfl
abbrev n_X5_refused : Nat := 96
theorem q_X5_refused : mNs[n_X5_refused]? = some mD_X5_refused := rfl
abbrev n_X5_registers : Nat := 97
theorem q_X5_registers : mNs[n_X5_registers]? = some mD_X5_registers := rfl
abbrev n_X5_marksOf : Nat := 98
theorem q_X5_marksOf : mNs[n_X5_marksOf]? = some mD_X5_marksOf := rfl
abbrev n_X5_finishes : Nat := 99
theorem q_X5_finishes : mNs[n_X5_finishes]? = some mD_X5_finishes := rfl
abbrev n_X5_closes : Nat := 100
theorem q_X5_closes : mNs[n_X5_closes]? = some mD_X5_closes := rfl
abbrev n_X5_ends : Nat := 101
theorem q_X5_ends : mNs[n_X5_ends]? = some mD_X5_ends := rfl
abbrev n_X5_register : Nat := 102
theorem q_X5_register : mNs[n_X5_register]? = some mD_X5_register := rfl
abbrev n_X5_begins : Nat := 103
theorem q_X5_begins : mNs[n_X5_begins]? = some mD_X5_begins := rfl
abbrev n_X5_begin : Nat := 104
theorem q_X5_begin : mNs[n_X5_begin]? = some mD_X5_begin := rfl
abbrev n_X5_offsetOf : Nat := 105
theorem q_X5_offsetOf : mNs[n_X5_offsetOf]? = some mD_X5_offsetOf := rfl
abbrev n_X5_nextOf : Nat := 106
theorem q_X5_nextOf : mNs[n_X5_nextOf]? = some mD_X5_nextOf := rfl
abbrev n_X5_again : Nat := 107
theorem q_X5_again : mNs[n_X5_again]? = some mD_X5_again := rfl
abbrev n_X5_send : Nat := 108
theorem q_X5_send : mNs[n_X5_send]? = some mD_X5_send := rfl
abbrev n_X5_isGroup : Nat := 109
theorem q_X5_isGroup : mNs[n_X5_isGroup]? = some mD_X5_isGroup := rfl
abbrev n_X5_isPartition : Nat := 110
theorem q_X5_isPartition : mNs[n_X5_isPartition]? = some mD_X5_isPartition := rfl
abbrev n_X5_later : Nat := 111
theorem q_X5_later : mNs[n_X5_later]? = some mD_X5_later := rfl
abbrev n_X5_later_ : Nat := 112
theorem q_X5_later_ : mNs[n_X5_later_]? = some mD_X5_later_ := rfl
abbrev n_X5_end : Nat := 113
theorem q_X5_end : mNs[n_X5_end]? = some mD_X5_end := rfl
abbrev n_X5_mark : Nat := 114
theorem q_X5_mark : mNs[n_X5_mark]? = some mD_X5_mark := rfl
abbrev n_X5_marked : Nat := 115
theorem q_X5_marked : mNs[n_X5_marked]? = some mD_X5_marked := rfl
abbrev n_X5_tick : Nat := 116
theorem q_X5_tick : mNs[n_X5_tick]? = some mD_X5_tick := rfl
abbrev n_X5_manyOf : Nat := 117
theorem q_X5_manyOf : mNs[n_X5_manyOf]? = some mD_X5_manyOf := rfl
abbrev n_X5_stable : Nat := 118
theorem q_X5_stable : mNs[n_X5_stable]? = some mD_X5_stable := rfl
abbrev n_X5_isSeen : Nat := 119
theorem q_X5_isSeen : mNs[n_X5_isSeen]? = some mD_X5_isSeen := rfl
abbrev n_X5_fetch : Nat := 120
theorem q_X5_fetch : mNs[n_X5_fetch]? = some mD_X5_fetch := rfl
abbrev n_X5_answer : Nat := 121
theorem q_X5_answer : mNs[n_X5_answer]? = some mD_X5_answer := rfl
abbrev n_X5_feed : Nat := 122
theorem q_X5_feed : mNs[n_X5_feed]? = some mD_X5_feed := rfl
abbrev n_X5_sync : Nat := 123
theorem q_X5_sync : mNs[n_X5_sync]? = some mD_X5_sync := rfl
abbrev n_X5_crash : Nat := 124
theorem q_X5_crash : mNs[n_X5_crash]? = some mD_X5_crash := rfl
abbrev n_X5_tells : Nat := 125
theorem q_X5_tells : mNs[n_X5_tells]? = some mD_X5_tells := rfl
abbrev n_X5_open : Nat := 126
theorem q_X5_open : mNs[n_X5_open]? = some mD_X5_open := rfl
abbrev n_X5_partition : Nat := 127
theorem q_X5_partition : mNs[n_X5_partition]? = some mD_X5_partition := rfl
abbrev n_X5_bytesOf : Nat := 128
theorem q_X5_bytesOf : mNs[n_X5_bytesOf]? = some mD_X5_bytesOf := rfl
abbrev n_X5_seenOf : Nat := 129
theorem q_X5_seenOf : mNs[n_X5_seenOf]? = some mD_X5_seenOf := rfl
abbrev n_X5_entry : Nat := 130
theorem q_X5_entry : mNs[n_X5_entry]? = some mD_X5_entry := rfl
abbrev n_X5_producer : Nat := 131
theorem q_X5_producer : mNs[n_X5_producer]? = some mD_X5_producer := rfl
abbrev n_X5_next : Nat := 132
theorem q_X5_next : mNs[n_X5_next]? = some mD_X5_next := rfl
abbrev n_X5_byteIn : Nat := 133
theorem q_X5_byteIn : mNs[n_X5_byteIn]? = some mD_X5_byteIn := rfl
abbrev n_X5_behind : Nat := 134
theorem q_X5_behind : mNs[n_X5_behind]? = some mD_X5_behind := rfl
abbrev n_X5_byteAt : Nat := 135
theorem q_X5_byteAt : mNs[n_X5_byteAt]? = some mD_X5_byteAt := rfl
abbrev n_X5_byteOf : Nat := 136
theorem q_X5_byteOf : mNs[n_X5_byteOf]? = some mD_X5_byteOf := rfl
abbrev n_X5_count : Nat := 137
theorem q_X5_count : mNs[n_X5_count]? = some mD_X5_count := rfl
abbrev n_J7_fill_53178 : Nat := 138
theorem q_J7_fill_53178 : mNs[n_J7_fill_53178]? = some mD_J7_fill_53178 := rfl
end
section
/-! RULES, AN INSTRUCTION EACH -/
/-- from this frame the method comes to an end of which P holds -/
def gs (S : ix_S) (d : Nat) (q : ix_M) (f : ix_F) (P : ix_O → Prop) : Prop := ∃ o, ix_G S d q f o ∧ P o
/-- the call comes to an end of which P holds -/
def ev (d y : Nat) (as : List Value) (h : ix_H) (P : ix_O → Prop) : Prop := ∃ o, ix_Ev d y as h o ∧ P o
section GS
variable {S : ix_S} {d : Nat} {q : ix_M} {P : ix_O → Prop} {pc pc' n idx : Nat} {ls ls' : ix_L} {st st' r : List Value} {h h' : ix_H} {i : Instr} {a : Nat}
theorem gs_step {f g : ix_F} (hs : ix_step S q f = some (.inl g)) (k : gs S d q g P) : gs S d q f P := by
  obtain ⟨o, ⟨n, hn⟩, hP⟩ := k
  refine ⟨o, ⟨n + 1, ?_⟩, hP⟩
  unfold ix_run
  rw [hs]
  exact hn
theorem gs_post {f : ix_F} {P' : ix_O → Prop} (k : gs S d q f P') (hp : ∀ o, P' o → P o) : gs S d q f P := by
  obtain ⟨o, ho, hP⟩ := k
  exact ⟨o, ho, hp o hP⟩
theorem ev_post {y : Nat} {as : List Value} {h : ix_H} {P' : ix_O → Prop} (k : ev d y as h P') (hp : ∀ o, P' o → P o) : ev d y as h P := by
  obtain ⟨o, ho, hP⟩ := k
  exact ⟨o, ho, hp o hP⟩
theorem gs_at (hat : ix_at q.2.2.2.2.2.2.2.1 pc = some (i, n)) (hx : ix_exec S q i pc ls st h = some (.inl (pc', ls', st', h'))) (k : gs S d q (pc', ls', st', h') P) : gs S d q (pc, ls, st, h) P := by
  refine gs_step ?_ k
  unfold ix_step
  simp only [hat]
  exact hx
/-- locals, stack and arithmetic -/
theorem gs_n (pc' : Nat) (hat : ix_at q.2.2.2.2.2.2.2.1 pc = some (i, n)) (hx : ix_exec S q i pc ls st h = some (.inl (pc', ls', st', h'))) (k : gs S d q (pc', ls', st', h') P) : gs S d q (pc, ls, st, h) P := gs_at hat hx k
def ix_kv : Instr → Option Int32
  | .iconst n => some (Int32.ofInt n) | .bipush n => some (Int8.ofInt n).toInt32 | .sipush n => some (Int16.ofInt n).toInt32 | _ => none
/-- a constant, as one wants to read it -/
theorem gs_k (v : Int32) (pc' : Nat) (hat : ix_at q.2.2.2.2.2.2.2.1 pc = some (i, n)) (hv : ix_kv i = some v) (hp : pc + ix_len i = pc') (k : gs S d q (pc', ls, .int v :: st, h) P) : gs S d q (pc, ls, st, h) P := by
  subst hp
  unfold ix_kv at hv
  split at hv
  all_goals first | (cases hv; done) | (cases hv; exact gs_at hat rfl k)
theorem gs_inc (j : Nat) (pc' : Nat) {k : Nat} (hat : ix_at q.2.2.2.2.2.2.2.1 pc = some (.iinc k 1, n)) (hg : ix_get ls k = some (.int (nI j))) (hk : k < q.2.2.2.1) (hp : pc + 3 = pc') (kk : gs S d q (pc', ix_put1 ls k (.int (nI (j + 1))), st, h) P) : gs S d q (pc, ls, st, h) P := by
  subst hp
  refine gs_at hat ?_ kk
  simp only [ix_exec, hg, hk, if_true]
  rw [show nI j + Int32.ofInt 1 = nI (j + 1) from nI_1 j]
/-- the top of the stack, said otherwise -/
theorem gs_top {x : Int32} (y : Int32) (hy : x = y) (k : gs S d q (pc, ls, .int y :: st, h) P) : gs S d q (pc, ls, .int x :: st, h) P := hy ▸ k
/-- fewer locals -/
theorem gs_w (ls : ix_L) (hn : ix_nd ls) (hle : ∀ x ∈ ls, ix_get ls' x.1 = some x.2) (k : gs S d q (pc, ls, st, h) P) : gs S d q (pc, ls', st, h) P := by
  obtain ⟨o, ⟨m, hm⟩, hP⟩ := k
  exact ⟨o, ⟨m, ix_run_le m pc ls ls' st h ⟨hn, fun i v hv => hle (i, v) (ix_get_mem hv)⟩ hm⟩, hP⟩
theorem gs_ret {f : ix_F} {o : ix_O} (hs : ix_step S q f = some (.inr (.inl o))) (hP : P o) : gs S d q f P := ⟨o, ⟨1, by unfold ix_run; rw [hs]⟩, hP⟩
theorem gs_iret {v : Int32} {ty : FieldType} (hat : ix_at q.2.2.2.2.2.2.2.1 pc = some (.ireturn, n)) (hr : q.2.2.2.2.1 = some ty) (hok : ix_ok ty (.int v) = true) (hP : P (some (.int v), h)) : gs S d q (pc, ls, [.int v], h) P := by
  refine gs_ret ?_ hP
  unfold ix_step
  simp only [hat, ix_exec, hr, hok, if_true]
theorem gs_vret (hat : ix_at q.2.2.2.2.2.2.2.1 pc = some (.return_, n)) (hr : q.2.2.2.2.1 = none) (hP : P (none, h)) : gs S d q (pc, ls, [], h) P := by
  refine gs_ret ?_ hP
  unfold ix_step
  simp only [hat, ix_exec, hr]
theorem gs_aret {C : String} (hat : ix_at q.2.2.2.2.2.2.2.1 pc = some (.areturn, n)) (hr : q.2.2.2.2.1 = some (.object C)) (hP : P (some (.ref a), h)) : gs S d q (pc, ls, [.ref a], h) P := by
  refine gs_ret ?_ hP
  unfold ix_step
  simp only [hat, ix_exec, hr]
def ix_P (c : ClassFile.Cond) (x y : Int32) : Prop := match c with
  | .eq => x = y | .ne => ¬ x = y | .lt => x < y | .ge => y ≤ x | .gt => y < x | .le => x ≤ y
theorem ix_cmp_iff (c : ClassFile.Cond) (x y : Int32) : ix_cmp c x y = true ↔ ix_P c x y := by
  cases c <;> simp [ix_cmp, ix_P]
theorem gs_br {b : Bool} {t : Nat} (hs : ix_step S q (pc, ls, st, h) = some (.inl (if b then t else pc', ls', st', h'))) (kt : b = true → gs S d q (t, ls', st', h') P) (kf : b = false → gs S d q (pc', ls', st', h') P) : gs S d q (pc, ls, st, h) P := by
  refine gs_step hs ?_
  cases b
  · exact kf rfl
  · exact kt rfl
theorem gs_if {c : ClassFile.Cond} {off : Int} {x : Int32} (t pc' : Nat) (hat : ix_at q.2.2.2.2.2.2.2.1 pc = some (.ifCond c off, n)) (hj : ix_jmp pc off = some t) (hp : pc + 3 = pc') (kt : ix_P c x 0 → gs S d q (t, ls, r, h) P) (kf : ¬ ix_P c x 0 → gs S d q (pc', ls, r, h) P) : gs S d q (pc, ls, .int x :: r, h) P := by
  subst hp
  refine gs_br (b := ix_cmp c x 0) (t := t) (pc' := pc + 3) (ls' := ls) (st' := r) (h' := h) ?_ (fun z => kt ((ix_cmp_iff c x 0).mp z)) (fun z => kf (fun w => by rw [(ix_cmp_iff c x 0).mpr w] at z; cases z))
  unfold ix_step
  simp only [hat, ix_exec, ix_br, hj]
theorem gs_ic {c : ClassFile.Cond} {off : Int} {x y : Int32} (t pc' : Nat) (hat : ix_at q.2.2.2.2.2.2.2.1 pc = some (.if_icmp c off, n)) (hj : ix_jmp pc off = some t) (hp : pc + 3 = pc') (kt : ix_P c x y → gs S d q (t, ls, r, h) P) (kf : ¬ ix_P c x y → gs S d q (pc', ls, r, h) P) : gs S d q (pc, ls, .int y :: .int x :: r, h) P := by
  subst hp
  refine gs_br (b := ix_cmp c x y) (t := t) (pc' := pc + 3) (ls' := ls) (st' := r) (h' := h) ?_ (fun z => kt ((ix_cmp_iff c x y).mp z)) (fun z => kf (fun w => by rw [(ix_cmp_iff c x y).mpr w] at z; cases z))
  unfold ix_step
  simp only [hat, ix_exec, ix_br, hj]
theorem gs_get {nest ci k i0 : Nat} {fs : List Value} {v : Value} (pc' : Nat) (hat : ix_at q.2.2.2.2.2.2.2.1 pc = some (.getfield idx, n)) (hf : ix_fld q.1 idx = some (nest, ci, k, i0)) (hc : h.2.2 a = .inr (ci, fs)) (hv : fs[k]? = some v) (hp : pc + 3 = pc') (kk : gs S d q (pc', ls, v :: r, h) P) : gs S d q (pc, ls, .ref a :: r, h) P := by
  subst hp
  refine gs_at hat ?_ kk
  simp only [ix_exec, ix_gf, hc, hf, if_true, hv]
theorem gs_put {nest ci k i0 : Nat} {fs : List Value} {v : Value} (pc' : Nat) (fs' : List Value) (hat : ix_at q.2.2.2.2.2.2.2.1 pc = some (.putfield idx, n)) (hf : ix_fld q.1 idx = some (nest, ci, k, i0)) (hc : h.2.2 a = .inr (ci, fs)) (hk : k < fs.length) (hok : ix_ok (ix_ty ci k) v = true) (hfin : (ix_TT ci k).2.2.2 = true → q.2.2.2.2.2.2.1 = 2 ∧ q.1 = ci ∧ nest = 0) (hs : fs.set k v = fs') (hp : pc + 3 = pc') (kk : gs S d q (pc', ls, r, ix_set h a (.inr (ci, fs'))) P) : gs S d q (pc, ls, v :: .ref a :: r, h) P := by
  subst hp
  subst hs
  refine gs_at hat ?_ kk
  simp only [ix_exec, ix_pf, hc, hf]
  rw [if_pos ⟨trivial, hk, hok, hfin⟩]
theorem ix_bad {x : Int32} {j m : Nat} (hi : x = nI j) (hj : j < m) (hm : m < 2 ^ 31) : ¬ (x < 0 ∨ m ≤ x.toNatClampNeg) := by
  subst hi
  exact nI_in hj hm
theorem gs_ia {x : Int32} {m : Nat} {f : Nat → Int32} (j : Nat) (pc' : Nat) (hat : ix_at q.2.2.2.2.2.2.2.1 pc = some (.iaload, n)) (hc : h.2.2 a = .inl (.int, m, .inl f)) (hi : x = nI j) (hj : j < m) (hm : m < 2 ^ 31) (hp : pc + 1 = pc') (kk : gs S d q (pc', ls, .int (f j) :: r, h) P) : gs S d q (pc, ls, .int x :: .ref a :: r, h) P := by
  subst hp
  refine gs_at hat ?_ kk
  have h1 := ix_bad hi hj hm
  subst hi
  simp only [ix_exec, ix_ia, hc, h1, if_false]
  rw [nI_clamp (by omega)]
theorem gs_ba {x : Int32} {m : Nat} {f : Nat → Int32} (j : Nat) (pc' : Nat) (hat : ix_at q.2.2.2.2.2.2.2.1 pc = some (.baload, n)) (hc : h.2.2 a = .inl (.byte, m, .inl f)) (hi : x = nI j) (hj : j < m) (hm : m < 2 ^ 31) (hp : pc + 1 = pc') (kk : gs S d q (pc', ls, .int (f j) :: r, h) P) : gs S d q (pc, ls, .int x :: .ref a :: r, h) P := by
  subst hp
  refine gs_at hat ?_ kk
  have h1 := ix_bad hi hj hm
  subst hi
  simp only [ix_exec, ix_ba, hc, h1, if_false]
  rw [nI_clamp (by omega)]
theorem gs_za {x : Int32} {m : Nat} {f : Nat → Int32} (j : Nat) (pc' : Nat) (hat : ix_at q.2.2.2.2.2.2.2.1 pc = some (.baload, n)) (hc : h.2.2 a = .inl (.boolean, m, .inl f)) (hi : x = nI j) (hj : j < m) (hm : m < 2 ^ 31) (hp : pc + 1 = pc') (kk : gs S d q (pc', ls, .int (f j) :: r, h) P) : gs S d q (pc, ls, .int x :: .ref a :: r, h) P := by
  subst hp
  refine gs_at hat ?_ kk
  have h1 := ix_bad hi hj hm
  subst hi
  simp only [ix_exec, ix_ba, hc, h1, if_false]
  rw [nI_clamp (by omega)]
theorem gs_aa {x : Int32} {m : Nat} {C : String} {f : Nat → Option Nat} (j : Nat) (y : Nat) (pc' : Nat) (hat : ix_at q.2.2.2.2.2.2.2.1 pc = some (.aaload, n)) (hc : h.2.2 a = .inl (.object C, m, .inr (.inr (.inr (.inr f))))) (hi : x = nI j) (hj : j < m) (hm : m < 2 ^ 31) (hC : C = RX1 ∨ C = RX2) (hy : f j = some y) (hp : pc + 1 = pc') (kk : gs S d q (pc', ls, .ref y :: r, h) P) : gs S d q (pc, ls, .int x :: .ref a :: r, h) P := by
  subst hp
  refine gs_at hat ?_ kk
  have h1 := ix_bad hi hj hm
  subst hi
  have h2 : ¬ (nI j < 0 ∨ m ≤ (nI j).toNatClampNeg ∨ ¬ (C = RX1 ∨ C = RX2)) := fun z => z.elim (fun z => h1 (Or.inl z)) (fun z => z.elim (fun z => h1 (Or.inr z)) (fun z => z hC))
  simp only [ix_exec, ix_aa, hc, h2, if_false]
  rw [nI_clamp (by omega), hy]
theorem gs_is {x v : Int32} {m : Nat} {f : Nat → Int32} (j : Nat) (pc' : Nat) (hat : ix_at q.2.2.2.2.2.2.2.1 pc = some (.iastore, n)) (hc : h.2.2 a = .inl (.int, m, .inl f)) (hi : x = nI j) (hj : j < m) (hm : m < 2 ^ 31) (hp : pc + 1 = pc') (kk : gs S d q (pc', ls, r, ix_set h a (.inl (.int, m, .inl (upd f j v)))) P) : gs S d q (pc, ls, .int v :: .int x :: .ref a :: r, h) P := by
  subst hp
  refine gs_at hat ?_ kk
  have h1 := ix_bad hi hj hm
  subst hi
  simp only [ix_exec, ix_is, hc, h1, if_false]
  rw [nI_clamp (by omega)]
theorem gs_bs {x v : Int32} {m : Nat} {f : Nat → Int32} (j : Nat) (pc' : Nat) (hat : ix_at q.2.2.2.2.2.2.2.1 pc = some (.bastore, n)) (hc : h.2.2 a = .inl (.byte, m, .inl f)) (hi : x = nI j) (hj : j < m) (hm : m < 2 ^ 31) (hp : pc + 1 = pc') (kk : gs S d q (pc', ls, r, ix_set h a (.inl (.byte, m, .inl (upd f j v.toInt8.toInt32)))) P) : gs S d q (pc, ls, .int v :: .int x :: .ref a :: r, h) P := by
  subst hp
  refine gs_at hat ?_ kk
  have h1 := ix_bad hi hj hm
  subst hi
  simp only [ix_exec, ix_bs, hc, h1, if_false]
  rw [nI_clamp (by omega)]
theorem gs_zs {x v : Int32} {m : Nat} {f : Nat → Int32} (j : Nat) (pc' : Nat) (hat : ix_at q.2.2.2.2.2.2.2.1 pc = some (.bastore, n)) (hc : h.2.2 a = .inl (.boolean, m, .inl f)) (hi : x = nI j) (hj : j < m) (hm : m < 2 ^ 31) (hp : pc + 1 = pc') (kk : gs S d q (pc', ls, r, ix_set h a (.inl (.boolean, m, .inl (upd f j (v &&& 1))))) P) : gs S d q (pc, ls, .int v :: .int x :: .ref a :: r, h) P := by
  subst hp
  refine gs_at hat ?_ kk
  have h1 := ix_bad hi hj hm
  subst hi
  simp only [ix_exec, ix_bs, hc, h1, if_false]
  rw [nI_clamp (by omega)]
theorem gs_al {m : Nat} {f : Nat → Int32} {ty : FieldType} (pc' : Nat) (hat : ix_at q.2.2.2.2.2.2.2.1 pc = some (.arraylength, n)) (hc : h.2.2 a = .inl (ty, m, .inl f)) (ht : ty = .int ∨ ty = .byte ∨ ty = .boolean) (hp : pc + 1 = pc') (kk : gs S d q (pc', ls, .int (nI m) :: r, h) P) : gs S d q (pc, ls, .ref a :: r, h) P := by
  subst hp
  refine gs_at hat ?_ kk
  rcases ht with rfl | rfl | rfl <;> simp only [ix_exec, ix_al, hc] <;> rfl
theorem gs_call {f g : ix_F} {y : Nat} {as : List Value} {v : Option Value} {h' : ix_H} (hs : ix_step S q f = some (.inr (.inr (y, as, g)))) (ev : ix_Ev d y as g.2.2.2 (v, h')) (k : gs S d q (g.1, g.2.1, v.toList ++ g.2.2.1, h') P) : gs S d q f P := by
  obtain ⟨o, ⟨n, hn⟩, hP⟩ := k
  refine ⟨o, ⟨n + 1, ?_⟩, hP⟩
  unfold ix_run
  rw [hs]
  exact ⟨v, h', ev, hn⟩
theorem gs_cv {Pc : ix_O → Prop} {y i0 : Nat} {qq : ix_M} {As : List Value} {fs : List Value} (pc' : Nat) (hat : ix_at q.2.2.2.2.2.2.2.1 pc = some (.invokevirtual idx, n)) (hm : ix_mth q.1 idx = some (0, y, i0)) (hq : mNs[y]? = some qq) (sp : ev d y (.ref a :: As) h Pc) (hst : st = As.reverse ++ .ref a :: r) (hk : qq.2.2.2.2.2.2.1 = 0) (hlen : As.length = qq.2.2.2.2.2.1) (hsum : (r.map fun v => v.category).sum ≤ 8) (hc : h.2.2 a = .inr (qq.1, fs)) (hp : pc + 3 = pc') (kk : ∀ (v : Option Value) (h' : ix_H), Pc (v, h') → gs S d q (pc', ls, v.toList ++ r, h') P) : gs S d q (pc, ls, st, h) P := by
  subst hp
  subst hst
  obtain ⟨⟨v, h'⟩, ho, hPc⟩ := sp
  refine gs_call (g := (pc + 3, ls, r, h)) (y := y) (as := .ref a :: As) ?_ ho (kk _ _ hPc)
  unfold ix_step
  have h1 : (As.reverse ++ Value.ref a :: r).take (As.length + 1) = As.reverse ++ [Value.ref a] := by
    rw [show As.reverse ++ Value.ref a :: r = (As.reverse ++ [Value.ref a]) ++ r by simp, List.take_append_of_le_length (by simp)]
    exact List.take_of_length_le (by simp)
  have h2 : (As.reverse ++ Value.ref a :: r).drop (As.length + 1) = r := by
    rw [show As.reverse ++ Value.ref a :: r = (As.reverse ++ [Value.ref a]) ++ r by simp, List.drop_append_of_le_length (by simp), List.drop_of_length_le (by simp)]
    rfl
  simp only [hat, ix_exec, ix_call, hm, hq, ← hlen]
  simp only [show ¬ ((0 : Nat) = 2) by decide, show ¬ ((0 : Nat) = 3) by decide, show ¬ ((0 : Nat) = 4) by decide, show ¬ ((0 : Nat) = 1) by decide, if_false, h1, h2]
  rw [if_pos]
  · simp
  · refine ⟨hk, by simp, hsum, fun z => absurd z (by decide), Or.inl trivial, Or.inr ?_⟩
    simp [ix_rcv, hc]
theorem gs_cs {Pc : ix_O → Prop} {y i0 : Nat} {qq : ix_M} {As : List Value} (pc' : Nat) (hat : ix_at q.2.2.2.2.2.2.2.1 pc = some (.invokestatic idx, n)) (hm : ix_mth q.1 idx = some (0, y, i0)) (hq : mNs[y]? = some qq) (sp : ev d y As h Pc) (hst : st = As.reverse ++ r) (hk : qq.2.2.2.2.2.2.1 = 1) (hlen : As.length = qq.2.2.2.2.2.1) (hsum : (r.map fun v => v.category).sum ≤ 8) (hp : pc + 3 = pc') (kk : ∀ (v : Option Value) (h' : ix_H), Pc (v, h') → gs S d q (pc', ls, v.toList ++ r, h') P) : gs S d q (pc, ls, st, h) P := by
  subst hp
  subst hst
  obtain ⟨⟨v, h'⟩, ho, hPc⟩ := sp
  refine gs_call (g := (pc + 3, ls, r, h)) (y := y) (as := As) ?_ ho (kk _ _ hPc)
  unfold ix_step
  have h1 : (As.reverse ++ r).take As.length = As.reverse := by
    rw [List.take_append_of_le_length (by simp)]
    exact List.take_of_length_le (by simp)
  have h2 : (As.reverse ++ r).drop As.length = r := by
    rw [List.drop_append_of_le_length (by simp), List.drop_of_length_le (by simp)]
    rfl
  simp only [hat, ix_exec, ix_call, hm, hq, ← hlen]
  simp only [show ¬ ((0 : Nat) = 2) by decide, show ¬ ((0 : Nat) = 3) by decide, show ¬ ((0 : Nat) = 4) by decide, if_true, if_false, Nat.add_zero, h1, h2]
  rw [if_pos]
  · simp
  · exact ⟨hk, by simp, hsum, fun z => absurd z (by decide), Or.inl trivial, Or.inl trivial⟩
theorem gs_ci {Pc : ix_O → Prop} {y i0 nest : Nat} {qq : ix_M} {As : List Value} {fs : List Value} (pc' : Nat) (hat : ix_at q.2.2.2.2.2.2.2.1 pc = some (.invokespecial idx, n)) (hm : ix_mth q.1 idx = some (nest, y, i0)) (hnest : nest = 0 ∨ nest = 1) (hq : mNs[y]? = some qq) (sp : ev d y (.ref a :: As) h Pc) (hst : st = As.reverse ++ .ref a :: r) (hk : qq.2.2.2.2.2.2.1 = 2) (hlen : As.length = qq.2.2.2.2.2.1) (hsum : (r.map fun v => v.category).sum ≤ 8) (hc : h.2.2 a = .inr (qq.1, fs)) (hp : pc + 3 = pc') (kk : ∀ (v : Option Value) (h' : ix_H), Pc (v, h') → gs S d q (pc', ls, v.toList ++ r, h') P) : gs S d q (pc, ls, st, h) P := by
  subst hp
  subst hst
  obtain ⟨⟨v, h'⟩, ho, hPc⟩ := sp
  refine gs_call (g := (pc + 3, ls, r, h)) (y := y) (as := .ref a :: As) ?_ ho (kk _ _ hPc)
  unfold ix_step
  have h1 : (As.reverse ++ Value.ref a :: r).take (As.length + 1) = As.reverse ++ [Value.ref a] := by
    rw [show As.reverse ++ Value.ref a :: r = (As.reverse ++ [Value.ref a]) ++ r by simp, List.take_append_of_le_length (by simp)]
    exact List.take_of_length_le (by simp)
  have h2 : (As.reverse ++ Value.ref a :: r).drop (As.length + 1) = r := by
    rw [show As.reverse ++ Value.ref a :: r = (As.reverse ++ [Value.ref a]) ++ r by simp, List.drop_append_of_le_length (by simp), List.drop_of_length_le (by simp)]
    rfl
  simp only [hat, ix_exec, ix_call, hm, hq, ← hlen]
  rw [if_neg (by omega), if_neg (by omega), if_neg (by omega)]
  simp only [show ¬ ((2 : Nat) = 1) by decide, if_false, h1, h2]
  rw [if_pos]
  · simp
  · refine ⟨hk, by simp, hsum, fun _ => trivial, hnest, Or.inr ?_⟩
    simp [ix_rcv, hc]
theorem ev_of {y : Nat} {as : List Value} (hq : mNs[y]? = some q) (hlen : (lg_sl as).length ≤ q.2.2.2.1) (k : gs none d q (0, lv_args 0 as, [], h) P) : ev (d + 1) y as h P := by
  obtain ⟨o, ⟨n, hn⟩, hP⟩ := k
  exact ⟨o, ⟨q, n, hq, hlen, hn⟩, hP⟩
end GS
end
section
/-! ByteRow -/
theorem hs_same (h : ix_H) (a : Nat) (x : ix_E) : (ix_set h a x).2.2 a = x := by simp [ix_set, va_up]
theorem hs_ne (h : ix_H) {a b : Nat} (x : ix_E) (hb : ¬ b = a) : (ix_set h a x).2.2 b = h.2.2 b := by simp [ix_set, va_up, hb]
/-- nothing but these cells has changed -/
def Fr (L : List Nat) (h h' : ix_H) : Prop := h'.1 = h.1 ∧ h'.2.1 = h.2.1 ∧ ∀ k, k ∉ L → h'.2.2 k = h.2.2 k
theorem Fr.rf (L : List Nat) (h : ix_H) : Fr L h h := ⟨rfl, rfl, fun _ _ => rfl⟩
theorem Fr.trans {L : List Nat} {h h' h'' : ix_H} (a : Fr L h h') (b : Fr L h' h'') : Fr L h h'' := ⟨b.1.trans a.1, b.2.1.trans a.2.1, fun k hk => (b.2.2 k hk).trans (a.2.2 k hk)⟩
theorem Fr.mono {L M : List Nat} {h h' : ix_H} (a : Fr L h h') (hs : ∀ k, k ∈ L → k ∈ M) : Fr M h h' := ⟨a.1, a.2.1, fun k hk => a.2.2 k (fun z => hk (hs k z))⟩
theorem Fr.set {L : List Nat} {h : ix_H} {a : Nat} (x : ix_E) (ha : a ∈ L) : Fr L h (ix_set h a x) := ⟨rfl, rfl, fun k hk => hs_ne h x (fun z => hk (z ▸ ha))⟩
/-- a byte as an array holds it -/
def sg (b : Nat) : Int32 := (nI b).toInt8.toInt32
/-- a row of bytes: object r, array a, room N -/
def RowAt (h : ix_H) (r a N : Nat) (bs : List Nat) : Prop := h.2.2 r = .inr (0, [.ref a, .int (nI bs.length)]) ∧ (∃ f, h.2.2 a = .inl (.byte, N, .inl f) ∧ ∀ i, i < bs.length → f i = sg (bs.getD i 0)) ∧ bs.length ≤ N ∧ N < 2 ^ 30 ∧ ∀ b ∈ bs, b < 256
theorem sg_and {b : Nat} (hb : b < 256) : sg b &&& nI 255 = nI b := by
  have : ∀ b, b < 256 → sg b &&& nI 255 = nI b := by decide +kernel
  exact this b hb
theorem e_clear {d : Nat} {h : ix_H} {r a N : Nat} {bs : List Nat} (hr : RowAt h r a N bs) : ev (d + 1) n_X0_clear [.ref r] h (fun o => o.1 = none ∧ Fr [r, a] h o.2 ∧ RowAt o.2 r a N []) := by
  obtain ⟨h1, ⟨f, h2, h3⟩, h4, h5, h6⟩ := hr
  have hra : ¬ a = r := fun z => by rw [z, h1] at h2; cases h2
  refine ev_of q_X0_clear (Nat.le_of_ble_eq_true rfl) ?_
  refine gs_n 1 a_X0_clear_0 rfl ?_
  refine gs_k (nI 0) 2 a_X0_clear_1 (by decide +kernel) rfl ?_
  refine gs_put 5 _ a_X0_clear_2 f_0_21 (by first | assumption | (simp [hs_same, hs_ne, *]; done)) (Nat.le_of_ble_eq_true rfl) rfl (fun z => absurd z (by decide)) rfl rfl ?_
  refine gs_vret a_X0_clear_5 rfl ?_
  refine ⟨rfl, Fr.set _ (by simp), ⟨?_, ⟨f, ?_, ?_⟩, ?_, h5, ?_⟩⟩
  · rw [hs_same]; rfl
  · rw [hs_ne _ _ hra]; exact h2
  · intro i hi; simp at hi
  · simp
  · simp
end
section
/-! NUMBERS AND BYTES -/
theorem nI_bv (n : Nat) : (nI n).toBitVec = BitVec.ofNat 32 n := rfl
theorem i32_ext {x y : Int32} (h : x.toBitVec = y.toBitVec) : x = y := Int32.toBitVec_inj.mp h
theorem nI_mod (n : Nat) : nI (n % 2 ^ 32) = nI n := by
  apply i32_ext
  rw [nI_bv, nI_bv]
  apply BitVec.eq_of_toNat_eq
  simp
theorem nI_toNat (x : Int32) : nI x.toBitVec.toNat = x := by
  apply i32_ext
  rw [nI_bv]
  apply BitVec.eq_of_toNat_eq
  simp
theorem sg_low (v : Int32) : sg (v.toBitVec.toNat % 256) = v.toInt8.toInt32 := by
  unfold sg
  congr 1
  apply Int8.toBitVec_inj.mp
  apply BitVec.eq_of_toNat_eq
  have h : v.toBitVec.toNat < 2 ^ 32 := v.toBitVec.isLt
  simp [nI, Int32.toBitVec_toInt8]
  rw [BitVec.signExtend_eq_setWidth_of_le _ (by decide)]
  simp
/-- big-endian bytes of an int -/
def be : Nat → Int32 → List Nat
  | 0, _ => []
  | w + 1, v => (v.toBitVec.toNat / 2 ^ (8 * w)) % 256 :: be w v
theorem be_len (w : Nat) (v : Int32) : (be w v).length = w := by
  induction w with
  | zero => rfl
  | succ w ih => simp [be, ih]
theorem be_lt (w : Nat) (v : Int32) : ∀ b ∈ be w v, b < 256 := by
  induction w with
  | zero => intro b h; simp [be] at h
  | succ w ih =>
    intro b h
    rcases List.mem_cons.mp h with rfl | h
    · exact Nat.mod_lt _ (by decide)
    · exact ih b h
/-- the number that bytes spell -/
def beN (l : List Nat) : Nat := l.foldl (fun a b => a * 256 + b) 0
theorem or_byte (a b : Nat) (hb : b < 256) : (nI a <<< (nI 8 &&& 31)) ||| nI b = nI (a * 256 + b) := by
  have h8 : nI 8 &&& 31 = nI 8 := by decide +kernel
  rw [h8]
  apply i32_ext
  have e1 : (nI a <<< nI 8).toBitVec = BitVec.ofNat 32 (a * 256) := by
    apply BitVec.eq_of_toNat_eq
    rw [pk_shl (nI a) (nI 8) 8 (by decide +kernel), nI_bv]
    simp
  rw [Int32.toBitVec_or, e1, nI_bv, nI_bv]
  rw [← BitVec.add_eq_or_of_and_eq_zero]
  · rw [← BitVec.ofNat_add]
  · apply BitVec.eq_of_toNat_eq
    rw [BitVec.toNat_and, BitVec.toNat_ofNat, BitVec.toNat_ofNat, BitVec.toNat_ofNat]
    rw [show b % 2 ^ 32 = b from Nat.mod_eq_of_lt (by omega)]
    apply Nat.eq_of_testBit_eq
    intro i
    rw [Nat.testBit_and]
    by_cases hi : i < 8
    · have : (a * 256 % 2 ^ 32).testBit i = false := by
        rw [Nat.testBit_mod_two_pow, show a * 256 = a <<< 8 by rw [Nat.shiftLeft_eq]]
        rw [Nat.testBit_shiftLeft]
        simp
        omega
      simp [this]
    · have : b.testBit i = false := Nat.testBit_lt_two_pow (Nat.lt_of_lt_of_le hb (by
        have : 2 ^ 8 ≤ 2 ^ i := Nat.pow_le_pow_right (by decide) (by omega)
        simpa using this))
      simp [this]
end
section
/-! ByteRow, the rest -/
def rAt (bs : List Nat) (x : Int32) : Int32 := if 0 ≤ x.toInt ∧ x.toInt < bs.length then nI (bs.getD x.toInt.toNat 0) else -1
theorem lt0_iff (x : Int32) : x < 0 ↔ x.toInt < 0 := by rw [Int32.lt_iff_toInt_lt]; simp
theorem ix_le_nI {x : Int32} {n : Nat} (hn : n < 2 ^ 31) : nI n ≤ x ↔ (n : Int) ≤ x.toInt := by rw [Int32.le_iff_toInt_le, nI_toInt hn]
theorem ix_lt_nI {x : Int32} {n : Nat} (hn : n < 2 ^ 31) : x < nI n ↔ x.toInt < (n : Int) := by rw [Int32.lt_iff_toInt_lt, nI_toInt hn]
theorem nI_ofInt {x : Int32} (h : 0 ≤ x.toInt) : x = nI x.toInt.toNat := by
  apply Int32.toInt_inj.mp
  have h2 := x.toInt_lt
  rw [nI_toInt (by omega)]
  omega
theorem e_at {d : Nat} {h : ix_H} {r a N : Nat} {bs : List Nat} (x : Int32) (hr : RowAt h r a N bs) : ev (d + 1) n_X0_at [.ref r, .int x] h (fun o => o = (some (.int (rAt bs x)), h)) := by
  obtain ⟨h1, ⟨f, h2, h3⟩, h4, h5, h6⟩ := hr
  refine ev_of q_X0_at (Nat.le_of_ble_eq_true rfl) ?_
  refine gs_n 1 a_X0_at_0 rfl ?_
  refine gs_if 25 4 a_X0_at_1 rfl rfl (fun c1 => ?_) (fun c1 => ?_)
  · refine gs_k (-1) 26 a_X0_at_25 (by decide +kernel) rfl ?_
    refine gs_iret a_X0_at_26 rfl rfl ?_
    have c1 : x < 0 := c1
    rw [lt0_iff] at c1
    simp [rAt, show ¬ (0 ≤ x.toInt) by omega]
  · have c1 : ¬ x < 0 := c1
    rw [lt0_iff] at c1
    refine gs_n 5 a_X0_at_4 rfl ?_
    refine gs_n 6 a_X0_at_5 rfl ?_
    refine gs_get 9 a_X0_at_6 f_0_21 (by first | assumption | exact hs_same _ _ _ | exact (hs_ne _ _ (by first | assumption | decide | omega)).trans (by first | assumption | exact hs_same _ _ _ | exact (hs_ne _ _ (by first | assumption | decide | omega)).trans (by first | assumption | exact hs_same _ _ _ | exact (hs_ne _ _ (by first | assumption | decide | omega)).trans (by first | assumption | exact hs_same _ _ _ | exact (hs_ne _ _ (by first | assumption | decide | omega)).trans (by first | assumption | exact hs_same _ _ _))))) rfl rfl ?_
    refine gs_ic 25 12 a_X0_at_9 rfl rfl (fun c2 => ?_) (fun c2 => ?_)
    · refine gs_k (-1) 26 a_X0_at_25 (by decide +kernel) rfl ?_
      refine gs_iret a_X0_at_26 rfl rfl ?_
      have c2 : nI bs.length ≤ x := c2
      rw [ix_le_nI (by omega)] at c2
      simp [rAt, show ¬ (x.toInt < bs.length) by omega]
    · have c2 : ¬ nI bs.length ≤ x := c2
      rw [ix_le_nI (by omega)] at c2
      refine gs_n 13 a_X0_at_12 rfl ?_
      refine gs_get 16 a_X0_at_13 f_0_15 (by first | assumption | exact hs_same _ _ _ | exact (hs_ne _ _ (by first | assumption | decide | omega)).trans (by first | assumption | exact hs_same _ _ _ | exact (hs_ne _ _ (by first | assumption | decide | omega)).trans (by first | assumption | exact hs_same _ _ _ | exact (hs_ne _ _ (by first | assumption | decide | omega)).trans (by first | assumption | exact hs_same _ _ _ | exact (hs_ne _ _ (by first | assumption | decide | omega)).trans (by first | assumption | exact hs_same _ _ _))))) rfl rfl ?_
      refine gs_n 17 a_X0_at_16 rfl ?_
      refine gs_ba x.toInt.toNat 18 a_X0_at_17 (by first | assumption | exact hs_same _ _ _ | exact (hs_ne _ _ (by first | assumption | decide | omega)).trans (by first | assumption | exact hs_same _ _ _ | exact (hs_ne _ _ (by first | assumption | decide | omega)).trans (by first | assumption | exact hs_same _ _ _ | exact (hs_ne _ _ (by first | assumption | decide | omega)).trans (by first | assumption | exact hs_same _ _ _ | exact (hs_ne _ _ (by first | assumption | decide | omega)).trans (by first | assumption | exact hs_same _ _ _))))) (nI_ofInt (by omega)) (by omega) (by omega) rfl ?_
      refine gs_k (nI 255) 21 a_X0_at_18 (by decide +kernel) rfl ?_
      refine gs_n 22 a_X0_at_21 rfl ?_
      refine gs_n 26 a_X0_at_22 rfl ?_
      rw [h3 _ (by omega)]
      have hb : bs.getD x.toInt.toNat 0 < 256 := by
        have hl : x.toInt.toNat < bs.length := by omega
        simp only [List.getD, List.getElem?_eq_getElem hl, Option.getD_some]
        exact h6 _ (List.getElem_mem _)
      refine gs_top (nI (bs.getD x.toInt.toNat 0)) (sg_and hb) ?_
      refine gs_iret a_X0_at_26 rfl rfl ?_
      simp [rAt, show 0 ≤ x.toInt by omega, show x.toInt < bs.length by omega]
theorem e_add {d : Nat} {h : ix_H} {r a N : Nat} {bs : List Nat} (v : Int32) (hr : RowAt h r a N bs) (hN : bs.length < N) : ev (d + 1) n_X0_add [.ref r, .int v] h (fun o => o.1 = none ∧ Fr [r, a] h o.2 ∧ RowAt o.2 r a N (bs ++ [v.toBitVec.toNat % 256])) := by
  obtain ⟨h1, ⟨f, h2, h3⟩, h4, h5, h6⟩ := hr
  have hra : ¬ a = r := fun z => by rw [z, h1] at h2; cases h2
  have har : ¬ r = a := fun z => hra z.symm
  refine ev_of q_X0_add (Nat.le_of_ble_eq_true rfl) ?_
  refine gs_n 1 a_X0_add_0 rfl ?_
  refine gs_get 4 a_X0_add_1 f_0_21 (by first | assumption | exact hs_same _ _ _ | exact (hs_ne _ _ (by first | assumption | decide | omega)).trans (by first | assumption | exact hs_same _ _ _ | exact (hs_ne _ _ (by first | assumption | decide | omega)).trans (by first | assumption | exact hs_same _ _ _ | exact (hs_ne _ _ (by first | assumption | decide | omega)).trans (by first | assumption | exact hs_same _ _ _ | exact (hs_ne _ _ (by first | assumption | decide | omega)).trans (by first | assumption | exact hs_same _ _ _))))) rfl rfl ?_
  refine gs_n 5 a_X0_add_4 rfl ?_
  refine gs_get 8 a_X0_add_5 f_0_15 (by first | assumption | exact hs_same _ _ _ | exact (hs_ne _ _ (by first | assumption | decide | omega)).trans (by first | assumption | exact hs_same _ _ _ | exact (hs_ne _ _ (by first | assumption | decide | omega)).trans (by first | assumption | exact hs_same _ _ _ | exact (hs_ne _ _ (by first | assumption | decide | omega)).trans (by first | assumption | exact hs_same _ _ _ | exact (hs_ne _ _ (by first | assumption | decide | omega)).trans (by first | assumption | exact hs_same _ _ _))))) rfl rfl ?_
  refine gs_al 9 a_X0_add_8 (by first | assumption | exact hs_same _ _ _ | exact (hs_ne _ _ (by first | assumption | decide | omega)).trans (by first | assumption | exact hs_same _ _ _ | exact (hs_ne _ _ (by first | assumption | decide | omega)).trans (by first | assumption | exact hs_same _ _ _ | exact (hs_ne _ _ (by first | assumption | decide | omega)).trans (by first | assumption | exact hs_same _ _ _ | exact (hs_ne _ _ (by first | assumption | decide | omega)).trans (by first | assumption | exact hs_same _ _ _))))) (by simp) rfl ?_
  refine gs_ic 33 12 a_X0_add_9 rfl rfl (fun c1 => ?_) (fun c1 => ?_)
  · have c1 : nI N ≤ nI bs.length := c1
    rw [nI_leI (by omega) (by omega)] at c1
    omega
  · refine gs_n 13 a_X0_add_12 rfl ?_
    refine gs_get 16 a_X0_add_13 f_0_15 (by first | assumption | exact hs_same _ _ _ | exact (hs_ne _ _ (by first | assumption | decide | omega)).trans (by first | assumption | exact hs_same _ _ _ | exact (hs_ne _ _ (by first | assumption | decide | omega)).trans (by first | assumption | exact hs_same _ _ _ | exact (hs_ne _ _ (by first | assumption | decide | omega)).trans (by first | assumption | exact hs_same _ _ _ | exact (hs_ne _ _ (by first | assumption | decide | omega)).trans (by first | assumption | exact hs_same _ _ _))))) rfl rfl ?_
    refine gs_n 17 a_X0_add_16 rfl ?_
    refine gs_get 20 a_X0_add_17 f_0_21 (by first | assumption | exact hs_same _ _ _ | exact (hs_ne _ _ (by first | assumption | decide | omega)).trans (by first | assumption | exact hs_same _ _ _ | exact (hs_ne _ _ (by first | assumption | decide | omega)).trans (by first | assumption | exact hs_same _ _ _ | exact (hs_ne _ _ (by first | assumption | decide | omega)).trans (by first | assumption | exact hs_same _ _ _ | exact (hs_ne _ _ (by first | assumption | decide | omega)).trans (by first | assumption | exact hs_same _ _ _))))) rfl rfl ?_
    refine gs_n 21 a_X0_add_20 rfl ?_
    refine gs_n 22 a_X0_add_21 rfl ?_
    refine gs_bs bs.length 23 a_X0_add_22 (by first | assumption | exact hs_same _ _ _ | exact (hs_ne _ _ (by first | assumption | decide | omega)).trans (by first | assumption | exact hs_same _ _ _ | exact (hs_ne _ _ (by first | assumption | decide | omega)).trans (by first | assumption | exact hs_same _ _ _ | exact (hs_ne _ _ (by first | assumption | decide | omega)).trans (by first | assumption | exact hs_same _ _ _ | exact (hs_ne _ _ (by first | assumption | decide | omega)).trans (by first | assumption | exact hs_same _ _ _))))) rfl hN (by omega) rfl ?_
    refine gs_n 24 a_X0_add_23 rfl ?_
    refine gs_n 25 a_X0_add_24 rfl ?_
    refine gs_get 28 a_X0_add_25 f_0_21 (by first | assumption | exact hs_same _ _ _ | exact (hs_ne _ _ (by first | assumption | decide | omega)).trans (by first | assumption | exact hs_same _ _ _ | exact (hs_ne _ _ (by first | assumption | decide | omega)).trans (by first | assumption | exact hs_same _ _ _ | exact (hs_ne _ _ (by first | assumption | decide | omega)).trans (by first | assumption | exact hs_same _ _ _ | exact (hs_ne _ _ (by first | assumption | decide | omega)).trans (by first | assumption | exact hs_same _ _ _))))) rfl rfl ?_
    refine gs_k (nI 1) 29 a_X0_add_28 (by decide +kernel) rfl ?_
    refine gs_n 30 a_X0_add_29 rfl ?_
    refine gs_put 33 _ a_X0_add_30 f_0_21 (by first | assumption | exact hs_same _ _ _ | exact (hs_ne _ _ (by first | assumption | decide | omega)).trans (by first | assumption | exact hs_same _ _ _ | exact (hs_ne _ _ (by first | assumption | decide | omega)).trans (by first | assumption | exact hs_same _ _ _ | exact (hs_ne _ _ (by first | assumption | decide | omega)).trans (by first | assumption | exact hs_same _ _ _ | exact (hs_ne _ _ (by first | assumption | decide | omega)).trans (by first | assumption | exact hs_same _ _ _))))) (Nat.le_of_ble_eq_true rfl) rfl (fun z => absurd z (by decide)) rfl rfl ?_
    refine gs_vret a_X0_add_33 rfl ?_
    refine ⟨rfl, (Fr.set _ (by simp)).trans (Fr.set _ (by simp)), ⟨?_, ⟨upd f bs.length v.toInt8.toInt32, ?_, ?_⟩, ?_, h5, ?_⟩⟩
    · rw [hs_same, List.length_append]
      show (Sum.inr (0, [Value.ref a, .int (nI bs.length + nI 1)]) : ix_E) = _
      rw [nI_add]
      rfl
    · rw [hs_ne _ _ hra, hs_same]
      have : (v.toInt8.toInt32).toInt8.toInt32 = v.toInt8.toInt32 := by rw [← vp_nar_byte, pk_vb]
      rw [this]
    · intro i hi
      rw [List.length_append] at hi
      by_cases e : i = bs.length
      · subst e
        rw [pk_us]
        simp [sg_low]
      · have hi2 : i < bs.length := by simp at hi; omega
        rw [pk_un e, h3 i hi2]
        simp [List.getD, List.getElem?_append_left hi2]
    · simp; omega
    · intro b hb
      rcases List.mem_append.mp hb with z | z
      · exact h6 b z
      · rw [List.mem_singleton.mp z]; exact Nat.mod_lt _ (by decide)
theorem e_cutTo {d : Nat} {h : ix_H} {r a N : Nat} {bs : List Nat} (m : Nat) (hm : m < 2 ^ 31) (hr : RowAt h r a N bs) : ev (d + 1) n_X0_cutTo [.ref r, .int (nI m)] h (fun o => o.1 = none ∧ Fr [r, a] h o.2 ∧ RowAt o.2 r a N (bs.take m)) := by
  have hr0 := hr
  obtain ⟨h1, ⟨f, h2, h3⟩, h4, h5, h6⟩ := hr
  have hra : ¬ a = r := fun z => by rw [z, h1] at h2; cases h2
  refine ev_of q_X0_cutTo (Nat.le_of_ble_eq_true rfl) ?_
  refine gs_n 1 a_X0_cutTo_0 rfl ?_
  refine gs_if 17 4 a_X0_cutTo_1 rfl rfl (fun c1 => ?_) (fun c1 => ?_)
  · exact absurd c1 (nI_pos hm)
  · refine gs_n 5 a_X0_cutTo_4 rfl ?_
    refine gs_n 6 a_X0_cutTo_5 rfl ?_
    refine gs_get 9 a_X0_cutTo_6 f_0_21 (by first | assumption | exact hs_same _ _ _ | exact (hs_ne _ _ (by first | assumption | decide | omega)).trans (by first | assumption | exact hs_same _ _ _ | exact (hs_ne _ _ (by first | assumption | decide | omega)).trans (by first | assumption | exact hs_same _ _ _ | exact (hs_ne _ _ (by first | assumption | decide | omega)).trans (by first | assumption | exact hs_same _ _ _ | exact (hs_ne _ _ (by first | assumption | decide | omega)).trans (by first | assumption | exact hs_same _ _ _))))) rfl rfl ?_
    refine gs_ic 17 12 a_X0_cutTo_9 rfl rfl (fun c2 => ?_) (fun c2 => ?_)
    · have c2 : nI bs.length ≤ nI m := c2
      rw [nI_leI (by omega) hm] at c2
      refine gs_vret a_X0_cutTo_17 rfl ?_
      refine ⟨rfl, Fr.rf _ _, ?_⟩
      rw [List.take_of_length_le c2]
      exact hr0
    · have c2 : ¬ nI bs.length ≤ nI m := c2
      rw [nI_leI (by omega) hm] at c2
      refine gs_n 13 a_X0_cutTo_12 rfl ?_
      refine gs_n 14 a_X0_cutTo_13 rfl ?_
      refine gs_put 17 _ a_X0_cutTo_14 f_0_21 (by first | assumption | exact hs_same _ _ _ | exact (hs_ne _ _ (by first | assumption | decide | omega)).trans (by first | assumption | exact hs_same _ _ _ | exact (hs_ne _ _ (by first | assumption | decide | omega)).trans (by first | assumption | exact hs_same _ _ _ | exact (hs_ne _ _ (by first | assumption | decide | omega)).trans (by first | assumption | exact hs_same _ _ _ | exact (hs_ne _ _ (by first | assumption | decide | omega)).trans (by first | assumption | exact hs_same _ _ _))))) (Nat.le_of_ble_eq_true rfl) rfl (fun z => absurd z (by decide)) rfl rfl ?_
      refine gs_vret a_X0_cutTo_17 rfl ?_
      refine ⟨rfl, Fr.set _ (by simp), ⟨?_, ⟨f, ?_, ?_⟩, ?_, h5, ?_⟩⟩
      · rw [hs_same, List.length_take, Nat.min_eq_left (by omega)]; rfl
      · rw [hs_ne _ _ hra]; exact h2
      · intro i hi
        rw [List.length_take] at hi
        rw [h3 i (by omega)]
        simp [List.getD, List.getElem?_take, show i < m by omega]
      · rw [List.length_take]; omega
      · intro b hb; exact h6 b (List.mem_of_mem_take hb)
end
section
/-! ByteRow: numbers -/
theorem getD_append_l {l m : List Nat} {i : Nat} (h : i < l.length) : (l ++ m).getD i 0 = l.getD i 0 := by simp [List.getD, List.getElem?_append_left h]
theorem ushr_low (v : Int32) (k : Nat) (hk : k < 4) : (v.toUInt32 >>> ((nI (8 * k)).toUInt32 &&& Int32.toUInt32 31)).toInt32.toBitVec.toNat % 256 = v.toBitVec.toNat / 2 ^ (8 * k) % 256 := by
  rw [pk_ushr v (nI (8 * k)) (8 * k)]
  have : ∀ k, k < 4 → (((nI (8 * k)).toUInt32 &&& Int32.toUInt32 31).toBitVec % 32).toNat = 8 * k := by decide +kernel
  exact this k hk
theorem l_addNumber {d : Nat} {r a N : Nat} {v : Int32} : ∀ (k : Nat) (h : ix_H) (bs : List Nat) (sh : Int32), sh = nI (8 * k) - nI 8 → RowAt h r a N bs → bs.length + k ≤ N → k ≤ 4 →
    gs none (d + 1) mD_X0_addNumber (7, [(3, .int sh), (0, .ref r), (1, .int v)], [], h) (fun o => o.1 = none ∧ Fr [r, a] h o.2 ∧ RowAt o.2 r a N (bs ++ be k v)) := by
  intro k
  induction k with
  | zero =>
    intro h bs sh hsh hr hN hk
    subst hsh
    refine gs_n 8 a_X0_addNumber_7 rfl ?_
    refine gs_if 24 11 a_X0_addNumber_8 rfl rfl (fun c => ?_) (fun c => ?_)
    · refine gs_vret a_X0_addNumber_24 rfl ?_
      refine ⟨rfl, Fr.rf _ _, ?_⟩
      simpa [be] using hr
    · exact absurd (by decide +kernel : nI (8 * 0) - nI 8 < 0) c
  | succ k ih =>
    intro h bs sh hsh hr hN hk
    have hsh : sh = nI (8 * k) := by rw [hsh, pk_sub (by omega)]; congr 1
    subst hsh
    refine gs_n 8 a_X0_addNumber_7 rfl ?_
    refine gs_if 24 11 a_X0_addNumber_8 rfl rfl (fun c => ?_) (fun c => ?_)
    · exact absurd c (nI_pos (by omega))
    · refine gs_n 12 a_X0_addNumber_11 rfl ?_
      refine gs_n 13 a_X0_addNumber_12 rfl ?_
      refine gs_n 14 a_X0_addNumber_13 rfl ?_
      refine gs_n 15 a_X0_addNumber_14 rfl ?_
      have hrc := hr.1
      refine gs_cv 18 a_X0_addNumber_15 k_0_25 q_X0_add (e_add _ hr (by omega)) rfl rfl rfl (by simp [Value.category]) (by first | assumption | exact hs_same _ _ _ | exact (hs_ne _ _ (by first | assumption | decide | omega)).trans (by first | assumption | exact hs_same _ _ _ | exact (hs_ne _ _ (by first | assumption | decide | omega)).trans (by first | assumption | exact hs_same _ _ _ | exact (hs_ne _ _ (by first | assumption | decide | omega)).trans (by first | assumption | exact hs_same _ _ _ | exact (hs_ne _ _ (by first | assumption | decide | omega)).trans (by first | assumption | exact hs_same _ _ _))))) rfl (fun v h1 hp => ?_)
      obtain ⟨e1, hF, hR⟩ := hp
      subst e1
      refine gs_n 21 a_X0_addNumber_18 rfl ?_
      refine gs_n 7 a_X0_addNumber_21 rfl ?_
      refine gs_w [(3, .int (nI (8 * k) + Int32.ofInt (-8))), (0, .ref r), (1, .int v)] (by simp [ix_nd]) (by intro x hx; simp only [List.mem_cons, List.not_mem_nil, or_false] at hx; rcases hx with rfl | rfl | rfl <;> rfl) ?_
      rw [ushr_low v k (by omega)] at hR
      refine gs_post (ih h1 _ _ ?_ hR ?_ (by omega)) ?_
      · have : ∀ k, k < 4 → nI (8 * k) + Int32.ofInt (-8) = nI (8 * k) - nI 8 := by decide +kernel
        exact this k (by omega)
      · rw [List.length_append]; simp; omega
      · rintro o ⟨e1, hF2, hR2⟩
        refine ⟨e1, hF.trans hF2, ?_⟩
        simpa [be] using hR2
theorem e_addNumber {d : Nat} {h : ix_H} {r a N : Nat} {bs : List Nat} (v : Int32) (w : Nat) (hw : w ≤ 4) (hr : RowAt h r a N bs) (hN : bs.length + w ≤ N) : ev (d + 2) n_X0_addNumber [.ref r, .int v, .int (nI w)] h (fun o => o.1 = none ∧ Fr [r, a] h o.2 ∧ RowAt o.2 r a N (bs ++ be w v)) := by
  refine ev_of q_X0_addNumber (Nat.le_of_ble_eq_true rfl) ?_
  refine gs_k (nI 8) 2 a_X0_addNumber_0 (by decide +kernel) rfl ?_
  refine gs_n 3 a_X0_addNumber_2 rfl ?_
  refine gs_k (nI 1) 4 a_X0_addNumber_3 (by decide +kernel) rfl ?_
  refine gs_n 5 a_X0_addNumber_4 rfl ?_
  refine gs_n 6 a_X0_addNumber_5 rfl ?_
  refine gs_n 7 a_X0_addNumber_6 rfl ?_
  refine gs_w [(3, .int (nI 8 * (nI w - nI 1))), (0, .ref r), (1, .int v)] (by simp [ix_nd]) (by intro x hx; simp only [List.mem_cons, List.not_mem_nil, or_false] at hx; rcases hx with rfl | rfl | rfl <;> rfl) ?_
  refine l_addNumber w h bs _ ?_ hr hN hw
  have : ∀ w, w ≤ 4 → nI 8 * (nI w - nI 1) = nI (8 * w) - nI 8 := by decide +kernel
  exact this w hw
theorem beN_snoc (l : List Nat) (b : Nat) : beN (l ++ [b]) = beN l * 256 + b := by simp [beN, List.foldl_append]
theorem take_snoc {l : List Nat} {j : Nat} (h : j < l.length) : l.take (j + 1) = l.take j ++ [l.getD j 0] := by
  rw [List.take_succ]
  simp [List.getD, List.getElem?_eq_getElem h]
theorem l_number {d : Nat} {h : ix_H} {r a N : Nat} {bs : List Nat} (m w : Nat) (hr : RowAt h r a N bs) (hm : m + w ≤ bs.length) : ∀ (k j : Nat), j + k = w →
    gs none d mD_X0_number (19, [(4, .int (nI j)), (3, .int (nI (beN ((bs.drop m).take j)))), (0, .ref r), (1, .int (nI m)), (2, .int (nI w))], [], h) (fun o => o = (some (.int (nI (beN ((bs.drop m).take w)))), h)) := by
  obtain ⟨h1, ⟨f, h2, h3⟩, h4, h5, h6⟩ := hr
  intro k
  induction k with
  | zero =>
    intro j hj
    obtain rfl : j = w := by omega
    refine gs_n 21 a_X0_number_19 rfl ?_
    refine gs_n 22 a_X0_number_21 rfl ?_
    refine gs_ic 50 25 a_X0_number_22 rfl rfl (fun c => ?_) (fun c => ?_)
    · refine gs_n 51 a_X0_number_50 rfl ?_
      refine gs_iret a_X0_number_51 rfl rfl ?_
      rfl
    · exact absurd (nI_le (Nat.le_refl j) (by omega)) c
  | succ k ih =>
    intro j hj
    refine gs_n 21 a_X0_number_19 rfl ?_
    refine gs_n 22 a_X0_number_21 rfl ?_
    refine gs_ic 50 25 a_X0_number_22 rfl rfl (fun c => ?_) (fun c => ?_)
    · exact absurd c (nI_ge (by omega) (by omega))
    · refine gs_n 26 a_X0_number_25 rfl ?_
      refine gs_k (nI 8) 28 a_X0_number_26 (by decide +kernel) rfl ?_
      refine gs_n 29 a_X0_number_28 rfl ?_
      refine gs_n 30 a_X0_number_29 rfl ?_
      refine gs_get 33 a_X0_number_30 f_0_15 (by first | assumption | exact hs_same _ _ _ | exact (hs_ne _ _ (by first | assumption | decide | omega)).trans (by first | assumption | exact hs_same _ _ _ | exact (hs_ne _ _ (by first | assumption | decide | omega)).trans (by first | assumption | exact hs_same _ _ _ | exact (hs_ne _ _ (by first | assumption | decide | omega)).trans (by first | assumption | exact hs_same _ _ _ | exact (hs_ne _ _ (by first | assumption | decide | omega)).trans (by first | assumption | exact hs_same _ _ _))))) rfl rfl ?_
      refine gs_n 34 a_X0_number_33 rfl ?_
      refine gs_n 36 a_X0_number_34 rfl ?_
      refine gs_n 37 a_X0_number_36 rfl ?_
      refine gs_ba (m + j) 38 a_X0_number_37 (by first | assumption | exact hs_same _ _ _ | exact (hs_ne _ _ (by first | assumption | decide | omega)).trans (by first | assumption | exact hs_same _ _ _ | exact (hs_ne _ _ (by first | assumption | decide | omega)).trans (by first | assumption | exact hs_same _ _ _ | exact (hs_ne _ _ (by first | assumption | decide | omega)).trans (by first | assumption | exact hs_same _ _ _ | exact (hs_ne _ _ (by first | assumption | decide | omega)).trans (by first | assumption | exact hs_same _ _ _))))) (nI_add m j) (by omega) (by omega) rfl ?_
      refine gs_k (nI 255) 41 a_X0_number_38 (by decide +kernel) rfl ?_
      refine gs_n 42 a_X0_number_41 rfl ?_
      rw [h3 _ (by omega)]
      have hb : bs.getD (m + j) 0 < 256 := by
        have hl : m + j < bs.length := by omega
        simp only [List.getD, List.getElem?_eq_getElem hl, Option.getD_some]
        exact h6 _ (List.getElem_mem _)
      refine gs_top (nI (bs.getD (m + j) 0)) (sg_and hb) ?_
      refine gs_n 43 a_X0_number_42 rfl ?_
      refine gs_top (nI (beN ((bs.drop m).take (j + 1)))) ?_ ?_
      · rw [take_snoc (by rw [List.length_drop]; omega), beN_snoc, ← or_byte _ _ (by simpa [List.getD, List.getElem?_drop] using hb)]
        simp [List.getD, List.getElem?_drop]
      · refine gs_n 44 a_X0_number_43 rfl ?_
        first | refine gs_inc _ 47 a_X0_number_44 rfl (Nat.le_of_ble_eq_true rfl) rfl ?_ | refine gs_n 47 a_X0_number_44 rfl ?_
        refine gs_n 19 a_X0_number_47 rfl ?_
        refine gs_w [(4, .int (nI (j + 1))), (3, .int (nI (beN ((bs.drop m).take (j + 1))))), (0, .ref r), (1, .int (nI m)), (2, .int (nI w))] (by simp [ix_nd]) (by intro x hx; simp only [List.mem_cons, List.not_mem_nil, or_false] at hx; rcases hx with rfl | rfl | rfl | rfl | rfl <;> rfl) ?_
        exact ih (j + 1) (by omega)
theorem e_number {d : Nat} {h : ix_H} {r a N : Nat} {bs : List Nat} (m w : Nat) (hr : RowAt h r a N bs) (hm : m + w ≤ bs.length) : ev (d + 1) n_X0_number [.ref r, .int (nI m), .int (nI w)] h (fun o => o = (some (.int (nI (beN ((bs.drop m).take w)))), h)) := by
  have hr0 := hr
  obtain ⟨h1, ⟨f, h2, h3⟩, h4, h5, h6⟩ := hr
  refine ev_of q_X0_number (Nat.le_of_ble_eq_true rfl) ?_
  refine gs_k (nI 0) 1 a_X0_number_0 (by decide +kernel) rfl ?_
  refine gs_n 2 a_X0_number_1 rfl ?_
  refine gs_n 3 a_X0_number_2 rfl ?_
  refine gs_if 50 6 a_X0_number_3 rfl rfl (fun c => ?_) (fun c => ?_)
  · exact absurd c (nI_pos (by omega))
  · refine gs_n 7 a_X0_number_6 rfl ?_
    refine gs_n 8 a_X0_number_7 rfl ?_
    refine gs_get 11 a_X0_number_8 f_0_21 (by first | assumption | exact hs_same _ _ _ | exact (hs_ne _ _ (by first | assumption | decide | omega)).trans (by first | assumption | exact hs_same _ _ _ | exact (hs_ne _ _ (by first | assumption | decide | omega)).trans (by first | assumption | exact hs_same _ _ _ | exact (hs_ne _ _ (by first | assumption | decide | omega)).trans (by first | assumption | exact hs_same _ _ _ | exact (hs_ne _ _ (by first | assumption | decide | omega)).trans (by first | assumption | exact hs_same _ _ _))))) rfl rfl ?_
    refine gs_n 12 a_X0_number_11 rfl ?_
    refine gs_n 13 a_X0_number_12 rfl ?_
    refine gs_ic 50 16 a_X0_number_13 rfl rfl (fun c2 => ?_) (fun c2 => ?_)
    · have c2 : nI bs.length - nI w < nI m := c2
      rw [pk_sub (by omega), nI_ltI (by omega) (by omega)] at c2
      omega
    · refine gs_k (nI 0) 17 a_X0_number_16 (by decide +kernel) rfl ?_
      refine gs_n 19 a_X0_number_17 rfl ?_
      refine gs_w [(4, .int (nI 0)), (3, .int (nI (beN ((bs.drop m).take 0)))), (0, .ref r), (1, .int (nI m)), (2, .int (nI w))] (by simp [ix_nd]) (by intro x hx; simp only [List.mem_cons, List.not_mem_nil, or_false] at hx; rcases hx with rfl | rfl | rfl | rfl | rfl <;> rfl) ?_
      exact l_number m w hr0 hm w 0 (by omega)
end
section
/-! ByteRow.seal, ByteRow(n) -/
/-- the SUM of the bytes behind it -/
def sumI (l : List Nat) : Int32 := l.foldl (fun x b => x * nI 31 + nI b) (nI 17)
theorem sumI_snoc (l : List Nat) (b : Nat) : sumI (l ++ [b]) = sumI l * nI 31 + nI b := by simp [sumI, List.foldl_append]
theorem l_seal1 {d : Nat} {h : ix_H} {r a N : Nat} {bs : List Nat} {s : Nat} {P : ix_O → Prop} (hr : RowAt h r a N bs) (hs : s + 4 ≤ bs.length)
    (kk : gs none d mD_X0_seal (52, [(3, .int (nI bs.length)), (2, .int (sumI (bs.drop (s + 4)))), (0, .ref r), (1, .int (nI s))], [], h) P) : ∀ (k j : Nat), s + 4 + j + k = bs.length →
    gs none d mD_X0_seal (22, [(3, .int (nI (s + 4 + j))), (2, .int (sumI ((bs.drop (s + 4)).take j))), (0, .ref r), (1, .int (nI s))], [], h) P := by
  obtain ⟨h1, ⟨f, h2, h3⟩, h4, h5, h6⟩ := hr
  intro k
  induction k with
  | zero =>
    intro j hj
    refine gs_n 23 a_X0_seal_22 rfl ?_
    refine gs_n 24 a_X0_seal_23 rfl ?_
    refine gs_get 27 a_X0_seal_24 f_0_21 (by first | assumption | exact hs_same _ _ _ | exact (hs_ne _ _ (by first | assumption | decide | omega)).trans (by first | assumption | exact hs_same _ _ _ | exact (hs_ne _ _ (by first | assumption | decide | omega)).trans (by first | assumption | exact hs_same _ _ _ | exact (hs_ne _ _ (by first | assumption | decide | omega)).trans (by first | assumption | exact hs_same _ _ _ | exact (hs_ne _ _ (by first | assumption | decide | omega)).trans (by first | assumption | exact hs_same _ _ _))))) rfl rfl ?_
    refine gs_ic 52 30 a_X0_seal_27 rfl rfl (fun c => ?_) (fun c => ?_)
    · rw [List.take_of_length_le (by rw [List.length_drop]; omega), show s + 4 + j = bs.length by omega]
      exact kk
    · exact absurd (nI_le (by omega) (by omega)) c
  | succ k ih =>
    intro j hj
    refine gs_n 23 a_X0_seal_22 rfl ?_
    refine gs_n 24 a_X0_seal_23 rfl ?_
    refine gs_get 27 a_X0_seal_24 f_0_21 (by first | assumption | exact hs_same _ _ _ | exact (hs_ne _ _ (by first | assumption | decide | omega)).trans (by first | assumption | exact hs_same _ _ _ | exact (hs_ne _ _ (by first | assumption | decide | omega)).trans (by first | assumption | exact hs_same _ _ _ | exact (hs_ne _ _ (by first | assumption | decide | omega)).trans (by first | assumption | exact hs_same _ _ _ | exact (hs_ne _ _ (by first | assumption | decide | omega)).trans (by first | assumption | exact hs_same _ _ _))))) rfl rfl ?_
    refine gs_ic 52 30 a_X0_seal_27 rfl rfl (fun c => ?_) (fun c => ?_)
    · exact absurd c (nI_ge (by omega) (by omega))
    · refine gs_n 31 a_X0_seal_30 rfl ?_
      refine gs_k (nI 31) 33 a_X0_seal_31 (by decide +kernel) rfl ?_
      refine gs_n 34 a_X0_seal_33 rfl ?_
      refine gs_n 35 a_X0_seal_34 rfl ?_
      refine gs_get 38 a_X0_seal_35 f_0_15 (by first | assumption | exact hs_same _ _ _ | exact (hs_ne _ _ (by first | assumption | decide | omega)).trans (by first | assumption | exact hs_same _ _ _ | exact (hs_ne _ _ (by first | assumption | decide | omega)).trans (by first | assumption | exact hs_same _ _ _ | exact (hs_ne _ _ (by first | assumption | decide | omega)).trans (by first | assumption | exact hs_same _ _ _ | exact (hs_ne _ _ (by first | assumption | decide | omega)).trans (by first | assumption | exact hs_same _ _ _))))) rfl rfl ?_
      refine gs_n 39 a_X0_seal_38 rfl ?_
      refine gs_ba (s + 4 + j) 40 a_X0_seal_39 (by first | assumption | exact hs_same _ _ _ | exact (hs_ne _ _ (by first | assumption | decide | omega)).trans (by first | assumption | exact hs_same _ _ _ | exact (hs_ne _ _ (by first | assumption | decide | omega)).trans (by first | assumption | exact hs_same _ _ _ | exact (hs_ne _ _ (by first | assumption | decide | omega)).trans (by first | assumption | exact hs_same _ _ _ | exact (hs_ne _ _ (by first | assumption | decide | omega)).trans (by first | assumption | exact hs_same _ _ _))))) rfl (by omega) (by omega) rfl ?_
      refine gs_k (nI 255) 43 a_X0_seal_40 (by decide +kernel) rfl ?_
      refine gs_n 44 a_X0_seal_43 rfl ?_
      rw [h3 _ (by omega)]
      have hb : bs.getD (s + 4 + j) 0 < 256 := by
        have hl : s + 4 + j < bs.length := by omega
        simp only [List.getD, List.getElem?_eq_getElem hl, Option.getD_some]
        exact h6 _ (List.getElem_mem _)
      refine gs_top (nI (bs.getD (s + 4 + j) 0)) (sg_and hb) ?_
      refine gs_n 45 a_X0_seal_44 rfl ?_
      refine gs_top (sumI ((bs.drop (s + 4)).take (j + 1))) ?_ ?_
      · rw [take_snoc (by rw [List.length_drop]; omega), sumI_snoc]
        simp [List.getD, List.getElem?_drop]
      · refine gs_n 46 a_X0_seal_45 rfl ?_
        first | refine gs_inc _ 49 a_X0_seal_46 rfl (Nat.le_of_ble_eq_true rfl) rfl ?_ | refine gs_n 49 a_X0_seal_46 rfl ?_
        refine gs_n 22 a_X0_seal_49 rfl ?_
        refine gs_w [(3, .int (nI (s + 4 + (j + 1)))), (2, .int (sumI ((bs.drop (s + 4)).take (j + 1)))), (0, .ref r), (1, .int (nI s))] (by simp [ix_nd]) (by intro x hx; simp only [List.mem_cons, List.not_mem_nil, or_false] at hx; rcases hx with rfl | rfl | rfl | rfl <;> rfl) ?_
        exact ih (j + 1) (by omega)
theorem be_get (v : Int32) : ∀ (w j : Nat), j < w → (be w v).getD j 0 = v.toBitVec.toNat / 2 ^ (8 * (w - 1 - j)) % 256 := by
  intro w
  induction w with
  | zero => intro j h; omega
  | succ w ih =>
    intro j h
    cases j with
    | zero => simp [be, List.getD]
    | succ j =>
      have := ih j (by omega)
      simp only [be, List.getD_cons_succ]
      rw [this]
      congr 3
      omega
/-- bytes written over others -/
def over (bs : List Nat) (s : Nat) (l : List Nat) : List Nat := bs.take s ++ l ++ bs.drop (s + l.length)
theorem over_len {bs l : List Nat} {s : Nat} (h : s + l.length ≤ bs.length) : (over bs s l).length = bs.length := by simp [over]; omega
theorem over_get {bs l : List Nat} {s i : Nat} (h : s + l.length ≤ bs.length) : (over bs s l).getD i 0 = if s ≤ i ∧ i < s + l.length then l.getD (i - s) 0 else bs.getD i 0 := by
  simp only [over, List.getD, List.append_assoc]
  by_cases h1 : i < s
  · rw [List.getElem?_append_left (by simp; omega), List.getElem?_take, if_pos h1, if_neg (by omega)]
  · rw [List.getElem?_append_right (by simp; omega)]
    rw [show i - (bs.take s).length = i - s by simp; omega]
    by_cases h2 : i < s + l.length
    · rw [List.getElem?_append_left (by omega), if_pos (by omega)]
    · rw [List.getElem?_append_right (by omega), if_neg (by omega), List.getElem?_drop]
      congr 2
      omega
theorem l_seal2 {d : Nat} {h : ix_H} {r a N : Nat} {bs : List Nat} {s : Nat} {v : Int32} (hr : RowAt h r a N bs) (hs : s + 4 ≤ bs.length) : ∀ (k j : Nat) (h1 : ix_H), j + k = 4 → Fr [r, a] h h1 → RowAt h1 r a N (over bs s ((be 4 v).take j)) →
    gs none d mD_X0_seal (54, [(3, .int (nI j)), (2, .int v), (0, .ref r), (1, .int (nI s))], [], h1) (fun o => o.1 = none ∧ Fr [r, a] h o.2 ∧ RowAt o.2 r a N (over bs s (be 4 v))) := by
  intro k
  induction k with
  | zero =>
    intro j h1 hj hF hR
    obtain rfl : j = 4 := by omega
    refine gs_n 55 a_X0_seal_54 rfl ?_
    refine gs_k (nI 4) 56 a_X0_seal_55 (by decide +kernel) rfl ?_
    refine gs_ic 83 59 a_X0_seal_56 rfl rfl (fun c => ?_) (fun c => ?_)
    · refine gs_vret a_X0_seal_83 rfl ?_
      refine ⟨rfl, hF, ?_⟩
      rwa [List.take_of_length_le (by rw [be_len]; omega)] at hR
    · exact absurd (nI_le (Nat.le_refl 4) (by omega)) c
  | succ k ih =>
    intro j h1 hj hF hR
    have hbl : ((be 4 v).take j).length = j := by rw [List.length_take, be_len]; omega
    have hbl2 : ((be 4 v).take (j + 1)).length = j + 1 := by rw [List.length_take, be_len]; omega
    have hol := over_len (bs := bs) (s := s) (l := (be 4 v).take j) (by omega)
    have hol2 := over_len (bs := bs) (s := s) (l := (be 4 v).take (j + 1)) (by omega)
    have hR0 := hR
    obtain ⟨g1, ⟨f, g2, g3⟩, g4, g5, g6⟩ := hR
    have hra : ¬ a = r := fun z => by rw [z, g1] at g2; cases g2
    have har : ¬ r = a := fun z => hra z.symm
    refine gs_n 55 a_X0_seal_54 rfl ?_
    refine gs_k (nI 4) 56 a_X0_seal_55 (by decide +kernel) rfl ?_
    refine gs_ic 83 59 a_X0_seal_56 rfl rfl (fun c => ?_) (fun c => ?_)
    · exact absurd c (nI_ge (by omega) (by omega))
    · refine gs_n 60 a_X0_seal_59 rfl ?_
      refine gs_get 63 a_X0_seal_60 f_0_15 (by first | assumption | exact hs_same _ _ _ | exact (hs_ne _ _ (by first | assumption | decide | omega)).trans (by first | assumption | exact hs_same _ _ _ | exact (hs_ne _ _ (by first | assumption | decide | omega)).trans (by first | assumption | exact hs_same _ _ _ | exact (hs_ne _ _ (by first | assumption | decide | omega)).trans (by first | assumption | exact hs_same _ _ _ | exact (hs_ne _ _ (by first | assumption | decide | omega)).trans (by first | assumption | exact hs_same _ _ _))))) rfl rfl ?_
      refine gs_n 64 a_X0_seal_63 rfl ?_
      refine gs_n 65 a_X0_seal_64 rfl ?_
      refine gs_n 66 a_X0_seal_65 rfl ?_
      refine gs_n 67 a_X0_seal_66 rfl ?_
      refine gs_k (nI 24) 69 a_X0_seal_67 (by decide +kernel) rfl ?_
      refine gs_k (nI 8) 71 a_X0_seal_69 (by decide +kernel) rfl ?_
      refine gs_n 72 a_X0_seal_71 rfl ?_
      refine gs_n 73 a_X0_seal_72 rfl ?_
      refine gs_n 74 a_X0_seal_73 rfl ?_
      refine gs_n 75 a_X0_seal_74 rfl ?_
      refine gs_n 76 a_X0_seal_75 rfl ?_
      refine gs_bs (s + j) 77 a_X0_seal_76 (by first | assumption | exact hs_same _ _ _ | exact (hs_ne _ _ (by first | assumption | decide | omega)).trans (by first | assumption | exact hs_same _ _ _ | exact (hs_ne _ _ (by first | assumption | decide | omega)).trans (by first | assumption | exact hs_same _ _ _ | exact (hs_ne _ _ (by first | assumption | decide | omega)).trans (by first | assumption | exact hs_same _ _ _ | exact (hs_ne _ _ (by first | assumption | decide | omega)).trans (by first | assumption | exact hs_same _ _ _))))) (nI_add s j) (by omega) (by omega) rfl ?_
      first | refine gs_inc _ 80 a_X0_seal_77 rfl (Nat.le_of_ble_eq_true rfl) rfl ?_ | refine gs_n 80 a_X0_seal_77 rfl ?_
      refine gs_n 54 a_X0_seal_80 rfl ?_
      refine gs_w [(3, .int (nI (j + 1))), (2, .int v), (0, .ref r), (1, .int (nI s))] (by simp [ix_nd]) (by intro x hx; simp only [List.mem_cons, List.not_mem_nil, or_false] at hx; rcases hx with rfl | rfl | rfl | rfl <;> rfl) ?_
      refine ih (j + 1) _ (by omega) (hF.trans (Fr.set _ (by simp))) ⟨?_, ⟨_, hs_same _ _ _, ?_⟩, ?_, g5, ?_⟩
      · rw [hs_ne _ _ har, g1, hol, hol2]
      · intro i hi
        rw [hol2] at hi
        have e8 : nI 24 - nI 8 * nI j = nI (8 * (3 - j)) := by
          have : ∀ j, j < 4 → nI 24 - nI 8 * nI j = nI (8 * (3 - j)) := by decide +kernel
          exact this j (by omega)
        have ebb : ∀ x : Int32, (x.toInt8.toInt32).toInt8.toInt32 = x.toInt8.toInt32 := fun x => by rw [← vp_nar_byte, pk_vb]
        by_cases e : i = s + j
        · subst e
          rw [pk_us, over_get (by omega), if_pos (by omega), ebb, e8, ← sg_low, ushr_low v (3 - j) (by omega)]
          congr 1
          rw [show s + j - s = j by omega]
          have h5 := be_get v 4 j (by omega)
          simp only [List.getD, List.getElem?_take, show j < j + 1 by omega, if_true] at h5 ⊢
          rw [h5]
        · rw [pk_un e, g3 i (by rw [hol]; exact hi), over_get (by omega), over_get (by omega)]
          congr 1
          by_cases e2 : s ≤ i ∧ i < s + j
          · rw [if_pos (by omega), if_pos (by omega)]
            simp only [List.getD, List.getElem?_take, show i - s < j by omega, show i - s < j + 1 by omega, if_true]
          · rw [if_neg (by omega), if_neg (by omega)]
      · rw [hol2]; rw [hol] at g4; exact g4
      · intro b hb
        simp only [over, List.mem_append] at hb
        have h6 := hr.2.2.2.2
        rcases hb with (z | z) | z
        · exact h6 b (List.mem_of_mem_take z)
        · exact be_lt 4 v b (List.mem_of_mem_take z)
        · exact h6 b (List.mem_of_mem_drop z)
theorem e_seal {d : Nat} {h : ix_H} {r a N : Nat} {bs : List Nat} (s : Nat) (hr : RowAt h r a N bs) (hs : s + 4 ≤ bs.length) : ev (d + 1) n_X0_seal [.ref r, .int (nI s)] h (fun o => o.1 = none ∧ Fr [r, a] h o.2 ∧ RowAt o.2 r a N (over bs s (be 4 (sumI (bs.drop (s + 4)))))) := by
  have hr0 := hr
  obtain ⟨h1, ⟨f, h2, h3⟩, h4, h5, h6⟩ := hr
  refine ev_of q_X0_seal (Nat.le_of_ble_eq_true rfl) ?_
  refine gs_n 1 a_X0_seal_0 rfl ?_
  refine gs_if 14 4 a_X0_seal_1 rfl rfl (fun c => ?_) (fun c => ?_)
  · exact absurd c (nI_pos (by omega))
  · refine gs_n 5 a_X0_seal_4 rfl ?_
    refine gs_n 6 a_X0_seal_5 rfl ?_
    refine gs_get 9 a_X0_seal_6 f_0_21 (by first | assumption | exact hs_same _ _ _ | exact (hs_ne _ _ (by first | assumption | decide | omega)).trans (by first | assumption | exact hs_same _ _ _ | exact (hs_ne _ _ (by first | assumption | decide | omega)).trans (by first | assumption | exact hs_same _ _ _ | exact (hs_ne _ _ (by first | assumption | decide | omega)).trans (by first | assumption | exact hs_same _ _ _ | exact (hs_ne _ _ (by first | assumption | decide | omega)).trans (by first | assumption | exact hs_same _ _ _))))) rfl rfl ?_
    refine gs_k (nI 4) 10 a_X0_seal_9 (by decide +kernel) rfl ?_
    refine gs_n 11 a_X0_seal_10 rfl ?_
    refine gs_ic 15 14 a_X0_seal_11 rfl rfl (fun c2 => ?_) (fun c2 => ?_)
    · refine gs_k (nI 17) 17 a_X0_seal_15 (by decide +kernel) rfl ?_
      refine gs_n 18 a_X0_seal_17 rfl ?_
      refine gs_n 19 a_X0_seal_18 rfl ?_
      refine gs_k (nI 4) 20 a_X0_seal_19 (by decide +kernel) rfl ?_
      refine gs_n 21 a_X0_seal_20 rfl ?_
      refine gs_n 22 a_X0_seal_21 rfl ?_
      refine gs_w [(3, .int (nI s + nI 4)), (2, .int (sumI ((bs.drop (s + 4)).take 0))), (0, .ref r), (1, .int (nI s))] (by simp [ix_nd]) (by intro x hx; simp only [List.mem_cons, List.not_mem_nil, or_false] at hx; rcases hx with rfl | rfl | rfl | rfl <;> rfl) ?_
      rw [nI_add]
      refine l_seal1 hr0 hs ?_ (bs.length - (s + 4)) 0 (by omega)
      refine gs_k (nI 0) 53 a_X0_seal_52 (by decide +kernel) rfl ?_
      refine gs_n 54 a_X0_seal_53 rfl ?_
      refine gs_w [(3, .int (nI 0)), (2, .int (sumI (bs.drop (s + 4)))), (0, .ref r), (1, .int (nI s))] (by simp [ix_nd]) (by intro x hx; simp only [List.mem_cons, List.not_mem_nil, or_false] at hx; rcases hx with rfl | rfl | rfl | rfl <;> rfl) ?_
      refine l_seal2 hr0 hs 4 0 h (by omega) (Fr.rf _ _) ?_
      simpa [over] using hr0
    · have c2 : ¬ nI s ≤ nI bs.length - nI 4 := c2
      rw [pk_sub (by omega), nI_leI (by omega) (by omega)] at c2
      omega
end
section
/-! Producer, Arrays.fill, Unsynced -/
abbrev pcell (e t b ba ad la dc : Int32) : ix_E := .inr (2, [.int e, .int t, .int b, .int ba, .int ad, .int la, .int dc])
theorem e_forget {d : Nat} {h : ix_H} {k : Nat} {e t b ba ad la dc : Int32} (hk : h.2.2 k = pcell e t b ba ad la dc) : ev (d + 2) n_X2_forget [.ref k] h (fun o => o.1 = none ∧ Fr [k] h o.2 ∧ o.2.2.2 k = pcell (-1) (-1) (-1) ba (nI 0) (nI 0) (-1)) := by
  have cl : ∀ {h : ix_H} {e : Int32}, h.2.2 k = pcell e t b ba ad la dc → ev (d + 1) n_X2_closeTransaction [.ref k] h (fun o => o.1 = none ∧ Fr [k] h o.2 ∧ o.2.2.2 k = pcell e (-1) (-1) ba (nI 0) (nI 0) (-1)) := by
    intro h e hk
    refine ev_of q_X2_closeTransaction (Nat.le_of_ble_eq_true rfl) ?_
    refine gs_n 1 a_X2_closeTransaction_0 rfl ?_
    refine gs_k (-1) 2 a_X2_closeTransaction_1 (by decide +kernel) rfl ?_
    refine gs_put 5 _ a_X2_closeTransaction_2 f_2_18 (by first | assumption | exact hs_same _ _ _ | exact (hs_ne _ _ (by first | assumption | decide | omega)).trans (by first | assumption | exact hs_same _ _ _ | exact (hs_ne _ _ (by first | assumption | decide | omega)).trans (by first | assumption | exact hs_same _ _ _ | exact (hs_ne _ _ (by first | assumption | decide | omega)).trans (by first | assumption | exact hs_same _ _ _ | exact (hs_ne _ _ (by first | assumption | decide | omega)).trans (by first | assumption | exact hs_same _ _ _))))) (Nat.le_of_ble_eq_true rfl) rfl (fun z => absurd z (by decide)) rfl rfl ?_
    refine gs_n 6 a_X2_closeTransaction_5 rfl ?_
    refine gs_k (-1) 7 a_X2_closeTransaction_6 (by decide +kernel) rfl ?_
    refine gs_put 10 _ a_X2_closeTransaction_7 f_2_21 (by first | assumption | exact hs_same _ _ _ | exact (hs_ne _ _ (by first | assumption | decide | omega)).trans (by first | assumption | exact hs_same _ _ _ | exact (hs_ne _ _ (by first | assumption | decide | omega)).trans (by first | assumption | exact hs_same _ _ _ | exact (hs_ne _ _ (by first | assumption | decide | omega)).trans (by first | assumption | exact hs_same _ _ _ | exact (hs_ne _ _ (by first | assumption | decide | omega)).trans (by first | assumption | exact hs_same _ _ _))))) (Nat.le_of_ble_eq_true rfl) rfl (fun z => absurd z (by decide)) rfl rfl ?_
    refine gs_n 11 a_X2_closeTransaction_10 rfl ?_
    refine gs_k (nI 0) 12 a_X2_closeTransaction_11 (by decide +kernel) rfl ?_
    refine gs_put 15 _ a_X2_closeTransaction_12 f_2_27 (by first | assumption | exact hs_same _ _ _ | exact (hs_ne _ _ (by first | assumption | decide | omega)).trans (by first | assumption | exact hs_same _ _ _ | exact (hs_ne _ _ (by first | assumption | decide | omega)).trans (by first | assumption | exact hs_same _ _ _ | exact (hs_ne _ _ (by first | assumption | decide | omega)).trans (by first | assumption | exact hs_same _ _ _ | exact (hs_ne _ _ (by first | assumption | decide | omega)).trans (by first | assumption | exact hs_same _ _ _))))) (Nat.le_of_ble_eq_true rfl) rfl (fun z => absurd z (by decide)) rfl rfl ?_
    refine gs_n 16 a_X2_closeTransaction_15 rfl ?_
    refine gs_k (nI 0) 17 a_X2_closeTransaction_16 (by decide +kernel) rfl ?_
    refine gs_put 20 _ a_X2_closeTransaction_17 f_2_30 (by first | assumption | exact hs_same _ _ _ | exact (hs_ne _ _ (by first | assumption | decide | omega)).trans (by first | assumption | exact hs_same _ _ _ | exact (hs_ne _ _ (by first | assumption | decide | omega)).trans (by first | assumption | exact hs_same _ _ _ | exact (hs_ne _ _ (by first | assumption | decide | omega)).trans (by first | assumption | exact hs_same _ _ _ | exact (hs_ne _ _ (by first | assumption | decide | omega)).trans (by first | assumption | exact hs_same _ _ _))))) (Nat.le_of_ble_eq_true rfl) rfl (fun z => absurd z (by decide)) rfl rfl ?_
    refine gs_n 21 a_X2_closeTransaction_20 rfl ?_
    refine gs_k (-1) 22 a_X2_closeTransaction_21 (by decide +kernel) rfl ?_
    refine gs_put 25 _ a_X2_closeTransaction_22 f_2_33 (by first | assumption | exact hs_same _ _ _ | exact (hs_ne _ _ (by first | assumption | decide | omega)).trans (by first | assumption | exact hs_same _ _ _ | exact (hs_ne _ _ (by first | assumption | decide | omega)).trans (by first | assumption | exact hs_same _ _ _ | exact (hs_ne _ _ (by first | assumption | decide | omega)).trans (by first | assumption | exact hs_same _ _ _ | exact (hs_ne _ _ (by first | assumption | decide | omega)).trans (by first | assumption | exact hs_same _ _ _))))) (Nat.le_of_ble_eq_true rfl) rfl (fun z => absurd z (by decide)) rfl rfl ?_
    refine gs_vret a_X2_closeTransaction_25 rfl ?_
    refine ⟨rfl, ((((Fr.set _ (by simp)).trans (Fr.set _ (by simp))).trans (Fr.set _ (by simp))).trans (Fr.set _ (by simp))).trans (Fr.set _ (by simp)), ?_⟩
    exact hs_same _ _ _
  refine ev_of q_X2_forget (Nat.le_of_ble_eq_true rfl) ?_
  refine gs_n 1 a_X2_forget_0 rfl ?_
  refine gs_k (-1) 2 a_X2_forget_1 (by decide +kernel) rfl ?_
  refine gs_put 5 _ a_X2_forget_2 f_2_9 (by first | assumption | exact hs_same _ _ _ | exact (hs_ne _ _ (by first | assumption | decide | omega)).trans (by first | assumption | exact hs_same _ _ _ | exact (hs_ne _ _ (by first | assumption | decide | omega)).trans (by first | assumption | exact hs_same _ _ _ | exact (hs_ne _ _ (by first | assumption | decide | omega)).trans (by first | assumption | exact hs_same _ _ _ | exact (hs_ne _ _ (by first | assumption | decide | omega)).trans (by first | assumption | exact hs_same _ _ _))))) (Nat.le_of_ble_eq_true rfl) rfl (fun z => absurd z (by decide)) rfl rfl ?_
  refine gs_n 6 a_X2_forget_5 rfl ?_
  refine gs_cv 9 a_X2_forget_6 k_2_15 q_X2_closeTransaction (cl (hs_same _ _ _)) rfl rfl rfl (by simp [Value.category]) (by first | assumption | exact hs_same _ _ _ | exact (hs_ne _ _ (by first | assumption | decide | omega)).trans (by first | assumption | exact hs_same _ _ _ | exact (hs_ne _ _ (by first | assumption | decide | omega)).trans (by first | assumption | exact hs_same _ _ _ | exact (hs_ne _ _ (by first | assumption | decide | omega)).trans (by first | assumption | exact hs_same _ _ _ | exact (hs_ne _ _ (by first | assumption | decide | omega)).trans (by first | assumption | exact hs_same _ _ _))))) rfl (fun v h1 hp => ?_)
  obtain ⟨e1, hF, hc⟩ := hp
  subst e1
  refine gs_vret a_X2_forget_9 rfl ?_
  exact ⟨rfl, (Fr.set _ (by simp)).trans hF, hc⟩
theorem e_closeT {d : Nat} {h : ix_H} {k : Nat} {e t b ba ad la dc : Int32} (hk : h.2.2 k = pcell e t b ba ad la dc) : ev (d + 1) n_X2_closeTransaction [.ref k] h (fun o => o.1 = none ∧ Fr [k] h o.2 ∧ o.2.2.2 k = pcell e (-1) (-1) ba (nI 0) (nI 0) (-1)) := by
  refine ev_of q_X2_closeTransaction (Nat.le_of_ble_eq_true rfl) ?_
  refine gs_n 1 a_X2_closeTransaction_0 rfl ?_
  refine gs_k (-1) 2 a_X2_closeTransaction_1 (by decide +kernel) rfl ?_
  refine gs_put 5 _ a_X2_closeTransaction_2 f_2_18 (by first | assumption | exact hs_same _ _ _ | exact (hs_ne _ _ (by first | assumption | decide | omega)).trans (by first | assumption | exact hs_same _ _ _ | exact (hs_ne _ _ (by first | assumption | decide | omega)).trans (by first | assumption | exact hs_same _ _ _ | exact (hs_ne _ _ (by first | assumption | decide | omega)).trans (by first | assumption | exact hs_same _ _ _ | exact (hs_ne _ _ (by first | assumption | decide | omega)).trans (by first | assumption | exact hs_same _ _ _))))) (Nat.le_of_ble_eq_true rfl) rfl (fun z => absurd z (by decide)) rfl rfl ?_
  refine gs_n 6 a_X2_closeTransaction_5 rfl ?_
  refine gs_k (-1) 7 a_X2_closeTransaction_6 (by decide +kernel) rfl ?_
  refine gs_put 10 _ a_X2_closeTransaction_7 f_2_21 (by first | assumption | exact hs_same _ _ _ | exact (hs_ne _ _ (by first | assumption | decide | omega)).trans (by first | assumption | exact hs_same _ _ _ | exact (hs_ne _ _ (by first | assumption | decide | omega)).trans (by first | assumption | exact hs_same _ _ _ | exact (hs_ne _ _ (by first | assumption | decide | omega)).trans (by first | assumption | exact hs_same _ _ _ | exact (hs_ne _ _ (by first | assumption | decide | omega)).trans (by first | assumption | exact hs_same _ _ _))))) (Nat.le_of_ble_eq_true rfl) rfl (fun z => absurd z (by decide)) rfl rfl ?_
  refine gs_n 11 a_X2_closeTransaction_10 rfl ?_
  refine gs_k (nI 0) 12 a_X2_closeTransaction_11 (by decide +kernel) rfl ?_
  refine gs_put 15 _ a_X2_closeTransaction_12 f_2_27 (by first | assumption | exact hs_same _ _ _ | exact (hs_ne _ _ (by first | assumption | decide | omega)).trans (by first | assumption | exact hs_same _ _ _ | exact (hs_ne _ _ (by first | assumption | decide | omega)).trans (by first | assumption | exact hs_same _ _ _ | exact (hs_ne _ _ (by first | assumption | decide | omega)).trans (by first | assumption | exact hs_same _ _ _ | exact (hs_ne _ _ (by first | assumption | decide | omega)).trans (by first | assumption | exact hs_same _ _ _))))) (Nat.le_of_ble_eq_true rfl) rfl (fun z => absurd z (by decide)) rfl rfl ?_
  refine gs_n 16 a_X2_closeTransaction_15 rfl ?_
  refine gs_k (nI 0) 17 a_X2_closeTransaction_16 (by decide +kernel) rfl ?_
  refine gs_put 20 _ a_X2_closeTransaction_17 f_2_30 (by first | assumption | exact hs_same _ _ _ | exact (hs_ne _ _ (by first | assumption | decide | omega)).trans (by first | assumption | exact hs_same _ _ _ | exact (hs_ne _ _ (by first | assumption | decide | omega)).trans (by first | assumption | exact hs_same _ _ _ | exact (hs_ne _ _ (by first | assumption | decide | omega)).trans (by first | assumption | exact hs_same _ _ _ | exact (hs_ne _ _ (by first | assumption | decide | omega)).trans (by first | assumption | exact hs_same _ _ _))))) (Nat.le_of_ble_eq_true rfl) rfl (fun z => absurd z (by decide)) rfl rfl ?_
  refine gs_n 21 a_X2_closeTransaction_20 rfl ?_
  refine gs_k (-1) 22 a_X2_closeTransaction_21 (by decide +kernel) rfl ?_
  refine gs_put 25 _ a_X2_closeTransaction_22 f_2_33 (by first | assumption | exact hs_same _ _ _ | exact (hs_ne _ _ (by first | assumption | decide | omega)).trans (by first | assumption | exact hs_same _ _ _ | exact (hs_ne _ _ (by first | assumption | decide | omega)).trans (by first | assumption | exact hs_same _ _ _ | exact (hs_ne _ _ (by first | assumption | decide | omega)).trans (by first | assumption | exact hs_same _ _ _ | exact (hs_ne _ _ (by first | assumption | decide | omega)).trans (by first | assumption | exact hs_same _ _ _))))) (Nat.le_of_ble_eq_true rfl) rfl (fun z => absurd z (by decide)) rfl rfl ?_
  refine gs_vret a_X2_closeTransaction_25 rfl ?_
  refine ⟨rfl, ((((Fr.set _ (by simp)).trans (Fr.set _ (by simp))).trans (Fr.set _ (by simp))).trans (Fr.set _ (by simp))).trans (Fr.set _ (by simp)), ?_⟩
  exact hs_same _ _ _
theorem e_openT {d : Nat} {h : ix_H} {k : Nat} {e t b ba ad la dc : Int32} (x y z : Int32) (hk : h.2.2 k = pcell e t b ba ad la dc) : ev (d + 1) n_X2_openTransaction [.ref k, .int x, .int y, .int z] h (fun o => o.1 = none ∧ Fr [k] h o.2 ∧ o.2.2.2 k = pcell e x y z ad la dc) := by
  refine ev_of q_X2_openTransaction (Nat.le_of_ble_eq_true rfl) ?_
  refine gs_n 1 a_X2_openTransaction_0 rfl ?_
  refine gs_n 2 a_X2_openTransaction_1 rfl ?_
  refine gs_put 5 _ a_X2_openTransaction_2 f_2_18 (by first | assumption | exact hs_same _ _ _ | exact (hs_ne _ _ (by first | assumption | decide | omega)).trans (by first | assumption | exact hs_same _ _ _ | exact (hs_ne _ _ (by first | assumption | decide | omega)).trans (by first | assumption | exact hs_same _ _ _ | exact (hs_ne _ _ (by first | assumption | decide | omega)).trans (by first | assumption | exact hs_same _ _ _ | exact (hs_ne _ _ (by first | assumption | decide | omega)).trans (by first | assumption | exact hs_same _ _ _))))) (Nat.le_of_ble_eq_true rfl) rfl (fun z => absurd z (by decide)) rfl rfl ?_
  refine gs_n 6 a_X2_openTransaction_5 rfl ?_
  refine gs_n 7 a_X2_openTransaction_6 rfl ?_
  refine gs_put 10 _ a_X2_openTransaction_7 f_2_21 (by first | assumption | exact hs_same _ _ _ | exact (hs_ne _ _ (by first | assumption | decide | omega)).trans (by first | assumption | exact hs_same _ _ _ | exact (hs_ne _ _ (by first | assumption | decide | omega)).trans (by first | assumption | exact hs_same _ _ _ | exact (hs_ne _ _ (by first | assumption | decide | omega)).trans (by first | assumption | exact hs_same _ _ _ | exact (hs_ne _ _ (by first | assumption | decide | omega)).trans (by first | assumption | exact hs_same _ _ _))))) (Nat.le_of_ble_eq_true rfl) rfl (fun z => absurd z (by decide)) rfl rfl ?_
  refine gs_n 11 a_X2_openTransaction_10 rfl ?_
  refine gs_n 12 a_X2_openTransaction_11 rfl ?_
  refine gs_put 15 _ a_X2_openTransaction_12 f_2_24 (by first | assumption | exact hs_same _ _ _ | exact (hs_ne _ _ (by first | assumption | decide | omega)).trans (by first | assumption | exact hs_same _ _ _ | exact (hs_ne _ _ (by first | assumption | decide | omega)).trans (by first | assumption | exact hs_same _ _ _ | exact (hs_ne _ _ (by first | assumption | decide | omega)).trans (by first | assumption | exact hs_same _ _ _ | exact (hs_ne _ _ (by first | assumption | decide | omega)).trans (by first | assumption | exact hs_same _ _ _))))) (Nat.le_of_ble_eq_true rfl) rfl (fun z => absurd z (by decide)) rfl rfl ?_
  refine gs_vret a_X2_openTransaction_15 rfl ?_
  refine ⟨rfl, ((Fr.set _ (by simp)).trans (Fr.set _ (by simp))).trans (Fr.set _ (by simp)), ?_⟩
  exact hs_same _ _ _
theorem e_isOpen {d : Nat} {h : ix_H} {k : Nat} {e t b ba ad la dc : Int32} (hk : h.2.2 k = pcell e t b ba ad la dc) : ev (d + 1) n_X2_isOpen [.ref k] h (fun o => o = (some (.int (if t = -1 then nI 0 else nI 1)), h)) := by
  refine ev_of q_X2_isOpen (Nat.le_of_ble_eq_true rfl) ?_
  refine gs_n 1 a_X2_isOpen_0 rfl ?_
  refine gs_get 4 a_X2_isOpen_1 f_2_18 (by first | assumption | exact hs_same _ _ _ | exact (hs_ne _ _ (by first | assumption | decide | omega)).trans (by first | assumption | exact hs_same _ _ _ | exact (hs_ne _ _ (by first | assumption | decide | omega)).trans (by first | assumption | exact hs_same _ _ _ | exact (hs_ne _ _ (by first | assumption | decide | omega)).trans (by first | assumption | exact hs_same _ _ _ | exact (hs_ne _ _ (by first | assumption | decide | omega)).trans (by first | assumption | exact hs_same _ _ _))))) rfl rfl ?_
  refine gs_k (-1) 5 a_X2_isOpen_4 (by decide +kernel) rfl ?_
  refine gs_ic 12 8 a_X2_isOpen_5 rfl rfl (fun c => ?_) (fun c => ?_)
  · have c : t = -1 := c
    refine gs_k (nI 0) 13 a_X2_isOpen_12 (by decide +kernel) rfl ?_
    refine gs_iret a_X2_isOpen_13 rfl rfl ?_
    rw [if_pos c]
  · have c : ¬ t = -1 := c
    refine gs_k (nI 1) 9 a_X2_isOpen_8 (by decide +kernel) rfl ?_
    refine gs_n 13 a_X2_isOpen_9 rfl ?_
    refine gs_iret a_X2_isOpen_13 rfl rfl ?_
    rw [if_neg c]
/-- whether a mask has a bit -/
def mbit (m x : Int32) : Prop := (m >>> (x &&& 31)) &&& nI 1 = nI 1
def mbit01 (m x : Int32) : Int32 := if (m >>> (x &&& 31)) &&& nI 1 = nI 1 then nI 1 else nI 0
theorem e_hasAdded {d : Nat} {h : ix_H} {k : Nat} {e t b ba ad la dc : Int32} (x : Int32) (hk : h.2.2 k = pcell e t b ba ad la dc) : ev (d + 1) n_X2_hasAdded [.ref k, .int x] h (fun o => o = (some (.int (mbit01 ad x)), h)) := by
  refine ev_of q_X2_hasAdded (Nat.le_of_ble_eq_true rfl) ?_
  refine gs_n 1 a_X2_hasAdded_0 rfl ?_
  refine gs_get 4 a_X2_hasAdded_1 f_2_27 (by first | assumption | exact hs_same _ _ _ | exact (hs_ne _ _ (by first | assumption | decide | omega)).trans (by first | assumption | exact hs_same _ _ _ | exact (hs_ne _ _ (by first | assumption | decide | omega)).trans (by first | assumption | exact hs_same _ _ _ | exact (hs_ne _ _ (by first | assumption | decide | omega)).trans (by first | assumption | exact hs_same _ _ _ | exact (hs_ne _ _ (by first | assumption | decide | omega)).trans (by first | assumption | exact hs_same _ _ _))))) rfl rfl ?_
  refine gs_n 5 a_X2_hasAdded_4 rfl ?_
  refine gs_n 6 a_X2_hasAdded_5 rfl ?_
  refine gs_k (nI 1) 7 a_X2_hasAdded_6 (by decide +kernel) rfl ?_
  refine gs_n 8 a_X2_hasAdded_7 rfl ?_
  refine gs_k (nI 1) 9 a_X2_hasAdded_8 (by decide +kernel) rfl ?_
  refine gs_ic 16 12 a_X2_hasAdded_9 rfl rfl (fun c => ?_) (fun c => ?_)
  · have c : ¬ ((ad >>> (x &&& 31)) &&& nI 1 = nI 1) := c
    refine gs_k (nI 0) 17 a_X2_hasAdded_16 (by decide +kernel) rfl ?_
    refine gs_iret a_X2_hasAdded_17 rfl rfl ?_
    unfold mbit01
    rw [if_neg c]
  · have c : (ad >>> (x &&& 31)) &&& nI 1 = nI 1 := Classical.byContradiction c
    refine gs_k (nI 1) 13 a_X2_hasAdded_12 (by decide +kernel) rfl ?_
    refine gs_n 17 a_X2_hasAdded_13 rfl ?_
    refine gs_iret a_X2_hasAdded_17 rfl rfl ?_
    unfold mbit01
    rw [if_pos c]
theorem l_fill {d : Nat} {a m : Nat} {v : Int32} (hm : m < 2 ^ 31) : ∀ (k j : Nat) (h : ix_H) (f : Nat → Int32), j + k = m → h.2.2 a = .inl (.int, m, .inl f) → (∀ i, i < j → f i = v) →
    gs none d mD_J7_fill_53178 (5, [(2, .int (nI j)), (3, .int (nI m)), (0, .ref a), (1, .int v)], [], h) (fun o => o.1 = none ∧ Fr [a] h o.2 ∧ ∃ g, o.2.2.2 a = .inl (.int, m, .inl g) ∧ ∀ i, i < m → g i = v) := by
  intro k
  induction k with
  | zero =>
    intro j h f hj hc hf
    obtain rfl : j = m := by omega
    refine gs_n 6 a_J7_fill_53178_5 rfl ?_
    refine gs_n 7 a_J7_fill_53178_6 rfl ?_
    refine gs_ic 20 10 a_J7_fill_53178_7 rfl rfl (fun c => ?_) (fun c => ?_)
    · refine gs_vret a_J7_fill_53178_20 rfl ?_
      exact ⟨rfl, Fr.rf _ _, f, hc, hf⟩
    · exact absurd (nI_le (Nat.le_refl j) (by omega)) c
  | succ k ih =>
    intro j h f hj hc hf
    refine gs_n 6 a_J7_fill_53178_5 rfl ?_
    refine gs_n 7 a_J7_fill_53178_6 rfl ?_
    refine gs_ic 20 10 a_J7_fill_53178_7 rfl rfl (fun c => ?_) (fun c => ?_)
    · exact absurd c (nI_ge (by omega) (by omega))
    · refine gs_n 11 a_J7_fill_53178_10 rfl ?_
      refine gs_n 12 a_J7_fill_53178_11 rfl ?_
      refine gs_n 13 a_J7_fill_53178_12 rfl ?_
      refine gs_is j 14 a_J7_fill_53178_13 (by first | assumption | exact hs_same _ _ _ | exact (hs_ne _ _ (by first | assumption | decide | omega)).trans (by first | assumption | exact hs_same _ _ _ | exact (hs_ne _ _ (by first | assumption | decide | omega)).trans (by first | assumption | exact hs_same _ _ _ | exact (hs_ne _ _ (by first | assumption | decide | omega)).trans (by first | assumption | exact hs_same _ _ _ | exact (hs_ne _ _ (by first | assumption | decide | omega)).trans (by first | assumption | exact hs_same _ _ _))))) rfl (by omega) (by omega) rfl ?_
      first | refine gs_inc _ 17 a_J7_fill_53178_14 rfl (Nat.le_of_ble_eq_true rfl) rfl ?_ | refine gs_n 17 a_J7_fill_53178_14 rfl ?_
      refine gs_n 5 a_J7_fill_53178_17 rfl ?_
      refine gs_w [(2, .int (nI (j + 1))), (3, .int (nI m)), (0, .ref a), (1, .int v)] (by simp [ix_nd]) (by intro x hx; simp only [List.mem_cons, List.not_mem_nil, or_false] at hx; rcases hx with rfl | rfl | rfl | rfl <;> rfl) ?_
      refine gs_post (ih (j + 1) _ _ (by omega) (hs_same _ _ _) ?_) ?_
      · intro i hi
        by_cases e : i = j
        · subst e; rw [pk_us]
        · rw [pk_un e]; exact hf i (by omega)
      · rintro o ⟨e1, hF, g, hg⟩
        exact ⟨e1, (Fr.set _ (by simp)).trans hF, g, hg⟩
theorem e_fill {d : Nat} {h : ix_H} {a m : Nat} {f : Nat → Int32} (v : Int32) (hm : m < 2 ^ 31) (hc : h.2.2 a = .inl (.int, m, .inl f)) : ev (d + 1) n_J7_fill_53178 [.ref a, .int v] h (fun o => o.1 = none ∧ Fr [a] h o.2 ∧ ∃ g, o.2.2.2 a = .inl (.int, m, .inl g) ∧ ∀ i, i < m → g i = v) := by
  refine ev_of q_J7_fill_53178 (Nat.le_of_ble_eq_true rfl) ?_
  refine gs_k (nI 0) 1 a_J7_fill_53178_0 (by decide +kernel) rfl ?_
  refine gs_n 2 a_J7_fill_53178_1 rfl ?_
  refine gs_n 3 a_J7_fill_53178_2 rfl ?_
  refine gs_al 4 a_J7_fill_53178_3 (by first | assumption | exact hs_same _ _ _ | exact (hs_ne _ _ (by first | assumption | decide | omega)).trans (by first | assumption | exact hs_same _ _ _ | exact (hs_ne _ _ (by first | assumption | decide | omega)).trans (by first | assumption | exact hs_same _ _ _ | exact (hs_ne _ _ (by first | assumption | decide | omega)).trans (by first | assumption | exact hs_same _ _ _ | exact (hs_ne _ _ (by first | assumption | decide | omega)).trans (by first | assumption | exact hs_same _ _ _))))) (by simp) rfl ?_
  refine gs_n 5 a_J7_fill_53178_4 rfl ?_
  refine gs_w [(2, .int (nI 0)), (3, .int (nI m)), (0, .ref a), (1, .int v)] (by simp [ix_nd]) (by intro x hx; simp only [List.mem_cons, List.not_mem_nil, or_false] at hx; rcases hx with rfl | rfl | rfl | rfl <;> rfl) ?_
  exact l_fill hm m 0 h f (by omega) hc (fun i hi => by omega)
end
