/-! the methods' words, one by one -/
def ix_mok (q : ix_M) : Bool := match q with
  | (cn, nm, cc, mL, rt, np, kd, T, ic, ii, is) => decide (lw_tbl[ic]? = some (.code nm cc mL rt)) && decide (lw_tbl[ii]? = some (if kd = 1 then .static nm else .instanceMethod nm)) && decide (kd = 0 → lw_tbl[is]? = some (.selects (ix_RC cn) nm nm)) && decide (nm.cls = ix_RC cn) && decide (plainName nm.cls = true) && decide (mL ≤ 19) && decide (nm.cls ≠ "java/lang/invoke/MethodHandle" ∧ nm.cls ≠ "java/lang/invoke/VarHandle") && decide ((parseMethodDescriptor nm.desc).map (fun d => d.parameters.length) = some np) && decide (kd = 2 → nm.name = "<init>" ∧ rt = none) && decide (kd ≤ 2) && ix_tln T && decide (lw_tbl[ix_ini.getD cn 0]? = some (.initialized nm.cls))
theorem mD_X0_init_ok : ix_mok mD_X0_init = true := by decide +kernel
theorem mD_X0_clear_ok : ix_mok mD_X0_clear = true := by decide +kernel
theorem mD_X0_cutTo_ok : ix_mok mD_X0_cutTo = true := by decide +kernel
theorem mD_X0_at_ok : ix_mok mD_X0_at = true := by decide +kernel
theorem mD_X0_add_ok : ix_mok mD_X0_add = true := by decide +kernel
theorem mD_X0_addNumber_ok : ix_mok mD_X0_addNumber = true := by decide +kernel
theorem mD_X0_number_ok : ix_mok mD_X0_number = true := by decide +kernel
theorem mD_X0_seal_ok : ix_mok mD_X0_seal = true := by decide +kernel
theorem mD_X1_init_ok : ix_mok mD_X1_init = true := by decide +kernel
theorem mD_X1_clear_ok : ix_mok mD_X1_clear = true := by decide +kernel
theorem mD_X1_append_ok : ix_mok mD_X1_append = true := by decide +kernel
theorem mD_X1_has_ok : ix_mok mD_X1_has = true := by decide +kernel
theorem mD_X1_startOf_ok : ix_mok mD_X1_startOf = true := by decide +kernel
theorem mD_X1_field_ok : ix_mok mD_X1_field = true := by decide +kernel
theorem mD_X1_kindOf_ok : ix_mok mD_X1_kindOf = true := by decide +kernel
theorem mD_X1_isSeen_ok : ix_mok mD_X1_isSeen = true := by decide +kernel
theorem mD_X1_dropBroken_ok : ix_mok mD_X1_dropBroken = true := by decide +kernel
theorem mD_X1_cutBroken_ok : ix_mok mD_X1_cutBroken = true := by decide +kernel
theorem mD_X1_isSentBy_ok : ix_mok mD_X1_isSentBy = true := by decide +kernel
theorem mD_X1_nextOf_ok : ix_mok mD_X1_nextOf = true := by decide +kernel
theorem mD_X1_offsetOfRecent_ok : ix_mok mD_X1_offsetOfRecent = true := by decide +kernel
theorem mD_X1_hasEndOf_ok : ix_mok mD_X1_hasEndOf = true := by decide +kernel
theorem mD_X1_stable_ok : ix_mok mD_X1_stable = true := by decide +kernel
theorem mD_X1_committedEntries_ok : ix_mok mD_X1_committedEntries = true := by decide +kernel
theorem mD_X1_firstCommitted_ok : ix_mok mD_X1_firstCommitted = true := by decide +kernel
theorem mD_X1_firstSeen_ok : ix_mok mD_X1_firstSeen = true := by decide +kernel
theorem mD_X1_copyPayload_ok : ix_mok mD_X1_copyPayload = true := by decide +kernel
theorem mD_X2_init_ok : ix_mok mD_X2_init = true := by decide +kernel
theorem mD_X2_forget_ok : ix_mok mD_X2_forget = true := by decide +kernel
theorem mD_X2_openTransaction_ok : ix_mok mD_X2_openTransaction = true := by decide +kernel
theorem mD_X2_closeTransaction_ok : ix_mok mD_X2_closeTransaction = true := by decide +kernel
theorem mD_X2_isOpen_ok : ix_mok mD_X2_isOpen = true := by decide +kernel
theorem mD_X2_hasAdded_ok : ix_mok mD_X2_hasAdded = true := by decide +kernel
theorem mD_X3_init_ok : ix_mok mD_X3_init = true := by decide +kernel
theorem mD_X3_clear_ok : ix_mok mD_X3_clear = true := by decide +kernel
theorem mD_X3_note_ok : ix_mok mD_X3_note = true := by decide +kernel
theorem mD_X3_bytesOf_ok : ix_mok mD_X3_bytesOf = true := by decide +kernel
theorem mD_X3_keptOf_ok : ix_mok mD_X3_keptOf = true := by decide +kernel
theorem mD_X4_init_ok : ix_mok mD_X4_init = true := by decide +kernel
theorem mD_X4_format_ok : ix_mok mD_X4_format = true := by decide +kernel
theorem mD_X4_feed_ok : ix_mok mD_X4_feed = true := by decide +kernel
theorem mD_X4_register_ok : ix_mok mD_X4_register = true := by decide +kernel
theorem mD_X4_begin_ok : ix_mok mD_X4_begin = true := by decide +kernel
theorem mD_X4_send_ok : ix_mok mD_X4_send = true := by decide +kernel
theorem mD_X4_later_ok : ix_mok mD_X4_later = true := by decide +kernel
theorem mD_X4_end_ok : ix_mok mD_X4_end = true := by decide +kernel
theorem mD_X4_mark_ok : ix_mok mD_X4_mark = true := by decide +kernel
theorem mD_X4_marked_ok : ix_mok mD_X4_marked = true := by decide +kernel
theorem mD_X4_tick_ok : ix_mok mD_X4_tick = true := by decide +kernel
theorem mD_X4_fetch_ok : ix_mok mD_X4_fetch = true := by decide +kernel
theorem mD_X4_answer_ok : ix_mok mD_X4_answer = true := by decide +kernel
theorem mD_X4_sync_ok : ix_mok mD_X4_sync = true := by decide +kernel
theorem mD_X4_crash_ok : ix_mok mD_X4_crash = true := by decide +kernel
theorem mD_X4_open_ok : ix_mok mD_X4_open = true := by decide +kernel
theorem mD_X4_partition_ok : ix_mok mD_X4_partition = true := by decide +kernel
theorem mD_X4_entry_ok : ix_mok mD_X4_entry = true := by decide +kernel
theorem mD_X4_producer_ok : ix_mok mD_X4_producer = true := by decide +kernel
theorem mD_X4_next_ok : ix_mok mD_X4_next = true := by decide +kernel
theorem mD_X4_byteOf_ok : ix_mok mD_X4_byteOf = true := by decide +kernel
theorem mD_X4_count_ok : ix_mok mD_X4_count = true := by decide +kernel
theorem mD_X4_build_ok : ix_mok mD_X4_build = true := by decide +kernel
theorem mD_X4_forget_ok : ix_mok mD_X4_forget = true := by decide +kernel
theorem mD_X4_isKey_ok : ix_mok mD_X4_isKey = true := by decide +kernel
theorem mD_X4_isRegistered_ok : ix_mok mD_X4_isRegistered = true := by decide +kernel
theorem mD_X4_isPartition_ok : ix_mok mD_X4_isPartition = true := by decide +kernel
theorem mD_X4_isPlace_ok : ix_mok mD_X4_isPlace = true := by decide +kernel
theorem mD_X4_placeOf_ok : ix_mok mD_X4_placeOf = true := by decide +kernel
theorem mD_X4_rowOf_ok : ix_mok mD_X4_rowOf = true := by decide +kernel
theorem mD_X4_refusalOf_ok : ix_mok mD_X4_refusalOf = true := by decide +kernel
theorem mD_X4_takeSent_ok : ix_mok mD_X4_takeSent = true := by decide +kernel
theorem mD_X4_logHasRoom_ok : ix_mok mD_X4_logHasRoom = true := by decide +kernel
theorem mD_X4_bookHasRoom_ok : ix_mok mD_X4_bookHasRoom = true := by decide +kernel
theorem mD_X4_registeredProducers_ok : ix_mok mD_X4_registeredProducers = true := by decide +kernel
theorem mD_X4_openTransactions_ok : ix_mok mD_X4_openTransactions = true := by decide +kernel
theorem mD_X4_openThatAdded_ok : ix_mok mD_X4_openThatAdded = true := by decide +kernel
theorem mD_X4_writeToLog_ok : ix_mok mD_X4_writeToLog = true := by decide +kernel
theorem mD_X4_writeToBook_ok : ix_mok mD_X4_writeToBook = true := by decide +kernel
theorem mD_X4_learn_ok : ix_mok mD_X4_learn = true := by decide +kernel
theorem mD_X4_markLaters_ok : ix_mok mD_X4_markLaters = true := by decide +kernel
theorem mD_X4_setMark_ok : ix_mok mD_X4_setMark = true := by decide +kernel
theorem mD_X4_raiseEpoch_ok : ix_mok mD_X4_raiseEpoch = true := by decide +kernel
theorem mD_X4_decide_ok : ix_mok mD_X4_decide = true := by decide +kernel
theorem mD_X4_finish_ok : ix_mok mD_X4_finish = true := by decide +kernel
theorem mD_X4_endOverdue_ok : ix_mok mD_X4_endOverdue = true := by decide +kernel
theorem mD_X4_finishDecided_ok : ix_mok mD_X4_finishDecided = true := by decide +kernel
theorem mD_X4_firstToEnd_ok : ix_mok mD_X4_firstToEnd = true := by decide +kernel
theorem mD_X5_init_ok : ix_mok mD_X5_init = true := by decide +kernel
theorem mD_X5_forgets_ok : ix_mok mD_X5_forgets = true := by decide +kernel
theorem mD_X5_format_ok : ix_mok mD_X5_format = true := by decide +kernel
theorem mD_X5_sizeOf_ok : ix_mok mD_X5_sizeOf = true := by decide +kernel
theorem mD_X5_bytesFrom_ok : ix_mok mD_X5_bytesFrom = true := by decide +kernel
theorem mD_X5_unsynced_ok : ix_mok mD_X5_unsynced = true := by decide +kernel
theorem mD_X5_add_ok : ix_mok mD_X5_add = true := by decide +kernel
theorem mD_X5_opened_ok : ix_mok mD_X5_opened = true := by decide +kernel
theorem mD_X5_openedAt_ok : ix_mok mD_X5_openedAt = true := by decide +kernel
theorem mD_X5_bookHas_ok : ix_mok mD_X5_bookHas = true := by decide +kernel
theorem mD_X5_refused_ok : ix_mok mD_X5_refused = true := by decide +kernel
theorem mD_X5_registers_ok : ix_mok mD_X5_registers = true := by decide +kernel
theorem mD_X5_marksOf_ok : ix_mok mD_X5_marksOf = true := by decide +kernel
theorem mD_X5_finishes_ok : ix_mok mD_X5_finishes = true := by decide +kernel
theorem mD_X5_closes_ok : ix_mok mD_X5_closes = true := by decide +kernel
theorem mD_X5_ends_ok : ix_mok mD_X5_ends = true := by decide +kernel
theorem mD_X5_register_ok : ix_mok mD_X5_register = true := by decide +kernel
theorem mD_X5_begins_ok : ix_mok mD_X5_begins = true := by decide +kernel
theorem mD_X5_begin_ok : ix_mok mD_X5_begin = true := by decide +kernel
theorem mD_X5_offsetOf_ok : ix_mok mD_X5_offsetOf = true := by decide +kernel
theorem mD_X5_nextOf_ok : ix_mok mD_X5_nextOf = true := by decide +kernel
theorem mD_X5_again_ok : ix_mok mD_X5_again = true := by decide +kernel
theorem mD_X5_send_ok : ix_mok mD_X5_send = true := by decide +kernel
theorem mD_X5_isGroup_ok : ix_mok mD_X5_isGroup = true := by decide +kernel
theorem mD_X5_isPartition_ok : ix_mok mD_X5_isPartition = true := by decide +kernel
theorem mD_X5_later_ok : ix_mok mD_X5_later = true := by decide +kernel
theorem mD_X5_later__ok : ix_mok mD_X5_later_ = true := by decide +kernel
theorem mD_X5_end_ok : ix_mok mD_X5_end = true := by decide +kernel
theorem mD_X5_mark_ok : ix_mok mD_X5_mark = true := by decide +kernel
theorem mD_X5_marked_ok : ix_mok mD_X5_marked = true := by decide +kernel
theorem mD_X5_tick_ok : ix_mok mD_X5_tick = true := by decide +kernel
theorem mD_X5_manyOf_ok : ix_mok mD_X5_manyOf = true := by decide +kernel
theorem mD_X5_stable_ok : ix_mok mD_X5_stable = true := by decide +kernel
theorem mD_X5_isSeen_ok : ix_mok mD_X5_isSeen = true := by decide +kernel
theorem mD_X5_fetch_ok : ix_mok mD_X5_fetch = true := by decide +kernel
theorem mD_X5_answer_ok : ix_mok mD_X5_answer = true := by decide +kernel
theorem mD_X5_feed_ok : ix_mok mD_X5_feed = true := by decide +kernel
theorem mD_X5_sync_ok : ix_mok mD_X5_sync = true := by decide +kernel
theorem mD_X5_crash_ok : ix_mok mD_X5_crash = true := by decide +kernel
theorem mD_X5_tells_ok : ix_mok mD_X5_tells = true := by decide +kernel
theorem mD_X5_open_ok : ix_mok mD_X5_open = true := by decide +kernel
theorem mD_X5_partition_ok : ix_mok mD_X5_partition = true := by decide +kernel
theorem mD_X5_bytesOf_ok : ix_mok mD_X5_bytesOf = true := by decide +kernel
theorem mD_X5_seenOf_ok : ix_mok mD_X5_seenOf = true := by decide +kernel
theorem mD_X5_entry_ok : ix_mok mD_X5_entry = true := by decide +kernel
theorem mD_X5_producer_ok : ix_mok mD_X5_producer = true := by decide +kernel
theorem mD_X5_next_ok : ix_mok mD_X5_next = true := by decide +kernel
theorem mD_X5_byteIn_ok : ix_mok mD_X5_byteIn = true := by decide +kernel
theorem mD_X5_behind_ok : ix_mok mD_X5_behind = true := by decide +kernel
theorem mD_X5_byteAt_ok : ix_mok mD_X5_byteAt = true := by decide +kernel
theorem mD_X5_byteOf_ok : ix_mok mD_X5_byteOf = true := by decide +kernel
theorem mD_X5_count_ok : ix_mok mD_X5_count = true := by decide +kernel
theorem mD_J7_fill_53178_ok : ix_mok mD_J7_fill_53178 = true := by decide +kernel
theorem ix_mNs_ok : ∀ q ∈ mNs, ix_mok q = true := by
  intro q hq
  simp only [mNs, List.mem_cons, List.not_mem_nil, or_false] at hq
  rcases hq with rfl | rfl | rfl | rfl | rfl | rfl | rfl | rfl | rfl | rfl | rfl | rfl | rfl | rfl | rfl | rfl | rfl | rfl | rfl | rfl | rfl | rfl | rfl | rfl | rfl | rfl | rfl | rfl | rfl | rfl | rfl | rfl | rfl | rfl | rfl | rfl | rfl | rfl | rfl | rfl | rfl | rfl | rfl | rfl | rfl | rfl | rfl | rfl | rfl | rfl | rfl | rfl | rfl | rfl | rfl | rfl | rfl | rfl | rfl | rfl | rfl | rfl | rfl | rfl | rfl | rfl | rfl | rfl | rfl | rfl | rfl | rfl | rfl | rfl | rfl | rfl | rfl | rfl | rfl | rfl | rfl | rfl | rfl | rfl | rfl | rfl | rfl | rfl | rfl | rfl | rfl | rfl | rfl | rfl | rfl | rfl | rfl | rfl | rfl | rfl | rfl | rfl | rfl | rfl | rfl | rfl | rfl | rfl | rfl | rfl | rfl | rfl | rfl | rfl | rfl | rfl | rfl | rfl | rfl | rfl | rfl | rfl | rfl | rfl | rfl | rfl | rfl | rfl | rfl | rfl | rfl | rfl | rfl | rfl | rfl | rfl | rfl | rfl | rfl
  · exact mD_X0_init_ok
  · exact mD_X0_clear_ok
  · exact mD_X0_cutTo_ok
  · exact mD_X0_at_ok
  · exact mD_X0_add_ok
  · exact mD_X0_addNumber_ok
  · exact mD_X0_number_ok
  · exact mD_X0_seal_ok
  · exact mD_X1_init_ok
  · exact mD_X1_clear_ok
  · exact mD_X1_append_ok
  · exact mD_X1_has_ok
  · exact mD_X1_startOf_ok
  · exact mD_X1_field_ok
  · exact mD_X1_kindOf_ok
  · exact mD_X1_isSeen_ok
  · exact mD_X1_dropBroken_ok
  · exact mD_X1_cutBroken_ok
  · exact mD_X1_isSentBy_ok
  · exact mD_X1_nextOf_ok
  · exact mD_X1_offsetOfRecent_ok
  · exact mD_X1_hasEndOf_ok
  · exact mD_X1_stable_ok
  · exact mD_X1_committedEntries_ok
  · exact mD_X1_firstCommitted_ok
  · exact mD_X1_firstSeen_ok
  · exact mD_X1_copyPayload_ok
  · exact mD_X2_init_ok
  · exact mD_X2_forget_ok
  · exact mD_X2_openTransaction_ok
  · exact mD_X2_closeTransaction_ok
  · exact mD_X2_isOpen_ok
  · exact mD_X2_hasAdded_ok
  · exact mD_X3_init_ok
  · exact mD_X3_clear_ok
  · exact mD_X3_note_ok
  · exact mD_X3_bytesOf_ok
  · exact mD_X3_keptOf_ok
  · exact mD_X4_init_ok
  · exact mD_X4_format_ok
  · exact mD_X4_feed_ok
  · exact mD_X4_register_ok
  · exact mD_X4_begin_ok
  · exact mD_X4_send_ok
  · exact mD_X4_later_ok
  · exact mD_X4_end_ok
  · exact mD_X4_mark_ok
  · exact mD_X4_marked_ok
  · exact mD_X4_tick_ok
  · exact mD_X4_fetch_ok
  · exact mD_X4_answer_ok
  · exact mD_X4_sync_ok
  · exact mD_X4_crash_ok
  · exact mD_X4_open_ok
  · exact mD_X4_partition_ok
  · exact mD_X4_entry_ok
  · exact mD_X4_producer_ok
  · exact mD_X4_next_ok
  · exact mD_X4_byteOf_ok
  · exact mD_X4_count_ok
  · exact mD_X4_build_ok
  · exact mD_X4_forget_ok
  · exact mD_X4_isKey_ok
  · exact mD_X4_isRegistered_ok
  · exact mD_X4_isPartition_ok
  · exact mD_X4_isPlace_ok
  · exact mD_X4_placeOf_ok
  · exact mD_X4_rowOf_ok
  · exact mD_X4_refusalOf_ok
  · exact mD_X4_takeSent_ok
  · exact mD_X4_logHasRoom_ok
  · exact mD_X4_bookHasRoom_ok
  · exact mD_X4_registeredProducers_ok
  · exact mD_X4_openTransactions_ok
  · exact mD_X4_openThatAdded_ok
  · exact mD_X4_writeToLog_ok
  · exact mD_X4_writeToBook_ok
  · exact mD_X4_learn_ok
  · exact mD_X4_markLaters_ok
  · exact mD_X4_setMark_ok
  · exact mD_X4_raiseEpoch_ok
  · exact mD_X4_decide_ok
  · exact mD_X4_finish_ok
  · exact mD_X4_endOverdue_ok
  · exact mD_X4_finishDecided_ok
  · exact mD_X4_firstToEnd_ok
  · exact mD_X5_init_ok
  · exact mD_X5_forgets_ok
  · exact mD_X5_format_ok
  · exact mD_X5_sizeOf_ok
  · exact mD_X5_bytesFrom_ok
  · exact mD_X5_unsynced_ok
  · exact mD_X5_add_ok
  · exact mD_X5_opened_ok
  · exact mD_X5_openedAt_ok
  · exact mD_X5_bookHas_ok
  · exact mD_X5_refused_ok
  · exact mD_X5_registers_ok
  · exact mD_X5_marksOf_ok
  · exact mD_X5_finishes_ok
  · exact mD_X5_closes_ok
  · exact mD_X5_ends_ok
  · exact mD_X5_register_ok
  · exact mD_X5_begins_ok
  · exact mD_X5_begin_ok
  · exact mD_X5_offsetOf_ok
  · exact mD_X5_nextOf_ok
  · exact mD_X5_again_ok
  · exact mD_X5_send_ok
  · exact mD_X5_isGroup_ok
  · exact mD_X5_isPartition_ok
  · exact mD_X5_later_ok
  · exact mD_X5_later__ok
  · exact mD_X5_end_ok
  · exact mD_X5_mark_ok
  · exact mD_X5_marked_ok
  · exact mD_X5_tick_ok
  · exact mD_X5_manyOf_ok
  · exact mD_X5_stable_ok
  · exact mD_X5_isSeen_ok
  · exact mD_X5_fetch_ok
  · exact mD_X5_answer_ok
  · exact mD_X5_feed_ok
  · exact mD_X5_sync_ok
  · exact mD_X5_crash_ok
  · exact mD_X5_tells_ok
  · exact mD_X5_open_ok
  · exact mD_X5_partition_ok
  · exact mD_X5_bytesOf_ok
  · exact mD_X5_seenOf_ok
  · exact mD_X5_entry_ok
  · exact mD_X5_producer_ok
  · exact mD_X5_next_ok
  · exact mD_X5_byteIn_ok
  · exact mD_X5_behind_ok
  · exact mD_X5_byteAt_ok
  · exact mD_X5_byteOf_ok
  · exact mD_X5_count_ok
  · exact mD_J7_fill_53178_ok
