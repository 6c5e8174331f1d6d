/-! EACH INSTRUCTION OF THE INTERPRETER IS A STEP OF THE MACHINE -/
theorem ix_mNs_tok : ∀ q ∈ mNs, ix_tok q.2.2.1 q.2.2.2.2.2.2.2.1 = true := by
  intro q hq
  simp only [mNs, List.mem_cons, List.not_mem_nil, or_false] at hq
  rcases hq with rfl | rfl | rfl | rfl | rfl | rfl | rfl | rfl | rfl | rfl | rfl | rfl | rfl | rfl | rfl | rfl | rfl | rfl | rfl | rfl | rfl | rfl | rfl | rfl | rfl | rfl | rfl | rfl | rfl | rfl | rfl | rfl | rfl | rfl | rfl | rfl | rfl | rfl | rfl | rfl | rfl | rfl | rfl | rfl | rfl | rfl | rfl | rfl | rfl | rfl | rfl | rfl | rfl | rfl | rfl | rfl | rfl | rfl | rfl | rfl | rfl | rfl | rfl | rfl | rfl | rfl | rfl | rfl | rfl | rfl | rfl | rfl | rfl | rfl | rfl | rfl | rfl | rfl | rfl | rfl | rfl | rfl | rfl | rfl | rfl | rfl | rfl | rfl | rfl | rfl | rfl | rfl | rfl | rfl | rfl | rfl | rfl | rfl | rfl | rfl | rfl | rfl | rfl | rfl | rfl | rfl | rfl | rfl | rfl | rfl | rfl | rfl | rfl | rfl | rfl | rfl | rfl | rfl | rfl | rfl | rfl | rfl | rfl | rfl | rfl | rfl | rfl | rfl | rfl | rfl | rfl | rfl | rfl | rfl | rfl | rfl | rfl | rfl | rfl
  · exact mT_X0_init_ok
  · exact mT_X0_clear_ok
  · exact mT_X0_cutTo_ok
  · exact mT_X0_at_ok
  · exact mT_X0_add_ok
  · exact mT_X0_addNumber_ok
  · exact mT_X0_number_ok
  · exact mT_X0_seal_ok
  · exact mT_X1_init_ok
  · exact mT_X1_clear_ok
  · exact mT_X1_append_ok
  · exact mT_X1_has_ok
  · exact mT_X1_startOf_ok
  · exact mT_X1_field_ok
  · exact mT_X1_kindOf_ok
  · exact mT_X1_isSeen_ok
  · exact mT_X1_dropBroken_ok
  · exact mT_X1_cutBroken_ok
  · exact mT_X1_isSentBy_ok
  · exact mT_X1_nextOf_ok
  · exact mT_X1_offsetOfRecent_ok
  · exact mT_X1_hasEndOf_ok
  · exact mT_X1_stable_ok
  · exact mT_X1_committedEntries_ok
  · exact mT_X1_firstCommitted_ok
  · exact mT_X1_firstSeen_ok
  · exact mT_X1_copyPayload_ok
  · exact mT_X2_init_ok
  · exact mT_X2_forget_ok
  · exact mT_X2_openTransaction_ok
  · exact mT_X2_closeTransaction_ok
  · exact mT_X2_isOpen_ok
  · exact mT_X2_hasAdded_ok
  · exact mT_X3_init_ok
  · exact mT_X3_clear_ok
  · exact mT_X3_note_ok
  · exact mT_X3_bytesOf_ok
  · exact mT_X3_keptOf_ok
  · exact mT_X4_init_ok
  · exact mT_X4_format_ok
  · exact mT_X4_feed_ok
  · exact mT_X4_register_ok
  · exact mT_X4_begin_ok
  · exact mT_X4_send_ok
  · exact mT_X4_later_ok
  · exact mT_X4_end_ok
  · exact mT_X4_mark_ok
  · exact mT_X4_marked_ok
  · exact mT_X4_tick_ok
  · exact mT_X4_fetch_ok
  · exact mT_X4_answer_ok
  · exact mT_X4_sync_ok
  · exact mT_X4_crash_ok
  · exact mT_X4_open_ok
  · exact mT_X4_partition_ok
  · exact mT_X4_entry_ok
  · exact mT_X4_producer_ok
  · exact mT_X4_next_ok
  · exact mT_X4_byteOf_ok
  · exact mT_X4_count_ok
  · exact mT_X4_build_ok
  · exact mT_X4_forget_ok
  · exact mT_X4_isKey_ok
  · exact mT_X4_isRegistered_ok
  · exact mT_X4_isPartition_ok
  · exact mT_X4_isPlace_ok
  · exact mT_X4_placeOf_ok
  · exact mT_X4_rowOf_ok
  · exact mT_X4_refusalOf_ok
  · exact mT_X4_takeSent_ok
  · exact mT_X4_logHasRoom_ok
  · exact mT_X4_bookHasRoom_ok
  · exact mT_X4_registeredProducers_ok
  · exact mT_X4_openTransactions_ok
  · exact mT_X4_openThatAdded_ok
  · exact mT_X4_writeToLog_ok
  · exact mT_X4_writeToBook_ok
  · exact mT_X4_learn_ok
  · exact mT_X4_markLaters_ok
  · exact mT_X4_setMark_ok
  · exact mT_X4_raiseEpoch_ok
  · exact mT_X4_decide_ok
  · exact mT_X4_finish_ok
  · exact mT_X4_endOverdue_ok
  · exact mT_X4_finishDecided_ok
  · exact mT_X4_firstToEnd_ok
  · exact mT_X5_init_ok
  · exact mT_X5_forgets_ok
  · exact mT_X5_format_ok
  · exact mT_X5_sizeOf_ok
  · exact mT_X5_bytesFrom_ok
  · exact mT_X5_unsynced_ok
  · exact mT_X5_add_ok
  · exact mT_X5_opened_ok
  · exact mT_X5_openedAt_ok
  · exact mT_X5_bookHas_ok
  · exact mT_X5_refused_ok
  · exact mT_X5_registers_ok
  · exact mT_X5_marksOf_ok
  · exact mT_X5_finishes_ok
  · exact mT_X5_closes_ok
  · exact mT_X5_ends_ok
  · exact mT_X5_register_ok
  · exact mT_X5_begins_ok
  · exact mT_X5_begin_ok
  · exact mT_X5_offsetOf_ok
  · exact mT_X5_nextOf_ok
  · exact mT_X5_again_ok
  · exact mT_X5_send_ok
  · exact mT_X5_isGroup_ok
  · exact mT_X5_isPartition_ok
  · exact mT_X5_later_ok
  · exact mT_X5_later__ok
  · exact mT_X5_end_ok
  · exact mT_X5_mark_ok
  · exact mT_X5_marked_ok
  · exact mT_X5_tick_ok
  · exact mT_X5_manyOf_ok
  · exact mT_X5_stable_ok
  · exact mT_X5_isSeen_ok
  · exact mT_X5_fetch_ok
  · exact mT_X5_answer_ok
  · exact mT_X5_feed_ok
  · exact mT_X5_sync_ok
  · exact mT_X5_crash_ok
  · exact mT_X5_tells_ok
  · exact mT_X5_open_ok
  · exact mT_X5_partition_ok
  · exact mT_X5_bytesOf_ok
  · exact mT_X5_seenOf_ok
  · exact mT_X5_entry_ok
  · exact mT_X5_producer_ok
  · exact mT_X5_next_ok
  · exact mT_X5_byteIn_ok
  · exact mT_X5_behind_ok
  · exact mT_X5_byteAt_ok
  · exact mT_X5_byteOf_ok
  · exact mT_X5_count_ok
  · exact mT_J7_fill_53178_ok
theorem ix_dec {T : ix_T} {cc : ByteArray} {pc n : Nat} {i : Instr} (hT : ix_tok cc T = true) (h : ix_at T pc = some (i, n)) : decode cc pc = .ok (i, n) ∧ (pc, i, n) ∈ T := by
  unfold ix_at at h
  cases hf : T.find? (fun x => x.1 == pc) with
  | none => rw [hf] at h; cases h
  | some x =>
    rw [hf] at h
    have h1 := List.find?_some hf
    have h2 := List.mem_of_find?_eq_some hf
    obtain ⟨j, w⟩ := x
    simp at h1 h
    subst h1; subst h
    have h3 := List.all_eq_true.mp hT _ h2
    exact ⟨of_decide_eq_true h3, h2⟩
theorem ix_cls_facts : ∀ ci, ci ≤ 5 → vwCl[ci]? = some (ix_RC ci, ix_TT ci, ix_NN ci) ∧ (∀ w ∈ u_ws (ix_RC ci) (ix_TT ci) (ix_NN ci), w ∈ ix_tb) ∧ (∀ a, a < ix_NN ci → ∀ b, b < ix_NN ci → a ≠ b → (ix_TT ci a).2.1 ≠ (ix_TT ci b).2.1) ∧ ∀ k, k < ix_NN ci → parseFieldDescriptor (ix_TT ci k).2.2.1 = some (ix_ty ci k) := by
  intro ci h
  rcases (by omega : ci = 0 ∨ ci = 1 ∨ ci = 2 ∨ ci = 3 ∨ ci = 4 ∨ ci = 5) with rfl | rfl | rfl | rfl | rfl | rfl
  · exact ⟨rfl, fun w hw => List.mem_filter.mpr ⟨iX0 w hw, (by decide +kernel : ∀ w ∈ wsX00, goodWord w = true) w hw⟩, nmX0, tyX0_ok⟩
  · exact ⟨rfl, fun w hw => List.mem_filter.mpr ⟨iX1 w hw, (by decide +kernel : ∀ w ∈ wsX10, goodWord w = true) w hw⟩, nmX1, tyX1_ok⟩
  · exact ⟨rfl, fun w hw => List.mem_filter.mpr ⟨iX2 w hw, (by decide +kernel : ∀ w ∈ wsX20, goodWord w = true) w hw⟩, nmX2, tyX2_ok⟩
  · exact ⟨rfl, fun w hw => List.mem_filter.mpr ⟨iX3 w hw, (by decide +kernel : ∀ w ∈ wsX30, goodWord w = true) w hw⟩, nmX3, tyX3_ok⟩
  · exact ⟨rfl, fun w hw => List.mem_filter.mpr ⟨iX4 w hw, (by decide +kernel : ∀ w ∈ wsX40, goodWord w = true) w hw⟩, nmX4, tyX4_ok⟩
  · exact ⟨rfl, fun w hw => List.mem_filter.mpr ⟨iX5 w hw, (by decide +kernel : ∀ w ∈ wsX50, goodWord w = true) w hw⟩, nmX5, tyX5_ok⟩
theorem ix_fld_ok {cn idx nest ci k i : Nat} (h : ix_fld cn idx = some (nest, ci, k, i)) : ci ≤ 5 ∧ k < ix_NN ci ∧ lw_tbl[i]? = some (if nest = 0 then .fieldLink (ix_RC cn) idx (ix_TT ci k).1 (ix_TT ci k).2.1 (ix_TT ci k).2.2.1 else .fieldLinkNest (ix_RC cn) idx (ix_TT ci k).1 (ix_TT ci k).2.1 (ix_TT ci k).2.2.1 "OnceLedger") := by
  unfold ix_fld at h
  cases hf : ix_FT.find? (fun x => x.1 == cn && x.2.1 == idx) with
  | none => rw [hf] at h; cases h
  | some x =>
    rw [hf] at h
    have h1 := List.find?_some hf
    have h2 := List.all_eq_true.mp ix_FT_ok _ (List.mem_of_find?_eq_some hf)
    obtain ⟨a1, a2, a3, a4, a5, a6⟩ := x
    simp only [Option.map_some, Option.some.injEq, Prod.mk.injEq] at h
    obtain ⟨rfl, rfl, rfl, rfl⟩ := h
    simp only [Bool.and_eq_true, beq_iff_eq] at h1
    obtain ⟨rfl, rfl⟩ := h1
    simp only [ix_fok, Bool.and_eq_true, decide_eq_true_eq] at h2
    exact ⟨h2.1.1, h2.1.2, h2.2⟩
theorem ix_con_ok {cn idx i : Nat} {v : Int32} (h : ix_con cn idx = some (v, i)) : lw_tbl[i]? = some (.constant (ix_RC cn) idx v) := by
  unfold ix_con at h
  cases hf : ix_KT.find? (fun x => x.1 == cn && x.2.1 == idx) with
  | none => rw [hf] at h; cases h
  | some x =>
    rw [hf] at h
    have h1 := List.find?_some hf
    have h2 := List.all_eq_true.mp ix_KT_ok _ (List.mem_of_find?_eq_some hf)
    obtain ⟨a1, a2, a3, a4⟩ := x
    simp only [Option.map_some, Option.some.injEq, Prod.mk.injEq] at h
    obtain ⟨rfl, rfl⟩ := h
    simp only [Bool.and_eq_true, beq_iff_eq] at h1
    obtain ⟨rfl, rfl⟩ := h1
    simpa only [ix_kok, decide_eq_true_eq] using h2
theorem ix_cnl_ok {cn idx i : Nat} {v : Int64} (h : ix_cnl cn idx = some (v, i)) : lw_tbl[i]? = some (.constantLong (ix_RC cn) idx v) := by
  unfold ix_cnl at h
  cases hf : ix_KL.find? (fun x => x.1 == cn && x.2.1 == idx) with
  | none => rw [hf] at h; cases h
  | some x =>
    rw [hf] at h
    have h1 := List.find?_some hf
    have h2 := List.all_eq_true.mp ix_KL_ok _ (List.mem_of_find?_eq_some hf)
    obtain ⟨a1, a2, a3, a4⟩ := x
    simp only [Option.map_some, Option.some.injEq, Prod.mk.injEq] at h
    obtain ⟨rfl, rfl⟩ := h
    simp only [Bool.and_eq_true, beq_iff_eq] at h1
    obtain ⟨rfl, rfl⟩ := h1
    simpa only [ix_lok, decide_eq_true_eq] using h2
theorem ix_cls_ok {cn idx ci i : Nat} (h : ix_cls cn idx = some (ci, i)) : ci ≤ 5 ∧ lw_tbl[i]? = some (.classLink (ix_RC cn) idx (ix_RC ci)) := by
  unfold ix_cls at h
  cases hf : ix_CT.find? (fun x => x.1 == cn && x.2.1 == idx) with
  | none => rw [hf] at h; cases h
  | some x =>
    rw [hf] at h
    have h1 := List.find?_some hf
    have h2 := List.all_eq_true.mp ix_CT_ok _ (List.mem_of_find?_eq_some hf)
    obtain ⟨a1, a2, a3, a4⟩ := x
    simp only [Option.map_some, Option.some.injEq, Prod.mk.injEq] at h
    obtain ⟨rfl, rfl⟩ := h
    simp only [Bool.and_eq_true, beq_iff_eq] at h1
    obtain ⟨rfl, rfl⟩ := h1
    simpa only [ix_cok, Bool.and_eq_true, decide_eq_true_eq] using h2
theorem ix_mth_ok {cn idx nest y i : Nat} (h : ix_mth cn idx = some (nest, y, i)) : (nest = 2 → lw_tbl[i]? = some (.methodLink (ix_RC cn) idx objectInit)) ∧ (nest = 3 → lw_tbl[i]? = some (.methodLink (ix_RC cn) idx Lib.Math.max.name)) ∧ (nest = 4 → lw_tbl[i]? = some (.methodLink (ix_RC cn) idx Lib.Math.min.name)) ∧ (¬ nest = 2 → ¬ nest = 3 → ¬ nest = 4 → ∃ q, mNs[y]? = some q ∧ lw_tbl[i]? = some (if nest = 0 then .methodLink (ix_RC cn) idx q.2.1 else .methodLinkNest (ix_RC cn) idx q.2.1 "OnceLedger")) := by
  unfold ix_mth at h
  cases hf : ix_MT.find? (fun x => x.1 == cn && x.2.1 == idx) with
  | none => rw [hf] at h; cases h
  | some x =>
    rw [hf] at h
    have h1 := List.find?_some hf
    have h2 := List.all_eq_true.mp ix_MT_ok _ (List.mem_of_find?_eq_some hf)
    obtain ⟨a1, a2, a3, a4, a5⟩ := x
    simp only [Option.map_some, Option.some.injEq, Prod.mk.injEq] at h
    obtain ⟨rfl, rfl, rfl⟩ := h
    simp only [Bool.and_eq_true, beq_iff_eq] at h1
    obtain ⟨rfl, rfl⟩ := h1
    unfold ix_hok at h2
    refine ⟨fun z => ?_, fun z => ?_, fun z => ?_, fun z z3 z4 => ?_⟩
    · simp only [z, if_true, decide_eq_true_eq] at h2
      exact h2
    · subst z
      simpa using h2
    · subst z
      simpa using h2
    · simp only [z, z3, z4, if_false] at h2
      cases hq : mNs[a4]? with
      | none => simp [hq] at h2
      | some q =>
        simp only [hq, decide_eq_true_eq] at h2
        exact ⟨q, rfl, h2⟩
theorem ix_ok_fit {b base : Nat} {ty : FieldType} {v : Value} (h : ix_ok ty v = true) : narrow ty (ix_cv b base v) = ix_cv b base v ∧ fits ty (ix_cv b base v) = true := by
  unfold ix_ok at h
  split at h
  · exact ⟨rfl, rfl⟩
  · have h := of_decide_eq_true h
    rcases h with rfl | rfl
    · exact (by decide +kernel : narrow .boolean (.int 0) = .int 0 ∧ fits .boolean (.int 0) = true)
    · exact (by decide +kernel : narrow .boolean (.int 1) = .int 1 ∧ fits .boolean (.int 1) = true)
  · exact ⟨rfl, rfl⟩
  · exact ⟨rfl, rfl⟩
  · cases h
/-- the machine at every state that an abstract frame pictures -/
def ix_W (p : Program) (l : Launch) (e : Env) (R : Room) (s : State) (m : MethodId) (args : Array Value) (below : List Frame) (meth : Method) (c : Code) (Q : State → Prop) (D : va_G) (b base : Nat) (aC : FieldType → ClassId) (q : ix_M) (h0 : ix_H) (f : ix_F) : Prop :=
  ∀ (H : Heap) (locs : List Loc) (la : Array Slot), ix_I D b base aC s.heap f.2.2.2 H locs → lv_has la q.2.2.2.1 (f.2.1.map (ix_cp b base)) → W p l e R s m args below meth c H locs (f.2.2.2.1 - h0.1) (f.2.2.2.2.1 - h0.2.1) Q (F0 m f.1 la (f.2.2.1.map (ix_cv b base)))
/-- what holds of the method that runs -/
def ix_X (p : Program) (R : Room) (s : State) (m : MethodId) (args : Array Value) (meth : Method) (c : Code) (D : va_G) (b base : Nat) (aC : FieldType → ClassId) (q : ix_M) (S : ix_S) : Prop :=
  p.tables.exec = Jvm.exec ∧ c.code = q.2.2.1 ∧ meth.sig.returnType = q.2.2.2.2.1 ∧ c.maxLocals = q.2.2.2.1 ∧ s.vm.findClass (ix_RC q.1) = some m.cls ∧ (∀ w ∈ ix_tb, w.before args s = true) ∧ ix_K D aC s ∧
  (∀ (L : Nat) (xs : Nat → Int32), S = some (L, xs) → va_X b L xs s s.heap ∧ b < s.heap.size ∧ b < base) ∧ (q.2.2.2.2.2.2.1 = 2 → meth.name = "<init>") ∧ meth.locks = false ∧ ix_tok q.2.2.1 q.2.2.2.2.2.2.2.1 = true ∧ ix_tln q.2.2.2.2.2.2.2.1 = true ∧ 1 ≤ R.frames ∧ 38 ≤ R.locals
section IXW
variable {p : Program} {l : Launch} {e : Env} {R : Room} {s : State} {m : MethodId} {args : Array Value} {below : List Frame} {meth : Method} {c : Code} {Q : State → Prop}
variable {D : va_G} {b base : Nat} {aC : FieldType → ClassId} {q : ix_M} {h0 : ix_H} {S : ix_S} {pc : Nat} {ls : ix_L} {st : List Value} {h : ix_H} {f : ix_F}
theorem ix_word {w : Jvm.Cond} {i : Nat} (hts : ∀ w ∈ ix_tb, w.before args s = true) (h : lw_tbl[i]? = some w) (hg : goodWord w = true) : w.before args s = true := hts _ (List.mem_filter.mpr ⟨List.mem_of_getElem? h, hg⟩)
theorem ix_w_pure {H : Heap} {locs : List Loc} {cells slots : Nat} {la : Array Slot} {cc : ByteArray} (hx : p.tables.exec = Jvm.exec) (hb : c.code = cc) {i : Instr} {st' : List Value} (hp : ix_pure i st = some st') (hd : decode cc pc = .ok (i, ix_len i))
    (k : W p l e R s m args below meth c H locs cells slots Q (F0 m (pc + ix_len i) la (st'.map (ix_cv b base)))) : W p l e R s m args below meth c H locs cells slots Q (F0 m pc la (st.map (ix_cv b base))) := by
  unfold ix_pure at hp
  split at hp
  · cases hp; exact lv_iconst hx hb hd rfl k
  · cases hp; exact lv_bipush hx hb hd rfl k
  · cases hp; exact lv_sipush hx hb hd rfl k
  · split at hp
    · cases hp; exact lv_iadd hx hb hd k
    · cases hp
  · split at hp
    · cases hp; exact lv_isub hx hb hd k
    · cases hp
  · split at hp
    · cases hp; exact lv_imul hx hb hd k
    · cases hp
  · split at hp
    · cases hp; exact lv_iand hx hb hd k
    · cases hp
  · split at hp
    · cases hp; exact lv_ior hx hb hd k
    · cases hp
  · split at hp
    · cases hp; exact lv_ixor hx hb hd k
    · cases hp
  · split at hp
    · cases hp; exact lv_ishl hx hb hd k
    · cases hp
  · split at hp
    · cases hp; exact lv_ishr hx hb hd k
    · cases hp
  · split at hp
    · cases hp; exact lv_iushr hx hb hd rfl k
    · cases hp
  · split at hp
    · split at hp
      · cases hp
      · rename_i hz; cases hp; exact lv_irem hx hb hd hz k
    · cases hp
  · split at hp
    · split at hp
      · cases hp
      · rename_i hz; cases hp; exact lv_idiv hx hb hd hz k
    · cases hp
  · split at hp
    · cases hp; exact lv_ineg hx hb hd k
    · cases hp
  · split at hp
    · cases hp; exact lv_i2l hx hb hd rfl k
    · cases hp
  · split at hp
    · cases hp; exact lv_l2i hx hb hd rfl k
    · cases hp
  · split at hp
    · cases hp; exact lv_i2b hx hb hd rfl k
    · cases hp
  · split at hp
    · cases hp; exact lv_land hx hb hd k
    · cases hp
  · split at hp
    · cases hp; exact lv_lor hx hb hd k
    · cases hp
  · split at hp
    · cases hp; exact lv_lshl hx hb hd rfl k
    · cases hp
  · split at hp
    · cases hp; exact lv_lshr hx hb hd rfl k
    · cases hp
  · split at hp
    · cases hp; exact lv_lushr hx hb hd rfl k
    · cases hp
  · split at hp
    · split at hp
      · rename_i hz; cases hp; exact lv_dup hx hb hd (by rw [ix_cv_cat]; exact hz) k
      · cases hp
    · cases hp
  · split at hp
    · split at hp
      · rename_i hz; cases hp; exact lv_pop hx hb hd (by rw [ix_cv_cat]; exact hz) k
      · cases hp
    · cases hp
  · split at hp
    · split at hp
      · rename_i hz; cases hp; exact lv_dup2_11 hx hb hd (by rw [ix_cv_cat]; exact hz.1) (by rw [ix_cv_cat]; exact hz.2) k
      · cases hp
    · cases hp
  · cases hp
end IXW
