/-! THE CLAIM OUT OF A RUN OF THE INTERPRETER -/
def mD_law : ix_M := (6, yL_law, cL_law, 4, some .boolean, 1, 1, mT_L_law, 0, 0, 0)
/-- WHAT IS LEFT TO PROVE, without the machine: the interpreter runs the law to its end, with 1, in the claim's room -/
def ix_claim : Prop := ∀ (L : Nat) (xs : Nat → Int32), L ≤ 3072 → ∃ (n : Nat) (hF : ix_H), ix_run (some (L, xs)) (ix_Ev 8) mD_law n (0, [(0, .retAddr 0)], [], (0, 0, fun _ => ix_no_)) (some (.int 1), hF) ∧ hF.1 ≤ 600000 ∧ hF.2.1 ≤ 7302250
/-! THE CLAIM OUT OF ONE WALK OF THE LAW'S BODY. Your part is whole_start (and what it stands on); all else here is the same for every law, but numbers. -/
def R_law : String := "OnceLedgerLaw"
def lw_P (b : Addr) (xs : List Int32) (args : Array Value) (s : State) : Prop := args = #[.ref b] ∧ s.IntsAt b xs ∧ xs.length ≤ 3072 ∧ (Jvm.Cond.and given_1 narrow_1).before args s = true
def lw_Q (_ : Array Value) (s : State) (o : Outcome) (t : State) : Prop := o = .returned (some (.int 1)) ∧ Framed s o t [] 600000 7302250
def lw_Z (below : List Frame) (a : Array Value) (s : State) : State → Prop := fun t => ∃ o, t.status = .running ∧ Ended t below o ∧ lw_Q a s o t
/-- the law's own end, with 1 on the stack, nothing written that was there before, its room as the claim has it -/
theorem lw_ret {p : Program} {l : Launch} {e : Env} {s : State} {m : MethodId} {below : List Frame} {meth : Method} {c : Code} {b : Nat} (hx : p.tables.exec = Jvm.exec) (hb : c.code = code) (hr : meth.sig.returnType = ret) (hlocks : meth.locks = false) {pc : Nat} {H : Heap} {ls : Array Slot} (hdg : decode code pc = .ok (.ireturn, 1)) : W p l e room_1 s m #[Value.ref b] below meth c H [] 600000 7302250 (lw_Z below #[Value.ref b] s) (F0 m pc ls [.int 1]) := by
  intro T hT X
  obtain ⟨fs, hret, hrun, hended, hW, hframe⟩ := X.leave (v := some (.int 1)) (hlocks := hlocks) (fun h => by rw [hr] at h; cases h)
  have hmeth' : T.vm.method? m = some meth := X.method'
  refine ⟨T.setFrames fs, ?_, .returned (some (.int 1)), hrun, hended, rfl, ⟨_, rfl⟩, hW, hframe⟩
  jvm_step X.here [X.here.top, hx, hb, hdg, hmeth', hr, ret, narrow_b1]
  (try refine ⟨rfl, ?_⟩); (try refine ⟨rfl, ?_⟩)
  first | (intro acts; rw [hret _ acts rfl rfl rfl]) | rw [hret _ _ rfl rfl rfl]
  exact Steps.refl _
/-- what holds at the law's entry: the machine, the code, the tables' words (any of lw_tbl by 'hts w (by decide +kernel)'), the script of L ints xs at the cell b, what the Statement gives of the start (any of its parts by flat_of_before) -/
def lw_At (p : Program) (s : State) (m : MethodId) (meth : Method) (c : Code) (b L : Nat) (xs : Nat → Int32) : Prop :=
  p.tables.exec = Jvm.exec ∧ c.code = code ∧ meth.sig.returnType = ret ∧ c.maxLocals = 4 ∧ s.vm.findClass R_law = some m.cls ∧ (∀ w ∈ lw_tbl, w.before #[Value.ref b] s = true) ∧ va_X b L xs s s.heap ∧ b < s.heap.size ∧ meth.locks = false ∧ (Jvm.Cond.and given_1 narrow_1).before #[Value.ref b] s = true
theorem mT_L_law_tln : ix_tln mT_L_law = true := by decide +kernel
theorem ix_law_ret {S : ix_S} {f : ix_F} {o : ix_O} {v : Int32} (ho : o.1 = some (.int v)) (hr : ix_step S mD_law f = some (.inr (.inl o))) : decode cL_law f.1 = .ok (.ireturn, 1) ∧ f.2.2.1 = [.int v] ∧ o.2 = f.2.2.2 := by
  unfold ix_step at hr
  split at hr
  · rename_i i n hat
    obtain ⟨hd, hmem⟩ := ix_dec (cc := cL_law) mT_L_law_ok hat
    have hnl := ix_tln_ok mT_L_law_tln hmem
    obtain ⟨pc, ls, st, h⟩ := f
    simp only at hr hd ⊢
    unfold ix_exec at hr
    split at hr
    all_goals (first | unfold ix_ldI at hr | unfold ix_ldL at hr | unfold ix_ldA at hr | unfold ix_stI at hr | unfold ix_stL at hr | unfold ix_stA at hr | unfold ix_gf at hr | unfold ix_pf at hr | unfold ix_al at hr | unfold ix_ia at hr | unfold ix_ba at hr | unfold ix_aa at hr | unfold ix_is at hr | unfold ix_bs at hr | unfold ix_as at hr | unfold ix_na at hr | unfold ix_nq at hr | unfold ix_no at hr | (unfold ix_call at hr; simp only at hr) | skip)
    all_goals (try unfold ix_goto at hr)
    all_goals (try unfold ix_br at hr)
    all_goals (repeat' split at hr)
    all_goals first
      | (cases hr; done)
      | skip
    · cases hr
      cases ho
      have hn1 : n = 1 := by rcases hnl with ⟨_, _, _, _, z⟩ | z; cases z; exact z
      subst hn1
      exact ⟨hd, rfl, rfl⟩
    · cases hr
      cases ho
    · cases hr
      cases ho
  · cases hr
set_option maxHeartbeats 4000000 in
theorem whole_start_of (hp : ix_claim) {p : Program} {e : Env} {s : State} {m : MethodId} {below : List Frame} {meth : Method} {c : Code} (l : Launch) {b L : Nat} {xs : Nat → Int32} (hL : L ≤ 3072) (C0 : lw_At p s m meth c b L xs) : W p l e room_1 s m #[Value.ref b] below meth c s.heap [] 0 0 (lw_Z below #[Value.ref b] s) (entryFrame m ([Value.ref b] : List Value).toArray 4) := by
  obtain ⟨hx, hb, hr, hml, hown, hts, hX, hbl, hlocks, hgv⟩ := id C0
  have hts' : ∀ w ∈ ix_tb, w.before #[Value.ref b] s = true := fun w hw => hts w (List.mem_filter.mp hw).1
  have hcl : ∀ ci, ci ≤ 5 → ∃ (cC : ClassId) (iS : Nat → Nat), u_Kn s (ix_RC ci) (ix_TT ci) (ix_NN ci) cC iS := fun ci h5 => u_known hts' (ix_cls_facts ci h5).2.1 (ix_word hts' (ix_ins_ok ci (by omega)).1 rfl)
  obtain ⟨dC, dI, hKc⟩ : ∃ (dC : Nat → ClassId) (dI : Nat → Nat → Nat), ∀ (k : Nat) (q : vw_C), vwCl[k]? = some q → u_Kn s q.1 q.2.1 q.2.2 (dC k) (dI k) := by
    refine ⟨fun k => if h : k ≤ 5 then (hcl k h).choose else 0, fun k => if h : k ≤ 5 then (hcl k h).choose_spec.choose else fun _ => 0, ?_⟩
    intro k q hq
    have h6 := (List.getElem?_eq_some_iff.mp hq).1
    have h7 : vwCl.length = 6 := rfl
    have h5 : k ≤ 5 := by omega
    rw [(ix_cls_facts k h5).1] at hq
    cases hq
    simp only [h5, dite_true]
    exact (hcl k h5).choose_spec.choose_spec
  have hprim : ∀ (i : Nat) (t : FieldType), lw_tbl[i]? = some (.arrayClass t) → (∀ cA, va_RA s cA t = (s.vm.findClass ("[" ++ t.toString) = some cA)) → ∃ cA : ClassId, ArrOfT s cA t ∧ va_RA s cA t := by
    intro i t hw hRA
    obtain ⟨cA, kA, comp, f1, f2, f3⟩ := Cond.arrayClass_spec (ix_word hts' hw rfl)
    exact ⟨cA, fun n z => ⟨fun k h => (by cases h), kA, f2, comp, f3⟩, by rw [hRA]; exact f1⟩
  have hAO : va_AO RX1 s ∧ va_AO RX2 s := ⟨va_AO.of (hts (.arrayOver (.object RX1)) (by decide +kernel)), va_AO.of (hts (.arrayOver (.object RX2)) (by decide +kernel))⟩
  have hobj : ∀ C : String, va_AO C s → ∃ cA : ClassId, ArrOfT s cA (.object C) ∧ va_RA s cA (.object C) := by
    intro C h
    obtain ⟨comp, cA, kA, f4, -, f2, f3, f1⟩ := Cond.arrayOver_spec h
    exact ⟨cA, fun n z => ⟨fun k h => (by cases h), kA, f2, comp, f3⟩, kA, comp, f2, f3, f4, f1⟩
  obtain ⟨w7, w8, w9⟩ := ix_mw_ok.2.2.2.2.2.2.2
  obtain ⟨a0, b0⟩ := hprim _ .int w7 (fun _ => rfl)
  obtain ⟨a1, b1⟩ := hprim _ .byte w8 (fun _ => rfl)
  obtain ⟨a2, b2⟩ := hprim _ .boolean w9 (fun _ => rfl)
  obtain ⟨a3, b3⟩ := hobj RX1 hAO.1
  obtain ⟨a4, b4⟩ := hobj RX2 hAO.2
  obtain ⟨aC, c0, c1, c2, c3, c4⟩ : ∃ aC : FieldType → ClassId, aC .int = a0 ∧ aC .byte = a1 ∧ aC .boolean = a2 ∧ aC (.object RX1) = a3 ∧ aC (.object RX2) = a4 := by
    refine ⟨fun t => if t = .int then a0 else if t = .byte then a1 else if t = .boolean then a2 else if t = .object RX1 then a3 else a4, rfl, rfl, rfl, ?_, ?_⟩
    · simp
    · simp [show ¬ (RX2 = RX1) by decide +kernel]
  have hK : ix_K (dC, dI) aC s := by
    refine ⟨⟨hKc, fun k q hq => ?_⟩, fun w hw => ?_, hAO⟩
    · unfold ix_tys at hq
      rw [c0, c1, c2, c3, c4] at hq
      match k, hq with
      | 0, hq => cases hq; exact b0
      | 1, hq => cases hq; exact b1
      | 2, hq => cases hq; exact b2
      | 3, hq => cases hq; exact b3
      | 4, hq => cases hq; exact b4
      | k + 5, hq => simp at hq
    · have h5 := hts w (List.mem_filter.mp hw).1
      have h6 := (List.mem_filter.mp hw).2
      cases w <;> first | (cases h6; done) | exact va_Nw.of rfl h5
  have X : ix_X p room_1 s m #[Value.ref b] meth c (dC, dI) b s.heap.size aC mD_law (some (L, xs)) :=
    ⟨hx, hb, hr, hml, hown, hts', hK, fun L' xs' z => (by cases z; exact ⟨hX, hbl, hbl⟩), fun z => absurd z (by decide), hlocks, mT_L_law_ok, mT_L_law_tln, by decide, by decide⟩
  obtain ⟨n, hF, hrun, hc, hs⟩ := hp L xs hL
  have hW := ix_W_run (l := l) (e := e) (below := below) (h0 := (0, 0, fun _ => ix_no_)) (Q := lw_Z below #[Value.ref b] s) X (d := 8) (ix_sound l (dC, dI) b s.heap.size aC 8) ⟨by decide, by decide⟩ (o := (some (.int 1), hF)) ⟨hc, hs⟩ (fun f hf => by
    obtain ⟨r1, r2, r3⟩ := ix_law_ret rfl hf
    intro H locs la hI hl
    rw [r2]
    refine va_forget hI.2.2.2.2.2 (W.widen (k := 600000) (n := 7302250) ?_ ?_ (lw_ret hx hb hr hlocks r1))
    · rw [← r3]; exact hc
    · rw [← r3]; exact hs) n _ hrun ⟨Nat.le_refl _, Nat.le_refl _⟩
  rw [lg_entry_eq]
  have hl := lv_entry ([.ref b]) (n := 4) (Nat.le_of_ble_eq_true rfl)
  exact hW s.heap [] _ ⟨rfl, fun _ _ => rfl, fun k q h => by simp [ix_ws] at h, va_S.rf⟩ hl
