/-! WHAT THE INTERPRETER COMES TO, THE MACHINE COMES TO -/
theorem ix_sl_len (b base : Nat) (as : List Value) : (lg_sl (as.map (ix_cv b base))).length = (lg_sl as).length := by
  induction as with
  | nil => rfl
  | cons v as ih =>
    have h1 : lg_sl (v :: as) = (if v.category = 2 then [.val v, .second] else [.val v]) ++ lg_sl as := rfl
    have h2 : lg_sl ((v :: as).map (ix_cv b base)) = (if (ix_cv b base v).category = 2 then [.val (ix_cv b base v), .second] else [.val (ix_cv b base v)]) ++ lg_sl (as.map (ix_cv b base)) := rfl
    rw [h1, h2, List.length_append, List.length_append, ih, ix_cv_cat]
    split <;> rfl
theorem ix_tln_ok {T : ix_T} {pc n : Nat} {i : Instr} (hT : ix_tln T = true) (h : (pc, i, n) ∈ T) : (∃ d lo hi offs, i = .tableswitch d lo hi offs) ∨ n = ix_len i := by
  have h1 := List.all_eq_true.mp hT _ h
  simp only at h1
  split at h1
  · exact Or.inl ⟨_, _, _, _, rfl⟩
  · exact Or.inr (by simpa using h1)
theorem ix_call_h {cn kd idx pc y : Nat} {ls : ix_L} {st as : List Value} {h : ix_H} {g : ix_F} (hr : ix_call cn kd idx pc ls st h = some (.inr (.inr (y, as, g)))) : g.2.2.2 = h := by
  unfold ix_call at hr
  simp only at hr
  repeat' split at hr
  all_goals first
    | (cases hr; done)
    | (cases hr; rfl)
set_option maxHeartbeats 8000000 in
theorem ix_exec_call {S : ix_S} {q : ix_M} {i : Instr} {pc : Nat} {ls : ix_L} {st : List Value} {h : ix_H} {w : Nat × List Value × ix_F} (hr : ix_exec S q i pc ls st h = some (.inr (.inr w))) : ∃ kd idx, ((kd = 0 ∧ i = .invokevirtual idx) ∨ (kd = 1 ∧ i = .invokestatic idx) ∨ (kd = 2 ∧ i = .invokespecial idx)) ∧ ix_call q.1 kd idx pc ls st h = some (.inr (.inr w)) := by
  unfold ix_exec at hr
  split at hr
  all_goals first
    | exact ⟨0, _, Or.inl ⟨rfl, rfl⟩, hr⟩
    | exact ⟨1, _, Or.inr (Or.inl ⟨rfl, rfl⟩), hr⟩
    | exact ⟨2, _, Or.inr (Or.inr ⟨rfl, rfl⟩), hr⟩
    | skip
  all_goals (first | unfold ix_ldI at hr | unfold ix_ldL at hr | unfold ix_ldA at hr | unfold ix_stI at hr | unfold ix_stL at hr | unfold ix_stA at hr | unfold ix_gf at hr | unfold ix_pf at hr | unfold ix_al at hr | unfold ix_ia at hr | unfold ix_ba at hr | unfold ix_aa at hr | unfold ix_is at hr | unfold ix_bs at hr | unfold ix_as at hr | unfold ix_na at hr | unfold ix_nq at hr | unfold ix_no at hr | skip)
  all_goals (try unfold ix_goto at hr)
  all_goals (try unfold ix_br at hr)
  all_goals (repeat' split at hr)
  all_goals (cases hr; done)
section IXM
variable {p : Program} {l : Launch} {e : Env} {R : Room} {s : State} {m : MethodId} {args : Array Value} {below : List Frame} {meth : Method} {c : Code} {Q : State → Prop}
variable {D : va_G} {b base : Nat} {aC : FieldType → ClassId} {q : ix_M} {h0 : ix_H} {S : ix_S}
/-- a run of the interpreter, with what its calls come to and its own end given -/
theorem ix_W_run (X : ix_X p R s m args meth c D b base aC q S) {d : Nat} (hM : ∀ (y : Nat) (as : List Value) (h : ix_H) (o : ix_O), ix_Ev d y as h o → ix_Met l D b base aC d y as h o) (hR : d + 1 ≤ R.frames ∧ 38 * d + 38 ≤ R.locals) {o : ix_O} (hhi : o.2.1 - h0.1 ≤ R.cells ∧ o.2.2.1 - h0.2.1 ≤ R.slots)
    (hret : ∀ f : ix_F, ix_step S q f = some (.inr (.inl o)) → ix_W p l e R s m args below meth c Q D b base aC q h0 f) :
    ∀ (n : Nat) (f : ix_F), ix_run S (ix_Ev d) q n f o → h0.1 ≤ f.2.2.2.1 ∧ h0.2.1 ≤ f.2.2.2.2.1 → ix_W p l e R s m args below meth c Q D b base aC q h0 f := by
  intro n
  induction n with
  | zero => intro f z; exact z.elim
  | succ n ih =>
    intro f z hlo
    unfold ix_run at z
    split at z
    · exact z.elim
    · rename_i g hs
      have hm := ix_step_mono hs
      have hm2 := ix_run_mono (ix_Ev_mono d) n g o z
      have kk := ih g z ⟨Nat.le_trans hlo.1 hm.1, Nat.le_trans hlo.2 hm.2⟩
      unfold ix_step at hs
      split at hs
      · rename_i i n' hat
        obtain ⟨hd, hmem⟩ := ix_dec X.2.2.2.2.2.2.2.2.2.2.1 hat
        have hn := ix_tln_ok X.2.2.2.2.2.2.2.2.2.2.2.1 hmem
        obtain ⟨pc, ls, st, h⟩ := f
        exact ix_w_exec X hs hd hn hlo ⟨by omega, by omega⟩ kk
      · cases hs
    · rename_i u hs
      subst z
      exact hret f hs
    · rename_i y as pc' ls' st' h' hs
      obtain ⟨v, h2, hc, hn⟩ := z
      have hm1 := ix_Ev_mono d _ _ _ _ hc
      have hm2 := ix_run_mono (ix_Ev_mono d) n _ o hn
      unfold ix_step at hs
      split at hs
      · rename_i i n' hat
        obtain ⟨hd, hmem⟩ := ix_dec X.2.2.2.2.2.2.2.2.2.2.1 hat
        have hnl := ix_tln_ok X.2.2.2.2.2.2.2.2.2.2.2.1 hmem
        obtain ⟨kd, idx, hi, hcall⟩ := ix_exec_call hs
        have hh : h' = f.2.2.2 := ix_call_h hcall
        subst hh
        have kk := ih _ hn ⟨Nat.le_trans hlo.1 hm1.1, Nat.le_trans hlo.2 hm1.2⟩
        have hn3 : n' = 3 := by
          rcases hi with ⟨-, rfl⟩ | ⟨-, rfl⟩ | ⟨-, rfl⟩ <;> (rcases hnl with ⟨_, _, _, _, z⟩ | z; cases z; exact z)
        subst hn3
        obtain ⟨pc, ls, st, h⟩ := f
        simp only at hm1 hm2 hlo
        exact ix_w_call X hi hcall hd (hM _ _ _ _ hc) hR hlo hm1 ⟨by have := hm2.1; show h2.1 - h0.1 ≤ R.cells; omega, by have := hm2.2; show h2.2.1 - h0.2.1 ≤ R.slots; omega⟩ kk
      · cases hs
theorem ix_w_ret (X : ix_X p R s m args meth c D b base aC q S) {f : ix_F} {o : ix_O} (hr : ix_step S q f = some (.inr (.inl o))) :
    ix_W p l e R s m args below meth c (MQ below (ix_Qc D b base aC o) args s (o.2.1 - h0.1) (o.2.2.1 - h0.2.1) (ix_A base)) D b base aC q h0 f := by
  unfold ix_step at hr
  split at hr
  · rename_i i n hat
    obtain ⟨hd, hmem⟩ := ix_dec X.2.2.2.2.2.2.2.2.2.2.1 hat
    have hnl := ix_tln_ok X.2.2.2.2.2.2.2.2.2.2.2.1 hmem
    obtain ⟨hx, hb, hret, -, -, -, -, -, -, hlk, -⟩ := X
    obtain ⟨pc, ls, st, h⟩ := f
    intro H locs la hI hl
    simp only at hr
    unfold ix_exec at hr
    split at hr
    all_goals (first | unfold ix_ldI at hr | unfold ix_ldL at hr | unfold ix_ldA at hr | unfold ix_stI at hr | unfold ix_stL at hr | unfold ix_stA at hr | unfold ix_gf at hr | unfold ix_pf at hr | unfold ix_al at hr | unfold ix_ia at hr | unfold ix_ba at hr | unfold ix_aa at hr | unfold ix_is at hr | unfold ix_bs at hr | unfold ix_as at hr | unfold ix_na at hr | unfold ix_nq at hr | unfold ix_no at hr | (unfold ix_call at hr; simp only at hr) | skip)
    all_goals (try unfold ix_goto at hr)
    all_goals (try unfold ix_br at hr)
    all_goals (repeat' split at hr)
    all_goals first
      | (cases hr; done)
      | skip
    · rename_i v ty hrt hok
      cases hr
      have hn1 : n = 1 := by rcases hnl with ⟨_, _, _, _, z⟩ | z; cases z; exact z
      subst hn1
      exact W.zret hx hb (hret.trans hrt) (ix_ok_fit (b := b) (base := base) hok).1 (fun t ht hW => ⟨rfl, by rw [ht]; exact ⟨hI.1, hI.2.1, hI.2.2.1⟩, hI.2.2.2.F ht⟩) hI.2.2.2.2.2 hd hlk
    · rename_i v C hrt
      cases hr
      have hn1 : n = 1 := by rcases hnl with ⟨_, _, _, _, z⟩ | z; cases z; exact z
      subst hn1
      exact W.aret hx hb (hret.trans hrt) (Or.inl ⟨_, rfl⟩) (Or.inr ⟨_, rfl⟩) (fun t ht hW => ⟨rfl, by rw [ht]; exact ⟨hI.1, hI.2.1, hI.2.2.1⟩, hI.2.2.2.F ht⟩) hI.2.2.2.2.2 hd hlk
    · rename_i hrt
      cases hr
      have hn1 : n = 1 := by rcases hnl with ⟨_, _, _, _, z⟩ | z; cases z; exact z
      subst hn1
      exact W.vret hx hb (hret.trans hrt) (fun t ht hW => ⟨rfl, by rw [ht]; exact ⟨hI.1, hI.2.1, hI.2.2.1⟩, hI.2.2.2.F ht⟩) hI.2.2.2.2.2 hd hlk
  · cases hr
end IXM
set_option maxHeartbeats 4000000 in
/-- THE INTERPRETER IS SOUND -/
theorem ix_sound (l : Launch) (D : va_G) (b base : Nat) (aC : FieldType → ClassId) : ∀ (d y : Nat) (as : List Value) (h : ix_H) (o : ix_O), ix_Ev d y as h o → ix_Met l D b base aC d y as h o := by
  intro d
  induction d with
  | zero => intro y as h o z; exact z.elim
  | succ d ih =>
    intro y as h o z
    have hmo := ix_Ev_mono _ _ _ _ _ z
    obtain ⟨q, n, hq, hlen, hrun⟩ := z
    refine ⟨q, hq, ?_⟩
    have hmem := List.mem_of_getElem? hq
    have hok := ix_mNs_ok _ hmem
    have htok := ix_mNs_tok _ hmem
    obtain ⟨cn, nm, cc, mL, rt, np, kd, T, ic, ii, isl⟩ := q
    simp only [ix_mok, Bool.and_eq_true, decide_eq_true_eq] at hok
    obtain ⟨⟨⟨⟨⟨⟨⟨⟨⟨⟨⟨o1, o2⟩, o3⟩, o4⟩, o5⟩, o6⟩, o7⟩, o8⟩, o9⟩, o10⟩, o11⟩, o12⟩ := hok
    simp only at htok hlen ⊢
    refine Met.ofW (cc := cc) (maxL := mL) (ret := rt) o5 rfl ?_
    intro p e s m args below meth c s₁ B hml hv
    obtain ⟨rfl, hHP, hK⟩ := hv
    have hts := atoms_spec (ws := .code nm cc mL rt :: ix_tb) B.pre
    have hown : s.vm.findClass nm.cls = some m.cls := findClass_of_methodNamed B.named
    have hname : meth.name = nm.name := (name_of_methodNamed B.named B.method).1
    have X : ix_X p (ix_rm (d + 1) h o) s m (as.map (ix_cv b base)).toArray meth c D b base aC (cn, nm, cc, mL, rt, np, kd, T, ic, ii, isl) none :=
      ⟨B.exec, B.bytes, B.returns, hml, by rw [← o4]; exact hown, fun w hw => hts w (List.mem_cons_of_mem _ hw), hK, fun L xs z => (by cases z), fun z => by rw [hname]; exact (o9 z).1, B.notSynchronized, htok, o11, Nat.succ_le_succ (Nat.zero_le d), by show 38 ≤ 38 * (d + 1); omega⟩
    rw [lg_entry_eq]
    have hl := lv_entry (as.map (ix_cv b base)) (n := mL) (by rw [ix_sl_len]; exact hlen)
    rw [ix_args_map] at hl
    have hW := ix_W_run (below := below) (e := e) (h0 := h) (Q := MQ below (ix_Qc D b base aC o) (as.map (ix_cv b base)).toArray s (o.2.1 - h.1) (o.2.2.1 - h.2.1) (ix_A base)) X (fun y as h o z => ih y as h o z) ⟨Nat.le_refl _, by show 38 * d + 38 ≤ 38 * (d + 1); omega⟩ (o := o) ⟨Nat.le_refl _, Nat.le_refl _⟩ (fun f hf => ix_w_ret X hf) n _ hrun ⟨Nat.le_refl _, Nat.le_refl _⟩
    have k1 := hW s.heap [] _ ⟨hHP.1, hHP.2.1, hHP.2.2, va_S.rf⟩ hl
    exact W.cs (by show 0 = h.1 - h.1; omega) (by show 0 = h.2.1 - h.2.1; omega) k1
