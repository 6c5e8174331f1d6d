/-! CALLS, AND THE WHOLE: what the interpreter comes to, the machine comes to -/
/-- method number y, with these arguments, at this heap, comes to its end with that answer and that heap; at most d calls stand open -/
def ix_Ev : Nat → Nat → List Value → ix_H → ix_O → Prop
  | 0, _, _, _, _ => False
  | d + 1, y, as, h, o => ∃ (q : ix_M) (n : Nat), mNs[y]? = some q ∧ (lg_sl as).length ≤ q.2.2.2.1 ∧ ix_run none (ix_Ev d) q n (0, lv_args 0 as, [], h) o
/-- inside a method, with calls of depth d -/
def ix_G (S : ix_S) (d : Nat) (q : ix_M) (f : ix_F) (o : ix_O) : Prop := ∃ n, ix_run S (ix_Ev d) q n f o
theorem ix_mcn : mNs.all (fun q => decide (q.1 ≤ 8)) = true := by decide +kernel
def ix_hp (r : ix_R) : ix_H := match r with
  | .inl f => f.2.2.2
  | .inr (.inl o) => o.2
  | .inr (.inr (_, _, f)) => f.2.2.2
set_option maxHeartbeats 8000000 in
theorem ix_exec_mono {S : ix_S} {q : ix_M} {i : Instr} {pc : Nat} {ls : ix_L} {st : List Value} {h : ix_H} {r : ix_R} (hr : ix_exec S q i pc ls st h = some r) : h.1 ≤ (ix_hp r).1 ∧ h.2.1 ≤ (ix_hp r).2.1 := by
  unfold ix_exec at hr
  split at hr
  all_goals (first | unfold ix_ldI at hr | unfold ix_ldL at hr | unfold ix_ldA at hr | unfold ix_stI at hr | unfold ix_stL at hr | unfold ix_stA at hr | unfold ix_gf at hr | unfold ix_pf at hr | unfold ix_al at hr | unfold ix_ia at hr | unfold ix_ba at hr | unfold ix_aa at hr | unfold ix_is at hr | unfold ix_bs at hr | unfold ix_as at hr | unfold ix_na at hr | unfold ix_nq at hr | unfold ix_no at hr | (unfold ix_call at hr; simp only at hr) | skip)
  all_goals (try unfold ix_goto at hr)
  all_goals (try unfold ix_br at hr)
  all_goals (repeat' split at hr)
  all_goals first
    | (cases hr; done)
    | (cases hr; exact ⟨Nat.le_refl _, Nat.le_refl _⟩)
    | (cases hr; exact ⟨Nat.le_succ _, Nat.le_add_right _ _⟩)
theorem ix_step_mono {S : ix_S} {q : ix_M} {f : ix_F} {r : ix_R} (hr : ix_step S q f = some r) : f.2.2.2.1 ≤ (ix_hp r).1 ∧ f.2.2.2.2.1 ≤ (ix_hp r).2.1 := by
  unfold ix_step at hr
  split at hr
  · exact ix_exec_mono hr
  · cases hr
theorem ix_run_mono {S : ix_S} {C : Nat → List Value → ix_H → ix_O → Prop} {q : ix_M} (hC : ∀ y as h o, C y as h o → h.1 ≤ o.2.1 ∧ h.2.1 ≤ o.2.2.1) : ∀ (n : Nat) (f : ix_F) (o : ix_O), ix_run S C q n f o → f.2.2.2.1 ≤ o.2.1 ∧ f.2.2.2.2.1 ≤ o.2.2.1 := by
  intro n
  induction n with
  | zero => intro f o h; exact h.elim
  | succ n ih =>
    intro f o h
    unfold ix_run at h
    split at h
    · exact h.elim
    · rename_i g hs
      have h1 := ix_step_mono hs
      have h2 := ih g o h
      exact ⟨Nat.le_trans h1.1 h2.1, Nat.le_trans h1.2 h2.2⟩
    · rename_i u hs
      have h1 := ix_step_mono hs
      subst h
      exact h1
    · rename_i y as pc ls st h' hs
      have h1 := ix_step_mono hs
      obtain ⟨v, h2, hc, hn⟩ := h
      have h3 := hC _ _ _ _ hc
      have h4 := ih _ o hn
      exact ⟨Nat.le_trans h1.1 (Nat.le_trans h3.1 h4.1), Nat.le_trans h1.2 (Nat.le_trans h3.2 h4.2)⟩
theorem ix_Ev_mono : ∀ (d y : Nat) (as : List Value) (h : ix_H) (o : ix_O), ix_Ev d y as h o → h.1 ≤ o.2.1 ∧ h.2.1 ≤ o.2.2.1 := by
  intro d
  induction d with
  | zero => intro y as h o z; exact z.elim
  | succ d ih =>
    intro y as h o z
    obtain ⟨q, n, -, -, hr⟩ := z
    exact ix_run_mono ih n _ o hr
def ix_HP (D : va_G) (b base : Nat) (aC : FieldType → ClassId) (h : ix_H) (H : Heap) : Prop := H.size = base + h.1 ∧ (∀ k, h.1 ≤ k → h.2.2 k = ix_no_) ∧ va_P D vwCl (ix_ws b base aC h) H
def ix_Pc (D : va_G) (b base : Nat) (aC : FieldType → ClassId) (as : List Value) (h : ix_H) : Array Value → State → Prop := fun a U => a = (as.map (ix_cv b base)).toArray ∧ ix_HP D b base aC h U.heap ∧ ix_K D aC U
def ix_Qc (D : va_G) (b base : Nat) (aC : FieldType → ClassId) (o : ix_O) : Array Value → State → Outcome → State → Prop := fun _ st oc t => oc = .returned (o.1.map (ix_cv b base)) ∧ ix_HP D b base aC o.2 t.heap ∧ va_F (ix_A base) st t
def ix_rm (d : Nat) (h : ix_H) (o : ix_O) : Room := { frames := d, cells := o.2.1 - h.1, slots := o.2.2.1 - h.2.1, locals := 38 * d }
def ix_Met (l : Launch) (D : va_G) (b base : Nat) (aC : FieldType → ClassId) (d y : Nat) (as : List Value) (h : ix_H) (o : ix_O) : Prop := ∃ q, mNs[y]? = some q ∧ Met l q.2.1 (.code q.2.1 q.2.2.1 q.2.2.2.1 q.2.2.2.2.1 :: ix_tb) (ix_rm d h o) (ix_Pc D b base aC as h) (ix_Qc D b base aC o) (o.2.1 - h.1) (o.2.2.1 - h.2.1) (ix_A base)
theorem ix_Pc_blind {D : va_G} {b base : Nat} {aC : FieldType → ClassId} {as : List Value} {h : ix_H} : FrameBlind (ix_Pc D b base aC as h) := fun _ _ _ _ z => ⟨z.1, z.2.1, z.2.2.calling⟩
section IXC
variable {p : Program} {l : Launch} {e : Env} {R : Room} {s : State} {m : MethodId} {args : Array Value} {below : List Frame} {meth : Method} {c : Code} {Q : State → Prop}
variable {D : va_G} {b base : Nat} {aC : FieldType → ClassId} {q : ix_M} {h0 : ix_H} {S : ix_S} {pc : Nat} {ls : ix_L} {st : List Value} {h : ix_H} {idx : Nat}
theorem ix_run_fin {H : Heap} {locs : List Loc} {la : Array Slot} {rest stk : List Value} {o : ix_O} {a' : Array Value} (hlo : h0.1 ≤ h.1 ∧ h0.2.1 ≤ h.2.1) (hmo : h.1 ≤ o.2.1 ∧ h.2.1 ≤ o.2.2.1) (hS : va_S (ix_A base) s.heap H locs) (hl : lv_has la q.2.2.2.1 (ls.map (ix_cp b base)))
    (hrun : va_Run p l e R s m args below meth c H locs (h.1 - h0.1) (h.2.1 - h0.2.1) (o.2.1 - h.1) (o.2.2.1 - h.2.1) (F0 m pc la stk) (rest.map (ix_cv b base)) (ix_Qc D b base aC o a') (ix_A base))
    (kk : ix_W p l e R s m args below meth c Q D b base aC q h0 (pc + 3, ls, o.1.toList ++ rest, o.2)) : W p l e R s m args below meth c H locs (h.1 - h0.1) (h.2.1 - h0.2.1) Q (F0 m pc la stk) := by
  intro T hT XX
  obtain ⟨v, st₀, t, T', L, z0, X', hL, e1, e2, ⟨hv, hrep, hF⟩, stp⟩ := hrun T hT XX
  cases hv
  rw [← e1] at hrep
  have hF1 : H.size ≤ T'.heap.size := by rw [e1, ← z0]; exact hF.1
  have hF2 : ∀ y : Nat, y < H.size → ¬ ix_A base y → T'.heap[y]? = H[y]? := by
    intro y y1 y2
    rw [e1, ← z0]
    exact hF.2 y (by rw [z0]; exact y1) y2
  have hI' : ix_I D b base aC s.heap o.2 T'.heap (locs ++ L) := by
    refine ⟨hrep.1, hrep.2.1, hrep.2.2, Nat.le_trans hS.1 hF1, fun y y1 y2 => ?_, fun y hy => ?_⟩
    · rw [hF2 y (Nat.lt_of_lt_of_le y1 hS.1) y2]
      exact hS.2.1 y y1 y2
    · rcases List.mem_append.mp hy with z | z
      · exact hS.2.2 y z
      · exact hL y z
  have k1 := kk T'.heap (locs ++ L) la hI' hl
  have k2 : W p l e R s m args below meth c T'.heap (locs ++ L) (h.1 - h0.1 + (o.2.1 - h.1)) (h.2.1 - h0.2.1 + (o.2.2.1 - h.2.1)) Q { (F0 m pc la stk) with pc := (F0 m pc la stk).pc + 3, stack := (o.1.map (ix_cv b base)).toList ++ rest.map (ix_cv b base) } := by
    refine W.cs (by show _ = o.2.1 - h0.1; omega) (by show _ = o.2.2.1 - h0.2.1; omega) (W.eq ?_ k1)
    show F0 m (pc + 3) la _ = F0 m (pc + 3) la _
    congr 1
    cases o.1 <;> simp
  obtain ⟨t2, a1, b1⟩ := k2 T' rfl X'
  exact ⟨t2, stp t2 a1, b1⟩
set_option maxHeartbeats 8000000 in
theorem ix_w_call (X : ix_X p R s m args meth c D b base aC q S) {i : Instr} {kd d y : Nat} {as : List Value} {g : ix_F} {o : ix_O} (hi : (kd = 0 ∧ i = .invokevirtual idx) ∨ (kd = 1 ∧ i = .invokestatic idx) ∨ (kd = 2 ∧ i = .invokespecial idx)) (hr : ix_call q.1 kd idx pc ls st h = some (.inr (.inr (y, as, g)))) (hd : decode q.2.2.1 pc = .ok (i, 3))
    (hM : ix_Met l D b base aC d y as h o) (hR : d + 1 ≤ R.frames ∧ 38 * d + 38 ≤ R.locals) (hlo : h0.1 ≤ h.1 ∧ h0.2.1 ≤ h.2.1) (hmo : h.1 ≤ o.2.1 ∧ h.2.1 ≤ o.2.2.1) (hhi : o.2.1 - h0.1 ≤ R.cells ∧ o.2.2.1 - h0.2.1 ≤ R.slots) (kk : ix_W p l e R s m args below meth c Q D b base aC q h0 (g.1, g.2.1, o.1.toList ++ g.2.2.1, o.2)) : ix_W p l e R s m args below meth c Q D b base aC q h0 (pc, ls, st, h) := by
  obtain ⟨hx, hb, -, hml, hown, hts, hK, hX, -⟩ := X
  intro H locs la hI hl
  unfold ix_call at hr
  split at hr
  · cases hr
  · rename_i nest y' i0 hm
    obtain ⟨-, -, -, m5⟩ := ix_mth_ok hm
    split at hr
    · split at hr
      · split at hr <;> cases hr
      · cases hr
    · rename_i n2
      split at hr
      · split at hr
        · split at hr <;> cases hr
        · cases hr
      · rename_i n3
        split at hr
        · split at hr
          · split at hr <;> cases hr
          · cases hr
        · rename_i n4
          split at hr
          · cases hr
          · rename_i qq hqq
            simp only at hr
            generalize hz : (if kd = 1 then 0 else 1 : Nat) = z1 at hr
            split at hr
            · rename_i hcond
              obtain ⟨hkd, hnp, hsum, hn1, hn01, hrcv⟩ := hcond
              cases hr
              obtain ⟨q1, hq1, hw⟩ := m5 n2 n3 n4
              obtain rfl : qq = q1 := Option.some.inj (hqq.symm.trans hq1)
              obtain ⟨q2, hq2, hMet⟩ := hM
              obtain rfl : qq = q2 := Option.some.inj (hqq.symm.trans hq2)
              have hmem := List.mem_of_getElem? hqq
              have hok := ix_mNs_ok _ hmem
              have hcn8 := of_decide_eq_true (List.all_eq_true.mp ix_mcn _ hmem)
              obtain ⟨cn, nm, cc, mL, rt, np, kd', T, ic, ii, isl⟩ := qq
              simp only [ix_mok, Bool.and_eq_true, decide_eq_true_eq] at hok
              obtain ⟨⟨⟨⟨⟨⟨⟨⟨⟨⟨⟨o1, o2⟩, o3⟩, o4⟩, o5⟩, o6⟩, o7⟩, o8⟩, o9⟩, o10⟩, o11⟩, o12⟩ := hok
              simp only at hkd hnp hsum hrcv hMet hw kk hcn8
              subst hkd
              have wcode : (Jvm.Cond.code nm cc mL rt).before args s = true := ix_word hts o1 rfl
              have wini : (Jvm.Cond.initialized nm.cls).before args s = true := ix_word hts o12 rfl
              have hG : GoodIn ix_tb (.code nm cc mL rt :: ix_tb) := by
                intro w hw
                rcases List.mem_cons.mp hw with rfl | hw
                · exact ⟨List.mem_filter.mpr ⟨List.mem_of_getElem? o1, rfl⟩, good_of_word rfl⟩
                · exact ix_tb_good w hw
              have hRR : (ix_rm d h o).frames + 1 ≤ R.frames ∧ 8 + (mL + 11) + (ix_rm d h o).locals ≤ R.locals := ⟨hR.1, by show 8 + (mL + 11) + 38 * d ≤ R.locals; omega⟩
              have hf : h.1 - h0.1 + (o.2.1 - h.1) ≤ R.cells ∧ h.2.1 - h0.2.1 + (o.2.2.1 - h.2.1) ≤ R.slots := ⟨by omega, by omega⟩
              have hHP : ix_HP D b base aC h H := ⟨hI.1, hI.2.1, hI.2.2.1⟩
              rcases hi with ⟨rfl, rfl⟩ | ⟨rfl, rfl⟩ | ⟨rfl, rfl⟩
              · -- virtual
                have hn0 : nest = 0 := by rcases hn01 with z | z; exact z; have := hn1 z; omega
                rw [if_pos hn0] at hw
                obtain rfl : 1 = z1 := hz
                simp only [Nat.zero_ne_one, false_or] at hrcv
                have hst : st = (st.take (np + 1)).reverse.reverse ++ st.drop (np + 1) := by rw [List.reverse_reverse, List.take_append_drop]
                have hlen : (st.take (np + 1)).reverse.length = np + 1 := by rw [List.length_reverse, List.length_take]; omega
                generalize (st.take (np + 1)).reverse = as at hrcv hMet hst hlen
                generalize st.drop (np + 1) = rest at hsum kk hst
                subst hst
                unfold ix_rcv at hrcv
                split at hrcv
                · rename_i a As
                  split at hrcv
                  · rename_i ci fs hcell
                    have hci : ci = cn := by simpa using hrcv
                    subst hci
                    have ha : a < h.1 := hI.lt (by
                      show h.2.2 a ≠ ix_no_
                      rw [hcell]
                      intro z
                      simp only [ix_no_, Sum.inr.injEq, Prod.mk.injEq] at z
                      omega)
                    have he : (ix_ws b base aC h)[a]? = some (base + a, .inr (ci, fs.map (ix_cv b base))) := by rw [ix_ws_get ha, hcell]; rfl
                    obtain ⟨r', hr', -⟩ := hI.2.2.1 a _ he
                    have c5 : ci ≤ 5 := by
                      have := (List.getElem?_eq_some_iff.mp hr').1
                      have h6 : vwCl.length = 6 := rfl
                      omega
                    obtain ⟨hc, -⟩ := ix_cls_facts ci c5
                    have wsel := o3 rfl
                    rw [show (if (0 : Nat) = 1 then Jvm.Cond.static nm else Jvm.Cond.instanceMethod nm) = Jvm.Cond.instanceMethod nm from rfl] at o2
                    refine ix_run_fin (rest := rest) (a' := (Value.ref (base + a) :: As.map (ix_cv b base)).toArray) hlo hmo hI.2.2.2 hl (va_runV (C := ix_RC ci) (b := base + a) (As := As.map (ix_cv b base)) (bytes := cc) (maxL := mL) (ret := rt) (n := np) ⟨hx, hb, hml, hown, hts⟩ hMet ⟨callB_of np hts hG rfl rfl rfl wini (ix_word hts hw rfl) ⟨o7.1, o7.2, o8⟩ hRR, ix_word hts o2 rfl, ix_word hts wsel rfl⟩ ⟨ix_Pc_blind, va_recv hK.1 hI.2.2.1 hc he, fun U hU hW => ⟨rfl, by rw [hU]; exact hHP, hK.warm hW⟩⟩ rfl (by rw [List.length_map]; simpa using hlen) hl.1 ?_ (lv_room (by rw [ix_sum_cv]; exact hsum)) hd hf) kk
                    simp [ix_cv]
                  · cases hrcv
                · cases hrcv
              · -- static
                have hn0 : nest = 0 := by rcases hn01 with z | z; exact z; have := hn1 z; omega
                rw [if_pos hn0] at hw
                obtain rfl : 0 = z1 := hz
                simp only [Nat.add_zero] at hnp hsum kk hMet
                have hst : st = (st.take np).reverse.reverse ++ st.drop np := by rw [List.reverse_reverse, List.take_append_drop]
                have hlen : (st.take np).reverse.length = np := by rw [List.length_reverse, List.length_take]; omega
                generalize (st.take np).reverse = as at hMet hst hlen
                generalize st.drop np = rest at hsum kk hst
                subst hst
                rw [show (if (1 : Nat) = 1 then Jvm.Cond.static nm else Jvm.Cond.instanceMethod nm) = Jvm.Cond.static nm from rfl] at o2
                refine ix_run_fin (rest := rest) (a' := (as.map (ix_cv b base)).toArray) hlo hmo hI.2.2.2 hl (va_runS (As := as.map (ix_cv b base)) (bytes := cc) (maxL := mL) (ret := rt) (n := np) ⟨hx, hb, hml, hown, hts⟩ hMet ⟨callB_of np hts hG rfl rfl rfl wini (ix_word hts hw rfl) ⟨o7.1, o7.2, o8⟩ hRR, ix_word hts o2 rfl⟩ ⟨ix_Pc_blind, fun U hU hW => ⟨rfl, by rw [hU]; exact hHP, hK.warm hW⟩⟩ rfl (by rw [List.length_map]; exact hlen) hl.1 ?_ (lv_room (by rw [ix_sum_cv]; exact hsum)) hd hf) kk
                simp
              · -- constructor
                obtain rfl : 1 = z1 := hz
                simp only [show ¬ ((2 : Nat) = 1) by decide, false_or] at hrcv
                have hst : st = (st.take (np + 1)).reverse.reverse ++ st.drop (np + 1) := by rw [List.reverse_reverse, List.take_append_drop]
                have hlen : (st.take (np + 1)).reverse.length = np + 1 := by rw [List.length_reverse, List.length_take]; omega
                generalize (st.take (np + 1)).reverse = as at hrcv hMet hst hlen
                generalize st.drop (np + 1) = rest at hsum kk hst
                subst hst
                obtain ⟨hnm, rfl⟩ := o9 rfl
                rw [show (if (2 : Nat) = 1 then Jvm.Cond.static nm else Jvm.Cond.instanceMethod nm) = Jvm.Cond.instanceMethod nm from rfl] at o2
                unfold ix_rcv at hrcv
                split at hrcv
                · rename_i a As
                  by_cases hn0 : nest = 0
                  · rw [if_pos hn0] at hw
                    refine ix_run_fin (rest := rest) (a' := (Value.ref (base + a) :: As.map (ix_cv b base)).toArray) hlo hmo hI.2.2.2 hl (va_runI (b := base + a) (As := As.map (ix_cv b base)) (bytes := cc) (maxL := mL) (n := np) ⟨hx, hb, hml, hown, hts⟩ hMet ⟨callB_of np hts hG rfl rfl rfl wini (ix_word hts hw rfl) ⟨o7.1, o7.2, o8⟩ hRR, hnm, ix_word hts o2 rfl⟩ ⟨ix_Pc_blind, fun U hU hW => ⟨rfl, by rw [hU]; exact hHP, hK.warm hW⟩⟩ rfl (by rw [List.length_map]; simpa using hlen) hl.1 ?_ (lv_room (by rw [ix_sum_cv]; exact hsum)) hd hf) kk
                    simp [ix_cv]
                  · rw [if_neg hn0] at hw
                    refine ix_run_fin (rest := rest) (a' := (Value.ref (base + a) :: As.map (ix_cv b base)).toArray) hlo hmo hI.2.2.2 hl (va_runIN (b := base + a) (As := As.map (ix_cv b base)) (bytes := cc) (maxL := mL) (n := np) ⟨hx, hb, hml, hown, hts⟩ hMet ⟨va_cnB np hts hG rfl rfl rfl (hK.2.1 _ (List.mem_filter.mpr ⟨List.mem_of_getElem? hw, rfl⟩)) wini ⟨o7.1, o7.2, o8⟩ hRR, hnm, ix_word hts o2 rfl⟩ ⟨ix_Pc_blind, fun U hU hW => ⟨rfl, by rw [hU]; exact hHP, hK.warm hW⟩⟩ rfl (by rw [List.length_map]; simpa using hlen) hl.1 ?_ (lv_room (by rw [ix_sum_cv]; exact hsum)) hd hf) kk
                    simp [ix_cv]
                · cases hrcv
            · cases hr
end IXC
