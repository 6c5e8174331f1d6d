/-! RULES, AN INSTRUCTION EACH -/
/-- from this frame the method comes to an end of which P holds -/
def gs (S : ix_S) (d : Nat) (q : ix_M) (f : ix_F) (P : ix_O → Prop) : Prop := ∃ o, ix_G S d q f o ∧ P o
/-- the call comes to an end of which P holds -/
def ev (d y : Nat) (as : List Value) (h : ix_H) (P : ix_O → Prop) : Prop := ∃ o, ix_Ev d y as h o ∧ P o
section GS
variable {S : ix_S} {d : Nat} {q : ix_M} {P : ix_O → Prop} {pc pc' n idx : Nat} {ls ls' : ix_L} {st st' r : List Value} {h h' : ix_H} {i : Instr} {a : Nat}
theorem gs_step {f g : ix_F} (hs : ix_step S q f = some (.inl g)) (k : gs S d q g P) : gs S d q f P := by
  obtain ⟨o, ⟨n, hn⟩, hP⟩ := k
  refine ⟨o, ⟨n + 1, ?_⟩, hP⟩
  unfold ix_run
  rw [hs]
  exact hn
theorem gs_post {f : ix_F} {P' : ix_O → Prop} (k : gs S d q f P') (hp : ∀ o, P' o → P o) : gs S d q f P := by
  obtain ⟨o, ho, hP⟩ := k
  exact ⟨o, ho, hp o hP⟩
theorem ev_post {y : Nat} {as : List Value} {h : ix_H} {P' : ix_O → Prop} (k : ev d y as h P') (hp : ∀ o, P' o → P o) : ev d y as h P := by
  obtain ⟨o, ho, hP⟩ := k
  exact ⟨o, ho, hp o hP⟩
theorem gs_at (hat : ix_at q.2.2.2.2.2.2.2.1 pc = some (i, n)) (hx : ix_exec S q i pc ls st h = some (.inl (pc', ls', st', h'))) (k : gs S d q (pc', ls', st', h') P) : gs S d q (pc, ls, st, h) P := by
  refine gs_step ?_ k
  unfold ix_step
  simp only [hat]
  exact hx
/-- locals, stack and arithmetic -/
theorem gs_n (pc' : Nat) (hat : ix_at q.2.2.2.2.2.2.2.1 pc = some (i, n)) (hx : ix_exec S q i pc ls st h = some (.inl (pc', ls', st', h'))) (k : gs S d q (pc', ls', st', h') P) : gs S d q (pc, ls, st, h) P := gs_at hat hx k
def ix_kv : Instr → Option Int32
  | .iconst n => some (Int32.ofInt n) | .bipush n => some (Int8.ofInt n).toInt32 | .sipush n => some (Int16.ofInt n).toInt32 | _ => none
/-- a constant, as one wants to read it -/
theorem gs_k (v : Int32) (pc' : Nat) (hat : ix_at q.2.2.2.2.2.2.2.1 pc = some (i, n)) (hv : ix_kv i = some v) (hp : pc + ix_len i = pc') (k : gs S d q (pc', ls, .int v :: st, h) P) : gs S d q (pc, ls, st, h) P := by
  subst hp
  unfold ix_kv at hv
  split at hv
  all_goals first | (cases hv; done) | (cases hv; exact gs_at hat rfl k)
theorem gs_inc (j : Nat) (pc' : Nat) {k : Nat} (hat : ix_at q.2.2.2.2.2.2.2.1 pc = some (.iinc k 1, n)) (hg : ix_get ls k = some (.int (nI j))) (hk : k < q.2.2.2.1) (hp : pc + 3 = pc') (kk : gs S d q (pc', ix_put1 ls k (.int (nI (j + 1))), st, h) P) : gs S d q (pc, ls, st, h) P := by
  subst hp
  refine gs_at hat ?_ kk
  simp only [ix_exec, hg, hk, if_true]
  rw [show nI j + Int32.ofInt 1 = nI (j + 1) from nI_1 j]
/-- the top of the stack, said otherwise -/
theorem gs_top {x : Int32} (y : Int32) (hy : x = y) (k : gs S d q (pc, ls, .int y :: st, h) P) : gs S d q (pc, ls, .int x :: st, h) P := hy ▸ k
/-- fewer locals -/
theorem gs_w (ls : ix_L) (hn : ix_nd ls) (hle : ∀ x ∈ ls, ix_get ls' x.1 = some x.2) (k : gs S d q (pc, ls, st, h) P) : gs S d q (pc, ls', st, h) P := by
  obtain ⟨o, ⟨m, hm⟩, hP⟩ := k
  exact ⟨o, ⟨m, ix_run_le m pc ls ls' st h ⟨hn, fun i v hv => hle (i, v) (ix_get_mem hv)⟩ hm⟩, hP⟩
theorem gs_ret {f : ix_F} {o : ix_O} (hs : ix_step S q f = some (.inr (.inl o))) (hP : P o) : gs S d q f P := ⟨o, ⟨1, by unfold ix_run; rw [hs]⟩, hP⟩
theorem gs_iret {v : Int32} {ty : FieldType} (hat : ix_at q.2.2.2.2.2.2.2.1 pc = some (.ireturn, n)) (hr : q.2.2.2.2.1 = some ty) (hok : ix_ok ty (.int v) = true) (hP : P (some (.int v), h)) : gs S d q (pc, ls, [.int v], h) P := by
  refine gs_ret ?_ hP
  unfold ix_step
  simp only [hat, ix_exec, hr, hok, if_true]
theorem gs_vret (hat : ix_at q.2.2.2.2.2.2.2.1 pc = some (.return_, n)) (hr : q.2.2.2.2.1 = none) (hP : P (none, h)) : gs S d q (pc, ls, [], h) P := by
  refine gs_ret ?_ hP
  unfold ix_step
  simp only [hat, ix_exec, hr]
theorem gs_aret {C : String} (hat : ix_at q.2.2.2.2.2.2.2.1 pc = some (.areturn, n)) (hr : q.2.2.2.2.1 = some (.object C)) (hP : P (some (.ref a), h)) : gs S d q (pc, ls, [.ref a], h) P := by
  refine gs_ret ?_ hP
  unfold ix_step
  simp only [hat, ix_exec, hr]
def ix_P (c : ClassFile.Cond) (x y : Int32) : Prop := match c with
  | .eq => x = y | .ne => ¬ x = y | .lt => x < y | .ge => y ≤ x | .gt => y < x | .le => x ≤ y
theorem ix_cmp_iff (c : ClassFile.Cond) (x y : Int32) : ix_cmp c x y = true ↔ ix_P c x y := by
  cases c <;> simp [ix_cmp, ix_P]
theorem gs_br {b : Bool} {t : Nat} (hs : ix_step S q (pc, ls, st, h) = some (.inl (if b then t else pc', ls', st', h'))) (kt : b = true → gs S d q (t, ls', st', h') P) (kf : b = false → gs S d q (pc', ls', st', h') P) : gs S d q (pc, ls, st, h) P := by
  refine gs_step hs ?_
  cases b
  · exact kf rfl
  · exact kt rfl
theorem gs_if {c : ClassFile.Cond} {off : Int} {x : Int32} (t pc' : Nat) (hat : ix_at q.2.2.2.2.2.2.2.1 pc = some (.ifCond c off, n)) (hj : ix_jmp pc off = some t) (hp : pc + 3 = pc') (kt : ix_P c x 0 → gs S d q (t, ls, r, h) P) (kf : ¬ ix_P c x 0 → gs S d q (pc', ls, r, h) P) : gs S d q (pc, ls, .int x :: r, h) P := by
  subst hp
  refine gs_br (b := ix_cmp c x 0) (t := t) (pc' := pc + 3) (ls' := ls) (st' := r) (h' := h) ?_ (fun z => kt ((ix_cmp_iff c x 0).mp z)) (fun z => kf (fun w => by rw [(ix_cmp_iff c x 0).mpr w] at z; cases z))
  unfold ix_step
  simp only [hat, ix_exec, ix_br, hj]
theorem gs_ic {c : ClassFile.Cond} {off : Int} {x y : Int32} (t pc' : Nat) (hat : ix_at q.2.2.2.2.2.2.2.1 pc = some (.if_icmp c off, n)) (hj : ix_jmp pc off = some t) (hp : pc + 3 = pc') (kt : ix_P c x y → gs S d q (t, ls, r, h) P) (kf : ¬ ix_P c x y → gs S d q (pc', ls, r, h) P) : gs S d q (pc, ls, .int y :: .int x :: r, h) P := by
  subst hp
  refine gs_br (b := ix_cmp c x y) (t := t) (pc' := pc + 3) (ls' := ls) (st' := r) (h' := h) ?_ (fun z => kt ((ix_cmp_iff c x y).mp z)) (fun z => kf (fun w => by rw [(ix_cmp_iff c x y).mpr w] at z; cases z))
  unfold ix_step
  simp only [hat, ix_exec, ix_br, hj]
theorem gs_get {nest ci k i0 : Nat} {fs : List Value} {v : Value} (pc' : Nat) (hat : ix_at q.2.2.2.2.2.2.2.1 pc = some (.getfield idx, n)) (hf : ix_fld q.1 idx = some (nest, ci, k, i0)) (hc : h.2.2 a = .inr (ci, fs)) (hv : fs[k]? = some v) (hp : pc + 3 = pc') (kk : gs S d q (pc', ls, v :: r, h) P) : gs S d q (pc, ls, .ref a :: r, h) P := by
  subst hp
  refine gs_at hat ?_ kk
  simp only [ix_exec, ix_gf, hc, hf, if_true, hv]
theorem gs_put {nest ci k i0 : Nat} {fs : List Value} {v : Value} (pc' : Nat) (fs' : List Value) (hat : ix_at q.2.2.2.2.2.2.2.1 pc = some (.putfield idx, n)) (hf : ix_fld q.1 idx = some (nest, ci, k, i0)) (hc : h.2.2 a = .inr (ci, fs)) (hk : k < fs.length) (hok : ix_ok (ix_ty ci k) v = true) (hfin : (ix_TT ci k).2.2.2 = true → q.2.2.2.2.2.2.1 = 2 ∧ q.1 = ci ∧ nest = 0) (hs : fs.set k v = fs') (hp : pc + 3 = pc') (kk : gs S d q (pc', ls, r, ix_set h a (.inr (ci, fs'))) P) : gs S d q (pc, ls, v :: .ref a :: r, h) P := by
  subst hp
  subst hs
  refine gs_at hat ?_ kk
  simp only [ix_exec, ix_pf, hc, hf]
  rw [if_pos ⟨trivial, hk, hok, hfin⟩]
theorem ix_bad {x : Int32} {j m : Nat} (hi : x = nI j) (hj : j < m) (hm : m < 2 ^ 31) : ¬ (x < 0 ∨ m ≤ x.toNatClampNeg) := by
  subst hi
  exact nI_in hj hm
theorem gs_ia {x : Int32} {m : Nat} {f : Nat → Int32} (j : Nat) (pc' : Nat) (hat : ix_at q.2.2.2.2.2.2.2.1 pc = some (.iaload, n)) (hc : h.2.2 a = .inl (.int, m, .inl f)) (hi : x = nI j) (hj : j < m) (hm : m < 2 ^ 31) (hp : pc + 1 = pc') (kk : gs S d q (pc', ls, .int (f j) :: r, h) P) : gs S d q (pc, ls, .int x :: .ref a :: r, h) P := by
  subst hp
  refine gs_at hat ?_ kk
  have h1 := ix_bad hi hj hm
  subst hi
  simp only [ix_exec, ix_ia, hc, h1, if_false]
  rw [nI_clamp (by omega)]
theorem gs_ba {x : Int32} {m : Nat} {f : Nat → Int32} (j : Nat) (pc' : Nat) (hat : ix_at q.2.2.2.2.2.2.2.1 pc = some (.baload, n)) (hc : h.2.2 a = .inl (.byte, m, .inl f)) (hi : x = nI j) (hj : j < m) (hm : m < 2 ^ 31) (hp : pc + 1 = pc') (kk : gs S d q (pc', ls, .int (f j) :: r, h) P) : gs S d q (pc, ls, .int x :: .ref a :: r, h) P := by
  subst hp
  refine gs_at hat ?_ kk
  have h1 := ix_bad hi hj hm
  subst hi
  simp only [ix_exec, ix_ba, hc, h1, if_false]
  rw [nI_clamp (by omega)]
theorem gs_za {x : Int32} {m : Nat} {f : Nat → Int32} (j : Nat) (pc' : Nat) (hat : ix_at q.2.2.2.2.2.2.2.1 pc = some (.baload, n)) (hc : h.2.2 a = .inl (.boolean, m, .inl f)) (hi : x = nI j) (hj : j < m) (hm : m < 2 ^ 31) (hp : pc + 1 = pc') (kk : gs S d q (pc', ls, .int (f j) :: r, h) P) : gs S d q (pc, ls, .int x :: .ref a :: r, h) P := by
  subst hp
  refine gs_at hat ?_ kk
  have h1 := ix_bad hi hj hm
  subst hi
  simp only [ix_exec, ix_ba, hc, h1, if_false]
  rw [nI_clamp (by omega)]
theorem gs_aa {x : Int32} {m : Nat} {C : String} {f : Nat → Option Nat} (j : Nat) (y : Nat) (pc' : Nat) (hat : ix_at q.2.2.2.2.2.2.2.1 pc = some (.aaload, n)) (hc : h.2.2 a = .inl (.object C, m, .inr (.inr (.inr (.inr f))))) (hi : x = nI j) (hj : j < m) (hm : m < 2 ^ 31) (hC : C = RX1 ∨ C = RX2) (hy : f j = some y) (hp : pc + 1 = pc') (kk : gs S d q (pc', ls, .ref y :: r, h) P) : gs S d q (pc, ls, .int x :: .ref a :: r, h) P := by
  subst hp
  refine gs_at hat ?_ kk
  have h1 := ix_bad hi hj hm
  subst hi
  have h2 : ¬ (nI j < 0 ∨ m ≤ (nI j).toNatClampNeg ∨ ¬ (C = RX1 ∨ C = RX2)) := fun z => z.elim (fun z => h1 (Or.inl z)) (fun z => z.elim (fun z => h1 (Or.inr z)) (fun z => z hC))
  simp only [ix_exec, ix_aa, hc, h2, if_false]
  rw [nI_clamp (by omega), hy]
theorem gs_is {x v : Int32} {m : Nat} {f : Nat → Int32} (j : Nat) (pc' : Nat) (hat : ix_at q.2.2.2.2.2.2.2.1 pc = some (.iastore, n)) (hc : h.2.2 a = .inl (.int, m, .inl f)) (hi : x = nI j) (hj : j < m) (hm : m < 2 ^ 31) (hp : pc + 1 = pc') (kk : gs S d q (pc', ls, r, ix_set h a (.inl (.int, m, .inl (upd f j v)))) P) : gs S d q (pc, ls, .int v :: .int x :: .ref a :: r, h) P := by
  subst hp
  refine gs_at hat ?_ kk
  have h1 := ix_bad hi hj hm
  subst hi
  simp only [ix_exec, ix_is, hc, h1, if_false]
  rw [nI_clamp (by omega)]
theorem gs_bs {x v : Int32} {m : Nat} {f : Nat → Int32} (j : Nat) (pc' : Nat) (hat : ix_at q.2.2.2.2.2.2.2.1 pc = some (.bastore, n)) (hc : h.2.2 a = .inl (.byte, m, .inl f)) (hi : x = nI j) (hj : j < m) (hm : m < 2 ^ 31) (hp : pc + 1 = pc') (kk : gs S d q (pc', ls, r, ix_set h a (.inl (.byte, m, .inl (upd f j v.toInt8.toInt32)))) P) : gs S d q (pc, ls, .int v :: .int x :: .ref a :: r, h) P := by
  subst hp
  refine gs_at hat ?_ kk
  have h1 := ix_bad hi hj hm
  subst hi
  simp only [ix_exec, ix_bs, hc, h1, if_false]
  rw [nI_clamp (by omega)]
theorem gs_zs {x v : Int32} {m : Nat} {f : Nat → Int32} (j : Nat) (pc' : Nat) (hat : ix_at q.2.2.2.2.2.2.2.1 pc = some (.bastore, n)) (hc : h.2.2 a = .inl (.boolean, m, .inl f)) (hi : x = nI j) (hj : j < m) (hm : m < 2 ^ 31) (hp : pc + 1 = pc') (kk : gs S d q (pc', ls, r, ix_set h a (.inl (.boolean, m, .inl (upd f j (v &&& 1))))) P) : gs S d q (pc, ls, .int v :: .int x :: .ref a :: r, h) P := by
  subst hp
  refine gs_at hat ?_ kk
  have h1 := ix_bad hi hj hm
  subst hi
  simp only [ix_exec, ix_bs, hc, h1, if_false]
  rw [nI_clamp (by omega)]
theorem gs_al {m : Nat} {f : Nat → Int32} {ty : FieldType} (pc' : Nat) (hat : ix_at q.2.2.2.2.2.2.2.1 pc = some (.arraylength, n)) (hc : h.2.2 a = .inl (ty, m, .inl f)) (ht : ty = .int ∨ ty = .byte ∨ ty = .boolean) (hp : pc + 1 = pc') (kk : gs S d q (pc', ls, .int (nI m) :: r, h) P) : gs S d q (pc, ls, .ref a :: r, h) P := by
  subst hp
  refine gs_at hat ?_ kk
  rcases ht with rfl | rfl | rfl <;> simp only [ix_exec, ix_al, hc] <;> rfl
theorem gs_call {f g : ix_F} {y : Nat} {as : List Value} {v : Option Value} {h' : ix_H} (hs : ix_step S q f = some (.inr (.inr (y, as, g)))) (ev : ix_Ev d y as g.2.2.2 (v, h')) (k : gs S d q (g.1, g.2.1, v.toList ++ g.2.2.1, h') P) : gs S d q f P := by
  obtain ⟨o, ⟨n, hn⟩, hP⟩ := k
  refine ⟨o, ⟨n + 1, ?_⟩, hP⟩
  unfold ix_run
  rw [hs]
  exact ⟨v, h', ev, hn⟩
theorem gs_cv {Pc : ix_O → Prop} {y i0 : Nat} {qq : ix_M} {As : List Value} {fs : List Value} (pc' : Nat) (hat : ix_at q.2.2.2.2.2.2.2.1 pc = some (.invokevirtual idx, n)) (hm : ix_mth q.1 idx = some (0, y, i0)) (hq : mNs[y]? = some qq) (sp : ev d y (.ref a :: As) h Pc) (hst : st = As.reverse ++ .ref a :: r) (hk : qq.2.2.2.2.2.2.1 = 0) (hlen : As.length = qq.2.2.2.2.2.1) (hsum : (r.map fun v => v.category).sum ≤ 8) (hc : h.2.2 a = .inr (qq.1, fs)) (hp : pc + 3 = pc') (kk : ∀ (v : Option Value) (h' : ix_H), Pc (v, h') → gs S d q (pc', ls, v.toList ++ r, h') P) : gs S d q (pc, ls, st, h) P := by
  subst hp
  subst hst
  obtain ⟨⟨v, h'⟩, ho, hPc⟩ := sp
  refine gs_call (g := (pc + 3, ls, r, h)) (y := y) (as := .ref a :: As) ?_ ho (kk _ _ hPc)
  unfold ix_step
  have h1 : (As.reverse ++ Value.ref a :: r).take (As.length + 1) = As.reverse ++ [Value.ref a] := by
    rw [show As.reverse ++ Value.ref a :: r = (As.reverse ++ [Value.ref a]) ++ r by simp, List.take_append_of_le_length (by simp)]
    exact List.take_of_length_le (by simp)
  have h2 : (As.reverse ++ Value.ref a :: r).drop (As.length + 1) = r := by
    rw [show As.reverse ++ Value.ref a :: r = (As.reverse ++ [Value.ref a]) ++ r by simp, List.drop_append_of_le_length (by simp), List.drop_of_length_le (by simp)]
    rfl
  simp only [hat, ix_exec, ix_call, hm, hq, ← hlen]
  simp only [show ¬ ((0 : Nat) = 2) by decide, show ¬ ((0 : Nat) = 3) by decide, show ¬ ((0 : Nat) = 4) by decide, show ¬ ((0 : Nat) = 1) by decide, if_false, h1, h2]
  rw [if_pos]
  · simp
  · refine ⟨hk, by simp, hsum, fun z => absurd z (by decide), Or.inl trivial, Or.inr ?_⟩
    simp [ix_rcv, hc]
theorem gs_cs {Pc : ix_O → Prop} {y i0 : Nat} {qq : ix_M} {As : List Value} (pc' : Nat) (hat : ix_at q.2.2.2.2.2.2.2.1 pc = some (.invokestatic idx, n)) (hm : ix_mth q.1 idx = some (0, y, i0)) (hq : mNs[y]? = some qq) (sp : ev d y As h Pc) (hst : st = As.reverse ++ r) (hk : qq.2.2.2.2.2.2.1 = 1) (hlen : As.length = qq.2.2.2.2.2.1) (hsum : (r.map fun v => v.category).sum ≤ 8) (hp : pc + 3 = pc') (kk : ∀ (v : Option Value) (h' : ix_H), Pc (v, h') → gs S d q (pc', ls, v.toList ++ r, h') P) : gs S d q (pc, ls, st, h) P := by
  subst hp
  subst hst
  obtain ⟨⟨v, h'⟩, ho, hPc⟩ := sp
  refine gs_call (g := (pc + 3, ls, r, h)) (y := y) (as := As) ?_ ho (kk _ _ hPc)
  unfold ix_step
  have h1 : (As.reverse ++ r).take As.length = As.reverse := by
    rw [List.take_append_of_le_length (by simp)]
    exact List.take_of_length_le (by simp)
  have h2 : (As.reverse ++ r).drop As.length = r := by
    rw [List.drop_append_of_le_length (by simp), List.drop_of_length_le (by simp)]
    rfl
  simp only [hat, ix_exec, ix_call, hm, hq, ← hlen]
  simp only [show ¬ ((0 : Nat) = 2) by decide, show ¬ ((0 : Nat) = 3) by decide, show ¬ ((0 : Nat) = 4) by decide, if_true, if_false, Nat.add_zero, h1, h2]
  rw [if_pos]
  · simp
  · exact ⟨hk, by simp, hsum, fun z => absurd z (by decide), Or.inl trivial, Or.inl trivial⟩
theorem gs_ci {Pc : ix_O → Prop} {y i0 nest : Nat} {qq : ix_M} {As : List Value} {fs : List Value} (pc' : Nat) (hat : ix_at q.2.2.2.2.2.2.2.1 pc = some (.invokespecial idx, n)) (hm : ix_mth q.1 idx = some (nest, y, i0)) (hnest : nest = 0 ∨ nest = 1) (hq : mNs[y]? = some qq) (sp : ev d y (.ref a :: As) h Pc) (hst : st = As.reverse ++ .ref a :: r) (hk : qq.2.2.2.2.2.2.1 = 2) (hlen : As.length = qq.2.2.2.2.2.1) (hsum : (r.map fun v => v.category).sum ≤ 8) (hc : h.2.2 a = .inr (qq.1, fs)) (hp : pc + 3 = pc') (kk : ∀ (v : Option Value) (h' : ix_H), Pc (v, h') → gs S d q (pc', ls, v.toList ++ r, h') P) : gs S d q (pc, ls, st, h) P := by
  subst hp
  subst hst
  obtain ⟨⟨v, h'⟩, ho, hPc⟩ := sp
  refine gs_call (g := (pc + 3, ls, r, h)) (y := y) (as := .ref a :: As) ?_ ho (kk _ _ hPc)
  unfold ix_step
  have h1 : (As.reverse ++ Value.ref a :: r).take (As.length + 1) = As.reverse ++ [Value.ref a] := by
    rw [show As.reverse ++ Value.ref a :: r = (As.reverse ++ [Value.ref a]) ++ r by simp, List.take_append_of_le_length (by simp)]
    exact List.take_of_length_le (by simp)
  have h2 : (As.reverse ++ Value.ref a :: r).drop (As.length + 1) = r := by
    rw [show As.reverse ++ Value.ref a :: r = (As.reverse ++ [Value.ref a]) ++ r by simp, List.drop_append_of_le_length (by simp), List.drop_of_length_le (by simp)]
    rfl
  simp only [hat, ix_exec, ix_call, hm, hq, ← hlen]
  rw [if_neg (by omega), if_neg (by omega), if_neg (by omega)]
  simp only [show ¬ ((2 : Nat) = 1) by decide, if_false, h1, h2]
  rw [if_pos]
  · simp
  · refine ⟨hk, by simp, hsum, fun _ => trivial, hnest, Or.inr ?_⟩
    simp [ix_rcv, hc]
theorem ev_of {y : Nat} {as : List Value} (hq : mNs[y]? = some q) (hlen : (lg_sl as).length ≤ q.2.2.2.1) (k : gs none d q (0, lv_args 0 as, [], h) P) : ev (d + 1) y as h P := by
  obtain ⟨o, ⟨n, hn⟩, hP⟩ := k
  exact ⟨o, ⟨q, n, hq, hlen, hn⟩, hP⟩
end GS
