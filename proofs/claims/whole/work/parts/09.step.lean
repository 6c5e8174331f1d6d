/-! ONE STEP -/
section IXE
variable {p : Program} {l : Launch} {e : Env} {R : Room} {s : State} {m : MethodId} {args : Array Value} {below : List Frame} {meth : Method} {c : Code} {Q : State → Prop}
variable {D : va_G} {b base : Nat} {aC : FieldType → ClassId} {q : ix_M} {h0 : ix_H} {S : ix_S} {pc : Nat} {ls : ix_L} {st : List Value} {h : ix_H} {f : ix_F} {idx : Nat}
theorem ix_jmp_ok {pc t : Nat} {off : Int} (h : ix_jmp pc off = some t) : (pc : Int) + off = (t : Int) := by
  unfold ix_jmp at h
  split at h
  · rename_i z
    cases h
    omega
  · cases h
theorem ix_goto_ok {off : Int} (hr : ix_goto pc off ls st h = some (.inl f)) : ∃ t : Nat, (pc : Int) + off = (t : Int) ∧ f = (t, ls, st, h) := by
  unfold ix_goto at hr
  split at hr
  · rename_i t ht
    cases hr
    exact ⟨t, ix_jmp_ok ht, rfl⟩
  · cases hr
theorem ix_br_ok {bb : Bool} {off : Int} (hr : ix_br bb pc off ls st h = some (.inl f)) : ∃ t : Nat, (pc : Int) + off = (t : Int) ∧ f = (if bb then t else pc + 3, ls, st, h) := by
  unfold ix_br at hr
  split at hr
  · rename_i t ht
    cases hr
    exact ⟨t, ix_jmp_ok ht, rfl⟩
  · cases hr
theorem ix_lcl {la : Array Slot} {nL k : Nat} {v : Value} (hl : lv_has la nL (ls.map (ix_cp b base))) (hg : ix_get ls k = some v) : la[k]? = some (.val (ix_cv b base v)) := hl.2.2 (k, ix_cv b base v) (List.mem_map.mpr ⟨(k, v), ix_get_mem hg, rfl⟩)

set_option maxHeartbeats 4000000 in
theorem ix_w_if (hx : p.tables.exec = Jvm.exec) (hb : c.code = q.2.2.1) {cd : ClassFile.Cond} {off : Int} {x : Int32} (hr : ix_br (ix_cmp cd x 0) pc off ls st h = some (.inl f)) (hd : decode q.2.2.1 pc = .ok (.ifCond cd off, 3)) (kk : ix_W p l e R s m args below meth c Q D b base aC q h0 f) : ix_W p l e R s m args below meth c Q D b base aC q h0 (pc, ls, .int x :: st, h) := by
  intro H locs la hI hl
  obtain ⟨t, ht, rfl⟩ := ix_br_ok hr
  have kk1 := kk H locs la hI hl
  cases cd
  · refine lv_if_eq hx hb hd ht (fun z => ?_) (fun z => ?_)
    · rw [show ix_cmp .eq x 0 = true from decide_eq_true z] at kk1; exact kk1
    · rw [show ix_cmp .eq x 0 = false from decide_eq_false z] at kk1; exact kk1
  · refine lv_if_ne hx hb hd ht (fun z => ?_) (fun z => ?_)
    · rw [show ix_cmp .ne x 0 = true from decide_eq_true z] at kk1; exact kk1
    · rw [show ix_cmp .ne x 0 = false from decide_eq_false (fun w => w z)] at kk1; exact kk1
  · refine lv_if_lt hx hb hd ht (fun z => ?_) (fun z => ?_)
    · rw [show ix_cmp .lt x 0 = true from decide_eq_true z] at kk1; exact kk1
    · rw [show ix_cmp .lt x 0 = false from decide_eq_false z] at kk1; exact kk1
  · refine lv_if_ge hx hb hd ht (fun z => ?_) (fun z => ?_)
    · rw [show ix_cmp .ge x 0 = true from decide_eq_true z] at kk1; exact kk1
    · rw [show ix_cmp .ge x 0 = false from decide_eq_false z] at kk1; exact kk1
  · refine lv_if_gt hx hb hd ht (fun z => ?_) (fun z => ?_)
    · rw [show ix_cmp .gt x 0 = true from decide_eq_true z] at kk1; exact kk1
    · rw [show ix_cmp .gt x 0 = false from decide_eq_false z] at kk1; exact kk1
  · refine lv_if_le hx hb hd ht (fun z => ?_) (fun z => ?_)
    · rw [show ix_cmp .le x 0 = true from decide_eq_true z] at kk1; exact kk1
    · rw [show ix_cmp .le x 0 = false from decide_eq_false z] at kk1; exact kk1
set_option maxHeartbeats 4000000 in
theorem ix_w_ic (hx : p.tables.exec = Jvm.exec) (hb : c.code = q.2.2.1) {cd : ClassFile.Cond} {off : Int} {x y : Int32} (hr : ix_br (ix_cmp cd x y) pc off ls st h = some (.inl f)) (hd : decode q.2.2.1 pc = .ok (.if_icmp cd off, 3)) (kk : ix_W p l e R s m args below meth c Q D b base aC q h0 f) : ix_W p l e R s m args below meth c Q D b base aC q h0 (pc, ls, .int y :: .int x :: st, h) := by
  intro H locs la hI hl
  obtain ⟨t, ht, rfl⟩ := ix_br_ok hr
  have kk1 := kk H locs la hI hl
  cases cd
  · refine lv_icmp_eq hx hb hd ht (fun z => ?_) (fun z => ?_)
    · rw [show ix_cmp .eq x y = true from decide_eq_true z] at kk1; exact kk1
    · rw [show ix_cmp .eq x y = false from decide_eq_false z] at kk1; exact kk1
  · refine lv_icmp_ne hx hb hd ht (fun z => ?_) (fun z => ?_)
    · rw [show ix_cmp .ne x y = true from decide_eq_true z] at kk1; exact kk1
    · rw [show ix_cmp .ne x y = false from decide_eq_false (fun w => w z)] at kk1; exact kk1
  · refine lv_icmp_lt hx hb hd ht (fun z => ?_) (fun z => ?_)
    · rw [show ix_cmp .lt x y = true from decide_eq_true z] at kk1; exact kk1
    · rw [show ix_cmp .lt x y = false from decide_eq_false z] at kk1; exact kk1
  · refine lv_icmp_ge hx hb hd ht (fun z => ?_) (fun z => ?_)
    · rw [show ix_cmp .ge x y = true from decide_eq_true z] at kk1; exact kk1
    · rw [show ix_cmp .ge x y = false from decide_eq_false z] at kk1; exact kk1
  · refine lv_icmp_gt hx hb hd ht (fun z => ?_) (fun z => ?_)
    · rw [show ix_cmp .gt x y = true from decide_eq_true z] at kk1; exact kk1
    · rw [show ix_cmp .gt x y = false from decide_eq_false z] at kk1; exact kk1
  · refine lv_icmp_le hx hb hd ht (fun z => ?_) (fun z => ?_)
    · rw [show ix_cmp .le x y = true from decide_eq_true z] at kk1; exact kk1
    · rw [show ix_cmp .le x y = false from decide_eq_false z] at kk1; exact kk1
theorem ix_sum_cv (r : List Value) : ((r.map (ix_cv b base)).map fun v => v.category).sum = (r.map fun v => v.category).sum := by
  rw [List.map_map]
  congr 1
  apply List.map_congr_left
  intro v _
  exact ix_cv_cat b base v
set_option maxHeartbeats 4000000 in
/-- what a call does at once: Object(), Math.max, Math.min -/
theorem ix_w_c0 (X : ix_X p R s m args meth c D b base aC q S) {i : Instr} {kd : Nat} (hi : (kd = 0 ∧ i = .invokevirtual idx) ∨ (kd = 1 ∧ i = .invokestatic idx) ∨ (kd = 2 ∧ i = .invokespecial idx)) (hr : ix_call q.1 kd idx pc ls st h = some (.inl f)) (hd : decode q.2.2.1 pc = .ok (i, 3)) (hhi : f.2.2.2.1 - h0.1 ≤ R.cells ∧ f.2.2.2.2.1 - h0.2.1 ≤ R.slots) (kk : ix_W p l e R s m args below meth c Q D b base aC q h0 f) : ix_W p l e R s m args below meth c Q D b base aC q h0 (pc, ls, st, h) := by
  obtain ⟨hx, hb, -, hml, hown, hts, hK, hX, -, -, -, -, hfr, hlo⟩ := X
  obtain ⟨w1, w2, w3, w4, w5, w6, w7, -⟩ := ix_mw_ok
  intro H locs la hI hl
  unfold ix_call at hr
  split at hr
  · cases hr
  · rename_i nest y i0 hm
    obtain ⟨m2, m3, m4, -⟩ := ix_mth_ok hm
    split at hr
    · rename_i hn
      split at hr
      · split at hr
        · rename_i a r hc
          obtain ⟨rfl, hs⟩ := hc
          cases hr
          have hi : i = .invokespecial idx := by rcases hi with ⟨z, -⟩ | ⟨z, -⟩ | ⟨-, z⟩ <;> first | exact z | (cases z)
          subst hi
          refine W.objInit hx hb hown (ix_word hts (m2 hn) rfl) (ix_word hts w5 rfl) (ix_word hts w6 rfl) rfl (by rw [hml]; exact hl.1) rfl hd hfr ?_ (kk H locs la hI hl)
          have hz : 2 * (F0 m pc la ((Value.ref a :: r).map (ix_cv b base))).monitorRoom + ((r.map (ix_cv b base)).map fun v => v.category).sum ≤ 8 := lv_room (by rw [ix_sum_cv]; exact hs)
          show 2 * (F0 m pc la ((Value.ref a :: r).map (ix_cv b base))).monitorRoom + ((r.map (ix_cv b base)).map fun v => v.category).sum + 12 ≤ R.locals
          omega
        · cases hr
      · cases hr
    · split at hr
      · rename_i hn
        split at hr
        · split at hr
          · rename_i y x r hc
            obtain ⟨rfl, hs⟩ := hc
            cases hr
            have hi : i = .invokestatic idx := by rcases hi with ⟨z, -⟩ | ⟨-, z⟩ | ⟨z, -⟩ <;> first | exact z | (cases z)
            subst hi
            refine va_mmax hx hb (by rw [hml]; exact hl.1.symm) hown (ix_word hts (m3 hn) rfl) (ix_word hts w1 rfl) (ix_word hts w7 rfl) (ix_word hts w2 rfl) hfr ?_ hhi.1 hhi.2 hd (kk H locs la hI hl)
            rw [ix_sum_cv]; omega
          · cases hr
        · cases hr
      · split at hr
        · rename_i hn
          split at hr
          · split at hr
            · rename_i y x r hc
              obtain ⟨rfl, hs⟩ := hc
              cases hr
              have hi : i = .invokestatic idx := by rcases hi with ⟨z, -⟩ | ⟨-, z⟩ | ⟨z, -⟩ <;> first | exact z | (cases z)
              subst hi
              refine va_mmin hx hb (by rw [hml]; exact hl.1.symm) hown (ix_word hts (m4 hn) rfl) (ix_word hts w3 rfl) (ix_word hts w7 rfl) (ix_word hts w4 rfl) hfr ?_ hhi.1 hhi.2 hd (kk H locs la hI hl)
              rw [ix_sum_cv]; omega
            · cases hr
          · cases hr
        · split at hr
          · cases hr
          · simp only at hr
            generalize (if kd = 1 then 0 else 1 : Nat) = z1 at hr
            split at hr <;> cases hr
set_option maxHeartbeats 8000000 in
theorem ix_w_exec (X : ix_X p R s m args meth c D b base aC q S) {i : Instr} {n : Nat} (hr : ix_exec S q i pc ls st h = some (.inl f)) (hd : decode q.2.2.1 pc = .ok (i, n)) (hn : (∃ d lo hi offs, i = .tableswitch d lo hi offs) ∨ n = ix_len i) (hlo : h0.1 ≤ h.1 ∧ h0.2.1 ≤ h.2.1) (hhi : f.2.2.2.1 - h0.1 ≤ R.cells ∧ f.2.2.2.2.1 - h0.2.1 ≤ R.slots) (kk : ix_W p l e R s m args below meth c Q D b base aC q h0 f) : ix_W p l e R s m args below meth c Q D b base aC q h0 (pc, ls, st, h) := by
  have hx := X.1
  have hb := X.2.1
  unfold ix_exec at hr
  split at hr
  · obtain rfl : n = _ := by rcases hn with ⟨_, _, _, _, z⟩ | z; cases z; exact z
    intro H locs la hI hl
    unfold ix_ldI at hr
    split at hr
    · rename_i x hg; cases hr; exact lv_iload hx hb hd (ix_lcl hl hg) (kk H locs la hI hl)
    · cases hr
  · obtain rfl : n = _ := by rcases hn with ⟨_, _, _, _, z⟩ | z; cases z; exact z
    intro H locs la hI hl
    unfold ix_ldI at hr
    split at hr
    · rename_i x hg; cases hr; exact lv_iload_n hx hb hd rfl (ix_lcl hl hg) (kk H locs la hI hl)
    · cases hr
  · obtain rfl : n = _ := by rcases hn with ⟨_, _, _, _, z⟩ | z; cases z; exact z
    intro H locs la hI hl
    unfold ix_ldL at hr
    split at hr
    · rename_i x hg; cases hr; exact lv_lload hx hb hd (ix_lcl hl hg) (kk H locs la hI hl)
    · cases hr
  · obtain rfl : n = _ := by rcases hn with ⟨_, _, _, _, z⟩ | z; cases z; exact z
    intro H locs la hI hl
    unfold ix_ldL at hr
    split at hr
    · rename_i x hg; cases hr; exact lv_lload_n hx hb hd rfl (ix_lcl hl hg) (kk H locs la hI hl)
    · cases hr
  · obtain rfl : n = _ := by rcases hn with ⟨_, _, _, _, z⟩ | z; cases z; exact z
    intro H locs la hI hl
    unfold ix_ldA at hr
    split at hr
    · rename_i x hg; cases hr; exact lv_aload hx hb hd (ix_lcl hl hg) (kk H locs la hI hl)
    · rename_i x hg; cases hr; exact lv_aload hx hb hd (ix_lcl hl hg) (kk H locs la hI hl)
    · cases hr
  · obtain rfl : n = _ := by rcases hn with ⟨_, _, _, _, z⟩ | z; cases z; exact z
    intro H locs la hI hl
    unfold ix_ldA at hr
    split at hr
    · rename_i x hg; cases hr; exact lv_aload_n hx hb hd rfl (ix_lcl hl hg) (kk H locs la hI hl)
    · rename_i x hg; cases hr; exact lv_aload_n hx hb hd rfl (ix_lcl hl hg) (kk H locs la hI hl)
    · cases hr
  · obtain rfl : n = _ := by rcases hn with ⟨_, _, _, _, z⟩ | z; cases z; exact z
    intro H locs la hI hl
    unfold ix_stI at hr
    split at hr
    · split at hr
      · rename_i x r hk; cases hr; exact lv_istore hx hb hd hl hk (ix_put1_map b base ls _ (.int x)) (fun la' hl' => kk H locs la' hI hl')
      · cases hr
    · cases hr
  · obtain rfl : n = _ := by rcases hn with ⟨_, _, _, _, z⟩ | z; cases z; exact z
    intro H locs la hI hl
    unfold ix_stI at hr
    split at hr
    · split at hr
      · rename_i x r hk; cases hr; exact lv_istore_n hx hb hd rfl hl hk (ix_put1_map b base ls _ (.int x)) (fun la' hl' => kk H locs la' hI hl')
      · cases hr
    · cases hr
  · obtain rfl : n = _ := by rcases hn with ⟨_, _, _, _, z⟩ | z; cases z; exact z
    intro H locs la hI hl
    unfold ix_stL at hr
    split at hr
    · split at hr
      · rename_i x r hk; cases hr; exact lv_lstore hx hb hd hl hk (ix_put2_map b base ls _ (.long x)) (fun la' hl' => kk H locs la' hI hl')
      · cases hr
    · cases hr
  · obtain rfl : n = _ := by rcases hn with ⟨_, _, _, _, z⟩ | z; cases z; exact z
    intro H locs la hI hl
    unfold ix_stL at hr
    split at hr
    · split at hr
      · rename_i x r hk; cases hr; exact lv_lstore_n hx hb hd rfl hl hk (ix_put2_map b base ls _ (.long x)) (fun la' hl' => kk H locs la' hI hl')
      · cases hr
    · cases hr
  · obtain rfl : n = _ := by rcases hn with ⟨_, _, _, _, z⟩ | z; cases z; exact z
    intro H locs la hI hl
    unfold ix_stA at hr
    split at hr
    · split at hr
      · rename_i x r hk; cases hr; exact lv_astore hx hb hd hl hk (ix_put1_map b base ls _ (.ref x)) (fun la' hl' => kk H locs la' hI hl')
      · cases hr
    · cases hr
  · obtain rfl : n = _ := by rcases hn with ⟨_, _, _, _, z⟩ | z; cases z; exact z
    intro H locs la hI hl
    unfold ix_stA at hr
    split at hr
    · split at hr
      · rename_i x r hk; cases hr; exact lv_astore_n hx hb hd rfl hl hk (ix_put1_map b base ls _ (.ref x)) (fun la' hl' => kk H locs la' hI hl')
      · cases hr
    · cases hr
  · obtain rfl : n = _ := by rcases hn with ⟨_, _, _, _, z⟩ | z; cases z; exact z
    intro H locs la hI hl
    split at hr
    · rename_i x hg
      split at hr
      · rename_i hk
        cases hr
        obtain ⟨j, hj⟩ := List.getElem?_of_mem (List.mem_map.mpr ⟨_, ix_get_mem hg, rfl⟩ : (_, ix_cv b base (.int x)) ∈ ls.map (ix_cp b base))
        exact lv_iinc hx hb hd hl hj rfl hk (ix_put1_map b base ls _ (.int _)) (fun la' hl' => kk H locs la' hI hl')
      · cases hr
    · cases hr
  · obtain rfl : n = _ := by rcases hn with ⟨_, _, _, _, z⟩ | z; cases z; exact z
    intro H locs la hI hl
    obtain ⟨t, ht, rfl⟩ := ix_goto_ok hr
    exact lv_goto hx hb hd ht (kk H locs la hI hl)
  · obtain rfl : n = _ := by rcases hn with ⟨_, _, _, _, z⟩ | z; cases z; exact z
    split at hr
    · exact ix_w_if hx hb hr hd kk
    · cases hr
  · obtain rfl : n = _ := by rcases hn with ⟨_, _, _, _, z⟩ | z; cases z; exact z
    split at hr
    · exact ix_w_ic hx hb hr hd kk
    · cases hr
  · intro H locs la hI hl
    split at hr
    · split at hr
      · rename_i hz; obtain ⟨t, ht, rfl⟩ := ix_goto_ok hr; exact lv_tableOut hx hb hd hz ht (kk H locs la hI hl)
      · rename_i hz
        split at hr
        · rename_i o ho; obtain ⟨t, ht, rfl⟩ := ix_goto_ok hr; exact lv_tableIn hx hb hd (fun z => hz (Or.inl z)) (fun z => hz (Or.inr z)) ho ht (kk H locs la hI hl)
        · cases hr
    · cases hr
  · obtain rfl : n = _ := by rcases hn with ⟨_, _, _, _, z⟩ | z; cases z; exact z
    intro H locs la hI hl
    split at hr
    · rename_i v i0 hv; cases hr; exact lv_ldc hx hb X.2.2.2.2.1 (ix_word X.2.2.2.2.2.1 (ix_con_ok hv) rfl) hd (kk H locs la hI hl)
    · cases hr
  · obtain rfl : n = _ := by rcases hn with ⟨_, _, _, _, z⟩ | z; cases z; exact z
    intro H locs la hI hl
    split at hr
    · rename_i v i0 hv; cases hr; exact lv_ldc2 hx hb X.2.2.2.2.1 (ix_word X.2.2.2.2.2.1 (ix_cnl_ok hv) rfl) hd (kk H locs la hI hl)
    · cases hr
  · obtain rfl : n = _ := by rcases hn with ⟨_, _, _, _, z⟩ | z; cases z; exact z
    exact ix_w_gf X hr hd kk
  · obtain rfl : n = _ := by rcases hn with ⟨_, _, _, _, z⟩ | z; cases z; exact z
    exact ix_w_pf X hr hd kk
  · obtain rfl : n = _ := by rcases hn with ⟨_, _, _, _, z⟩ | z; cases z; exact z
    exact ix_w_al X hr hd kk
  · obtain rfl : n = _ := by rcases hn with ⟨_, _, _, _, z⟩ | z; cases z; exact z
    exact ix_w_ia X hr hd kk
  · obtain rfl : n = _ := by rcases hn with ⟨_, _, _, _, z⟩ | z; cases z; exact z
    exact ix_w_ba X hr hd kk
  · obtain rfl : n = _ := by rcases hn with ⟨_, _, _, _, z⟩ | z; cases z; exact z
    exact ix_w_aa X hr hd kk
  · obtain rfl : n = _ := by rcases hn with ⟨_, _, _, _, z⟩ | z; cases z; exact z
    exact ix_w_is X hr hd kk
  · obtain rfl : n = _ := by rcases hn with ⟨_, _, _, _, z⟩ | z; cases z; exact z
    exact ix_w_bs X hr hd kk
  · obtain rfl : n = _ := by rcases hn with ⟨_, _, _, _, z⟩ | z; cases z; exact z
    exact ix_w_as X hr hd kk
  · obtain rfl : n = _ := by rcases hn with ⟨_, _, _, _, z⟩ | z; cases z; exact z
    exact ix_w_na X hr hd hlo hhi kk
  · obtain rfl : n = _ := by rcases hn with ⟨_, _, _, _, z⟩ | z; cases z; exact z
    exact ix_w_nq X hr hd hlo hhi kk
  · obtain rfl : n = _ := by rcases hn with ⟨_, _, _, _, z⟩ | z; cases z; exact z
    exact ix_w_no X hr hd hlo hhi kk
  · obtain rfl : n = _ := by rcases hn with ⟨_, _, _, _, z⟩ | z; cases z; exact z
    exact ix_w_c0 X (Or.inl ⟨rfl, rfl⟩) hr hd hhi kk
  · obtain rfl : n = _ := by rcases hn with ⟨_, _, _, _, z⟩ | z; cases z; exact z
    exact ix_w_c0 X (Or.inr (Or.inl ⟨rfl, rfl⟩)) hr hd hhi kk
  · obtain rfl : n = _ := by rcases hn with ⟨_, _, _, _, z⟩ | z; cases z; exact z
    exact ix_w_c0 X (Or.inr (Or.inr ⟨rfl, rfl⟩)) hr hd hhi kk
  · split at hr
    · split at hr <;> cases hr
    · cases hr
  · split at hr <;> cases hr
  · split at hr <;> cases hr
  · split at hr
    · rename_i st' hp
      cases hr
      intro H locs la hI hl
      rcases hn with ⟨d, lo, hi, offs, rfl⟩ | rfl
      · cases hp
      · exact ix_w_pure hx hb hp hd (kk H locs la hI hl)
    · cases hr
end IXE
