/-! ARRAYS AND NEW CELLS -/
theorem ix_blank_cv (b base ci : Nat) : (ix_blank ci).map (ix_cv b base) = ix_blank ci := by
  unfold ix_blank
  rw [List.map_map]
  apply List.map_congr_left
  intro k _
  show ix_cv b base (ix_def (ix_ty ci k)) = ix_def (ix_ty ci k)
  unfold ix_def
  split <;> rfl
theorem ix_blank_ok : ∀ ci, ci ≤ 5 → ∀ j, j < ix_NN ci → defaultValue (ix_ty ci j) = vp_V (ix_blank ci) j := by decide +kernel
section IXR
variable {p : Program} {l : Launch} {e : Env} {R : Room} {s : State} {m : MethodId} {args : Array Value} {below : List Frame} {meth : Method} {c : Code} {Q : State → Prop}
variable {D : va_G} {b base : Nat} {aC : FieldType → ClassId} {q : ix_M} {h0 : ix_H} {S : ix_S} {pc : Nat} {ls : ix_L} {st : List Value} {h : ix_H} {f : ix_F} {idx : Nat}
set_option maxHeartbeats 4000000 in
theorem ix_w_al (X : ix_X p R s m args meth c D b base aC q S) (hr : ix_al S pc ls st h = some (.inl f)) (hd : decode q.2.2.1 pc = .ok (.arraylength, 1)) (kk : ix_W p l e R s m args below meth c Q D b base aC q h0 f) : ix_W p l e R s m args below meth c Q D b base aC q h0 (pc, ls, st, h) := by
  obtain ⟨hx, hb, -, -, hown, hts, hK, hX, -⟩ := X
  intro H locs la hI hl
  unfold ix_al at hr
  split at hr
  · rename_i a r
    split at hr
    · rename_i n g hcell
      cases hr
      have ha : a < h.1 := hI.lt (by show h.2.2 a ≠ ix_no_; rw [hcell]; exact ix_no_arr)
      have he : (ix_ws b base aC h)[a]? = some (base + a, .inl (aC .int, n, .inl g)) := by rw [ix_ws_get ha, hcell]; rfl
      exact va_alen hx hb hK.1 hI.2.2.1 a 0 he rfl rfl hd (kk H locs la hI hl)
    · rename_i n g hcell
      cases hr
      have ha : a < h.1 := hI.lt (by show h.2.2 a ≠ ix_no_; rw [hcell]; exact ix_no_arr)
      have he : (ix_ws b base aC h)[a]? = some (base + a, .inl (aC .byte, n, .inl g)) := by rw [ix_ws_get ha, hcell]; rfl
      exact va_alen hx hb hK.1 hI.2.2.1 a 1 he rfl rfl hd (kk H locs la hI hl)
    · rename_i n g hcell
      cases hr
      have ha : a < h.1 := hI.lt (by show h.2.2 a ≠ ix_no_; rw [hcell]; exact ix_no_arr)
      have he : (ix_ws b base aC h)[a]? = some (base + a, .inl (aC .boolean, n, .inl g)) := by rw [ix_ws_get ha, hcell]; rfl
      exact va_alen hx hb hK.1 hI.2.2.1 a 2 he rfl rfl hd (kk H locs la hI hl)
    · cases hr
  · split at hr
    · rename_i L xs
      cases hr
      obtain ⟨x1, x2, x3⟩ := hX L xs rfl
      exact va_slen hx hb x1 x2 (fun z => by unfold ix_A at z; omega) hI.2.2.2 hd (kk H locs la hI hl)
    · cases hr
  · cases hr
set_option maxHeartbeats 4000000 in
theorem ix_w_ia (X : ix_X p R s m args meth c D b base aC q S) (hr : ix_ia S pc ls st h = some (.inl f)) (hd : decode q.2.2.1 pc = .ok (.iaload, 1)) (kk : ix_W p l e R s m args below meth c Q D b base aC q h0 f) : ix_W p l e R s m args below meth c Q D b base aC q h0 (pc, ls, st, h) := by
  obtain ⟨hx, hb, -, -, hown, hts, hK, hX, -⟩ := X
  intro H locs la hI hl
  unfold ix_ia at hr
  split at hr
  · rename_i i a r
    split at hr
    · rename_i n g hcell
      split at hr
      · cases hr
      · rename_i hin
        cases hr
        have ha : a < h.1 := hI.lt (by show h.2.2 a ≠ ix_no_; rw [hcell]; exact ix_no_arr)
        have he : (ix_ws b base aC h)[a]? = some (base + a, .inl (aC .int, n, .inl g)) := by rw [ix_ws_get ha, hcell]; rfl
        exact va_iald hx hb hK.1 hI.2.2.1 a 0 he rfl hin hd (kk H locs la hI hl)
    · cases hr
  · split at hr
    · rename_i L xs
      split at hr
      · cases hr
      · rename_i hin
        cases hr
        obtain ⟨x1, x2, x3⟩ := hX L xs rfl
        exact va_sld hx hb x1 x2 (fun z => by unfold ix_A at z; omega) hI.2.2.2 hin hd (kk H locs la hI hl)
    · cases hr
  · cases hr
set_option maxHeartbeats 4000000 in
theorem ix_w_ba (X : ix_X p R s m args meth c D b base aC q S) (hr : ix_ba pc ls st h = some (.inl f)) (hd : decode q.2.2.1 pc = .ok (.baload, 1)) (kk : ix_W p l e R s m args below meth c Q D b base aC q h0 f) : ix_W p l e R s m args below meth c Q D b base aC q h0 (pc, ls, st, h) := by
  obtain ⟨hx, hb, -, -, hown, hts, hK, hX, -⟩ := X
  intro H locs la hI hl
  unfold ix_ba at hr
  split at hr
  · rename_i i a r
    split at hr
    · rename_i n g hcell
      split at hr
      · cases hr
      · rename_i hin
        cases hr
        have ha : a < h.1 := hI.lt (by show h.2.2 a ≠ ix_no_; rw [hcell]; exact ix_no_arr)
        have he : (ix_ws b base aC h)[a]? = some (base + a, .inl (aC .byte, n, .inl g)) := by rw [ix_ws_get ha, hcell]; rfl
        exact va_bald hx hb hK.1 hI.2.2.1 a 1 he rfl hin hd (kk H locs la hI hl)
    · rename_i n g hcell
      split at hr
      · cases hr
      · rename_i hin
        cases hr
        have ha : a < h.1 := hI.lt (by show h.2.2 a ≠ ix_no_; rw [hcell]; exact ix_no_arr)
        have he : (ix_ws b base aC h)[a]? = some (base + a, .inl (aC .boolean, n, .inl g)) := by rw [ix_ws_get ha, hcell]; rfl
        exact va_zald hx hb hK.1 hI.2.2.1 a 2 he rfl hin hd (kk H locs la hI hl)
    · cases hr
  · cases hr
set_option maxHeartbeats 4000000 in
theorem ix_w_aa (X : ix_X p R s m args meth c D b base aC q S) (hr : ix_aa pc ls st h = some (.inl f)) (hd : decode q.2.2.1 pc = .ok (.aaload, 1)) (kk : ix_W p l e R s m args below meth c Q D b base aC q h0 f) : ix_W p l e R s m args below meth c Q D b base aC q h0 (pc, ls, st, h) := by
  obtain ⟨hx, hb, -, -, hown, hts, hK, hX, -⟩ := X
  intro H locs la hI hl
  unfold ix_aa at hr
  split at hr
  · rename_i i a r
    split at hr
    · rename_i C n g hcell
      split at hr
      · cases hr
      · rename_i hin
        split at hr
        · rename_i y hy
          cases hr
          have ha : a < h.1 := hI.lt (by show h.2.2 a ≠ ix_no_; rw [hcell]; exact ix_no_arr)
          have he : (ix_ws b base aC h)[a]? = some (base + a, .inl (aC (.object C), n, .inr (.inr (.inr (.inr (fun i => (g i).map (fun k => base + k))))))) := by rw [ix_ws_get ha, hcell]; rfl
          have hC : C = RX1 ∨ C = RX2 := Classical.byContradiction fun z => hin (Or.inr (Or.inr z))
          have hin' : vp_in i n := fun z => hin (z.elim Or.inl (fun z => Or.inr (Or.inl z)))
          have k1 := kk H locs la hI hl
          have k2 : W p l e R s m args below meth c H locs (h.1 - h0.1) (h.2.1 - h0.2.1) Q (F0 m (pc + 1) la (va_rf ((g i.toNatClampNeg).map (fun k => base + k)) :: r.map (ix_cv b base))) := by rw [hy]; exact k1
          rcases hC with rfl | rfl
          · exact va_aldq hx hb hK.1 hI.2.2.1 a 3 he rfl hin' hd k2
          · exact va_aldq hx hb hK.1 hI.2.2.1 a 4 he rfl hin' hd k2
        · cases hr
    · cases hr
  · cases hr
theorem ix_at_i {H1 : Heap} {a n i : Nat} {g g' : Nat → Int32} {v : Int32} {ty : FieldType} {cell : Cell} (hc : cell = vp_cell (aC ty) (n, .inl g)) (e : H1[base + a]? = some (cell.setSlot i (.int v))) (hg : g' = upd g i v) : va_at D vwCl (base + a, ix_ce b base aC (.inl (ty, n, .inl g'))) H1 := by
  show H1[base + a]? = some (vp_cell (aC ty) (n, .inl g'))
  rw [e, hc, vp_cell_i, vp_cell_i, arrV_store, hg]
  congr 2
  funext x
  by_cases hq : x = i
  · subst hq; simp [updV, upd]
  · simp [updV, upd, hq]
set_option maxHeartbeats 4000000 in
theorem ix_w_is (X : ix_X p R s m args meth c D b base aC q S) (hr : ix_is pc ls st h = some (.inl f)) (hd : decode q.2.2.1 pc = .ok (.iastore, 1)) (kk : ix_W p l e R s m args below meth c Q D b base aC q h0 f) : ix_W p l e R s m args below meth c Q D b base aC q h0 (pc, ls, st, h) := by
  obtain ⟨hx, hb, -, -, hown, hts, hK, hX, -⟩ := X
  intro H locs la hI hl
  unfold ix_is at hr
  split at hr
  · rename_i x i a r
    split at hr
    · rename_i n g hcell
      split at hr
      · cases hr
      · rename_i hin
        cases hr
        have ha : a < h.1 := hI.lt (by show h.2.2 a ≠ ix_no_; rw [hcell]; exact ix_no_arr)
        have he : (ix_ws b base aC h)[a]? = some (base + a, .inl (aC .int, n, .inl g)) := by rw [ix_ws_get ha, hcell]; rfl
        exact W.iast hx hb (hI.2.2.1 a _ he) ((hK.1.2 0 _ rfl).1 n (fun j => .int (g j))) (fun z => by cases z) (by show ¬ (i < 0 ∨ (arrV _ _ _).slots.size ≤ _); rw [arrV_size]; exact hin) rfl rfl hd
          fun H1 e1 z oq => kk H1 _ la (hI.set ha (ix_at_i rfl e1 rfl) z oq) hl
    · cases hr
  · cases hr
set_option maxHeartbeats 4000000 in
theorem ix_w_bs (X : ix_X p R s m args meth c D b base aC q S) (hr : ix_bs pc ls st h = some (.inl f)) (hd : decode q.2.2.1 pc = .ok (.bastore, 1)) (kk : ix_W p l e R s m args below meth c Q D b base aC q h0 f) : ix_W p l e R s m args below meth c Q D b base aC q h0 (pc, ls, st, h) := by
  obtain ⟨hx, hb, -, -, hown, hts, hK, hX, -⟩ := X
  intro H locs la hI hl
  unfold ix_bs at hr
  split at hr
  · rename_i x i a r
    split at hr
    · rename_i n g hcell
      split at hr
      · cases hr
      · rename_i hin
        cases hr
        have ha : a < h.1 := hI.lt (by show h.2.2 a ≠ ix_no_; rw [hcell]; exact ix_no_arr)
        have he : (ix_ws b base aC h)[a]? = some (base + a, .inl (aC .byte, n, .inl g)) := by rw [ix_ws_get ha, hcell]; rfl
        exact W.bast hx hb (hI.2.2.1 a _ he) ((hK.1.2 1 _ rfl).1 n (fun j => .int (g j))) (fun z => by cases z) (by show ¬ (i < 0 ∨ (arrV _ _ _).slots.size ≤ _); rw [arrV_size]; exact hin) rfl rfl hd
          fun H1 e1 z oq => kk H1 _ la (hI.set ha (ix_at_i rfl e1 rfl) z oq) hl
    · rename_i n g hcell
      split at hr
      · cases hr
      · rename_i hin
        cases hr
        have ha : a < h.1 := hI.lt (by show h.2.2 a ≠ ix_no_; rw [hcell]; exact ix_no_arr)
        have he : (ix_ws b base aC h)[a]? = some (base + a, .inl (aC .boolean, n, .inl g)) := by rw [ix_ws_get ha, hcell]; rfl
        exact W.zast hx hb (hI.2.2.1 a _ he) ((hK.1.2 2 _ rfl).1 n (fun j => .int (g j))) (fun z => by cases z) (by show ¬ (i < 0 ∨ (arrV _ _ _).slots.size ≤ _); rw [arrV_size]; exact hin) rfl rfl hd
          fun H1 e1 z oq => kk H1 _ la (hI.set ha (ix_at_i rfl e1 rfl) z oq) hl
    · cases hr
  · cases hr
set_option maxHeartbeats 4000000 in
theorem ix_w_as (X : ix_X p R s m args meth c D b base aC q S) (hr : ix_as pc ls st h = some (.inl f)) (hd : decode q.2.2.1 pc = .ok (.aastore, 1)) (kk : ix_W p l e R s m args below meth c Q D b base aC q h0 f) : ix_W p l e R s m args below meth c Q D b base aC q h0 (pc, ls, st, h) := by
  obtain ⟨hx, hb, -, -, hown, hts, hK, hX, -⟩ := X
  intro H locs la hI hl
  unfold ix_as at hr
  split at hr
  · rename_i v i a r
    split at hr
    · rename_i C n g ci vs hcell hcv
      split at hr
      · cases hr
      · rename_i hin
        split at hr
        · rename_i hC
          obtain ⟨hci, rfl⟩ := hC
          cases hr
          have c5 : ci ≤ 5 := by omega
          have ha : a < h.1 := hI.lt (by show h.2.2 a ≠ ix_no_; rw [hcell]; exact ix_no_arr)
          have hv : v < h.1 := hI.lt (by show h.2.2 v ≠ ix_no_; rw [hcv]; exact ix_no_obj c5)
          have he : (ix_ws b base aC h)[a]? = some (base + a, .inl (aC (.object (ix_RC ci)), n, .inr (.inr (.inr (.inr (fun i => (g i).map (fun k => base + k))))))) := by rw [ix_ws_get ha, hcell]; rfl
          have hev : (ix_ws b base aC h)[v]? = some (base + v, .inr (ci, vs.map (ix_cv b base))) := by rw [ix_ws_get hv, hcv]; rfl
          obtain ⟨hc, -⟩ := ix_cls_facts ci c5
          have ht : ∃ t0 : Nat, (ix_tys aC)[t0]? = some (aC (.object (ix_RC ci)), .object (ix_RC ci)) := by
            rcases hci with rfl | rfl
            · exact ⟨3, rfl⟩
            · exact ⟨4, rfl⟩
          obtain ⟨t0, ht⟩ := ht
          have hlt : i.toNatClampNeg < n := Nat.not_le.mp fun z => hin (Or.inr z)
          have hi0 : ¬ i < 0 := fun z => hin (Or.inl z)
          obtain ⟨r', hr', cellV, g1, g2, g3, -⟩ := hI.2.2.1 v _ hev
          have hcls := (hK.1.1 ci _ hc).2
          obtain ⟨kA, comp, k1, k2, k3, -⟩ := (hK.1.2 t0 _ ht).2
          have hcomp : comp = D.1 ci := Option.some.inj (k3.symm.trans hcls.1)
          subst hcomp
          obtain ⟨kC, hkC, -⟩ := hcls.2
          refine W.aast hx hb (hI.2.2.1 a _ he) (fun z h => by cases h) (fun h => by cases h) k1 k2 rfl hkC ⟨hi0, by show _ < (arrV _ _ _).slots.size; rw [arrV_size]; exact hlt⟩ g1 (fun z h => by rw [g3] at h; cases h) (by rw [g2]; exact hkC) (by rw [g2]; exact va_assign hcls) rfl rfl hd fun H1 e1 z oq => ?_
          refine kk H1 _ la (hI.set ha ?_ z oq) hl
          show H1[base + a]? = some (vp_cell _ (n, .inr (.inr (.inr (.inr _)))))
          rw [e1]
          show some ((vp_cell _ (n, .inr (.inr (.inr (.inr _))))).setSlot _ _) = _
          rw [vp_cell_q, vp_cell_q, arrV_store]
          congr 2
          funext x
          by_cases hq : x = i.toNatClampNeg
          · subst hq; simp [updV, va_up, va_rf]
          · simp [updV, va_up, hq]
        · cases hr
    · cases hr
  · cases hr
set_option maxHeartbeats 4000000 in
theorem ix_w_na (X : ix_X p R s m args meth c D b base aC q S) {t : ArrayType} (hr : ix_na (newarray.typeOf t) pc ls st h = some (.inl f)) (hd : decode q.2.2.1 pc = .ok (.newarray t, 2)) (hlo : h0.1 ≤ h.1 ∧ h0.2.1 ≤ h.2.1) (hhi : f.2.2.2.1 - h0.1 ≤ R.cells ∧ f.2.2.2.2.1 - h0.2.1 ≤ R.slots) (kk : ix_W p l e R s m args below meth c Q D b base aC q h0 f) : ix_W p l e R s m args below meth c Q D b base aC q h0 (pc, ls, st, h) := by
  obtain ⟨hx, hb, -, -, hown, hts, hK, hX, -⟩ := X
  intro H locs la hI hl
  unfold ix_na at hr
  split at hr
  · rename_i n r
    split at hr
    · cases hr
    · rename_i hc
      cases hr
      have hn0 : ¬ n < 0 := fun z => hc (Or.inl z)
      have hn1 : n.toNatClampNeg ≤ 200000 := Nat.le_of_not_lt fun z => hc (Or.inr (Or.inl z))
      have hty : newarray.typeOf t = .int ∨ newarray.typeOf t = .byte ∨ newarray.typeOf t = .boolean := Classical.byContradiction fun z => hc (Or.inr (Or.inr z))
      simp only [ix_new] at hhi
      have key : ∀ (t0 i0 : Nat) (ty : FieldType), newarray.typeOf t = ty → lw_tbl[i0]? = some (.arrayClass ty) → (ix_tys aC)[t0]? = some (aC ty, ty) → (∀ cA, va_RA s cA ty = (s.vm.findClass ("[" ++ ty.toString) = some cA)) → componentBytes ty ≤ 8 → defaultValue ty = .int 0 → W p l e R s m args below meth c H locs (h.1 - h0.1) (h.2.1 - h0.2.1) Q (F0 m pc la ((.int n :: r).map (ix_cv b base))) := by
        intro t0 i0 ty hty hw ht hRA hcb hdv
        subst hty
        refine va_newaK hx hb (ix_word hts hw rfl) rfl hd (rest := r.map (ix_cv b base)) rfl hn0 rfl (Nat.le_trans (Nat.mul_le_mul hn1 hcb) (by decide)) (by omega) (by omega) hI.1 fun H1 cA e1 z1 o1 hAr hNm => ?_
        have hcA : cA = aC (newarray.typeOf t) := by
          have h5 := (hK.1.2 t0 _ ht).2
          rw [hRA] at h5
          exact Option.some.inj (hNm.symm.trans h5)
        subst hcA
        refine W.cs (by show h.1 - h0.1 + 1 = h.1 + 1 - h0.1; omega) (by show _ = h.2.1 + n.toNatClampNeg - h0.2.1; omega) (kk H1 locs la (hI.new _ ?_ (by rw [z1, hI.1]) (fun y hy => o1 y (by rw [← hI.1]; exact hy))) hl)
        show H1[base + h.1]? = some (vp_cell _ (_, .inl _))
        rw [e1, vp_cell_i, hdv]
      rcases hty with hty | hty | hty
      · exact key 0 _ .int hty ix_mw_ok.2.2.2.2.2.2.2.1 rfl (fun _ => rfl) (by decide) rfl
      · exact key 1 _ .byte hty ix_mw_ok.2.2.2.2.2.2.2.2.1 rfl (fun _ => rfl) (by decide) rfl
      · exact key 2 _ .boolean hty ix_mw_ok.2.2.2.2.2.2.2.2.2 rfl (fun _ => rfl) (by decide) rfl
  · cases hr
set_option maxHeartbeats 4000000 in
theorem ix_w_nq (X : ix_X p R s m args meth c D b base aC q S) (hr : ix_nq q.1 idx pc ls st h = some (.inl f)) (hd : decode q.2.2.1 pc = .ok (.anewarray idx, 3)) (hlo : h0.1 ≤ h.1 ∧ h0.2.1 ≤ h.2.1) (hhi : f.2.2.2.1 - h0.1 ≤ R.cells ∧ f.2.2.2.2.1 - h0.2.1 ≤ R.slots) (kk : ix_W p l e R s m args below meth c Q D b base aC q h0 f) : ix_W p l e R s m args below meth c Q D b base aC q h0 (pc, ls, st, h) := by
  obtain ⟨hx, hb, -, -, hown, hts, hK, hX, -⟩ := X
  intro H locs la hI hl
  unfold ix_nq at hr
  split at hr
  · rename_i n r ci i hcl
    split at hr
    · cases hr
    · rename_i hc
      cases hr
      obtain ⟨c5, hw⟩ := ix_cls_ok hcl
      have hn0 : ¬ n < 0 := fun z => hc (Or.inl z)
      have hn1 : n.toNatClampNeg ≤ 200000 := Nat.le_of_not_lt fun z => hc (Or.inr (Or.inl z))
      have hci : ci = 1 ∨ ci = 2 := Classical.byContradiction fun z => hc (Or.inr (Or.inr z))
      simp only [ix_new] at hhi
      have ht : (∃ t0 : Nat, (ix_tys aC)[t0]? = some (aC (.object (ix_RC ci)), .object (ix_RC ci))) ∧ va_AO (ix_RC ci) s := by
        rcases hci with rfl | rfl
        · exact ⟨⟨3, rfl⟩, hK.2.2.1⟩
        · exact ⟨⟨4, rfl⟩, hK.2.2.2⟩
      obtain ⟨⟨t0, ht⟩, hAO⟩ := ht
      show W p l e R s m args below meth c H locs (h.1 - h0.1) (h.2.1 - h0.2.1) Q (F0 m pc la ((.int n :: r).map (ix_cv b base)))
      refine W.anew hx hb hown (ix_word hts hw rfl) (va_AO.use hAO) rfl hd (rest := r.map (ix_cv b base)) rfl hn0 (Nat.le_trans (Nat.mul_le_mul_right 4 hn1) (by decide)) (by omega) (by omega) fun cA kA comp f1 f2 f3 f4 => ?_
      have hcA : cA = aC (.object (ix_RC ci)) := by
        obtain ⟨_, _, -, -, -, h5⟩ := (hK.1.2 t0 _ ht).2
        exact Option.some.inj (f1.symm.trans h5)
      subst hcA
      rw [show H.size = base + h.1 from hI.1]
      refine W.cs (by show h.1 - h0.1 + 1 = h.1 + 1 - h0.1; omega) (by show _ = h.2.1 + n.toNatClampNeg - h0.2.1; omega) (kk _ locs la (hI.new _ ?_ (by rw [Array.size_push]) (fun y hy => by rw [Array.getElem?_push, if_neg (Nat.ne_of_lt hy)])) hl)
      show (H.push _)[base + h.1]? = some (vp_cell _ (_, .inr (.inr (.inr (.inr _)))))
      rw [← hI.1, Array.getElem?_push_size, arrV_new, vp_cell_q]
      rfl
  · cases hr
set_option maxHeartbeats 4000000 in
theorem ix_w_no (X : ix_X p R s m args meth c D b base aC q S) (hr : ix_no q.1 idx pc ls st h = some (.inl f)) (hd : decode q.2.2.1 pc = .ok (.new idx, 3)) (hlo : h0.1 ≤ h.1 ∧ h0.2.1 ≤ h.2.1) (hhi : f.2.2.2.1 - h0.1 ≤ R.cells ∧ f.2.2.2.2.1 - h0.2.1 ≤ R.slots) (kk : ix_W p l e R s m args below meth c Q D b base aC q h0 f) : ix_W p l e R s m args below meth c Q D b base aC q h0 (pc, ls, st, h) := by
  obtain ⟨hx, hb, -, -, hown, hts, hK, hX, -⟩ := X
  intro H locs la hI hl
  unfold ix_no at hr
  split at hr
  · rename_i ci i hcl
    split at hr
    · rename_i c5
      cases hr
      obtain ⟨-, hw⟩ := ix_cls_ok hcl
      obtain ⟨hc, hin, hnm, hty⟩ := ix_cls_facts ci c5
      obtain ⟨w1, w2⟩ := ix_ins_ok ci (by omega)
      simp only [ix_new] at hhi
      have hKn := hK.1.1 ci _ hc
      show W p l e R s m args below meth c H locs (h.1 - h0.1) (h.2.1 - h0.2.1) Q (F0 m pc la (st.map (ix_cv b base)))
      refine W.newcK hx hb hown (ix_word hts hw rfl) (ix_word hts w1 rfl) (ix_word hts w2 rfl) rfl hd (by omega) (by omega) hKn.2.1 hI.1 fun H1 kC hkC e1 z1 o1 => ?_
      refine W.cs (by show h.1 - h0.1 + 1 = h.1 + 1 - h0.1; omega) (by show _ = h.2.1 + ix_NN ci - h0.2.1; omega) (kk H1 locs la (hI.new _ ?_ (by rw [z1, hI.1]) (fun y hy => o1 y (by rw [← hI.1]; exact hy))) hl)
      show va_at D vwCl (base + h.1, .inr (ci, (ix_blank ci).map (ix_cv b base))) H1
      rw [ix_blank_cv]
      exact ⟨_, hc, (u_born (ix_ty ci) hts hin hKn hkC e1 hty).to (ix_blank_ok ci c5)⟩
    · cases hr
  · cases hr
end IXR
