/-! THE HEAP'S INSTRUCTIONS -/
section IXH
variable {p : Program} {l : Launch} {e : Env} {R : Room} {s : State} {m : MethodId} {args : Array Value} {below : List Frame} {meth : Method} {c : Code} {Q : State → Prop}
variable {D : va_G} {b base : Nat} {aC : FieldType → ClassId} {q : ix_M} {h0 : ix_H} {S : ix_S} {pc : Nat} {ls : ix_L} {st : List Value} {h : ix_H} {f : ix_F} {idx : Nat}
theorem ix_no_obj {ci : Nat} {fs : List Value} (h5 : ci ≤ 5) : (Sum.inr (ci, fs) : ix_E) ≠ ix_no_ := by
  intro z
  simp only [ix_no_, Sum.inr.injEq, Prod.mk.injEq] at z
  omega
theorem ix_no_arr {t : FieldType × vp_A} : (Sum.inl t : ix_E) ≠ ix_no_ := by
  intro z
  simp [ix_no_] at z
set_option maxHeartbeats 4000000 in
theorem ix_w_gf (X : ix_X p R s m args meth c D b base aC q S) (hr : ix_gf q.1 idx pc ls st h = some (.inl f)) (hd : decode q.2.2.1 pc = .ok (.getfield idx, 3)) (kk : ix_W p l e R s m args below meth c Q D b base aC q h0 f) : ix_W p l e R s m args below meth c Q D b base aC q h0 (pc, ls, st, h) := by
  obtain ⟨hx, hb, -, -, hown, hts, hK, -⟩ := X
  intro H locs la hI hl
  unfold ix_gf at hr
  split at hr
  · rename_i a r
    split at hr
    · rename_i ci fs nest cj k i hcell hfld
      split at hr
      · rename_i hci
        subst hci
        split at hr
        · rename_i v hv
          cases hr
          obtain ⟨c5, hk, hw⟩ := ix_fld_ok hfld
          obtain ⟨hc, hin, -, -⟩ := ix_cls_facts ci c5
          have ha : a < h.1 := hI.lt (by show h.2.2 a ≠ ix_no_; rw [hcell]; exact ix_no_obj c5)
          have he : (ix_ws b base aC h)[a]? = some (base + a, .inr (ci, fs.map (ix_cv b base))) := by rw [ix_ws_get ha, hcell]; rfl
          have hv' : (fs.map (ix_cv b base))[k]? = some (ix_cv b base v) := by rw [List.getElem?_map, hv]; rfl
          by_cases hn : nest = 0
          · rw [if_pos hn] at hw
            exact va_get (D := D) hx hb hts hin hown hK.1 hI.2.2.1 a he hc k hk (ix_word hts hw rfl) (fun _ z => z) hv' hd (kk H locs la hI hl)
          · rw [if_neg hn] at hw
            exact va_getN (D := D) hx hb hts hin hown hK.1 hI.2.2.1 a he hc k hk (va_Nw.use rfl (hK.2.1 _ (List.mem_filter.mpr ⟨List.mem_of_getElem? hw, rfl⟩))) (fun _ z => z) hv' hd (kk H locs la hI hl)
        · cases hr
      · cases hr
    · cases hr
  · cases hr
theorem ix_I_fset {H0 H H1 : Heap} {locs : List Loc} (hI : ix_I D b base aC H0 h H locs) {a ci k : Nat} {fs : List Value} {v : Value} {C : String} {T : u_T} {N : Nat} (ha : a < h.1) (hc : vwCl[ci]? = some (C, T, N)) (hap : ∀ x y, x < N → y < N → x ≠ y → D.2 ci x ≠ D.2 ci y) (hk : k < N) (hl : k < fs.length) {cell : Cell} (q2 : cell.cls = D.1 ci) (q3 : cell.vm = .none) (q4 : ∀ k, k < N → cell.slots[D.2 ci k]? = some (vp_V (fs.map (ix_cv b base)) k))
    (e1 : H1[base + a]? = some (cell.setSlot (D.2 ci k) (ix_cv b base v))) (e2 : H1.size = H.size) (e3 : ∀ y : Nat, y ≠ base + a → H1[y]? = H[y]?) : ix_I D b base aC H0 (ix_set h a (.inr (ci, fs.set k v))) H1 (locs ++ [⟨base + a, D.2 ci k⟩]) := by
  refine hI.set ha (x := .inr (ci, fs.set k v)) ?_ e2 e3
  refine ⟨_, hc, t_OB.to (V := updV (vp_V (fs.map (ix_cv b base))) k (ix_cv b base v)) ⟨_, e1, q2, q3, t_set q4 hap hk (ix_cv b base v)⟩ (fun j _ => ?_)⟩
  rw [vp_updV_set (by rw [List.length_map]; exact hl)]
  rw [List.map_set]
set_option maxHeartbeats 4000000 in
theorem ix_w_pf (X : ix_X p R s m args meth c D b base aC q S) (hr : ix_pf q.1 q.2.2.2.2.2.2.1 idx pc ls st h = some (.inl f)) (hd : decode q.2.2.1 pc = .ok (.putfield idx, 3)) (kk : ix_W p l e R s m args below meth c Q D b base aC q h0 f) : ix_W p l e R s m args below meth c Q D b base aC q h0 (pc, ls, st, h) := by
  obtain ⟨hx, hb, -, -, hown, hts, hK, -, hini, -⟩ := X
  intro H locs la hI hl
  unfold ix_pf at hr
  split at hr
  · rename_i v a r
    split at hr
    · rename_i ci fs nest cj k i hcell hfld
      split at hr
      · rename_i hcond
        obtain ⟨rfl, hkl, hok, hfin⟩ := hcond
        cases hr
        obtain ⟨c5, hk, hw⟩ := ix_fld_ok hfld
        obtain ⟨hc, hin, hnm, hty⟩ := ix_cls_facts ci c5
        have ha : a < h.1 := hI.lt (by show h.2.2 a ≠ ix_no_; rw [hcell]; exact ix_no_obj c5)
        have he : (ix_ws b base aC h)[a]? = some (base + a, .inr (ci, fs.map (ix_cv b base))) := by rw [ix_ws_get ha, hcell]; rfl
        obtain ⟨hn, hfit⟩ := ix_ok_fit (b := b) (base := base) hok
        have hap := va_apart (own := ix_RC q.1) hts hin (ix_ty ci) hty hnm hK.1 hc
        obtain ⟨r', g1, cell, q1, q2, q3, q4⟩ := hI.2.2.1 a _ he
        have hr' : r' = (ix_RC ci, ix_TT ci, ix_NN ci) := Option.some.inj (g1.symm.trans hc)
        subst hr'
        obtain ⟨hS, hfc, kC, hkC, hkind⟩ := hK.1.1 ci _ hc
        obtain ⟨cf, kf, fi, fl, hi, hsl⟩ := hS k hk
        have hlay := hts _ (hin _ (u_in_lay hk))
        unfold u_lay at hlay
        have hst := (u_facts hfc hkC (u_lays hts hin hk) hi).1
        have hd' := hty k hk
        have fin : ∀ H1 : Heap, H1[base + a]? = some (cell.setSlot fl.slot (ix_cv b base v)) → H1.size = H.size → (∀ y : Nat, y ≠ base + a → H1[y]? = H[y]?) → W p l e R s m args below meth c H1 (locs ++ [⟨base + a, fl.slot⟩]) (h.1 - h0.1) (h.2.1 - h0.2.1) Q (F0 m (pc + 3) la (r.map (ix_cv b base))) := by
          intro H1 e1 e2 e3
          rw [hsl] at e1 ⊢
          exact kk H1 _ la (ix_I_fset hI ha hc hap hk hkl q2 q3 q4 e1 e2 e3) hl
        by_cases hF : (ix_TT ci k).2.2.2 = true
        · obtain ⟨hkd, hcn, hnest⟩ := hfin hF
          rw [if_pos hnest] at hw
          rw [if_pos hF] at hlay
          have hcf : m.cls = cf := by
            obtain ⟨_, _, c', _, _, _, -, -, hf', -, -, -, hown2, -⟩ := Cond.laysFinal_spec hlay
            have z1 : c' = cf := by have := hi.symm.trans hf'; simp at this; exact this.1.symm
            have hdecl : (ix_TT ci k).1 = ix_RC q.1 := by
              rw [hcn]
              have : ∀ ci, ci ≤ 5 → ∀ k, k < ix_NN ci → (ix_TT ci k).1 = ix_RC ci := by decide +kernel
              exact this ci c5 k hk
            rw [hdecl] at hown2
            rw [← z1]; exact Option.some.inj (hown.symm.trans hown2)
          have h6 := u_fits hfc hkC hkind (Or.inr hlay) hi hd' hn hfit
          exact W.putFinK hx hb hown (ix_word hts hw rfl) hi hst hcf (hini hkd) (by rw [q2]; exact h6) q1 q3 (by rw [hsl]; exact k2_hasslot (q4 k hk)) rfl rfl hd fin
        · rw [if_neg hF] at hlay
          have h6 := u_store hfc hkC hkind hlay hi hd' hn hfit
          by_cases hnest : nest = 0
          · rw [if_pos hnest] at hw
            exact W.putK hx hb (f := fl) ⟨hown, ix_word hts hw rfl, ⟨_, _, _, hi⟩, hst⟩ (by rw [q2]; exact h6) q1 q3 (by rw [hsl]; exact k2_hasslot (q4 k hk)) rfl rfl hd fin
          · rw [if_neg hnest] at hw
            exact va_WputK hx hb (f := fl) hown (va_Nw.use rfl (hK.2.1 _ (List.mem_filter.mpr ⟨List.mem_of_getElem? hw, rfl⟩))) hi hst (by rw [q2]; exact h6) q1 q3 (by rw [hsl]; exact k2_hasslot (q4 k hk)) rfl rfl hd fin
      · cases hr
    · cases hr
  · cases hr
end IXH
