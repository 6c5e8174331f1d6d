/-! The reference: offsetOf, nextOf, again -/
section R7
variable {d : Nat} {h : ix_H} {P cap tmo clk cut sy torn : Nat} {cl : Bool} {X : List En} {tE : En} {tp an : List Nat} {T : TS} {ar : Nat → Nat → Int32} {a1 a2 a3 : Nat} {a4 : Bool} {a5 a7 a8 a9 a10 a11 a12 : Nat}
theorem fl_tk {p j : Nat} (h : j < X.length) : fl p (X.take (j + 1)) = if eF (X.getD j en0) = p then fl p (X.take j) ++ [X.getD j en0] else fl p (X.take j) := by
  rw [take_snocE h, fl_snoc]
theorem fl_getD {p j : Nat} (h : j < X.length) (hf : eF (X.getD j en0) = p) : (fl p X).getD (fl p (X.take j)).length en0 = X.getD j en0 := by
  obtain ⟨r, hr, hr'⟩ := flB_take (X := X) p j
  obtain ⟨r', hr2⟩ := hr' h hf
  rw [hr, hr2]
  simp only [List.getD, List.getElem?_append_right (Nat.le_refl _), Nat.sub_self, List.getElem?_cons_zero, Option.getD_some]
theorem fl_lt {p j : Nat} (h : j < X.length) (hf : eF (X.getD j en0) = p) : (fl p (X.take j)).length < (fl p X).length := by
  obtain ⟨r, hr, hr'⟩ := flB_take (X := X) p j
  obtain ⟨r', hr2⟩ := hr' h hf
  rw [hr, hr2, List.length_append, List.length_cons]
  omega
theorem fl_le (p : Nat) (Y : List En) : (fl p Y).length ≤ Y.length := List.length_filter_le _ _
theorem l_offsetOf {e : Nat} (he : e < X.length) (hE : EA P ar X) (w : MW h (P, a1, a2, a3, a4, a5, X.length, a7, a8, a9, a10, a11, a12) ar) : ∀ (r j : Nat), j + r = e →
    gs none d mD_X5_offsetOf (4, [(3, .int (nI j)), (2, .int (nI (fl (eF (X.getD e en0)) (X.take j)).length)), (0, .ref 96), (1, .int (nI e))], [], h) (fun u => u = (some (.int (nI (fl (eF (X.getD e en0)) (X.take e)).length)), h)) := by
  obtain ⟨hl, hok, ha⟩ := hE
  obtain ⟨w0, w1, -⟩ := id w
  simp only [mcell] at w0
  have ge := (ha e he).1
  have hoke := hok _ (getD_mem he)
  intro r
  induction r with
  | zero =>
    intro j hj
    obtain rfl : j = e := by omega
    refine gs_n 5 a_X5_offsetOf_4 rfl ?_
    refine gs_n 6 a_X5_offsetOf_5 rfl ?_
    refine gs_ic 38 9 a_X5_offsetOf_6 rfl rfl (fun c => ?_) (fun c => ?_)
    · refine gs_n 39 a_X5_offsetOf_38 rfl ?_
      refine gs_iret a_X5_offsetOf_39 rfl rfl ?_
      rfl
    · exact absurd (nI_le (Nat.le_refl _) (by omega)) c
  | succ r ih =>
    intro j hj
    have hjl : j < X.length := by omega
    have gj := (ha j hjl).1
    have hokj := hok _ (getD_mem hjl)
    have fin : ∀ t, t = (if eF (X.getD j en0) = eF (X.getD e en0) then 1 else 0) → gs none d mD_X5_offsetOf (30, [(3, .int (nI j)), (2, .int (nI (fl (eF (X.getD e en0)) (X.take j)).length)), (0, .ref 96), (1, .int (nI e))], [.int (nI t), .int (nI (fl (eF (X.getD e en0)) (X.take j)).length)], h) (fun u => u = (some (.int (nI (fl (eF (X.getD e en0)) (X.take e)).length)), h)) := by
      intro t ht
      refine gs_n 31 a_X5_offsetOf_30 rfl ?_
      refine gs_n 32 a_X5_offsetOf_31 rfl ?_
      first | refine gs_inc _ 35 a_X5_offsetOf_32 rfl (Nat.le_of_ble_eq_true rfl) rfl ?_ | refine gs_n 35 a_X5_offsetOf_32 rfl ?_
      refine gs_n 4 a_X5_offsetOf_35 rfl ?_
      refine gs_w [(3, .int (nI (j + 1))), (2, .int (nI (fl (eF (X.getD e en0)) (X.take j)).length + nI t)), (0, .ref 96), (1, .int (nI e))] (by simp [ix_nd]) (by intro x hx; simp only [List.mem_cons, List.not_mem_nil, or_false] at hx; rcases hx with rfl | rfl | rfl | rfl <;> rfl) ?_
      rw [nI_add, show (fl (eF (X.getD e en0)) (X.take j)).length + t = (fl (eF (X.getD e en0)) (X.take (j + 1))).length by
        rw [fl_tk hjl, ht]
        split
        · rw [List.length_append]; rfl
        · rfl]
      exact ih (j + 1) (by omega)
    refine gs_n 5 a_X5_offsetOf_4 rfl ?_
    refine gs_n 6 a_X5_offsetOf_5 rfl ?_
    refine gs_ic 38 9 a_X5_offsetOf_6 rfl rfl (fun c => ?_) (fun c => ?_)
    · exact absurd c (nI_ge (by omega) (by omega))
    · refine gs_n 10 a_X5_offsetOf_9 rfl ?_
      refine gs_n 11 a_X5_offsetOf_10 rfl ?_
      refine gs_get 14 a_X5_offsetOf_11 f_5_9 (by first | assumption | exact hs_same _ _ _ | exact (hs_ne _ _ (by first | assumption | decide | omega)).trans (by first | assumption | exact hs_same _ _ _ | exact (hs_ne _ _ (by first | assumption | decide | omega)).trans (by first | assumption | exact hs_same _ _ _ | exact (hs_ne _ _ (by first | assumption | decide | omega)).trans (by first | assumption | exact hs_same _ _ _ | exact (hs_ne _ _ (by first | assumption | decide | omega)).trans (by first | assumption | exact hs_same _ _ _))))) rfl rfl ?_
      refine gs_n 15 a_X5_offsetOf_14 rfl ?_
      refine gs_ia j 16 a_X5_offsetOf_15 (by first | assumption | exact hs_same _ _ _ | exact (hs_ne _ _ (by first | assumption | decide | omega)).trans (by first | assumption | exact hs_same _ _ _ | exact (hs_ne _ _ (by first | assumption | decide | omega)).trans (by first | assumption | exact hs_same _ _ _ | exact (hs_ne _ _ (by first | assumption | decide | omega)).trans (by first | assumption | exact hs_same _ _ _ | exact (hs_ne _ _ (by first | assumption | decide | omega)).trans (by first | assumption | exact hs_same _ _ _))))) rfl (by omega) (by omega) rfl ?_
      rw [gj]
      refine gs_n 17 a_X5_offsetOf_16 rfl ?_
      refine gs_get 20 a_X5_offsetOf_17 f_5_9 (by first | assumption | exact hs_same _ _ _ | exact (hs_ne _ _ (by first | assumption | decide | omega)).trans (by first | assumption | exact hs_same _ _ _ | exact (hs_ne _ _ (by first | assumption | decide | omega)).trans (by first | assumption | exact hs_same _ _ _ | exact (hs_ne _ _ (by first | assumption | decide | omega)).trans (by first | assumption | exact hs_same _ _ _ | exact (hs_ne _ _ (by first | assumption | decide | omega)).trans (by first | assumption | exact hs_same _ _ _))))) rfl rfl ?_
      refine gs_n 21 a_X5_offsetOf_20 rfl ?_
      refine gs_ia e 22 a_X5_offsetOf_21 (by first | assumption | exact hs_same _ _ _ | exact (hs_ne _ _ (by first | assumption | decide | omega)).trans (by first | assumption | exact hs_same _ _ _ | exact (hs_ne _ _ (by first | assumption | decide | omega)).trans (by first | assumption | exact hs_same _ _ _ | exact (hs_ne _ _ (by first | assumption | decide | omega)).trans (by first | assumption | exact hs_same _ _ _ | exact (hs_ne _ _ (by first | assumption | decide | omega)).trans (by first | assumption | exact hs_same _ _ _))))) rfl (by omega) (by omega) rfl ?_
      rw [ge]
      refine gs_ic 29 25 a_X5_offsetOf_22 rfl rfl (fun c2 => ?_) (fun c2 => ?_)
      · have c2 : ¬ nI (eF (X.getD j en0)) = nI (eF (X.getD e en0)) := c2
        rw [nI_eq (by have := hokj.1; omega) (by have := hoke.1; omega)] at c2
        refine gs_k (nI 0) 30 a_X5_offsetOf_29 (by decide +kernel) rfl ?_
        exact fin 0 (by rw [if_neg c2])
      · have c2 : nI (eF (X.getD j en0)) = nI (eF (X.getD e en0)) := Classical.byContradiction c2
        rw [nI_eq (by have := hokj.1; omega) (by have := hoke.1; omega)] at c2
        refine gs_k (nI 1) 26 a_X5_offsetOf_25 (by decide +kernel) rfl ?_
        refine gs_n 30 a_X5_offsetOf_26 rfl ?_
        exact fin 1 (by rw [if_pos c2])
theorem m_offsetOf {e : Nat} (he : e < X.length) (hE : EA P ar X) (w : MW h (P, a1, a2, a3, a4, a5, X.length, a7, a8, a9, a10, a11, a12) ar) : ev (d + 1) n_X5_offsetOf [.ref 96, .int (nI e)] h (fun u => u = (some (.int (nI (fl (eF (X.getD e en0)) (X.take e)).length)), h)) := by
  refine ev_of q_X5_offsetOf (Nat.le_of_ble_eq_true rfl) ?_
  refine gs_k (nI 0) 1 a_X5_offsetOf_0 (by decide +kernel) rfl ?_
  refine gs_n 2 a_X5_offsetOf_1 rfl ?_
  refine gs_k (nI 0) 3 a_X5_offsetOf_2 (by decide +kernel) rfl ?_
  refine gs_n 4 a_X5_offsetOf_3 rfl ?_
  refine gs_w [(3, .int (nI 0)), (2, .int (nI (fl (eF (X.getD e en0)) (X.take 0)).length)), (0, .ref 96), (1, .int (nI e))] (by simp [ix_nd]) (by intro x hx; simp only [List.mem_cons, List.not_mem_nil, or_false] at hx; rcases hx with rfl | rfl | rfl | rfl <;> rfl) ?_
  exact l_offsetOf he hE w e 0 (by omega)
theorem nxt_sn (l : List En) (x : En) (k E : Nat) : nxt (l ++ [x]) k E = if sent k E x then eA x + 1 else nxt l k E := by
  unfold nxt
  rw [List.reverse_append]
  simp only [List.reverse_cons, List.reverse_nil, List.nil_append, List.singleton_append, List.find?_cons]
  cases sent k E x <;> rfl
theorem l_rnext {k p E : Nat} (hk : k < 32) (hp : p ≤ 8) (hE : EA P ar X) (h9 : ar 9 k = nI E) (hE2 : E < 65536) (w : MW h (P, a1, a2, a3, a4, a5, X.length, a7, a8, a9, a10, a11, a12) ar) : ∀ (j : Nat), j ≤ X.length →
    gs none d mD_X5_nextOf (7, [(3, .int (nI j - nI 1)), (0, .ref 96), (1, .int (nI k)), (2, .int (nI p))], [], h) (fun u => u = (some (.int (nI (nxt (fl p (X.take j)) k E))), h)) := by
  obtain ⟨hl, hok, ha⟩ := hE
  obtain ⟨w0, w1, w2, w3, w4, w5, w6, w7, w8, w9, w10, -⟩ := id w
  simp only [mcell] at w0
  intro j
  induction j with
  | zero =>
    intro hj
    refine gs_n 8 a_X5_nextOf_7 rfl ?_
    refine gs_if 71 11 a_X5_nextOf_8 rfl rfl (fun c => ?_) (fun c => ?_)
    · refine gs_k (nI 0) 72 a_X5_nextOf_71 (by decide +kernel) rfl ?_
      refine gs_iret a_X5_nextOf_72 rfl rfl ?_
      rfl
    · exact absurd ((m1_neg 0 (by omega)).mpr rfl) c
  | succ j ih =>
    intro hj
    have hjl : j < X.length := by omega
    obtain ⟨g0, g1, g2, g3, g4, -⟩ := ha j hjl
    have hkj := hok _ (getD_mem hjl)
    have skip : (eF (X.getD j en0) = p → sent k E (X.getD j en0) = false) → gs none d mD_X5_nextOf (65, [(3, .int (nI j)), (0, .ref 96), (1, .int (nI k)), (2, .int (nI p))], [], h) (fun u => u = (some (.int (nI (nxt (fl p (X.take (j + 1))) k E))), h)) := by
      intro hs
      refine gs_n 68 a_X5_nextOf_65 rfl ?_
      refine gs_n 7 a_X5_nextOf_68 rfl ?_
      refine gs_w [(3, .int (nI j + Int32.ofInt (-1))), (0, .ref 96), (1, .int (nI k)), (2, .int (nI p))] (by simp [ix_nd]) (by intro x hx; simp only [List.mem_cons, List.not_mem_nil, or_false] at hx; rcases hx with rfl | rfl | rfl | rfl <;> rfl) ?_
      rw [dec1, fl_tk hjl]
      by_cases z : eF (X.getD j en0) = p
      · rw [if_pos z, nxt_sn, hs z]
        exact ih (by omega)
      · rw [if_neg z]
        exact ih (by omega)
    rw [m1_succ]
    refine gs_n 8 a_X5_nextOf_7 rfl ?_
    refine gs_if 71 11 a_X5_nextOf_8 rfl rfl (fun c => ?_) (fun c => ?_)
    · exact absurd c (nI_pos (by omega))
    · refine gs_n 12 a_X5_nextOf_11 rfl ?_
      refine gs_get 15 a_X5_nextOf_12 f_5_9 (by first | assumption | exact hs_same _ _ _ | exact (hs_ne _ _ (by first | assumption | decide | omega)).trans (by first | assumption | exact hs_same _ _ _ | exact (hs_ne _ _ (by first | assumption | decide | omega)).trans (by first | assumption | exact hs_same _ _ _ | exact (hs_ne _ _ (by first | assumption | decide | omega)).trans (by first | assumption | exact hs_same _ _ _ | exact (hs_ne _ _ (by first | assumption | decide | omega)).trans (by first | assumption | exact hs_same _ _ _))))) rfl rfl ?_
      refine gs_n 16 a_X5_nextOf_15 rfl ?_
      refine gs_ia j 17 a_X5_nextOf_16 (by first | assumption | exact hs_same _ _ _ | exact (hs_ne _ _ (by first | assumption | decide | omega)).trans (by first | assumption | exact hs_same _ _ _ | exact (hs_ne _ _ (by first | assumption | decide | omega)).trans (by first | assumption | exact hs_same _ _ _ | exact (hs_ne _ _ (by first | assumption | decide | omega)).trans (by first | assumption | exact hs_same _ _ _ | exact (hs_ne _ _ (by first | assumption | decide | omega)).trans (by first | assumption | exact hs_same _ _ _))))) rfl (by omega) (by omega) rfl ?_
      rw [g0]
      refine gs_n 18 a_X5_nextOf_17 rfl ?_
      refine gs_ic 65 21 a_X5_nextOf_18 rfl rfl (fun c18 => ?_) (fun c18 => ?_)
      · have c18 : ¬ nI (eF (X.getD j en0)) = nI p := c18
        rw [nI_eq (by have := hkj.1; omega) (by omega)] at c18
        exact skip (fun q => absurd q c18)
      · have c18 : nI (eF (X.getD j en0)) = nI p := Classical.byContradiction c18
        rw [nI_eq (by have := hkj.1; omega) (by omega)] at c18
        refine gs_n 22 a_X5_nextOf_21 rfl ?_
        refine gs_get 25 a_X5_nextOf_22 f_5_13 (by first | assumption | exact hs_same _ _ _ | exact (hs_ne _ _ (by first | assumption | decide | omega)).trans (by first | assumption | exact hs_same _ _ _ | exact (hs_ne _ _ (by first | assumption | decide | omega)).trans (by first | assumption | exact hs_same _ _ _ | exact (hs_ne _ _ (by first | assumption | decide | omega)).trans (by first | assumption | exact hs_same _ _ _ | exact (hs_ne _ _ (by first | assumption | decide | omega)).trans (by first | assumption | exact hs_same _ _ _))))) rfl rfl ?_
        refine gs_n 26 a_X5_nextOf_25 rfl ?_
        refine gs_ia j 27 a_X5_nextOf_26 (by first | assumption | exact hs_same _ _ _ | exact (hs_ne _ _ (by first | assumption | decide | omega)).trans (by first | assumption | exact hs_same _ _ _ | exact (hs_ne _ _ (by first | assumption | decide | omega)).trans (by first | assumption | exact hs_same _ _ _ | exact (hs_ne _ _ (by first | assumption | decide | omega)).trans (by first | assumption | exact hs_same _ _ _ | exact (hs_ne _ _ (by first | assumption | decide | omega)).trans (by first | assumption | exact hs_same _ _ _))))) rfl (by omega) (by omega) rfl ?_
        rw [g1]
        refine gs_k (nI 1) 28 a_X5_nextOf_27 (by decide +kernel) rfl ?_
        refine gs_ic 65 31 a_X5_nextOf_28 rfl rfl (fun c28 => ?_) (fun c28 => ?_)
        · have c28 : nI 1 < nI (eK (X.getD j en0)) := c28
          rw [nI_ltI (by omega) (by have := hkj.2.1; omega)] at c28
          exact skip (fun _ => by unfold sent; rw [decide_eq_false (by omega)]; rfl)
        · have c28 : ¬ nI 1 < nI (eK (X.getD j en0)) := c28
          rw [nI_ltI (by omega) (by have := hkj.2.1; omega)] at c28
          refine gs_n 32 a_X5_nextOf_31 rfl ?_
          refine gs_get 35 a_X5_nextOf_32 f_5_16 (by first | assumption | exact hs_same _ _ _ | exact (hs_ne _ _ (by first | assumption | decide | omega)).trans (by first | assumption | exact hs_same _ _ _ | exact (hs_ne _ _ (by first | assumption | decide | omega)).trans (by first | assumption | exact hs_same _ _ _ | exact (hs_ne _ _ (by first | assumption | decide | omega)).trans (by first | assumption | exact hs_same _ _ _ | exact (hs_ne _ _ (by first | assumption | decide | omega)).trans (by first | assumption | exact hs_same _ _ _))))) rfl rfl ?_
          refine gs_n 36 a_X5_nextOf_35 rfl ?_
          refine gs_ia j 37 a_X5_nextOf_36 (by first | assumption | exact hs_same _ _ _ | exact (hs_ne _ _ (by first | assumption | decide | omega)).trans (by first | assumption | exact hs_same _ _ _ | exact (hs_ne _ _ (by first | assumption | decide | omega)).trans (by first | assumption | exact hs_same _ _ _ | exact (hs_ne _ _ (by first | assumption | decide | omega)).trans (by first | assumption | exact hs_same _ _ _ | exact (hs_ne _ _ (by first | assumption | decide | omega)).trans (by first | assumption | exact hs_same _ _ _))))) rfl (by omega) (by omega) rfl ?_
          rw [g2]
          refine gs_n 38 a_X5_nextOf_37 rfl ?_
          refine gs_ic 65 41 a_X5_nextOf_38 rfl rfl (fun c38 => ?_) (fun c38 => ?_)
          · have c38 : ¬ nI (eY (X.getD j en0)) = nI k := c38
            rw [nI_eq (by have := hkj.2.2.1; omega) (by omega)] at c38
            exact skip (fun _ => by unfold sent; rw [decide_eq_false c38]; simp)
          · have c38 : nI (eY (X.getD j en0)) = nI k := Classical.byContradiction c38
            rw [nI_eq (by have := hkj.2.2.1; omega) (by omega)] at c38
            refine gs_n 42 a_X5_nextOf_41 rfl ?_
            refine gs_get 45 a_X5_nextOf_42 f_5_19 (by first | assumption | exact hs_same _ _ _ | exact (hs_ne _ _ (by first | assumption | decide | omega)).trans (by first | assumption | exact hs_same _ _ _ | exact (hs_ne _ _ (by first | assumption | decide | omega)).trans (by first | assumption | exact hs_same _ _ _ | exact (hs_ne _ _ (by first | assumption | decide | omega)).trans (by first | assumption | exact hs_same _ _ _ | exact (hs_ne _ _ (by first | assumption | decide | omega)).trans (by first | assumption | exact hs_same _ _ _))))) rfl rfl ?_
            refine gs_n 46 a_X5_nextOf_45 rfl ?_
            refine gs_ia j 47 a_X5_nextOf_46 (by first | assumption | exact hs_same _ _ _ | exact (hs_ne _ _ (by first | assumption | decide | omega)).trans (by first | assumption | exact hs_same _ _ _ | exact (hs_ne _ _ (by first | assumption | decide | omega)).trans (by first | assumption | exact hs_same _ _ _ | exact (hs_ne _ _ (by first | assumption | decide | omega)).trans (by first | assumption | exact hs_same _ _ _ | exact (hs_ne _ _ (by first | assumption | decide | omega)).trans (by first | assumption | exact hs_same _ _ _))))) rfl (by omega) (by omega) rfl ?_
            rw [g3]
            refine gs_n 48 a_X5_nextOf_47 rfl ?_
            refine gs_get 51 a_X5_nextOf_48 f_5_40 (by first | assumption | exact hs_same _ _ _ | exact (hs_ne _ _ (by first | assumption | decide | omega)).trans (by first | assumption | exact hs_same _ _ _ | exact (hs_ne _ _ (by first | assumption | decide | omega)).trans (by first | assumption | exact hs_same _ _ _ | exact (hs_ne _ _ (by first | assumption | decide | omega)).trans (by first | assumption | exact hs_same _ _ _ | exact (hs_ne _ _ (by first | assumption | decide | omega)).trans (by first | assumption | exact hs_same _ _ _))))) rfl rfl ?_
            refine gs_n 52 a_X5_nextOf_51 rfl ?_
            refine gs_ia k 53 a_X5_nextOf_52 (by first | assumption | exact hs_same _ _ _ | exact (hs_ne _ _ (by first | assumption | decide | omega)).trans (by first | assumption | exact hs_same _ _ _ | exact (hs_ne _ _ (by first | assumption | decide | omega)).trans (by first | assumption | exact hs_same _ _ _ | exact (hs_ne _ _ (by first | assumption | decide | omega)).trans (by first | assumption | exact hs_same _ _ _ | exact (hs_ne _ _ (by first | assumption | decide | omega)).trans (by first | assumption | exact hs_same _ _ _))))) rfl (by omega) (by omega) rfl ?_
            rw [h9]
            refine gs_ic 65 56 a_X5_nextOf_53 rfl rfl (fun c53 => ?_) (fun c53 => ?_)
            · have c53 : ¬ nI (eE (X.getD j en0)) = nI E := c53
              rw [nI_eq (by have := hkj.2.2.2.1; omega) (by omega)] at c53
              exact skip (fun _ => by unfold sent; rw [decide_eq_false c53]; simp)
            · have c53 : nI (eE (X.getD j en0)) = nI E := Classical.byContradiction c53
              rw [nI_eq (by have := hkj.2.2.2.1; omega) (by omega)] at c53
              have hsn : sent k E (X.getD j en0) = true := by unfold sent; rw [decide_eq_true (show eK (X.getD j en0) ≤ 1 by omega), decide_eq_true c38, decide_eq_true c53]; rfl
              refine gs_n 57 a_X5_nextOf_56 rfl ?_
              refine gs_get 60 a_X5_nextOf_57 f_5_22 (by first | assumption | exact hs_same _ _ _ | exact (hs_ne _ _ (by first | assumption | decide | omega)).trans (by first | assumption | exact hs_same _ _ _ | exact (hs_ne _ _ (by first | assumption | decide | omega)).trans (by first | assumption | exact hs_same _ _ _ | exact (hs_ne _ _ (by first | assumption | decide | omega)).trans (by first | assumption | exact hs_same _ _ _ | exact (hs_ne _ _ (by first | assumption | decide | omega)).trans (by first | assumption | exact hs_same _ _ _))))) rfl rfl ?_
              refine gs_n 61 a_X5_nextOf_60 rfl ?_
              refine gs_ia j 62 a_X5_nextOf_61 (by first | assumption | exact hs_same _ _ _ | exact (hs_ne _ _ (by first | assumption | decide | omega)).trans (by first | assumption | exact hs_same _ _ _ | exact (hs_ne _ _ (by first | assumption | decide | omega)).trans (by first | assumption | exact hs_same _ _ _ | exact (hs_ne _ _ (by first | assumption | decide | omega)).trans (by first | assumption | exact hs_same _ _ _ | exact (hs_ne _ _ (by first | assumption | decide | omega)).trans (by first | assumption | exact hs_same _ _ _))))) rfl (by omega) (by omega) rfl ?_
              rw [g4]
              refine gs_k (nI 1) 63 a_X5_nextOf_62 (by decide +kernel) rfl ?_
              refine gs_n 64 a_X5_nextOf_63 rfl ?_
              refine gs_iret a_X5_nextOf_64 rfl rfl ?_
              rw [nI_add, fl_tk hjl, if_pos c18, nxt_sn, hsn, if_pos rfl]
theorem m_nextOf {k p E : Nat} (hk : k < 32) (hp : p ≤ 8) (hE : EA P ar X) (h9 : ar 9 k = nI E) (hE2 : E < 65536) (w : MW h (P, a1, a2, a3, a4, a5, X.length, a7, a8, a9, a10, a11, a12) ar) : ev (d + 1) n_X5_nextOf [.ref 96, .int (nI k), .int (nI p)] h (fun u => u = (some (.int (nI (nxt (fl p X) k E))), h)) := by
  have w0 := w.1
  simp only [mcell] at w0
  refine ev_of q_X5_nextOf (Nat.le_of_ble_eq_true rfl) ?_
  refine gs_n 1 a_X5_nextOf_0 rfl ?_
  refine gs_get 4 a_X5_nextOf_1 f_5_106 (by first | assumption | exact hs_same _ _ _ | exact (hs_ne _ _ (by first | assumption | decide | omega)).trans (by first | assumption | exact hs_same _ _ _ | exact (hs_ne _ _ (by first | assumption | decide | omega)).trans (by first | assumption | exact hs_same _ _ _ | exact (hs_ne _ _ (by first | assumption | decide | omega)).trans (by first | assumption | exact hs_same _ _ _ | exact (hs_ne _ _ (by first | assumption | decide | omega)).trans (by first | assumption | exact hs_same _ _ _))))) rfl rfl ?_
  refine gs_k (nI 1) 5 a_X5_nextOf_4 (by decide +kernel) rfl ?_
  refine gs_n 6 a_X5_nextOf_5 rfl ?_
  refine gs_n 7 a_X5_nextOf_6 rfl ?_
  refine gs_w [(3, .int (nI X.length - nI 1)), (0, .ref 96), (1, .int (nI k)), (2, .int (nI p))] (by simp [ix_nd]) (by intro x hx; simp only [List.mem_cons, List.not_mem_nil, or_false] at hx; rcases hx with rfl | rfl | rfl | rfl <;> rfl) ?_
  have := l_rnext (d := d) hk hp hE h9 hE2 w X.length (Nat.le_refl _)
  rw [List.take_length] at this
  exact this
theorem l_again {k p E : Nat} {num : Int32} (hk : k < 32) (hp : p ≤ 8) (hE : EA P ar X) (h9 : ar 9 k = nI E) (hE2 : E < 65536) (w : MW h (P, a1, a2, a3, a4, a5, X.length, a7, a8, a9, a10, a11, a12) ar) : ∀ (j left : Nat), j ≤ X.length → left ≤ 5 →
    gs none (d + 1) mD_X5_again (11, [(5, .int (nI j - nI 1)), (4, .int (nI left)), (0, .ref 96), (1, .int (nI k)), (2, .int (nI p)), (3, .int num)], [], h) (fun u => u = (some (.int (oI (recI (fl p X) k E num (fl p (X.take j)).length left))), h)) := by
  have hE0 := hE
  obtain ⟨hl, hok, ha⟩ := hE
  obtain ⟨w0, w1, w2, w3, w4, w5, w6, w7, w8, w9, w10, -⟩ := id w
  simp only [mcell] at w0
  intro j
  induction j with
  | zero =>
    intro left hj h5
    refine gs_n 13 a_X5_again_11 rfl ?_
    refine gs_if 97 16 a_X5_again_13 rfl rfl (fun c => ?_) (fun c => ?_)
    · refine gs_k (-1) 98 a_X5_again_97 (by decide +kernel) rfl ?_
      refine gs_iret a_X5_again_98 rfl rfl ?_
      rfl
    · exact absurd ((m1_neg 0 (by omega)).mpr rfl) c
  | succ j ih =>
    intro left hj h5
    have hjl : j < X.length := by omega
    obtain ⟨g0, g1, g2, g3, g4, -⟩ := ha j hjl
    have hkj := hok _ (getD_mem hjl)
    rw [m1_succ]
    refine gs_n 13 a_X5_again_11 rfl ?_
    refine gs_if 97 16 a_X5_again_13 rfl rfl (fun c => ?_) (fun c => ?_)
    · exact absurd c (nI_pos (by omega))
    · refine gs_n 18 a_X5_again_16 rfl ?_
      refine gs_if 97 21 a_X5_again_18 rfl rfl (fun c18 => ?_) (fun c18 => ?_)
      · have c18 : nI left ≤ 0 := c18
        have hl0 : left = 0 := by
          have : nI left ≤ nI 0 := c18
          rw [le_lit (by omega), nI_toInt (by omega)] at this
          omega
        refine gs_k (-1) 98 a_X5_again_97 (by decide +kernel) rfl ?_
        refine gs_iret a_X5_again_98 rfl rfl ?_
        subst hl0
        cases (fl p (X.take (j + 1))).length with
        | zero => rfl
        | succ q => simp only [recI, if_true]; rfl
      · have c18 : ¬ nI left ≤ 0 := c18
        have hl0 : left ≠ 0 := fun q => c18 (show nI left ≤ nI 0 from nI_le (by omega) (by omega))
        have skip : (eF (X.getD j en0) = p → sent k E (X.getD j en0) = false) → gs none (d + 1) mD_X5_again (91, [(5, .int (nI j)), (4, .int (nI left)), (0, .ref 96), (1, .int (nI k)), (2, .int (nI p)), (3, .int num)], [], h) (fun u => u = (some (.int (oI (recI (fl p X) k E num (fl p (X.take (j + 1))).length left))), h)) := by
          intro hs
          refine gs_n 94 a_X5_again_91 rfl ?_
          refine gs_n 11 a_X5_again_94 rfl ?_
          refine gs_w [(5, .int (nI j + Int32.ofInt (-1))), (4, .int (nI left)), (0, .ref 96), (1, .int (nI k)), (2, .int (nI p)), (3, .int num)] (by simp [ix_nd]) (by intro x hx; simp only [List.mem_cons, List.not_mem_nil, or_false] at hx; rcases hx with rfl | rfl | rfl | rfl | rfl | rfl <;> rfl) ?_
          rw [dec1, fl_tk hjl]
          by_cases z : eF (X.getD j en0) = p
          · rw [if_pos z, List.length_append]
            simp only [List.length_cons, List.length_nil, Nat.zero_add, recI]
            rw [if_neg hl0, fl_getD hjl z, hs z, if_neg (by simp)]
            exact ih left (by omega) h5
          · rw [if_neg z]
            exact ih left (by omega) h5
        refine gs_n 22 a_X5_again_21 rfl ?_
        refine gs_get 25 a_X5_again_22 f_5_9 (by first | assumption | exact hs_same _ _ _ | exact (hs_ne _ _ (by first | assumption | decide | omega)).trans (by first | assumption | exact hs_same _ _ _ | exact (hs_ne _ _ (by first | assumption | decide | omega)).trans (by first | assumption | exact hs_same _ _ _ | exact (hs_ne _ _ (by first | assumption | decide | omega)).trans (by first | assumption | exact hs_same _ _ _ | exact (hs_ne _ _ (by first | assumption | decide | omega)).trans (by first | assumption | exact hs_same _ _ _))))) rfl rfl ?_
        refine gs_n 27 a_X5_again_25 rfl ?_
        refine gs_ia j 28 a_X5_again_27 (by first | assumption | exact hs_same _ _ _ | exact (hs_ne _ _ (by first | assumption | decide | omega)).trans (by first | assumption | exact hs_same _ _ _ | exact (hs_ne _ _ (by first | assumption | decide | omega)).trans (by first | assumption | exact hs_same _ _ _ | exact (hs_ne _ _ (by first | assumption | decide | omega)).trans (by first | assumption | exact hs_same _ _ _ | exact (hs_ne _ _ (by first | assumption | decide | omega)).trans (by first | assumption | exact hs_same _ _ _))))) rfl (by omega) (by omega) rfl ?_
        rw [g0]
        refine gs_n 29 a_X5_again_28 rfl ?_
        refine gs_ic 91 32 a_X5_again_29 rfl rfl (fun c29 => ?_) (fun c29 => ?_)
        · have c18 : ¬ nI (eF (X.getD j en0)) = nI p := c29
          rw [nI_eq (by have := hkj.1; omega) (by omega)] at c18
          exact skip (fun q => absurd q c18)
        · have c29 : nI (eF (X.getD j en0)) = nI p := Classical.byContradiction c29
          rw [nI_eq (by have := hkj.1; omega) (by omega)] at c29
          refine gs_n 33 a_X5_again_32 rfl ?_
          refine gs_get 36 a_X5_again_33 f_5_13 (by first | assumption | exact hs_same _ _ _ | exact (hs_ne _ _ (by first | assumption | decide | omega)).trans (by first | assumption | exact hs_same _ _ _ | exact (hs_ne _ _ (by first | assumption | decide | omega)).trans (by first | assumption | exact hs_same _ _ _ | exact (hs_ne _ _ (by first | assumption | decide | omega)).trans (by first | assumption | exact hs_same _ _ _ | exact (hs_ne _ _ (by first | assumption | decide | omega)).trans (by first | assumption | exact hs_same _ _ _))))) rfl rfl ?_
          refine gs_n 38 a_X5_again_36 rfl ?_
          refine gs_ia j 39 a_X5_again_38 (by first | assumption | exact hs_same _ _ _ | exact (hs_ne _ _ (by first | assumption | decide | omega)).trans (by first | assumption | exact hs_same _ _ _ | exact (hs_ne _ _ (by first | assumption | decide | omega)).trans (by first | assumption | exact hs_same _ _ _ | exact (hs_ne _ _ (by first | assumption | decide | omega)).trans (by first | assumption | exact hs_same _ _ _ | exact (hs_ne _ _ (by first | assumption | decide | omega)).trans (by first | assumption | exact hs_same _ _ _))))) rfl (by omega) (by omega) rfl ?_
          rw [g1]
          refine gs_k (nI 1) 40 a_X5_again_39 (by decide +kernel) rfl ?_
          refine gs_ic 91 43 a_X5_again_40 rfl rfl (fun c28 => ?_) (fun c28 => ?_)
          · have c28 : nI 1 < nI (eK (X.getD j en0)) := c28
            rw [nI_ltI (by omega) (by have := hkj.2.1; omega)] at c28
            exact skip (fun _ => by unfold sent; rw [decide_eq_false (by omega)]; rfl)
          · have c28 : ¬ nI 1 < nI (eK (X.getD j en0)) := c28
            rw [nI_ltI (by omega) (by have := hkj.2.1; omega)] at c28
            refine gs_n 44 a_X5_again_43 rfl ?_
            refine gs_get 47 a_X5_again_44 f_5_16 (by first | assumption | exact hs_same _ _ _ | exact (hs_ne _ _ (by first | assumption | decide | omega)).trans (by first | assumption | exact hs_same _ _ _ | exact (hs_ne _ _ (by first | assumption | decide | omega)).trans (by first | assumption | exact hs_same _ _ _ | exact (hs_ne _ _ (by first | assumption | decide | omega)).trans (by first | assumption | exact hs_same _ _ _ | exact (hs_ne _ _ (by first | assumption | decide | omega)).trans (by first | assumption | exact hs_same _ _ _))))) rfl rfl ?_
            refine gs_n 49 a_X5_again_47 rfl ?_
            refine gs_ia j 50 a_X5_again_49 (by first | assumption | exact hs_same _ _ _ | exact (hs_ne _ _ (by first | assumption | decide | omega)).trans (by first | assumption | exact hs_same _ _ _ | exact (hs_ne _ _ (by first | assumption | decide | omega)).trans (by first | assumption | exact hs_same _ _ _ | exact (hs_ne _ _ (by first | assumption | decide | omega)).trans (by first | assumption | exact hs_same _ _ _ | exact (hs_ne _ _ (by first | assumption | decide | omega)).trans (by first | assumption | exact hs_same _ _ _))))) rfl (by omega) (by omega) rfl ?_
            rw [g2]
            refine gs_n 51 a_X5_again_50 rfl ?_
            refine gs_ic 91 54 a_X5_again_51 rfl rfl (fun c38 => ?_) (fun c38 => ?_)
            · have c38 : ¬ nI (eY (X.getD j en0)) = nI k := c38
              rw [nI_eq (by have := hkj.2.2.1; omega) (by omega)] at c38
              exact skip (fun _ => by unfold sent; rw [decide_eq_false c38]; simp)
            · have c38 : nI (eY (X.getD j en0)) = nI k := Classical.byContradiction c38
              rw [nI_eq (by have := hkj.2.2.1; omega) (by omega)] at c38
              refine gs_n 55 a_X5_again_54 rfl ?_
              refine gs_get 58 a_X5_again_55 f_5_19 (by first | assumption | exact hs_same _ _ _ | exact (hs_ne _ _ (by first | assumption | decide | omega)).trans (by first | assumption | exact hs_same _ _ _ | exact (hs_ne _ _ (by first | assumption | decide | omega)).trans (by first | assumption | exact hs_same _ _ _ | exact (hs_ne _ _ (by first | assumption | decide | omega)).trans (by first | assumption | exact hs_same _ _ _ | exact (hs_ne _ _ (by first | assumption | decide | omega)).trans (by first | assumption | exact hs_same _ _ _))))) rfl rfl ?_
              refine gs_n 60 a_X5_again_58 rfl ?_
              refine gs_ia j 61 a_X5_again_60 (by first | assumption | exact hs_same _ _ _ | exact (hs_ne _ _ (by first | assumption | decide | omega)).trans (by first | assumption | exact hs_same _ _ _ | exact (hs_ne _ _ (by first | assumption | decide | omega)).trans (by first | assumption | exact hs_same _ _ _ | exact (hs_ne _ _ (by first | assumption | decide | omega)).trans (by first | assumption | exact hs_same _ _ _ | exact (hs_ne _ _ (by first | assumption | decide | omega)).trans (by first | assumption | exact hs_same _ _ _))))) rfl (by omega) (by omega) rfl ?_
              rw [g3]
              refine gs_n 62 a_X5_again_61 rfl ?_
              refine gs_get 65 a_X5_again_62 f_5_40 (by first | assumption | exact hs_same _ _ _ | exact (hs_ne _ _ (by first | assumption | decide | omega)).trans (by first | assumption | exact hs_same _ _ _ | exact (hs_ne _ _ (by first | assumption | decide | omega)).trans (by first | assumption | exact hs_same _ _ _ | exact (hs_ne _ _ (by first | assumption | decide | omega)).trans (by first | assumption | exact hs_same _ _ _ | exact (hs_ne _ _ (by first | assumption | decide | omega)).trans (by first | assumption | exact hs_same _ _ _))))) rfl rfl ?_
              refine gs_n 66 a_X5_again_65 rfl ?_
              refine gs_ia k 67 a_X5_again_66 (by first | assumption | exact hs_same _ _ _ | exact (hs_ne _ _ (by first | assumption | decide | omega)).trans (by first | assumption | exact hs_same _ _ _ | exact (hs_ne _ _ (by first | assumption | decide | omega)).trans (by first | assumption | exact hs_same _ _ _ | exact (hs_ne _ _ (by first | assumption | decide | omega)).trans (by first | assumption | exact hs_same _ _ _ | exact (hs_ne _ _ (by first | assumption | decide | omega)).trans (by first | assumption | exact hs_same _ _ _))))) rfl (by omega) (by omega) rfl ?_
              rw [h9]
              refine gs_ic 91 70 a_X5_again_67 rfl rfl (fun c53 => ?_) (fun c53 => ?_)
              · have c53 : ¬ nI (eE (X.getD j en0)) = nI E := c53
                rw [nI_eq (by have := hkj.2.2.2.1; omega) (by omega)] at c53
                exact skip (fun _ => by unfold sent; rw [decide_eq_false c53]; simp)
              · have c53 : nI (eE (X.getD j en0)) = nI E := Classical.byContradiction c53
                rw [nI_eq (by have := hkj.2.2.2.1; omega) (by omega)] at c53
                have hsn : sent k E (X.getD j en0) = true := by unfold sent; rw [decide_eq_true (show eK (X.getD j en0) ≤ 1 by omega), decide_eq_true c38, decide_eq_true c53]; rfl
                have hrec : recI (fl p X) k E num (fl p (X.take (j + 1))).length left = if nI (eA (X.getD j en0)) = num then some (fl p (X.take j)).length else recI (fl p X) k E num (fl p (X.take j)).length (left - 1) := by
                  rw [fl_tk hjl, if_pos c29, List.length_append]
                  simp only [List.length_cons, List.length_nil, Nat.zero_add, recI]
                  rw [if_neg hl0, fl_getD hjl c29, hsn, if_pos rfl]
                rw [hrec]
                refine gs_n 71 a_X5_again_70 rfl ?_
                refine gs_get 74 a_X5_again_71 f_5_22 (by first | assumption | exact hs_same _ _ _ | exact (hs_ne _ _ (by first | assumption | decide | omega)).trans (by first | assumption | exact hs_same _ _ _ | exact (hs_ne _ _ (by first | assumption | decide | omega)).trans (by first | assumption | exact hs_same _ _ _ | exact (hs_ne _ _ (by first | assumption | decide | omega)).trans (by first | assumption | exact hs_same _ _ _ | exact (hs_ne _ _ (by first | assumption | decide | omega)).trans (by first | assumption | exact hs_same _ _ _))))) rfl rfl ?_
                refine gs_n 76 a_X5_again_74 rfl ?_
                refine gs_ia j 77 a_X5_again_76 (by first | assumption | exact hs_same _ _ _ | exact (hs_ne _ _ (by first | assumption | decide | omega)).trans (by first | assumption | exact hs_same _ _ _ | exact (hs_ne _ _ (by first | assumption | decide | omega)).trans (by first | assumption | exact hs_same _ _ _ | exact (hs_ne _ _ (by first | assumption | decide | omega)).trans (by first | assumption | exact hs_same _ _ _ | exact (hs_ne _ _ (by first | assumption | decide | omega)).trans (by first | assumption | exact hs_same _ _ _))))) rfl (by omega) (by omega) rfl ?_
                rw [g4]
                refine gs_n 78 a_X5_again_77 rfl ?_
                refine gs_ic 88 81 a_X5_again_78 rfl rfl (fun c78 => ?_) (fun c78 => ?_)
                · have c78 : ¬ nI (eA (X.getD j en0)) = num := c78
                  rw [if_neg c78]
                  refine gs_n 91 a_X5_again_88 rfl ?_
                  refine gs_n 94 a_X5_again_91 rfl ?_
                  refine gs_n 11 a_X5_again_94 rfl ?_
                  refine gs_w [(5, .int (nI j + Int32.ofInt (-1))), (4, .int (nI left + Int32.ofInt (-1))), (0, .ref 96), (1, .int (nI k)), (2, .int (nI p)), (3, .int num)] (by simp [ix_nd]) (by intro x hx; simp only [List.mem_cons, List.not_mem_nil, or_false] at hx; rcases hx with rfl | rfl | rfl | rfl | rfl | rfl <;> rfl) ?_
                  rw [dec1, dec1, show nI left - nI 1 = nI (left - 1) from pk_sub (by omega)]
                  exact ih (left - 1) (by omega) (by omega)
                · have c78 : nI (eA (X.getD j en0)) = num := Classical.byContradiction c78
                  rw [if_pos c78]
                  refine gs_n 82 a_X5_again_81 rfl ?_
                  refine gs_n 84 a_X5_again_82 rfl ?_
                  refine gs_cv 87 a_X5_again_84 k_5_165 q_X5_offsetOf (m_offsetOf hjl hE0 w) rfl rfl rfl (by simp [Value.category]) (by first | assumption | exact hs_same _ _ _ | exact (hs_ne _ _ (by first | assumption | decide | omega)).trans (by first | assumption | exact hs_same _ _ _ | exact (hs_ne _ _ (by first | assumption | decide | omega)).trans (by first | assumption | exact hs_same _ _ _ | exact (hs_ne _ _ (by first | assumption | decide | omega)).trans (by first | assumption | exact hs_same _ _ _ | exact (hs_ne _ _ (by first | assumption | decide | omega)).trans (by first | assumption | exact hs_same _ _ _))))) rfl (fun v h1 hp => ?_)
                  cases hp
                  refine gs_iret a_X5_again_87 rfl rfl ?_
                  rw [c29]
                  rfl
theorem m_again {k p E : Nat} {num : Int32} (hk : k < 32) (hp : p ≤ 8) (hE : EA P ar X) (h9 : ar 9 k = nI E) (hE2 : E < 65536) (w : MW h (P, a1, a2, a3, a4, a5, X.length, a7, a8, a9, a10, a11, a12) ar) : ev (d + 2) n_X5_again [.ref 96, .int (nI k), .int (nI p), .int num] h (fun u => u = (some (.int (oI (recI (fl p X) k E num (fl p X).length 5))), h)) := by
  have w0 := w.1
  simp only [mcell] at w0
  refine ev_of q_X5_again (Nat.le_of_ble_eq_true rfl) ?_
  refine gs_k (nI 5) 1 a_X5_again_0 (by decide +kernel) rfl ?_
  refine gs_n 3 a_X5_again_1 rfl ?_
  refine gs_n 4 a_X5_again_3 rfl ?_
  refine gs_get 7 a_X5_again_4 f_5_106 (by first | assumption | exact hs_same _ _ _ | exact (hs_ne _ _ (by first | assumption | decide | omega)).trans (by first | assumption | exact hs_same _ _ _ | exact (hs_ne _ _ (by first | assumption | decide | omega)).trans (by first | assumption | exact hs_same _ _ _ | exact (hs_ne _ _ (by first | assumption | decide | omega)).trans (by first | assumption | exact hs_same _ _ _ | exact (hs_ne _ _ (by first | assumption | decide | omega)).trans (by first | assumption | exact hs_same _ _ _))))) rfl rfl ?_
  refine gs_k (nI 1) 8 a_X5_again_7 (by decide +kernel) rfl ?_
  refine gs_n 9 a_X5_again_8 rfl ?_
  refine gs_n 11 a_X5_again_9 rfl ?_
  refine gs_w [(5, .int (nI X.length - nI 1)), (4, .int (nI 5)), (0, .ref 96), (1, .int (nI k)), (2, .int (nI p)), (3, .int num)] (by simp [ix_nd]) (by intro x hx; simp only [List.mem_cons, List.not_mem_nil, or_false] at hx; rcases hx with rfl | rfl | rfl | rfl | rfl | rfl <;> rfl) ?_
  have := l_again (d := d) (num := num) hk hp hE h9 hE2 w X.length 5 (Nat.le_refl _) (Nat.le_refl _)
  rw [List.take_length] at this
  exact this
end R7
