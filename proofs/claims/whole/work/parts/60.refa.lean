/-! The reference: what is stable, what is seen -/
section R10
variable {d : Nat} {h : ix_H} {P cap tmo clk cut sy torn : Nat} {cl : Bool} {X : List En} {tE : En} {tp an : List Nat} {T : TS} {ar : Nat → Nat → Int32} {a1 a2 a3 : Nat} {a4 : Bool} {a5 a7 a8 a9 a10 a11 a12 : Nat}
/-- the parts' fates, as the arrays tell them -/
def LKp (X : List En) (p : Nat) (ar : Nat → Nat → Int32) : Prop := ∀ j, j < X.length → eF (X.getD j en0) = p → eK (X.getD j en0) = 1 → ∃ t v, ar 6 j = nI t ∧ t < 1100 ∧ ar 14 t = nI v ∧ v ≤ 2 ∧ fateFrom ((fl p X).drop (fl p (X.take j)).length) (eY (X.getD j en0)) = (if v = 0 then none else some (v + 1))
theorem LK_of (hv : pv P cap X) (hnd : noDec P X) (hE : EA P ar X) (hTR : TR ar (told P X)) {p : Nat} (hp : p < P) : LKp X p ar := by
  intro j hj hf hK
  obtain ⟨n, ep, tx, bg, ba, ad, lc, de, mq, nx, la, en, hT⟩ := told_ex P X
  have hg : GT P cap X (n, ep, tx, bg, ba, ad, lc, de, mq, nx, la, en) := hT ▸ pv_all hv
  have ho := fl_lt hj hf
  have hget := fl_getD hj hf
  obtain ⟨t, g1, g2, g3, g4, g5⟩ := hg.2.2.2.1 p hp (fl p (X.take j)).length ho (by rw [hget]; exact hK)
  rw [hget] at g1 g3 g4 g5
  have a6 := (hE.2.2 j hj).2.2.2.2.2.2.1
  rw [g1, m1_succ] at a6
  have hnx := hg.1.2.1
  have hgr := hg.2.2.2.2.1
  have hy : eY (X.getD j en0) < 32 := (hE.2.1 _ (getD_mem hj)).2.2.1
  unfold noDec at hnd
  rw [hT] at hTR hnd
  have h14 := hTR.2.2.1 t g2
  by_cases z : tx (eY (X.getD j en0)) = t + 1
  · obtain ⟨z1, z2, z3⟩ := g4 z
    have h0 : hEnd p X t = false := by
      have := hg.2.2.1.2.2 _ hy (by omega) (hnd _ hy) p hp
      rw [z, Nat.add_sub_cancel] at this
      exact this
    refine ⟨t, 0, a6, by omega, by rw [h14, z1], by omega, ?_⟩
    rw [z3, h0]
    rfl
  · obtain ⟨z1, z2⟩ := g5 z
    have hkk := fate_k (fun e he => by
      have hm := fl_mem (List.mem_of_mem_drop he)
      exact (hg.1.2.2.2.1 e hm.1).2.2.2 (by omega)) z2
    refine ⟨t, en t, a6, by omega, h14, by omega, ?_⟩
    rw [z2, if_neg z1]
theorem l_manyOf {p : Nat} (hp : p ≤ 8) (hE : EA P ar X) (w : MW h (P, a1, a2, a3, a4, a5, X.length, a7, a8, a9, a10, a11, a12) ar) : ∀ (r j : Nat), j + r = X.length →
    gs none d mD_X5_manyOf (4, [(3, .int (nI j)), (2, .int (nI (fl p (X.take j)).length)), (0, .ref 96), (1, .int (nI p))], [], h) (fun u => u = (some (.int (nI (fl p X).length)), h)) := by
  obtain ⟨hl, hok, ha⟩ := hE
  obtain ⟨w0, w1, -⟩ := id w
  simp only [mcell] at w0
  intro r
  induction r with
  | zero =>
    intro j hj
    refine gs_n 5 a_X5_manyOf_4 rfl ?_
    refine gs_n 6 a_X5_manyOf_5 rfl ?_
    refine gs_get 9 a_X5_manyOf_6 f_5_106 (by first | assumption | exact hs_same _ _ _ | exact (hs_ne _ _ (by first | assumption | decide | omega)).trans (by first | assumption | exact hs_same _ _ _ | exact (hs_ne _ _ (by first | assumption | decide | omega)).trans (by first | assumption | exact hs_same _ _ _ | exact (hs_ne _ _ (by first | assumption | decide | omega)).trans (by first | assumption | exact hs_same _ _ _ | exact (hs_ne _ _ (by first | assumption | decide | omega)).trans (by first | assumption | exact hs_same _ _ _))))) rfl rfl ?_
    refine gs_ic 36 12 a_X5_manyOf_9 rfl rfl (fun c => ?_) (fun c => ?_)
    · rw [List.take_of_length_le (by omega)]
      refine gs_n 37 a_X5_manyOf_36 rfl ?_
      refine gs_iret a_X5_manyOf_37 rfl rfl ?_
      rfl
    · exact absurd (nI_le (by omega) (by omega)) c
  | succ r ih =>
    intro j hj
    have hjl : j < X.length := by omega
    have gj := (ha j hjl).1
    have hokj := hok _ (getD_mem hjl)
    have fin : ∀ t, t = (if eF (X.getD j en0) = p then 1 else 0) → gs none d mD_X5_manyOf (28, [(3, .int (nI j)), (2, .int (nI (fl p (X.take j)).length)), (0, .ref 96), (1, .int (nI p))], [.int (nI t), .int (nI (fl p (X.take j)).length)], h) (fun u => u = (some (.int (nI (fl p X).length)), h)) := by
      intro t ht
      refine gs_n 29 a_X5_manyOf_28 rfl ?_
      refine gs_n 30 a_X5_manyOf_29 rfl ?_
      first | refine gs_inc _ 33 a_X5_manyOf_30 rfl (Nat.le_of_ble_eq_true rfl) rfl ?_ | refine gs_n 33 a_X5_manyOf_30 rfl ?_
      refine gs_n 4 a_X5_manyOf_33 rfl ?_
      refine gs_w [(3, .int (nI (j + 1))), (2, .int (nI (fl p (X.take j)).length + nI t)), (0, .ref 96), (1, .int (nI p))] (by simp [ix_nd]) (by intro x hx; simp only [List.mem_cons, List.not_mem_nil, or_false] at hx; rcases hx with rfl | rfl | rfl | rfl <;> rfl) ?_
      rw [nI_add, show (fl p (X.take j)).length + t = (fl p (X.take (j + 1))).length by
        rw [fl_tk hjl, ht]
        split
        · rw [List.length_append]; rfl
        · rfl]
      exact ih (j + 1) (by omega)
    refine gs_n 5 a_X5_manyOf_4 rfl ?_
    refine gs_n 6 a_X5_manyOf_5 rfl ?_
    refine gs_get 9 a_X5_manyOf_6 f_5_106 (by first | assumption | exact hs_same _ _ _ | exact (hs_ne _ _ (by first | assumption | decide | omega)).trans (by first | assumption | exact hs_same _ _ _ | exact (hs_ne _ _ (by first | assumption | decide | omega)).trans (by first | assumption | exact hs_same _ _ _ | exact (hs_ne _ _ (by first | assumption | decide | omega)).trans (by first | assumption | exact hs_same _ _ _ | exact (hs_ne _ _ (by first | assumption | decide | omega)).trans (by first | assumption | exact hs_same _ _ _))))) rfl rfl ?_
    refine gs_ic 36 12 a_X5_manyOf_9 rfl rfl (fun c => ?_) (fun c => ?_)
    · exact absurd c (nI_ge (by omega) (by omega))
    · refine gs_n 13 a_X5_manyOf_12 rfl ?_
      refine gs_n 14 a_X5_manyOf_13 rfl ?_
      refine gs_get 17 a_X5_manyOf_14 f_5_9 (by first | assumption | exact hs_same _ _ _ | exact (hs_ne _ _ (by first | assumption | decide | omega)).trans (by first | assumption | exact hs_same _ _ _ | exact (hs_ne _ _ (by first | assumption | decide | omega)).trans (by first | assumption | exact hs_same _ _ _ | exact (hs_ne _ _ (by first | assumption | decide | omega)).trans (by first | assumption | exact hs_same _ _ _ | exact (hs_ne _ _ (by first | assumption | decide | omega)).trans (by first | assumption | exact hs_same _ _ _))))) rfl rfl ?_
      refine gs_n 18 a_X5_manyOf_17 rfl ?_
      refine gs_ia j 19 a_X5_manyOf_18 (by first | assumption | exact hs_same _ _ _ | exact (hs_ne _ _ (by first | assumption | decide | omega)).trans (by first | assumption | exact hs_same _ _ _ | exact (hs_ne _ _ (by first | assumption | decide | omega)).trans (by first | assumption | exact hs_same _ _ _ | exact (hs_ne _ _ (by first | assumption | decide | omega)).trans (by first | assumption | exact hs_same _ _ _ | exact (hs_ne _ _ (by first | assumption | decide | omega)).trans (by first | assumption | exact hs_same _ _ _))))) rfl (by omega) (by omega) rfl ?_
      rw [gj]
      refine gs_n 20 a_X5_manyOf_19 rfl ?_
      refine gs_ic 27 23 a_X5_manyOf_20 rfl rfl (fun c2 => ?_) (fun c2 => ?_)
      · have c2 : ¬ nI (eF (X.getD j en0)) = nI p := c2
        rw [nI_eq (by have := hokj.1; omega) (by omega)] at c2
        refine gs_k (nI 0) 28 a_X5_manyOf_27 (by decide +kernel) rfl ?_
        exact fin 0 (by rw [if_neg c2])
      · have c2 : nI (eF (X.getD j en0)) = nI p := Classical.byContradiction c2
        rw [nI_eq (by have := hokj.1; omega) (by omega)] at c2
        refine gs_k (nI 1) 24 a_X5_manyOf_23 (by decide +kernel) rfl ?_
        refine gs_n 28 a_X5_manyOf_24 rfl ?_
        exact fin 1 (by rw [if_pos c2])
theorem m_manyOf {p : Nat} (hp : p ≤ 8) (hE : EA P ar X) (w : MW h (P, a1, a2, a3, a4, a5, X.length, a7, a8, a9, a10, a11, a12) ar) : ev (d + 1) n_X5_manyOf [.ref 96, .int (nI p)] h (fun u => u = (some (.int (nI (fl p X).length)), h)) := by
  refine ev_of q_X5_manyOf (Nat.le_of_ble_eq_true rfl) ?_
  refine gs_k (nI 0) 1 a_X5_manyOf_0 (by decide +kernel) rfl ?_
  refine gs_n 2 a_X5_manyOf_1 rfl ?_
  refine gs_k (nI 0) 3 a_X5_manyOf_2 (by decide +kernel) rfl ?_
  refine gs_n 4 a_X5_manyOf_3 rfl ?_
  refine gs_w [(3, .int (nI 0)), (2, .int (nI (fl p (X.take 0)).length)), (0, .ref 96), (1, .int (nI p))] (by simp [ix_nd]) (by intro x hx; simp only [List.mem_cons, List.not_mem_nil, or_false] at hx; rcases hx with rfl | rfl | rfl | rfl <;> rfl) ?_
  exact l_manyOf hp hE w X.length 0 (by omega)
theorem l_rstable {p : Nat} (hp : p ≤ 8) (hE : EA P ar X) (hL : LKp X p ar) (w : MW h (P, a1, a2, a3, a4, a5, X.length, a7, a8, a9, a10, a11, a12) ar) : ∀ (r j : Nat), j + r = X.length → stbAt (fl p X) (fl p X).length ((fl p X).length - (fl p (X.take j)).length) = stb (fl p X) →
    gs none d mD_X5_stable (4, [(3, .int (nI j)), (2, .int (nI (fl p (X.take j)).length)), (0, .ref 96), (1, .int (nI p))], [], h) (fun u => u = (some (.int (nI (stb (fl p X)))), h)) := by
  obtain ⟨hl, hok, ha⟩ := hE
  obtain ⟨w0, w1, w2, w3, w4, w5, w6, w7, w8, w9, w10, w11, w12, w13, w14, w15, -⟩ := id w
  simp only [mcell] at w0
  intro r
  induction r with
  | zero =>
    intro j hj hS
    refine gs_n 5 a_X5_stable_4 rfl ?_
    refine gs_n 6 a_X5_stable_5 rfl ?_
    refine gs_get 9 a_X5_stable_6 f_5_106 (by first | assumption | exact hs_same _ _ _ | exact (hs_ne _ _ (by first | assumption | decide | omega)).trans (by first | assumption | exact hs_same _ _ _ | exact (hs_ne _ _ (by first | assumption | decide | omega)).trans (by first | assumption | exact hs_same _ _ _ | exact (hs_ne _ _ (by first | assumption | decide | omega)).trans (by first | assumption | exact hs_same _ _ _ | exact (hs_ne _ _ (by first | assumption | decide | omega)).trans (by first | assumption | exact hs_same _ _ _))))) rfl rfl ?_
    refine gs_ic 60 12 a_X5_stable_9 rfl rfl (fun c => ?_) (fun c => ?_)
    · rw [List.take_of_length_le (show X.length ≤ j by omega), Nat.sub_self] at hS
      rw [List.take_of_length_le (show X.length ≤ j by omega), ← hS]
      refine gs_n 61 a_X5_stable_60 rfl ?_
      refine gs_iret a_X5_stable_61 rfl rfl ?_
      rfl
    · exact absurd (nI_le (by omega) (by omega)) c
  | succ r ih =>
    intro j hj hS
    have hjl : j < X.length := by omega
    obtain ⟨g0, g1, -⟩ := ha j hjl
    have hokj := hok _ (getD_mem hjl)
    refine gs_n 5 a_X5_stable_4 rfl ?_
    refine gs_n 6 a_X5_stable_5 rfl ?_
    refine gs_get 9 a_X5_stable_6 f_5_106 (by first | assumption | exact hs_same _ _ _ | exact (hs_ne _ _ (by first | assumption | decide | omega)).trans (by first | assumption | exact hs_same _ _ _ | exact (hs_ne _ _ (by first | assumption | decide | omega)).trans (by first | assumption | exact hs_same _ _ _ | exact (hs_ne _ _ (by first | assumption | decide | omega)).trans (by first | assumption | exact hs_same _ _ _ | exact (hs_ne _ _ (by first | assumption | decide | omega)).trans (by first | assumption | exact hs_same _ _ _))))) rfl rfl ?_
    refine gs_ic 60 12 a_X5_stable_9 rfl rfl (fun c => ?_) (fun c => ?_)
    · exact absurd c (nI_ge (by omega) (by omega))
    · refine gs_n 13 a_X5_stable_12 rfl ?_
      refine gs_get 16 a_X5_stable_13 f_5_9 (by first | assumption | exact hs_same _ _ _ | exact (hs_ne _ _ (by first | assumption | decide | omega)).trans (by first | assumption | exact hs_same _ _ _ | exact (hs_ne _ _ (by first | assumption | decide | omega)).trans (by first | assumption | exact hs_same _ _ _ | exact (hs_ne _ _ (by first | assumption | decide | omega)).trans (by first | assumption | exact hs_same _ _ _ | exact (hs_ne _ _ (by first | assumption | decide | omega)).trans (by first | assumption | exact hs_same _ _ _))))) rfl rfl ?_
      refine gs_n 17 a_X5_stable_16 rfl ?_
      refine gs_ia j 18 a_X5_stable_17 (by first | assumption | exact hs_same _ _ _ | exact (hs_ne _ _ (by first | assumption | decide | omega)).trans (by first | assumption | exact hs_same _ _ _ | exact (hs_ne _ _ (by first | assumption | decide | omega)).trans (by first | assumption | exact hs_same _ _ _ | exact (hs_ne _ _ (by first | assumption | decide | omega)).trans (by first | assumption | exact hs_same _ _ _ | exact (hs_ne _ _ (by first | assumption | decide | omega)).trans (by first | assumption | exact hs_same _ _ _))))) rfl (by omega) (by omega) rfl ?_
      rw [g0]
      refine gs_n 19 a_X5_stable_18 rfl ?_
      refine gs_ic 25 22 a_X5_stable_19 rfl rfl (fun c2 => ?_) (fun c2 => ?_)
      · have c2 : nI (eF (X.getD j en0)) = nI p := c2
        rw [nI_eq (by have := hokj.1; omega) (by omega)] at c2
        have ho := fl_lt hjl c2
        have hget := fl_getD hjl c2
        have hfp := fl_tk (p := p) hjl
        rw [if_pos c2] at hfp
        have hlp : (fl p (X.take (j + 1))).length = (fl p (X.take j)).length + 1 := by rw [hfp, List.length_append]; rfl
        obtain ⟨m, hm⟩ : ∃ m, (fl p X).length - (fl p (X.take j)).length = m + 1 := ⟨(fl p X).length - (fl p (X.take j)).length - 1, by omega⟩
        have hidx : (fl p X).length - (m + 1) = (fl p (X.take j)).length := by omega
        rw [hm] at hS
        unfold stbAt at hS
        rw [hidx, hget] at hS
        have go : ¬ (eK (X.getD j en0) = 1 ∧ fateFrom ((fl p X).drop (fl p (X.take j)).length) (eY (X.getD j en0)) = none) → gs none d mD_X5_stable (51, [(3, .int (nI j)), (2, .int (nI (fl p (X.take j)).length)), (0, .ref 96), (1, .int (nI p))], [], h) (fun u => u = (some (.int (nI (stb (fl p X)))), h)) := by
          intro hn
          rw [if_neg hn] at hS
          first | refine gs_inc _ 54 a_X5_stable_51 rfl (Nat.le_of_ble_eq_true rfl) rfl ?_ | refine gs_n 54 a_X5_stable_51 rfl ?_
          first | refine gs_inc _ 57 a_X5_stable_54 rfl (Nat.le_of_ble_eq_true rfl) rfl ?_ | refine gs_n 57 a_X5_stable_54 rfl ?_
          refine gs_n 4 a_X5_stable_57 rfl ?_
          refine gs_w [(3, .int (nI (j + 1))), (2, .int (nI ((fl p (X.take j)).length + 1))), (0, .ref 96), (1, .int (nI p))] (by simp [ix_nd]) (by intro x hx; simp only [List.mem_cons, List.not_mem_nil, or_false] at hx; rcases hx with rfl | rfl | rfl | rfl <;> rfl) ?_
          rw [← hlp]
          refine ih (j + 1) (by omega) ?_
          rw [show (fl p X).length - (fl p (X.take (j + 1))).length = m by omega]
          exact hS
        refine gs_n 26 a_X5_stable_25 rfl ?_
        refine gs_get 29 a_X5_stable_26 f_5_13 (by first | assumption | exact hs_same _ _ _ | exact (hs_ne _ _ (by first | assumption | decide | omega)).trans (by first | assumption | exact hs_same _ _ _ | exact (hs_ne _ _ (by first | assumption | decide | omega)).trans (by first | assumption | exact hs_same _ _ _ | exact (hs_ne _ _ (by first | assumption | decide | omega)).trans (by first | assumption | exact hs_same _ _ _ | exact (hs_ne _ _ (by first | assumption | decide | omega)).trans (by first | assumption | exact hs_same _ _ _))))) rfl rfl ?_
        refine gs_n 30 a_X5_stable_29 rfl ?_
        refine gs_ia j 31 a_X5_stable_30 (by first | assumption | exact hs_same _ _ _ | exact (hs_ne _ _ (by first | assumption | decide | omega)).trans (by first | assumption | exact hs_same _ _ _ | exact (hs_ne _ _ (by first | assumption | decide | omega)).trans (by first | assumption | exact hs_same _ _ _ | exact (hs_ne _ _ (by first | assumption | decide | omega)).trans (by first | assumption | exact hs_same _ _ _ | exact (hs_ne _ _ (by first | assumption | decide | omega)).trans (by first | assumption | exact hs_same _ _ _))))) rfl (by omega) (by omega) rfl ?_
        rw [g1]
        refine gs_k (nI 1) 32 a_X5_stable_31 (by decide +kernel) rfl ?_
        refine gs_ic 51 35 a_X5_stable_32 rfl rfl (fun c3 => ?_) (fun c3 => ?_)
        · have c3 : ¬ nI (eK (X.getD j en0)) = nI 1 := c3
          rw [nI_eq (by have := hokj.2.1; omega) (by omega)] at c3
          exact go (fun q => c3 q.1)
        · have c3 : nI (eK (X.getD j en0)) = nI 1 := Classical.byContradiction c3
          rw [nI_eq (by have := hokj.2.1; omega) (by omega)] at c3
          obtain ⟨t, v, q1, q2, q3, q4, q5⟩ := hL j hjl c2 c3
          refine gs_n 36 a_X5_stable_35 rfl ?_
          refine gs_get 39 a_X5_stable_36 f_5_55 (by first | assumption | exact hs_same _ _ _ | exact (hs_ne _ _ (by first | assumption | decide | omega)).trans (by first | assumption | exact hs_same _ _ _ | exact (hs_ne _ _ (by first | assumption | decide | omega)).trans (by first | assumption | exact hs_same _ _ _ | exact (hs_ne _ _ (by first | assumption | decide | omega)).trans (by first | assumption | exact hs_same _ _ _ | exact (hs_ne _ _ (by first | assumption | decide | omega)).trans (by first | assumption | exact hs_same _ _ _))))) rfl rfl ?_
          refine gs_n 40 a_X5_stable_39 rfl ?_
          refine gs_get 43 a_X5_stable_40 f_5_28 (by first | assumption | exact hs_same _ _ _ | exact (hs_ne _ _ (by first | assumption | decide | omega)).trans (by first | assumption | exact hs_same _ _ _ | exact (hs_ne _ _ (by first | assumption | decide | omega)).trans (by first | assumption | exact hs_same _ _ _ | exact (hs_ne _ _ (by first | assumption | decide | omega)).trans (by first | assumption | exact hs_same _ _ _ | exact (hs_ne _ _ (by first | assumption | decide | omega)).trans (by first | assumption | exact hs_same _ _ _))))) rfl rfl ?_
          refine gs_n 44 a_X5_stable_43 rfl ?_
          refine gs_ia j 45 a_X5_stable_44 (by first | assumption | exact hs_same _ _ _ | exact (hs_ne _ _ (by first | assumption | decide | omega)).trans (by first | assumption | exact hs_same _ _ _ | exact (hs_ne _ _ (by first | assumption | decide | omega)).trans (by first | assumption | exact hs_same _ _ _ | exact (hs_ne _ _ (by first | assumption | decide | omega)).trans (by first | assumption | exact hs_same _ _ _ | exact (hs_ne _ _ (by first | assumption | decide | omega)).trans (by first | assumption | exact hs_same _ _ _))))) rfl (by omega) (by omega) rfl ?_
          rw [q1]
          refine gs_ia t 46 a_X5_stable_45 (by first | assumption | exact hs_same _ _ _ | exact (hs_ne _ _ (by first | assumption | decide | omega)).trans (by first | assumption | exact hs_same _ _ _ | exact (hs_ne _ _ (by first | assumption | decide | omega)).trans (by first | assumption | exact hs_same _ _ _ | exact (hs_ne _ _ (by first | assumption | decide | omega)).trans (by first | assumption | exact hs_same _ _ _ | exact (hs_ne _ _ (by first | assumption | decide | omega)).trans (by first | assumption | exact hs_same _ _ _))))) rfl (by omega) (by omega) rfl ?_
          rw [q3]
          refine gs_if 51 49 a_X5_stable_46 rfl rfl (fun c4 => ?_) (fun c4 => ?_)
          · have c4 : ¬ nI v = nI 0 := c4
            rw [nI_eq (by omega) (by omega)] at c4
            exact go (fun q => by rw [q5, if_neg c4] at q; exact absurd q.2 (by simp))
          · have c4 : nI v = nI 0 := Classical.byContradiction c4
            rw [nI_eq (by omega) (by omega)] at c4
            rw [if_pos ⟨c3, by rw [q5, if_pos c4]⟩] at hS
            refine gs_n 50 a_X5_stable_49 rfl ?_
            refine gs_iret a_X5_stable_50 rfl rfl ?_
            rw [hS]
      · have c2 : ¬ nI (eF (X.getD j en0)) = nI p := c2
        rw [nI_eq (by have := hokj.1; omega) (by omega)] at c2
        have hfp := fl_tk (p := p) hjl
        rw [if_neg c2] at hfp
        refine gs_n 54 a_X5_stable_22 rfl ?_
        first | refine gs_inc _ 57 a_X5_stable_54 rfl (Nat.le_of_ble_eq_true rfl) rfl ?_ | refine gs_n 57 a_X5_stable_54 rfl ?_
        refine gs_n 4 a_X5_stable_57 rfl ?_
        refine gs_w [(3, .int (nI (j + 1))), (2, .int (nI (fl p (X.take j)).length)), (0, .ref 96), (1, .int (nI p))] (by simp [ix_nd]) (by intro x hx; simp only [List.mem_cons, List.not_mem_nil, or_false] at hx; rcases hx with rfl | rfl | rfl | rfl <;> rfl) ?_
        rw [← hfp]
        exact ih (j + 1) (by omega) (by rw [hfp]; exact hS)
theorem m_stable {p : Nat} (hp : p ≤ 8) (hE : EA P ar X) (hL : LKp X p ar) (w : MW h (P, a1, a2, a3, a4, a5, X.length, a7, a8, a9, a10, a11, a12) ar) : ev (d + 1) n_X5_stable [.ref 96, .int (nI p)] h (fun u => u = (some (.int (nI (stb (fl p X)))), h)) := by
  refine ev_of q_X5_stable (Nat.le_of_ble_eq_true rfl) ?_
  refine gs_k (nI 0) 1 a_X5_stable_0 (by decide +kernel) rfl ?_
  refine gs_n 2 a_X5_stable_1 rfl ?_
  refine gs_k (nI 0) 3 a_X5_stable_2 (by decide +kernel) rfl ?_
  refine gs_n 4 a_X5_stable_3 rfl ?_
  refine gs_w [(3, .int (nI 0)), (2, .int (nI (fl p (X.take 0)).length)), (0, .ref 96), (1, .int (nI p))] (by simp [ix_nd]) (by intro x hx; simp only [List.mem_cons, List.not_mem_nil, or_false] at hx; rcases hx with rfl | rfl | rfl | rfl <;> rfl) ?_
  exact l_rstable hp hE hL w X.length 0 (by omega) rfl
/-- whether a fetch sees offset o -/
def seeS (L : List En) (c : Bool) (s o : Nat) : Bool := decide (eK (L.getD o en0) ≤ 1) && (!c || (decide (o < s) && comAt L o))
theorem m_isSeen {p j s : Nat} (c : Bool) (hs : s < 2 ^ 31) (hj : j < X.length) (hf : eF (X.getD j en0) = p) (hE : EA P ar X) (hL : LKp X p ar) (w : MW h (P, a1, a2, a3, a4, a5, X.length, a7, a8, a9, a10, a11, a12) ar) : ev (d + 1) n_X5_isSeen [.ref 96, .int (nI j), .int (b01 c), .int (nI (fl p (X.take j)).length), .int (nI s)] h (fun u => u = (some (.int (b01 (seeS (fl p X) c s (fl p (X.take j)).length))), h)) := by
  have ho := fl_lt hj hf
  have hget := fl_getD hj hf
  have hfle := fl_le p X
  obtain ⟨hl, hok, ha⟩ := hE
  obtain ⟨w0, w1, w2, w3, w4, w5, w6, w7, w8, w9, w10, w11, w12, w13, w14, w15, -⟩ := id w
  simp only [mcell] at w0
  obtain ⟨g0, g1, -⟩ := ha j hj
  have hokj := hok _ (getD_mem hj)
  have hcom : comAt (fl p X) (fl p (X.take j)).length = (decide (eK (X.getD j en0) = 0) || (decide (eK (X.getD j en0) = 1) && decide (fateFrom ((fl p X).drop (fl p (X.take j)).length) (eY (X.getD j en0)) = some 2))) := by
    unfold comAt
    rw [hget]
  unfold seeS
  rw [hget, hcom]
  refine ev_of q_X5_isSeen (Nat.le_of_ble_eq_true rfl) ?_
  refine gs_n 1 a_X5_isSeen_0 rfl ?_
  refine gs_get 4 a_X5_isSeen_1 f_5_13 (by first | assumption | exact hs_same _ _ _ | exact (hs_ne _ _ (by first | assumption | decide | omega)).trans (by first | assumption | exact hs_same _ _ _ | exact (hs_ne _ _ (by first | assumption | decide | omega)).trans (by first | assumption | exact hs_same _ _ _ | exact (hs_ne _ _ (by first | assumption | decide | omega)).trans (by first | assumption | exact hs_same _ _ _ | exact (hs_ne _ _ (by first | assumption | decide | omega)).trans (by first | assumption | exact hs_same _ _ _))))) rfl rfl ?_
  refine gs_n 5 a_X5_isSeen_4 rfl ?_
  refine gs_ia j 6 a_X5_isSeen_5 (by first | assumption | exact hs_same _ _ _ | exact (hs_ne _ _ (by first | assumption | decide | omega)).trans (by first | assumption | exact hs_same _ _ _ | exact (hs_ne _ _ (by first | assumption | decide | omega)).trans (by first | assumption | exact hs_same _ _ _ | exact (hs_ne _ _ (by first | assumption | decide | omega)).trans (by first | assumption | exact hs_same _ _ _ | exact (hs_ne _ _ (by first | assumption | decide | omega)).trans (by first | assumption | exact hs_same _ _ _))))) rfl (by omega) (by omega) rfl ?_
  rw [g1]
  refine gs_k (nI 1) 7 a_X5_isSeen_6 (by decide +kernel) rfl ?_
  refine gs_ic 12 10 a_X5_isSeen_7 rfl rfl (fun c7 => ?_) (fun c7 => ?_)
  · have c7 : nI (eK (X.getD j en0)) ≤ nI 1 := c7
    rw [le_lit (by omega), nI_toInt (by have := hokj.2.1; omega)] at c7
    rw [decide_eq_true (show eK (X.getD j en0) ≤ 1 by omega), Bool.true_and]
    refine gs_n 13 a_X5_isSeen_12 rfl ?_
    refine gs_if 46 16 a_X5_isSeen_13 rfl rfl (fun c13 => ?_) (fun c13 => ?_)
    · have c13 := (b01_0 _).mp c13
      subst c13
      refine gs_k (nI 1) 47 a_X5_isSeen_46 (by decide +kernel) rfl ?_
      refine gs_n 51 a_X5_isSeen_47 rfl ?_
      refine gs_iret a_X5_isSeen_51 rfl rfl ?_
      rfl
    · have c13 := (b01_ne _).mp c13
      subst c13
      refine gs_n 17 a_X5_isSeen_16 rfl ?_
      refine gs_n 19 a_X5_isSeen_17 rfl ?_
      refine gs_ic 50 22 a_X5_isSeen_19 rfl rfl (fun c19 => ?_) (fun c19 => ?_)
      · have c19 : nI s ≤ nI (fl p (X.take j)).length := c19
        rw [nI_leI (by omega) (by omega)] at c19
        rw [decide_eq_false (by omega)]
        refine gs_k (nI 0) 51 a_X5_isSeen_50 (by decide +kernel) rfl ?_
        refine gs_iret a_X5_isSeen_51 rfl rfl ?_
        rfl
      · have c19 : ¬ nI s ≤ nI (fl p (X.take j)).length := c19
        rw [nI_leI (by omega) (by omega)] at c19
        rw [decide_eq_true (show (fl p (X.take j)).length < s by omega)]
        refine gs_n 23 a_X5_isSeen_22 rfl ?_
        refine gs_get 26 a_X5_isSeen_23 f_5_13 (by first | assumption | exact hs_same _ _ _ | exact (hs_ne _ _ (by first | assumption | decide | omega)).trans (by first | assumption | exact hs_same _ _ _ | exact (hs_ne _ _ (by first | assumption | decide | omega)).trans (by first | assumption | exact hs_same _ _ _ | exact (hs_ne _ _ (by first | assumption | decide | omega)).trans (by first | assumption | exact hs_same _ _ _ | exact (hs_ne _ _ (by first | assumption | decide | omega)).trans (by first | assumption | exact hs_same _ _ _))))) rfl rfl ?_
        refine gs_n 27 a_X5_isSeen_26 rfl ?_
        refine gs_ia j 28 a_X5_isSeen_27 (by first | assumption | exact hs_same _ _ _ | exact (hs_ne _ _ (by first | assumption | decide | omega)).trans (by first | assumption | exact hs_same _ _ _ | exact (hs_ne _ _ (by first | assumption | decide | omega)).trans (by first | assumption | exact hs_same _ _ _ | exact (hs_ne _ _ (by first | assumption | decide | omega)).trans (by first | assumption | exact hs_same _ _ _ | exact (hs_ne _ _ (by first | assumption | decide | omega)).trans (by first | assumption | exact hs_same _ _ _))))) rfl (by omega) (by omega) rfl ?_
        rw [g1]
        refine gs_if 46 31 a_X5_isSeen_28 rfl rfl (fun c28 => ?_) (fun c28 => ?_)
        · have c28 : nI (eK (X.getD j en0)) = nI 0 := c28
          rw [nI_eq (by have := hokj.2.1; omega) (by omega)] at c28
          rw [decide_eq_true c28]
          refine gs_k (nI 1) 47 a_X5_isSeen_46 (by decide +kernel) rfl ?_
          refine gs_n 51 a_X5_isSeen_47 rfl ?_
          refine gs_iret a_X5_isSeen_51 rfl rfl ?_
          rfl
        · have c28 : ¬ nI (eK (X.getD j en0)) = nI 0 := c28
          rw [nI_eq (by have := hokj.2.1; omega) (by omega)] at c28
          have hK1 : eK (X.getD j en0) = 1 := by omega
          rw [decide_eq_false c28, decide_eq_true hK1]
          obtain ⟨t, v, q1, q2, q3, q4, q5⟩ := hL j hj hf hK1
          rw [q5]
          refine gs_n 32 a_X5_isSeen_31 rfl ?_
          refine gs_get 35 a_X5_isSeen_32 f_5_55 (by first | assumption | exact hs_same _ _ _ | exact (hs_ne _ _ (by first | assumption | decide | omega)).trans (by first | assumption | exact hs_same _ _ _ | exact (hs_ne _ _ (by first | assumption | decide | omega)).trans (by first | assumption | exact hs_same _ _ _ | exact (hs_ne _ _ (by first | assumption | decide | omega)).trans (by first | assumption | exact hs_same _ _ _ | exact (hs_ne _ _ (by first | assumption | decide | omega)).trans (by first | assumption | exact hs_same _ _ _))))) rfl rfl ?_
          refine gs_n 36 a_X5_isSeen_35 rfl ?_
          refine gs_get 39 a_X5_isSeen_36 f_5_28 (by first | assumption | exact hs_same _ _ _ | exact (hs_ne _ _ (by first | assumption | decide | omega)).trans (by first | assumption | exact hs_same _ _ _ | exact (hs_ne _ _ (by first | assumption | decide | omega)).trans (by first | assumption | exact hs_same _ _ _ | exact (hs_ne _ _ (by first | assumption | decide | omega)).trans (by first | assumption | exact hs_same _ _ _ | exact (hs_ne _ _ (by first | assumption | decide | omega)).trans (by first | assumption | exact hs_same _ _ _))))) rfl rfl ?_
          refine gs_n 40 a_X5_isSeen_39 rfl ?_
          refine gs_ia j 41 a_X5_isSeen_40 (by first | assumption | exact hs_same _ _ _ | exact (hs_ne _ _ (by first | assumption | decide | omega)).trans (by first | assumption | exact hs_same _ _ _ | exact (hs_ne _ _ (by first | assumption | decide | omega)).trans (by first | assumption | exact hs_same _ _ _ | exact (hs_ne _ _ (by first | assumption | decide | omega)).trans (by first | assumption | exact hs_same _ _ _ | exact (hs_ne _ _ (by first | assumption | decide | omega)).trans (by first | assumption | exact hs_same _ _ _))))) rfl (by omega) (by omega) rfl ?_
          rw [q1]
          refine gs_ia t 42 a_X5_isSeen_41 (by first | assumption | exact hs_same _ _ _ | exact (hs_ne _ _ (by first | assumption | decide | omega)).trans (by first | assumption | exact hs_same _ _ _ | exact (hs_ne _ _ (by first | assumption | decide | omega)).trans (by first | assumption | exact hs_same _ _ _ | exact (hs_ne _ _ (by first | assumption | decide | omega)).trans (by first | assumption | exact hs_same _ _ _ | exact (hs_ne _ _ (by first | assumption | decide | omega)).trans (by first | assumption | exact hs_same _ _ _))))) rfl (by omega) (by omega) rfl ?_
          rw [q3]
          refine gs_k (nI 1) 43 a_X5_isSeen_42 (by decide +kernel) rfl ?_
          refine gs_ic 50 46 a_X5_isSeen_43 rfl rfl (fun c43 => ?_) (fun c43 => ?_)
          · have c43 : ¬ nI v = nI 1 := c43
            rw [nI_eq (by omega) (by omega)] at c43
            refine gs_k (nI 0) 51 a_X5_isSeen_50 (by decide +kernel) rfl ?_
            refine gs_iret a_X5_isSeen_51 rfl rfl ?_
            rw [decide_eq_false (by split <;> simp; omega)]
            rfl
          · have c43 : nI v = nI 1 := Classical.byContradiction c43
            rw [nI_eq (by omega) (by omega)] at c43
            subst c43
            refine gs_k (nI 1) 47 a_X5_isSeen_46 (by decide +kernel) rfl ?_
            refine gs_n 51 a_X5_isSeen_47 rfl ?_
            refine gs_iret a_X5_isSeen_51 rfl rfl ?_
            rfl
  · have c7 : ¬ nI (eK (X.getD j en0)) ≤ nI 1 := c7
    rw [le_lit (by omega), nI_toInt (by have := hokj.2.1; omega)] at c7
    rw [decide_eq_false (show ¬ eK (X.getD j en0) ≤ 1 by omega)]
    refine gs_k (nI 0) 11 a_X5_isSeen_10 (by decide +kernel) rfl ?_
    refine gs_iret a_X5_isSeen_11 rfl rfl ?_
    rfl
theorem com_le {L : List En} {o : Nat} (hc : comAt L o = true) : eK (L.getD o en0) ≤ 1 := by
  rw [comAt_eq] at hc
  omega
theorem seeS_t (L : List En) (s o : Nat) : seeS L true s o = (decide (o < s) && comAt L o) := by
  unfold seeS
  cases hc : comAt L o with
  | true => rw [decide_eq_true (com_le hc)]; simp
  | false => simp
theorem l_seenOf {p : Nat} (hp : p ≤ 8) (hE : EA P ar X) (hL : LKp X p ar) (w : MW h (P, a1, a2, a3, a4, a5, X.length, a7, a8, a9, a10, a11, a12) ar) : ∀ (r j : Nat), j + r = X.length →
    gs none (d + 1) mD_X5_seenOf (14, [(5, .int (nI j)), (4, .int (nI (cntC (fl p X) (min (fl p (X.take j)).length (stb (fl p X)))))), (3, .int (nI (fl p (X.take j)).length)), (2, .int (nI (stb (fl p X)))), (0, .ref 96), (1, .int (nI p))], [], h) (fun u => u = (some (.int (nI (cntC (fl p X) (stb (fl p X))))), h)) := by
  have hE0 := hE
  have hsl := stb_le (fl p X)
  have hfle := fl_le p X
  obtain ⟨hl, hok, ha⟩ := hE
  obtain ⟨w0, w1, -⟩ := id w
  simp only [mcell] at w0
  intro r
  induction r with
  | zero =>
    intro j hj
    refine gs_n 16 a_X5_seenOf_14 rfl ?_
    refine gs_n 17 a_X5_seenOf_16 rfl ?_
    refine gs_get 20 a_X5_seenOf_17 f_5_106 (by first | assumption | exact hs_same _ _ _ | exact (hs_ne _ _ (by first | assumption | decide | omega)).trans (by first | assumption | exact hs_same _ _ _ | exact (hs_ne _ _ (by first | assumption | decide | omega)).trans (by first | assumption | exact hs_same _ _ _ | exact (hs_ne _ _ (by first | assumption | decide | omega)).trans (by first | assumption | exact hs_same _ _ _ | exact (hs_ne _ _ (by first | assumption | decide | omega)).trans (by first | assumption | exact hs_same _ _ _))))) rfl rfl ?_
    refine gs_ic 65 23 a_X5_seenOf_20 rfl rfl (fun c => ?_) (fun c => ?_)
    · rw [List.take_of_length_le (show X.length ≤ j by omega), Nat.min_eq_right hsl]
      refine gs_n 67 a_X5_seenOf_65 rfl ?_
      refine gs_iret a_X5_seenOf_67 rfl rfl ?_
      rfl
    · exact absurd (nI_le (by omega) (by omega)) c
  | succ r ih =>
    intro j hj
    have hjl : j < X.length := by omega
    obtain ⟨g0, g1, -⟩ := ha j hjl
    have hokj := hok _ (getD_mem hjl)
    refine gs_n 16 a_X5_seenOf_14 rfl ?_
    refine gs_n 17 a_X5_seenOf_16 rfl ?_
    refine gs_get 20 a_X5_seenOf_17 f_5_106 (by first | assumption | exact hs_same _ _ _ | exact (hs_ne _ _ (by first | assumption | decide | omega)).trans (by first | assumption | exact hs_same _ _ _ | exact (hs_ne _ _ (by first | assumption | decide | omega)).trans (by first | assumption | exact hs_same _ _ _ | exact (hs_ne _ _ (by first | assumption | decide | omega)).trans (by first | assumption | exact hs_same _ _ _ | exact (hs_ne _ _ (by first | assumption | decide | omega)).trans (by first | assumption | exact hs_same _ _ _))))) rfl rfl ?_
    refine gs_ic 65 23 a_X5_seenOf_20 rfl rfl (fun c => ?_) (fun c => ?_)
    · exact absurd c (nI_ge (by omega) (by omega))
    · refine gs_n 24 a_X5_seenOf_23 rfl ?_
      refine gs_get 27 a_X5_seenOf_24 f_5_9 (by first | assumption | exact hs_same _ _ _ | exact (hs_ne _ _ (by first | assumption | decide | omega)).trans (by first | assumption | exact hs_same _ _ _ | exact (hs_ne _ _ (by first | assumption | decide | omega)).trans (by first | assumption | exact hs_same _ _ _ | exact (hs_ne _ _ (by first | assumption | decide | omega)).trans (by first | assumption | exact hs_same _ _ _ | exact (hs_ne _ _ (by first | assumption | decide | omega)).trans (by first | assumption | exact hs_same _ _ _))))) rfl rfl ?_
      refine gs_n 29 a_X5_seenOf_27 rfl ?_
      refine gs_ia j 30 a_X5_seenOf_29 (by first | assumption | exact hs_same _ _ _ | exact (hs_ne _ _ (by first | assumption | decide | omega)).trans (by first | assumption | exact hs_same _ _ _ | exact (hs_ne _ _ (by first | assumption | decide | omega)).trans (by first | assumption | exact hs_same _ _ _ | exact (hs_ne _ _ (by first | assumption | decide | omega)).trans (by first | assumption | exact hs_same _ _ _ | exact (hs_ne _ _ (by first | assumption | decide | omega)).trans (by first | assumption | exact hs_same _ _ _))))) rfl (by omega) (by omega) rfl ?_
      rw [g0]
      refine gs_n 31 a_X5_seenOf_30 rfl ?_
      refine gs_ic 59 34 a_X5_seenOf_31 rfl rfl (fun c2 => ?_) (fun c2 => ?_)
      · have c2 : ¬ nI (eF (X.getD j en0)) = nI p := c2
        rw [nI_eq (by have := hokj.1; omega) (by omega)] at c2
        have hfp := fl_tk (p := p) hjl
        rw [if_neg c2] at hfp
        first | refine gs_inc _ 62 a_X5_seenOf_59 rfl (Nat.le_of_ble_eq_true rfl) rfl ?_ | refine gs_n 62 a_X5_seenOf_59 rfl ?_
        refine gs_n 14 a_X5_seenOf_62 rfl ?_
        refine gs_w [(5, .int (nI (j + 1))), (4, .int (nI (cntC (fl p X) (min (fl p (X.take j)).length (stb (fl p X)))))), (3, .int (nI (fl p (X.take j)).length)), (2, .int (nI (stb (fl p X)))), (0, .ref 96), (1, .int (nI p))] (by simp [ix_nd]) (by intro x hx; simp only [List.mem_cons, List.not_mem_nil, or_false] at hx; rcases hx with rfl | rfl | rfl | rfl | rfl | rfl <;> rfl) ?_
        rw [← hfp]
        exact ih (j + 1) (by omega)
      · have c2 : nI (eF (X.getD j en0)) = nI p := Classical.byContradiction c2
        rw [nI_eq (by have := hokj.1; omega) (by omega)] at c2
        have ho := fl_lt hjl c2
        have hfp := fl_tk (p := p) hjl
        rw [if_pos c2] at hfp
        have hlp : (fl p (X.take (j + 1))).length = (fl p (X.take j)).length + 1 := by rw [hfp, List.length_append]; rfl
        have hcl := cntC_le (fl p X) (min (fl p (X.take j)).length (stb (fl p X)))
        have hmn := Nat.min_le_left (fl p (X.take j)).length (stb (fl p X))
        have fin : ∀ t, t = (if seeS (fl p X) true (stb (fl p X)) (fl p (X.take j)).length then 1 else 0) → gs none (d + 1) mD_X5_seenOf (53, [(5, .int (nI j)), (4, .int (nI (cntC (fl p X) (min (fl p (X.take j)).length (stb (fl p X)))))), (3, .int (nI (fl p (X.take j)).length)), (2, .int (nI (stb (fl p X)))), (0, .ref 96), (1, .int (nI p))], [.int (nI t), .int (nI (cntC (fl p X) (min (fl p (X.take j)).length (stb (fl p X)))))], h) (fun u => u = (some (.int (nI (cntC (fl p X) (stb (fl p X))))), h)) := by
          intro t ht
          refine gs_n 54 a_X5_seenOf_53 rfl ?_
          refine gs_n 56 a_X5_seenOf_54 rfl ?_
          first | refine gs_inc _ 59 a_X5_seenOf_56 rfl (Nat.le_of_ble_eq_true rfl) rfl ?_ | refine gs_n 59 a_X5_seenOf_56 rfl ?_
          first | refine gs_inc _ 62 a_X5_seenOf_59 rfl (Nat.le_of_ble_eq_true rfl) rfl ?_ | refine gs_n 62 a_X5_seenOf_59 rfl ?_
          refine gs_n 14 a_X5_seenOf_62 rfl ?_
          refine gs_w [(5, .int (nI (j + 1))), (4, .int (nI (cntC (fl p X) (min (fl p (X.take j)).length (stb (fl p X)))) + nI t)), (3, .int (nI ((fl p (X.take j)).length + 1))), (2, .int (nI (stb (fl p X)))), (0, .ref 96), (1, .int (nI p))] (by simp [ix_nd]) (by intro x hx; simp only [List.mem_cons, List.not_mem_nil, or_false] at hx; rcases hx with rfl | rfl | rfl | rfl | rfl | rfl <;> rfl) ?_
          rw [nI_add, ← hlp]
          rw [show cntC (fl p X) (min (fl p (X.take j)).length (stb (fl p X))) + t = cntC (fl p X) (min (fl p (X.take (j + 1))).length (stb (fl p X))) by
            rw [ht, seeS_t, hlp]
            by_cases z : (fl p (X.take j)).length < stb (fl p X)
            · rw [Nat.min_eq_left (by omega), Nat.min_eq_left (by omega), decide_eq_true z, Bool.true_and]
              rfl
            · rw [Nat.min_eq_right (by omega), Nat.min_eq_right (by omega), decide_eq_false z, Bool.false_and]
              rfl]
          exact ih (j + 1) (by omega)
        refine gs_n 36 a_X5_seenOf_34 rfl ?_
        refine gs_n 37 a_X5_seenOf_36 rfl ?_
        refine gs_n 39 a_X5_seenOf_37 rfl ?_
        refine gs_k (nI 1) 40 a_X5_seenOf_39 (by decide +kernel) rfl ?_
        refine gs_n 41 a_X5_seenOf_40 rfl ?_
        refine gs_n 42 a_X5_seenOf_41 rfl ?_
        refine gs_cv 45 a_X5_seenOf_42 k_5_195 q_X5_isSeen (m_isSeen (s := stb (fl p X)) true (by omega) hjl c2 hE0 hL w) rfl rfl rfl (by simp [Value.category]) (by first | assumption | exact hs_same _ _ _ | exact (hs_ne _ _ (by first | assumption | decide | omega)).trans (by first | assumption | exact hs_same _ _ _ | exact (hs_ne _ _ (by first | assumption | decide | omega)).trans (by first | assumption | exact hs_same _ _ _ | exact (hs_ne _ _ (by first | assumption | decide | omega)).trans (by first | assumption | exact hs_same _ _ _ | exact (hs_ne _ _ (by first | assumption | decide | omega)).trans (by first | assumption | exact hs_same _ _ _))))) rfl (fun v h1 hp => ?_)
        cases hp
        refine gs_if 52 48 a_X5_seenOf_45 rfl rfl (fun c45 => ?_) (fun c45 => ?_)
        · have c45 := (b01_0 _).mp c45
          refine gs_k (nI 0) 53 a_X5_seenOf_52 (by decide +kernel) rfl ?_
          exact fin 0 (by rw [c45]; rfl)
        · have c45 := (b01_ne _).mp c45
          refine gs_k (nI 1) 49 a_X5_seenOf_48 (by decide +kernel) rfl ?_
          refine gs_n 53 a_X5_seenOf_49 rfl ?_
          exact fin 1 (by rw [c45]; rfl)
theorem m_seenOf {p : Nat} (hp : p ≤ 8) (hE : EA P ar X) (hL : LKp X p ar) (w : MW h (P, a1, a2, a3, a4, a5, X.length, a7, a8, a9, a10, a11, a12) ar) : ev (d + 2) n_X5_seenOf [.ref 96, .int (nI p)] h (fun u => u = (some (.int (nI (cntC (fl p X) (stb (fl p X))))), h)) := by
  have w0 := w.1
  simp only [mcell] at w0
  refine ev_of q_X5_seenOf (Nat.le_of_ble_eq_true rfl) ?_
  refine gs_n 1 a_X5_seenOf_0 rfl ?_
  refine gs_n 2 a_X5_seenOf_1 rfl ?_
  refine gs_cv 5 a_X5_seenOf_2 k_5_192 q_X5_stable (m_stable hp hE hL w) rfl rfl rfl (by simp [Value.category]) (by first | assumption | exact hs_same _ _ _ | exact (hs_ne _ _ (by first | assumption | decide | omega)).trans (by first | assumption | exact hs_same _ _ _ | exact (hs_ne _ _ (by first | assumption | decide | omega)).trans (by first | assumption | exact hs_same _ _ _ | exact (hs_ne _ _ (by first | assumption | decide | omega)).trans (by first | assumption | exact hs_same _ _ _ | exact (hs_ne _ _ (by first | assumption | decide | omega)).trans (by first | assumption | exact hs_same _ _ _))))) rfl (fun v h1 hp => ?_)
  cases hp
  refine gs_n 6 a_X5_seenOf_5 rfl ?_
  refine gs_k (nI 0) 7 a_X5_seenOf_6 (by decide +kernel) rfl ?_
  refine gs_n 8 a_X5_seenOf_7 rfl ?_
  refine gs_k (nI 0) 9 a_X5_seenOf_8 (by decide +kernel) rfl ?_
  refine gs_n 11 a_X5_seenOf_9 rfl ?_
  refine gs_k (nI 0) 12 a_X5_seenOf_11 (by decide +kernel) rfl ?_
  refine gs_n 14 a_X5_seenOf_12 rfl ?_
  refine gs_w [(5, .int (nI 0)), (4, .int (nI (cntC (fl p X) (min (fl p (X.take 0)).length (stb (fl p X)))))), (3, .int (nI (fl p (X.take 0)).length)), (2, .int (nI (stb (fl p X)))), (0, .ref 96), (1, .int (nI p))] (by simp [ix_nd]) (by intro x hx; simp only [List.mem_cons, List.not_mem_nil, or_false] at hx; rcases hx with rfl | rfl | rfl | rfl | rfl | rfl <;> rfl) ?_
  exact l_seenOf hp hE hL w X.length 0 (by omega)
end R10
