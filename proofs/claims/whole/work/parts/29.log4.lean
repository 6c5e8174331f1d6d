/-! Log: the rest -/
theorem stbAt_le (es : List En) (n : Nat) : ∀ k, stbAt es n k ≤ n := by
  intro k
  induction k with
  | zero => exact Nat.le_refl _
  | succ k ih =>
    unfold stbAt
    split
    · omega
    · exact ih
theorem stb_le (es : List En) : stb es ≤ es.length := stbAt_le _ _ _
/-- how many below k are seen committed -/
def cntC (es : List En) : Nat → Nat
  | 0 => 0
  | k + 1 => cntC es k + (if comAt es k then 1 else 0)
theorem cntC_le (es : List En) (k : Nat) : cntC es k ≤ k := by
  induction k with
  | zero => exact Nat.le_refl _
  | succ k ih =>
    simp only [cntC]
    split <;> omega
theorem l_comE {d : Nat} {h : ix_H} {L n : Nat} {es : List En} {g : Nat → Int32} (hl1 : h.2.2 L = .inr (1, [.ref (L + 1), .ref (L + 3), .ref (L + 4), .ref (L + 5), .int (nI es.length)])) (hc : h.2.2 (L + 4) = .inl (.boolean, 285, .inl g)) (hg : ∀ o, 0 ≤ o → o < es.length → g o = b01 (comAt es o)) (hn : n ≤ es.length) (hlen : es.length ≤ 285) : ∀ (k j : Nat), j + k = n →
    gs none d mD_X1_committedEntries (9, [(3, .int (nI j)), (2, .int (nI (cntC es j))), (1, .int (nI n)), (0, .ref L)], [], h) (fun u => u = (some (.int (nI (cntC es n))), h)) := by
  intro k
  induction k with
  | zero =>
    intro j hj
    obtain rfl : j = n := by omega
    refine gs_n 10 a_X1_committedEntries_9 rfl ?_
    refine gs_n 11 a_X1_committedEntries_10 rfl ?_
    refine gs_ic 37 14 a_X1_committedEntries_11 rfl rfl (fun c => ?_) (fun c => ?_)
    · refine gs_n 38 a_X1_committedEntries_37 rfl ?_
      refine gs_iret a_X1_committedEntries_38 rfl rfl ?_
      rfl
    · exact absurd (nI_le (Nat.le_refl j) (by omega)) c
  | succ k ih =>
    intro j hj
    have hcj := cntC_le es j
    have fin : ∀ t, t = (if comAt es j then 1 else 0) → gs none d mD_X1_committedEntries (29, [(3, .int (nI j)), (2, .int (nI (cntC es j))), (1, .int (nI n)), (0, .ref L)], [.int (nI t), .int (nI (cntC es j))], h) (fun u => u = (some (.int (nI (cntC es n))), h)) := by
      intro t ht
      refine gs_n 30 a_X1_committedEntries_29 rfl ?_
      refine gs_n 31 a_X1_committedEntries_30 rfl ?_
      first | refine gs_inc _ 34 a_X1_committedEntries_31 rfl (Nat.le_of_ble_eq_true rfl) rfl ?_ | refine gs_n 34 a_X1_committedEntries_31 rfl ?_
      refine gs_n 9 a_X1_committedEntries_34 rfl ?_
      refine gs_w [(3, .int (nI (j + 1))), (2, .int (nI (cntC es j) + nI t)), (1, .int (nI n)), (0, .ref L)] (by simp [ix_nd]) (by intro x hx; simp only [List.mem_cons, List.not_mem_nil, or_false] at hx; rcases hx with rfl | rfl | rfl | rfl <;> rfl) ?_
      rw [nI_add, show cntC es j + t = cntC es (j + 1) by simp only [cntC, ht]]
      exact ih (j + 1) (by omega)
    refine gs_n 10 a_X1_committedEntries_9 rfl ?_
    refine gs_n 11 a_X1_committedEntries_10 rfl ?_
    refine gs_ic 37 14 a_X1_committedEntries_11 rfl rfl (fun c => ?_) (fun c => ?_)
    · exact absurd c (nI_ge (by omega) (by omega))
    · refine gs_n 15 a_X1_committedEntries_14 rfl ?_
      refine gs_n 16 a_X1_committedEntries_15 rfl ?_
      refine gs_get 19 a_X1_committedEntries_16 f_1_24 (by first | assumption | exact hs_same _ _ _ | exact (hs_ne _ _ (by first | assumption | decide | omega)).trans (by first | assumption | exact hs_same _ _ _ | exact (hs_ne _ _ (by first | assumption | decide | omega)).trans (by first | assumption | exact hs_same _ _ _ | exact (hs_ne _ _ (by first | assumption | decide | omega)).trans (by first | assumption | exact hs_same _ _ _ | exact (hs_ne _ _ (by first | assumption | decide | omega)).trans (by first | assumption | exact hs_same _ _ _))))) rfl rfl ?_
      refine gs_n 20 a_X1_committedEntries_19 rfl ?_
      refine gs_za j 21 a_X1_committedEntries_20 (by first | assumption | exact hs_same _ _ _ | exact (hs_ne _ _ (by first | assumption | decide | omega)).trans (by first | assumption | exact hs_same _ _ _ | exact (hs_ne _ _ (by first | assumption | decide | omega)).trans (by first | assumption | exact hs_same _ _ _ | exact (hs_ne _ _ (by first | assumption | decide | omega)).trans (by first | assumption | exact hs_same _ _ _ | exact (hs_ne _ _ (by first | assumption | decide | omega)).trans (by first | assumption | exact hs_same _ _ _))))) rfl (by omega) (by omega) rfl ?_
      rw [hg j (by omega) (by omega)]
      refine gs_if 28 24 a_X1_committedEntries_21 rfl rfl (fun c2 => ?_) (fun c2 => ?_)
      · have c2 := (b01_0 _).mp c2
        refine gs_k (nI 0) 29 a_X1_committedEntries_28 (by decide +kernel) rfl ?_
        exact fin 0 (by rw [c2]; rfl)
      · have c2 : comAt es j = true := by
          have : ¬ comAt es j = false := fun z => c2 ((b01_0 _).mpr z)
          simpa using this
        refine gs_k (nI 1) 25 a_X1_committedEntries_24 (by decide +kernel) rfl ?_
        refine gs_n 29 a_X1_committedEntries_25 rfl ?_
        exact fin 1 (by rw [c2]; rfl)
theorem e_comE {d : Nat} {h : ix_H} {L : Nat} {es : List En} {tn : List Nat} (hl : LogAt h L es tn) : ev (d + 4) n_X1_committedEntries [.ref L] h (fun u => u.1 = some (.int (nI (cntC es (stb es)))) ∧ Fr [L + 4, L + 5] h u.2 ∧ LogAt u.2 L es tn) := by
  have hl1 := hl.1
  have hlen := hl.len
  refine ev_of q_X1_committedEntries (Nat.le_of_ble_eq_true rfl) ?_
  refine gs_n 1 a_X1_committedEntries_0 rfl ?_
  refine gs_cv 4 a_X1_committedEntries_1 k_1_91 q_X1_stable (e_stable hl) rfl rfl rfl (by simp [Value.category]) (by first | assumption | exact hs_same _ _ _ | exact (hs_ne _ _ (by first | assumption | decide | omega)).trans (by first | assumption | exact hs_same _ _ _ | exact (hs_ne _ _ (by first | assumption | decide | omega)).trans (by first | assumption | exact hs_same _ _ _ | exact (hs_ne _ _ (by first | assumption | decide | omega)).trans (by first | assumption | exact hs_same _ _ _ | exact (hs_ne _ _ (by first | assumption | decide | omega)).trans (by first | assumption | exact hs_same _ _ _))))) rfl (fun v h1 hp => ?_)
  obtain ⟨e1, hF, hl2, ⟨g, hg1, hg2⟩, -⟩ := hp
  simp only at e1
  subst e1
  refine gs_n 5 a_X1_committedEntries_4 rfl ?_
  refine gs_k (nI 0) 6 a_X1_committedEntries_5 (by decide +kernel) rfl ?_
  refine gs_n 7 a_X1_committedEntries_6 rfl ?_
  refine gs_k (nI 0) 8 a_X1_committedEntries_7 (by decide +kernel) rfl ?_
  refine gs_n 9 a_X1_committedEntries_8 rfl ?_
  refine gs_w [(3, .int (nI 0)), (2, .int (nI (cntC es 0))), (1, .int (nI (stb es))), (0, .ref L)] (by simp [ix_nd]) (by intro x hx; simp only [List.mem_cons, List.not_mem_nil, or_false] at hx; rcases hx with rfl | rfl | rfl | rfl <;> rfl) ?_
  refine gs_post (l_comE hl2.1 hg1 hg2 (stb_le es) (by omega) (stb es) 0 (by omega)) ?_
  rintro u rfl
  exact ⟨rfl, hF, hl2⟩
/-- the first of the last k below n -/
def ff (P : Nat → Bool) (n : Nat) : Nat → Option Nat
  | 0 => none
  | k + 1 => if P (n - (k + 1)) then some (n - (k + 1)) else ff P n k
theorem l_firstC {d : Nat} {h : ix_H} {L n : Nat} {es : List En} {g : Nat → Int32} (hl1 : h.2.2 L = .inr (1, [.ref (L + 1), .ref (L + 3), .ref (L + 4), .ref (L + 5), .int (nI es.length)])) (hc : h.2.2 (L + 4) = .inl (.boolean, 285, .inl g)) (hg : ∀ o, 0 ≤ o → o < es.length → g o = b01 (comAt es o)) (hn : n ≤ es.length) (hlen : es.length ≤ 285) : ∀ (k j : Nat), k = n - j → j < 2 ^ 31 →
    gs none d mD_X1_firstCommitted (11, [(3, .int (nI j)), (2, .int (nI n)), (0, .ref L)], [], h) (fun u => u = (some (.int (oI (ff (comAt es) n k))), h)) := by
  intro k
  induction k with
  | zero =>
    intro j hj hj2
    refine gs_n 12 a_X1_firstCommitted_11 rfl ?_
    refine gs_n 13 a_X1_firstCommitted_12 rfl ?_
    refine gs_ic 33 16 a_X1_firstCommitted_13 rfl rfl (fun c => ?_) (fun c => ?_)
    · refine gs_k (-1) 34 a_X1_firstCommitted_33 (by decide +kernel) rfl ?_
      refine gs_iret a_X1_firstCommitted_34 rfl rfl ?_
      rfl
    · exact absurd (nI_le (by omega) (by omega)) c
  | succ k ih =>
    intro j hj hj2
    refine gs_n 12 a_X1_firstCommitted_11 rfl ?_
    refine gs_n 13 a_X1_firstCommitted_12 rfl ?_
    refine gs_ic 33 16 a_X1_firstCommitted_13 rfl rfl (fun c => ?_) (fun c => ?_)
    · exact absurd c (nI_ge (by omega) (by omega))
    · refine gs_n 17 a_X1_firstCommitted_16 rfl ?_
      refine gs_get 20 a_X1_firstCommitted_17 f_1_24 (by first | assumption | exact hs_same _ _ _ | exact (hs_ne _ _ (by first | assumption | decide | omega)).trans (by first | assumption | exact hs_same _ _ _ | exact (hs_ne _ _ (by first | assumption | decide | omega)).trans (by first | assumption | exact hs_same _ _ _ | exact (hs_ne _ _ (by first | assumption | decide | omega)).trans (by first | assumption | exact hs_same _ _ _ | exact (hs_ne _ _ (by first | assumption | decide | omega)).trans (by first | assumption | exact hs_same _ _ _))))) rfl rfl ?_
      refine gs_n 21 a_X1_firstCommitted_20 rfl ?_
      refine gs_za j 22 a_X1_firstCommitted_21 (by first | assumption | exact hs_same _ _ _ | exact (hs_ne _ _ (by first | assumption | decide | omega)).trans (by first | assumption | exact hs_same _ _ _ | exact (hs_ne _ _ (by first | assumption | decide | omega)).trans (by first | assumption | exact hs_same _ _ _ | exact (hs_ne _ _ (by first | assumption | decide | omega)).trans (by first | assumption | exact hs_same _ _ _ | exact (hs_ne _ _ (by first | assumption | decide | omega)).trans (by first | assumption | exact hs_same _ _ _))))) rfl (by omega) (by omega) rfl ?_
      rw [hg j (by omega) (by omega)]
      have hnk : n - (k + 1) = j := by omega
      refine gs_if 27 25 a_X1_firstCommitted_22 rfl rfl (fun c2 => ?_) (fun c2 => ?_)
      · have c2 := (b01_0 _).mp c2
        first | refine gs_inc _ 30 a_X1_firstCommitted_27 rfl (Nat.le_of_ble_eq_true rfl) rfl ?_ | refine gs_n 30 a_X1_firstCommitted_27 rfl ?_
        refine gs_n 11 a_X1_firstCommitted_30 rfl ?_
        refine gs_w [(3, .int (nI (j + 1))), (2, .int (nI n)), (0, .ref L)] (by simp [ix_nd]) (by intro x hx; simp only [List.mem_cons, List.not_mem_nil, or_false] at hx; rcases hx with rfl | rfl | rfl <;> rfl) ?_
        refine gs_post (ih (j + 1) (by omega) (by omega)) ?_
        rintro u rfl
        simp only [ff, hnk, c2]
        rfl
      · have c2 : comAt es j = true := by
          have : ¬ comAt es j = false := fun z => c2 ((b01_0 _).mpr z)
          simpa using this
        refine gs_n 26 a_X1_firstCommitted_25 rfl ?_
        refine gs_iret a_X1_firstCommitted_26 rfl rfl ?_
        simp only [ff, hnk, c2]
        rfl
theorem e_firstC {d : Nat} {h : ix_H} {L : Nat} {es : List En} {tn : List Nat} (m : Nat) (hm : m < 2 ^ 31) (hl : LogAt h L es tn) : ev (d + 4) n_X1_firstCommitted [.ref L, .int (nI m)] h (fun u => u.1 = some (.int (oI (ff (comAt es) (stb es) (stb es - m)))) ∧ Fr [L + 4, L + 5] h u.2 ∧ LogAt u.2 L es tn) := by
  have hl1 := hl.1
  have hlen := hl.len
  refine ev_of q_X1_firstCommitted (Nat.le_of_ble_eq_true rfl) ?_
  refine gs_n 1 a_X1_firstCommitted_0 rfl ?_
  refine gs_cv 4 a_X1_firstCommitted_1 k_1_91 q_X1_stable (e_stable hl) rfl rfl rfl (by simp [Value.category]) (by first | assumption | exact hs_same _ _ _ | exact (hs_ne _ _ (by first | assumption | decide | omega)).trans (by first | assumption | exact hs_same _ _ _ | exact (hs_ne _ _ (by first | assumption | decide | omega)).trans (by first | assumption | exact hs_same _ _ _ | exact (hs_ne _ _ (by first | assumption | decide | omega)).trans (by first | assumption | exact hs_same _ _ _ | exact (hs_ne _ _ (by first | assumption | decide | omega)).trans (by first | assumption | exact hs_same _ _ _))))) rfl (fun v h1 hp => ?_)
  obtain ⟨e1, hF, hl2, ⟨g, hg1, hg2⟩, -⟩ := hp
  simp only at e1
  subst e1
  refine gs_n 5 a_X1_firstCommitted_4 rfl ?_
  refine gs_n 6 a_X1_firstCommitted_5 rfl ?_
  refine gs_k (nI 0) 7 a_X1_firstCommitted_6 (by decide +kernel) rfl ?_
  refine gs_n 10 a_X1_firstCommitted_7 rfl ?_
  refine gs_top (nI m) (by rw [if_neg (by rw [nI_ltI (by omega) (by omega)]; omega)]) ?_
  refine gs_n 11 a_X1_firstCommitted_10 rfl ?_
  refine gs_w [(3, .int (nI m)), (2, .int (nI (stb es))), (0, .ref L)] (by simp [ix_nd]) (by intro x hx; simp only [List.mem_cons, List.not_mem_nil, or_false] at hx; rcases hx with rfl | rfl | rfl <;> rfl) ?_
  refine gs_post (l_firstC hl2.1 hg1 hg2 (stb_le es) (by omega) (stb es - m) m rfl hm) ?_
  rintro u rfl
  exact ⟨rfl, hF, hl2⟩
theorem l_firstS {d : Nat} {h : ix_H} {L : Nat} {es : List En} {tn : List Nat} (hl : LogAt h L es tn) : ∀ (k j : Nat), k = es.length - j → j < 2 ^ 31 →
    gs none (d + 3) mD_X1_firstSeen (6, [(2, .int (nI j)), (0, .ref L)], [], h) (fun u => u = (some (.int (oI (ff (fun o => decide (eK (es.getD o en0) ≤ 1)) es.length k))), h)) := by
  have hl1 := hl.1
  have hlen := hl.len
  intro k
  induction k with
  | zero =>
    intro j hj hj2
    refine gs_n 7 a_X1_firstSeen_6 rfl ?_
    refine gs_n 8 a_X1_firstSeen_7 rfl ?_
    refine gs_get 11 a_X1_firstSeen_8 f_1_34 (by first | assumption | exact hs_same _ _ _ | exact (hs_ne _ _ (by first | assumption | decide | omega)).trans (by first | assumption | exact hs_same _ _ _ | exact (hs_ne _ _ (by first | assumption | decide | omega)).trans (by first | assumption | exact hs_same _ _ _ | exact (hs_ne _ _ (by first | assumption | decide | omega)).trans (by first | assumption | exact hs_same _ _ _ | exact (hs_ne _ _ (by first | assumption | decide | omega)).trans (by first | assumption | exact hs_same _ _ _))))) rfl rfl ?_
    refine gs_ic 30 14 a_X1_firstSeen_11 rfl rfl (fun c => ?_) (fun c => ?_)
    · refine gs_k (-1) 31 a_X1_firstSeen_30 (by decide +kernel) rfl ?_
      refine gs_iret a_X1_firstSeen_31 rfl rfl ?_
      rfl
    · exact absurd (nI_le (by omega) (by omega)) c
  | succ k ih =>
    intro j hj hj2
    refine gs_n 7 a_X1_firstSeen_6 rfl ?_
    refine gs_n 8 a_X1_firstSeen_7 rfl ?_
    refine gs_get 11 a_X1_firstSeen_8 f_1_34 (by first | assumption | exact hs_same _ _ _ | exact (hs_ne _ _ (by first | assumption | decide | omega)).trans (by first | assumption | exact hs_same _ _ _ | exact (hs_ne _ _ (by first | assumption | decide | omega)).trans (by first | assumption | exact hs_same _ _ _ | exact (hs_ne _ _ (by first | assumption | decide | omega)).trans (by first | assumption | exact hs_same _ _ _ | exact (hs_ne _ _ (by first | assumption | decide | omega)).trans (by first | assumption | exact hs_same _ _ _))))) rfl rfl ?_
    refine gs_ic 30 14 a_X1_firstSeen_11 rfl rfl (fun c => ?_) (fun c => ?_)
    · exact absurd c (nI_ge (by omega) (by omega))
    · refine gs_n 15 a_X1_firstSeen_14 rfl ?_
      refine gs_n 16 a_X1_firstSeen_15 rfl ?_
      refine gs_cv 19 a_X1_firstSeen_16 k_1_68 q_X1_isSeen (e_isSeen j (by omega) hl) rfl rfl rfl (by simp [Value.category]) (by first | assumption | exact hs_same _ _ _ | exact (hs_ne _ _ (by first | assumption | decide | omega)).trans (by first | assumption | exact hs_same _ _ _ | exact (hs_ne _ _ (by first | assumption | decide | omega)).trans (by first | assumption | exact hs_same _ _ _ | exact (hs_ne _ _ (by first | assumption | decide | omega)).trans (by first | assumption | exact hs_same _ _ _ | exact (hs_ne _ _ (by first | assumption | decide | omega)).trans (by first | assumption | exact hs_same _ _ _))))) rfl (fun v h1 hp => ?_)
      cases hp
      have hnk : es.length - (k + 1) = j := by omega
      refine gs_if 24 22 a_X1_firstSeen_19 rfl rfl (fun c2 => ?_) (fun c2 => ?_)
      · have c2 := (b01_0 _).mp c2
        first | refine gs_inc _ 27 a_X1_firstSeen_24 rfl (Nat.le_of_ble_eq_true rfl) rfl ?_ | refine gs_n 27 a_X1_firstSeen_24 rfl ?_
        refine gs_n 6 a_X1_firstSeen_27 rfl ?_
        refine gs_w [(2, .int (nI (j + 1))), (0, .ref L)] (by simp [ix_nd]) (by intro x hx; simp only [List.mem_cons, List.not_mem_nil, or_false] at hx; rcases hx with rfl | rfl <;> rfl) ?_
        refine gs_post (ih (j + 1) (by omega) (by omega)) ?_
        rintro u rfl
        simp only [ff, hnk, c2]
        rfl
      · have c2 : decide (eK (es.getD j en0) ≤ 1) = true := by
          have : ¬ decide (eK (es.getD j en0) ≤ 1) = false := fun z => c2 ((b01_0 _).mpr z)
          simpa using this
        refine gs_n 23 a_X1_firstSeen_22 rfl ?_
        refine gs_iret a_X1_firstSeen_23 rfl rfl ?_
        simp only [ff, hnk, c2]
        rfl
theorem e_firstS {d : Nat} {h : ix_H} {L : Nat} {es : List En} {tn : List Nat} (m : Nat) (hm : m < 2 ^ 31) (hl : LogAt h L es tn) : ev (d + 4) n_X1_firstSeen [.ref L, .int (nI m)] h (fun u => u = (some (.int (oI (ff (fun o => decide (eK (es.getD o en0) ≤ 1)) es.length (es.length - m)))), h)) := by
  refine ev_of q_X1_firstSeen (Nat.le_of_ble_eq_true rfl) ?_
  refine gs_n 1 a_X1_firstSeen_0 rfl ?_
  refine gs_k (nI 0) 2 a_X1_firstSeen_1 (by decide +kernel) rfl ?_
  refine gs_n 5 a_X1_firstSeen_2 rfl ?_
  refine gs_top (nI m) (by rw [if_neg (by rw [nI_ltI (by omega) (by omega)]; omega)]) ?_
  refine gs_n 6 a_X1_firstSeen_5 rfl ?_
  refine gs_w [(2, .int (nI m)), (0, .ref L)] (by simp [ix_nd]) (by intro x hx; simp only [List.mem_cons, List.not_mem_nil, or_false] at hx; rcases hx with rfl | rfl <;> rfl) ?_
  exact l_firstS hl (es.length - m) m rfl hm
theorem e_lclear {d : Nat} {h : ix_H} {L : Nat} {es : List En} {tn : List Nat} (hl : LogAt h L es tn) : ev (d + 2) n_X1_clear [.ref L] h (fun u => u.1 = none ∧ Fr [L, L + 1, L + 2] h u.2 ∧ LogAt u.2 L [] []) := by
  obtain ⟨g1, g2, ⟨f3, g3, g3'⟩, ⟨f4, g4⟩, ⟨f5, g5⟩, g7⟩ := hl
  have hr1 := g2.1
  refine ev_of q_X1_clear (Nat.le_of_ble_eq_true rfl) ?_
  refine gs_n 1 a_X1_clear_0 rfl ?_
  refine gs_get 4 a_X1_clear_1 f_1_14 (by first | assumption | exact hs_same _ _ _ | exact (hs_ne _ _ (by first | assumption | decide | omega)).trans (by first | assumption | exact hs_same _ _ _ | exact (hs_ne _ _ (by first | assumption | decide | omega)).trans (by first | assumption | exact hs_same _ _ _ | exact (hs_ne _ _ (by first | assumption | decide | omega)).trans (by first | assumption | exact hs_same _ _ _ | exact (hs_ne _ _ (by first | assumption | decide | omega)).trans (by first | assumption | exact hs_same _ _ _))))) rfl rfl ?_
  refine gs_cv 7 a_X1_clear_4 k_1_31 q_X0_clear (e_clear g2) rfl rfl rfl (by simp [Value.category]) (by first | assumption | exact hs_same _ _ _ | exact (hs_ne _ _ (by first | assumption | decide | omega)).trans (by first | assumption | exact hs_same _ _ _ | exact (hs_ne _ _ (by first | assumption | decide | omega)).trans (by first | assumption | exact hs_same _ _ _ | exact (hs_ne _ _ (by first | assumption | decide | omega)).trans (by first | assumption | exact hs_same _ _ _ | exact (hs_ne _ _ (by first | assumption | decide | omega)).trans (by first | assumption | exact hs_same _ _ _))))) rfl (fun v h1 hp => ?_)
  obtain ⟨e1, hF, hR⟩ := hp
  simp only at e1
  subst e1
  have k1 : h1.2.2 L = _ := (hF.2.2 L (by simp)).trans g1
  refine gs_n 8 a_X1_clear_7 rfl ?_
  refine gs_k (nI 0) 9 a_X1_clear_8 (by decide +kernel) rfl ?_
  refine gs_put 12 _ a_X1_clear_9 f_1_34 (by first | assumption | exact hs_same _ _ _ | exact (hs_ne _ _ (by first | assumption | decide | omega)).trans (by first | assumption | exact hs_same _ _ _ | exact (hs_ne _ _ (by first | assumption | decide | omega)).trans (by first | assumption | exact hs_same _ _ _ | exact (hs_ne _ _ (by first | assumption | decide | omega)).trans (by first | assumption | exact hs_same _ _ _ | exact (hs_ne _ _ (by first | assumption | decide | omega)).trans (by first | assumption | exact hs_same _ _ _))))) (Nat.le_of_ble_eq_true rfl) rfl (fun z => absurd z (by decide)) rfl rfl ?_
  refine gs_vret a_X1_clear_12 rfl ?_
  have n1 : ¬ L + 1 = L := by omega
  have n2 : ¬ L + 2 = L := by omega
  refine ⟨rfl, (hF.mono (by simp)).trans (Fr.set _ (by simp)), ?_, ?_, ⟨f3, ?_, ?_⟩, ⟨f4, ?_⟩, ⟨f5, ?_⟩, ?_⟩
  · rw [hs_same]; rfl
  · exact hR.fr (hs_ne _ _ n1) (hs_ne _ _ n2)
  · rw [hs_ne _ _ (by omega), hF.2.2 _ (by simp)]; exact g3
  · intro o ho; simp at ho
  · rw [hs_ne _ _ (by omega), hF.2.2 _ (by simp)]; exact g4
  · rw [hs_ne _ _ (by omega), hF.2.2 _ (by simp)]; exact g5
  · simp
theorem e_cutBroken {d : Nat} {h : ix_H} {L : Nat} {es : List En} {tn : List Nat} (hl : LogAt h L es tn) : ev (d + 2) n_X1_cutBroken [.ref L] h (fun u => u.1 = some (.int (nI tn.length)) ∧ Fr [L + 1, L + 2] h u.2 ∧ LogAt u.2 L es []) := by
  have hlen := hl.len
  have hl0 := hl
  obtain ⟨g1, g2, ⟨f3, g3, g3'⟩, ⟨f4, g4⟩, ⟨f5, g5⟩, g7⟩ := hl
  have hr1 := g2.1
  refine ev_of q_X1_cutBroken (Nat.le_of_ble_eq_true rfl) ?_
  refine gs_n 1 a_X1_cutBroken_0 rfl ?_
  refine gs_n 2 a_X1_cutBroken_1 rfl ?_
  refine gs_get 5 a_X1_cutBroken_2 f_1_34 (by first | assumption | exact hs_same _ _ _ | exact (hs_ne _ _ (by first | assumption | decide | omega)).trans (by first | assumption | exact hs_same _ _ _ | exact (hs_ne _ _ (by first | assumption | decide | omega)).trans (by first | assumption | exact hs_same _ _ _ | exact (hs_ne _ _ (by first | assumption | decide | omega)).trans (by first | assumption | exact hs_same _ _ _ | exact (hs_ne _ _ (by first | assumption | decide | omega)).trans (by first | assumption | exact hs_same _ _ _))))) rfl rfl ?_
  refine gs_cv 8 a_X1_cutBroken_5 k_1_55 q_X1_startOf (e_startOf es.length (Nat.le_refl _) hl0) rfl rfl rfl (by simp [Value.category]) (by first | assumption | exact hs_same _ _ _ | exact (hs_ne _ _ (by first | assumption | decide | omega)).trans (by first | assumption | exact hs_same _ _ _ | exact (hs_ne _ _ (by first | assumption | decide | omega)).trans (by first | assumption | exact hs_same _ _ _ | exact (hs_ne _ _ (by first | assumption | decide | omega)).trans (by first | assumption | exact hs_same _ _ _ | exact (hs_ne _ _ (by first | assumption | decide | omega)).trans (by first | assumption | exact hs_same _ _ _))))) rfl (fun v h1 hp => ?_)
  cases hp
  rw [off_len]
  refine gs_n 9 a_X1_cutBroken_8 rfl ?_
  refine gs_n 10 a_X1_cutBroken_9 rfl ?_
  refine gs_get 13 a_X1_cutBroken_10 f_1_14 (by first | assumption | exact hs_same _ _ _ | exact (hs_ne _ _ (by first | assumption | decide | omega)).trans (by first | assumption | exact hs_same _ _ _ | exact (hs_ne _ _ (by first | assumption | decide | omega)).trans (by first | assumption | exact hs_same _ _ _ | exact (hs_ne _ _ (by first | assumption | decide | omega)).trans (by first | assumption | exact hs_same _ _ _ | exact (hs_ne _ _ (by first | assumption | decide | omega)).trans (by first | assumption | exact hs_same _ _ _))))) rfl rfl ?_
  refine gs_get 16 a_X1_cutBroken_13 f_1_38 (by first | assumption | exact hs_same _ _ _ | exact (hs_ne _ _ (by first | assumption | decide | omega)).trans (by first | assumption | exact hs_same _ _ _ | exact (hs_ne _ _ (by first | assumption | decide | omega)).trans (by first | assumption | exact hs_same _ _ _ | exact (hs_ne _ _ (by first | assumption | decide | omega)).trans (by first | assumption | exact hs_same _ _ _ | exact (hs_ne _ _ (by first | assumption | decide | omega)).trans (by first | assumption | exact hs_same _ _ _))))) rfl rfl ?_
  refine gs_n 17 a_X1_cutBroken_16 rfl ?_
  refine gs_n 18 a_X1_cutBroken_17 rfl ?_
  refine gs_n 19 a_X1_cutBroken_18 rfl ?_
  refine gs_n 20 a_X1_cutBroken_19 rfl ?_
  refine gs_get 23 a_X1_cutBroken_20 f_1_14 (by first | assumption | exact hs_same _ _ _ | exact (hs_ne _ _ (by first | assumption | decide | omega)).trans (by first | assumption | exact hs_same _ _ _ | exact (hs_ne _ _ (by first | assumption | decide | omega)).trans (by first | assumption | exact hs_same _ _ _ | exact (hs_ne _ _ (by first | assumption | decide | omega)).trans (by first | assumption | exact hs_same _ _ _ | exact (hs_ne _ _ (by first | assumption | decide | omega)).trans (by first | assumption | exact hs_same _ _ _))))) rfl rfl ?_
  refine gs_n 24 a_X1_cutBroken_23 rfl ?_
  refine gs_cv 27 a_X1_cutBroken_24 k_1_65 q_X0_cutTo (e_cutTo (es.flatMap encP).length (by omega) g2) rfl rfl rfl (by simp [Value.category]) (by first | assumption | exact hs_same _ _ _ | exact (hs_ne _ _ (by first | assumption | decide | omega)).trans (by first | assumption | exact hs_same _ _ _ | exact (hs_ne _ _ (by first | assumption | decide | omega)).trans (by first | assumption | exact hs_same _ _ _ | exact (hs_ne _ _ (by first | assumption | decide | omega)).trans (by first | assumption | exact hs_same _ _ _ | exact (hs_ne _ _ (by first | assumption | decide | omega)).trans (by first | assumption | exact hs_same _ _ _))))) rfl (fun v h1 hp => ?_)
  obtain ⟨e1, hF, hR⟩ := hp
  simp only at e1
  subst e1
  refine gs_n 28 a_X1_cutBroken_27 rfl ?_
  refine gs_iret a_X1_cutBroken_28 rfl rfl ?_
  refine ⟨?_, hF, (hF.2.2 _ (by simp)).trans g1, ?_, ⟨f3, (hF.2.2 _ (by simp)).trans g3, g3'⟩, ⟨f4, (hF.2.2 _ (by simp)).trans g4⟩, ⟨f5, (hF.2.2 _ (by simp)).trans g5⟩, g7⟩
  · rw [List.length_append, pk_sub (by omega), show (es.flatMap encP).length + tn.length - (es.flatMap encP).length = tn.length by omega]
  · rw [List.take_left' rfl] at hR
    rw [List.append_nil]
    exact hR
