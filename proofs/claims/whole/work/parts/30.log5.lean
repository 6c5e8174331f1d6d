/-! Log.dropBroken, copyPayload, append -/
theorem getD_memN {l : List Nat} {j : Nat} (h : j < l.length) : l.getD j 0 ∈ l := by
  simp only [List.getD, List.getElem?_eq_getElem h, Option.getD_some]
  exact List.getElem_mem _
/-- how many entries are whole in the first n bytes -/
def wh (es : List En) (n : Nat) : Nat → Nat
  | 0 => 0
  | j + 1 => if off es (j + 1) ≤ n then j + 1 else wh es n j
theorem wh_le (es : List En) (n : Nat) : ∀ j, wh es n j ≤ j := by
  intro j
  induction j with
  | zero => exact Nat.le_refl _
  | succ j ih => unfold wh; split <;> omega
theorem wh_off (es : List En) (n : Nat) : ∀ j, off es (wh es n j) ≤ n := by
  intro j
  induction j with
  | zero => unfold wh; rw [off_0]; omega
  | succ j ih => unfold wh; split; assumption; exact ih
theorem off_take {es : List En} {o j : Nat} (h : o ≤ j) : off (es.take j) o = off es o := by
  unfold off
  rw [List.take_take, Nat.min_eq_left h]
/-- a partition whose row was cut: the entries stand as they were -/
def LogC (h : ix_H) (L : Nat) (es : List En) (m n : Nat) : Prop :=
  h.2.2 L = .inr (1, [.ref (L + 1), .ref (L + 3), .ref (L + 4), .ref (L + 5), .int (nI m)]) ∧
  RowAt h (L + 1) (L + 2) 4000 ((es.flatMap encP).take n) ∧
  (∃ f, h.2.2 (L + 3) = .inl (.int, 285, .inl f) ∧ ∀ o, o < es.length → f o = nI (off es (o + 1))) ∧
  (∃ f, h.2.2 (L + 4) = .inl (.boolean, 285, .inl f)) ∧ (∃ f, h.2.2 (L + 5) = .inl (.int, 32, .inl f)) ∧ (∀ e ∈ es, okP e) ∧ es.length ≤ 285 ∧ n ≤ (es.flatMap encP).length ∧ (es.flatMap encP).length ≤ 4000
theorem flat_take (es : List En) (o : Nat) : (es.take o).flatMap encP = (es.flatMap encP).take (off es o) := by
  have h1 : es.flatMap encP = (es.take o).flatMap encP ++ (es.drop o).flatMap encP := by rw [← List.flatMap_append, List.take_append_drop]
  rw [h1, off, List.take_left' rfl]
theorem LogC.at {h : ix_H} {L : Nat} {es : List En} {o n : Nat} (hc : LogC h L es o n) (ho : o ≤ es.length) (hn : off es o ≤ n) : LogAt h L (es.take o) (((es.flatMap encP).take n).drop (off es o)) := by
  obtain ⟨g1, g2, ⟨f3, g3, g3'⟩, g4, g5, g7, g8, g9, g10⟩ := hc
  refine ⟨by rw [List.length_take, Nat.min_eq_left ho]; exact g1, ?_, ⟨f3, g3, ?_⟩, g4, g5, fun e he => g7 e (List.mem_of_mem_take he)⟩
  · rw [flat_take]
    have : (es.flatMap encP).take (off es o) = ((es.flatMap encP).take n).take (off es o) := by rw [List.take_take, Nat.min_eq_left hn]
    rw [this, List.take_append_drop]
    exact g2
  · intro i hi
    rw [List.length_take] at hi
    rw [g3' i (by omega), off_take (by omega)]
theorem l_dropB {d : Nat} {h0 : ix_H} {L n : Nat} {es : List En} : ∀ (j : Nat) (h : ix_H), j ≤ es.length → Fr [L] h0 h → LogC h L es j n →
    gs none d mD_X1_dropBroken (7, [(1, .int (nI j - nI 1)), (0, .ref L)], [], h) (fun u => u.1 = none ∧ Fr [L] h0 u.2 ∧ LogC u.2 L es (wh es n j) n) := by
  intro j
  induction j with
  | zero =>
    intro h hj hF hc
    refine gs_n 8 a_X1_dropBroken_7 rfl ?_
    refine gs_if 38 11 a_X1_dropBroken_8 rfl rfl (fun c => ?_) (fun c => ?_)
    · refine gs_vret a_X1_dropBroken_38 rfl ?_
      exact ⟨rfl, hF, hc⟩
    · exact absurd ((m1_neg 0 (by omega)).mpr rfl) c
  | succ j ih =>
    intro h hj hF hc
    have hc0 := hc
    obtain ⟨g1, g2, ⟨f3, g3, g3'⟩, g4, g5, g7, g8, g9, g10⟩ := hc
    have hr1 := g2.1
    have hoff := off_mono (es := es) (i := j + 1) (j := es.length) (by omega) (Nat.le_refl _)
    rw [off_len] at hoff
    have hrl : ((es.flatMap encP).take n).length = n := by rw [List.length_take]; omega
    rw [m1_succ]
    refine gs_n 8 a_X1_dropBroken_7 rfl ?_
    refine gs_if 38 11 a_X1_dropBroken_8 rfl rfl (fun c => ?_) (fun c => ?_)
    · exact absurd c (nI_pos (by omega))
    · refine gs_n 12 a_X1_dropBroken_11 rfl ?_
      refine gs_get 15 a_X1_dropBroken_12 f_1_20 (by first | assumption | exact hs_same _ _ _ | exact (hs_ne _ _ (by first | assumption | decide | omega)).trans (by first | assumption | exact hs_same _ _ _ | exact (hs_ne _ _ (by first | assumption | decide | omega)).trans (by first | assumption | exact hs_same _ _ _ | exact (hs_ne _ _ (by first | assumption | decide | omega)).trans (by first | assumption | exact hs_same _ _ _ | exact (hs_ne _ _ (by first | assumption | decide | omega)).trans (by first | assumption | exact hs_same _ _ _))))) rfl rfl ?_
      refine gs_n 16 a_X1_dropBroken_15 rfl ?_
      refine gs_ia j 17 a_X1_dropBroken_16 (by first | assumption | exact hs_same _ _ _ | exact (hs_ne _ _ (by first | assumption | decide | omega)).trans (by first | assumption | exact hs_same _ _ _ | exact (hs_ne _ _ (by first | assumption | decide | omega)).trans (by first | assumption | exact hs_same _ _ _ | exact (hs_ne _ _ (by first | assumption | decide | omega)).trans (by first | assumption | exact hs_same _ _ _ | exact (hs_ne _ _ (by first | assumption | decide | omega)).trans (by first | assumption | exact hs_same _ _ _))))) rfl (by omega) (by omega) rfl ?_
      rw [g3' j (by omega)]
      refine gs_n 18 a_X1_dropBroken_17 rfl ?_
      refine gs_get 21 a_X1_dropBroken_18 f_1_14 (by first | assumption | exact hs_same _ _ _ | exact (hs_ne _ _ (by first | assumption | decide | omega)).trans (by first | assumption | exact hs_same _ _ _ | exact (hs_ne _ _ (by first | assumption | decide | omega)).trans (by first | assumption | exact hs_same _ _ _ | exact (hs_ne _ _ (by first | assumption | decide | omega)).trans (by first | assumption | exact hs_same _ _ _ | exact (hs_ne _ _ (by first | assumption | decide | omega)).trans (by first | assumption | exact hs_same _ _ _))))) rfl rfl ?_
      refine gs_get 24 a_X1_dropBroken_21 f_1_38 (by first | assumption | exact hs_same _ _ _ | exact (hs_ne _ _ (by first | assumption | decide | omega)).trans (by first | assumption | exact hs_same _ _ _ | exact (hs_ne _ _ (by first | assumption | decide | omega)).trans (by first | assumption | exact hs_same _ _ _ | exact (hs_ne _ _ (by first | assumption | decide | omega)).trans (by first | assumption | exact hs_same _ _ _ | exact (hs_ne _ _ (by first | assumption | decide | omega)).trans (by first | assumption | exact hs_same _ _ _))))) rfl rfl ?_
      rw [hrl]
      refine gs_ic 38 27 a_X1_dropBroken_24 rfl rfl (fun c2 => ?_) (fun c2 => ?_)
      · have c2 : nI (off es (j + 1)) ≤ nI n := c2
        rw [nI_leI (by omega) (by omega)] at c2
        refine gs_vret a_X1_dropBroken_38 rfl ?_
        refine ⟨rfl, hF, ?_⟩
        unfold wh
        rw [if_pos c2]
        exact hc0
      · have c2 : ¬ nI (off es (j + 1)) ≤ nI n := c2
        rw [nI_leI (by omega) (by omega)] at c2
        refine gs_n 28 a_X1_dropBroken_27 rfl ?_
        refine gs_n 29 a_X1_dropBroken_28 rfl ?_
        refine gs_put 32 _ a_X1_dropBroken_29 f_1_34 (by first | assumption | exact hs_same _ _ _ | exact (hs_ne _ _ (by first | assumption | decide | omega)).trans (by first | assumption | exact hs_same _ _ _ | exact (hs_ne _ _ (by first | assumption | decide | omega)).trans (by first | assumption | exact hs_same _ _ _ | exact (hs_ne _ _ (by first | assumption | decide | omega)).trans (by first | assumption | exact hs_same _ _ _ | exact (hs_ne _ _ (by first | assumption | decide | omega)).trans (by first | assumption | exact hs_same _ _ _))))) (Nat.le_of_ble_eq_true rfl) rfl (fun z => absurd z (by decide)) rfl rfl ?_
        refine gs_n 35 a_X1_dropBroken_32 rfl ?_
        refine gs_n 7 a_X1_dropBroken_35 rfl ?_
        refine gs_w [(1, .int (nI j + Int32.ofInt (-1))), (0, .ref L)] (by simp [ix_nd]) (by intro x hx; simp only [List.mem_cons, List.not_mem_nil, or_false] at hx; rcases hx with rfl | rfl <;> rfl) ?_
        rw [dec1]
        refine gs_post (ih _ (by omega) (hF.trans (Fr.set _ (by simp))) ⟨hs_same _ _ _, g2.fr (hs_ne _ _ (by omega)) (hs_ne _ _ (by omega)), ⟨f3, (hs_ne _ _ (by omega)).trans g3, g3'⟩, ?_, ?_, g7, g8, g9, g10⟩) ?_
        · obtain ⟨f4, g4⟩ := g4; exact ⟨f4, (hs_ne _ _ (by omega)).trans g4⟩
        · obtain ⟨f5, g5⟩ := g5; exact ⟨f5, (hs_ne _ _ (by omega)).trans g5⟩
        · rintro u ⟨e1, e2, e3⟩
          refine ⟨e1, e2, ?_⟩
          simp only [wh, if_neg c2]
          exact e3
theorem e_dropB {d : Nat} {h : ix_H} {L n : Nat} {es : List En} (hc : LogC h L es es.length n) : ev (d + 1) n_X1_dropBroken [.ref L] h (fun u => u.1 = none ∧ Fr [L] h u.2 ∧ LogAt u.2 L (es.take (wh es n es.length)) (((es.flatMap encP).take n).drop (off es (wh es n es.length)))) := by
  have g1 := hc.1
  refine ev_of q_X1_dropBroken (Nat.le_of_ble_eq_true rfl) ?_
  refine gs_n 1 a_X1_dropBroken_0 rfl ?_
  refine gs_get 4 a_X1_dropBroken_1 f_1_34 (by first | assumption | exact hs_same _ _ _ | exact (hs_ne _ _ (by first | assumption | decide | omega)).trans (by first | assumption | exact hs_same _ _ _ | exact (hs_ne _ _ (by first | assumption | decide | omega)).trans (by first | assumption | exact hs_same _ _ _ | exact (hs_ne _ _ (by first | assumption | decide | omega)).trans (by first | assumption | exact hs_same _ _ _ | exact (hs_ne _ _ (by first | assumption | decide | omega)).trans (by first | assumption | exact hs_same _ _ _))))) rfl rfl ?_
  refine gs_k (nI 1) 5 a_X1_dropBroken_4 (by decide +kernel) rfl ?_
  refine gs_n 6 a_X1_dropBroken_5 rfl ?_
  refine gs_n 7 a_X1_dropBroken_6 rfl ?_
  refine gs_w [(1, .int (nI es.length - nI 1)), (0, .ref L)] (by simp [ix_nd]) (by intro x hx; simp only [List.mem_cons, List.not_mem_nil, or_false] at hx; rcases hx with rfl | rfl <;> rfl) ?_
  refine gs_post (l_dropB es.length h (Nat.le_refl _) (Fr.rf _ _) hc) ?_
  rintro u ⟨e1, e2, e3⟩
  exact ⟨e1, e2, e3.at (wh_le _ _ _) (wh_off _ _ _)⟩
theorem rAt_nat {bs : List Nat} {i : Nat} (h : i < bs.length) (hl : bs.length < 2 ^ 30) : rAt bs (nI i) = nI (bs.getD i 0) := by
  unfold rAt
  rw [nI_toInt (by omega), if_pos (by omega)]
  simp
theorem low_byte {b : Nat} (h : b < 256) : (nI b).toBitVec.toNat % 256 = b := by rw [pk_tn (by omega)]; omega
theorem l_copy {d : Nat} {h0 : ix_H} {L r a N o : Nat} {es : List En} {tn bs : List Nat} (ho : o < es.length) (hl : LogAt h0 L es tn) (hd : r ≠ L ∧ r ≠ L + 1 ∧ r ≠ L + 2 ∧ a ≠ L ∧ a ≠ L + 1 ∧ a ≠ L + 2) (hN : bs.length + eB (es.getD o en0) ≤ N) : ∀ (k j : Nat) (h : ix_H), j + k = eB (es.getD o en0) → Fr [r, a] h0 h → RowAt h r a N (bs ++ (eP (es.getD o en0)).take j) →
    gs none (d + 1) mD_X1_copyPayload (26, [(5, .int (nI j)), (4, .int (nI (eB (es.getD o en0)))), (3, .int (nI (off es o) + nI 14)), (0, .ref L), (2, .ref r)], [], h) (fun u => u.1 = none ∧ Fr [r, a] h0 u.2 ∧ RowAt u.2 r a N (bs ++ eP (es.getD o en0))) := by
  have hlen := hl.len
  have hok := hl.2.2.2.2.2 _ (getD_mem ho)
  have hle := encP_len hok
  have hb5 : eB (es.getD o en0) = (eP (es.getD o en0)).length := hok.2.2.2.2.1
  have hb40 : eB (es.getD o en0) ≤ 40 := hok.2.2.2.2.2.1
  have hoff : off es o + (encP (es.getD o en0)).length ≤ (es.flatMap encP).length := by
    have h8 := off_mono (es := es) (i := o + 1) (j := es.length) (by omega) (Nat.le_refl _)
    rw [off_succ ho, off_len] at h8
    omega
  intro k
  induction k with
  | zero =>
    intro j h hj hF hR
    refine gs_n 28 a_X1_copyPayload_26 rfl ?_
    refine gs_n 30 a_X1_copyPayload_28 rfl ?_
    refine gs_ic 54 33 a_X1_copyPayload_30 rfl rfl (fun c => ?_) (fun c => ?_)
    · refine gs_vret a_X1_copyPayload_54 rfl ?_
      refine ⟨rfl, hF, ?_⟩
      rwa [List.take_of_length_le (by omega)] at hR
    · exact absurd (nI_le (by omega) (by omega)) c
  | succ k ih =>
    intro j h hj hF hR
    have hjl : j < (eP (es.getD o en0)).length := by omega
    have k1 : h.2.2 L = _ := (hF.2.2 L (by simp; omega)).trans hl.1
    have kR : RowAt h (L + 1) (L + 2) 4000 (es.flatMap encP ++ tn) := hl.2.1.fr (hF.2.2 _ (by simp; omega)) (hF.2.2 _ (by simp; omega))
    have kr1 := kR.1
    have hrr := hR.1
    have hby : (es.flatMap encP ++ tn).getD (off es o + (14 + j)) 0 = (eP (es.getD o en0)).getD j 0 := by
      have e1 : (es.flatMap encP ++ tn).getD (off es o + (14 + j)) 0 = ((es.flatMap encP ++ tn).drop (off es o)).getD (14 + j) 0 := by simp [List.getD, List.getElem?_drop]
      rw [e1, drop_off tn ho]
      have e2 : (encP (es.getD o en0) ++ ((es.drop (o + 1)).flatMap encP ++ tn)).getD (14 + j) 0 = (encP (es.getD o en0)).getD (14 + j) 0 := getD_append_l (by omega)
      rw [e2]
      have e3 : (encP (es.getD o en0)).getD (14 + j) 0 = ((encP (es.getD o en0)).drop 14).getD j 0 := by simp only [List.getD, List.getElem?_drop]
      rw [e3, (encP_f _).2.2.2.2.2]
    have hlt : (eP (es.getD o en0)).getD j 0 < 256 := by
      exact hok.2.2.2.2.2.2 _ (getD_memN hjl)
    have htk : (eP (es.getD o en0)).take (j + 1) = (eP (es.getD o en0)).take j ++ [(eP (es.getD o en0)).getD j 0] := take_snoc hjl
    have hbl : (bs ++ (eP (es.getD o en0)).take j).length = bs.length + j := by rw [List.length_append, List.length_take]; omega
    generalize hEB : eB (es.getD o en0) = B at hN hj hle hb5 hb40 hoff
    rw [hEB] at ih
    generalize hEP : eP (es.getD o en0) = pay at hR hby hlt htk hjl hb5 hbl
    rw [hEP] at ih
    refine gs_n 28 a_X1_copyPayload_26 rfl ?_
    refine gs_n 30 a_X1_copyPayload_28 rfl ?_
    refine gs_ic 54 33 a_X1_copyPayload_30 rfl rfl (fun c => ?_) (fun c => ?_)
    · exact absurd c (nI_ge (by omega) (by omega))
    · refine gs_n 34 a_X1_copyPayload_33 rfl ?_
      refine gs_n 35 a_X1_copyPayload_34 rfl ?_
      refine gs_get 38 a_X1_copyPayload_35 f_1_14 (by first | assumption | exact hs_same _ _ _ | exact (hs_ne _ _ (by first | assumption | decide | omega)).trans (by first | assumption | exact hs_same _ _ _ | exact (hs_ne _ _ (by first | assumption | decide | omega)).trans (by first | assumption | exact hs_same _ _ _ | exact (hs_ne _ _ (by first | assumption | decide | omega)).trans (by first | assumption | exact hs_same _ _ _ | exact (hs_ne _ _ (by first | assumption | decide | omega)).trans (by first | assumption | exact hs_same _ _ _))))) rfl rfl ?_
      refine gs_n 39 a_X1_copyPayload_38 rfl ?_
      refine gs_n 41 a_X1_copyPayload_39 rfl ?_
      refine gs_n 42 a_X1_copyPayload_41 rfl ?_
      refine gs_top (nI (off es o + (14 + j))) (by rw [nI_add, nI_add, Nat.add_assoc]) ?_
      refine gs_cv 45 a_X1_copyPayload_42 k_1_45 q_X0_at (e_at _ kR) rfl rfl rfl (by simp [Value.category]) (by first | assumption | exact hs_same _ _ _ | exact (hs_ne _ _ (by first | assumption | decide | omega)).trans (by first | assumption | exact hs_same _ _ _ | exact (hs_ne _ _ (by first | assumption | decide | omega)).trans (by first | assumption | exact hs_same _ _ _ | exact (hs_ne _ _ (by first | assumption | decide | omega)).trans (by first | assumption | exact hs_same _ _ _ | exact (hs_ne _ _ (by first | assumption | decide | omega)).trans (by first | assumption | exact hs_same _ _ _))))) rfl (fun v h1 hp => ?_)
      cases hp
      rw [rAt_nat (by rw [List.length_append]; omega) (by rw [List.length_append]; omega), hby]
      refine gs_cv 48 a_X1_copyPayload_45 k_1_49 q_X0_add (e_add _ hR (by omega)) rfl rfl rfl (by simp [Value.category]) (by first | assumption | exact hs_same _ _ _ | exact (hs_ne _ _ (by first | assumption | decide | omega)).trans (by first | assumption | exact hs_same _ _ _ | exact (hs_ne _ _ (by first | assumption | decide | omega)).trans (by first | assumption | exact hs_same _ _ _ | exact (hs_ne _ _ (by first | assumption | decide | omega)).trans (by first | assumption | exact hs_same _ _ _ | exact (hs_ne _ _ (by first | assumption | decide | omega)).trans (by first | assumption | exact hs_same _ _ _))))) rfl (fun v h1 hp => ?_)
      obtain ⟨e1, hF2, hR2⟩ := hp
      simp only at e1
      subst e1
      rw [low_byte hlt, List.append_assoc, ← htk] at hR2
      first | refine gs_inc _ 51 a_X1_copyPayload_48 rfl (Nat.le_of_ble_eq_true rfl) rfl ?_ | refine gs_n 51 a_X1_copyPayload_48 rfl ?_
      refine gs_n 26 a_X1_copyPayload_51 rfl ?_
      refine gs_w [(5, .int (nI (j + 1))), (4, .int (nI B)), (3, .int (nI (off es o) + nI 14)), (0, .ref L), (2, .ref r)] (by simp [ix_nd]) (by intro x hx; simp only [List.mem_cons, List.not_mem_nil, or_false] at hx; rcases hx with rfl | rfl | rfl | rfl | rfl <;> rfl) ?_
      exact ih (j + 1) h1 (by omega) (hF.trans hF2) hR2
theorem e_copy {d : Nat} {h : ix_H} {L r a N o : Nat} {es : List En} {tn bs : List Nat} (ho : o < es.length) (hl : LogAt h L es tn) (hr : RowAt h r a N bs) (hd : r ≠ L ∧ r ≠ L + 1 ∧ r ≠ L + 2 ∧ a ≠ L ∧ a ≠ L + 1 ∧ a ≠ L + 2) (hN : bs.length + eB (es.getD o en0) ≤ N) : ev (d + 3) n_X1_copyPayload [.ref L, .int (nI o), .ref r] h (fun u => u.1 = none ∧ Fr [r, a] h u.2 ∧ RowAt u.2 r a N (bs ++ eP (es.getD o en0))) := by
  have hl1 := hl.1
  have hok := hl.2.2.2.2.2 _ (getD_mem ho)
  have hle := encP_len hok
  have hb40 : eB (es.getD o en0) ≤ 40 := hok.2.2.2.2.2.1
  refine ev_of q_X1_copyPayload (Nat.le_of_ble_eq_true rfl) ?_
  refine gs_n 1 a_X1_copyPayload_0 rfl ?_
  refine gs_n 2 a_X1_copyPayload_1 rfl ?_
  refine gs_cv 5 a_X1_copyPayload_2 k_1_55 q_X1_startOf (e_startOf o (Nat.le_of_lt ho) hl) rfl rfl rfl (by simp [Value.category]) (by first | assumption | exact hs_same _ _ _ | exact (hs_ne _ _ (by first | assumption | decide | omega)).trans (by first | assumption | exact hs_same _ _ _ | exact (hs_ne _ _ (by first | assumption | decide | omega)).trans (by first | assumption | exact hs_same _ _ _ | exact (hs_ne _ _ (by first | assumption | decide | omega)).trans (by first | assumption | exact hs_same _ _ _ | exact (hs_ne _ _ (by first | assumption | decide | omega)).trans (by first | assumption | exact hs_same _ _ _))))) rfl (fun v h1 hp => ?_)
  cases hp
  refine gs_k (nI 14) 7 a_X1_copyPayload_5 (by decide +kernel) rfl ?_
  refine gs_n 8 a_X1_copyPayload_7 rfl ?_
  refine gs_n 9 a_X1_copyPayload_8 rfl ?_
  refine gs_n 10 a_X1_copyPayload_9 rfl ?_
  refine gs_n 11 a_X1_copyPayload_10 rfl ?_
  refine gs_k (nI 4) 12 a_X1_copyPayload_11 (by decide +kernel) rfl ?_
  refine gs_k (nI 2) 13 a_X1_copyPayload_12 (by decide +kernel) rfl ?_
  refine gs_cv 16 a_X1_copyPayload_13 k_1_72 q_X1_field (e_field o 4 2 ho (by omega) hl) rfl rfl rfl (by simp [Value.category]) (by first | assumption | exact hs_same _ _ _ | exact (hs_ne _ _ (by first | assumption | decide | omega)).trans (by first | assumption | exact hs_same _ _ _ | exact (hs_ne _ _ (by first | assumption | decide | omega)).trans (by first | assumption | exact hs_same _ _ _ | exact (hs_ne _ _ (by first | assumption | decide | omega)).trans (by first | assumption | exact hs_same _ _ _ | exact (hs_ne _ _ (by first | assumption | decide | omega)).trans (by first | assumption | exact hs_same _ _ _))))) rfl (fun v h1 hp => ?_)
  cases hp
  rw [(encP_f _).1, beN2 (by omega)]
  refine gs_k (nI 40) 18 a_X1_copyPayload_16 (by decide +kernel) rfl ?_
  refine gs_n 21 a_X1_copyPayload_18 rfl ?_
  refine gs_top (nI (eB (es.getD o en0))) (by rw [if_neg (by rw [nI_ltI (by omega) (by omega)]; omega)]) ?_
  refine gs_n 23 a_X1_copyPayload_21 rfl ?_
  refine gs_k (nI 0) 24 a_X1_copyPayload_23 (by decide +kernel) rfl ?_
  refine gs_n 26 a_X1_copyPayload_24 rfl ?_
  refine gs_w [(5, .int (nI 0)), (4, .int (nI (eB (es.getD o en0)))), (3, .int (nI (off es o) + nI 14)), (0, .ref L), (2, .ref r)] (by simp [ix_nd]) (by intro x hx; simp only [List.mem_cons, List.not_mem_nil, or_false] at hx; rcases hx with rfl | rfl | rfl | rfl | rfl <;> rfl) ?_
  refine l_copy (d := d + 1) ho hl hd hN _ 0 h (Nat.zero_add _) (Fr.rf _ _) ?_
  rw [List.take_zero, List.append_nil]
  exact hr
