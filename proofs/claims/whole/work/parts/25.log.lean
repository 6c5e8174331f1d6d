/-! Log: reading -/
theorem e_startOf {d : Nat} {h : ix_H} {L : Nat} {es : List En} {tn : List Nat} (o : Nat) (ho : o ≤ es.length) (hl : LogAt h L es tn) : ev (d + 1) n_X1_startOf [.ref L, .int (nI o)] h (fun u => u = (some (.int (nI (off es o))), h)) := by
  have hlen := hl.len
  obtain ⟨h1, h2, ⟨f, h3, h4⟩, h5, h6, h7⟩ := hl
  refine ev_of q_X1_startOf (Nat.le_of_ble_eq_true rfl) ?_
  refine gs_n 1 a_X1_startOf_0 rfl ?_
  refine gs_k (nI 1) 2 a_X1_startOf_1 (by decide +kernel) rfl ?_
  refine gs_ic 24 5 a_X1_startOf_2 rfl rfl (fun c => ?_) (fun c => ?_)
  · have c : nI o < nI 1 := c
    rw [nI_ltI (by omega) (by omega)] at c
    refine gs_k (nI 0) 25 a_X1_startOf_24 (by decide +kernel) rfl ?_
    refine gs_iret a_X1_startOf_25 rfl rfl ?_
    rw [show o = 0 by omega, off_0]
  · have c : ¬ nI o < nI 1 := c
    rw [nI_ltI (by omega) (by omega)] at c
    refine gs_n 6 a_X1_startOf_5 rfl ?_
    refine gs_n 7 a_X1_startOf_6 rfl ?_
    refine gs_get 10 a_X1_startOf_7 f_1_34 (by first | assumption | exact hs_same _ _ _ | exact (hs_ne _ _ (by first | assumption | decide | omega)).trans (by first | assumption | exact hs_same _ _ _ | exact (hs_ne _ _ (by first | assumption | decide | omega)).trans (by first | assumption | exact hs_same _ _ _ | exact (hs_ne _ _ (by first | assumption | decide | omega)).trans (by first | assumption | exact hs_same _ _ _ | exact (hs_ne _ _ (by first | assumption | decide | omega)).trans (by first | assumption | exact hs_same _ _ _))))) rfl rfl ?_
    refine gs_ic 24 13 a_X1_startOf_10 rfl rfl (fun c2 => ?_) (fun c2 => ?_)
    · have c2 : nI es.length < nI o := c2
      rw [nI_ltI (by omega) (by omega)] at c2
      omega
    · refine gs_n 14 a_X1_startOf_13 rfl ?_
      refine gs_get 17 a_X1_startOf_14 f_1_20 (by first | assumption | exact hs_same _ _ _ | exact (hs_ne _ _ (by first | assumption | decide | omega)).trans (by first | assumption | exact hs_same _ _ _ | exact (hs_ne _ _ (by first | assumption | decide | omega)).trans (by first | assumption | exact hs_same _ _ _ | exact (hs_ne _ _ (by first | assumption | decide | omega)).trans (by first | assumption | exact hs_same _ _ _ | exact (hs_ne _ _ (by first | assumption | decide | omega)).trans (by first | assumption | exact hs_same _ _ _))))) rfl rfl ?_
      refine gs_n 18 a_X1_startOf_17 rfl ?_
      refine gs_k (nI 1) 19 a_X1_startOf_18 (by decide +kernel) rfl ?_
      refine gs_n 20 a_X1_startOf_19 rfl ?_
      refine gs_ia (o - 1) 21 a_X1_startOf_20 (by first | assumption | exact hs_same _ _ _ | exact (hs_ne _ _ (by first | assumption | decide | omega)).trans (by first | assumption | exact hs_same _ _ _ | exact (hs_ne _ _ (by first | assumption | decide | omega)).trans (by first | assumption | exact hs_same _ _ _ | exact (hs_ne _ _ (by first | assumption | decide | omega)).trans (by first | assumption | exact hs_same _ _ _ | exact (hs_ne _ _ (by first | assumption | decide | omega)).trans (by first | assumption | exact hs_same _ _ _))))) (pk_sub (by omega)) (by omega) (by omega) rfl ?_
      refine gs_n 25 a_X1_startOf_21 rfl ?_
      refine gs_iret a_X1_startOf_25 rfl rfl ?_
      rw [h4 _ (by omega), show o - 1 + 1 = o by omega]
theorem e_field {d : Nat} {h : ix_H} {L : Nat} {es : List En} {tn : List Nat} (o w n : Nat) (ho : o < es.length) (hw : w + n ≤ (encP (es.getD o en0)).length) (hl : LogAt h L es tn) : ev (d + 2) n_X1_field [.ref L, .int (nI o), .int (nI w), .int (nI n)] h (fun u => u = (some (.int (nI (beN (((encP (es.getD o en0)).drop w).take n)))), h)) := by
  have hlen := hl.len
  have hl0 := hl
  obtain ⟨h1, h2, ⟨f, h3, h4⟩, h5, h6, h7⟩ := hl
  have hr1 := h2.1
  refine ev_of q_X1_field (Nat.le_of_ble_eq_true rfl) ?_
  refine gs_n 1 a_X1_field_0 rfl ?_
  refine gs_get 4 a_X1_field_1 f_1_14 (by first | assumption | exact hs_same _ _ _ | exact (hs_ne _ _ (by first | assumption | decide | omega)).trans (by first | assumption | exact hs_same _ _ _ | exact (hs_ne _ _ (by first | assumption | decide | omega)).trans (by first | assumption | exact hs_same _ _ _ | exact (hs_ne _ _ (by first | assumption | decide | omega)).trans (by first | assumption | exact hs_same _ _ _ | exact (hs_ne _ _ (by first | assumption | decide | omega)).trans (by first | assumption | exact hs_same _ _ _))))) rfl rfl ?_
  refine gs_n 5 a_X1_field_4 rfl ?_
  refine gs_n 6 a_X1_field_5 rfl ?_
  refine gs_cv 9 a_X1_field_6 k_1_55 q_X1_startOf (e_startOf o (Nat.le_of_lt ho) hl0) rfl rfl rfl (by simp [Value.category]) (by first | assumption | exact hs_same _ _ _ | exact (hs_ne _ _ (by first | assumption | decide | omega)).trans (by first | assumption | exact hs_same _ _ _ | exact (hs_ne _ _ (by first | assumption | decide | omega)).trans (by first | assumption | exact hs_same _ _ _ | exact (hs_ne _ _ (by first | assumption | decide | omega)).trans (by first | assumption | exact hs_same _ _ _ | exact (hs_ne _ _ (by first | assumption | decide | omega)).trans (by first | assumption | exact hs_same _ _ _))))) rfl (fun v h1 hp => ?_)
  cases hp
  refine gs_n 10 a_X1_field_9 rfl ?_
  refine gs_n 11 a_X1_field_10 rfl ?_
  refine gs_n 12 a_X1_field_11 rfl ?_
  have hoff : off es o + w + n ≤ (es.flatMap encP ++ tn).length := by
    have h8 := off_mono (es := es) (i := o + 1) (j := es.length) (by omega) (Nat.le_refl _)
    rw [off_succ ho, off_len] at h8
    rw [List.length_append]
    omega
  refine gs_at_2 (nI (off es o + w)) (nI_add _ _) ?_
  refine gs_cv 15 a_X1_field_12 k_1_58 q_X0_number (e_number (off es o + w) n h2 hoff) rfl rfl rfl (by simp [Value.category]) (by first | assumption | exact hs_same _ _ _ | exact (hs_ne _ _ (by first | assumption | decide | omega)).trans (by first | assumption | exact hs_same _ _ _ | exact (hs_ne _ _ (by first | assumption | decide | omega)).trans (by first | assumption | exact hs_same _ _ _ | exact (hs_ne _ _ (by first | assumption | decide | omega)).trans (by first | assumption | exact hs_same _ _ _ | exact (hs_ne _ _ (by first | assumption | decide | omega)).trans (by first | assumption | exact hs_same _ _ _))))) rfl (fun v h1 hp => ?_)
  cases hp
  refine gs_iret a_X1_field_15 rfl rfl ?_
  rw [take_field tn ho hw]
