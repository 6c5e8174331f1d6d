/-! Log: kinds, senders -/
def b01 (b : Bool) : Int32 := if b then nI 1 else nI 0
theorem b01_0 (b : Bool) : b01 b = 0 ↔ b = false := by cases b <;> decide +kernel
theorem b01_ok (b : Bool) : ix_ok .boolean (.int (b01 b)) = true := by cases b <;> decide +kernel
theorem dec1 (x : Int32) : x + Int32.ofInt (-1) = x - nI 1 := by
  rw [Int32.sub_eq_add_neg]
  rfl
theorem m1_neg (j : Nat) (hj : j < 2 ^ 30) : nI j - nI 1 < 0 ↔ j = 0 := by
  cases j with
  | zero => exact ⟨fun _ => rfl, fun _ => by decide +kernel⟩
  | succ j =>
    rw [pk_sub (by omega)]
    exact ⟨fun z => absurd z (nI_pos (by omega)), fun z => by omega⟩
theorem m1_succ (j : Nat) : nI (j + 1) - nI 1 = nI j := by rw [pk_sub (by omega)]; rfl
theorem e_kindOf {d : Nat} {h : ix_H} {L : Nat} {es : List En} {tn : List Nat} (o : Nat) (ho : o < es.length) (hl : LogAt h L es tn) : ev (d + 2) n_X1_kindOf [.ref L, .int (nI o)] h (fun u => u = (some (.int (nI (eK (es.getD o en0)))), h)) := by
  have hlen := hl.len
  have hl0 := hl
  obtain ⟨h1, h2, ⟨f, h3, h4⟩, h5, h6, h7⟩ := hl
  have hr1 := h2.1
  have hok := h7 _ (getD_mem ho)
  have hle := encP_len hok
  refine ev_of q_X1_kindOf (Nat.le_of_ble_eq_true rfl) ?_
  refine gs_n 1 a_X1_kindOf_0 rfl ?_
  refine gs_get 4 a_X1_kindOf_1 f_1_14 (by first | assumption | exact hs_same _ _ _ | exact (hs_ne _ _ (by first | assumption | decide | omega)).trans (by first | assumption | exact hs_same _ _ _ | exact (hs_ne _ _ (by first | assumption | decide | omega)).trans (by first | assumption | exact hs_same _ _ _ | exact (hs_ne _ _ (by first | assumption | decide | omega)).trans (by first | assumption | exact hs_same _ _ _ | exact (hs_ne _ _ (by first | assumption | decide | omega)).trans (by first | assumption | exact hs_same _ _ _))))) rfl rfl ?_
  refine gs_n 5 a_X1_kindOf_4 rfl ?_
  refine gs_n 6 a_X1_kindOf_5 rfl ?_
  refine gs_cv 9 a_X1_kindOf_6 k_1_55 q_X1_startOf (e_startOf o (Nat.le_of_lt ho) hl0) rfl rfl rfl (by simp [Value.category]) (by first | assumption | exact hs_same _ _ _ | exact (hs_ne _ _ (by first | assumption | decide | omega)).trans (by first | assumption | exact hs_same _ _ _ | exact (hs_ne _ _ (by first | assumption | decide | omega)).trans (by first | assumption | exact hs_same _ _ _ | exact (hs_ne _ _ (by first | assumption | decide | omega)).trans (by first | assumption | exact hs_same _ _ _ | exact (hs_ne _ _ (by first | assumption | decide | omega)).trans (by first | assumption | exact hs_same _ _ _))))) rfl (fun v h1 hp => ?_)
  cases hp
  refine gs_k (nI 6) 11 a_X1_kindOf_9 (by decide +kernel) rfl ?_
  refine gs_n 12 a_X1_kindOf_11 rfl ?_
  refine gs_k (nI 1) 13 a_X1_kindOf_12 (by decide +kernel) rfl ?_
  have hoff : off es o + 6 + 1 ≤ (es.flatMap encP ++ tn).length := by
    have h8 := off_mono (es := es) (i := o + 1) (j := es.length) (by omega) (Nat.le_refl _)
    rw [off_succ ho, off_len] at h8
    rw [List.length_append]
    omega
  refine gs_at_2 (nI (off es o + 6)) (nI_add _ _) ?_
  refine gs_cv 16 a_X1_kindOf_13 k_1_58 q_X0_number (e_number (off es o + 6) 1 h2 hoff) rfl rfl rfl (by simp [Value.category]) (by first | assumption | exact hs_same _ _ _ | exact (hs_ne _ _ (by first | assumption | decide | omega)).trans (by first | assumption | exact hs_same _ _ _ | exact (hs_ne _ _ (by first | assumption | decide | omega)).trans (by first | assumption | exact hs_same _ _ _ | exact (hs_ne _ _ (by first | assumption | decide | omega)).trans (by first | assumption | exact hs_same _ _ _ | exact (hs_ne _ _ (by first | assumption | decide | omega)).trans (by first | assumption | exact hs_same _ _ _))))) rfl (fun v h1 hp => ?_)
  cases hp
  refine gs_iret a_X1_kindOf_16 rfl rfl ?_
  rw [take_field tn ho (by omega), (encP_f _).2.1, beN1 (by have := hok.1; omega)]
theorem e_isSeen {d : Nat} {h : ix_H} {L : Nat} {es : List En} {tn : List Nat} (o : Nat) (ho : o < es.length) (hl : LogAt h L es tn) : ev (d + 3) n_X1_isSeen [.ref L, .int (nI o)] h (fun u => u = (some (.int (b01 (decide (eK (es.getD o en0) ≤ 1)))), h)) := by
  have hl1 := hl.1
  have hk := (hl.2.2.2.2.2 _ (getD_mem ho)).1
  refine ev_of q_X1_isSeen (Nat.le_of_ble_eq_true rfl) ?_
  refine gs_n 1 a_X1_isSeen_0 rfl ?_
  refine gs_n 2 a_X1_isSeen_1 rfl ?_
  refine gs_cv 5 a_X1_isSeen_2 k_1_62 q_X1_kindOf (e_kindOf o ho hl) rfl rfl rfl (by simp [Value.category]) (by first | assumption | exact hs_same _ _ _ | exact (hs_ne _ _ (by first | assumption | decide | omega)).trans (by first | assumption | exact hs_same _ _ _ | exact (hs_ne _ _ (by first | assumption | decide | omega)).trans (by first | assumption | exact hs_same _ _ _ | exact (hs_ne _ _ (by first | assumption | decide | omega)).trans (by first | assumption | exact hs_same _ _ _ | exact (hs_ne _ _ (by first | assumption | decide | omega)).trans (by first | assumption | exact hs_same _ _ _))))) rfl (fun v h1 hp => ?_)
  cases hp
  generalize eK (es.getD o en0) = k at hk
  refine gs_n 6 a_X1_isSeen_5 rfl ?_
  refine gs_n 7 a_X1_isSeen_6 rfl ?_
  refine gs_if 15 10 a_X1_isSeen_7 rfl rfl (fun c => ?_) (fun c => ?_)
  · have c : nI k = nI 0 := c
    rw [nI_eq (by omega) (by omega)] at c
    refine gs_k (nI 1) 16 a_X1_isSeen_15 (by decide +kernel) rfl ?_
    refine gs_n 20 a_X1_isSeen_16 rfl ?_
    refine gs_iret a_X1_isSeen_20 rfl rfl ?_
    simp [c, b01]
  · have c : ¬ nI k = nI 0 := c
    rw [nI_eq (by omega) (by omega)] at c
    refine gs_n 11 a_X1_isSeen_10 rfl ?_
    refine gs_k (nI 1) 12 a_X1_isSeen_11 (by decide +kernel) rfl ?_
    refine gs_ic 19 15 a_X1_isSeen_12 rfl rfl (fun c2 => ?_) (fun c2 => ?_)
    · have c2 : ¬ nI k = nI 1 := c2
      rw [nI_eq (by omega) (by omega)] at c2
      refine gs_k (nI 0) 20 a_X1_isSeen_19 (by decide +kernel) rfl ?_
      refine gs_iret a_X1_isSeen_20 rfl rfl ?_
      simp [b01, show ¬ (k ≤ 1) by omega]
    · have c2 : nI k = nI 1 := Classical.byContradiction c2
      rw [nI_eq (by omega) (by omega)] at c2
      refine gs_k (nI 1) 16 a_X1_isSeen_15 (by decide +kernel) rfl ?_
      refine gs_n 20 a_X1_isSeen_16 rfl ?_
      refine gs_iret a_X1_isSeen_20 rfl rfl ?_
      simp [c2, b01]
theorem e_has {d : Nat} {h : ix_H} {L : Nat} {es : List En} {tn : List Nat} (x : Int32) (hl : LogAt h L es tn) : ev (d + 1) n_X1_has [.ref L, .int x] h (fun u => u = (some (.int (b01 (decide (0 ≤ x.toInt ∧ x.toInt < es.length)))), h)) := by
  have hlen := hl.len
  have hl1 := hl.1
  refine ev_of q_X1_has (Nat.le_of_ble_eq_true rfl) ?_
  refine gs_n 1 a_X1_has_0 rfl ?_
  refine gs_if 16 4 a_X1_has_1 rfl rfl (fun c => ?_) (fun c => ?_)
  · have c : x < 0 := c
    rw [lt0_iff] at c
    refine gs_k (nI 0) 17 a_X1_has_16 (by decide +kernel) rfl ?_
    refine gs_iret a_X1_has_17 rfl rfl ?_
    simp [b01, show ¬ (0 ≤ x.toInt) by omega]
  · have c : ¬ x < 0 := c
    rw [lt0_iff] at c
    refine gs_n 5 a_X1_has_4 rfl ?_
    refine gs_n 6 a_X1_has_5 rfl ?_
    refine gs_get 9 a_X1_has_6 f_1_34 (by first | assumption | exact hs_same _ _ _ | exact (hs_ne _ _ (by first | assumption | decide | omega)).trans (by first | assumption | exact hs_same _ _ _ | exact (hs_ne _ _ (by first | assumption | decide | omega)).trans (by first | assumption | exact hs_same _ _ _ | exact (hs_ne _ _ (by first | assumption | decide | omega)).trans (by first | assumption | exact hs_same _ _ _ | exact (hs_ne _ _ (by first | assumption | decide | omega)).trans (by first | assumption | exact hs_same _ _ _))))) rfl rfl ?_
    refine gs_ic 16 12 a_X1_has_9 rfl rfl (fun c2 => ?_) (fun c2 => ?_)
    · have c2 : nI es.length ≤ x := c2
      rw [ix_le_nI (by omega)] at c2
      refine gs_k (nI 0) 17 a_X1_has_16 (by decide +kernel) rfl ?_
      refine gs_iret a_X1_has_17 rfl rfl ?_
      simp [b01, show ¬ (x.toInt < es.length) by omega]
    · have c2 : ¬ nI es.length ≤ x := c2
      rw [ix_le_nI (by omega)] at c2
      refine gs_k (nI 1) 13 a_X1_has_12 (by decide +kernel) rfl ?_
      refine gs_n 17 a_X1_has_13 rfl ?_
      refine gs_iret a_X1_has_17 rfl rfl ?_
      simp [b01, show 0 ≤ x.toInt by omega, show x.toInt < es.length by omega]
/-- a PLAIN or PART entry of this key and epoch -/
def sent (key ep : Nat) (e : En) : Bool := decide (eK e ≤ 1) && (decide (eY e = key) && decide (eE e = ep))
theorem e_isSentBy {d : Nat} {h : ix_H} {L : Nat} {es : List En} {tn : List Nat} (o key ep : Nat) (hkey : key < 2 ^ 31) (hep : ep < 2 ^ 31) (ho : o < es.length) (hl : LogAt h L es tn) : ev (d + 4) n_X1_isSentBy [.ref L, .int (nI o), .int (nI key), .int (nI ep)] h (fun u => u = (some (.int (b01 (sent key ep (es.getD o en0)))), h)) := by
  have hl1 := hl.1
  have hok := hl.2.2.2.2.2 _ (getD_mem ho)
  have hle := encP_len hok
  refine ev_of q_X1_isSentBy (Nat.le_of_ble_eq_true rfl) ?_
  refine gs_n 1 a_X1_isSentBy_0 rfl ?_
  refine gs_n 2 a_X1_isSentBy_1 rfl ?_
  refine gs_cv 5 a_X1_isSentBy_2 k_1_68 q_X1_isSeen (e_isSeen o ho hl) rfl rfl rfl (by simp [Value.category]) (by first | assumption | exact hs_same _ _ _ | exact (hs_ne _ _ (by first | assumption | decide | omega)).trans (by first | assumption | exact hs_same _ _ _ | exact (hs_ne _ _ (by first | assumption | decide | omega)).trans (by first | assumption | exact hs_same _ _ _ | exact (hs_ne _ _ (by first | assumption | decide | omega)).trans (by first | assumption | exact hs_same _ _ _ | exact (hs_ne _ _ (by first | assumption | decide | omega)).trans (by first | assumption | exact hs_same _ _ _))))) rfl (fun v h1 hp => ?_)
  cases hp
  refine gs_if 36 8 a_X1_isSentBy_5 rfl rfl (fun c => ?_) (fun c => ?_)
  · have c := (b01_0 _).mp c
    refine gs_k (nI 0) 37 a_X1_isSentBy_36 (by decide +kernel) rfl ?_
    refine gs_iret a_X1_isSentBy_37 rfl rfl ?_
    simp only [sent, c]
    rfl
  · have c : decide (eK (es.getD o en0) ≤ 1) = true := by
      have : ¬ decide (eK (es.getD o en0) ≤ 1) = false := fun z => c ((b01_0 _).mpr z)
      simpa using this
    refine gs_n 9 a_X1_isSentBy_8 rfl ?_
    refine gs_n 10 a_X1_isSentBy_9 rfl ?_
    refine gs_k (nI 7) 12 a_X1_isSentBy_10 (by decide +kernel) rfl ?_
    refine gs_k (nI 1) 13 a_X1_isSentBy_12 (by decide +kernel) rfl ?_
    refine gs_cv 16 a_X1_isSentBy_13 k_1_72 q_X1_field (e_field o 7 1 ho (by omega) hl) rfl rfl rfl (by simp [Value.category]) (by first | assumption | exact hs_same _ _ _ | exact (hs_ne _ _ (by first | assumption | decide | omega)).trans (by first | assumption | exact hs_same _ _ _ | exact (hs_ne _ _ (by first | assumption | decide | omega)).trans (by first | assumption | exact hs_same _ _ _ | exact (hs_ne _ _ (by first | assumption | decide | omega)).trans (by first | assumption | exact hs_same _ _ _ | exact (hs_ne _ _ (by first | assumption | decide | omega)).trans (by first | assumption | exact hs_same _ _ _))))) rfl (fun v h1 hp => ?_)
    cases hp
    refine gs_n 17 a_X1_isSentBy_16 rfl ?_
    rw [(encP_f _).2.2.1, beN1 (by have := hok.2.1; omega)]
    refine gs_ic 36 20 a_X1_isSentBy_17 rfl rfl (fun c2 => ?_) (fun c2 => ?_)
    · have c2 : ¬ nI (eY (es.getD o en0)) = nI key := c2
      rw [nI_eq (by have := hok.2.1; omega) hkey] at c2
      refine gs_k (nI 0) 37 a_X1_isSentBy_36 (by decide +kernel) rfl ?_
      refine gs_iret a_X1_isSentBy_37 rfl rfl ?_
      rw [show sent key ep (es.getD o en0) = false by unfold sent; rw [decide_eq_false c2, Bool.false_and, Bool.and_false]]
      rfl
    · have c2 : nI (eY (es.getD o en0)) = nI key := Classical.byContradiction c2
      rw [nI_eq (by have := hok.2.1; omega) hkey] at c2
      refine gs_n 21 a_X1_isSentBy_20 rfl ?_
      refine gs_n 22 a_X1_isSentBy_21 rfl ?_
      refine gs_k (nI 8) 24 a_X1_isSentBy_22 (by decide +kernel) rfl ?_
      refine gs_k (nI 2) 25 a_X1_isSentBy_24 (by decide +kernel) rfl ?_
      refine gs_cv 28 a_X1_isSentBy_25 k_1_72 q_X1_field (e_field o 8 2 ho (by omega) hl) rfl rfl rfl (by simp [Value.category]) (by first | assumption | exact hs_same _ _ _ | exact (hs_ne _ _ (by first | assumption | decide | omega)).trans (by first | assumption | exact hs_same _ _ _ | exact (hs_ne _ _ (by first | assumption | decide | omega)).trans (by first | assumption | exact hs_same _ _ _ | exact (hs_ne _ _ (by first | assumption | decide | omega)).trans (by first | assumption | exact hs_same _ _ _ | exact (hs_ne _ _ (by first | assumption | decide | omega)).trans (by first | assumption | exact hs_same _ _ _))))) rfl (fun v h1 hp => ?_)
      cases hp
      refine gs_n 29 a_X1_isSentBy_28 rfl ?_
      rw [(encP_f _).2.2.2.1, beN2 (by have := hok.2.2.1; omega)]
      refine gs_ic 36 32 a_X1_isSentBy_29 rfl rfl (fun c3 => ?_) (fun c3 => ?_)
      · have c3 : ¬ nI (eE (es.getD o en0)) = nI ep := c3
        rw [nI_eq (by have := hok.2.2.1; omega) hep] at c3
        refine gs_k (nI 0) 37 a_X1_isSentBy_36 (by decide +kernel) rfl ?_
        refine gs_iret a_X1_isSentBy_37 rfl rfl ?_
        rw [show sent key ep (es.getD o en0) = false by unfold sent; rw [decide_eq_false c3, Bool.and_false, Bool.and_false]]
        rfl
      · have c3 : nI (eE (es.getD o en0)) = nI ep := Classical.byContradiction c3
        rw [nI_eq (by have := hok.2.2.1; omega) hep] at c3
        refine gs_k (nI 1) 33 a_X1_isSentBy_32 (by decide +kernel) rfl ?_
        refine gs_n 37 a_X1_isSentBy_33 rfl ?_
        refine gs_iret a_X1_isSentBy_37 rfl rfl ?_
        simp only [sent, c, c2, c3]
        simp [b01]
theorem take_rev {es : List En} {j : Nat} (h : j < es.length) : (es.take (j + 1)).reverse = es.getD j en0 :: (es.take j).reverse := by
  rw [List.take_succ, List.reverse_append]
  simp [List.getD, List.getElem?_eq_getElem h]
/-- NEXT -/
def nxt (es : List En) (key ep : Nat) : Nat := match es.reverse.find? (sent key ep) with
  | some e => eA e + 1
  | none => 0
theorem l_nextOf {d : Nat} {h : ix_H} {L : Nat} {es : List En} {tn : List Nat} (key ep : Nat) (hkey : key < 2 ^ 31) (hep : ep < 2 ^ 31) (hl : LogAt h L es tn) : ∀ j, j ≤ es.length →
    gs none (d + 4) mD_X1_nextOf (7, [(3, .int (nI j - nI 1)), (0, .ref L), (1, .int (nI key)), (2, .int (nI ep))], [], h) (fun u => u = (some (.int (nI (nxt (es.take j) key ep))), h)) := by
  have hlen := hl.len
  have hl1 := hl.1
  intro j
  induction j with
  | zero =>
    intro hj
    refine gs_n 8 a_X1_nextOf_7 rfl ?_
    refine gs_if 38 11 a_X1_nextOf_8 rfl rfl (fun c => ?_) (fun c => ?_)
    · refine gs_k (nI 0) 39 a_X1_nextOf_38 (by decide +kernel) rfl ?_
      refine gs_iret a_X1_nextOf_39 rfl rfl ?_
      rfl
    · exact absurd ((m1_neg 0 (by omega)).mpr rfl) c
  | succ j ih =>
    intro hj
    have hok := hl.2.2.2.2.2 _ (getD_mem (show j < es.length by omega))
    have hle := encP_len hok
    rw [m1_succ]
    refine gs_n 8 a_X1_nextOf_7 rfl ?_
    refine gs_if 38 11 a_X1_nextOf_8 rfl rfl (fun c => ?_) (fun c => ?_)
    · exact absurd c (nI_pos (by omega))
    · refine gs_n 12 a_X1_nextOf_11 rfl ?_
      refine gs_n 13 a_X1_nextOf_12 rfl ?_
      refine gs_n 14 a_X1_nextOf_13 rfl ?_
      refine gs_n 15 a_X1_nextOf_14 rfl ?_
      refine gs_cv 18 a_X1_nextOf_15 k_1_76 q_X1_isSentBy (e_isSentBy j key ep hkey hep (by omega) hl) rfl rfl rfl (by simp [Value.category]) (by first | assumption | exact hs_same _ _ _ | exact (hs_ne _ _ (by first | assumption | decide | omega)).trans (by first | assumption | exact hs_same _ _ _ | exact (hs_ne _ _ (by first | assumption | decide | omega)).trans (by first | assumption | exact hs_same _ _ _ | exact (hs_ne _ _ (by first | assumption | decide | omega)).trans (by first | assumption | exact hs_same _ _ _ | exact (hs_ne _ _ (by first | assumption | decide | omega)).trans (by first | assumption | exact hs_same _ _ _))))) rfl (fun v h1 hp => ?_)
      cases hp
      refine gs_if 32 21 a_X1_nextOf_18 rfl rfl (fun c2 => ?_) (fun c2 => ?_)
      · have c2 := (b01_0 _).mp c2
        refine gs_n 35 a_X1_nextOf_32 rfl ?_
        refine gs_n 7 a_X1_nextOf_35 rfl ?_
        refine gs_w [(3, .int (nI j + Int32.ofInt (-1))), (0, .ref L), (1, .int (nI key)), (2, .int (nI ep))] (by simp [ix_nd]) (by intro x hx; simp only [List.mem_cons, List.not_mem_nil, or_false] at hx; rcases hx with rfl | rfl | rfl | rfl <;> rfl) ?_
        rw [dec1]
        refine gs_post (ih (by omega)) ?_
        rintro u rfl
        simp only [nxt, take_rev (show j < es.length by omega), List.find?_cons, c2]
      · have c2 : sent key ep (es.getD j en0) = true := by
          have : ¬ sent key ep (es.getD j en0) = false := fun z => c2 ((b01_0 _).mpr z)
          simpa using this
        refine gs_n 22 a_X1_nextOf_21 rfl ?_
        refine gs_n 23 a_X1_nextOf_22 rfl ?_
        refine gs_k (nI 10) 25 a_X1_nextOf_23 (by decide +kernel) rfl ?_
        refine gs_k (nI 4) 26 a_X1_nextOf_25 (by decide +kernel) rfl ?_
        refine gs_cv 29 a_X1_nextOf_26 k_1_72 q_X1_field (e_field j 10 4 (by omega) (by omega) hl) rfl rfl rfl (by simp [Value.category]) (by first | assumption | exact hs_same _ _ _ | exact (hs_ne _ _ (by first | assumption | decide | omega)).trans (by first | assumption | exact hs_same _ _ _ | exact (hs_ne _ _ (by first | assumption | decide | omega)).trans (by first | assumption | exact hs_same _ _ _ | exact (hs_ne _ _ (by first | assumption | decide | omega)).trans (by first | assumption | exact hs_same _ _ _ | exact (hs_ne _ _ (by first | assumption | decide | omega)).trans (by first | assumption | exact hs_same _ _ _))))) rfl (fun v h1 hp => ?_)
        cases hp
        rw [(encP_f _).2.2.2.2.1, beN4 hok.2.2.2.1]
        refine gs_k (nI 1) 30 a_X1_nextOf_29 (by decide +kernel) rfl ?_
        refine gs_n 31 a_X1_nextOf_30 rfl ?_
        refine gs_iret a_X1_nextOf_31 rfl rfl ?_
        rw [nI_add]
        simp only [nxt, take_rev (show j < es.length by omega), List.find?_cons, c2]
theorem e_nextOf {d : Nat} {h : ix_H} {L : Nat} {es : List En} {tn : List Nat} (key ep : Nat) (hkey : key < 2 ^ 31) (hep : ep < 2 ^ 31) (hl : LogAt h L es tn) : ev (d + 5) n_X1_nextOf [.ref L, .int (nI key), .int (nI ep)] h (fun u => u = (some (.int (nI (nxt es key ep))), h)) := by
  have hl1 := hl.1
  refine ev_of q_X1_nextOf (Nat.le_of_ble_eq_true rfl) ?_
  refine gs_n 1 a_X1_nextOf_0 rfl ?_
  refine gs_get 4 a_X1_nextOf_1 f_1_34 (by first | assumption | exact hs_same _ _ _ | exact (hs_ne _ _ (by first | assumption | decide | omega)).trans (by first | assumption | exact hs_same _ _ _ | exact (hs_ne _ _ (by first | assumption | decide | omega)).trans (by first | assumption | exact hs_same _ _ _ | exact (hs_ne _ _ (by first | assumption | decide | omega)).trans (by first | assumption | exact hs_same _ _ _ | exact (hs_ne _ _ (by first | assumption | decide | omega)).trans (by first | assumption | exact hs_same _ _ _))))) rfl rfl ?_
  refine gs_k (nI 1) 5 a_X1_nextOf_4 (by decide +kernel) rfl ?_
  refine gs_n 6 a_X1_nextOf_5 rfl ?_
  refine gs_n 7 a_X1_nextOf_6 rfl ?_
  refine gs_w [(3, .int (nI es.length - nI 1)), (0, .ref L), (1, .int (nI key)), (2, .int (nI ep))] (by simp [ix_nd]) (by intro x hx; simp only [List.mem_cons, List.not_mem_nil, or_false] at hx; rcases hx with rfl | rfl | rfl | rfl <;> rfl) ?_
  refine gs_post (l_nextOf key ep hkey hep hl es.length (Nat.le_refl _)) ?_
  rintro u rfl
  rw [List.take_of_length_le (Nat.le_refl _)]
/-- the offset of a number among the five latest -/
def recI (es : List En) (key ep : Nat) (num : Int32) : Nat → Nat → Option Nat
  | 0, _ => none
  | j + 1, left => if left = 0 then none else if sent key ep (es.getD j en0) then (if nI (eA (es.getD j en0)) = num then some j else recI es key ep num j (left - 1)) else recI es key ep num j left
def oI (x : Option Nat) : Int32 := match x with
  | some n => nI n
  | none => -1
theorem l_recent {d : Nat} {h : ix_H} {L : Nat} {es : List En} {tn : List Nat} (key ep : Nat) (num : Int32) (hkey : key < 2 ^ 31) (hep : ep < 2 ^ 31) (hl : LogAt h L es tn) : ∀ j left, j ≤ es.length → left ≤ 5 →
    gs none (d + 4) mD_X1_offsetOfRecent (11, [(5, .int (nI j - nI 1)), (4, .int (nI (5 - left))), (0, .ref L), (1, .int (nI key)), (2, .int (nI ep)), (3, .int num)], [], h) (fun u => u = (some (.int (oI (recI es key ep num j left))), h)) := by
  have hlen := hl.len
  have hl1 := hl.1
  intro j
  induction j with
  | zero =>
    intro left hj hle5
    refine gs_n 13 a_X1_offsetOfRecent_11 rfl ?_
    refine gs_if 58 16 a_X1_offsetOfRecent_13 rfl rfl (fun c => ?_) (fun c => ?_)
    · refine gs_k (-1) 59 a_X1_offsetOfRecent_58 (by decide +kernel) rfl ?_
      refine gs_iret a_X1_offsetOfRecent_59 rfl rfl ?_
      rfl
    · exact absurd ((m1_neg 0 (by omega)).mpr rfl) c
  | succ j ih =>
    intro left hj hle5
    have hok := hl.2.2.2.2.2 _ (getD_mem (show j < es.length by omega))
    have hle := encP_len hok
    rw [m1_succ]
    refine gs_n 13 a_X1_offsetOfRecent_11 rfl ?_
    refine gs_if 58 16 a_X1_offsetOfRecent_13 rfl rfl (fun c => ?_) (fun c => ?_)
    · exact absurd c (nI_pos (by omega))
    · refine gs_n 18 a_X1_offsetOfRecent_16 rfl ?_
      refine gs_k (nI 5) 19 a_X1_offsetOfRecent_18 (by decide +kernel) rfl ?_
      refine gs_ic 58 22 a_X1_offsetOfRecent_19 rfl rfl (fun c1 => ?_) (fun c1 => ?_)
      · have c1 : nI 5 ≤ nI (5 - left) := c1
        rw [nI_leI (by omega) (by omega)] at c1
        refine gs_k (-1) 59 a_X1_offsetOfRecent_58 (by decide +kernel) rfl ?_
        refine gs_iret a_X1_offsetOfRecent_59 rfl rfl ?_
        simp only [recI, show left = 0 by omega, if_true]
        rfl
      · have c1 : ¬ nI 5 ≤ nI (5 - left) := c1
        rw [nI_leI (by omega) (by omega)] at c1
        refine gs_n 23 a_X1_offsetOfRecent_22 rfl ?_
        refine gs_n 25 a_X1_offsetOfRecent_23 rfl ?_
        refine gs_n 26 a_X1_offsetOfRecent_25 rfl ?_
        refine gs_n 27 a_X1_offsetOfRecent_26 rfl ?_
        refine gs_cv 30 a_X1_offsetOfRecent_27 k_1_76 q_X1_isSentBy (e_isSentBy j key ep hkey hep (by omega) hl) rfl rfl rfl (by simp [Value.category]) (by first | assumption | exact hs_same _ _ _ | exact (hs_ne _ _ (by first | assumption | decide | omega)).trans (by first | assumption | exact hs_same _ _ _ | exact (hs_ne _ _ (by first | assumption | decide | omega)).trans (by first | assumption | exact hs_same _ _ _ | exact (hs_ne _ _ (by first | assumption | decide | omega)).trans (by first | assumption | exact hs_same _ _ _ | exact (hs_ne _ _ (by first | assumption | decide | omega)).trans (by first | assumption | exact hs_same _ _ _))))) rfl (fun v h1 hp => ?_)
        cases hp
        refine gs_if 52 33 a_X1_offsetOfRecent_30 rfl rfl (fun c2 => ?_) (fun c2 => ?_)
        · have c2 := (b01_0 _).mp c2
          refine gs_n 55 a_X1_offsetOfRecent_52 rfl ?_
          refine gs_n 11 a_X1_offsetOfRecent_55 rfl ?_
          refine gs_w [(5, .int (nI j + Int32.ofInt (-1))), (4, .int (nI (5 - left))), (0, .ref L), (1, .int (nI key)), (2, .int (nI ep)), (3, .int num)] (by simp [ix_nd]) (by intro x hx; simp only [List.mem_cons, List.not_mem_nil, or_false] at hx; rcases hx with rfl | rfl | rfl | rfl | rfl | rfl <;> rfl) ?_
          rw [dec1]
          refine gs_post (ih left (by omega) hle5) ?_
          rintro u rfl
          simp only [recI, show ¬ left = 0 by omega, if_false, c2]
          rfl
        · have c2 : sent key ep (es.getD j en0) = true := by
            have : ¬ sent key ep (es.getD j en0) = false := fun z => c2 ((b01_0 _).mpr z)
            simpa using this
          refine gs_n 34 a_X1_offsetOfRecent_33 rfl ?_
          refine gs_n 36 a_X1_offsetOfRecent_34 rfl ?_
          refine gs_k (nI 10) 38 a_X1_offsetOfRecent_36 (by decide +kernel) rfl ?_
          refine gs_k (nI 4) 39 a_X1_offsetOfRecent_38 (by decide +kernel) rfl ?_
          refine gs_cv 42 a_X1_offsetOfRecent_39 k_1_72 q_X1_field (e_field j 10 4 (by omega) (by omega) hl) rfl rfl rfl (by simp [Value.category]) (by first | assumption | exact hs_same _ _ _ | exact (hs_ne _ _ (by first | assumption | decide | omega)).trans (by first | assumption | exact hs_same _ _ _ | exact (hs_ne _ _ (by first | assumption | decide | omega)).trans (by first | assumption | exact hs_same _ _ _ | exact (hs_ne _ _ (by first | assumption | decide | omega)).trans (by first | assumption | exact hs_same _ _ _ | exact (hs_ne _ _ (by first | assumption | decide | omega)).trans (by first | assumption | exact hs_same _ _ _))))) rfl (fun v h1 hp => ?_)
          cases hp
          rw [(encP_f _).2.2.2.2.1, beN4 hok.2.2.2.1]
          refine gs_n 43 a_X1_offsetOfRecent_42 rfl ?_
          refine gs_ic 49 46 a_X1_offsetOfRecent_43 rfl rfl (fun c3 => ?_) (fun c3 => ?_)
          · have c3 : ¬ nI (eA (es.getD j en0)) = num := c3
            first | refine gs_inc _ 52 a_X1_offsetOfRecent_49 rfl (Nat.le_of_ble_eq_true rfl) rfl ?_ | refine gs_n 52 a_X1_offsetOfRecent_49 rfl ?_
            refine gs_n 55 a_X1_offsetOfRecent_52 rfl ?_
            refine gs_n 11 a_X1_offsetOfRecent_55 rfl ?_
            refine gs_w [(5, .int (nI j + Int32.ofInt (-1))), (4, .int (nI (5 - left + 1))), (0, .ref L), (1, .int (nI key)), (2, .int (nI ep)), (3, .int num)] (by simp [ix_nd]) (by intro x hx; simp only [List.mem_cons, List.not_mem_nil, or_false] at hx; rcases hx with rfl | rfl | rfl | rfl | rfl | rfl <;> rfl) ?_
            rw [dec1, show 5 - left + 1 = 5 - (left - 1) by omega]
            refine gs_post (ih (left - 1) (by omega) (by omega)) ?_
            rintro u rfl
            simp only [recI, show ¬ left = 0 by omega, if_false, c2, c3, if_true]
          · have c3 : nI (eA (es.getD j en0)) = num := Classical.byContradiction c3
            refine gs_n 48 a_X1_offsetOfRecent_46 rfl ?_
            refine gs_iret a_X1_offsetOfRecent_48 rfl rfl ?_
            simp only [recI, show ¬ left = 0 by omega, if_false, c2, c3, if_true]
            rfl
theorem e_recent {d : Nat} {h : ix_H} {L : Nat} {es : List En} {tn : List Nat} (key ep : Nat) (num : Int32) (hkey : key < 2 ^ 31) (hep : ep < 2 ^ 31) (hl : LogAt h L es tn) : ev (d + 5) n_X1_offsetOfRecent [.ref L, .int (nI key), .int (nI ep), .int num] h (fun u => u = (some (.int (oI (recI es key ep num es.length 5))), h)) := by
  have hl1 := hl.1
  refine ev_of q_X1_offsetOfRecent (Nat.le_of_ble_eq_true rfl) ?_
  refine gs_k (nI 0) 1 a_X1_offsetOfRecent_0 (by decide +kernel) rfl ?_
  refine gs_n 3 a_X1_offsetOfRecent_1 rfl ?_
  refine gs_n 4 a_X1_offsetOfRecent_3 rfl ?_
  refine gs_get 7 a_X1_offsetOfRecent_4 f_1_34 (by first | assumption | exact hs_same _ _ _ | exact (hs_ne _ _ (by first | assumption | decide | omega)).trans (by first | assumption | exact hs_same _ _ _ | exact (hs_ne _ _ (by first | assumption | decide | omega)).trans (by first | assumption | exact hs_same _ _ _ | exact (hs_ne _ _ (by first | assumption | decide | omega)).trans (by first | assumption | exact hs_same _ _ _ | exact (hs_ne _ _ (by first | assumption | decide | omega)).trans (by first | assumption | exact hs_same _ _ _))))) rfl rfl ?_
  refine gs_k (nI 1) 8 a_X1_offsetOfRecent_7 (by decide +kernel) rfl ?_
  refine gs_n 9 a_X1_offsetOfRecent_8 rfl ?_
  refine gs_n 11 a_X1_offsetOfRecent_9 rfl ?_
  refine gs_w [(5, .int (nI es.length - nI 1)), (4, .int (nI (5 - 5))), (0, .ref L), (1, .int (nI key)), (2, .int (nI ep)), (3, .int num)] (by simp [ix_nd]) (by intro x hx; simp only [List.mem_cons, List.not_mem_nil, or_false] at hx; rcases hx with rfl | rfl | rfl | rfl | rfl | rfl <;> rfl) ?_
  exact l_recent key ep num hkey hep hl es.length 5 (Nat.le_refl _) (Nat.le_refl _)
/-- a COMMIT or ABORT of a transaction -/
def endOf (t : Nat) (e : En) : Bool := !decide (eK e ≤ 1) && decide (eA e = t)
theorem l_hasEnd {d : Nat} {h : ix_H} {L : Nat} {es : List En} {tn : List Nat} (t : Nat) (ht : t < 2 ^ 31) (hl : LogAt h L es tn) : ∀ j, j ≤ es.length →
    gs none (d + 4) mD_X1_hasEndOf (7, [(2, .int (nI j - nI 1)), (0, .ref L), (1, .int (nI t))], [], h) (fun u => u = (some (.int (b01 ((es.take j).any (endOf t)))), h)) := by
  have hlen := hl.len
  have hl1 := hl.1
  intro j
  induction j with
  | zero =>
    intro hj
    refine gs_n 8 a_X1_hasEndOf_7 rfl ?_
    refine gs_if 39 11 a_X1_hasEndOf_8 rfl rfl (fun c => ?_) (fun c => ?_)
    · refine gs_k (nI 0) 40 a_X1_hasEndOf_39 (by decide +kernel) rfl ?_
      refine gs_iret a_X1_hasEndOf_40 rfl rfl ?_
      rfl
    · exact absurd ((m1_neg 0 (by omega)).mpr rfl) c
  | succ j ih =>
    intro hj
    have hok := hl.2.2.2.2.2 _ (getD_mem (show j < es.length by omega))
    have hle := encP_len hok
    have hany : (es.take (j + 1)).any (endOf t) = ((es.take j).any (endOf t) || endOf t (es.getD j en0)) := by
      rw [List.take_succ, List.any_append]
      simp [List.getD, List.getElem?_eq_getElem (show j < es.length by omega)]
    rw [m1_succ, hany]
    have back : endOf t (es.getD j en0) = false → gs none (d + 4) mD_X1_hasEndOf (33, [(2, .int (nI j)), (0, .ref L), (1, .int (nI t))], [], h) (fun u => u = (some (.int (b01 ((es.take j).any (endOf t) || endOf t (es.getD j en0)))), h)) := by
      intro z
      refine gs_n 36 a_X1_hasEndOf_33 rfl ?_
      refine gs_n 7 a_X1_hasEndOf_36 rfl ?_
      refine gs_w [(2, .int (nI j + Int32.ofInt (-1))), (0, .ref L), (1, .int (nI t))] (by simp [ix_nd]) (by intro x hx; simp only [List.mem_cons, List.not_mem_nil, or_false] at hx; rcases hx with rfl | rfl | rfl <;> rfl) ?_
      rw [dec1, z, Bool.or_false]
      exact ih (by omega)
    refine gs_n 8 a_X1_hasEndOf_7 rfl ?_
    refine gs_if 39 11 a_X1_hasEndOf_8 rfl rfl (fun c => ?_) (fun c => ?_)
    · exact absurd c (nI_pos (by omega))
    · refine gs_n 12 a_X1_hasEndOf_11 rfl ?_
      refine gs_n 13 a_X1_hasEndOf_12 rfl ?_
      refine gs_cv 16 a_X1_hasEndOf_13 k_1_68 q_X1_isSeen (e_isSeen j (by omega) hl) rfl rfl rfl (by simp [Value.category]) (by first | assumption | exact hs_same _ _ _ | exact (hs_ne _ _ (by first | assumption | decide | omega)).trans (by first | assumption | exact hs_same _ _ _ | exact (hs_ne _ _ (by first | assumption | decide | omega)).trans (by first | assumption | exact hs_same _ _ _ | exact (hs_ne _ _ (by first | assumption | decide | omega)).trans (by first | assumption | exact hs_same _ _ _ | exact (hs_ne _ _ (by first | assumption | decide | omega)).trans (by first | assumption | exact hs_same _ _ _))))) rfl (fun v h1 hp => ?_)
      cases hp
      refine gs_if 33 19 a_X1_hasEndOf_16 rfl rfl (fun c2 => ?_) (fun c2 => ?_)
      · have c2 : decide (eK (es.getD j en0) ≤ 1) = true := by
          have : ¬ decide (eK (es.getD j en0) ≤ 1) = false := fun z => c2 ((b01_0 _).mpr z)
          simpa using this
        exact back (by simp only [endOf, c2]; rfl)
      · have c2 : decide (eK (es.getD j en0) ≤ 1) = false := (b01_0 _).mp (Classical.byContradiction c2)
        refine gs_n 20 a_X1_hasEndOf_19 rfl ?_
        refine gs_n 21 a_X1_hasEndOf_20 rfl ?_
        refine gs_k (nI 10) 23 a_X1_hasEndOf_21 (by decide +kernel) rfl ?_
        refine gs_k (nI 4) 24 a_X1_hasEndOf_23 (by decide +kernel) rfl ?_
        refine gs_cv 27 a_X1_hasEndOf_24 k_1_72 q_X1_field (e_field j 10 4 (by omega) (by omega) hl) rfl rfl rfl (by simp [Value.category]) (by first | assumption | exact hs_same _ _ _ | exact (hs_ne _ _ (by first | assumption | decide | omega)).trans (by first | assumption | exact hs_same _ _ _ | exact (hs_ne _ _ (by first | assumption | decide | omega)).trans (by first | assumption | exact hs_same _ _ _ | exact (hs_ne _ _ (by first | assumption | decide | omega)).trans (by first | assumption | exact hs_same _ _ _ | exact (hs_ne _ _ (by first | assumption | decide | omega)).trans (by first | assumption | exact hs_same _ _ _))))) rfl (fun v h1 hp => ?_)
        cases hp
        rw [(encP_f _).2.2.2.2.1, beN4 hok.2.2.2.1]
        refine gs_n 28 a_X1_hasEndOf_27 rfl ?_
        refine gs_ic 33 31 a_X1_hasEndOf_28 rfl rfl (fun c3 => ?_) (fun c3 => ?_)
        · have c3 : ¬ nI (eA (es.getD j en0)) = nI t := c3
          rw [nI_eq hok.2.2.2.1 ht] at c3
          exact back (by unfold endOf; rw [decide_eq_false c3, Bool.and_false])
        · have c3 : nI (eA (es.getD j en0)) = nI t := Classical.byContradiction c3
          rw [nI_eq hok.2.2.2.1 ht] at c3
          refine gs_k (nI 1) 32 a_X1_hasEndOf_31 (by decide +kernel) rfl ?_
          refine gs_iret a_X1_hasEndOf_32 rfl rfl ?_
          have : endOf t (es.getD j en0) = true := by simp only [endOf, c2, c3]; simp
          rw [this, Bool.or_true]
          rfl
theorem e_hasEnd {d : Nat} {h : ix_H} {L : Nat} {es : List En} {tn : List Nat} (t : Nat) (ht : t < 2 ^ 31) (hl : LogAt h L es tn) : ev (d + 5) n_X1_hasEndOf [.ref L, .int (nI t)] h (fun u => u = (some (.int (b01 (es.any (endOf t)))), h)) := by
  have hl1 := hl.1
  refine ev_of q_X1_hasEndOf (Nat.le_of_ble_eq_true rfl) ?_
  refine gs_n 1 a_X1_hasEndOf_0 rfl ?_
  refine gs_get 4 a_X1_hasEndOf_1 f_1_34 (by first | assumption | exact hs_same _ _ _ | exact (hs_ne _ _ (by first | assumption | decide | omega)).trans (by first | assumption | exact hs_same _ _ _ | exact (hs_ne _ _ (by first | assumption | decide | omega)).trans (by first | assumption | exact hs_same _ _ _ | exact (hs_ne _ _ (by first | assumption | decide | omega)).trans (by first | assumption | exact hs_same _ _ _ | exact (hs_ne _ _ (by first | assumption | decide | omega)).trans (by first | assumption | exact hs_same _ _ _))))) rfl rfl ?_
  refine gs_k (nI 1) 5 a_X1_hasEndOf_4 (by decide +kernel) rfl ?_
  refine gs_n 6 a_X1_hasEndOf_5 rfl ?_
  refine gs_n 7 a_X1_hasEndOf_6 rfl ?_
  refine gs_w [(2, .int (nI es.length - nI 1)), (0, .ref L), (1, .int (nI t))] (by simp [ix_nd]) (by intro x hx; simp only [List.mem_cons, List.not_mem_nil, or_false] at hx; rcases hx with rfl | rfl | rfl <;> rfl) ?_
  refine gs_post (l_hasEnd t ht hl es.length (Nat.le_refl _)) ?_
  rintro u rfl
  rw [List.take_of_length_le (Nat.le_refl _)]
