/-! ByteRow: numbers -/
theorem getD_append_l {l m : List Nat} {i : Nat} (h : i < l.length) : (l ++ m).getD i 0 = l.getD i 0 := by simp [List.getD, List.getElem?_append_left h]
theorem ushr_low (v : Int32) (k : Nat) (hk : k < 4) : (v.toUInt32 >>> ((nI (8 * k)).toUInt32 &&& Int32.toUInt32 31)).toInt32.toBitVec.toNat % 256 = v.toBitVec.toNat / 2 ^ (8 * k) % 256 := by
  rw [pk_ushr v (nI (8 * k)) (8 * k)]
  have : ∀ k, k < 4 → (((nI (8 * k)).toUInt32 &&& Int32.toUInt32 31).toBitVec % 32).toNat = 8 * k := by decide +kernel
  exact this k hk
theorem l_addNumber {d : Nat} {r a N : Nat} {v : Int32} : ∀ (k : Nat) (h : ix_H) (bs : List Nat) (sh : Int32), sh = nI (8 * k) - nI 8 → RowAt h r a N bs → bs.length + k ≤ N → k ≤ 4 →
    gs none (d + 1) mD_X0_addNumber (7, [(3, .int sh), (0, .ref r), (1, .int v)], [], h) (fun o => o.1 = none ∧ Fr [r, a] h o.2 ∧ RowAt o.2 r a N (bs ++ be k v)) := by
  intro k
  induction k with
  | zero =>
    intro h bs sh hsh hr hN hk
    subst hsh
    refine gs_n 8 a_X0_addNumber_7 rfl ?_
    refine gs_if 24 11 a_X0_addNumber_8 rfl rfl (fun c => ?_) (fun c => ?_)
    · refine gs_vret a_X0_addNumber_24 rfl ?_
      refine ⟨rfl, Fr.rf _ _, ?_⟩
      simpa [be] using hr
    · exact absurd (by decide +kernel : nI (8 * 0) - nI 8 < 0) c
  | succ k ih =>
    intro h bs sh hsh hr hN hk
    have hsh : sh = nI (8 * k) := by rw [hsh, pk_sub (by omega)]; congr 1
    subst hsh
    refine gs_n 8 a_X0_addNumber_7 rfl ?_
    refine gs_if 24 11 a_X0_addNumber_8 rfl rfl (fun c => ?_) (fun c => ?_)
    · exact absurd c (nI_pos (by omega))
    · refine gs_n 12 a_X0_addNumber_11 rfl ?_
      refine gs_n 13 a_X0_addNumber_12 rfl ?_
      refine gs_n 14 a_X0_addNumber_13 rfl ?_
      refine gs_n 15 a_X0_addNumber_14 rfl ?_
      have hrc := hr.1
      refine gs_cv 18 a_X0_addNumber_15 k_0_25 q_X0_add (e_add _ hr (by omega)) rfl rfl rfl (by simp [Value.category]) (by first | assumption | exact hs_same _ _ _ | exact (hs_ne _ _ (by first | assumption | decide | omega)).trans (by first | assumption | exact hs_same _ _ _ | exact (hs_ne _ _ (by first | assumption | decide | omega)).trans (by first | assumption | exact hs_same _ _ _ | exact (hs_ne _ _ (by first | assumption | decide | omega)).trans (by first | assumption | exact hs_same _ _ _ | exact (hs_ne _ _ (by first | assumption | decide | omega)).trans (by first | assumption | exact hs_same _ _ _))))) rfl (fun v h1 hp => ?_)
      obtain ⟨e1, hF, hR⟩ := hp
      subst e1
      refine gs_n 21 a_X0_addNumber_18 rfl ?_
      refine gs_n 7 a_X0_addNumber_21 rfl ?_
      refine gs_w [(3, .int (nI (8 * k) + Int32.ofInt (-8))), (0, .ref r), (1, .int v)] (by simp [ix_nd]) (by intro x hx; simp only [List.mem_cons, List.not_mem_nil, or_false] at hx; rcases hx with rfl | rfl | rfl <;> rfl) ?_
      rw [ushr_low v k (by omega)] at hR
      refine gs_post (ih h1 _ _ ?_ hR ?_ (by omega)) ?_
      · have : ∀ k, k < 4 → nI (8 * k) + Int32.ofInt (-8) = nI (8 * k) - nI 8 := by decide +kernel
        exact this k (by omega)
      · rw [List.length_append]; simp; omega
      · rintro o ⟨e1, hF2, hR2⟩
        refine ⟨e1, hF.trans hF2, ?_⟩
        simpa [be] using hR2
theorem e_addNumber {d : Nat} {h : ix_H} {r a N : Nat} {bs : List Nat} (v : Int32) (w : Nat) (hw : w ≤ 4) (hr : RowAt h r a N bs) (hN : bs.length + w ≤ N) : ev (d + 2) n_X0_addNumber [.ref r, .int v, .int (nI w)] h (fun o => o.1 = none ∧ Fr [r, a] h o.2 ∧ RowAt o.2 r a N (bs ++ be w v)) := by
  refine ev_of q_X0_addNumber (Nat.le_of_ble_eq_true rfl) ?_
  refine gs_k (nI 8) 2 a_X0_addNumber_0 (by decide +kernel) rfl ?_
  refine gs_n 3 a_X0_addNumber_2 rfl ?_
  refine gs_k (nI 1) 4 a_X0_addNumber_3 (by decide +kernel) rfl ?_
  refine gs_n 5 a_X0_addNumber_4 rfl ?_
  refine gs_n 6 a_X0_addNumber_5 rfl ?_
  refine gs_n 7 a_X0_addNumber_6 rfl ?_
  refine gs_w [(3, .int (nI 8 * (nI w - nI 1))), (0, .ref r), (1, .int v)] (by simp [ix_nd]) (by intro x hx; simp only [List.mem_cons, List.not_mem_nil, or_false] at hx; rcases hx with rfl | rfl | rfl <;> rfl) ?_
  refine l_addNumber w h bs _ ?_ hr hN hw
  have : ∀ w, w ≤ 4 → nI 8 * (nI w - nI 1) = nI (8 * w) - nI 8 := by decide +kernel
  exact this w hw
theorem beN_snoc (l : List Nat) (b : Nat) : beN (l ++ [b]) = beN l * 256 + b := by simp [beN, List.foldl_append]
theorem take_snoc {l : List Nat} {j : Nat} (h : j < l.length) : l.take (j + 1) = l.take j ++ [l.getD j 0] := by
  rw [List.take_succ]
  simp [List.getD, List.getElem?_eq_getElem h]
theorem l_number {d : Nat} {h : ix_H} {r a N : Nat} {bs : List Nat} (m w : Nat) (hr : RowAt h r a N bs) (hm : m + w ≤ bs.length) : ∀ (k j : Nat), j + k = w →
    gs none d mD_X0_number (19, [(4, .int (nI j)), (3, .int (nI (beN ((bs.drop m).take j)))), (0, .ref r), (1, .int (nI m)), (2, .int (nI w))], [], h) (fun o => o = (some (.int (nI (beN ((bs.drop m).take w)))), h)) := by
  obtain ⟨h1, ⟨f, h2, h3⟩, h4, h5, h6⟩ := hr
  intro k
  induction k with
  | zero =>
    intro j hj
    obtain rfl : j = w := by omega
    refine gs_n 21 a_X0_number_19 rfl ?_
    refine gs_n 22 a_X0_number_21 rfl ?_
    refine gs_ic 50 25 a_X0_number_22 rfl rfl (fun c => ?_) (fun c => ?_)
    · refine gs_n 51 a_X0_number_50 rfl ?_
      refine gs_iret a_X0_number_51 rfl rfl ?_
      rfl
    · exact absurd (nI_le (Nat.le_refl j) (by omega)) c
  | succ k ih =>
    intro j hj
    refine gs_n 21 a_X0_number_19 rfl ?_
    refine gs_n 22 a_X0_number_21 rfl ?_
    refine gs_ic 50 25 a_X0_number_22 rfl rfl (fun c => ?_) (fun c => ?_)
    · exact absurd c (nI_ge (by omega) (by omega))
    · refine gs_n 26 a_X0_number_25 rfl ?_
      refine gs_k (nI 8) 28 a_X0_number_26 (by decide +kernel) rfl ?_
      refine gs_n 29 a_X0_number_28 rfl ?_
      refine gs_n 30 a_X0_number_29 rfl ?_
      refine gs_get 33 a_X0_number_30 f_0_15 (by first | assumption | exact hs_same _ _ _ | exact (hs_ne _ _ (by first | assumption | decide | omega)).trans (by first | assumption | exact hs_same _ _ _ | exact (hs_ne _ _ (by first | assumption | decide | omega)).trans (by first | assumption | exact hs_same _ _ _ | exact (hs_ne _ _ (by first | assumption | decide | omega)).trans (by first | assumption | exact hs_same _ _ _ | exact (hs_ne _ _ (by first | assumption | decide | omega)).trans (by first | assumption | exact hs_same _ _ _))))) rfl rfl ?_
      refine gs_n 34 a_X0_number_33 rfl ?_
      refine gs_n 36 a_X0_number_34 rfl ?_
      refine gs_n 37 a_X0_number_36 rfl ?_
      refine gs_ba (m + j) 38 a_X0_number_37 (by first | assumption | exact hs_same _ _ _ | exact (hs_ne _ _ (by first | assumption | decide | omega)).trans (by first | assumption | exact hs_same _ _ _ | exact (hs_ne _ _ (by first | assumption | decide | omega)).trans (by first | assumption | exact hs_same _ _ _ | exact (hs_ne _ _ (by first | assumption | decide | omega)).trans (by first | assumption | exact hs_same _ _ _ | exact (hs_ne _ _ (by first | assumption | decide | omega)).trans (by first | assumption | exact hs_same _ _ _))))) (nI_add m j) (by omega) (by omega) rfl ?_
      refine gs_k (nI 255) 41 a_X0_number_38 (by decide +kernel) rfl ?_
      refine gs_n 42 a_X0_number_41 rfl ?_
      rw [h3 _ (by omega)]
      have hb : bs.getD (m + j) 0 < 256 := by
        have hl : m + j < bs.length := by omega
        simp only [List.getD, List.getElem?_eq_getElem hl, Option.getD_some]
        exact h6 _ (List.getElem_mem _)
      refine gs_top (nI (bs.getD (m + j) 0)) (sg_and hb) ?_
      refine gs_n 43 a_X0_number_42 rfl ?_
      refine gs_top (nI (beN ((bs.drop m).take (j + 1)))) ?_ ?_
      · rw [take_snoc (by rw [List.length_drop]; omega), beN_snoc, ← or_byte _ _ (by simpa [List.getD, List.getElem?_drop] using hb)]
        simp [List.getD, List.getElem?_drop]
      · refine gs_n 44 a_X0_number_43 rfl ?_
        first | refine gs_inc _ 47 a_X0_number_44 rfl (Nat.le_of_ble_eq_true rfl) rfl ?_ | refine gs_n 47 a_X0_number_44 rfl ?_
        refine gs_n 19 a_X0_number_47 rfl ?_
        refine gs_w [(4, .int (nI (j + 1))), (3, .int (nI (beN ((bs.drop m).take (j + 1))))), (0, .ref r), (1, .int (nI m)), (2, .int (nI w))] (by simp [ix_nd]) (by intro x hx; simp only [List.mem_cons, List.not_mem_nil, or_false] at hx; rcases hx with rfl | rfl | rfl | rfl | rfl <;> rfl) ?_
        exact ih (j + 1) (by omega)
theorem e_number {d : Nat} {h : ix_H} {r a N : Nat} {bs : List Nat} (m w : Nat) (hr : RowAt h r a N bs) (hm : m + w ≤ bs.length) : ev (d + 1) n_X0_number [.ref r, .int (nI m), .int (nI w)] h (fun o => o = (some (.int (nI (beN ((bs.drop m).take w)))), h)) := by
  have hr0 := hr
  obtain ⟨h1, ⟨f, h2, h3⟩, h4, h5, h6⟩ := hr
  refine ev_of q_X0_number (Nat.le_of_ble_eq_true rfl) ?_
  refine gs_k (nI 0) 1 a_X0_number_0 (by decide +kernel) rfl ?_
  refine gs_n 2 a_X0_number_1 rfl ?_
  refine gs_n 3 a_X0_number_2 rfl ?_
  refine gs_if 50 6 a_X0_number_3 rfl rfl (fun c => ?_) (fun c => ?_)
  · exact absurd c (nI_pos (by omega))
  · refine gs_n 7 a_X0_number_6 rfl ?_
    refine gs_n 8 a_X0_number_7 rfl ?_
    refine gs_get 11 a_X0_number_8 f_0_21 (by first | assumption | exact hs_same _ _ _ | exact (hs_ne _ _ (by first | assumption | decide | omega)).trans (by first | assumption | exact hs_same _ _ _ | exact (hs_ne _ _ (by first | assumption | decide | omega)).trans (by first | assumption | exact hs_same _ _ _ | exact (hs_ne _ _ (by first | assumption | decide | omega)).trans (by first | assumption | exact hs_same _ _ _ | exact (hs_ne _ _ (by first | assumption | decide | omega)).trans (by first | assumption | exact hs_same _ _ _))))) rfl rfl ?_
    refine gs_n 12 a_X0_number_11 rfl ?_
    refine gs_n 13 a_X0_number_12 rfl ?_
    refine gs_ic 50 16 a_X0_number_13 rfl rfl (fun c2 => ?_) (fun c2 => ?_)
    · have c2 : nI bs.length - nI w < nI m := c2
      rw [pk_sub (by omega), nI_ltI (by omega) (by omega)] at c2
      omega
    · refine gs_k (nI 0) 17 a_X0_number_16 (by decide +kernel) rfl ?_
      refine gs_n 19 a_X0_number_17 rfl ?_
      refine gs_w [(4, .int (nI 0)), (3, .int (nI (beN ((bs.drop m).take 0)))), (0, .ref r), (1, .int (nI m)), (2, .int (nI w))] (by simp [ix_nd]) (by intro x hx; simp only [List.mem_cons, List.not_mem_nil, or_false] at hx; rcases hx with rfl | rfl | rfl | rfl | rfl <;> rfl) ?_
      exact l_number m w hr0 hm w 0 (by omega)
