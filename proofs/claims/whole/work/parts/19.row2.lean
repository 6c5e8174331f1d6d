/-! ByteRow, the rest -/
def rAt (bs : List Nat) (x : Int32) : Int32 := if 0 ≤ x.toInt ∧ x.toInt < bs.length then nI (bs.getD x.toInt.toNat 0) else -1
theorem lt0_iff (x : Int32) : x < 0 ↔ x.toInt < 0 := by rw [Int32.lt_iff_toInt_lt]; simp
theorem ix_le_nI {x : Int32} {n : Nat} (hn : n < 2 ^ 31) : nI n ≤ x ↔ (n : Int) ≤ x.toInt := by rw [Int32.le_iff_toInt_le, nI_toInt hn]
theorem ix_lt_nI {x : Int32} {n : Nat} (hn : n < 2 ^ 31) : x < nI n ↔ x.toInt < (n : Int) := by rw [Int32.lt_iff_toInt_lt, nI_toInt hn]
theorem nI_ofInt {x : Int32} (h : 0 ≤ x.toInt) : x = nI x.toInt.toNat := by
  apply Int32.toInt_inj.mp
  have h2 := x.toInt_lt
  rw [nI_toInt (by omega)]
  omega
theorem e_at {d : Nat} {h : ix_H} {r a N : Nat} {bs : List Nat} (x : Int32) (hr : RowAt h r a N bs) : ev (d + 1) n_X0_at [.ref r, .int x] h (fun o => o = (some (.int (rAt bs x)), h)) := by
  obtain ⟨h1, ⟨f, h2, h3⟩, h4, h5, h6⟩ := hr
  refine ev_of q_X0_at (Nat.le_of_ble_eq_true rfl) ?_
  refine gs_n 1 a_X0_at_0 rfl ?_
  refine gs_if 25 4 a_X0_at_1 rfl rfl (fun c1 => ?_) (fun c1 => ?_)
  · refine gs_k (-1) 26 a_X0_at_25 (by decide +kernel) rfl ?_
    refine gs_iret a_X0_at_26 rfl rfl ?_
    have c1 : x < 0 := c1
    rw [lt0_iff] at c1
    simp [rAt, show ¬ (0 ≤ x.toInt) by omega]
  · have c1 : ¬ x < 0 := c1
    rw [lt0_iff] at c1
    refine gs_n 5 a_X0_at_4 rfl ?_
    refine gs_n 6 a_X0_at_5 rfl ?_
    refine gs_get 9 a_X0_at_6 f_0_21 (by first | assumption | exact hs_same _ _ _ | exact (hs_ne _ _ (by first | assumption | decide | omega)).trans (by first | assumption | exact hs_same _ _ _ | exact (hs_ne _ _ (by first | assumption | decide | omega)).trans (by first | assumption | exact hs_same _ _ _ | exact (hs_ne _ _ (by first | assumption | decide | omega)).trans (by first | assumption | exact hs_same _ _ _ | exact (hs_ne _ _ (by first | assumption | decide | omega)).trans (by first | assumption | exact hs_same _ _ _))))) rfl rfl ?_
    refine gs_ic 25 12 a_X0_at_9 rfl rfl (fun c2 => ?_) (fun c2 => ?_)
    · refine gs_k (-1) 26 a_X0_at_25 (by decide +kernel) rfl ?_
      refine gs_iret a_X0_at_26 rfl rfl ?_
      have c2 : nI bs.length ≤ x := c2
      rw [ix_le_nI (by omega)] at c2
      simp [rAt, show ¬ (x.toInt < bs.length) by omega]
    · have c2 : ¬ nI bs.length ≤ x := c2
      rw [ix_le_nI (by omega)] at c2
      refine gs_n 13 a_X0_at_12 rfl ?_
      refine gs_get 16 a_X0_at_13 f_0_15 (by first | assumption | exact hs_same _ _ _ | exact (hs_ne _ _ (by first | assumption | decide | omega)).trans (by first | assumption | exact hs_same _ _ _ | exact (hs_ne _ _ (by first | assumption | decide | omega)).trans (by first | assumption | exact hs_same _ _ _ | exact (hs_ne _ _ (by first | assumption | decide | omega)).trans (by first | assumption | exact hs_same _ _ _ | exact (hs_ne _ _ (by first | assumption | decide | omega)).trans (by first | assumption | exact hs_same _ _ _))))) rfl rfl ?_
      refine gs_n 17 a_X0_at_16 rfl ?_
      refine gs_ba x.toInt.toNat 18 a_X0_at_17 (by first | assumption | exact hs_same _ _ _ | exact (hs_ne _ _ (by first | assumption | decide | omega)).trans (by first | assumption | exact hs_same _ _ _ | exact (hs_ne _ _ (by first | assumption | decide | omega)).trans (by first | assumption | exact hs_same _ _ _ | exact (hs_ne _ _ (by first | assumption | decide | omega)).trans (by first | assumption | exact hs_same _ _ _ | exact (hs_ne _ _ (by first | assumption | decide | omega)).trans (by first | assumption | exact hs_same _ _ _))))) (nI_ofInt (by omega)) (by omega) (by omega) rfl ?_
      refine gs_k (nI 255) 21 a_X0_at_18 (by decide +kernel) rfl ?_
      refine gs_n 22 a_X0_at_21 rfl ?_
      refine gs_n 26 a_X0_at_22 rfl ?_
      rw [h3 _ (by omega)]
      have hb : bs.getD x.toInt.toNat 0 < 256 := by
        have hl : x.toInt.toNat < bs.length := by omega
        simp only [List.getD, List.getElem?_eq_getElem hl, Option.getD_some]
        exact h6 _ (List.getElem_mem _)
      refine gs_top (nI (bs.getD x.toInt.toNat 0)) (sg_and hb) ?_
      refine gs_iret a_X0_at_26 rfl rfl ?_
      simp [rAt, show 0 ≤ x.toInt by omega, show x.toInt < bs.length by omega]
theorem e_add {d : Nat} {h : ix_H} {r a N : Nat} {bs : List Nat} (v : Int32) (hr : RowAt h r a N bs) (hN : bs.length < N) : ev (d + 1) n_X0_add [.ref r, .int v] h (fun o => o.1 = none ∧ Fr [r, a] h o.2 ∧ RowAt o.2 r a N (bs ++ [v.toBitVec.toNat % 256])) := by
  obtain ⟨h1, ⟨f, h2, h3⟩, h4, h5, h6⟩ := hr
  have hra : ¬ a = r := fun z => by rw [z, h1] at h2; cases h2
  have har : ¬ r = a := fun z => hra z.symm
  refine ev_of q_X0_add (Nat.le_of_ble_eq_true rfl) ?_
  refine gs_n 1 a_X0_add_0 rfl ?_
  refine gs_get 4 a_X0_add_1 f_0_21 (by first | assumption | exact hs_same _ _ _ | exact (hs_ne _ _ (by first | assumption | decide | omega)).trans (by first | assumption | exact hs_same _ _ _ | exact (hs_ne _ _ (by first | assumption | decide | omega)).trans (by first | assumption | exact hs_same _ _ _ | exact (hs_ne _ _ (by first | assumption | decide | omega)).trans (by first | assumption | exact hs_same _ _ _ | exact (hs_ne _ _ (by first | assumption | decide | omega)).trans (by first | assumption | exact hs_same _ _ _))))) rfl rfl ?_
  refine gs_n 5 a_X0_add_4 rfl ?_
  refine gs_get 8 a_X0_add_5 f_0_15 (by first | assumption | exact hs_same _ _ _ | exact (hs_ne _ _ (by first | assumption | decide | omega)).trans (by first | assumption | exact hs_same _ _ _ | exact (hs_ne _ _ (by first | assumption | decide | omega)).trans (by first | assumption | exact hs_same _ _ _ | exact (hs_ne _ _ (by first | assumption | decide | omega)).trans (by first | assumption | exact hs_same _ _ _ | exact (hs_ne _ _ (by first | assumption | decide | omega)).trans (by first | assumption | exact hs_same _ _ _))))) rfl rfl ?_
  refine gs_al 9 a_X0_add_8 (by first | assumption | exact hs_same _ _ _ | exact (hs_ne _ _ (by first | assumption | decide | omega)).trans (by first | assumption | exact hs_same _ _ _ | exact (hs_ne _ _ (by first | assumption | decide | omega)).trans (by first | assumption | exact hs_same _ _ _ | exact (hs_ne _ _ (by first | assumption | decide | omega)).trans (by first | assumption | exact hs_same _ _ _ | exact (hs_ne _ _ (by first | assumption | decide | omega)).trans (by first | assumption | exact hs_same _ _ _))))) (by simp) rfl ?_
  refine gs_ic 33 12 a_X0_add_9 rfl rfl (fun c1 => ?_) (fun c1 => ?_)
  · have c1 : nI N ≤ nI bs.length := c1
    rw [nI_leI (by omega) (by omega)] at c1
    omega
  · refine gs_n 13 a_X0_add_12 rfl ?_
    refine gs_get 16 a_X0_add_13 f_0_15 (by first | assumption | exact hs_same _ _ _ | exact (hs_ne _ _ (by first | assumption | decide | omega)).trans (by first | assumption | exact hs_same _ _ _ | exact (hs_ne _ _ (by first | assumption | decide | omega)).trans (by first | assumption | exact hs_same _ _ _ | exact (hs_ne _ _ (by first | assumption | decide | omega)).trans (by first | assumption | exact hs_same _ _ _ | exact (hs_ne _ _ (by first | assumption | decide | omega)).trans (by first | assumption | exact hs_same _ _ _))))) rfl rfl ?_
    refine gs_n 17 a_X0_add_16 rfl ?_
    refine gs_get 20 a_X0_add_17 f_0_21 (by first | assumption | exact hs_same _ _ _ | exact (hs_ne _ _ (by first | assumption | decide | omega)).trans (by first | assumption | exact hs_same _ _ _ | exact (hs_ne _ _ (by first | assumption | decide | omega)).trans (by first | assumption | exact hs_same _ _ _ | exact (hs_ne _ _ (by first | assumption | decide | omega)).trans (by first | assumption | exact hs_same _ _ _ | exact (hs_ne _ _ (by first | assumption | decide | omega)).trans (by first | assumption | exact hs_same _ _ _))))) rfl rfl ?_
    refine gs_n 21 a_X0_add_20 rfl ?_
    refine gs_n 22 a_X0_add_21 rfl ?_
    refine gs_bs bs.length 23 a_X0_add_22 (by first | assumption | exact hs_same _ _ _ | exact (hs_ne _ _ (by first | assumption | decide | omega)).trans (by first | assumption | exact hs_same _ _ _ | exact (hs_ne _ _ (by first | assumption | decide | omega)).trans (by first | assumption | exact hs_same _ _ _ | exact (hs_ne _ _ (by first | assumption | decide | omega)).trans (by first | assumption | exact hs_same _ _ _ | exact (hs_ne _ _ (by first | assumption | decide | omega)).trans (by first | assumption | exact hs_same _ _ _))))) rfl hN (by omega) rfl ?_
    refine gs_n 24 a_X0_add_23 rfl ?_
    refine gs_n 25 a_X0_add_24 rfl ?_
    refine gs_get 28 a_X0_add_25 f_0_21 (by first | assumption | exact hs_same _ _ _ | exact (hs_ne _ _ (by first | assumption | decide | omega)).trans (by first | assumption | exact hs_same _ _ _ | exact (hs_ne _ _ (by first | assumption | decide | omega)).trans (by first | assumption | exact hs_same _ _ _ | exact (hs_ne _ _ (by first | assumption | decide | omega)).trans (by first | assumption | exact hs_same _ _ _ | exact (hs_ne _ _ (by first | assumption | decide | omega)).trans (by first | assumption | exact hs_same _ _ _))))) rfl rfl ?_
    refine gs_k (nI 1) 29 a_X0_add_28 (by decide +kernel) rfl ?_
    refine gs_n 30 a_X0_add_29 rfl ?_
    refine gs_put 33 _ a_X0_add_30 f_0_21 (by first | assumption | exact hs_same _ _ _ | exact (hs_ne _ _ (by first | assumption | decide | omega)).trans (by first | assumption | exact hs_same _ _ _ | exact (hs_ne _ _ (by first | assumption | decide | omega)).trans (by first | assumption | exact hs_same _ _ _ | exact (hs_ne _ _ (by first | assumption | decide | omega)).trans (by first | assumption | exact hs_same _ _ _ | exact (hs_ne _ _ (by first | assumption | decide | omega)).trans (by first | assumption | exact hs_same _ _ _))))) (Nat.le_of_ble_eq_true rfl) rfl (fun z => absurd z (by decide)) rfl rfl ?_
    refine gs_vret a_X0_add_33 rfl ?_
    refine ⟨rfl, (Fr.set _ (by simp)).trans (Fr.set _ (by simp)), ⟨?_, ⟨upd f bs.length v.toInt8.toInt32, ?_, ?_⟩, ?_, h5, ?_⟩⟩
    · rw [hs_same, List.length_append]
      show (Sum.inr (0, [Value.ref a, .int (nI bs.length + nI 1)]) : ix_E) = _
      rw [nI_add]
      rfl
    · rw [hs_ne _ _ hra, hs_same]
      have : (v.toInt8.toInt32).toInt8.toInt32 = v.toInt8.toInt32 := by rw [← vp_nar_byte, pk_vb]
      rw [this]
    · intro i hi
      rw [List.length_append] at hi
      by_cases e : i = bs.length
      · subst e
        rw [pk_us]
        simp [sg_low]
      · have hi2 : i < bs.length := by simp at hi; omega
        rw [pk_un e, h3 i hi2]
        simp [List.getD, List.getElem?_append_left hi2]
    · simp; omega
    · intro b hb
      rcases List.mem_append.mp hb with z | z
      · exact h6 b z
      · rw [List.mem_singleton.mp z]; exact Nat.mod_lt _ (by decide)
theorem e_cutTo {d : Nat} {h : ix_H} {r a N : Nat} {bs : List Nat} (m : Nat) (hm : m < 2 ^ 31) (hr : RowAt h r a N bs) : ev (d + 1) n_X0_cutTo [.ref r, .int (nI m)] h (fun o => o.1 = none ∧ Fr [r, a] h o.2 ∧ RowAt o.2 r a N (bs.take m)) := by
  have hr0 := hr
  obtain ⟨h1, ⟨f, h2, h3⟩, h4, h5, h6⟩ := hr
  have hra : ¬ a = r := fun z => by rw [z, h1] at h2; cases h2
  refine ev_of q_X0_cutTo (Nat.le_of_ble_eq_true rfl) ?_
  refine gs_n 1 a_X0_cutTo_0 rfl ?_
  refine gs_if 17 4 a_X0_cutTo_1 rfl rfl (fun c1 => ?_) (fun c1 => ?_)
  · exact absurd c1 (nI_pos hm)
  · refine gs_n 5 a_X0_cutTo_4 rfl ?_
    refine gs_n 6 a_X0_cutTo_5 rfl ?_
    refine gs_get 9 a_X0_cutTo_6 f_0_21 (by first | assumption | exact hs_same _ _ _ | exact (hs_ne _ _ (by first | assumption | decide | omega)).trans (by first | assumption | exact hs_same _ _ _ | exact (hs_ne _ _ (by first | assumption | decide | omega)).trans (by first | assumption | exact hs_same _ _ _ | exact (hs_ne _ _ (by first | assumption | decide | omega)).trans (by first | assumption | exact hs_same _ _ _ | exact (hs_ne _ _ (by first | assumption | decide | omega)).trans (by first | assumption | exact hs_same _ _ _))))) rfl rfl ?_
    refine gs_ic 17 12 a_X0_cutTo_9 rfl rfl (fun c2 => ?_) (fun c2 => ?_)
    · have c2 : nI bs.length ≤ nI m := c2
      rw [nI_leI (by omega) hm] at c2
      refine gs_vret a_X0_cutTo_17 rfl ?_
      refine ⟨rfl, Fr.rf _ _, ?_⟩
      rw [List.take_of_length_le c2]
      exact hr0
    · have c2 : ¬ nI bs.length ≤ nI m := c2
      rw [nI_leI (by omega) hm] at c2
      refine gs_n 13 a_X0_cutTo_12 rfl ?_
      refine gs_n 14 a_X0_cutTo_13 rfl ?_
      refine gs_put 17 _ a_X0_cutTo_14 f_0_21 (by first | assumption | exact hs_same _ _ _ | exact (hs_ne _ _ (by first | assumption | decide | omega)).trans (by first | assumption | exact hs_same _ _ _ | exact (hs_ne _ _ (by first | assumption | decide | omega)).trans (by first | assumption | exact hs_same _ _ _ | exact (hs_ne _ _ (by first | assumption | decide | omega)).trans (by first | assumption | exact hs_same _ _ _ | exact (hs_ne _ _ (by first | assumption | decide | omega)).trans (by first | assumption | exact hs_same _ _ _))))) (Nat.le_of_ble_eq_true rfl) rfl (fun z => absurd z (by decide)) rfl rfl ?_
      refine gs_vret a_X0_cutTo_17 rfl ?_
      refine ⟨rfl, Fr.set _ (by simp), ⟨?_, ⟨f, ?_, ?_⟩, ?_, h5, ?_⟩⟩
      · rw [hs_same, List.length_take, Nat.min_eq_left (by omega)]; rfl
      · rw [hs_ne _ _ hra]; exact h2
      · intro i hi
        rw [List.length_take] at hi
        rw [h3 i (by omega)]
        simp [List.getD, List.getElem?_take, show i < m by omega]
      · rw [List.length_take]; omega
      · intro b hb; exact h6 b (List.mem_of_mem_take hb)
