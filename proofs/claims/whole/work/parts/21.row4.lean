/-! ByteRow.seal, ByteRow(n) -/
/-- the SUM of the bytes behind it -/
def sumI (l : List Nat) : Int32 := l.foldl (fun x b => x * nI 31 + nI b) (nI 17)
theorem sumI_snoc (l : List Nat) (b : Nat) : sumI (l ++ [b]) = sumI l * nI 31 + nI b := by simp [sumI, List.foldl_append]
theorem l_seal1 {d : Nat} {h : ix_H} {r a N : Nat} {bs : List Nat} {s : Nat} {P : ix_O → Prop} (hr : RowAt h r a N bs) (hs : s + 4 ≤ bs.length)
    (kk : gs none d mD_X0_seal (52, [(3, .int (nI bs.length)), (2, .int (sumI (bs.drop (s + 4)))), (0, .ref r), (1, .int (nI s))], [], h) P) : ∀ (k j : Nat), s + 4 + j + k = bs.length →
    gs none d mD_X0_seal (22, [(3, .int (nI (s + 4 + j))), (2, .int (sumI ((bs.drop (s + 4)).take j))), (0, .ref r), (1, .int (nI s))], [], h) P := by
  obtain ⟨h1, ⟨f, h2, h3⟩, h4, h5, h6⟩ := hr
  intro k
  induction k with
  | zero =>
    intro j hj
    refine gs_n 23 a_X0_seal_22 rfl ?_
    refine gs_n 24 a_X0_seal_23 rfl ?_
    refine gs_get 27 a_X0_seal_24 f_0_21 (by first | assumption | exact hs_same _ _ _ | exact (hs_ne _ _ (by first | assumption | decide | omega)).trans (by first | assumption | exact hs_same _ _ _ | exact (hs_ne _ _ (by first | assumption | decide | omega)).trans (by first | assumption | exact hs_same _ _ _ | exact (hs_ne _ _ (by first | assumption | decide | omega)).trans (by first | assumption | exact hs_same _ _ _ | exact (hs_ne _ _ (by first | assumption | decide | omega)).trans (by first | assumption | exact hs_same _ _ _))))) rfl rfl ?_
    refine gs_ic 52 30 a_X0_seal_27 rfl rfl (fun c => ?_) (fun c => ?_)
    · rw [List.take_of_length_le (by rw [List.length_drop]; omega), show s + 4 + j = bs.length by omega]
      exact kk
    · exact absurd (nI_le (by omega) (by omega)) c
  | succ k ih =>
    intro j hj
    refine gs_n 23 a_X0_seal_22 rfl ?_
    refine gs_n 24 a_X0_seal_23 rfl ?_
    refine gs_get 27 a_X0_seal_24 f_0_21 (by first | assumption | exact hs_same _ _ _ | exact (hs_ne _ _ (by first | assumption | decide | omega)).trans (by first | assumption | exact hs_same _ _ _ | exact (hs_ne _ _ (by first | assumption | decide | omega)).trans (by first | assumption | exact hs_same _ _ _ | exact (hs_ne _ _ (by first | assumption | decide | omega)).trans (by first | assumption | exact hs_same _ _ _ | exact (hs_ne _ _ (by first | assumption | decide | omega)).trans (by first | assumption | exact hs_same _ _ _))))) rfl rfl ?_
    refine gs_ic 52 30 a_X0_seal_27 rfl rfl (fun c => ?_) (fun c => ?_)
    · exact absurd c (nI_ge (by omega) (by omega))
    · refine gs_n 31 a_X0_seal_30 rfl ?_
      refine gs_k (nI 31) 33 a_X0_seal_31 (by decide +kernel) rfl ?_
      refine gs_n 34 a_X0_seal_33 rfl ?_
      refine gs_n 35 a_X0_seal_34 rfl ?_
      refine gs_get 38 a_X0_seal_35 f_0_15 (by first | assumption | exact hs_same _ _ _ | exact (hs_ne _ _ (by first | assumption | decide | omega)).trans (by first | assumption | exact hs_same _ _ _ | exact (hs_ne _ _ (by first | assumption | decide | omega)).trans (by first | assumption | exact hs_same _ _ _ | exact (hs_ne _ _ (by first | assumption | decide | omega)).trans (by first | assumption | exact hs_same _ _ _ | exact (hs_ne _ _ (by first | assumption | decide | omega)).trans (by first | assumption | exact hs_same _ _ _))))) rfl rfl ?_
      refine gs_n 39 a_X0_seal_38 rfl ?_
      refine gs_ba (s + 4 + j) 40 a_X0_seal_39 (by first | assumption | exact hs_same _ _ _ | exact (hs_ne _ _ (by first | assumption | decide | omega)).trans (by first | assumption | exact hs_same _ _ _ | exact (hs_ne _ _ (by first | assumption | decide | omega)).trans (by first | assumption | exact hs_same _ _ _ | exact (hs_ne _ _ (by first | assumption | decide | omega)).trans (by first | assumption | exact hs_same _ _ _ | exact (hs_ne _ _ (by first | assumption | decide | omega)).trans (by first | assumption | exact hs_same _ _ _))))) rfl (by omega) (by omega) rfl ?_
      refine gs_k (nI 255) 43 a_X0_seal_40 (by decide +kernel) rfl ?_
      refine gs_n 44 a_X0_seal_43 rfl ?_
      rw [h3 _ (by omega)]
      have hb : bs.getD (s + 4 + j) 0 < 256 := by
        have hl : s + 4 + j < bs.length := by omega
        simp only [List.getD, List.getElem?_eq_getElem hl, Option.getD_some]
        exact h6 _ (List.getElem_mem _)
      refine gs_top (nI (bs.getD (s + 4 + j) 0)) (sg_and hb) ?_
      refine gs_n 45 a_X0_seal_44 rfl ?_
      refine gs_top (sumI ((bs.drop (s + 4)).take (j + 1))) ?_ ?_
      · rw [take_snoc (by rw [List.length_drop]; omega), sumI_snoc]
        simp [List.getD, List.getElem?_drop]
      · refine gs_n 46 a_X0_seal_45 rfl ?_
        first | refine gs_inc _ 49 a_X0_seal_46 rfl (Nat.le_of_ble_eq_true rfl) rfl ?_ | refine gs_n 49 a_X0_seal_46 rfl ?_
        refine gs_n 22 a_X0_seal_49 rfl ?_
        refine gs_w [(3, .int (nI (s + 4 + (j + 1)))), (2, .int (sumI ((bs.drop (s + 4)).take (j + 1)))), (0, .ref r), (1, .int (nI s))] (by simp [ix_nd]) (by intro x hx; simp only [List.mem_cons, List.not_mem_nil, or_false] at hx; rcases hx with rfl | rfl | rfl | rfl <;> rfl) ?_
        exact ih (j + 1) (by omega)
theorem be_get (v : Int32) : ∀ (w j : Nat), j < w → (be w v).getD j 0 = v.toBitVec.toNat / 2 ^ (8 * (w - 1 - j)) % 256 := by
  intro w
  induction w with
  | zero => intro j h; omega
  | succ w ih =>
    intro j h
    cases j with
    | zero => simp [be, List.getD]
    | succ j =>
      have := ih j (by omega)
      simp only [be, List.getD_cons_succ]
      rw [this]
      congr 3
      omega
/-- bytes written over others -/
def over (bs : List Nat) (s : Nat) (l : List Nat) : List Nat := bs.take s ++ l ++ bs.drop (s + l.length)
theorem over_len {bs l : List Nat} {s : Nat} (h : s + l.length ≤ bs.length) : (over bs s l).length = bs.length := by simp [over]; omega
theorem over_get {bs l : List Nat} {s i : Nat} (h : s + l.length ≤ bs.length) : (over bs s l).getD i 0 = if s ≤ i ∧ i < s + l.length then l.getD (i - s) 0 else bs.getD i 0 := by
  simp only [over, List.getD, List.append_assoc]
  by_cases h1 : i < s
  · rw [List.getElem?_append_left (by simp; omega), List.getElem?_take, if_pos h1, if_neg (by omega)]
  · rw [List.getElem?_append_right (by simp; omega)]
    rw [show i - (bs.take s).length = i - s by simp; omega]
    by_cases h2 : i < s + l.length
    · rw [List.getElem?_append_left (by omega), if_pos (by omega)]
    · rw [List.getElem?_append_right (by omega), if_neg (by omega), List.getElem?_drop]
      congr 2
      omega
theorem l_seal2 {d : Nat} {h : ix_H} {r a N : Nat} {bs : List Nat} {s : Nat} {v : Int32} (hr : RowAt h r a N bs) (hs : s + 4 ≤ bs.length) : ∀ (k j : Nat) (h1 : ix_H), j + k = 4 → Fr [r, a] h h1 → RowAt h1 r a N (over bs s ((be 4 v).take j)) →
    gs none d mD_X0_seal (54, [(3, .int (nI j)), (2, .int v), (0, .ref r), (1, .int (nI s))], [], h1) (fun o => o.1 = none ∧ Fr [r, a] h o.2 ∧ RowAt o.2 r a N (over bs s (be 4 v))) := by
  intro k
  induction k with
  | zero =>
    intro j h1 hj hF hR
    obtain rfl : j = 4 := by omega
    refine gs_n 55 a_X0_seal_54 rfl ?_
    refine gs_k (nI 4) 56 a_X0_seal_55 (by decide +kernel) rfl ?_
    refine gs_ic 83 59 a_X0_seal_56 rfl rfl (fun c => ?_) (fun c => ?_)
    · refine gs_vret a_X0_seal_83 rfl ?_
      refine ⟨rfl, hF, ?_⟩
      rwa [List.take_of_length_le (by rw [be_len]; omega)] at hR
    · exact absurd (nI_le (Nat.le_refl 4) (by omega)) c
  | succ k ih =>
    intro j h1 hj hF hR
    have hbl : ((be 4 v).take j).length = j := by rw [List.length_take, be_len]; omega
    have hbl2 : ((be 4 v).take (j + 1)).length = j + 1 := by rw [List.length_take, be_len]; omega
    have hol := over_len (bs := bs) (s := s) (l := (be 4 v).take j) (by omega)
    have hol2 := over_len (bs := bs) (s := s) (l := (be 4 v).take (j + 1)) (by omega)
    have hR0 := hR
    obtain ⟨g1, ⟨f, g2, g3⟩, g4, g5, g6⟩ := hR
    have hra : ¬ a = r := fun z => by rw [z, g1] at g2; cases g2
    have har : ¬ r = a := fun z => hra z.symm
    refine gs_n 55 a_X0_seal_54 rfl ?_
    refine gs_k (nI 4) 56 a_X0_seal_55 (by decide +kernel) rfl ?_
    refine gs_ic 83 59 a_X0_seal_56 rfl rfl (fun c => ?_) (fun c => ?_)
    · exact absurd c (nI_ge (by omega) (by omega))
    · refine gs_n 60 a_X0_seal_59 rfl ?_
      refine gs_get 63 a_X0_seal_60 f_0_15 (by first | assumption | exact hs_same _ _ _ | exact (hs_ne _ _ (by first | assumption | decide | omega)).trans (by first | assumption | exact hs_same _ _ _ | exact (hs_ne _ _ (by first | assumption | decide | omega)).trans (by first | assumption | exact hs_same _ _ _ | exact (hs_ne _ _ (by first | assumption | decide | omega)).trans (by first | assumption | exact hs_same _ _ _ | exact (hs_ne _ _ (by first | assumption | decide | omega)).trans (by first | assumption | exact hs_same _ _ _))))) rfl rfl ?_
      refine gs_n 64 a_X0_seal_63 rfl ?_
      refine gs_n 65 a_X0_seal_64 rfl ?_
      refine gs_n 66 a_X0_seal_65 rfl ?_
      refine gs_n 67 a_X0_seal_66 rfl ?_
      refine gs_k (nI 24) 69 a_X0_seal_67 (by decide +kernel) rfl ?_
      refine gs_k (nI 8) 71 a_X0_seal_69 (by decide +kernel) rfl ?_
      refine gs_n 72 a_X0_seal_71 rfl ?_
      refine gs_n 73 a_X0_seal_72 rfl ?_
      refine gs_n 74 a_X0_seal_73 rfl ?_
      refine gs_n 75 a_X0_seal_74 rfl ?_
      refine gs_n 76 a_X0_seal_75 rfl ?_
      refine gs_bs (s + j) 77 a_X0_seal_76 (by first | assumption | exact hs_same _ _ _ | exact (hs_ne _ _ (by first | assumption | decide | omega)).trans (by first | assumption | exact hs_same _ _ _ | exact (hs_ne _ _ (by first | assumption | decide | omega)).trans (by first | assumption | exact hs_same _ _ _ | exact (hs_ne _ _ (by first | assumption | decide | omega)).trans (by first | assumption | exact hs_same _ _ _ | exact (hs_ne _ _ (by first | assumption | decide | omega)).trans (by first | assumption | exact hs_same _ _ _))))) (nI_add s j) (by omega) (by omega) rfl ?_
      first | refine gs_inc _ 80 a_X0_seal_77 rfl (Nat.le_of_ble_eq_true rfl) rfl ?_ | refine gs_n 80 a_X0_seal_77 rfl ?_
      refine gs_n 54 a_X0_seal_80 rfl ?_
      refine gs_w [(3, .int (nI (j + 1))), (2, .int v), (0, .ref r), (1, .int (nI s))] (by simp [ix_nd]) (by intro x hx; simp only [List.mem_cons, List.not_mem_nil, or_false] at hx; rcases hx with rfl | rfl | rfl | rfl <;> rfl) ?_
      refine ih (j + 1) _ (by omega) (hF.trans (Fr.set _ (by simp))) ⟨?_, ⟨_, hs_same _ _ _, ?_⟩, ?_, g5, ?_⟩
      · rw [hs_ne _ _ har, g1, hol, hol2]
      · intro i hi
        rw [hol2] at hi
        have e8 : nI 24 - nI 8 * nI j = nI (8 * (3 - j)) := by
          have : ∀ j, j < 4 → nI 24 - nI 8 * nI j = nI (8 * (3 - j)) := by decide +kernel
          exact this j (by omega)
        have ebb : ∀ x : Int32, (x.toInt8.toInt32).toInt8.toInt32 = x.toInt8.toInt32 := fun x => by rw [← vp_nar_byte, pk_vb]
        by_cases e : i = s + j
        · subst e
          rw [pk_us, over_get (by omega), if_pos (by omega), ebb, e8, ← sg_low, ushr_low v (3 - j) (by omega)]
          congr 1
          rw [show s + j - s = j by omega]
          have h5 := be_get v 4 j (by omega)
          simp only [List.getD, List.getElem?_take, show j < j + 1 by omega, if_true] at h5 ⊢
          rw [h5]
        · rw [pk_un e, g3 i (by rw [hol]; exact hi), over_get (by omega), over_get (by omega)]
          congr 1
          by_cases e2 : s ≤ i ∧ i < s + j
          · rw [if_pos (by omega), if_pos (by omega)]
            simp only [List.getD, List.getElem?_take, show i - s < j by omega, show i - s < j + 1 by omega, if_true]
          · rw [if_neg (by omega), if_neg (by omega)]
      · rw [hol2]; rw [hol] at g4; exact g4
      · intro b hb
        simp only [over, List.mem_append] at hb
        have h6 := hr.2.2.2.2
        rcases hb with (z | z) | z
        · exact h6 b (List.mem_of_mem_take z)
        · exact be_lt 4 v b (List.mem_of_mem_take z)
        · exact h6 b (List.mem_of_mem_drop z)
theorem e_seal {d : Nat} {h : ix_H} {r a N : Nat} {bs : List Nat} (s : Nat) (hr : RowAt h r a N bs) (hs : s + 4 ≤ bs.length) : ev (d + 1) n_X0_seal [.ref r, .int (nI s)] h (fun o => o.1 = none ∧ Fr [r, a] h o.2 ∧ RowAt o.2 r a N (over bs s (be 4 (sumI (bs.drop (s + 4)))))) := by
  have hr0 := hr
  obtain ⟨h1, ⟨f, h2, h3⟩, h4, h5, h6⟩ := hr
  refine ev_of q_X0_seal (Nat.le_of_ble_eq_true rfl) ?_
  refine gs_n 1 a_X0_seal_0 rfl ?_
  refine gs_if 14 4 a_X0_seal_1 rfl rfl (fun c => ?_) (fun c => ?_)
  · exact absurd c (nI_pos (by omega))
  · refine gs_n 5 a_X0_seal_4 rfl ?_
    refine gs_n 6 a_X0_seal_5 rfl ?_
    refine gs_get 9 a_X0_seal_6 f_0_21 (by first | assumption | exact hs_same _ _ _ | exact (hs_ne _ _ (by first | assumption | decide | omega)).trans (by first | assumption | exact hs_same _ _ _ | exact (hs_ne _ _ (by first | assumption | decide | omega)).trans (by first | assumption | exact hs_same _ _ _ | exact (hs_ne _ _ (by first | assumption | decide | omega)).trans (by first | assumption | exact hs_same _ _ _ | exact (hs_ne _ _ (by first | assumption | decide | omega)).trans (by first | assumption | exact hs_same _ _ _))))) rfl rfl ?_
    refine gs_k (nI 4) 10 a_X0_seal_9 (by decide +kernel) rfl ?_
    refine gs_n 11 a_X0_seal_10 rfl ?_
    refine gs_ic 15 14 a_X0_seal_11 rfl rfl (fun c2 => ?_) (fun c2 => ?_)
    · refine gs_k (nI 17) 17 a_X0_seal_15 (by decide +kernel) rfl ?_
      refine gs_n 18 a_X0_seal_17 rfl ?_
      refine gs_n 19 a_X0_seal_18 rfl ?_
      refine gs_k (nI 4) 20 a_X0_seal_19 (by decide +kernel) rfl ?_
      refine gs_n 21 a_X0_seal_20 rfl ?_
      refine gs_n 22 a_X0_seal_21 rfl ?_
      refine gs_w [(3, .int (nI s + nI 4)), (2, .int (sumI ((bs.drop (s + 4)).take 0))), (0, .ref r), (1, .int (nI s))] (by simp [ix_nd]) (by intro x hx; simp only [List.mem_cons, List.not_mem_nil, or_false] at hx; rcases hx with rfl | rfl | rfl | rfl <;> rfl) ?_
      rw [nI_add]
      refine l_seal1 hr0 hs ?_ (bs.length - (s + 4)) 0 (by omega)
      refine gs_k (nI 0) 53 a_X0_seal_52 (by decide +kernel) rfl ?_
      refine gs_n 54 a_X0_seal_53 rfl ?_
      refine gs_w [(3, .int (nI 0)), (2, .int (sumI (bs.drop (s + 4)))), (0, .ref r), (1, .int (nI s))] (by simp [ix_nd]) (by intro x hx; simp only [List.mem_cons, List.not_mem_nil, or_false] at hx; rcases hx with rfl | rfl | rfl | rfl <;> rfl) ?_
      refine l_seal2 hr0 hs 4 0 h (by omega) (Fr.rf _ _) ?_
      simpa [over] using hr0
    · have c2 : ¬ nI s ≤ nI bs.length - nI 4 := c2
      rw [pk_sub (by omega), nI_leI (by omega) (by omega)] at c2
      omega
