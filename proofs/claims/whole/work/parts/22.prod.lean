/-! Producer, Arrays.fill, Unsynced -/
abbrev pcell (e t b ba ad la dc : Int32) : ix_E := .inr (2, [.int e, .int t, .int b, .int ba, .int ad, .int la, .int dc])
theorem e_forget {d : Nat} {h : ix_H} {k : Nat} {e t b ba ad la dc : Int32} (hk : h.2.2 k = pcell e t b ba ad la dc) : ev (d + 2) n_X2_forget [.ref k] h (fun o => o.1 = none ∧ Fr [k] h o.2 ∧ o.2.2.2 k = pcell (-1) (-1) (-1) ba (nI 0) (nI 0) (-1)) := by
  have cl : ∀ {h : ix_H} {e : Int32}, h.2.2 k = pcell e t b ba ad la dc → ev (d + 1) n_X2_closeTransaction [.ref k] h (fun o => o.1 = none ∧ Fr [k] h o.2 ∧ o.2.2.2 k = pcell e (-1) (-1) ba (nI 0) (nI 0) (-1)) := by
    intro h e hk
    refine ev_of q_X2_closeTransaction (Nat.le_of_ble_eq_true rfl) ?_
    refine gs_n 1 a_X2_closeTransaction_0 rfl ?_
    refine gs_k (-1) 2 a_X2_closeTransaction_1 (by decide +kernel) rfl ?_
    refine gs_put 5 _ a_X2_closeTransaction_2 f_2_18 (by first | assumption | exact hs_same _ _ _ | exact (hs_ne _ _ (by first | assumption | decide | omega)).trans (by first | assumption | exact hs_same _ _ _ | exact (hs_ne _ _ (by first | assumption | decide | omega)).trans (by first | assumption | exact hs_same _ _ _ | exact (hs_ne _ _ (by first | assumption | decide | omega)).trans (by first | assumption | exact hs_same _ _ _ | exact (hs_ne _ _ (by first | assumption | decide | omega)).trans (by first | assumption | exact hs_same _ _ _))))) (Nat.le_of_ble_eq_true rfl) rfl (fun z => absurd z (by decide)) rfl rfl ?_
    refine gs_n 6 a_X2_closeTransaction_5 rfl ?_
    refine gs_k (-1) 7 a_X2_closeTransaction_6 (by decide +kernel) rfl ?_
    refine gs_put 10 _ a_X2_closeTransaction_7 f_2_21 (by first | assumption | exact hs_same _ _ _ | exact (hs_ne _ _ (by first | assumption | decide | omega)).trans (by first | assumption | exact hs_same _ _ _ | exact (hs_ne _ _ (by first | assumption | decide | omega)).trans (by first | assumption | exact hs_same _ _ _ | exact (hs_ne _ _ (by first | assumption | decide | omega)).trans (by first | assumption | exact hs_same _ _ _ | exact (hs_ne _ _ (by first | assumption | decide | omega)).trans (by first | assumption | exact hs_same _ _ _))))) (Nat.le_of_ble_eq_true rfl) rfl (fun z => absurd z (by decide)) rfl rfl ?_
    refine gs_n 11 a_X2_closeTransaction_10 rfl ?_
    refine gs_k (nI 0) 12 a_X2_closeTransaction_11 (by decide +kernel) rfl ?_
    refine gs_put 15 _ a_X2_closeTransaction_12 f_2_27 (by first | assumption | exact hs_same _ _ _ | exact (hs_ne _ _ (by first | assumption | decide | omega)).trans (by first | assumption | exact hs_same _ _ _ | exact (hs_ne _ _ (by first | assumption | decide | omega)).trans (by first | assumption | exact hs_same _ _ _ | exact (hs_ne _ _ (by first | assumption | decide | omega)).trans (by first | assumption | exact hs_same _ _ _ | exact (hs_ne _ _ (by first | assumption | decide | omega)).trans (by first | assumption | exact hs_same _ _ _))))) (Nat.le_of_ble_eq_true rfl) rfl (fun z => absurd z (by decide)) rfl rfl ?_
    refine gs_n 16 a_X2_closeTransaction_15 rfl ?_
    refine gs_k (nI 0) 17 a_X2_closeTransaction_16 (by decide +kernel) rfl ?_
    refine gs_put 20 _ a_X2_closeTransaction_17 f_2_30 (by first | assumption | exact hs_same _ _ _ | exact (hs_ne _ _ (by first | assumption | decide | omega)).trans (by first | assumption | exact hs_same _ _ _ | exact (hs_ne _ _ (by first | assumption | decide | omega)).trans (by first | assumption | exact hs_same _ _ _ | exact (hs_ne _ _ (by first | assumption | decide | omega)).trans (by first | assumption | exact hs_same _ _ _ | exact (hs_ne _ _ (by first | assumption | decide | omega)).trans (by first | assumption | exact hs_same _ _ _))))) (Nat.le_of_ble_eq_true rfl) rfl (fun z => absurd z (by decide)) rfl rfl ?_
    refine gs_n 21 a_X2_closeTransaction_20 rfl ?_
    refine gs_k (-1) 22 a_X2_closeTransaction_21 (by decide +kernel) rfl ?_
    refine gs_put 25 _ a_X2_closeTransaction_22 f_2_33 (by first | assumption | exact hs_same _ _ _ | exact (hs_ne _ _ (by first | assumption | decide | omega)).trans (by first | assumption | exact hs_same _ _ _ | exact (hs_ne _ _ (by first | assumption | decide | omega)).trans (by first | assumption | exact hs_same _ _ _ | exact (hs_ne _ _ (by first | assumption | decide | omega)).trans (by first | assumption | exact hs_same _ _ _ | exact (hs_ne _ _ (by first | assumption | decide | omega)).trans (by first | assumption | exact hs_same _ _ _))))) (Nat.le_of_ble_eq_true rfl) rfl (fun z => absurd z (by decide)) rfl rfl ?_
    refine gs_vret a_X2_closeTransaction_25 rfl ?_
    refine ⟨rfl, ((((Fr.set _ (by simp)).trans (Fr.set _ (by simp))).trans (Fr.set _ (by simp))).trans (Fr.set _ (by simp))).trans (Fr.set _ (by simp)), ?_⟩
    exact hs_same _ _ _
  refine ev_of q_X2_forget (Nat.le_of_ble_eq_true rfl) ?_
  refine gs_n 1 a_X2_forget_0 rfl ?_
  refine gs_k (-1) 2 a_X2_forget_1 (by decide +kernel) rfl ?_
  refine gs_put 5 _ a_X2_forget_2 f_2_9 (by first | assumption | exact hs_same _ _ _ | exact (hs_ne _ _ (by first | assumption | decide | omega)).trans (by first | assumption | exact hs_same _ _ _ | exact (hs_ne _ _ (by first | assumption | decide | omega)).trans (by first | assumption | exact hs_same _ _ _ | exact (hs_ne _ _ (by first | assumption | decide | omega)).trans (by first | assumption | exact hs_same _ _ _ | exact (hs_ne _ _ (by first | assumption | decide | omega)).trans (by first | assumption | exact hs_same _ _ _))))) (Nat.le_of_ble_eq_true rfl) rfl (fun z => absurd z (by decide)) rfl rfl ?_
  refine gs_n 6 a_X2_forget_5 rfl ?_
  refine gs_cv 9 a_X2_forget_6 k_2_15 q_X2_closeTransaction (cl (hs_same _ _ _)) rfl rfl rfl (by simp [Value.category]) (by first | assumption | exact hs_same _ _ _ | exact (hs_ne _ _ (by first | assumption | decide | omega)).trans (by first | assumption | exact hs_same _ _ _ | exact (hs_ne _ _ (by first | assumption | decide | omega)).trans (by first | assumption | exact hs_same _ _ _ | exact (hs_ne _ _ (by first | assumption | decide | omega)).trans (by first | assumption | exact hs_same _ _ _ | exact (hs_ne _ _ (by first | assumption | decide | omega)).trans (by first | assumption | exact hs_same _ _ _))))) rfl (fun v h1 hp => ?_)
  obtain ⟨e1, hF, hc⟩ := hp
  subst e1
  refine gs_vret a_X2_forget_9 rfl ?_
  exact ⟨rfl, (Fr.set _ (by simp)).trans hF, hc⟩
theorem e_closeT {d : Nat} {h : ix_H} {k : Nat} {e t b ba ad la dc : Int32} (hk : h.2.2 k = pcell e t b ba ad la dc) : ev (d + 1) n_X2_closeTransaction [.ref k] h (fun o => o.1 = none ∧ Fr [k] h o.2 ∧ o.2.2.2 k = pcell e (-1) (-1) ba (nI 0) (nI 0) (-1)) := by
  refine ev_of q_X2_closeTransaction (Nat.le_of_ble_eq_true rfl) ?_
  refine gs_n 1 a_X2_closeTransaction_0 rfl ?_
  refine gs_k (-1) 2 a_X2_closeTransaction_1 (by decide +kernel) rfl ?_
  refine gs_put 5 _ a_X2_closeTransaction_2 f_2_18 (by first | assumption | exact hs_same _ _ _ | exact (hs_ne _ _ (by first | assumption | decide | omega)).trans (by first | assumption | exact hs_same _ _ _ | exact (hs_ne _ _ (by first | assumption | decide | omega)).trans (by first | assumption | exact hs_same _ _ _ | exact (hs_ne _ _ (by first | assumption | decide | omega)).trans (by first | assumption | exact hs_same _ _ _ | exact (hs_ne _ _ (by first | assumption | decide | omega)).trans (by first | assumption | exact hs_same _ _ _))))) (Nat.le_of_ble_eq_true rfl) rfl (fun z => absurd z (by decide)) rfl rfl ?_
  refine gs_n 6 a_X2_closeTransaction_5 rfl ?_
  refine gs_k (-1) 7 a_X2_closeTransaction_6 (by decide +kernel) rfl ?_
  refine gs_put 10 _ a_X2_closeTransaction_7 f_2_21 (by first | assumption | exact hs_same _ _ _ | exact (hs_ne _ _ (by first | assumption | decide | omega)).trans (by first | assumption | exact hs_same _ _ _ | exact (hs_ne _ _ (by first | assumption | decide | omega)).trans (by first | assumption | exact hs_same _ _ _ | exact (hs_ne _ _ (by first | assumption | decide | omega)).trans (by first | assumption | exact hs_same _ _ _ | exact (hs_ne _ _ (by first | assumption | decide | omega)).trans (by first | assumption | exact hs_same _ _ _))))) (Nat.le_of_ble_eq_true rfl) rfl (fun z => absurd z (by decide)) rfl rfl ?_
  refine gs_n 11 a_X2_closeTransaction_10 rfl ?_
  refine gs_k (nI 0) 12 a_X2_closeTransaction_11 (by decide +kernel) rfl ?_
  refine gs_put 15 _ a_X2_closeTransaction_12 f_2_27 (by first | assumption | exact hs_same _ _ _ | exact (hs_ne _ _ (by first | assumption | decide | omega)).trans (by first | assumption | exact hs_same _ _ _ | exact (hs_ne _ _ (by first | assumption | decide | omega)).trans (by first | assumption | exact hs_same _ _ _ | exact (hs_ne _ _ (by first | assumption | decide | omega)).trans (by first | assumption | exact hs_same _ _ _ | exact (hs_ne _ _ (by first | assumption | decide | omega)).trans (by first | assumption | exact hs_same _ _ _))))) (Nat.le_of_ble_eq_true rfl) rfl (fun z => absurd z (by decide)) rfl rfl ?_
  refine gs_n 16 a_X2_closeTransaction_15 rfl ?_
  refine gs_k (nI 0) 17 a_X2_closeTransaction_16 (by decide +kernel) rfl ?_
  refine gs_put 20 _ a_X2_closeTransaction_17 f_2_30 (by first | assumption | exact hs_same _ _ _ | exact (hs_ne _ _ (by first | assumption | decide | omega)).trans (by first | assumption | exact hs_same _ _ _ | exact (hs_ne _ _ (by first | assumption | decide | omega)).trans (by first | assumption | exact hs_same _ _ _ | exact (hs_ne _ _ (by first | assumption | decide | omega)).trans (by first | assumption | exact hs_same _ _ _ | exact (hs_ne _ _ (by first | assumption | decide | omega)).trans (by first | assumption | exact hs_same _ _ _))))) (Nat.le_of_ble_eq_true rfl) rfl (fun z => absurd z (by decide)) rfl rfl ?_
  refine gs_n 21 a_X2_closeTransaction_20 rfl ?_
  refine gs_k (-1) 22 a_X2_closeTransaction_21 (by decide +kernel) rfl ?_
  refine gs_put 25 _ a_X2_closeTransaction_22 f_2_33 (by first | assumption | exact hs_same _ _ _ | exact (hs_ne _ _ (by first | assumption | decide | omega)).trans (by first | assumption | exact hs_same _ _ _ | exact (hs_ne _ _ (by first | assumption | decide | omega)).trans (by first | assumption | exact hs_same _ _ _ | exact (hs_ne _ _ (by first | assumption | decide | omega)).trans (by first | assumption | exact hs_same _ _ _ | exact (hs_ne _ _ (by first | assumption | decide | omega)).trans (by first | assumption | exact hs_same _ _ _))))) (Nat.le_of_ble_eq_true rfl) rfl (fun z => absurd z (by decide)) rfl rfl ?_
  refine gs_vret a_X2_closeTransaction_25 rfl ?_
  refine ⟨rfl, ((((Fr.set _ (by simp)).trans (Fr.set _ (by simp))).trans (Fr.set _ (by simp))).trans (Fr.set _ (by simp))).trans (Fr.set _ (by simp)), ?_⟩
  exact hs_same _ _ _
theorem e_openT {d : Nat} {h : ix_H} {k : Nat} {e t b ba ad la dc : Int32} (x y z : Int32) (hk : h.2.2 k = pcell e t b ba ad la dc) : ev (d + 1) n_X2_openTransaction [.ref k, .int x, .int y, .int z] h (fun o => o.1 = none ∧ Fr [k] h o.2 ∧ o.2.2.2 k = pcell e x y z ad la dc) := by
  refine ev_of q_X2_openTransaction (Nat.le_of_ble_eq_true rfl) ?_
  refine gs_n 1 a_X2_openTransaction_0 rfl ?_
  refine gs_n 2 a_X2_openTransaction_1 rfl ?_
  refine gs_put 5 _ a_X2_openTransaction_2 f_2_18 (by first | assumption | exact hs_same _ _ _ | exact (hs_ne _ _ (by first | assumption | decide | omega)).trans (by first | assumption | exact hs_same _ _ _ | exact (hs_ne _ _ (by first | assumption | decide | omega)).trans (by first | assumption | exact hs_same _ _ _ | exact (hs_ne _ _ (by first | assumption | decide | omega)).trans (by first | assumption | exact hs_same _ _ _ | exact (hs_ne _ _ (by first | assumption | decide | omega)).trans (by first | assumption | exact hs_same _ _ _))))) (Nat.le_of_ble_eq_true rfl) rfl (fun z => absurd z (by decide)) rfl rfl ?_
  refine gs_n 6 a_X2_openTransaction_5 rfl ?_
  refine gs_n 7 a_X2_openTransaction_6 rfl ?_
  refine gs_put 10 _ a_X2_openTransaction_7 f_2_21 (by first | assumption | exact hs_same _ _ _ | exact (hs_ne _ _ (by first | assumption | decide | omega)).trans (by first | assumption | exact hs_same _ _ _ | exact (hs_ne _ _ (by first | assumption | decide | omega)).trans (by first | assumption | exact hs_same _ _ _ | exact (hs_ne _ _ (by first | assumption | decide | omega)).trans (by first | assumption | exact hs_same _ _ _ | exact (hs_ne _ _ (by first | assumption | decide | omega)).trans (by first | assumption | exact hs_same _ _ _))))) (Nat.le_of_ble_eq_true rfl) rfl (fun z => absurd z (by decide)) rfl rfl ?_
  refine gs_n 11 a_X2_openTransaction_10 rfl ?_
  refine gs_n 12 a_X2_openTransaction_11 rfl ?_
  refine gs_put 15 _ a_X2_openTransaction_12 f_2_24 (by first | assumption | exact hs_same _ _ _ | exact (hs_ne _ _ (by first | assumption | decide | omega)).trans (by first | assumption | exact hs_same _ _ _ | exact (hs_ne _ _ (by first | assumption | decide | omega)).trans (by first | assumption | exact hs_same _ _ _ | exact (hs_ne _ _ (by first | assumption | decide | omega)).trans (by first | assumption | exact hs_same _ _ _ | exact (hs_ne _ _ (by first | assumption | decide | omega)).trans (by first | assumption | exact hs_same _ _ _))))) (Nat.le_of_ble_eq_true rfl) rfl (fun z => absurd z (by decide)) rfl rfl ?_
  refine gs_vret a_X2_openTransaction_15 rfl ?_
  refine ⟨rfl, ((Fr.set _ (by simp)).trans (Fr.set _ (by simp))).trans (Fr.set _ (by simp)), ?_⟩
  exact hs_same _ _ _
theorem e_isOpen {d : Nat} {h : ix_H} {k : Nat} {e t b ba ad la dc : Int32} (hk : h.2.2 k = pcell e t b ba ad la dc) : ev (d + 1) n_X2_isOpen [.ref k] h (fun o => o = (some (.int (if t = -1 then nI 0 else nI 1)), h)) := by
  refine ev_of q_X2_isOpen (Nat.le_of_ble_eq_true rfl) ?_
  refine gs_n 1 a_X2_isOpen_0 rfl ?_
  refine gs_get 4 a_X2_isOpen_1 f_2_18 (by first | assumption | exact hs_same _ _ _ | exact (hs_ne _ _ (by first | assumption | decide | omega)).trans (by first | assumption | exact hs_same _ _ _ | exact (hs_ne _ _ (by first | assumption | decide | omega)).trans (by first | assumption | exact hs_same _ _ _ | exact (hs_ne _ _ (by first | assumption | decide | omega)).trans (by first | assumption | exact hs_same _ _ _ | exact (hs_ne _ _ (by first | assumption | decide | omega)).trans (by first | assumption | exact hs_same _ _ _))))) rfl rfl ?_
  refine gs_k (-1) 5 a_X2_isOpen_4 (by decide +kernel) rfl ?_
  refine gs_ic 12 8 a_X2_isOpen_5 rfl rfl (fun c => ?_) (fun c => ?_)
  · have c : t = -1 := c
    refine gs_k (nI 0) 13 a_X2_isOpen_12 (by decide +kernel) rfl ?_
    refine gs_iret a_X2_isOpen_13 rfl rfl ?_
    rw [if_pos c]
  · have c : ¬ t = -1 := c
    refine gs_k (nI 1) 9 a_X2_isOpen_8 (by decide +kernel) rfl ?_
    refine gs_n 13 a_X2_isOpen_9 rfl ?_
    refine gs_iret a_X2_isOpen_13 rfl rfl ?_
    rw [if_neg c]
/-- whether a mask has a bit -/
def mbit (m x : Int32) : Prop := (m >>> (x &&& 31)) &&& nI 1 = nI 1
def mbit01 (m x : Int32) : Int32 := if (m >>> (x &&& 31)) &&& nI 1 = nI 1 then nI 1 else nI 0
theorem e_hasAdded {d : Nat} {h : ix_H} {k : Nat} {e t b ba ad la dc : Int32} (x : Int32) (hk : h.2.2 k = pcell e t b ba ad la dc) : ev (d + 1) n_X2_hasAdded [.ref k, .int x] h (fun o => o = (some (.int (mbit01 ad x)), h)) := by
  refine ev_of q_X2_hasAdded (Nat.le_of_ble_eq_true rfl) ?_
  refine gs_n 1 a_X2_hasAdded_0 rfl ?_
  refine gs_get 4 a_X2_hasAdded_1 f_2_27 (by first | assumption | exact hs_same _ _ _ | exact (hs_ne _ _ (by first | assumption | decide | omega)).trans (by first | assumption | exact hs_same _ _ _ | exact (hs_ne _ _ (by first | assumption | decide | omega)).trans (by first | assumption | exact hs_same _ _ _ | exact (hs_ne _ _ (by first | assumption | decide | omega)).trans (by first | assumption | exact hs_same _ _ _ | exact (hs_ne _ _ (by first | assumption | decide | omega)).trans (by first | assumption | exact hs_same _ _ _))))) rfl rfl ?_
  refine gs_n 5 a_X2_hasAdded_4 rfl ?_
  refine gs_n 6 a_X2_hasAdded_5 rfl ?_
  refine gs_k (nI 1) 7 a_X2_hasAdded_6 (by decide +kernel) rfl ?_
  refine gs_n 8 a_X2_hasAdded_7 rfl ?_
  refine gs_k (nI 1) 9 a_X2_hasAdded_8 (by decide +kernel) rfl ?_
  refine gs_ic 16 12 a_X2_hasAdded_9 rfl rfl (fun c => ?_) (fun c => ?_)
  · have c : ¬ ((ad >>> (x &&& 31)) &&& nI 1 = nI 1) := c
    refine gs_k (nI 0) 17 a_X2_hasAdded_16 (by decide +kernel) rfl ?_
    refine gs_iret a_X2_hasAdded_17 rfl rfl ?_
    unfold mbit01
    rw [if_neg c]
  · have c : (ad >>> (x &&& 31)) &&& nI 1 = nI 1 := Classical.byContradiction c
    refine gs_k (nI 1) 13 a_X2_hasAdded_12 (by decide +kernel) rfl ?_
    refine gs_n 17 a_X2_hasAdded_13 rfl ?_
    refine gs_iret a_X2_hasAdded_17 rfl rfl ?_
    unfold mbit01
    rw [if_pos c]
theorem l_fill {d : Nat} {a m : Nat} {v : Int32} (hm : m < 2 ^ 31) : ∀ (k j : Nat) (h : ix_H) (f : Nat → Int32), j + k = m → h.2.2 a = .inl (.int, m, .inl f) → (∀ i, i < j → f i = v) →
    gs none d mD_J7_fill_53178 (5, [(2, .int (nI j)), (3, .int (nI m)), (0, .ref a), (1, .int v)], [], h) (fun o => o.1 = none ∧ Fr [a] h o.2 ∧ ∃ g, o.2.2.2 a = .inl (.int, m, .inl g) ∧ ∀ i, i < m → g i = v) := by
  intro k
  induction k with
  | zero =>
    intro j h f hj hc hf
    obtain rfl : j = m := by omega
    refine gs_n 6 a_J7_fill_53178_5 rfl ?_
    refine gs_n 7 a_J7_fill_53178_6 rfl ?_
    refine gs_ic 20 10 a_J7_fill_53178_7 rfl rfl (fun c => ?_) (fun c => ?_)
    · refine gs_vret a_J7_fill_53178_20 rfl ?_
      exact ⟨rfl, Fr.rf _ _, f, hc, hf⟩
    · exact absurd (nI_le (Nat.le_refl j) (by omega)) c
  | succ k ih =>
    intro j h f hj hc hf
    refine gs_n 6 a_J7_fill_53178_5 rfl ?_
    refine gs_n 7 a_J7_fill_53178_6 rfl ?_
    refine gs_ic 20 10 a_J7_fill_53178_7 rfl rfl (fun c => ?_) (fun c => ?_)
    · exact absurd c (nI_ge (by omega) (by omega))
    · refine gs_n 11 a_J7_fill_53178_10 rfl ?_
      refine gs_n 12 a_J7_fill_53178_11 rfl ?_
      refine gs_n 13 a_J7_fill_53178_12 rfl ?_
      refine gs_is j 14 a_J7_fill_53178_13 (by first | assumption | exact hs_same _ _ _ | exact (hs_ne _ _ (by first | assumption | decide | omega)).trans (by first | assumption | exact hs_same _ _ _ | exact (hs_ne _ _ (by first | assumption | decide | omega)).trans (by first | assumption | exact hs_same _ _ _ | exact (hs_ne _ _ (by first | assumption | decide | omega)).trans (by first | assumption | exact hs_same _ _ _ | exact (hs_ne _ _ (by first | assumption | decide | omega)).trans (by first | assumption | exact hs_same _ _ _))))) rfl (by omega) (by omega) rfl ?_
      first | refine gs_inc _ 17 a_J7_fill_53178_14 rfl (Nat.le_of_ble_eq_true rfl) rfl ?_ | refine gs_n 17 a_J7_fill_53178_14 rfl ?_
      refine gs_n 5 a_J7_fill_53178_17 rfl ?_
      refine gs_w [(2, .int (nI (j + 1))), (3, .int (nI m)), (0, .ref a), (1, .int v)] (by simp [ix_nd]) (by intro x hx; simp only [List.mem_cons, List.not_mem_nil, or_false] at hx; rcases hx with rfl | rfl | rfl | rfl <;> rfl) ?_
      refine gs_post (ih (j + 1) _ _ (by omega) (hs_same _ _ _) ?_) ?_
      · intro i hi
        by_cases e : i = j
        · subst e; rw [pk_us]
        · rw [pk_un e]; exact hf i (by omega)
      · rintro o ⟨e1, hF, g, hg⟩
        exact ⟨e1, (Fr.set _ (by simp)).trans hF, g, hg⟩
theorem e_fill {d : Nat} {h : ix_H} {a m : Nat} {f : Nat → Int32} (v : Int32) (hm : m < 2 ^ 31) (hc : h.2.2 a = .inl (.int, m, .inl f)) : ev (d + 1) n_J7_fill_53178 [.ref a, .int v] h (fun o => o.1 = none ∧ Fr [a] h o.2 ∧ ∃ g, o.2.2.2 a = .inl (.int, m, .inl g) ∧ ∀ i, i < m → g i = v) := by
  refine ev_of q_J7_fill_53178 (Nat.le_of_ble_eq_true rfl) ?_
  refine gs_k (nI 0) 1 a_J7_fill_53178_0 (by decide +kernel) rfl ?_
  refine gs_n 2 a_J7_fill_53178_1 rfl ?_
  refine gs_n 3 a_J7_fill_53178_2 rfl ?_
  refine gs_al 4 a_J7_fill_53178_3 (by first | assumption | exact hs_same _ _ _ | exact (hs_ne _ _ (by first | assumption | decide | omega)).trans (by first | assumption | exact hs_same _ _ _ | exact (hs_ne _ _ (by first | assumption | decide | omega)).trans (by first | assumption | exact hs_same _ _ _ | exact (hs_ne _ _ (by first | assumption | decide | omega)).trans (by first | assumption | exact hs_same _ _ _ | exact (hs_ne _ _ (by first | assumption | decide | omega)).trans (by first | assumption | exact hs_same _ _ _))))) (by simp) rfl ?_
  refine gs_n 5 a_J7_fill_53178_4 rfl ?_
  refine gs_w [(2, .int (nI 0)), (3, .int (nI m)), (0, .ref a), (1, .int v)] (by simp [ix_nd]) (by intro x hx; simp only [List.mem_cons, List.not_mem_nil, or_false] at hx; rcases hx with rfl | rfl | rfl | rfl <;> rfl) ?_
  exact l_fill hm m 0 h f (by omega) hc (fun i hi => by omega)
