/-! The reference: its constructor -/
section R16
variable {d : Nat} {h : ix_H} {tE : En}
theorem r_init (h0 : h.2.2 96 = .inr (5, ix_blank 5)) (hc : h.1 = 97) : ev (d + 3) n_X5_init [.ref 96] h (fun u => u.1 = none ∧ u.2.1 = 118 ∧ u.2.2.1 ≤ h.2.1 + 250000 ∧ (∀ k, k < 96 → u.2.2.2 k = h.2.2 k) ∧ RS u.2 (4, 2000, 100, 0, false, 0, [], 0, 0, tE, [], [])) := by
  have w0 : h.2.2 96 = .inr (5, [.int 0, .int 0, .int 0, .int 0, .int 0, .int 0, .int 0, .int 0, .null, .null, .null, .null, .null, .null, .null, .null, .int 0, .null, .null, .null, .null, .null, .int 0, .null, .null, .int 0, .null, .null, .null, .null, .int 0, .null, .int 0, .null]) := h0
  refine ev_of q_X5_init (Nat.le_of_ble_eq_true rfl) ?_
  refine gs_n 1 a_X5_init_0 rfl ?_
  refine gs_n 4 a_X5_init_1 rfl ?_
  refine gs_n 5 a_X5_init_4 rfl ?_
  refine gs_k (nI 4200) 8 a_X5_init_5 (by decide +kernel) rfl ?_
  refine gs_na' (97) (4200) (ty := .int) 10 a_X5_init_8 rfl (by simp) rfl (by omega) (by first | omega | (simp only [ix_set]; omega)) rfl (fun g1 c_g1 s_g1 e_g1 v_g1 => ?_)
  have w1 : g1.2.2 96 = .inr (5, [.int 0, .int 0, .int 0, .int 0, .int 0, .int 0, .int 0, .int 0, .null, .null, .null, .null, .null, .null, .null, .null, .int 0, .null, .null, .null, .null, .null, .int 0, .null, .null, .int 0, .null, .null, .null, .null, .int 0, .null, .int 0, .null]) := (e_g1 96 (by omega)).trans (w0)
  have q1 : ∀ k, k ≠ 96 → k < 97 → g1.2.2 k = h.2.2 k := fun k _ g2 => e_g1 k (by omega)
  have s1 : g1.2.1 = h.2.1 + 4200 := s_g1
  clear e_g1
  refine gs_put 13 _ a_X5_init_10 f_5_9 (by first | assumption | exact hs_same _ _ _ | exact (hs_ne _ _ (by first | assumption | decide | omega)).trans (by first | assumption | exact hs_same _ _ _ | exact (hs_ne _ _ (by first | assumption | decide | omega)).trans (by first | assumption | exact hs_same _ _ _ | exact (hs_ne _ _ (by first | assumption | decide | omega)).trans (by first | assumption | exact hs_same _ _ _ | exact (hs_ne _ _ (by first | assumption | decide | omega)).trans (by first | assumption | exact hs_same _ _ _))))) (Nat.le_of_ble_eq_true rfl) rfl (fun _ => ⟨rfl, rfl, rfl⟩) rfl rfl ?_
  refine gs_n 14 a_X5_init_13 rfl ?_
  refine gs_k (nI 4200) 17 a_X5_init_14 (by decide +kernel) rfl ?_
  refine gs_na' (98) (4200) (ty := .int) 19 a_X5_init_17 rfl (by simp) rfl (by omega) (by first | omega | (simp only [ix_set]; omega)) rfl (fun g2 c_g2 s_g2 e_g2 v_g2 => ?_)
  have w2 : g2.2.2 96 = .inr (5, [.int 0, .int 0, .int 0, .int 0, .int 0, .int 0, .int 0, .int 0, .ref 97, .null, .null, .null, .null, .null, .null, .null, .int 0, .null, .null, .null, .null, .null, .int 0, .null, .null, .int 0, .null, .null, .null, .null, .int 0, .null, .int 0, .null]) := (e_g2 96 (by omega)).trans (hs_same _ _ _)
  have q2 : ∀ k, k ≠ 96 → k < 98 → g2.2.2 k = g1.2.2 k := fun k g1 g2 => (e_g2 k (by omega)).trans (hs_ne _ _ g1)
  have s2 : g2.2.1 = h.2.1 + 8400 := by
    have a2 : g2.2.1 = g1.2.1 + 4200 := s_g2
    omega
  clear s1 s_g2
  clear e_g2
  refine gs_put 22 _ a_X5_init_19 f_5_13 (by first | assumption | exact hs_same _ _ _ | exact (hs_ne _ _ (by first | assumption | decide | omega)).trans (by first | assumption | exact hs_same _ _ _ | exact (hs_ne _ _ (by first | assumption | decide | omega)).trans (by first | assumption | exact hs_same _ _ _ | exact (hs_ne _ _ (by first | assumption | decide | omega)).trans (by first | assumption | exact hs_same _ _ _ | exact (hs_ne _ _ (by first | assumption | decide | omega)).trans (by first | assumption | exact hs_same _ _ _))))) (Nat.le_of_ble_eq_true rfl) rfl (fun _ => ⟨rfl, rfl, rfl⟩) rfl rfl ?_
  refine gs_n 23 a_X5_init_22 rfl ?_
  refine gs_k (nI 4200) 26 a_X5_init_23 (by decide +kernel) rfl ?_
  refine gs_na' (99) (4200) (ty := .int) 28 a_X5_init_26 rfl (by simp) rfl (by omega) (by first | omega | (simp only [ix_set]; omega)) rfl (fun g3 c_g3 s_g3 e_g3 v_g3 => ?_)
  have w3 : g3.2.2 96 = .inr (5, [.int 0, .int 0, .int 0, .int 0, .int 0, .int 0, .int 0, .int 0, .ref 97, .ref 98, .null, .null, .null, .null, .null, .null, .int 0, .null, .null, .null, .null, .null, .int 0, .null, .null, .int 0, .null, .null, .null, .null, .int 0, .null, .int 0, .null]) := (e_g3 96 (by omega)).trans (hs_same _ _ _)
  have q3 : ∀ k, k ≠ 96 → k < 99 → g3.2.2 k = g2.2.2 k := fun k g1 g2 => (e_g3 k (by omega)).trans (hs_ne _ _ g1)
  have s3 : g3.2.1 = h.2.1 + 12600 := by
    have a2 : g3.2.1 = g2.2.1 + 4200 := s_g3
    omega
  clear s2 s_g3
  clear w2
  clear e_g3
  refine gs_put 31 _ a_X5_init_28 f_5_16 (by first | assumption | exact hs_same _ _ _ | exact (hs_ne _ _ (by first | assumption | decide | omega)).trans (by first | assumption | exact hs_same _ _ _ | exact (hs_ne _ _ (by first | assumption | decide | omega)).trans (by first | assumption | exact hs_same _ _ _ | exact (hs_ne _ _ (by first | assumption | decide | omega)).trans (by first | assumption | exact hs_same _ _ _ | exact (hs_ne _ _ (by first | assumption | decide | omega)).trans (by first | assumption | exact hs_same _ _ _))))) (Nat.le_of_ble_eq_true rfl) rfl (fun _ => ⟨rfl, rfl, rfl⟩) rfl rfl ?_
  refine gs_n 32 a_X5_init_31 rfl ?_
  refine gs_k (nI 4200) 35 a_X5_init_32 (by decide +kernel) rfl ?_
  refine gs_na' (100) (4200) (ty := .int) 37 a_X5_init_35 rfl (by simp) rfl (by omega) (by first | omega | (simp only [ix_set]; omega)) rfl (fun g4 c_g4 s_g4 e_g4 v_g4 => ?_)
  have w4 : g4.2.2 96 = .inr (5, [.int 0, .int 0, .int 0, .int 0, .int 0, .int 0, .int 0, .int 0, .ref 97, .ref 98, .ref 99, .null, .null, .null, .null, .null, .int 0, .null, .null, .null, .null, .null, .int 0, .null, .null, .int 0, .null, .null, .null, .null, .int 0, .null, .int 0, .null]) := (e_g4 96 (by omega)).trans (hs_same _ _ _)
  have q4 : ∀ k, k ≠ 96 → k < 100 → g4.2.2 k = g3.2.2 k := fun k g1 g2 => (e_g4 k (by omega)).trans (hs_ne _ _ g1)
  have s4 : g4.2.1 = h.2.1 + 16800 := by
    have a2 : g4.2.1 = g3.2.1 + 4200 := s_g4
    omega
  clear s3 s_g4
  clear w3
  clear e_g4
  refine gs_put 40 _ a_X5_init_37 f_5_19 (by first | assumption | exact hs_same _ _ _ | exact (hs_ne _ _ (by first | assumption | decide | omega)).trans (by first | assumption | exact hs_same _ _ _ | exact (hs_ne _ _ (by first | assumption | decide | omega)).trans (by first | assumption | exact hs_same _ _ _ | exact (hs_ne _ _ (by first | assumption | decide | omega)).trans (by first | assumption | exact hs_same _ _ _ | exact (hs_ne _ _ (by first | assumption | decide | omega)).trans (by first | assumption | exact hs_same _ _ _))))) (Nat.le_of_ble_eq_true rfl) rfl (fun _ => ⟨rfl, rfl, rfl⟩) rfl rfl ?_
  refine gs_n 41 a_X5_init_40 rfl ?_
  refine gs_k (nI 4200) 44 a_X5_init_41 (by decide +kernel) rfl ?_
  refine gs_na' (101) (4200) (ty := .int) 46 a_X5_init_44 rfl (by simp) rfl (by omega) (by first | omega | (simp only [ix_set]; omega)) rfl (fun g5 c_g5 s_g5 e_g5 v_g5 => ?_)
  have w5 : g5.2.2 96 = .inr (5, [.int 0, .int 0, .int 0, .int 0, .int 0, .int 0, .int 0, .int 0, .ref 97, .ref 98, .ref 99, .ref 100, .null, .null, .null, .null, .int 0, .null, .null, .null, .null, .null, .int 0, .null, .null, .int 0, .null, .null, .null, .null, .int 0, .null, .int 0, .null]) := (e_g5 96 (by omega)).trans (hs_same _ _ _)
  have q5 : ∀ k, k ≠ 96 → k < 101 → g5.2.2 k = g4.2.2 k := fun k g1 g2 => (e_g5 k (by omega)).trans (hs_ne _ _ g1)
  have s5 : g5.2.1 = h.2.1 + 21000 := by
    have a2 : g5.2.1 = g4.2.1 + 4200 := s_g5
    omega
  clear s4 s_g5
  clear w4
  clear e_g5
  refine gs_put 49 _ a_X5_init_46 f_5_22 (by first | assumption | exact hs_same _ _ _ | exact (hs_ne _ _ (by first | assumption | decide | omega)).trans (by first | assumption | exact hs_same _ _ _ | exact (hs_ne _ _ (by first | assumption | decide | omega)).trans (by first | assumption | exact hs_same _ _ _ | exact (hs_ne _ _ (by first | assumption | decide | omega)).trans (by first | assumption | exact hs_same _ _ _ | exact (hs_ne _ _ (by first | assumption | decide | omega)).trans (by first | assumption | exact hs_same _ _ _))))) (Nat.le_of_ble_eq_true rfl) rfl (fun _ => ⟨rfl, rfl, rfl⟩) rfl rfl ?_
  refine gs_n 50 a_X5_init_49 rfl ?_
  refine gs_k (nI 4200) 53 a_X5_init_50 (by decide +kernel) rfl ?_
  refine gs_na' (102) (4200) (ty := .int) 55 a_X5_init_53 rfl (by simp) rfl (by omega) (by first | omega | (simp only [ix_set]; omega)) rfl (fun g6 c_g6 s_g6 e_g6 v_g6 => ?_)
  have w6 : g6.2.2 96 = .inr (5, [.int 0, .int 0, .int 0, .int 0, .int 0, .int 0, .int 0, .int 0, .ref 97, .ref 98, .ref 99, .ref 100, .ref 101, .null, .null, .null, .int 0, .null, .null, .null, .null, .null, .int 0, .null, .null, .int 0, .null, .null, .null, .null, .int 0, .null, .int 0, .null]) := (e_g6 96 (by omega)).trans (hs_same _ _ _)
  have q6 : ∀ k, k ≠ 96 → k < 102 → g6.2.2 k = g5.2.2 k := fun k g1 g2 => (e_g6 k (by omega)).trans (hs_ne _ _ g1)
  have s6 : g6.2.1 = h.2.1 + 25200 := by
    have a2 : g6.2.1 = g5.2.1 + 4200 := s_g6
    omega
  clear s5 s_g6
  clear w5
  clear e_g6
  refine gs_put 58 _ a_X5_init_55 f_5_25 (by first | assumption | exact hs_same _ _ _ | exact (hs_ne _ _ (by first | assumption | decide | omega)).trans (by first | assumption | exact hs_same _ _ _ | exact (hs_ne _ _ (by first | assumption | decide | omega)).trans (by first | assumption | exact hs_same _ _ _ | exact (hs_ne _ _ (by first | assumption | decide | omega)).trans (by first | assumption | exact hs_same _ _ _ | exact (hs_ne _ _ (by first | assumption | decide | omega)).trans (by first | assumption | exact hs_same _ _ _))))) (Nat.le_of_ble_eq_true rfl) rfl (fun _ => ⟨rfl, rfl, rfl⟩) rfl rfl ?_
  refine gs_n 59 a_X5_init_58 rfl ?_
  refine gs_k (nI 4200) 62 a_X5_init_59 (by decide +kernel) rfl ?_
  refine gs_na' (103) (4200) (ty := .int) 64 a_X5_init_62 rfl (by simp) rfl (by omega) (by first | omega | (simp only [ix_set]; omega)) rfl (fun g7 c_g7 s_g7 e_g7 v_g7 => ?_)
  have w7 : g7.2.2 96 = .inr (5, [.int 0, .int 0, .int 0, .int 0, .int 0, .int 0, .int 0, .int 0, .ref 97, .ref 98, .ref 99, .ref 100, .ref 101, .ref 102, .null, .null, .int 0, .null, .null, .null, .null, .null, .int 0, .null, .null, .int 0, .null, .null, .null, .null, .int 0, .null, .int 0, .null]) := (e_g7 96 (by omega)).trans (hs_same _ _ _)
  have q7 : ∀ k, k ≠ 96 → k < 103 → g7.2.2 k = g6.2.2 k := fun k g1 g2 => (e_g7 k (by omega)).trans (hs_ne _ _ g1)
  have s7 : g7.2.1 = h.2.1 + 29400 := by
    have a2 : g7.2.1 = g6.2.1 + 4200 := s_g7
    omega
  clear s6 s_g7
  clear w6
  clear e_g7
  refine gs_put 67 _ a_X5_init_64 f_5_28 (by first | assumption | exact hs_same _ _ _ | exact (hs_ne _ _ (by first | assumption | decide | omega)).trans (by first | assumption | exact hs_same _ _ _ | exact (hs_ne _ _ (by first | assumption | decide | omega)).trans (by first | assumption | exact hs_same _ _ _ | exact (hs_ne _ _ (by first | assumption | decide | omega)).trans (by first | assumption | exact hs_same _ _ _ | exact (hs_ne _ _ (by first | assumption | decide | omega)).trans (by first | assumption | exact hs_same _ _ _))))) (Nat.le_of_ble_eq_true rfl) rfl (fun _ => ⟨rfl, rfl, rfl⟩) rfl rfl ?_
  refine gs_n 68 a_X5_init_67 rfl ?_
  refine gs_n 70 a_X5_init_68 rfl ?_
  refine gs_na' (104) (168000) (ty := .byte) 72 a_X5_init_70 rfl (by simp) rfl (by omega) (by first | omega | (simp only [ix_set]; omega)) rfl (fun g8 c_g8 s_g8 e_g8 v_g8 => ?_)
  have w8 : g8.2.2 96 = .inr (5, [.int 0, .int 0, .int 0, .int 0, .int 0, .int 0, .int 0, .int 0, .ref 97, .ref 98, .ref 99, .ref 100, .ref 101, .ref 102, .ref 103, .null, .int 0, .null, .null, .null, .null, .null, .int 0, .null, .null, .int 0, .null, .null, .null, .null, .int 0, .null, .int 0, .null]) := (e_g8 96 (by omega)).trans (hs_same _ _ _)
  have q8 : ∀ k, k ≠ 96 → k < 104 → g8.2.2 k = g7.2.2 k := fun k g1 g2 => (e_g8 k (by omega)).trans (hs_ne _ _ g1)
  have s8 : g8.2.1 = h.2.1 + 197400 := by
    have a2 : g8.2.1 = g7.2.1 + 168000 := s_g8
    omega
  clear s7 s_g8
  clear w7
  clear e_g8
  refine gs_put 75 _ a_X5_init_72 f_5_32 (by first | assumption | exact hs_same _ _ _ | exact (hs_ne _ _ (by first | assumption | decide | omega)).trans (by first | assumption | exact hs_same _ _ _ | exact (hs_ne _ _ (by first | assumption | decide | omega)).trans (by first | assumption | exact hs_same _ _ _ | exact (hs_ne _ _ (by first | assumption | decide | omega)).trans (by first | assumption | exact hs_same _ _ _ | exact (hs_ne _ _ (by first | assumption | decide | omega)).trans (by first | assumption | exact hs_same _ _ _))))) (Nat.le_of_ble_eq_true rfl) rfl (fun _ => ⟨rfl, rfl, rfl⟩) rfl rfl ?_
  refine gs_n 76 a_X5_init_75 rfl ?_
  refine gs_k (nI 32) 78 a_X5_init_76 (by decide +kernel) rfl ?_
  refine gs_na' (105) (32) (ty := .boolean) 80 a_X5_init_78 rfl (by simp) rfl (by omega) (by first | omega | (simp only [ix_set]; omega)) rfl (fun g9 c_g9 s_g9 e_g9 v_g9 => ?_)
  have w9 : g9.2.2 96 = .inr (5, [.int 0, .int 0, .int 0, .int 0, .int 0, .int 0, .int 0, .int 0, .ref 97, .ref 98, .ref 99, .ref 100, .ref 101, .ref 102, .ref 103, .ref 104, .int 0, .null, .null, .null, .null, .null, .int 0, .null, .null, .int 0, .null, .null, .null, .null, .int 0, .null, .int 0, .null]) := (e_g9 96 (by omega)).trans (hs_same _ _ _)
  have q9 : ∀ k, k ≠ 96 → k < 105 → g9.2.2 k = g8.2.2 k := fun k g1 g2 => (e_g9 k (by omega)).trans (hs_ne _ _ g1)
  have s9 : g9.2.1 = h.2.1 + 197432 := by
    have a2 : g9.2.1 = g8.2.1 + 32 := s_g9
    omega
  clear s8 s_g9
  clear w8
  clear e_g9
  refine gs_put 83 _ a_X5_init_80 f_5_36 (by first | assumption | exact hs_same _ _ _ | exact (hs_ne _ _ (by first | assumption | decide | omega)).trans (by first | assumption | exact hs_same _ _ _ | exact (hs_ne _ _ (by first | assumption | decide | omega)).trans (by first | assumption | exact hs_same _ _ _ | exact (hs_ne _ _ (by first | assumption | decide | omega)).trans (by first | assumption | exact hs_same _ _ _ | exact (hs_ne _ _ (by first | assumption | decide | omega)).trans (by first | assumption | exact hs_same _ _ _))))) (Nat.le_of_ble_eq_true rfl) rfl (fun _ => ⟨rfl, rfl, rfl⟩) rfl rfl ?_
  refine gs_n 84 a_X5_init_83 rfl ?_
  refine gs_k (nI 32) 86 a_X5_init_84 (by decide +kernel) rfl ?_
  refine gs_na' (106) (32) (ty := .int) 88 a_X5_init_86 rfl (by simp) rfl (by omega) (by first | omega | (simp only [ix_set]; omega)) rfl (fun g10 c_g10 s_g10 e_g10 v_g10 => ?_)
  have w10 : g10.2.2 96 = .inr (5, [.int 0, .int 0, .int 0, .int 0, .int 0, .int 0, .int 0, .int 0, .ref 97, .ref 98, .ref 99, .ref 100, .ref 101, .ref 102, .ref 103, .ref 104, .int 0, .ref 105, .null, .null, .null, .null, .int 0, .null, .null, .int 0, .null, .null, .null, .null, .int 0, .null, .int 0, .null]) := (e_g10 96 (by omega)).trans (hs_same _ _ _)
  have q10 : ∀ k, k ≠ 96 → k < 106 → g10.2.2 k = g9.2.2 k := fun k g1 g2 => (e_g10 k (by omega)).trans (hs_ne _ _ g1)
  have s10 : g10.2.1 = h.2.1 + 197464 := by
    have a2 : g10.2.1 = g9.2.1 + 32 := s_g10
    omega
  clear s9 s_g10
  clear w9
  clear e_g10
  refine gs_put 91 _ a_X5_init_88 f_5_40 (by first | assumption | exact hs_same _ _ _ | exact (hs_ne _ _ (by first | assumption | decide | omega)).trans (by first | assumption | exact hs_same _ _ _ | exact (hs_ne _ _ (by first | assumption | decide | omega)).trans (by first | assumption | exact hs_same _ _ _ | exact (hs_ne _ _ (by first | assumption | decide | omega)).trans (by first | assumption | exact hs_same _ _ _ | exact (hs_ne _ _ (by first | assumption | decide | omega)).trans (by first | assumption | exact hs_same _ _ _))))) (Nat.le_of_ble_eq_true rfl) rfl (fun _ => ⟨rfl, rfl, rfl⟩) rfl rfl ?_
  refine gs_n 92 a_X5_init_91 rfl ?_
  refine gs_k (nI 32) 94 a_X5_init_92 (by decide +kernel) rfl ?_
  refine gs_na' (107) (32) (ty := .int) 96 a_X5_init_94 rfl (by simp) rfl (by omega) (by first | omega | (simp only [ix_set]; omega)) rfl (fun g11 c_g11 s_g11 e_g11 v_g11 => ?_)
  have w11 : g11.2.2 96 = .inr (5, [.int 0, .int 0, .int 0, .int 0, .int 0, .int 0, .int 0, .int 0, .ref 97, .ref 98, .ref 99, .ref 100, .ref 101, .ref 102, .ref 103, .ref 104, .int 0, .ref 105, .ref 106, .null, .null, .null, .int 0, .null, .null, .int 0, .null, .null, .null, .null, .int 0, .null, .int 0, .null]) := (e_g11 96 (by omega)).trans (hs_same _ _ _)
  have q11 : ∀ k, k ≠ 96 → k < 107 → g11.2.2 k = g10.2.2 k := fun k g1 g2 => (e_g11 k (by omega)).trans (hs_ne _ _ g1)
  have s11 : g11.2.1 = h.2.1 + 197496 := by
    have a2 : g11.2.1 = g10.2.1 + 32 := s_g11
    omega
  clear s10 s_g11
  clear w10
  clear e_g11
  refine gs_put 99 _ a_X5_init_96 f_5_43 (by first | assumption | exact hs_same _ _ _ | exact (hs_ne _ _ (by first | assumption | decide | omega)).trans (by first | assumption | exact hs_same _ _ _ | exact (hs_ne _ _ (by first | assumption | decide | omega)).trans (by first | assumption | exact hs_same _ _ _ | exact (hs_ne _ _ (by first | assumption | decide | omega)).trans (by first | assumption | exact hs_same _ _ _ | exact (hs_ne _ _ (by first | assumption | decide | omega)).trans (by first | assumption | exact hs_same _ _ _))))) (Nat.le_of_ble_eq_true rfl) rfl (fun _ => ⟨rfl, rfl, rfl⟩) rfl rfl ?_
  refine gs_n 100 a_X5_init_99 rfl ?_
  refine gs_k (nI 32) 102 a_X5_init_100 (by decide +kernel) rfl ?_
  refine gs_na' (108) (32) (ty := .int) 104 a_X5_init_102 rfl (by simp) rfl (by omega) (by first | omega | (simp only [ix_set]; omega)) rfl (fun g12 c_g12 s_g12 e_g12 v_g12 => ?_)
  have w12 : g12.2.2 96 = .inr (5, [.int 0, .int 0, .int 0, .int 0, .int 0, .int 0, .int 0, .int 0, .ref 97, .ref 98, .ref 99, .ref 100, .ref 101, .ref 102, .ref 103, .ref 104, .int 0, .ref 105, .ref 106, .ref 107, .null, .null, .int 0, .null, .null, .int 0, .null, .null, .null, .null, .int 0, .null, .int 0, .null]) := (e_g12 96 (by omega)).trans (hs_same _ _ _)
  have q12 : ∀ k, k ≠ 96 → k < 108 → g12.2.2 k = g11.2.2 k := fun k g1 g2 => (e_g12 k (by omega)).trans (hs_ne _ _ g1)
  have s12 : g12.2.1 = h.2.1 + 197528 := by
    have a2 : g12.2.1 = g11.2.1 + 32 := s_g12
    omega
  clear s11 s_g12
  clear w11
  clear e_g12
  refine gs_put 107 _ a_X5_init_104 f_5_46 (by first | assumption | exact hs_same _ _ _ | exact (hs_ne _ _ (by first | assumption | decide | omega)).trans (by first | assumption | exact hs_same _ _ _ | exact (hs_ne _ _ (by first | assumption | decide | omega)).trans (by first | assumption | exact hs_same _ _ _ | exact (hs_ne _ _ (by first | assumption | decide | omega)).trans (by first | assumption | exact hs_same _ _ _ | exact (hs_ne _ _ (by first | assumption | decide | omega)).trans (by first | assumption | exact hs_same _ _ _))))) (Nat.le_of_ble_eq_true rfl) rfl (fun _ => ⟨rfl, rfl, rfl⟩) rfl rfl ?_
  refine gs_n 108 a_X5_init_107 rfl ?_
  refine gs_k (nI 32) 110 a_X5_init_108 (by decide +kernel) rfl ?_
  refine gs_na' (109) (32) (ty := .int) 112 a_X5_init_110 rfl (by simp) rfl (by omega) (by first | omega | (simp only [ix_set]; omega)) rfl (fun g13 c_g13 s_g13 e_g13 v_g13 => ?_)
  have w13 : g13.2.2 96 = .inr (5, [.int 0, .int 0, .int 0, .int 0, .int 0, .int 0, .int 0, .int 0, .ref 97, .ref 98, .ref 99, .ref 100, .ref 101, .ref 102, .ref 103, .ref 104, .int 0, .ref 105, .ref 106, .ref 107, .ref 108, .null, .int 0, .null, .null, .int 0, .null, .null, .null, .null, .int 0, .null, .int 0, .null]) := (e_g13 96 (by omega)).trans (hs_same _ _ _)
  have q13 : ∀ k, k ≠ 96 → k < 109 → g13.2.2 k = g12.2.2 k := fun k g1 g2 => (e_g13 k (by omega)).trans (hs_ne _ _ g1)
  have s13 : g13.2.1 = h.2.1 + 197560 := by
    have a2 : g13.2.1 = g12.2.1 + 32 := s_g13
    omega
  clear s12 s_g13
  clear w12
  clear e_g13
  refine gs_put 115 _ a_X5_init_112 f_5_49 (by first | assumption | exact hs_same _ _ _ | exact (hs_ne _ _ (by first | assumption | decide | omega)).trans (by first | assumption | exact hs_same _ _ _ | exact (hs_ne _ _ (by first | assumption | decide | omega)).trans (by first | assumption | exact hs_same _ _ _ | exact (hs_ne _ _ (by first | assumption | decide | omega)).trans (by first | assumption | exact hs_same _ _ _ | exact (hs_ne _ _ (by first | assumption | decide | omega)).trans (by first | assumption | exact hs_same _ _ _))))) (Nat.le_of_ble_eq_true rfl) rfl (fun _ => ⟨rfl, rfl, rfl⟩) rfl rfl ?_
  refine gs_n 116 a_X5_init_115 rfl ?_
  refine gs_k (nI 64) 118 a_X5_init_116 (by decide +kernel) rfl ?_
  refine gs_na' (110) (64) (ty := .int) 120 a_X5_init_118 rfl (by simp) rfl (by omega) (by first | omega | (simp only [ix_set]; omega)) rfl (fun g14 c_g14 s_g14 e_g14 v_g14 => ?_)
  have w14 : g14.2.2 96 = .inr (5, [.int 0, .int 0, .int 0, .int 0, .int 0, .int 0, .int 0, .int 0, .ref 97, .ref 98, .ref 99, .ref 100, .ref 101, .ref 102, .ref 103, .ref 104, .int 0, .ref 105, .ref 106, .ref 107, .ref 108, .ref 109, .int 0, .null, .null, .int 0, .null, .null, .null, .null, .int 0, .null, .int 0, .null]) := (e_g14 96 (by omega)).trans (hs_same _ _ _)
  have q14 : ∀ k, k ≠ 96 → k < 110 → g14.2.2 k = g13.2.2 k := fun k g1 g2 => (e_g14 k (by omega)).trans (hs_ne _ _ g1)
  have s14 : g14.2.1 = h.2.1 + 197624 := by
    have a2 : g14.2.1 = g13.2.1 + 64 := s_g14
    omega
  clear s13 s_g14
  clear w13
  clear e_g14
  refine gs_put 123 _ a_X5_init_120 f_5_52 (by first | assumption | exact hs_same _ _ _ | exact (hs_ne _ _ (by first | assumption | decide | omega)).trans (by first | assumption | exact hs_same _ _ _ | exact (hs_ne _ _ (by first | assumption | decide | omega)).trans (by first | assumption | exact hs_same _ _ _ | exact (hs_ne _ _ (by first | assumption | decide | omega)).trans (by first | assumption | exact hs_same _ _ _ | exact (hs_ne _ _ (by first | assumption | decide | omega)).trans (by first | assumption | exact hs_same _ _ _))))) (Nat.le_of_ble_eq_true rfl) rfl (fun _ => ⟨rfl, rfl, rfl⟩) rfl rfl ?_
  refine gs_n 124 a_X5_init_123 rfl ?_
  refine gs_k (nI 1100) 127 a_X5_init_124 (by decide +kernel) rfl ?_
  refine gs_na' (111) (1100) (ty := .int) 129 a_X5_init_127 rfl (by simp) rfl (by omega) (by first | omega | (simp only [ix_set]; omega)) rfl (fun g15 c_g15 s_g15 e_g15 v_g15 => ?_)
  have w15 : g15.2.2 96 = .inr (5, [.int 0, .int 0, .int 0, .int 0, .int 0, .int 0, .int 0, .int 0, .ref 97, .ref 98, .ref 99, .ref 100, .ref 101, .ref 102, .ref 103, .ref 104, .int 0, .ref 105, .ref 106, .ref 107, .ref 108, .ref 109, .int 0, .ref 110, .null, .int 0, .null, .null, .null, .null, .int 0, .null, .int 0, .null]) := (e_g15 96 (by omega)).trans (hs_same _ _ _)
  have q15 : ∀ k, k ≠ 96 → k < 111 → g15.2.2 k = g14.2.2 k := fun k g1 g2 => (e_g15 k (by omega)).trans (hs_ne _ _ g1)
  have s15 : g15.2.1 = h.2.1 + 198724 := by
    have a2 : g15.2.1 = g14.2.1 + 1100 := s_g15
    omega
  clear s14 s_g15
  clear w14
  clear e_g15
  refine gs_put 132 _ a_X5_init_129 f_5_55 (by first | assumption | exact hs_same _ _ _ | exact (hs_ne _ _ (by first | assumption | decide | omega)).trans (by first | assumption | exact hs_same _ _ _ | exact (hs_ne _ _ (by first | assumption | decide | omega)).trans (by first | assumption | exact hs_same _ _ _ | exact (hs_ne _ _ (by first | assumption | decide | omega)).trans (by first | assumption | exact hs_same _ _ _ | exact (hs_ne _ _ (by first | assumption | decide | omega)).trans (by first | assumption | exact hs_same _ _ _))))) (Nat.le_of_ble_eq_true rfl) rfl (fun _ => ⟨rfl, rfl, rfl⟩) rfl rfl ?_
  refine gs_n 133 a_X5_init_132 rfl ?_
  refine gs_k (nI 1100) 136 a_X5_init_133 (by decide +kernel) rfl ?_
  refine gs_na' (112) (1100) (ty := .int) 138 a_X5_init_136 rfl (by simp) rfl (by omega) (by first | omega | (simp only [ix_set]; omega)) rfl (fun g16 c_g16 s_g16 e_g16 v_g16 => ?_)
  have w16 : g16.2.2 96 = .inr (5, [.int 0, .int 0, .int 0, .int 0, .int 0, .int 0, .int 0, .int 0, .ref 97, .ref 98, .ref 99, .ref 100, .ref 101, .ref 102, .ref 103, .ref 104, .int 0, .ref 105, .ref 106, .ref 107, .ref 108, .ref 109, .int 0, .ref 110, .ref 111, .int 0, .null, .null, .null, .null, .int 0, .null, .int 0, .null]) := (e_g16 96 (by omega)).trans (hs_same _ _ _)
  have q16 : ∀ k, k ≠ 96 → k < 112 → g16.2.2 k = g15.2.2 k := fun k g1 g2 => (e_g16 k (by omega)).trans (hs_ne _ _ g1)
  have s16 : g16.2.1 = h.2.1 + 199824 := by
    have a2 : g16.2.1 = g15.2.1 + 1100 := s_g16
    omega
  clear s15 s_g16
  clear w15
  clear e_g16
  refine gs_put 141 _ a_X5_init_138 f_5_58 (by first | assumption | exact hs_same _ _ _ | exact (hs_ne _ _ (by first | assumption | decide | omega)).trans (by first | assumption | exact hs_same _ _ _ | exact (hs_ne _ _ (by first | assumption | decide | omega)).trans (by first | assumption | exact hs_same _ _ _ | exact (hs_ne _ _ (by first | assumption | decide | omega)).trans (by first | assumption | exact hs_same _ _ _ | exact (hs_ne _ _ (by first | assumption | decide | omega)).trans (by first | assumption | exact hs_same _ _ _))))) (Nat.le_of_ble_eq_true rfl) rfl (fun _ => ⟨rfl, rfl, rfl⟩) rfl rfl ?_
  refine gs_n 142 a_X5_init_141 rfl ?_
  refine gs_k (nI 1100) 145 a_X5_init_142 (by decide +kernel) rfl ?_
  refine gs_na' (113) (1100) (ty := .int) 147 a_X5_init_145 rfl (by simp) rfl (by omega) (by first | omega | (simp only [ix_set]; omega)) rfl (fun g17 c_g17 s_g17 e_g17 v_g17 => ?_)
  have w17 : g17.2.2 96 = .inr (5, [.int 0, .int 0, .int 0, .int 0, .int 0, .int 0, .int 0, .int 0, .ref 97, .ref 98, .ref 99, .ref 100, .ref 101, .ref 102, .ref 103, .ref 104, .int 0, .ref 105, .ref 106, .ref 107, .ref 108, .ref 109, .int 0, .ref 110, .ref 111, .int 0, .ref 112, .null, .null, .null, .int 0, .null, .int 0, .null]) := (e_g17 96 (by omega)).trans (hs_same _ _ _)
  have q17 : ∀ k, k ≠ 96 → k < 113 → g17.2.2 k = g16.2.2 k := fun k g1 g2 => (e_g17 k (by omega)).trans (hs_ne _ _ g1)
  have s17 : g17.2.1 = h.2.1 + 200924 := by
    have a2 : g17.2.1 = g16.2.1 + 1100 := s_g17
    omega
  clear s16 s_g17
  clear w16
  clear e_g17
  refine gs_put 150 _ a_X5_init_147 f_5_61 (by first | assumption | exact hs_same _ _ _ | exact (hs_ne _ _ (by first | assumption | decide | omega)).trans (by first | assumption | exact hs_same _ _ _ | exact (hs_ne _ _ (by first | assumption | decide | omega)).trans (by first | assumption | exact hs_same _ _ _ | exact (hs_ne _ _ (by first | assumption | decide | omega)).trans (by first | assumption | exact hs_same _ _ _ | exact (hs_ne _ _ (by first | assumption | decide | omega)).trans (by first | assumption | exact hs_same _ _ _))))) (Nat.le_of_ble_eq_true rfl) rfl (fun _ => ⟨rfl, rfl, rfl⟩) rfl rfl ?_
  refine gs_n 151 a_X5_init_150 rfl ?_
  refine gs_k (nI 1100) 154 a_X5_init_151 (by decide +kernel) rfl ?_
  refine gs_na' (114) (1100) (ty := .int) 156 a_X5_init_154 rfl (by simp) rfl (by omega) (by first | omega | (simp only [ix_set]; omega)) rfl (fun g18 c_g18 s_g18 e_g18 v_g18 => ?_)
  have w18 : g18.2.2 96 = .inr (5, [.int 0, .int 0, .int 0, .int 0, .int 0, .int 0, .int 0, .int 0, .ref 97, .ref 98, .ref 99, .ref 100, .ref 101, .ref 102, .ref 103, .ref 104, .int 0, .ref 105, .ref 106, .ref 107, .ref 108, .ref 109, .int 0, .ref 110, .ref 111, .int 0, .ref 112, .ref 113, .null, .null, .int 0, .null, .int 0, .null]) := (e_g18 96 (by omega)).trans (hs_same _ _ _)
  have q18 : ∀ k, k ≠ 96 → k < 114 → g18.2.2 k = g17.2.2 k := fun k g1 g2 => (e_g18 k (by omega)).trans (hs_ne _ _ g1)
  have s18 : g18.2.1 = h.2.1 + 202024 := by
    have a2 : g18.2.1 = g17.2.1 + 1100 := s_g18
    omega
  clear s17 s_g18
  clear w17
  clear e_g18
  refine gs_put 159 _ a_X5_init_156 f_5_64 (by first | assumption | exact hs_same _ _ _ | exact (hs_ne _ _ (by first | assumption | decide | omega)).trans (by first | assumption | exact hs_same _ _ _ | exact (hs_ne _ _ (by first | assumption | decide | omega)).trans (by first | assumption | exact hs_same _ _ _ | exact (hs_ne _ _ (by first | assumption | decide | omega)).trans (by first | assumption | exact hs_same _ _ _ | exact (hs_ne _ _ (by first | assumption | decide | omega)).trans (by first | assumption | exact hs_same _ _ _))))) (Nat.le_of_ble_eq_true rfl) rfl (fun _ => ⟨rfl, rfl, rfl⟩) rfl rfl ?_
  refine gs_n 160 a_X5_init_159 rfl ?_
  refine gs_k (nI 40) 162 a_X5_init_160 (by decide +kernel) rfl ?_
  refine gs_na' (115) (40) (ty := .byte) 164 a_X5_init_162 rfl (by simp) rfl (by omega) (by first | omega | (simp only [ix_set]; omega)) rfl (fun g19 c_g19 s_g19 e_g19 v_g19 => ?_)
  have w19 : g19.2.2 96 = .inr (5, [.int 0, .int 0, .int 0, .int 0, .int 0, .int 0, .int 0, .int 0, .ref 97, .ref 98, .ref 99, .ref 100, .ref 101, .ref 102, .ref 103, .ref 104, .int 0, .ref 105, .ref 106, .ref 107, .ref 108, .ref 109, .int 0, .ref 110, .ref 111, .int 0, .ref 112, .ref 113, .ref 114, .null, .int 0, .null, .int 0, .null]) := (e_g19 96 (by omega)).trans (hs_same _ _ _)
  have q19 : ∀ k, k ≠ 96 → k < 115 → g19.2.2 k = g18.2.2 k := fun k g1 g2 => (e_g19 k (by omega)).trans (hs_ne _ _ g1)
  have s19 : g19.2.1 = h.2.1 + 202064 := by
    have a2 : g19.2.1 = g18.2.1 + 40 := s_g19
    omega
  clear s18 s_g19
  clear w18
  clear e_g19
  refine gs_put 167 _ a_X5_init_164 f_5_67 (by first | assumption | exact hs_same _ _ _ | exact (hs_ne _ _ (by first | assumption | decide | omega)).trans (by first | assumption | exact hs_same _ _ _ | exact (hs_ne _ _ (by first | assumption | decide | omega)).trans (by first | assumption | exact hs_same _ _ _ | exact (hs_ne _ _ (by first | assumption | decide | omega)).trans (by first | assumption | exact hs_same _ _ _ | exact (hs_ne _ _ (by first | assumption | decide | omega)).trans (by first | assumption | exact hs_same _ _ _))))) (Nat.le_of_ble_eq_true rfl) rfl (fun _ => ⟨rfl, rfl, rfl⟩) rfl rfl ?_
  refine gs_n 168 a_X5_init_167 rfl ?_
  refine gs_k (nI 40) 170 a_X5_init_168 (by decide +kernel) rfl ?_
  refine gs_na' (116) (40) (ty := .byte) 172 a_X5_init_170 rfl (by simp) rfl (by omega) (by first | omega | (simp only [ix_set]; omega)) rfl (fun g20 c_g20 s_g20 e_g20 v_g20 => ?_)
  have w20 : g20.2.2 96 = .inr (5, [.int 0, .int 0, .int 0, .int 0, .int 0, .int 0, .int 0, .int 0, .ref 97, .ref 98, .ref 99, .ref 100, .ref 101, .ref 102, .ref 103, .ref 104, .int 0, .ref 105, .ref 106, .ref 107, .ref 108, .ref 109, .int 0, .ref 110, .ref 111, .int 0, .ref 112, .ref 113, .ref 114, .ref 115, .int 0, .null, .int 0, .null]) := (e_g20 96 (by omega)).trans (hs_same _ _ _)
  have q20 : ∀ k, k ≠ 96 → k < 116 → g20.2.2 k = g19.2.2 k := fun k g1 g2 => (e_g20 k (by omega)).trans (hs_ne _ _ g1)
  have s20 : g20.2.1 = h.2.1 + 202104 := by
    have a2 : g20.2.1 = g19.2.1 + 40 := s_g20
    omega
  clear s19 s_g20
  clear w19
  clear e_g20
  refine gs_put 175 _ a_X5_init_172 f_5_70 (by first | assumption | exact hs_same _ _ _ | exact (hs_ne _ _ (by first | assumption | decide | omega)).trans (by first | assumption | exact hs_same _ _ _ | exact (hs_ne _ _ (by first | assumption | decide | omega)).trans (by first | assumption | exact hs_same _ _ _ | exact (hs_ne _ _ (by first | assumption | decide | omega)).trans (by first | assumption | exact hs_same _ _ _ | exact (hs_ne _ _ (by first | assumption | decide | omega)).trans (by first | assumption | exact hs_same _ _ _))))) (Nat.le_of_ble_eq_true rfl) rfl (fun _ => ⟨rfl, rfl, rfl⟩) rfl rfl ?_
  refine gs_n 176 a_X5_init_175 rfl ?_
  refine gs_k (nI 1100) 179 a_X5_init_176 (by decide +kernel) rfl ?_
  refine gs_na' (117) (1100) (ty := .int) 181 a_X5_init_179 rfl (by simp) rfl (by omega) (by first | omega | (simp only [ix_set]; omega)) rfl (fun g21 c_g21 s_g21 e_g21 v_g21 => ?_)
  have w21 : g21.2.2 96 = .inr (5, [.int 0, .int 0, .int 0, .int 0, .int 0, .int 0, .int 0, .int 0, .ref 97, .ref 98, .ref 99, .ref 100, .ref 101, .ref 102, .ref 103, .ref 104, .int 0, .ref 105, .ref 106, .ref 107, .ref 108, .ref 109, .int 0, .ref 110, .ref 111, .int 0, .ref 112, .ref 113, .ref 114, .ref 115, .int 0, .ref 116, .int 0, .null]) := (e_g21 96 (by omega)).trans (hs_same _ _ _)
  have q21 : ∀ k, k ≠ 96 → k < 117 → g21.2.2 k = g20.2.2 k := fun k g1 g2 => (e_g21 k (by omega)).trans (hs_ne _ _ g1)
  have s21 : g21.2.1 = h.2.1 + 203204 := by
    have a2 : g21.2.1 = g20.2.1 + 1100 := s_g21
    omega
  clear s20 s_g21
  clear w20
  clear e_g21
  refine gs_put 184 _ a_X5_init_181 f_5_73 (by first | assumption | exact hs_same _ _ _ | exact (hs_ne _ _ (by first | assumption | decide | omega)).trans (by first | assumption | exact hs_same _ _ _ | exact (hs_ne _ _ (by first | assumption | decide | omega)).trans (by first | assumption | exact hs_same _ _ _ | exact (hs_ne _ _ (by first | assumption | decide | omega)).trans (by first | assumption | exact hs_same _ _ _ | exact (hs_ne _ _ (by first | assumption | decide | omega)).trans (by first | assumption | exact hs_same _ _ _))))) (Nat.le_of_ble_eq_true rfl) rfl (fun _ => ⟨rfl, rfl, rfl⟩) rfl rfl ?_
  refine gs_n 185 a_X5_init_184 rfl ?_
  refine gs_k (nI 4) 186 a_X5_init_185 (by decide +kernel) rfl ?_
  refine gs_k (nI 2000) 189 a_X5_init_186 (by decide +kernel) rfl ?_
  refine gs_k (nI 100) 191 a_X5_init_189 (by decide +kernel) rfl ?_
  change gs none (d + 2) mD_X5_init (191, lv_args 0 [.ref 96], [.int (nI 100), .int (nI 2000), .int (nI 4), .ref 96], ix_set g21 96 (.inr (5, [.int 0, .int 0, .int 0, .int 0, .int 0, .int 0, .int 0, .int 0, .ref 97, .ref 98, .ref 99, .ref 100, .ref 101, .ref 102, .ref 103, .ref 104, .int 0, .ref 105, .ref 106, .ref 107, .ref 108, .ref 109, .int 0, .ref 110, .ref 111, .int 0, .ref 112, .ref 113, .ref 114, .ref 115, .int 0, .ref 116, .int 0, .ref 117]))) _
  generalize hh : ix_set g21 96 (.inr (5, [.int 0, .int 0, .int 0, .int 0, .int 0, .int 0, .int 0, .int 0, .ref 97, .ref 98, .ref 99, .ref 100, .ref 101, .ref 102, .ref 103, .ref 104, .int 0, .ref 105, .ref 106, .ref 107, .ref 108, .ref 109, .int 0, .ref 110, .ref 111, .int 0, .ref 112, .ref 113, .ref 114, .ref 115, .int 0, .ref 116, .int 0, .ref 117])) = hZ
  have wZ : hZ.2.2 96 = .inr (5, [.int 0, .int 0, .int 0, .int 0, .int 0, .int 0, .int 0, .int 0, .ref 97, .ref 98, .ref 99, .ref 100, .ref 101, .ref 102, .ref 103, .ref 104, .int 0, .ref 105, .ref 106, .ref 107, .ref 108, .ref 109, .int 0, .ref 110, .ref 111, .int 0, .ref 112, .ref 113, .ref 114, .ref 115, .int 0, .ref 116, .int 0, .ref 117]) := by rw [← hh]; exact hs_same _ _ _
  have cZ : hZ.1 = 118 := by rw [← hh]; exact c_g21
  have sZ : hZ.2.1 = h.2.1 + 203204 := by rw [← hh]; exact s21
  have qZ : ∀ k, k ≠ 96 → hZ.2.2 k = g21.2.2 k := fun k g1 => by rw [← hh]; exact hs_ne _ _ g1
  have E21 : ∀ k, k ≠ 96 → k < 118 → hZ.2.2 k = g21.2.2 k := fun k g1 _ => qZ k g1
  have E20 : ∀ k, k ≠ 96 → k < 117 → hZ.2.2 k = g20.2.2 k := fun k g1 g2 => (E21 k g1 (by omega)).trans (q21 k g1 (by omega))
  have E19 : ∀ k, k ≠ 96 → k < 116 → hZ.2.2 k = g19.2.2 k := fun k g1 g2 => (E20 k g1 (by omega)).trans (q20 k g1 (by omega))
  have E18 : ∀ k, k ≠ 96 → k < 115 → hZ.2.2 k = g18.2.2 k := fun k g1 g2 => (E19 k g1 (by omega)).trans (q19 k g1 (by omega))
  have E17 : ∀ k, k ≠ 96 → k < 114 → hZ.2.2 k = g17.2.2 k := fun k g1 g2 => (E18 k g1 (by omega)).trans (q18 k g1 (by omega))
  have E16 : ∀ k, k ≠ 96 → k < 113 → hZ.2.2 k = g16.2.2 k := fun k g1 g2 => (E17 k g1 (by omega)).trans (q17 k g1 (by omega))
  have E15 : ∀ k, k ≠ 96 → k < 112 → hZ.2.2 k = g15.2.2 k := fun k g1 g2 => (E16 k g1 (by omega)).trans (q16 k g1 (by omega))
  have E14 : ∀ k, k ≠ 96 → k < 111 → hZ.2.2 k = g14.2.2 k := fun k g1 g2 => (E15 k g1 (by omega)).trans (q15 k g1 (by omega))
  have E13 : ∀ k, k ≠ 96 → k < 110 → hZ.2.2 k = g13.2.2 k := fun k g1 g2 => (E14 k g1 (by omega)).trans (q14 k g1 (by omega))
  have E12 : ∀ k, k ≠ 96 → k < 109 → hZ.2.2 k = g12.2.2 k := fun k g1 g2 => (E13 k g1 (by omega)).trans (q13 k g1 (by omega))
  have E11 : ∀ k, k ≠ 96 → k < 108 → hZ.2.2 k = g11.2.2 k := fun k g1 g2 => (E12 k g1 (by omega)).trans (q12 k g1 (by omega))
  have E10 : ∀ k, k ≠ 96 → k < 107 → hZ.2.2 k = g10.2.2 k := fun k g1 g2 => (E11 k g1 (by omega)).trans (q11 k g1 (by omega))
  have E9 : ∀ k, k ≠ 96 → k < 106 → hZ.2.2 k = g9.2.2 k := fun k g1 g2 => (E10 k g1 (by omega)).trans (q10 k g1 (by omega))
  have E8 : ∀ k, k ≠ 96 → k < 105 → hZ.2.2 k = g8.2.2 k := fun k g1 g2 => (E9 k g1 (by omega)).trans (q9 k g1 (by omega))
  have E7 : ∀ k, k ≠ 96 → k < 104 → hZ.2.2 k = g7.2.2 k := fun k g1 g2 => (E8 k g1 (by omega)).trans (q8 k g1 (by omega))
  have E6 : ∀ k, k ≠ 96 → k < 103 → hZ.2.2 k = g6.2.2 k := fun k g1 g2 => (E7 k g1 (by omega)).trans (q7 k g1 (by omega))
  have E5 : ∀ k, k ≠ 96 → k < 102 → hZ.2.2 k = g5.2.2 k := fun k g1 g2 => (E6 k g1 (by omega)).trans (q6 k g1 (by omega))
  have E4 : ∀ k, k ≠ 96 → k < 101 → hZ.2.2 k = g4.2.2 k := fun k g1 g2 => (E5 k g1 (by omega)).trans (q5 k g1 (by omega))
  have E3 : ∀ k, k ≠ 96 → k < 100 → hZ.2.2 k = g3.2.2 k := fun k g1 g2 => (E4 k g1 (by omega)).trans (q4 k g1 (by omega))
  have E2 : ∀ k, k ≠ 96 → k < 99 → hZ.2.2 k = g2.2.2 k := fun k g1 g2 => (E3 k g1 (by omega)).trans (q3 k g1 (by omega))
  have E1 : ∀ k, k ≠ 96 → k < 98 → hZ.2.2 k = g1.2.2 k := fun k g1 g2 => (E2 k g1 (by omega)).trans (q2 k g1 (by omega))
  have E0 : ∀ k, k < 96 → hZ.2.2 k = h.2.2 k := fun k g1 => (E1 k (by omega) (by omega)).trans (q1 k (by omega) (by omega))
  have wm : MW hZ (0, 0, 0, 0, false, 0, 0, 0, 0, 0, 0, 0, 0) (fun _ _ => nI 0) := by
    refine ⟨wZ, (E1 97 (by omega) (by omega)).trans v_g1, (E2 98 (by omega) (by omega)).trans v_g2, (E3 99 (by omega) (by omega)).trans v_g3, (E4 100 (by omega) (by omega)).trans v_g4, (E5 101 (by omega) (by omega)).trans v_g5, (E6 102 (by omega) (by omega)).trans v_g6, (E7 103 (by omega) (by omega)).trans v_g7, (E8 104 (by omega) (by omega)).trans v_g8, (E9 105 (by omega) (by omega)).trans v_g9, (E10 106 (by omega) (by omega)).trans v_g10, (E11 107 (by omega) (by omega)).trans v_g11, (E12 108 (by omega) (by omega)).trans v_g12, (E13 109 (by omega) (by omega)).trans v_g13, (E14 110 (by omega) (by omega)).trans v_g14, (E15 111 (by omega) (by omega)).trans v_g15, (E16 112 (by omega) (by omega)).trans v_g16, (E17 113 (by omega) (by omega)).trans v_g17, (E18 114 (by omega) (by omega)).trans v_g18, (E19 115 (by omega) (by omega)).trans v_g19, (E20 116 (by omega) (by omega)).trans v_g20, (E21 117 (by omega) (by omega)).trans v_g21⟩
  have wE : RE hZ 0 0 0 0 false 0 [] 0 0 tE [] [] (0, fun _ => 0, fun _ => 1, fun _ => 1, fun _ => 0, fun _ => nI 0, fun _ => 0, fun _ => 0, fun _ => 1, 0, [], fun _ => 0) := by
    refine ⟨_, wm, ⟨Nat.zero_le _, fun e he => absurd he (by simp), fun i hi => absurd hi (Nat.not_lt_zero i)⟩, fun z => absurd z (by omega), ⟨fun k hk => ⟨rfl, fun z => absurd rfl z, (m1_s 0).symm, fun _ => (m1_s 0).symm, rfl⟩, fun i hi => (m1_s 0).symm, fun t ht => absurd ht (Nat.not_lt_zero t), fun i hi => absurd hi (Nat.not_lt_zero i)⟩, fun i hi => absurd hi (Nat.not_lt_zero i), fun i hi => absurd hi (Nat.not_lt_zero i)⟩
  refine gs_cv 194 a_X5_init_191 k_5_76 q_X5_format (r_format (nI 4) (nI 2000) (nI 100) (by omega) wE) rfl rfl rfl (by simp [Value.category]) (by first | assumption | exact hs_same _ _ _ | exact (hs_ne _ _ (by first | assumption | decide | omega)).trans (by first | assumption | exact hs_same _ _ _ | exact (hs_ne _ _ (by first | assumption | decide | omega)).trans (by first | assumption | exact hs_same _ _ _ | exact (hs_ne _ _ (by first | assumption | decide | omega)).trans (by first | assumption | exact hs_same _ _ _ | exact (hs_ne _ _ (by first | assumption | decide | omega)).trans (by first | assumption | exact hs_same _ _ _))))) rfl (fun v hB hp => ?_)
  rw [nI_toInt (by omega), nI_toInt (by omega), nI_toInt (by omega), if_pos (by omega)] at hp
  obtain ⟨z1, hF, wB⟩ := hp
  simp only at z1
  subst z1
  refine gs_n 195 a_X5_init_194 rfl ?_
  refine gs_vret a_X5_init_195 rfl ?_
  refine ⟨rfl, hF.1.trans cZ, ?_, fun k hk => (hF.2.2 k (fun q => by have := q.1; omega)).trans (E0 k hk), ?_⟩
  · show hB.2.1 ≤ _
    rw [hF.2.1, sZ]
    omega
  · exact wB
end R16
