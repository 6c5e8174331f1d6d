/-! OnceLedger: its constructor -/
section CT2
variable {d : Nat} {h : ix_H} {tE : En}
theorem c_init (h0 : h.2.2 0 = .inr (4, ix_blank 4)) (hc : h.1 = 1) : ev (d + 5) n_X4_init [.ref 0] h (fun u => u.1 = none ∧ u.2.1 = 96 ∧ u.2.2.1 ≤ h.2.1 + 60000 ∧ CS u.2 (4, 2000, 100, 0, false, 0, [], 0, 0, tE, [], [])) := by
  have w0 : h.2.2 0 = .inr (4, [.null, .null, .null, .null, .null, .null, .null, .null, .int 0, .int 0, .int 0, .int 0, .int 0, .int 0, .int 0]) := h0
  refine ev_of q_X4_init (Nat.le_of_ble_eq_true rfl) ?_
  refine gs_n 1 a_X4_init_0 rfl ?_
  refine gs_n 4 a_X4_init_1 rfl ?_
  refine gs_n 5 a_X4_init_4 rfl ?_
  refine gs_no' (1) (ci := 0) 8 a_X4_init_5 rfl (by decide) (by first | omega | (simp only [ix_set]; omega)) rfl (fun h1 c_h1 s_h1 e_h1 v_h1 => ?_)
  have w1 : h1.2.2 0 = .inr (4, [.null, .null, .null, .null, .null, .null, .null, .null, .int 0, .int 0, .int 0, .int 0, .int 0, .int 0, .int 0]) := (e_h1 0 (by omega)).trans w0
  refine gs_n 9 a_X4_init_8 rfl ?_
  refine gs_k (nI 40) 11 a_X4_init_9 (by decide +kernel) rfl ?_
  refine gs_ci 14 a_X4_init_11 k_4_11 (by decide) q_X0_init (e_rowI (r := 1) (a := 2) (N := 40) v_h1 c_h1 (by omega) (by omega)) rfl rfl rfl (by simp [Value.category]) (by first | assumption | exact hs_same _ _ _ | exact (hs_ne _ _ (by first | assumption | decide | omega)).trans (by first | assumption | exact hs_same _ _ _ | exact (hs_ne _ _ (by first | assumption | decide | omega)).trans (by first | assumption | exact hs_same _ _ _ | exact (hs_ne _ _ (by first | assumption | decide | omega)).trans (by first | assumption | exact hs_same _ _ _ | exact (hs_ne _ _ (by first | assumption | decide | omega)).trans (by first | assumption | exact hs_same _ _ _))))) rfl (fun v h2 hp => ?_)
  obtain ⟨z1, c2, s2, e2, r2⟩ := hp
  simp only at z1
  subst z1
  have c2 : h2.1 = 3 := c2
  have s2 : h2.2.1 = h.2.1 + 42 := by
    have a1 : h2.2.1 = h1.2.1 + 40 := s2
    have a2 : h1.2.1 = h.2.1 + 2 := s_h1
    omega
  have w2 : h2.2.2 0 = .inr (4, [.null, .null, .null, .null, .null, .null, .null, .null, .int 0, .int 0, .int 0, .int 0, .int 0, .int 0, .int 0]) := (e2 0 (by omega) (by omega)).trans w1
  clear e2 e_h1 s_h1 w1 c_h1 v_h1
  refine gs_put 17 _ a_X4_init_14 f_4_14 (by first | assumption | exact hs_same _ _ _ | exact (hs_ne _ _ (by first | assumption | decide | omega)).trans (by first | assumption | exact hs_same _ _ _ | exact (hs_ne _ _ (by first | assumption | decide | omega)).trans (by first | assumption | exact hs_same _ _ _ | exact (hs_ne _ _ (by first | assumption | decide | omega)).trans (by first | assumption | exact hs_same _ _ _ | exact (hs_ne _ _ (by first | assumption | decide | omega)).trans (by first | assumption | exact hs_same _ _ _))))) (Nat.le_of_ble_eq_true rfl) rfl (fun _ => ⟨rfl, rfl, rfl⟩) rfl rfl ?_
  refine gs_n 18 a_X4_init_17 rfl ?_
  refine gs_no' (3) (ci := 0) 21 a_X4_init_18 rfl (by decide) (by first | omega | (simp only [ix_set]; omega)) rfl (fun h3 c_h3 s_h3 e_h3 v_h3 => ?_)
  have w3 : h3.2.2 0 = .inr (4, [.ref 1, .null, .null, .null, .null, .null, .null, .null, .int 0, .int 0, .int 0, .int 0, .int 0, .int 0, .int 0]) := (e_h3 0 (by omega)).trans (hs_same _ _ _)
  refine gs_n 22 a_X4_init_21 rfl ?_
  refine gs_k (nI 40) 24 a_X4_init_22 (by decide +kernel) rfl ?_
  refine gs_ci 27 a_X4_init_24 k_4_11 (by decide) q_X0_init (e_rowI (r := 3) (a := 4) (N := 40) v_h3 c_h3 (by omega) (by omega)) rfl rfl rfl (by simp [Value.category]) (by first | assumption | exact hs_same _ _ _ | exact (hs_ne _ _ (by first | assumption | decide | omega)).trans (by first | assumption | exact hs_same _ _ _ | exact (hs_ne _ _ (by first | assumption | decide | omega)).trans (by first | assumption | exact hs_same _ _ _ | exact (hs_ne _ _ (by first | assumption | decide | omega)).trans (by first | assumption | exact hs_same _ _ _ | exact (hs_ne _ _ (by first | assumption | decide | omega)).trans (by first | assumption | exact hs_same _ _ _))))) rfl (fun v h4 hp => ?_)
  obtain ⟨z1, c4, s4, e4, r4⟩ := hp
  simp only at z1
  subst z1
  have c4 : h4.1 = 5 := c4
  have s4 : h4.2.1 = h.2.1 + 84 := by
    have a1 : h4.2.1 = h3.2.1 + 40 := s4
    have a2 : h3.2.1 = h2.2.1 + 2 := s_h3
    omega
  have w4 : h4.2.2 0 = .inr (4, [.ref 1, .null, .null, .null, .null, .null, .null, .null, .int 0, .int 0, .int 0, .int 0, .int 0, .int 0, .int 0]) := (e4 0 (by omega) (by omega)).trans w3
  have q4 : ∀ k, 0 < k → k < 3 → h4.2.2 k = h2.2.2 k := fun k g1 g2 => (e4 k (by omega) (by omega)).trans ((e_h3 k (by omega)).trans (hs_ne _ _ (by omega)))
  clear e4 e_h3 s_h3 w3 c_h3 v_h3 s2
  refine gs_put 30 _ a_X4_init_27 f_4_18 (by first | assumption | exact hs_same _ _ _ | exact (hs_ne _ _ (by first | assumption | decide | omega)).trans (by first | assumption | exact hs_same _ _ _ | exact (hs_ne _ _ (by first | assumption | decide | omega)).trans (by first | assumption | exact hs_same _ _ _ | exact (hs_ne _ _ (by first | assumption | decide | omega)).trans (by first | assumption | exact hs_same _ _ _ | exact (hs_ne _ _ (by first | assumption | decide | omega)).trans (by first | assumption | exact hs_same _ _ _))))) (Nat.le_of_ble_eq_true rfl) rfl (fun _ => ⟨rfl, rfl, rfl⟩) rfl rfl ?_
  refine gs_n 31 a_X4_init_30 rfl ?_
  refine gs_no' (5) (ci := 0) 34 a_X4_init_31 rfl (by decide) (by first | omega | (simp only [ix_set]; omega)) rfl (fun h5 c_h5 s_h5 e_h5 v_h5 => ?_)
  have w5 : h5.2.2 0 = .inr (4, [.ref 1, .ref 3, .null, .null, .null, .null, .null, .null, .int 0, .int 0, .int 0, .int 0, .int 0, .int 0, .int 0]) := (e_h5 0 (by omega)).trans (hs_same _ _ _)
  refine gs_n 35 a_X4_init_34 rfl ?_
  refine gs_k (nI 0) 36 a_X4_init_35 (by decide +kernel) rfl ?_
  refine gs_ci 39 a_X4_init_36 k_4_11 (by decide) q_X0_init (e_rowI (r := 5) (a := 6) (N := 0) v_h5 c_h5 (by omega) (by omega)) rfl rfl rfl (by simp [Value.category]) (by first | assumption | exact hs_same _ _ _ | exact (hs_ne _ _ (by first | assumption | decide | omega)).trans (by first | assumption | exact hs_same _ _ _ | exact (hs_ne _ _ (by first | assumption | decide | omega)).trans (by first | assumption | exact hs_same _ _ _ | exact (hs_ne _ _ (by first | assumption | decide | omega)).trans (by first | assumption | exact hs_same _ _ _ | exact (hs_ne _ _ (by first | assumption | decide | omega)).trans (by first | assumption | exact hs_same _ _ _))))) rfl (fun v h6 hp => ?_)
  obtain ⟨z1, c6, s6, e6, r6⟩ := hp
  simp only at z1
  subst z1
  have c6 : h6.1 = 7 := c6
  have s6 : h6.2.1 = h.2.1 + 86 := by
    have a1 : h6.2.1 = h5.2.1 + 0 := s6
    have a2 : h5.2.1 = h4.2.1 + 2 := s_h5
    omega
  have w6 : h6.2.2 0 = .inr (4, [.ref 1, .ref 3, .null, .null, .null, .null, .null, .null, .int 0, .int 0, .int 0, .int 0, .int 0, .int 0, .int 0]) := (e6 0 (by omega) (by omega)).trans w5
  have q6 : ∀ k, 0 < k → k < 5 → h6.2.2 k = h4.2.2 k := fun k g1 g2 => (e6 k (by omega) (by omega)).trans ((e_h5 k (by omega)).trans (hs_ne _ _ (by omega)))
  clear e6 e_h5 s_h5 w5 c_h5 v_h5 s4
  refine gs_put 42 _ a_X4_init_39 f_4_21 (by first | assumption | exact hs_same _ _ _ | exact (hs_ne _ _ (by first | assumption | decide | omega)).trans (by first | assumption | exact hs_same _ _ _ | exact (hs_ne _ _ (by first | assumption | decide | omega)).trans (by first | assumption | exact hs_same _ _ _ | exact (hs_ne _ _ (by first | assumption | decide | omega)).trans (by first | assumption | exact hs_same _ _ _ | exact (hs_ne _ _ (by first | assumption | decide | omega)).trans (by first | assumption | exact hs_same _ _ _))))) (Nat.le_of_ble_eq_true rfl) rfl (fun _ => ⟨rfl, rfl, rfl⟩) rfl rfl ?_
  refine gs_n 43 a_X4_init_42 rfl ?_
  refine gs_k (nI 8) 45 a_X4_init_43 (by decide +kernel) rfl ?_
  refine gs_nq' (7) (8) (ci := 1) 48 a_X4_init_45 rfl (by decide) rfl (by omega) (by first | omega | (simp only [ix_set]; omega)) rfl (fun h7 c_h7 s_h7 e_h7 v_h7 => ?_)
  have w7 : h7.2.2 0 = .inr (4, [.ref 1, .ref 3, .ref 5, .null, .null, .null, .null, .null, .int 0, .int 0, .int 0, .int 0, .int 0, .int 0, .int 0]) := (e_h7 0 (by omega)).trans (hs_same _ _ _)
  have q7 : ∀ k, 0 < k → k < 7 → h7.2.2 k = h6.2.2 k := fun k g1 g2 => (e_h7 k (by omega)).trans (hs_ne _ _ (by omega))
  have s7 : h7.2.1 = h.2.1 + 94 := by
    have a2 : h7.2.1 = h6.2.1 + 8 := s_h7
    omega
  clear e_h7 s_h7 s6
  refine gs_put 51 _ a_X4_init_48 f_4_26 (by first | assumption | exact hs_same _ _ _ | exact (hs_ne _ _ (by first | assumption | decide | omega)).trans (by first | assumption | exact hs_same _ _ _ | exact (hs_ne _ _ (by first | assumption | decide | omega)).trans (by first | assumption | exact hs_same _ _ _ | exact (hs_ne _ _ (by first | assumption | decide | omega)).trans (by first | assumption | exact hs_same _ _ _ | exact (hs_ne _ _ (by first | assumption | decide | omega)).trans (by first | assumption | exact hs_same _ _ _))))) (Nat.le_of_ble_eq_true rfl) rfl (fun _ => ⟨rfl, rfl, rfl⟩) rfl rfl ?_
  refine gs_n 52 a_X4_init_51 rfl ?_
  refine gs_no' (8) (ci := 0) 55 a_X4_init_52 rfl (by decide) (by first | omega | (simp only [ix_set]; omega)) rfl (fun h8 c_h8 s_h8 e_h8 v_h8 => ?_)
  have w8 : h8.2.2 0 = .inr (4, [.ref 1, .ref 3, .ref 5, .ref 7, .null, .null, .null, .null, .int 0, .int 0, .int 0, .int 0, .int 0, .int 0, .int 0]) := (e_h8 0 (by omega)).trans (hs_same _ _ _)
  refine gs_n 56 a_X4_init_55 rfl ?_
  refine gs_k (nI 16000) 59 a_X4_init_56 (by decide +kernel) rfl ?_
  refine gs_ci 62 a_X4_init_59 k_4_11 (by decide) q_X0_init (e_rowI (r := 8) (a := 9) (N := 16000) v_h8 c_h8 (by omega) (by omega)) rfl rfl rfl (by simp [Value.category]) (by first | assumption | exact hs_same _ _ _ | exact (hs_ne _ _ (by first | assumption | decide | omega)).trans (by first | assumption | exact hs_same _ _ _ | exact (hs_ne _ _ (by first | assumption | decide | omega)).trans (by first | assumption | exact hs_same _ _ _ | exact (hs_ne _ _ (by first | assumption | decide | omega)).trans (by first | assumption | exact hs_same _ _ _ | exact (hs_ne _ _ (by first | assumption | decide | omega)).trans (by first | assumption | exact hs_same _ _ _))))) rfl (fun v h9 hp => ?_)
  obtain ⟨z1, c9, s9, e9, r9⟩ := hp
  simp only at z1
  subst z1
  have c9 : h9.1 = 10 := c9
  have s9 : h9.2.1 = h.2.1 + 16096 := by
    have a1 : h9.2.1 = h8.2.1 + 16000 := s9
    have a2 : h8.2.1 = h7.2.1 + 2 := s_h8
    omega
  have w9 : h9.2.2 0 = .inr (4, [.ref 1, .ref 3, .ref 5, .ref 7, .null, .null, .null, .null, .int 0, .int 0, .int 0, .int 0, .int 0, .int 0, .int 0]) := (e9 0 (by omega) (by omega)).trans w8
  have q9 : ∀ k, 0 < k → k < 8 → h9.2.2 k = h7.2.2 k := fun k g1 g2 => (e9 k (by omega) (by omega)).trans ((e_h8 k (by omega)).trans (hs_ne _ _ (by omega)))
  clear e9 e_h8 s_h8 w8 c_h8 v_h8 s7
  refine gs_put 65 _ a_X4_init_62 f_4_30 (by first | assumption | exact hs_same _ _ _ | exact (hs_ne _ _ (by first | assumption | decide | omega)).trans (by first | assumption | exact hs_same _ _ _ | exact (hs_ne _ _ (by first | assumption | decide | omega)).trans (by first | assumption | exact hs_same _ _ _ | exact (hs_ne _ _ (by first | assumption | decide | omega)).trans (by first | assumption | exact hs_same _ _ _ | exact (hs_ne _ _ (by first | assumption | decide | omega)).trans (by first | assumption | exact hs_same _ _ _))))) (Nat.le_of_ble_eq_true rfl) rfl (fun _ => ⟨rfl, rfl, rfl⟩) rfl rfl ?_
  refine gs_n 66 a_X4_init_65 rfl ?_
  refine gs_no' (10) (ci := 3) 69 a_X4_init_66 rfl (by decide) (by first | omega | (simp only [ix_set]; omega)) rfl (fun h10 c_h10 s_h10 e_h10 v_h10 => ?_)
  have w10 : h10.2.2 0 = .inr (4, [.ref 1, .ref 3, .ref 5, .ref 7, .ref 8, .null, .null, .null, .int 0, .int 0, .int 0, .int 0, .int 0, .int 0, .int 0]) := (e_h10 0 (by omega)).trans (hs_same _ _ _)
  refine gs_n 70 a_X4_init_69 rfl ?_
  refine gs_ci 73 a_X4_init_70 k_4_35 (by decide) q_X3_init (e_unsI (u := 10) v_h10 c_h10) rfl rfl rfl (by simp [Value.category]) (by first | assumption | exact hs_same _ _ _ | exact (hs_ne _ _ (by first | assumption | decide | omega)).trans (by first | assumption | exact hs_same _ _ _ | exact (hs_ne _ _ (by first | assumption | decide | omega)).trans (by first | assumption | exact hs_same _ _ _ | exact (hs_ne _ _ (by first | assumption | decide | omega)).trans (by first | assumption | exact hs_same _ _ _ | exact (hs_ne _ _ (by first | assumption | decide | omega)).trans (by first | assumption | exact hs_same _ _ _))))) rfl (fun v h13 hp => ?_)
  obtain ⟨z1, c13, s13, e13, u13⟩ := hp
  simp only at z1
  subst z1
  have c13 : h13.1 = 14 := c13
  have s13 : h13.2.1 = h.2.1 + 22670 := by
    have a1 : h13.2.1 = h10.2.1 + 6569 := s13
    have a2 : h10.2.1 = h9.2.1 + 5 := s_h10
    omega
  have w13 : h13.2.2 0 = .inr (4, [.ref 1, .ref 3, .ref 5, .ref 7, .ref 8, .null, .null, .null, .int 0, .int 0, .int 0, .int 0, .int 0, .int 0, .int 0]) := (e13 0 (by omega)).trans w10
  have q13 : ∀ k, 0 < k → k < 10 → h13.2.2 k = h9.2.2 k := fun k g1 g2 => (e13 k (by omega)).trans ((e_h10 k (by omega)).trans (hs_ne _ _ (by omega)))
  clear e13 e_h10 s_h10 w10 c_h10 v_h10 s9
  refine gs_put 76 _ a_X4_init_73 f_4_36 (by first | assumption | exact hs_same _ _ _ | exact (hs_ne _ _ (by first | assumption | decide | omega)).trans (by first | assumption | exact hs_same _ _ _ | exact (hs_ne _ _ (by first | assumption | decide | omega)).trans (by first | assumption | exact hs_same _ _ _ | exact (hs_ne _ _ (by first | assumption | decide | omega)).trans (by first | assumption | exact hs_same _ _ _ | exact (hs_ne _ _ (by first | assumption | decide | omega)).trans (by first | assumption | exact hs_same _ _ _))))) (Nat.le_of_ble_eq_true rfl) rfl (fun _ => ⟨rfl, rfl, rfl⟩) rfl rfl ?_
  refine gs_n 77 a_X4_init_76 rfl ?_
  refine gs_k (nI 32) 79 a_X4_init_77 (by decide +kernel) rfl ?_
  refine gs_nq' (14) (32) (ci := 2) 82 a_X4_init_79 rfl (by decide) rfl (by omega) (by first | omega | (simp only [ix_set]; omega)) rfl (fun h14 c_h14 s_h14 e_h14 v_h14 => ?_)
  have w14 : h14.2.2 0 = .inr (4, [.ref 1, .ref 3, .ref 5, .ref 7, .ref 8, .ref 10, .null, .null, .int 0, .int 0, .int 0, .int 0, .int 0, .int 0, .int 0]) := (e_h14 0 (by omega)).trans (hs_same _ _ _)
  have q14 : ∀ k, 0 < k → k < 14 → h14.2.2 k = h13.2.2 k := fun k g1 g2 => (e_h14 k (by omega)).trans (hs_ne _ _ (by omega))
  have s14 : h14.2.1 = h.2.1 + 22702 := by
    have a2 : h14.2.1 = h13.2.1 + 32 := s_h14
    omega
  clear e_h14 s_h14 s13
  refine gs_put 85 _ a_X4_init_82 f_4_42 (by first | assumption | exact hs_same _ _ _ | exact (hs_ne _ _ (by first | assumption | decide | omega)).trans (by first | assumption | exact hs_same _ _ _ | exact (hs_ne _ _ (by first | assumption | decide | omega)).trans (by first | assumption | exact hs_same _ _ _ | exact (hs_ne _ _ (by first | assumption | decide | omega)).trans (by first | assumption | exact hs_same _ _ _ | exact (hs_ne _ _ (by first | assumption | decide | omega)).trans (by first | assumption | exact hs_same _ _ _))))) (Nat.le_of_ble_eq_true rfl) rfl (fun _ => ⟨rfl, rfl, rfl⟩) rfl rfl ?_
  refine gs_n 86 a_X4_init_85 rfl ?_
  refine gs_k (nI 64) 88 a_X4_init_86 (by decide +kernel) rfl ?_
  refine gs_na' (15) (64) (ty := .int) 90 a_X4_init_88 rfl (by simp) rfl (by omega) (by first | omega | (simp only [ix_set]; omega)) rfl (fun h15 c_h15 s_h15 e_h15 v_h15 => ?_)
  have w15 : h15.2.2 0 = .inr (4, [.ref 1, .ref 3, .ref 5, .ref 7, .ref 8, .ref 10, .ref 14, .null, .int 0, .int 0, .int 0, .int 0, .int 0, .int 0, .int 0]) := (e_h15 0 (by omega)).trans (hs_same _ _ _)
  have q15 : ∀ k, 0 < k → k < 15 → h15.2.2 k = h14.2.2 k := fun k g1 g2 => (e_h15 k (by omega)).trans (hs_ne _ _ (by omega))
  have s15 : h15.2.1 = h.2.1 + 22766 := by
    have a2 : h15.2.1 = h14.2.1 + 64 := s_h15
    omega
  clear e_h15 s_h15 s14
  refine gs_put 93 _ a_X4_init_90 f_4_46 (by first | assumption | exact hs_same _ _ _ | exact (hs_ne _ _ (by first | assumption | decide | omega)).trans (by first | assumption | exact hs_same _ _ _ | exact (hs_ne _ _ (by first | assumption | decide | omega)).trans (by first | assumption | exact hs_same _ _ _ | exact (hs_ne _ _ (by first | assumption | decide | omega)).trans (by first | assumption | exact hs_same _ _ _ | exact (hs_ne _ _ (by first | assumption | decide | omega)).trans (by first | assumption | exact hs_same _ _ _))))) (Nat.le_of_ble_eq_true rfl) rfl (fun _ => ⟨rfl, rfl, rfl⟩) rfl rfl ?_
  refine gs_k (nI 0) 94 a_X4_init_93 (by decide +kernel) rfl ?_
  refine gs_n 95 a_X4_init_94 rfl ?_
  refine gs_w [(1, .int (nI 0)), (0, .ref 0)] (by simp [ix_nd]) (by intro x hx; simp only [List.mem_cons, List.not_mem_nil, or_false] at hx; rcases hx with rfl | rfl <;> rfl) ?_
  have E14 : ∀ k, 0 < k → k < 14 → h15.2.2 k = h13.2.2 k := fun k g1 g2 => (q15 k g1 (by omega)).trans (q14 k g1 g2)
  have E10 : ∀ k, 0 < k → k < 10 → h15.2.2 k = h9.2.2 k := fun k g1 g2 => (E14 k g1 (by omega)).trans (q13 k g1 g2)
  have E8 : ∀ k, 0 < k → k < 8 → h15.2.2 k = h7.2.2 k := fun k g1 g2 => (E10 k g1 (by omega)).trans (q9 k g1 g2)
  have E7 : ∀ k, 0 < k → k < 7 → h15.2.2 k = h6.2.2 k := fun k g1 g2 => (E8 k g1 (by omega)).trans (q7 k g1 g2)
  have E5 : ∀ k, 0 < k → k < 5 → h15.2.2 k = h4.2.2 k := fun k g1 g2 => (E7 k g1 (by omega)).trans (q6 k g1 g2)
  have E3 : ∀ k, 0 < k → k < 3 → h15.2.2 k = h2.2.2 k := fun k g1 g2 => (E5 k g1 (by omega)).trans (q4 k g1 g2)
  have hS : ∀ k, 0 < k → (ix_set h15 0 (.inr (4, [.ref 1, .ref 3, .ref 5, .ref 7, .ref 8, .ref 10, .ref 14, .ref 15, .int 0, .int 0, .int 0, .int 0, .int 0, .int 0, .int 0]))).2.2 k = h15.2.2 k := fun k g => hs_ne _ _ (by omega)
  refine l_mkLogs (d := d + 2) (h0 := ix_set h15 0 (.inr (4, [.ref 1, .ref 3, .ref 5, .ref 7, .ref 8, .ref 10, .ref 14, .ref 15, .int 0, .int 0, .int 0, .int 0, .int 0, .int 0, .int 0]))) rfl rfl (hs_same _ _ _) ?_ 8 0 _ (by omega) c_h15 rfl (fun k _ _ => rfl) ⟨fun _ => none, (hS 7 (by omega)).trans ((E8 7 (by omega) (by omega)).trans v_h7), fun i hi => absurd hi (Nat.not_lt_zero i)⟩ (fun q hq => absurd hq (Nat.not_lt_zero q))
  intro h64 c64 s64 e64 f64 l64
  have w64 : h64.2.2 0 = .inr (4, [.ref 1, .ref 3, .ref 5, .ref 7, .ref 8, .ref 10, .ref 14, .ref 15, .int 0, .int 0, .int 0, .int 0, .int 0, .int 0, .int 0]) := (e64 0 (by omega) (by omega)).trans (hs_same _ _ _)
  have s64 : h64.2.1 = h.2.1 + 59638 := by
    have a1 : h64.2.1 = h15.2.1 + 36872 := s64
    omega
  refine gs_k (nI 0) 121 a_X4_init_120 (by decide +kernel) rfl ?_
  refine gs_n 122 a_X4_init_121 rfl ?_
  refine gs_w [(1, .int (nI 0)), (0, .ref 0)] (by simp [ix_nd]) (by intro x hx; simp only [List.mem_cons, List.not_mem_nil, or_false] at hx; rcases hx with rfl | rfl <;> rfl) ?_
  refine l_mkProds (d := d + 2) (h0 := h64) rfl rfl w64 ?_ 32 0 h64 (by omega) c64 rfl (fun k _ _ => rfl) ⟨fun _ => none, (e64 14 (by omega) (by omega)).trans ((hS 14 (by omega)).trans ((q15 14 (by omega) (by omega)).trans v_h14)), fun i hi => absurd hi (Nat.not_lt_zero i)⟩ (fun q hq => absurd hq (Nat.not_lt_zero q))
  intro h96 c96 s96 e96 f96 p96
  have w96 := (e96 0 (by omega) (by omega)).trans w64
  have s96 : h96.2.1 = h.2.1 + 59862 := by omega
  have G : ∀ k, 0 < k → k < 16 → k ≠ 7 → k ≠ 14 → h96.2.2 k = h15.2.2 k := fun k g1 g2 g3 g4 => (e96 k (by omega) g4).trans ((e64 k g2 g3).trans (hS k g1))
  have wv : CV h96 (oE (nI 0) (nI 0) (nI 0) (nI 0) (nI 0) (nI 0) (nI 0)) (fun _ => .inl ([], [])) [] [] (fun _ => (nI 0, nI 0, nI 0, nI 0, nI 0, nI 0, nI 0)) (fun _ => nI 0) [] [] := by
    refine ⟨w96, r2.fr ?_ ?_, r4.fr ?_ ?_, r6.fr ?_ ?_, ?_, r9.fr ?_ ?_, u13.fr ?_ ?_ ?_ ?_, f96, ⟨fun _ => 0, ?_, fun i hi => rfl⟩, ?_, p96⟩
    · exact (G _ (by omega) (by omega) (by omega) (by omega)).trans (E3 _ (by omega) (by omega))
    · exact (G _ (by omega) (by omega) (by omega) (by omega)).trans (E3 _ (by omega) (by omega))
    · exact (G _ (by omega) (by omega) (by omega) (by omega)).trans (E5 _ (by omega) (by omega))
    · exact (G _ (by omega) (by omega) (by omega) (by omega)).trans (E5 _ (by omega) (by omega))
    · exact (G _ (by omega) (by omega) (by omega) (by omega)).trans (E7 _ (by omega) (by omega))
    · exact (G _ (by omega) (by omega) (by omega) (by omega)).trans (E7 _ (by omega) (by omega))
    · obtain ⟨f, g1, g2⟩ := f64
      exact ⟨f, (e96 7 (by omega) (by omega)).trans g1, g2⟩
    · exact (G _ (by omega) (by omega) (by omega) (by omega)).trans (E10 _ (by omega) (by omega))
    · exact (G _ (by omega) (by omega) (by omega) (by omega)).trans (E10 _ (by omega) (by omega))
    · exact (G _ (by omega) (by omega) (by omega) (by omega)).trans (E14 _ (by omega) (by omega))
    · exact (G _ (by omega) (by omega) (by omega) (by omega)).trans (E14 _ (by omega) (by omega))
    · exact (G _ (by omega) (by omega) (by omega) (by omega)).trans (E14 _ (by omega) (by omega))
    · exact (G _ (by omega) (by omega) (by omega) (by omega)).trans (E14 _ (by omega) (by omega))
    · exact (G _ (by omega) (by omega) (by omega) (by omega)).trans v_h15
    · intro p hp
      exact (l64 p hp).keep (fun i hi => e96 _ (by omega) (by omega))
  refine gs_n 148 a_X4_init_147 rfl ?_
  refine gs_k (nI 4) 149 a_X4_init_148 (by decide +kernel) rfl ?_
  refine gs_k (nI 2000) 152 a_X4_init_149 (by decide +kernel) rfl ?_
  refine gs_k (nI 100) 154 a_X4_init_152 (by decide +kernel) rfl ?_
  refine gs_cv 157 a_X4_init_154 k_4_52 q_X4_build (c_build (lg := fun _ => []) (tn := fun _ => []) (nI 4) (nI 2000) (nI 100) wv) rfl rfl rfl (by simp [Value.category]) (by first | assumption | exact hs_same _ _ _ | exact (hs_ne _ _ (by first | assumption | decide | omega)).trans (by first | assumption | exact hs_same _ _ _ | exact (hs_ne _ _ (by first | assumption | decide | omega)).trans (by first | assumption | exact hs_same _ _ _ | exact (hs_ne _ _ (by first | assumption | decide | omega)).trans (by first | assumption | exact hs_same _ _ _ | exact (hs_ne _ _ (by first | assumption | decide | omega)).trans (by first | assumption | exact hs_same _ _ _))))) rfl (fun v hB hp => ?_)
  obtain ⟨z1, hF, wB⟩ := hp
  simp only at z1
  subst z1
  refine gs_vret a_X4_init_157 rfl ?_
  refine ⟨rfl, hF.1.trans c96, ?_, ?_⟩
  · show hB.2.1 ≤ _
    rw [hF.2.1]
    omega
  · show CE hB 4 2000 100 0 false 0 [] 0 0 tE [] [] (tS false 4 [])
    refine CE_of (pr := fun _ => (nI 0, nI 0, nI 0, nI 0, nI 0, nI 0, nI 0)) (nx0 := 0) rfl ?_ ?_ (fun e he => absurd he List.not_mem_nil) (Nat.zero_le _)
    · rw [tnO_0, btO_0]
      refine wB.cg ?_ ?_ (fun _ _ => rfl)
      · intro q hq
        simp only [hq, if_true]
        unfold lgO
        rw [show fl q [] = [] from rfl, ite_self]
      · intro k hk
        simp only [hk, if_true]
    · unfold scOk; simp only; omega
end CT2
