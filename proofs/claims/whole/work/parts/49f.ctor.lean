/-! OnceLedger: making one -/
section CT
variable {d : Nat} {h : ix_H}
theorem e_rowI {r a N : Nat} (hr : h.2.2 r = .inr (0, ix_blank 0)) (ha : h.1 = a) (hra : r ≠ a) (hN : N ≤ 16000) : ev (d + 1) n_X0_init [.ref r, .int (nI N)] h (fun u => u.1 = none ∧ u.2.1 = a + 1 ∧ u.2.2.1 = h.2.1 + N ∧ (∀ k, k ≠ r → k ≠ a → u.2.2.2 k = h.2.2 k) ∧ RowAt u.2 r a N []) := by
  refine ev_of q_X0_init (Nat.le_of_ble_eq_true rfl) ?_
  refine gs_n 1 a_X0_init_0 rfl ?_
  refine gs_n 4 a_X0_init_1 rfl ?_
  refine gs_n 5 a_X0_init_4 rfl ?_
  refine gs_n 6 a_X0_init_5 rfl ?_
  refine gs_k (nI 0) 7 a_X0_init_6 (by decide +kernel) rfl ?_
  refine gs_n 10 a_X0_init_7 rfl ?_
  rw [show (if nI N < nI 0 then nI 0 else nI N) = nI N from if_neg (nI_pos (by omega))]
  refine gs_na' (a) (N) (ty := .byte) 12 a_X0_init_10 rfl (by simp) rfl (by omega) (by first | omega | (simp only [ix_set]; omega)) rfl (fun h1 c_h1 s_h1 e_h1 v_h1 => ?_)
  have w1 : h1.2.2 r = .inr (0, [.null, .int 0]) := (e_h1 r hra).trans hr
  refine gs_put 15 _ a_X0_init_12 f_0_15 (by first | assumption | exact hs_same _ _ _ | exact (hs_ne _ _ (by first | assumption | decide | omega)).trans (by first | assumption | exact hs_same _ _ _ | exact (hs_ne _ _ (by first | assumption | decide | omega)).trans (by first | assumption | exact hs_same _ _ _ | exact (hs_ne _ _ (by first | assumption | decide | omega)).trans (by first | assumption | exact hs_same _ _ _ | exact (hs_ne _ _ (by first | assumption | decide | omega)).trans (by first | assumption | exact hs_same _ _ _))))) (Nat.le_of_ble_eq_true rfl) rfl (fun _ => ⟨rfl, rfl, rfl⟩) rfl rfl ?_
  refine gs_vret a_X0_init_15 rfl ?_
  refine ⟨rfl, c_h1, s_h1, fun k h2 h3 => (hs_ne _ _ h2).trans (e_h1 k h3), hs_same _ _ _, ⟨fun _ => 0, (hs_ne _ _ (Ne.symm hra)).trans v_h1, fun i hi => absurd hi (Nat.not_lt_zero i)⟩, Nat.zero_le _, by omega, fun b hb => absurd hb (by simp)⟩
theorem e_prodI {r : Nat} : ev (d + 1) n_X2_init [.ref r] h (fun u => u = (none, h)) := by
  refine ev_of q_X2_init (Nat.le_of_ble_eq_true rfl) ?_
  refine gs_n 1 a_X2_init_0 rfl ?_
  refine gs_n 4 a_X2_init_1 rfl ?_
  refine gs_vret a_X2_init_4 rfl ?_
  rfl
theorem e_unsI {u : Nat} (hu : h.2.2 u = .inr (3, ix_blank 3)) (ha : h.1 = u + 1) : ev (d + 1) n_X3_init [.ref u] h (fun o => o.1 = none ∧ o.2.1 = u + 4 ∧ o.2.2.1 = h.2.1 + 6569 ∧ (∀ k, k < u → o.2.2.2 k = h.2.2 k) ∧ UnsAt o.2 u []) := by
  refine ev_of q_X3_init (Nat.le_of_ble_eq_true rfl) ?_
  refine gs_n 1 a_X3_init_0 rfl ?_
  refine gs_n 4 a_X3_init_1 rfl ?_
  refine gs_n 5 a_X3_init_4 rfl ?_
  refine gs_k (nI 3280) 8 a_X3_init_5 (by decide +kernel) rfl ?_
  refine gs_na' (u+1) (3280) (ty := .int) 10 a_X3_init_8 rfl (by simp) rfl (by omega) (by first | omega | (simp only [ix_set]; omega)) rfl (fun h1 c_h1 s_h1 e_h1 v_h1 => ?_)
  have w1 : h1.2.2 u = .inr (3, [.null, .null, .null, .int 0, .int 0]) := (e_h1 u (by omega)).trans hu
  refine gs_put 13 _ a_X3_init_10 f_3_9 (by first | assumption | exact hs_same _ _ _ | exact (hs_ne _ _ (by first | assumption | decide | omega)).trans (by first | assumption | exact hs_same _ _ _ | exact (hs_ne _ _ (by first | assumption | decide | omega)).trans (by first | assumption | exact hs_same _ _ _ | exact (hs_ne _ _ (by first | assumption | decide | omega)).trans (by first | assumption | exact hs_same _ _ _ | exact (hs_ne _ _ (by first | assumption | decide | omega)).trans (by first | assumption | exact hs_same _ _ _))))) (Nat.le_of_ble_eq_true rfl) rfl (fun _ => ⟨rfl, rfl, rfl⟩) rfl rfl ?_
  refine gs_n 14 a_X3_init_13 rfl ?_
  refine gs_k (nI 3280) 17 a_X3_init_14 (by decide +kernel) rfl ?_
  refine gs_na' (u+2) (3280) (ty := .int) 19 a_X3_init_17 rfl (by simp) rfl (by omega) (by first | omega | (simp only [ix_set]; omega)) rfl (fun h2 c_h2 s_h2 e_h2 v_h2 => ?_)
  have w2 : h2.2.2 u = .inr (3, [.ref (u + 1), .null, .null, .int 0, .int 0]) := (e_h2 u (by omega)).trans (hs_same _ _ _)
  have x2 : h2.2.2 (u + 1) = .inl (.int, 3280, .inl (fun _ => 0)) := (e_h2 _ (by omega)).trans ((hs_ne _ _ (by omega)).trans v_h1)
  have y2 : ∀ k, k < u → h2.2.2 k = h.2.2 k := fun k hk => (e_h2 _ (by omega)).trans ((hs_ne _ _ (by omega)).trans (e_h1 k (by omega)))
  have z2 : h2.2.1 = h.2.1 + 6560 := by rw [s_h2]; show h1.2.1 + 3280 = _; omega
  refine gs_put 22 _ a_X3_init_19 f_3_15 (by first | assumption | exact hs_same _ _ _ | exact (hs_ne _ _ (by first | assumption | decide | omega)).trans (by first | assumption | exact hs_same _ _ _ | exact (hs_ne _ _ (by first | assumption | decide | omega)).trans (by first | assumption | exact hs_same _ _ _ | exact (hs_ne _ _ (by first | assumption | decide | omega)).trans (by first | assumption | exact hs_same _ _ _ | exact (hs_ne _ _ (by first | assumption | decide | omega)).trans (by first | assumption | exact hs_same _ _ _))))) (Nat.le_of_ble_eq_true rfl) rfl (fun _ => ⟨rfl, rfl, rfl⟩) rfl rfl ?_
  refine gs_n 23 a_X3_init_22 rfl ?_
  refine gs_k (nI 9) 25 a_X3_init_23 (by decide +kernel) rfl ?_
  refine gs_na' (u+3) (9) (ty := .int) 27 a_X3_init_25 rfl (by simp) rfl (by omega) (by first | omega | (simp only [ix_set]; omega)) rfl (fun h3 c_h3 s_h3 e_h3 v_h3 => ?_)
  have w3 : h3.2.2 u = .inr (3, [.ref (u + 1), .ref (u + 2), .null, .int 0, .int 0]) := (e_h3 u (by omega)).trans (hs_same _ _ _)
  refine gs_put 30 _ a_X3_init_27 f_3_18 (by first | assumption | exact hs_same _ _ _ | exact (hs_ne _ _ (by first | assumption | decide | omega)).trans (by first | assumption | exact hs_same _ _ _ | exact (hs_ne _ _ (by first | assumption | decide | omega)).trans (by first | assumption | exact hs_same _ _ _ | exact (hs_ne _ _ (by first | assumption | decide | omega)).trans (by first | assumption | exact hs_same _ _ _ | exact (hs_ne _ _ (by first | assumption | decide | omega)).trans (by first | assumption | exact hs_same _ _ _))))) (Nat.le_of_ble_eq_true rfl) rfl (fun _ => ⟨rfl, rfl, rfl⟩) rfl rfl ?_
  refine gs_vret a_X3_init_30 rfl ?_
  refine ⟨rfl, c_h3, ?_, fun k hk => (hs_ne _ _ (by omega)).trans ((e_h3 _ (by omega)).trans ((hs_ne _ _ (by omega)).trans (y2 k hk))), hs_same _ _ _, ⟨fun _ => 0, (hs_ne _ _ (by omega)).trans ((e_h3 _ (by omega)).trans ((hs_ne _ _ (by omega)).trans x2)), fun i hi => absurd hi (Nat.not_lt_zero i)⟩, ⟨fun _ => 0, (hs_ne _ _ (by omega)).trans ((e_h3 _ (by omega)).trans ((hs_ne _ _ (by omega)).trans v_h2)), fun i hi => absurd hi (Nat.not_lt_zero i)⟩, ⟨fun _ => 0, (hs_ne _ _ (by omega)).trans v_h3, fun k hk => rfl⟩, fun x hx => absurd hx (by simp), Nat.zero_le _⟩
  show h3.2.1 = _
  rw [s_h3]
  show h2.2.1 + 9 = _
  omega
theorem e_logI {L : Nat} (hu : h.2.2 L = .inr (1, ix_blank 1)) (ha : h.1 = L + 1) : ev (d + 2) n_X1_init [.ref L] h (fun o => o.1 = none ∧ o.2.1 = L + 6 ∧ o.2.2.1 = h.2.1 + 4604 ∧ (∀ k, k < L → o.2.2.2 k = h.2.2 k) ∧ LogAt o.2 L [] []) := by
  refine ev_of q_X1_init (Nat.le_of_ble_eq_true rfl) ?_
  refine gs_n 1 a_X1_init_0 rfl ?_
  refine gs_n 4 a_X1_init_1 rfl ?_
  refine gs_n 5 a_X1_init_4 rfl ?_
  refine gs_no' (L+1) (ci := 0) 8 a_X1_init_5 rfl (by decide) (by first | omega | (simp only [ix_set]; omega)) rfl (fun h1 c_h1 s_h1 e_h1 v_h1 => ?_)
  have w1 : h1.2.2 L = .inr (1, [.null, .null, .null, .null, .int 0]) := (e_h1 L (by omega)).trans hu
  refine gs_n 9 a_X1_init_8 rfl ?_
  refine gs_k (nI 4000) 12 a_X1_init_9 (by decide +kernel) rfl ?_
  refine gs_ci 15 a_X1_init_12 k_1_11 (by decide) q_X0_init (e_rowI (r := L + 1) (a := L + 2) (N := 4000) v_h1 (by omega) (by omega) (by omega)) rfl rfl rfl (by simp [Value.category]) (by first | assumption | exact hs_same _ _ _ | exact (hs_ne _ _ (by first | assumption | decide | omega)).trans (by first | assumption | exact hs_same _ _ _ | exact (hs_ne _ _ (by first | assumption | decide | omega)).trans (by first | assumption | exact hs_same _ _ _ | exact (hs_ne _ _ (by first | assumption | decide | omega)).trans (by first | assumption | exact hs_same _ _ _ | exact (hs_ne _ _ (by first | assumption | decide | omega)).trans (by first | assumption | exact hs_same _ _ _))))) rfl (fun v h2 hp => ?_)
  obtain ⟨e1, c2, s2, e2, r2⟩ := hp
  simp only at e1
  subst e1
  have w2 : h2.2.2 L = .inr (1, [.null, .null, .null, .null, .int 0]) := (e2 L (by omega) (by omega)).trans w1
  have y2 : ∀ k, k < L → h2.2.2 k = h.2.2 k := fun k hk => (e2 k (by omega) (by omega)).trans (e_h1 k (by omega))
  have z2 : h2.2.1 = h.2.1 + 4002 := by rw [s2, s_h1]; rfl
  have c2' : h2.1 = L + 3 := c2
  refine gs_put 18 _ a_X1_init_15 f_1_14 (by first | assumption | exact hs_same _ _ _ | exact (hs_ne _ _ (by first | assumption | decide | omega)).trans (by first | assumption | exact hs_same _ _ _ | exact (hs_ne _ _ (by first | assumption | decide | omega)).trans (by first | assumption | exact hs_same _ _ _ | exact (hs_ne _ _ (by first | assumption | decide | omega)).trans (by first | assumption | exact hs_same _ _ _ | exact (hs_ne _ _ (by first | assumption | decide | omega)).trans (by first | assumption | exact hs_same _ _ _))))) (Nat.le_of_ble_eq_true rfl) rfl (fun _ => ⟨rfl, rfl, rfl⟩) rfl rfl ?_
  refine gs_n 19 a_X1_init_18 rfl ?_
  refine gs_k (nI 285) 22 a_X1_init_19 (by decide +kernel) rfl ?_
  refine gs_na' (L+3) (285) (ty := .int) 24 a_X1_init_22 rfl (by simp) rfl (by omega) (by first | omega | (simp only [ix_set]; omega)) rfl (fun h3 c_h3 s_h3 e_h3 v_h3 => ?_)
  have w3 : h3.2.2 L = .inr (1, [.ref (L + 1), .null, .null, .null, .int 0]) := (e_h3 L (by omega)).trans (hs_same _ _ _)
  have y3 : ∀ k, k ≠ L → k < L + 3 → h3.2.2 k = h2.2.2 k := fun k h1 h2 => (e_h3 k (by omega)).trans (hs_ne _ _ h1)
  have z3 : h3.2.1 = h2.2.1 + 285 := s_h3
  refine gs_put 27 _ a_X1_init_24 f_1_20 (by first | assumption | exact hs_same _ _ _ | exact (hs_ne _ _ (by first | assumption | decide | omega)).trans (by first | assumption | exact hs_same _ _ _ | exact (hs_ne _ _ (by first | assumption | decide | omega)).trans (by first | assumption | exact hs_same _ _ _ | exact (hs_ne _ _ (by first | assumption | decide | omega)).trans (by first | assumption | exact hs_same _ _ _ | exact (hs_ne _ _ (by first | assumption | decide | omega)).trans (by first | assumption | exact hs_same _ _ _))))) (Nat.le_of_ble_eq_true rfl) rfl (fun _ => ⟨rfl, rfl, rfl⟩) rfl rfl ?_
  refine gs_n 28 a_X1_init_27 rfl ?_
  refine gs_k (nI 285) 31 a_X1_init_28 (by decide +kernel) rfl ?_
  refine gs_na' (L+4) (285) (ty := .boolean) 33 a_X1_init_31 rfl (by simp) rfl (by omega) (by first | omega | (simp only [ix_set]; omega)) rfl (fun h4 c_h4 s_h4 e_h4 v_h4 => ?_)
  have w4 : h4.2.2 L = .inr (1, [.ref (L + 1), .ref (L + 3), .null, .null, .int 0]) := (e_h4 L (by omega)).trans (hs_same _ _ _)
  have y4 : ∀ k, k ≠ L → k < L + 4 → h4.2.2 k = h3.2.2 k := fun k h1 h2 => (e_h4 k (by omega)).trans (hs_ne _ _ h1)
  have z4 : h4.2.1 = h3.2.1 + 285 := s_h4
  refine gs_put 36 _ a_X1_init_33 f_1_24 (by first | assumption | exact hs_same _ _ _ | exact (hs_ne _ _ (by first | assumption | decide | omega)).trans (by first | assumption | exact hs_same _ _ _ | exact (hs_ne _ _ (by first | assumption | decide | omega)).trans (by first | assumption | exact hs_same _ _ _ | exact (hs_ne _ _ (by first | assumption | decide | omega)).trans (by first | assumption | exact hs_same _ _ _ | exact (hs_ne _ _ (by first | assumption | decide | omega)).trans (by first | assumption | exact hs_same _ _ _))))) (Nat.le_of_ble_eq_true rfl) rfl (fun _ => ⟨rfl, rfl, rfl⟩) rfl rfl ?_
  refine gs_n 37 a_X1_init_36 rfl ?_
  refine gs_k (nI 32) 39 a_X1_init_37 (by decide +kernel) rfl ?_
  refine gs_na' (L+5) (32) (ty := .int) 41 a_X1_init_39 rfl (by simp) rfl (by omega) (by first | omega | (simp only [ix_set]; omega)) rfl (fun h5 c_h5 s_h5 e_h5 v_h5 => ?_)
  have w5 : h5.2.2 L = .inr (1, [.ref (L + 1), .ref (L + 3), .ref (L + 4), .null, .int 0]) := (e_h5 L (by omega)).trans (hs_same _ _ _)
  have y5 : ∀ k, k ≠ L → k < L + 5 → h5.2.2 k = h4.2.2 k := fun k h1 h2 => (e_h5 k (by omega)).trans (hs_ne _ _ h1)
  have z5 : h5.2.1 = h4.2.1 + 32 := s_h5
  refine gs_put 44 _ a_X1_init_41 f_1_28 (by first | assumption | exact hs_same _ _ _ | exact (hs_ne _ _ (by first | assumption | decide | omega)).trans (by first | assumption | exact hs_same _ _ _ | exact (hs_ne _ _ (by first | assumption | decide | omega)).trans (by first | assumption | exact hs_same _ _ _ | exact (hs_ne _ _ (by first | assumption | decide | omega)).trans (by first | assumption | exact hs_same _ _ _ | exact (hs_ne _ _ (by first | assumption | decide | omega)).trans (by first | assumption | exact hs_same _ _ _))))) (Nat.le_of_ble_eq_true rfl) rfl (fun _ => ⟨rfl, rfl, rfl⟩) rfl rfl ?_
  refine gs_vret a_X1_init_44 rfl ?_
  have y6 : ∀ k, k ≠ L → k < L + 3 → (ix_set h5 L (.inr (1, [.ref (L + 1), .ref (L + 3), .ref (L + 4), .ref (L + 5), .int 0]))).2.2 k = h2.2.2 k := fun k g1 g2 => (hs_ne _ _ g1).trans ((y5 k g1 (by omega)).trans ((y4 k g1 (by omega)).trans (y3 k g1 g2)))
  refine ⟨rfl, c_h5, ?_, fun k hk => (y6 k (by omega) (by omega)).trans (y2 k hk), hs_same _ _ _, ?_, ⟨fun _ => 0, (hs_ne _ _ (by omega)).trans ((y5 _ (by omega) (by omega)).trans ((y4 _ (by omega) (by omega)).trans v_h3)), fun i hi => absurd hi (Nat.not_lt_zero i)⟩, ⟨fun _ => 0, (hs_ne _ _ (by omega)).trans ((y5 _ (by omega) (by omega)).trans v_h4)⟩, ⟨fun _ => 0, (hs_ne _ _ (by omega)).trans v_h5⟩, fun e he => absurd he (by simp)⟩
  · show h5.2.1 = _
    omega
  · exact r2.fr (y6 _ (by omega) (by omega)) (y6 _ (by omega) (by omega))
/-- the object, its fields so far -/
theorem l_mkLogs {h0 : ix_H} {Q : ix_O → Prop} {o : ix_E} {fs : List Value} (ho : o = .inr (4, fs)) (hf : fs[3]? = some (.ref 7)) (hh0 : h0.2.2 0 = o)
    (kk : ∀ h2 : ix_H, h2.1 = 64 → h2.2.1 = h0.2.1 + 36872 → (∀ k, k < 16 → k ≠ 7 → h2.2.2 k = h0.2.2 k) → (∃ f, h2.2.2 7 = .inl (.object RX1, 8, .inr (.inr (.inr (.inr f)))) ∧ ∀ i, i < 8 → f i = some (16 + 6 * i)) → (∀ p, p < 8 → LogAt h2 (16 + 6 * p) [] []) → gs none (d + 2) mD_X4_init (120, [(0, .ref 0)], [], h2) Q) : ∀ (r p : Nat) (h : ix_H), p + r = 8 → h.1 = 16 + 6 * p → h.2.1 = h0.2.1 + 4609 * p → (∀ k, k < 16 → k ≠ 7 → h.2.2 k = h0.2.2 k) → (∃ f, h.2.2 7 = .inl (.object RX1, 8, .inr (.inr (.inr (.inr f)))) ∧ ∀ i, i < p → f i = some (16 + 6 * i)) → (∀ q, q < p → LogAt h (16 + 6 * q) [] []) → gs none (d + 2) mD_X4_init (95, [(1, .int (nI p)), (0, .ref 0)], [], h) Q := by
  intro r
  induction r with
  | zero =>
    intro p h hp hc hs he hf7 hlg
    obtain rfl : p = 8 := by omega
    refine gs_n 96 a_X4_init_95 rfl ?_
    refine gs_k (nI 8) 98 a_X4_init_96 (by decide +kernel) rfl ?_
    refine gs_ic 120 101 a_X4_init_98 rfl rfl (fun c => ?_) (fun c => ?_)
    · refine gs_w [(0, .ref 0)] (by simp [ix_nd]) (by intro x hx; simp only [List.mem_cons, List.not_mem_nil, or_false] at hx; rcases hx with rfl <;> rfl) ?_
      exact kk h (by omega) (by omega) he hf7 hlg
    · exact absurd (nI_le (Nat.le_refl 8) (by omega)) c
  | succ r ih =>
    intro p h hp hc hs he hf7 hlg
    obtain ⟨f, w7, hfi⟩ := hf7
    have w0 : h.2.2 0 = .inr (4, fs) := (he 0 (by omega) (by omega)).trans (hh0.trans ho)
    refine gs_n 96 a_X4_init_95 rfl ?_
    refine gs_k (nI 8) 98 a_X4_init_96 (by decide +kernel) rfl ?_
    refine gs_ic 120 101 a_X4_init_98 rfl rfl (fun c => ?_) (fun c => ?_)
    · exact absurd c (nI_ge (by omega) (by omega))
    · refine gs_n 102 a_X4_init_101 rfl ?_
      refine gs_get 105 a_X4_init_102 f_4_26 w0 hf rfl ?_
      refine gs_n 106 a_X4_init_105 rfl ?_
      refine gs_no' (16+6*p) (ci := 1) 109 a_X4_init_106 rfl (by decide) (by first | omega | (simp only [ix_set]; omega)) rfl (fun h1 c_h1 s_h1 e_h1 v_h1 => ?_)
      refine gs_n 110 a_X4_init_109 rfl ?_
      refine gs_ci 113 a_X4_init_110 k_4_50 (by decide) q_X1_init (e_logI (L := 16 + 6 * p) v_h1 (by omega)) rfl rfl rfl (by simp [Value.category]) (by first | assumption | exact hs_same _ _ _ | exact (hs_ne _ _ (by first | assumption | decide | omega)).trans (by first | assumption | exact hs_same _ _ _ | exact (hs_ne _ _ (by first | assumption | decide | omega)).trans (by first | assumption | exact hs_same _ _ _ | exact (hs_ne _ _ (by first | assumption | decide | omega)).trans (by first | assumption | exact hs_same _ _ _ | exact (hs_ne _ _ (by first | assumption | decide | omega)).trans (by first | assumption | exact hs_same _ _ _))))) rfl (fun v h2 hp => ?_)
      obtain ⟨e1, c2, s2, e2, l2⟩ := hp
      simp only at e1
      subst e1
      have c2' : h2.1 = 16 + 6 * p + 6 := c2
      have s2' : h2.2.1 = h1.2.1 + 4604 := s2
      have s1' : h1.2.1 = h.2.1 + 5 := s_h1
      have e3 : ∀ k, k < 16 + 6 * p → h2.2.2 k = h.2.2 k := fun k hk => (e2 k hk).trans (e_h1 k (by omega))
      refine gs_as' (ci := 1) p 114 a_X4_init_113 ((e3 7 (by omega)).trans w7) l2.1 rfl (by omega) (by decide) (by decide) rfl rfl ?_
      first | refine gs_inc _ 117 a_X4_init_114 rfl (Nat.le_of_ble_eq_true rfl) rfl ?_ | refine gs_n 117 a_X4_init_114 rfl ?_
      refine gs_n 95 a_X4_init_117 rfl ?_
      refine gs_w [(1, .int (nI (p + 1))), (0, .ref 0)] (by simp [ix_nd]) (by intro x hx; simp only [List.mem_cons, List.not_mem_nil, or_false] at hx; rcases hx with rfl | rfl <;> rfl) ?_
      refine ih (p + 1) _ (by omega) ?_ ?_ ?_ ?_ ?_
      · show h2.1 = _
        omega
      · show h2.2.1 = h0.2.1 + 4609 * (p + 1)
        rw [s2', s1', hs]
        clear s2 s2' s1' s_h1 hs c2 c2' c_h1
        omega
      · intro k hk hk7
        exact (hs_ne _ _ hk7).trans ((e3 k (by omega)).trans (he k hk hk7))
      · refine ⟨_, hs_same _ _ _, ?_⟩
        intro i hi
        by_cases z : i = p
        · subst z; rw [va_up_self]
        · rw [va_up_ne _ _ z]; exact hfi i (by omega)
      · intro q hq
        by_cases z : q = p
        · subst z
          exact l2.keep (fun i hi => hs_ne _ _ (by omega))
        · exact (hlg q (by omega)).keep (fun i hi => (hs_ne _ _ (by omega)).trans (e3 _ (by omega)))
theorem l_mkProds {h0 : ix_H} {Q : ix_O → Prop} {o : ix_E} {fs : List Value} (ho : o = .inr (4, fs)) (hf : fs[6]? = some (.ref 14)) (hh0 : h0.2.2 0 = o)
    (kk : ∀ h2 : ix_H, h2.1 = 96 → h2.2.1 = h0.2.1 + 224 → (∀ k, k < 64 → k ≠ 14 → h2.2.2 k = h0.2.2 k) → (∃ f, h2.2.2 14 = .inl (.object RX2, 32, .inr (.inr (.inr (.inr f)))) ∧ ∀ i, i < 32 → f i = some (64 + i)) → (∀ k, k < 32 → h2.2.2 (64 + k) = pcE (nI 0, nI 0, nI 0, nI 0, nI 0, nI 0, nI 0)) → gs none (d + 2) mD_X4_init (147, [(0, .ref 0)], [], h2) Q) : ∀ (r p : Nat) (h : ix_H), p + r = 32 → h.1 = 64 + p → h.2.1 = h0.2.1 + 7 * p → (∀ k, k < 64 → k ≠ 14 → h.2.2 k = h0.2.2 k) → (∃ f, h.2.2 14 = .inl (.object RX2, 32, .inr (.inr (.inr (.inr f)))) ∧ ∀ i, i < p → f i = some (64 + i)) → (∀ q, q < p → h.2.2 (64 + q) = pcE (nI 0, nI 0, nI 0, nI 0, nI 0, nI 0, nI 0)) → gs none (d + 2) mD_X4_init (122, [(1, .int (nI p)), (0, .ref 0)], [], h) Q := by
  intro r
  induction r with
  | zero =>
    intro p h hp hc hs he hf7 hlg
    obtain rfl : p = 32 := by omega
    refine gs_n 123 a_X4_init_122 rfl ?_
    refine gs_k (nI 32) 125 a_X4_init_123 (by decide +kernel) rfl ?_
    refine gs_ic 147 128 a_X4_init_125 rfl rfl (fun c => ?_) (fun c => ?_)
    · refine gs_w [(0, .ref 0)] (by simp [ix_nd]) (by intro x hx; simp only [List.mem_cons, List.not_mem_nil, or_false] at hx; rcases hx with rfl <;> rfl) ?_
      exact kk h (by omega) (by omega) he hf7 hlg
    · exact absurd (nI_le (Nat.le_refl 32) (by omega)) c
  | succ r ih =>
    intro p h hp hc hs he hf7 hlg
    obtain ⟨f, w7, hfi⟩ := hf7
    have w0 : h.2.2 0 = .inr (4, fs) := (he 0 (by omega) (by omega)).trans (hh0.trans ho)
    refine gs_n 123 a_X4_init_122 rfl ?_
    refine gs_k (nI 32) 125 a_X4_init_123 (by decide +kernel) rfl ?_
    refine gs_ic 147 128 a_X4_init_125 rfl rfl (fun c => ?_) (fun c => ?_)
    · exact absurd c (nI_ge (by omega) (by omega))
    · refine gs_n 129 a_X4_init_128 rfl ?_
      refine gs_get 132 a_X4_init_129 f_4_42 w0 hf rfl ?_
      refine gs_n 133 a_X4_init_132 rfl ?_
      refine gs_no' (64+p) (ci := 2) 136 a_X4_init_133 rfl (by decide) (by first | omega | (simp only [ix_set]; omega)) rfl (fun h1 c_h1 s_h1 e_h1 v_h1 => ?_)
      refine gs_n 137 a_X4_init_136 rfl ?_
      refine gs_ci 140 a_X4_init_137 k_4_51 (by decide) q_X2_init (e_prodI (r := 64 + p)) rfl rfl rfl (by simp [Value.category]) (by first | assumption | exact hs_same _ _ _ | exact (hs_ne _ _ (by first | assumption | decide | omega)).trans (by first | assumption | exact hs_same _ _ _ | exact (hs_ne _ _ (by first | assumption | decide | omega)).trans (by first | assumption | exact hs_same _ _ _ | exact (hs_ne _ _ (by first | assumption | decide | omega)).trans (by first | assumption | exact hs_same _ _ _ | exact (hs_ne _ _ (by first | assumption | decide | omega)).trans (by first | assumption | exact hs_same _ _ _))))) rfl (fun v h2 hp => ?_)
      cases hp
      have s1' : h1.2.1 = h.2.1 + 7 := s_h1
      refine gs_as' (ci := 2) p 141 a_X4_init_140 ((e_h1 14 (by omega)).trans w7) v_h1 rfl (by omega) (by decide) (by decide) rfl rfl ?_
      first | refine gs_inc _ 144 a_X4_init_141 rfl (Nat.le_of_ble_eq_true rfl) rfl ?_ | refine gs_n 144 a_X4_init_141 rfl ?_
      refine gs_n 122 a_X4_init_144 rfl ?_
      refine gs_w [(1, .int (nI (p + 1))), (0, .ref 0)] (by simp [ix_nd]) (by intro x hx; simp only [List.mem_cons, List.not_mem_nil, or_false] at hx; rcases hx with rfl | rfl <;> rfl) ?_
      refine ih (p + 1) _ (by omega) ?_ ?_ ?_ ?_ ?_
      · show h1.1 = _
        omega
      · show h1.2.1 = _
        omega
      · intro k hk hk7
        exact (hs_ne _ _ hk7).trans ((e_h1 k (by omega)).trans (he k hk hk7))
      · refine ⟨_, hs_same _ _ _, ?_⟩
        intro i hi
        by_cases z : i = p
        · subst z; rw [va_up_self]
        · rw [va_up_ne _ _ z]; exact hfi i (by omega)
      · intro q hq
        by_cases z : q = p
        · subst z
          exact (hs_ne _ _ (by omega)).trans v_h1
        · exact (hs_ne _ _ (by omega)).trans ((e_h1 _ (by omega)).trans (hlg q (by omega)))
end CT
