/-! THE LAW: its loop, the claim -/
section LL
variable {L : Nat} {xs : Nat → Int32}
theorem l_law (hL : L ≤ 3072) : ∀ (r j : Nat) (h : ix_H), L < 6 * (j + r) → 6 * j ≤ 3078 → LI h → gs (some (L, xs)) 8 mD_law (18, [(3, .int (nI (6 * j))), (0, .retAddr 0), (1, .ref 0), (2, .ref 96)], [], h) (fun u => u.1 = some (.int 1) ∧ u.2.1 ≤ 600000 ∧ u.2.2.1 ≤ 7302250) := by
  intro r
  induction r with
  | zero =>
    intro j h hr hj w
    refine gs_n 19 a_L_law_18 rfl ?_
    refine gs_n 20 a_L_law_19 rfl ?_
    refine gs_n 21 a_L_law_20 rfl ?_
    refine gs_k (nI 6) 23 a_L_law_21 (by decide +kernel) rfl ?_
    refine gs_n 24 a_L_law_23 rfl ?_
    refine gs_ic 969 27 a_L_law_24 rfl rfl (fun c => ?_) (fun c => ?_)
    · obtain ⟨σ, -, -, -, hc1, hc2⟩ := w
      refine gs_k (nI 1) 970 a_L_law_969 (by decide +kernel) rfl ?_
      refine gs_iret a_L_law_970 rfl rfl ?_
      exact ⟨rfl, by show h.1 ≤ _; omega, by show h.2.1 ≤ _; omega⟩
    · have c : ¬ nI L - nI 6 < nI (6 * j) := c
      rw [Int32.lt_iff_toInt_lt, sub6 hL, nI_toInt (by omega)] at c
      omega
  | succ r ih =>
    intro j h hr hj w
    refine gs_n 19 a_L_law_18 rfl ?_
    refine gs_n 20 a_L_law_19 rfl ?_
    refine gs_n 21 a_L_law_20 rfl ?_
    refine gs_k (nI 6) 23 a_L_law_21 (by decide +kernel) rfl ?_
    refine gs_n 24 a_L_law_23 rfl ?_
    refine gs_ic 969 27 a_L_law_24 rfl rfl (fun c => ?_) (fun c => ?_)
    · obtain ⟨σ, -, -, -, hc1, hc2⟩ := w
      refine gs_k (nI 1) 970 a_L_law_969 (by decide +kernel) rfl ?_
      refine gs_iret a_L_law_970 rfl rfl ?_
      exact ⟨rfl, by show h.1 ≤ _; omega, by show h.2.1 ≤ _; omega⟩
    · have c : ¬ nI L - nI 6 < nI (6 * j) := c
      rw [Int32.lt_iff_toInt_lt, sub6 hL, nI_toInt (by omega)] at c
      have hj6 : 6 * j + 6 ≤ L := by omega
      have back : ∀ h2, LI h2 → gs (some (L, xs)) 8 mD_law (963, [(3, .int (nI (6 * j))), (0, .retAddr 0), (1, .ref 0), (2, .ref 96)], [], h2) (fun u => u.1 = some (.int 1) ∧ u.2.1 ≤ 600000 ∧ u.2.2.1 ≤ 7302250) := by
        intro h2 w2
        refine gs_n 966 a_L_law_963 rfl ?_
        refine gs_n 18 a_L_law_966 rfl ?_
        refine gs_w [(3, .int (nI (6 * j) + Int32.ofInt 6)), (0, .retAddr 0), (1, .ref 0), (2, .ref 96)] (by simp [ix_nd]) (by intro x hx; simp only [List.mem_cons, List.not_mem_nil, or_false] at hx; rcases hx with rfl | rfl | rfl | rfl <;> rfl) ?_
        rw [show Int32.ofInt 6 = nI 6 from rfl, nI_add, show 6 * j + 6 = 6 * (j + 1) by omega]
        exact ih (j + 1) h2 (by omega) (by omega) w2
      refine gs_n 28 a_L_law_27 rfl ?_
      refine gs_n 29 a_L_law_28 rfl ?_
      refine gs_sc (6 * j) 30 a_L_law_29 rfl (by omega) hL rfl ?_
      refine gs_k (nI 31) 32 a_L_law_30 (by decide +kernel) rfl ?_
      refine gs_n 33 a_L_law_32 rfl ?_
      rcases sw_cases (xs (6 * j) &&& nI 31) 21 with ⟨i, hi, hv⟩ | hd
      · rw [hv]
        rcases (by omega : i = 0 ∨ i = 1 ∨ i = 2 ∨ i = 3 ∨ i = 4 ∨ i = 5 ∨ i = 6 ∨ i = 7 ∨ i = 8 ∨ i = 9 ∨ i = 10 ∨ i = 11 ∨ i = 12 ∨ i = 13 ∨ i = 14 ∨ i = 15 ∨ i = 16 ∨ i = 17 ∨ i = 18 ∨ i = 19 ∨ i = 20) with z | z | z | z | z | z | z | z | z | z | z | z | z | z | z | z | z | z | z | z | z <;> subst z
        · refine gs_n 132 a_L_law_33 rfl ?_
          refine gs_w [(3, .int (nI (6 * j))), (0, .retAddr 0), (1, .ref 0), (2, .ref 96)] (by simp [ix_nd]) (by intro x hx; simp only [List.mem_cons, List.not_mem_nil, or_false] at hx; rcases hx with rfl | rfl | rfl | rfl <;> rfl) ?_
          exact law_c0 hL hj6 w back
        · refine gs_n 175 a_L_law_33 rfl ?_
          refine gs_w [(3, .int (nI (6 * j))), (0, .retAddr 0), (1, .ref 0), (2, .ref 96)] (by simp [ix_nd]) (by intro x hx; simp only [List.mem_cons, List.not_mem_nil, or_false] at hx; rcases hx with rfl | rfl | rfl | rfl <;> rfl) ?_
          exact law_c1 hL hj6 w back
        · refine gs_n 278 a_L_law_33 rfl ?_
          refine gs_w [(3, .int (nI (6 * j))), (0, .retAddr 0), (1, .ref 0), (2, .ref 96)] (by simp [ix_nd]) (by intro x hx; simp only [List.mem_cons, List.not_mem_nil, or_false] at hx; rcases hx with rfl | rfl | rfl | rfl <;> rfl) ?_
          exact law_c2 hL hj6 w back
        · refine gs_n 301 a_L_law_33 rfl ?_
          refine gs_w [(3, .int (nI (6 * j))), (0, .retAddr 0), (1, .ref 0), (2, .ref 96)] (by simp [ix_nd]) (by intro x hx; simp only [List.mem_cons, List.not_mem_nil, or_false] at hx; rcases hx with rfl | rfl | rfl | rfl <;> rfl) ?_
          exact law_c3 hL hj6 w back
        · refine gs_n 334 a_L_law_33 rfl ?_
          refine gs_w [(3, .int (nI (6 * j))), (0, .retAddr 0), (1, .ref 0), (2, .ref 96)] (by simp [ix_nd]) (by intro x hx; simp only [List.mem_cons, List.not_mem_nil, or_false] at hx; rcases hx with rfl | rfl | rfl | rfl <;> rfl) ?_
          exact law_c4 hL hj6 w back
        · refine gs_n 413 a_L_law_33 rfl ?_
          refine gs_w [(3, .int (nI (6 * j))), (0, .retAddr 0), (1, .ref 0), (2, .ref 96)] (by simp [ix_nd]) (by intro x hx; simp only [List.mem_cons, List.not_mem_nil, or_false] at hx; rcases hx with rfl | rfl | rfl | rfl <;> rfl) ?_
          exact law_c5 hL hj6 w back
        · refine gs_n 476 a_L_law_33 rfl ?_
          refine gs_w [(3, .int (nI (6 * j))), (0, .retAddr 0), (1, .ref 0), (2, .ref 96)] (by simp [ix_nd]) (by intro x hx; simp only [List.mem_cons, List.not_mem_nil, or_false] at hx; rcases hx with rfl | rfl | rfl | rfl <;> rfl) ?_
          exact law_c6 hL hj6 w back
        · refine gs_n 535 a_L_law_33 rfl ?_
          refine gs_w [(3, .int (nI (6 * j))), (0, .retAddr 0), (1, .ref 0), (2, .ref 96)] (by simp [ix_nd]) (by intro x hx; simp only [List.mem_cons, List.not_mem_nil, or_false] at hx; rcases hx with rfl | rfl | rfl | rfl <;> rfl) ?_
          exact law_c7 hL hj6 w back
        · refine gs_n 578 a_L_law_33 rfl ?_
          refine gs_w [(3, .int (nI (6 * j))), (0, .retAddr 0), (1, .ref 0), (2, .ref 96)] (by simp [ix_nd]) (by intro x hx; simp only [List.mem_cons, List.not_mem_nil, or_false] at hx; rcases hx with rfl | rfl | rfl | rfl <;> rfl) ?_
          exact law_c8 hL hj6 w back
        · refine gs_n 611 a_L_law_33 rfl ?_
          refine gs_w [(3, .int (nI (6 * j))), (0, .retAddr 0), (1, .ref 0), (2, .ref 96)] (by simp [ix_nd]) (by intro x hx; simp only [List.mem_cons, List.not_mem_nil, or_false] at hx; rcases hx with rfl | rfl | rfl | rfl <;> rfl) ?_
          exact law_c9 hL hj6 w back
        · refine gs_n 634 a_L_law_33 rfl ?_
          refine gs_w [(3, .int (nI (6 * j))), (0, .retAddr 0), (1, .ref 0), (2, .ref 96)] (by simp [ix_nd]) (by intro x hx; simp only [List.mem_cons, List.not_mem_nil, or_false] at hx; rcases hx with rfl | rfl | rfl | rfl <;> rfl) ?_
          exact law_c10 hL hj6 w back
        · refine gs_n 693 a_L_law_33 rfl ?_
          refine gs_w [(3, .int (nI (6 * j))), (0, .retAddr 0), (1, .ref 0), (2, .ref 96)] (by simp [ix_nd]) (by intro x hx; simp only [List.mem_cons, List.not_mem_nil, or_false] at hx; rcases hx with rfl | rfl | rfl | rfl <;> rfl) ?_
          exact law_c11 hL hj6 w back
        · refine gs_n 716 a_L_law_33 rfl ?_
          refine gs_w [(3, .int (nI (6 * j))), (0, .retAddr 0), (1, .ref 0), (2, .ref 96)] (by simp [ix_nd]) (by intro x hx; simp only [List.mem_cons, List.not_mem_nil, or_false] at hx; rcases hx with rfl | rfl | rfl | rfl <;> rfl) ?_
          exact law_c12 hL hj6 w back
        · refine gs_n 729 a_L_law_33 rfl ?_
          refine gs_w [(3, .int (nI (6 * j))), (0, .retAddr 0), (1, .ref 0), (2, .ref 96)] (by simp [ix_nd]) (by intro x hx; simp only [List.mem_cons, List.not_mem_nil, or_false] at hx; rcases hx with rfl | rfl | rfl | rfl <;> rfl) ?_
          exact law_c13 hL hj6 w back
        · refine gs_n 752 a_L_law_33 rfl ?_
          refine gs_w [(3, .int (nI (6 * j))), (0, .retAddr 0), (1, .ref 0), (2, .ref 96)] (by simp [ix_nd]) (by intro x hx; simp only [List.mem_cons, List.not_mem_nil, or_false] at hx; rcases hx with rfl | rfl | rfl | rfl <;> rfl) ?_
          exact law_c14 hL hj6 w back
        · refine gs_n 765 a_L_law_33 rfl ?_
          refine gs_w [(3, .int (nI (6 * j))), (0, .retAddr 0), (1, .ref 0), (2, .ref 96)] (by simp [ix_nd]) (by intro x hx; simp only [List.mem_cons, List.not_mem_nil, or_false] at hx; rcases hx with rfl | rfl | rfl | rfl <;> rfl) ?_
          exact law_c15 hL hj6 w back
        · refine gs_n 798 a_L_law_33 rfl ?_
          refine gs_w [(3, .int (nI (6 * j))), (0, .retAddr 0), (1, .ref 0), (2, .ref 96)] (by simp [ix_nd]) (by intro x hx; simp only [List.mem_cons, List.not_mem_nil, or_false] at hx; rcases hx with rfl | rfl | rfl | rfl <;> rfl) ?_
          exact law_c16 hL hj6 w back
        · refine gs_n 841 a_L_law_33 rfl ?_
          refine gs_w [(3, .int (nI (6 * j))), (0, .retAddr 0), (1, .ref 0), (2, .ref 96)] (by simp [ix_nd]) (by intro x hx; simp only [List.mem_cons, List.not_mem_nil, or_false] at hx; rcases hx with rfl | rfl | rfl | rfl <;> rfl) ?_
          exact law_c17 hL hj6 w back
        · refine gs_n 874 a_L_law_33 rfl ?_
          refine gs_w [(3, .int (nI (6 * j))), (0, .retAddr 0), (1, .ref 0), (2, .ref 96)] (by simp [ix_nd]) (by intro x hx; simp only [List.mem_cons, List.not_mem_nil, or_false] at hx; rcases hx with rfl | rfl | rfl | rfl <;> rfl) ?_
          exact law_c18 hL hj6 w back
        · refine gs_n 907 a_L_law_33 rfl ?_
          refine gs_w [(3, .int (nI (6 * j))), (0, .retAddr 0), (1, .ref 0), (2, .ref 96)] (by simp [ix_nd]) (by intro x hx; simp only [List.mem_cons, List.not_mem_nil, or_false] at hx; rcases hx with rfl | rfl | rfl | rfl <;> rfl) ?_
          exact law_c19 hL hj6 w back
        · refine gs_n 940 a_L_law_33 rfl ?_
          refine gs_w [(3, .int (nI (6 * j))), (0, .retAddr 0), (1, .ref 0), (2, .ref 96)] (by simp [ix_nd]) (by intro x hx; simp only [List.mem_cons, List.not_mem_nil, or_false] at hx; rcases hx with rfl | rfl | rfl | rfl <;> rfl) ?_
          exact law_c20 hL hj6 w back
      · refine gs_swd 963 a_L_law_33 (by omega) rfl ?_
        refine gs_w [(3, .int (nI (6 * j))), (0, .retAddr 0), (1, .ref 0), (2, .ref 96)] (by simp [ix_nd]) (by intro x hx; simp only [List.mem_cons, List.not_mem_nil, or_false] at hx; rcases hx with rfl | rfl | rfl | rfl <;> rfl) ?_
        exact back h w
theorem claim_holds : ix_claim := by
  intro L xs hL
  have main : gs (some (L, xs)) 8 mD_law (0, [(0, .retAddr 0)], [], (0, 0, fun _ => ix_no_)) (fun u => u.1 = some (.int 1) ∧ u.2.1 ≤ 600000 ∧ u.2.2.1 ≤ 7302250) := by
    refine gs_no' (0) (ci := 4) 3 a_L_law_0 rfl (by decide) (by first | omega | (simp only [ix_set]; omega)) rfl (fun g1 c_g1 s_g1 e_g1 v_g1 => ?_)
    have s1 : g1.2.1 = 15 := s_g1
    refine gs_n 4 a_L_law_3 rfl ?_
    refine gs_ci 7 a_L_law_4 k_6_9 (by decide) q_X4_init (c_init (tE := en0) v_g1 c_g1) rfl rfl rfl (by simp [Value.category]) (by first | assumption | exact hs_same _ _ _ | exact (hs_ne _ _ (by first | assumption | decide | omega)).trans (by first | assumption | exact hs_same _ _ _ | exact (hs_ne _ _ (by first | assumption | decide | omega)).trans (by first | assumption | exact hs_same _ _ _ | exact (hs_ne _ _ (by first | assumption | decide | omega)).trans (by first | assumption | exact hs_same _ _ _ | exact (hs_ne _ _ (by first | assumption | decide | omega)).trans (by first | assumption | exact hs_same _ _ _))))) rfl (fun v g2 hp => ?_)
    obtain ⟨z1, c2, s2, w2⟩ := hp
    simp only at z1
    subst z1
    have c2 : g2.1 = 96 := c2
    have s2 : g2.2.1 ≤ g1.2.1 + 60000 := s2
    refine gs_n 8 a_L_law_7 rfl ?_
    refine gs_no' (96) (ci := 5) 11 a_L_law_8 rfl (by decide) (by first | omega | (simp only [ix_set]; omega)) rfl (fun g3 c_g3 s_g3 e_g3 v_g3 => ?_)
    have s3 : g3.2.1 = g2.2.1 + 34 := s_g3
    refine gs_n 12 a_L_law_11 rfl ?_
    refine gs_ci 15 a_L_law_12 k_6_12 (by decide) q_X5_init (r_init (tE := en0) v_g3 c_g3) rfl rfl rfl (by simp [Value.category]) (by first | assumption | exact hs_same _ _ _ | exact (hs_ne _ _ (by first | assumption | decide | omega)).trans (by first | assumption | exact hs_same _ _ _ | exact (hs_ne _ _ (by first | assumption | decide | omega)).trans (by first | assumption | exact hs_same _ _ _ | exact (hs_ne _ _ (by first | assumption | decide | omega)).trans (by first | assumption | exact hs_same _ _ _ | exact (hs_ne _ _ (by first | assumption | decide | omega)).trans (by first | assumption | exact hs_same _ _ _))))) rfl (fun v g4 hp => ?_)
    obtain ⟨z1, c4, s4, e4, w4⟩ := hp
    simp only at z1
    subst z1
    have c4 : g4.1 = 118 := c4
    have s4 : g4.2.1 ≤ g3.2.1 + 250000 := s4
    refine gs_n 16 a_L_law_15 rfl ?_
    refine gs_k (nI 0) 17 a_L_law_16 (by decide +kernel) rfl ?_
    refine gs_n 18 a_L_law_17 rfl ?_
    refine gs_w [(3, .int (nI (6 * 0))), (0, .retAddr 0), (1, .ref 0), (2, .ref 96)] (by simp [ix_nd]) (by intro x hx; simp only [List.mem_cons, List.not_mem_nil, or_false] at hx; rcases hx with rfl | rfl | rfl | rfl <;> rfl) ?_
    refine l_law hL (L + 1) 0 g4 (by omega) (by omega) ⟨_, SJ_first, w2.keep (fun k hk => (e4 k hk).trans (e_g3 k (by omega))), w4, c4, by omega⟩
  obtain ⟨⟨v, hF⟩, ⟨n, hn⟩, h1, h2, h3⟩ := main
  simp only at h1 h2 h3
  subst h1
  exact ⟨n, hF, hn, h2, h3⟩
end LL
