/-! OnceLedger: firstToEnd, the rounds -/
section C2
variable {d : Nat} {h : ix_H} {P cap tmo clk cut sy torn : Nat} {cl : Bool} {X : List En} {tE : En} {tp an : List Nat} {n nx : Nat} {ep tx bg ba lc de mq en : Nat → Nat} {ad : Nat → Int32} {la : List (Nat × Nat × Nat)} {T : TS}
theorem l_first (dc : Bool) (D : Nat → Bool) (τ : Nat → Nat) (hg : gA P X (n, ep, tx, bg, ba, ad, lc, de, mq, nx, la, en)) (hn : n ≤ 1000) (hD : ∀ k, k < 32 → D k = (if dc then !decide (de k = 0) else decide (tmo + bg k < clk + 1))) (hτ : ∀ k, k < 32 → τ k = tx k) (w : CE h P cap tmo clk cl cut X sy 0 tE tp an (n, ep, tx, bg, ba, ad, lc, de, mq, nx, la, en)) : ∀ (m j : Nat), j + m = 32 →
    gs none (d + 1) mD_X4_firstToEnd (4, [(3, .int (nI j)), (2, .int (oI (fte D τ j))), (0, .ref 0), (1, .int (b01 dc))], [], h) (fun u => u = (some (.int (oI (fte D τ 32))), h)) := by
  have hok := w.ok
  obtain ⟨f, hf, hf'⟩ := w.pra
  have w1 := w.obj
  obtain ⟨a1, a2, a3, a4, a5, a6, a7, a8⟩ := hg
  intro m
  induction m with
  | zero =>
    intro j hj
    obtain rfl : j = 32 := by omega
    refine gs_n 5 a_X4_firstToEnd_4 rfl ?_
    refine gs_k (nI 32) 7 a_X4_firstToEnd_5 (by decide +kernel) rfl ?_
    refine gs_ic 106 10 a_X4_firstToEnd_7 rfl rfl (fun c => ?_) (fun c => ?_)
    · refine gs_n 107 a_X4_firstToEnd_106 rfl ?_
      refine gs_iret a_X4_firstToEnd_107 rfl rfl ?_
      rfl
    · exact absurd (nI_le (Nat.le_refl 32) (by omega)) c
  | succ m ih =>
    intro j hj
    have hj32 : j < 32 := by omega
    obtain ⟨b1, b2, b3, b4, b5, b6, b7⟩ := a5 j hj32
    obtain ⟨y, hc⟩ := w.cell hj32
    have hc0 := hc
    unfold pcell at hc
    have nextI : ∀ x, x = fte D τ (j + 1) → gs none (d + 1) mD_X4_firstToEnd (100, [(3, .int (nI j)), (2, .int (oI x)), (0, .ref 0), (1, .int (b01 dc))], [], h) (fun u => u = (some (.int (oI (fte D τ 32))), h)) := by
      intro x hx
      first | refine gs_inc _ 103 a_X4_firstToEnd_100 rfl (Nat.le_of_ble_eq_true rfl) rfl ?_ | refine gs_n 103 a_X4_firstToEnd_100 rfl ?_
      refine gs_n 4 a_X4_firstToEnd_103 rfl ?_
      refine gs_w [(3, .int (nI (j + 1))), (2, .int (oI x)), (0, .ref 0), (1, .int (b01 dc))] (by simp [ix_nd]) (by intro x hx; simp only [List.mem_cons, List.not_mem_nil, or_false] at hx; rcases hx with rfl | rfl | rfl | rfl <;> rfl) ?_
      rw [hx]
      exact ih (j + 1) (by omega)
    have mid : gs none (d + 1) mD_X4_firstToEnd (61, [(4, .ref (64 + j)), (3, .int (nI j)), (2, .int (oI (fte D τ j))), (0, .ref 0), (1, .int (b01 dc))], [.int (b01 (D j))], h) (fun u => u = (some (.int (oI (fte D τ 32))), h)) := by
      refine gs_n 63 a_X4_firstToEnd_61 rfl ?_
      refine gs_n 65 a_X4_firstToEnd_63 rfl ?_
      refine gs_cv 68 a_X4_firstToEnd_65 k_4_71 q_X2_isOpen (e_isOpen hc0) rfl rfl rfl (by simp [Value.category]) (by first | assumption | exact hs_same _ _ _ | exact (hs_ne _ _ (by first | assumption | decide | omega)).trans (by first | assumption | exact hs_same _ _ _ | exact (hs_ne _ _ (by first | assumption | decide | omega)).trans (by first | assumption | exact hs_same _ _ _ | exact (hs_ne _ _ (by first | assumption | decide | omega)).trans (by first | assumption | exact hs_same _ _ _ | exact (hs_ne _ _ (by first | assumption | decide | omega)).trans (by first | assumption | exact hs_same _ _ _))))) rfl (fun v h1 hp => ?_)
      cases hp
      by_cases z : tx j = 0
      · rw [if_pos ((m1_no (by omega)).mpr z)]
        refine gs_if 100 71 a_X4_firstToEnd_68 rfl rfl (fun c68 => ?_) (fun c68 => ?_)
        · refine gs_w [(3, .int (nI j)), (2, .int (oI (fte D τ j))), (0, .ref 0), (1, .int (b01 dc))] (by simp [ix_nd]) (by intro x hx; simp only [List.mem_cons, List.not_mem_nil, or_false] at hx; rcases hx with rfl | rfl | rfl | rfl <;> rfl) ?_
          refine nextI _ ?_
          simp only [fte]
          rw [if_neg (by rw [hτ j hj32]; simp [z])]
        · exact absurd rfl c68
      · rw [if_neg (fun q => z ((m1_no (by omega)).mp q))]
        refine gs_if 100 71 a_X4_firstToEnd_68 rfl rfl (fun c68 => ?_) (fun c68 => ?_)
        · exact absurd (show nI 1 = 0 from c68) (by decide +kernel)
        · refine gs_n 73 a_X4_firstToEnd_71 rfl ?_
          refine gs_if 100 76 a_X4_firstToEnd_73 rfl rfl (fun c73 => ?_) (fun c73 => ?_)
          · have c73 := (b01_0 _).mp c73
            refine gs_w [(3, .int (nI j)), (2, .int (oI (fte D τ j))), (0, .ref 0), (1, .int (b01 dc))] (by simp [ix_nd]) (by intro x hx; simp only [List.mem_cons, List.not_mem_nil, or_false] at hx; rcases hx with rfl | rfl | rfl | rfl <;> rfl) ?_
            refine nextI _ ?_
            simp only [fte]
            rw [c73, if_neg (by simp)]
          · have c73 := (b01_ne _).mp c73
            have hcond : (D j && !decide (τ j = 0)) = true := by rw [hτ j hj32]; simp [z, c73]
            refine gs_n 77 a_X4_firstToEnd_76 rfl ?_
            refine gs_k (-1) 78 a_X4_firstToEnd_77 (by decide +kernel) rfl ?_
            refine gs_ic 98 81 a_X4_firstToEnd_78 rfl rfl (fun c78 => ?_) (fun c78 => ?_)
            · have c78 : oI (fte D τ j) = -1 := c78
              rw [oI_no (fun f hf => by have := fte_lt j f hf; omega)] at c78
              refine gs_n 99 a_X4_firstToEnd_98 rfl ?_
              refine gs_n 100 a_X4_firstToEnd_99 rfl ?_
              refine gs_w [(3, .int (nI j)), (2, .int (nI j)), (0, .ref 0), (1, .int (b01 dc))] (by simp [ix_nd]) (by intro x hx; simp only [List.mem_cons, List.not_mem_nil, or_false] at hx; rcases hx with rfl | rfl | rfl | rfl <;> rfl) ?_
              refine nextI (some j) ?_
              simp only [fte]
              rw [if_pos hcond, c78]
            · have c78 : ¬ oI (fte D τ j) = -1 := c78
              rw [oI_no (fun f hf => by have := fte_lt j f hf; omega)] at c78
              obtain ⟨g, hg⟩ := Option.ne_none_iff_exists'.mp c78
              obtain ⟨g1, g2, g3⟩ := fte_lt j g hg
              rw [hτ g (by omega)] at g3
              have g4 := (a5 g (by omega)).2.1
              obtain ⟨y2, hcg⟩ := w.cell (k := g) (by omega)
              unfold pcell at hcg
              rw [hg]
              simp only [oI]
              refine gs_n 83 a_X4_firstToEnd_81 rfl ?_
              refine gs_get 86 a_X4_firstToEnd_83 f_4_205 (by first | assumption | exact hs_same _ _ _ | exact (hs_ne _ _ (by first | assumption | decide | omega)).trans (by first | assumption | exact hs_same _ _ _ | exact (hs_ne _ _ (by first | assumption | decide | omega)).trans (by first | assumption | exact hs_same _ _ _ | exact (hs_ne _ _ (by first | assumption | decide | omega)).trans (by first | assumption | exact hs_same _ _ _ | exact (hs_ne _ _ (by first | assumption | decide | omega)).trans (by first | assumption | exact hs_same _ _ _))))) rfl rfl ?_
              refine gs_n 87 a_X4_firstToEnd_86 rfl ?_
              refine gs_get 90 a_X4_firstToEnd_87 f_4_42 (by first | assumption | exact hs_same _ _ _ | exact (hs_ne _ _ (by first | assumption | decide | omega)).trans (by first | assumption | exact hs_same _ _ _ | exact (hs_ne _ _ (by first | assumption | decide | omega)).trans (by first | assumption | exact hs_same _ _ _ | exact (hs_ne _ _ (by first | assumption | decide | omega)).trans (by first | assumption | exact hs_same _ _ _ | exact (hs_ne _ _ (by first | assumption | decide | omega)).trans (by first | assumption | exact hs_same _ _ _))))) rfl rfl ?_
              refine gs_n 91 a_X4_firstToEnd_90 rfl ?_
              refine gs_aa g (64 + g) 92 a_X4_firstToEnd_91 (by first | assumption | exact hs_same _ _ _ | exact (hs_ne _ _ (by first | assumption | decide | omega)).trans (by first | assumption | exact hs_same _ _ _ | exact (hs_ne _ _ (by first | assumption | decide | omega)).trans (by first | assumption | exact hs_same _ _ _ | exact (hs_ne _ _ (by first | assumption | decide | omega)).trans (by first | assumption | exact hs_same _ _ _ | exact (hs_ne _ _ (by first | assumption | decide | omega)).trans (by first | assumption | exact hs_same _ _ _))))) rfl (by omega) (by decide) (by simp) (hf' g (by omega)) rfl ?_
              refine gs_get 95 a_X4_firstToEnd_92 f_4_205 (by first | assumption | exact hs_same _ _ _ | exact (hs_ne _ _ (by first | assumption | decide | omega)).trans (by first | assumption | exact hs_same _ _ _ | exact (hs_ne _ _ (by first | assumption | decide | omega)).trans (by first | assumption | exact hs_same _ _ _ | exact (hs_ne _ _ (by first | assumption | decide | omega)).trans (by first | assumption | exact hs_same _ _ _ | exact (hs_ne _ _ (by first | assumption | decide | omega)).trans (by first | assumption | exact hs_same _ _ _))))) rfl rfl ?_
              refine gs_ic 100 98 a_X4_firstToEnd_95 rfl rfl (fun c95 => ?_) (fun c95 => ?_)
              · have c95 : m1 (tx g) ≤ m1 (tx j) := c95
                rw [m1_p z, m1_p g3] at c95
                have c95' : ¬ tx j < tx g := fun q => nI_ge (a := tx j - 1) (b := tx g - 1) (by omega) (by omega) c95
                refine gs_w [(3, .int (nI j)), (2, .int (nI g)), (0, .ref 0), (1, .int (b01 dc))] (by simp [ix_nd]) (by intro x hx; simp only [List.mem_cons, List.not_mem_nil, or_false] at hx; rcases hx with rfl | rfl | rfl | rfl <;> rfl) ?_
                refine nextI (some g) ?_
                simp only [fte]
                rw [if_pos hcond, hg]
                simp only
                rw [hτ j hj32, hτ g (by omega), if_neg c95']
              · have c95 : ¬ m1 (tx g) ≤ m1 (tx j) := c95
                rw [m1_p z, m1_p g3] at c95
                have c95' : tx j < tx g := Classical.byContradiction (fun q => c95 (nI_le (by omega) (by omega)))
                refine gs_n 99 a_X4_firstToEnd_98 rfl ?_
                refine gs_n 100 a_X4_firstToEnd_99 rfl ?_
                refine gs_w [(3, .int (nI j)), (2, .int (nI j)), (0, .ref 0), (1, .int (b01 dc))] (by simp [ix_nd]) (by intro x hx; simp only [List.mem_cons, List.not_mem_nil, or_false] at hx; rcases hx with rfl | rfl | rfl | rfl <;> rfl) ?_
                refine nextI (some j) ?_
                simp only [fte]
                rw [if_pos hcond, hg]
                simp only
                rw [hτ j hj32, hτ g (by omega), if_pos c95']
    refine gs_n 5 a_X4_firstToEnd_4 rfl ?_
    refine gs_k (nI 32) 7 a_X4_firstToEnd_5 (by decide +kernel) rfl ?_
    refine gs_ic 106 10 a_X4_firstToEnd_7 rfl rfl (fun c => ?_) (fun c => ?_)
    · exact absurd c (nI_ge (by omega) (by omega))
    · refine gs_n 11 a_X4_firstToEnd_10 rfl ?_
      refine gs_get 14 a_X4_firstToEnd_11 f_4_42 (by first | assumption | exact hs_same _ _ _ | exact (hs_ne _ _ (by first | assumption | decide | omega)).trans (by first | assumption | exact hs_same _ _ _ | exact (hs_ne _ _ (by first | assumption | decide | omega)).trans (by first | assumption | exact hs_same _ _ _ | exact (hs_ne _ _ (by first | assumption | decide | omega)).trans (by first | assumption | exact hs_same _ _ _ | exact (hs_ne _ _ (by first | assumption | decide | omega)).trans (by first | assumption | exact hs_same _ _ _))))) rfl rfl ?_
      refine gs_n 15 a_X4_firstToEnd_14 rfl ?_
      refine gs_aa j (64 + j) 16 a_X4_firstToEnd_15 (by first | assumption | exact hs_same _ _ _ | exact (hs_ne _ _ (by first | assumption | decide | omega)).trans (by first | assumption | exact hs_same _ _ _ | exact (hs_ne _ _ (by first | assumption | decide | omega)).trans (by first | assumption | exact hs_same _ _ _ | exact (hs_ne _ _ (by first | assumption | decide | omega)).trans (by first | assumption | exact hs_same _ _ _ | exact (hs_ne _ _ (by first | assumption | decide | omega)).trans (by first | assumption | exact hs_same _ _ _))))) rfl (by omega) (by decide) (by simp) (hf' j hj32) rfl ?_
      refine gs_n 18 a_X4_firstToEnd_16 rfl ?_
      refine gs_n 19 a_X4_firstToEnd_18 rfl ?_
      refine gs_if 39 22 a_X4_firstToEnd_19 rfl rfl (fun c19 => ?_) (fun c19 => ?_)
      · have c19 := (b01_0 _).mp c19
        refine gs_n 40 a_X4_firstToEnd_39 rfl ?_
        refine gs_get 43 a_X4_firstToEnd_40 f_4_98 (by first | assumption | exact hs_same _ _ _ | exact (hs_ne _ _ (by first | assumption | decide | omega)).trans (by first | assumption | exact hs_same _ _ _ | exact (hs_ne _ _ (by first | assumption | decide | omega)).trans (by first | assumption | exact hs_same _ _ _ | exact (hs_ne _ _ (by first | assumption | decide | omega)).trans (by first | assumption | exact hs_same _ _ _ | exact (hs_ne _ _ (by first | assumption | decide | omega)).trans (by first | assumption | exact hs_same _ _ _))))) rfl rfl ?_
        refine gs_n 45 a_X4_firstToEnd_43 rfl ?_
        refine gs_get 48 a_X4_firstToEnd_45 f_4_208 (by first | assumption | exact hs_same _ _ _ | exact (hs_ne _ _ (by first | assumption | decide | omega)).trans (by first | assumption | exact hs_same _ _ _ | exact (hs_ne _ _ (by first | assumption | decide | omega)).trans (by first | assumption | exact hs_same _ _ _ | exact (hs_ne _ _ (by first | assumption | decide | omega)).trans (by first | assumption | exact hs_same _ _ _ | exact (hs_ne _ _ (by first | assumption | decide | omega)).trans (by first | assumption | exact hs_same _ _ _))))) rfl rfl ?_
        refine gs_n 49 a_X4_firstToEnd_48 rfl ?_
        refine gs_n 50 a_X4_firstToEnd_49 rfl ?_
        refine gs_get 53 a_X4_firstToEnd_50 f_4_223 (by first | assumption | exact hs_same _ _ _ | exact (hs_ne _ _ (by first | assumption | decide | omega)).trans (by first | assumption | exact hs_same _ _ _ | exact (hs_ne _ _ (by first | assumption | decide | omega)).trans (by first | assumption | exact hs_same _ _ _ | exact (hs_ne _ _ (by first | assumption | decide | omega)).trans (by first | assumption | exact hs_same _ _ _ | exact (hs_ne _ _ (by first | assumption | decide | omega)).trans (by first | assumption | exact hs_same _ _ _))))) rfl rfl ?_
        refine gs_ic 60 56 a_X4_firstToEnd_53 rfl rfl (fun c53 => ?_) (fun c53 => ?_)
        · have c53 : nI clk - m1 (bg j) ≤ nI tmo := c53
          rw [gt_due (by omega) (by omega) (by omega)] at c53
          refine gs_k (nI 0) 61 a_X4_firstToEnd_60 (by decide +kernel) rfl ?_
          refine gs_top (b01 (D j)) (by rw [hD j hj32, c19, if_neg (by simp), decide_eq_false c53]; rfl) mid
        · have c53 : ¬ nI clk - m1 (bg j) ≤ nI tmo := c53
          rw [gt_due (by omega) (by omega) (by omega)] at c53
          refine gs_k (nI 1) 57 a_X4_firstToEnd_56 (by decide +kernel) rfl ?_
          refine gs_n 61 a_X4_firstToEnd_57 rfl ?_
          refine gs_top (b01 (D j)) (by rw [hD j hj32, c19, if_neg (by simp), decide_eq_true (Classical.byContradiction c53)]; rfl) mid
      · have c19 := (b01_ne _).mp c19
        refine gs_n 24 a_X4_firstToEnd_22 rfl ?_
        refine gs_get 27 a_X4_firstToEnd_24 f_4_274 (by first | assumption | exact hs_same _ _ _ | exact (hs_ne _ _ (by first | assumption | decide | omega)).trans (by first | assumption | exact hs_same _ _ _ | exact (hs_ne _ _ (by first | assumption | decide | omega)).trans (by first | assumption | exact hs_same _ _ _ | exact (hs_ne _ _ (by first | assumption | decide | omega)).trans (by first | assumption | exact hs_same _ _ _ | exact (hs_ne _ _ (by first | assumption | decide | omega)).trans (by first | assumption | exact hs_same _ _ _))))) rfl rfl ?_
        refine gs_k (-1) 28 a_X4_firstToEnd_27 (by decide +kernel) rfl ?_
        refine gs_ic 35 31 a_X4_firstToEnd_28 rfl rfl (fun c28 => ?_) (fun c28 => ?_)
        · have c28 : m1 (de j) = -1 := c28
          rw [m1_no (by omega)] at c28
          refine gs_k (nI 0) 36 a_X4_firstToEnd_35 (by decide +kernel) rfl ?_
          refine gs_n 61 a_X4_firstToEnd_36 rfl ?_
          refine gs_top (b01 (D j)) (by rw [hD j hj32, c19, if_pos rfl, decide_eq_true c28]; rfl) mid
        · have c28 : ¬ m1 (de j) = -1 := c28
          rw [m1_no (by omega)] at c28
          refine gs_k (nI 1) 32 a_X4_firstToEnd_31 (by decide +kernel) rfl ?_
          refine gs_n 61 a_X4_firstToEnd_32 rfl ?_
          refine gs_top (b01 (D j)) (by rw [hD j hj32, c19, if_pos rfl, decide_eq_false c28]; rfl) mid
theorem c_first (dc : Bool) (D : Nat → Bool) (τ : Nat → Nat) (hg : gA P X (n, ep, tx, bg, ba, ad, lc, de, mq, nx, la, en)) (hn : n ≤ 1000) (hD : ∀ k, k < 32 → D k = (if dc then !decide (de k = 0) else decide (tmo + bg k < clk + 1))) (hτ : ∀ k, k < 32 → τ k = tx k) (w : CE h P cap tmo clk cl cut X sy 0 tE tp an (n, ep, tx, bg, ba, ad, lc, de, mq, nx, la, en)) : ev (d + 2) n_X4_firstToEnd [.ref 0, .int (b01 dc)] h (fun u => u = (some (.int (oI (fte D τ 32))), h)) := by
  refine ev_of q_X4_firstToEnd (Nat.le_of_ble_eq_true rfl) ?_
  refine gs_k (-1) 1 a_X4_firstToEnd_0 (by decide +kernel) rfl ?_
  refine gs_n 2 a_X4_firstToEnd_1 rfl ?_
  refine gs_k (nI 0) 3 a_X4_firstToEnd_2 (by decide +kernel) rfl ?_
  refine gs_n 4 a_X4_firstToEnd_3 rfl ?_
  refine gs_w [(3, .int (nI 0)), (2, .int (oI (fte D τ 0))), (0, .ref 0), (1, .int (b01 dc))] (by simp [ix_nd]) (by intro x hx; simp only [List.mem_cons, List.not_mem_nil, or_false] at hx; rcases hx with rfl | rfl | rfl | rfl <;> rfl) ?_
  exact l_first dc D τ hg hn hD hτ w 32 0 (by omega)
end C2
