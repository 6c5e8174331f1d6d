/-! The reference: tick, sync, answer, feed -/
section R6
variable {d : Nat} {h : ix_H} {P cap tmo clk cut sy torn : Nat} {cl : Bool} {X : List En} {tE : En} {tp an : List Nat} {n nx : Nat} {ep tx bg ba lc de mq en : Nat → Nat} {ad : Nat → Int32} {la : List (Nat × Nat × Nat)} {T : TS} {s : MS} {ar : Nat → Nat → Int32}
theorem stepT_pv {k : Nat} (hP : P ≤ 8) (hv : pv P cap X) (hn : noDec P X) (hk : k < 32) (ht : (told P X).2.2.1 k ≠ 0) : pv P cap (stepT P X k) ∧ noDec P (stepT P X k) ∧ (told P (stepT P X k)).2.2.2.2.2.2.2.2.2.1 = (told P X).2.2.2.2.2.2.2.2.2.1 := by
  obtain ⟨n, ep, tx, bg, ba, ad, lc, de, mq, nx, la, en, hT⟩ := told_ex P X
  unfold noDec at hn ⊢
  rw [hT] at hn ht ⊢
  have h1 := stepT_ok hP hv hT hk ht (hn k hk)
  rw [h1.2]
  exact ⟨h1.1, hn, rfl⟩
theorem l_tin {h0 : ix_H} {t : Nat} {Q : ix_O → Prop} (hP : P ≤ 8) (hcap : cap ≤ 4000) (hclk : clk ≤ 1000000) (htmo : tmo ≤ 1000) (ht1 : t < 2 ^ 30) : ∀ (r k c : Nat) (Y : List En) (h : ix_H), k + r = 32 → pv P cap Y → noDec P Y → FS cM h0 h → RE h P cap tmo clk false cut Y sy 0 tE tp an (told P Y) →
    (∀ h2, FS cM h0 h2 → RE h2 P cap tmo clk false cut (inn (txF P) (dueT P tmo clk) (stepT P) t k r Y).2 sy 0 tE tp an (told P (inn (txF P) (dueT P tmo clk) (stepT P) t k r Y).2) → gs none (d + 5) mD_X5_tick (116, [(0, .ref 96), (2, .int (nI (c + (inn (txF P) (dueT P tmo clk) (stepT P) t k r Y).1))), (3, .int (nI t))], [], h2) Q) →
    gs none (d + 5) mD_X5_tick (57, [(4, .int (nI k)), (0, .ref 96), (2, .int (nI c)), (3, .int (nI t))], [], h) Q := by
  intro r
  induction r with
  | zero =>
    intro k c Y h hk hv hn hF w kk
    obtain rfl : k = 32 := by omega
    refine gs_n 59 a_X5_tick_57 rfl ?_
    refine gs_k (nI 32) 61 a_X5_tick_59 (by decide +kernel) rfl ?_
    refine gs_ic 116 64 a_X5_tick_61 rfl rfl (fun c61 => ?_) (fun c61 => ?_)
    · refine gs_w [(0, .ref 96), (2, .int (nI c)), (3, .int (nI t))] (by simp [ix_nd]) (by intro x hx; simp only [List.mem_cons, List.not_mem_nil, or_false] at hx; rcases hx with rfl | rfl | rfl <;> rfl) ?_
      exact kk h hF w
    · exact absurd (nI_le (Nat.le_refl 32) (by omega)) c61
  | succ r ih =>
    intro k c Y h hk hv hn hF w kk
    have hk32 : k < 32 := by omega
    obtain ⟨ar, wm, hE, -, hTR, -, -⟩ := w.un
    obtain ⟨w0, w1, w2, w3, w4, w5, w6, w7, w8, w9, w10, w11, w12, w13, -⟩ := wm
    simp only [mcell] at w0
    obtain ⟨t1, t2, t3, t4, t5⟩ := hTR.k hk32
    have hTb := (T_b hv false k hk32)
    rw [tS_f] at hTb
    have skip : (decide (txF P Y k = t + 1) && dueT P tmo clk Y k) = false → gs none (d + 5) mD_X5_tick (110, [(4, .int (nI k)), (0, .ref 96), (2, .int (nI c)), (3, .int (nI t))], [], h) Q := by
      intro hs
      first | refine gs_inc _ 113 a_X5_tick_110 rfl (Nat.le_of_ble_eq_true rfl) rfl ?_ | refine gs_n 113 a_X5_tick_110 rfl ?_
      refine gs_n 57 a_X5_tick_113 rfl ?_
      refine gs_w [(4, .int (nI (k + 1))), (0, .ref 96), (2, .int (nI c)), (3, .int (nI t))] (by simp [ix_nd]) (by intro x hx; simp only [List.mem_cons, List.not_mem_nil, or_false] at hx; rcases hx with rfl | rfl | rfl | rfl <;> rfl) ?_
      simp only [inn] at kk
      rw [hs, if_neg (by simp)] at kk
      exact ih (k + 1) c Y h (by omega) hv hn hF w kk
    have htx : txF P Y k = (told P Y).2.2.1 k := by unfold txF; rw [if_pos hk32]
    refine gs_n 59 a_X5_tick_57 rfl ?_
    refine gs_k (nI 32) 61 a_X5_tick_59 (by decide +kernel) rfl ?_
    refine gs_ic 116 64 a_X5_tick_61 rfl rfl (fun c61 => ?_) (fun c61 => ?_)
    · exact absurd c61 (nI_ge (by omega) (by omega))
    · refine gs_n 65 a_X5_tick_64 rfl ?_
      refine gs_get 68 a_X5_tick_65 f_5_43 (by first | assumption | exact hs_same _ _ _ | exact (hs_ne _ _ (by first | assumption | decide | omega)).trans (by first | assumption | exact hs_same _ _ _ | exact (hs_ne _ _ (by first | assumption | decide | omega)).trans (by first | assumption | exact hs_same _ _ _ | exact (hs_ne _ _ (by first | assumption | decide | omega)).trans (by first | assumption | exact hs_same _ _ _ | exact (hs_ne _ _ (by first | assumption | decide | omega)).trans (by first | assumption | exact hs_same _ _ _))))) rfl rfl ?_
      refine gs_n 70 a_X5_tick_68 rfl ?_
      refine gs_ia k 71 a_X5_tick_70 (by first | assumption | exact hs_same _ _ _ | exact (hs_ne _ _ (by first | assumption | decide | omega)).trans (by first | assumption | exact hs_same _ _ _ | exact (hs_ne _ _ (by first | assumption | decide | omega)).trans (by first | assumption | exact hs_same _ _ _ | exact (hs_ne _ _ (by first | assumption | decide | omega)).trans (by first | assumption | exact hs_same _ _ _ | exact (hs_ne _ _ (by first | assumption | decide | omega)).trans (by first | assumption | exact hs_same _ _ _))))) rfl (by omega) (by omega) rfl ?_
      rw [t3]
      refine gs_n 72 a_X5_tick_71 rfl ?_
      refine gs_ic 110 75 a_X5_tick_72 rfl rfl (fun c72 => ?_) (fun c72 => ?_)
      · have c72 : ¬ m1 ((told P Y).2.2.1 k) = nI t := c72
        rw [m1_nI (by omega) (by omega)] at c72
        exact skip (by rw [htx, decide_eq_false c72]; rfl)
      · have c72 : m1 ((told P Y).2.2.1 k) = nI t := Classical.byContradiction c72
        rw [m1_nI (by omega) (by omega)] at c72
        have hne : (told P Y).2.2.1 k ≠ 0 := by omega
        refine gs_n 76 a_X5_tick_75 rfl ?_
        refine gs_get 79 a_X5_tick_76 f_5_96 (by first | assumption | exact hs_same _ _ _ | exact (hs_ne _ _ (by first | assumption | decide | omega)).trans (by first | assumption | exact hs_same _ _ _ | exact (hs_ne _ _ (by first | assumption | decide | omega)).trans (by first | assumption | exact hs_same _ _ _ | exact (hs_ne _ _ (by first | assumption | decide | omega)).trans (by first | assumption | exact hs_same _ _ _ | exact (hs_ne _ _ (by first | assumption | decide | omega)).trans (by first | assumption | exact hs_same _ _ _))))) rfl rfl ?_
        refine gs_n 80 a_X5_tick_79 rfl ?_
        refine gs_get 83 a_X5_tick_80 f_5_46 (by first | assumption | exact hs_same _ _ _ | exact (hs_ne _ _ (by first | assumption | decide | omega)).trans (by first | assumption | exact hs_same _ _ _ | exact (hs_ne _ _ (by first | assumption | decide | omega)).trans (by first | assumption | exact hs_same _ _ _ | exact (hs_ne _ _ (by first | assumption | decide | omega)).trans (by first | assumption | exact hs_same _ _ _ | exact (hs_ne _ _ (by first | assumption | decide | omega)).trans (by first | assumption | exact hs_same _ _ _))))) rfl rfl ?_
        refine gs_n 85 a_X5_tick_83 rfl ?_
        refine gs_ia k 86 a_X5_tick_85 (by first | assumption | exact hs_same _ _ _ | exact (hs_ne _ _ (by first | assumption | decide | omega)).trans (by first | assumption | exact hs_same _ _ _ | exact (hs_ne _ _ (by first | assumption | decide | omega)).trans (by first | assumption | exact hs_same _ _ _ | exact (hs_ne _ _ (by first | assumption | decide | omega)).trans (by first | assumption | exact hs_same _ _ _ | exact (hs_ne _ _ (by first | assumption | decide | omega)).trans (by first | assumption | exact hs_same _ _ _))))) rfl (by omega) (by omega) rfl ?_
        rw [t4 hne]
        refine gs_n 87 a_X5_tick_86 rfl ?_
        refine gs_n 88 a_X5_tick_87 rfl ?_
        refine gs_get 91 a_X5_tick_88 f_5_93 (by first | assumption | exact hs_same _ _ _ | exact (hs_ne _ _ (by first | assumption | decide | omega)).trans (by first | assumption | exact hs_same _ _ _ | exact (hs_ne _ _ (by first | assumption | decide | omega)).trans (by first | assumption | exact hs_same _ _ _ | exact (hs_ne _ _ (by first | assumption | decide | omega)).trans (by first | assumption | exact hs_same _ _ _ | exact (hs_ne _ _ (by first | assumption | decide | omega)).trans (by first | assumption | exact hs_same _ _ _))))) rfl rfl ?_
        refine gs_ic 110 94 a_X5_tick_91 rfl rfl (fun c91 => ?_) (fun c91 => ?_)
        · have c91 : nI clk - m1 ((told P Y).2.2.2.1 k) ≤ nI tmo := c91
          rw [gt_due (by omega) (by omega) (by omega)] at c91
          exact skip (by unfold dueT; rw [decide_eq_false c91, Bool.and_false])
        · have c91 : ¬ nI clk - m1 ((told P Y).2.2.2.1 k) ≤ nI tmo := c91
          rw [gt_due (by omega) (by omega) (by omega)] at c91
          have hdue : (decide (txF P Y k = t + 1) && dueT P tmo clk Y k) = true := by
            unfold dueT
            rw [htx, decide_eq_true c72, decide_eq_true (Classical.byContradiction c91)]
            rfl
          have q2 := fin_pv (c := 0) (by omega) hP hk32 hv hn hne
          have q3 := stepT_pv hP hv hn hk32 hne
          refine gs_n 95 a_X5_tick_94 rfl ?_
          refine gs_n 97 a_X5_tick_95 rfl ?_
          refine gs_k (nI 0) 98 a_X5_tick_97 (by decide +kernel) rfl ?_
          refine gs_cv 101 a_X5_tick_98 k_5_144 q_X5_ends (r_ends false hk32 hP hcap hv hne (hn k hk32) w) rfl rfl rfl (by simp [Value.category]) (by first | assumption | exact hs_same _ _ _ | exact (hs_ne _ _ (by first | assumption | decide | omega)).trans (by first | assumption | exact hs_same _ _ _ | exact (hs_ne _ _ (by first | assumption | decide | omega)).trans (by first | assumption | exact hs_same _ _ _ | exact (hs_ne _ _ (by first | assumption | decide | omega)).trans (by first | assumption | exact hs_same _ _ _ | exact (hs_ne _ _ (by first | assumption | decide | omega)).trans (by first | assumption | exact hs_same _ _ _))))) rfl (fun v h2 hp => ?_)
          obtain ⟨e1, hF2, w2'⟩ := hp
          simp only at e1
          subst e1
          simp only [Bool.false_eq_true, if_false] at w2'
          have k0 := w2'.obj
          simp only [mcell] at k0
          refine gs_n 102 a_X5_tick_101 rfl ?_
          refine gs_n 104 a_X5_tick_102 rfl ?_
          refine gs_cv 107 a_X5_tick_104 k_5_155 q_X5_registers (r_regX hk32 hP hcap q2.1 q2.2.2.1 q2.2.2.2.2 w2') rfl rfl rfl (by simp [Value.category]) (by first | assumption | exact hs_same _ _ _ | exact (hs_ne _ _ (by first | assumption | decide | omega)).trans (by first | assumption | exact hs_same _ _ _ | exact (hs_ne _ _ (by first | assumption | decide | omega)).trans (by first | assumption | exact hs_same _ _ _ | exact (hs_ne _ _ (by first | assumption | decide | omega)).trans (by first | assumption | exact hs_same _ _ _ | exact (hs_ne _ _ (by first | assumption | decide | omega)).trans (by first | assumption | exact hs_same _ _ _))))) rfl (fun v h3 hp => ?_)
          obtain ⟨e1, hF3, w3'⟩ := hp
          simp only at e1
          subst e1
          first | refine gs_inc _ 110 a_X5_tick_107 rfl (Nat.le_of_ble_eq_true rfl) rfl ?_ | refine gs_n 110 a_X5_tick_107 rfl ?_
          first | refine gs_inc _ 113 a_X5_tick_110 rfl (Nat.le_of_ble_eq_true rfl) rfl ?_ | refine gs_n 113 a_X5_tick_110 rfl ?_
          refine gs_n 57 a_X5_tick_113 rfl ?_
          refine gs_w [(4, .int (nI (k + 1))), (0, .ref 96), (2, .int (nI (c + 1))), (3, .int (nI t))] (by simp [ix_nd]) (by intro x hx; simp only [List.mem_cons, List.not_mem_nil, or_false] at hx; rcases hx with rfl | rfl | rfl | rfl <;> rfl) ?_
          simp only [inn] at kk
          rw [hdue, if_pos rfl] at kk
          refine ih (k + 1) (c + 1) (stepT P Y k) h3 (by omega) q3.1 q3.2.1 ((hF.trans hF2).trans hF3) w3' ?_
          intro h4 hF4 w4
          have := kk h4 hF4 w4
          rw [show c + 1 + (inn (txF P) (dueT P tmo clk) (stepT P) t (k + 1) r (stepT P Y k)).1 = c + ((inn (txF P) (dueT P tmo clk) (stepT P) t (k + 1) r (stepT P Y k)).1 + 1) by omega]
          exact this
theorem inn_pv {t : Nat} (hP : P ≤ 8) : ∀ (r k : Nat) (Y : List En), k + r ≤ 32 → pv P cap Y → noDec P Y → pv P cap (inn (txF P) (dueT P tmo clk) (stepT P) t k r Y).2 ∧ noDec P (inn (txF P) (dueT P tmo clk) (stepT P) t k r Y).2 ∧ (told P (inn (txF P) (dueT P tmo clk) (stepT P) t k r Y).2).2.2.2.2.2.2.2.2.2.1 = (told P Y).2.2.2.2.2.2.2.2.2.1 := by
  intro r
  induction r with
  | zero => intro k Y _ hv hn; exact ⟨hv, hn, rfl⟩
  | succ r ih =>
    intro k Y hk hv hn
    simp only [inn]
    cases c : (decide (txF P Y k = t + 1) && dueT P tmo clk Y k) with
    | true =>
      rw [if_pos rfl]
      rw [Bool.and_eq_true] at c
      have c1 : txF P Y k = t + 1 := of_decide_eq_true c.1
      unfold txF at c1
      rw [if_pos (by omega)] at c1
      have q := stepT_pv hP hv hn (by omega : k < 32) (by omega)
      have h1 := ih (k + 1) (stepT P Y k) (by omega) q.1 q.2.1
      exact ⟨h1.1, h1.2.1, h1.2.2.trans q.2.2⟩
    | false =>
      rw [if_neg (by simp)]
      exact ih (k + 1) Y (by omega) hv hn
theorem l_tout {h0 : ix_H} (hP : P ≤ 8) (hcap : cap ≤ 4000) (hclk : clk ≤ 1000000) (htmo : tmo ≤ 1000) : ∀ (r t c : Nat) (Y : List En) (h : ix_H), t + r = (told P Y).2.2.2.2.2.2.2.2.2.1 → t + r ≤ 1000 → pv P cap Y → noDec P Y → FS cM h0 h → RE h P cap tmo clk false cut Y sy 0 tE tp an (told P Y) →
    gs none (d + 5) mD_X5_tick (39, [(0, .ref 96), (2, .int (nI c)), (3, .int (nI t))], [], h) (fun u => u.1 = some (.int (nI (c + (outl (txF P) (dueT P tmo clk) (stepT P) r t Y).1))) ∧ FS cM h0 u.2 ∧ RE u.2 P cap tmo clk false cut (outl (txF P) (dueT P tmo clk) (stepT P) r t Y).2 sy 0 tE tp an (told P (outl (txF P) (dueT P tmo clk) (stepT P) r t Y).2)) := by
  intro r
  induction r with
  | zero =>
    intro t c Y h ht ht2 hv hn hF w
    have w0 := w.obj
    simp only [mcell] at w0
    refine gs_n 40 a_X5_tick_39 rfl ?_
    refine gs_n 41 a_X5_tick_40 rfl ?_
    refine gs_get 44 a_X5_tick_41 f_5_80 (by first | assumption | exact hs_same _ _ _ | exact (hs_ne _ _ (by first | assumption | decide | omega)).trans (by first | assumption | exact hs_same _ _ _ | exact (hs_ne _ _ (by first | assumption | decide | omega)).trans (by first | assumption | exact hs_same _ _ _ | exact (hs_ne _ _ (by first | assumption | decide | omega)).trans (by first | assumption | exact hs_same _ _ _ | exact (hs_ne _ _ (by first | assumption | decide | omega)).trans (by first | assumption | exact hs_same _ _ _))))) rfl rfl ?_
    refine gs_ic 122 47 a_X5_tick_44 rfl rfl (fun c44 => ?_) (fun c44 => ?_)
    · refine gs_n 123 a_X5_tick_122 rfl ?_
      refine gs_iret a_X5_tick_123 rfl rfl ?_
      exact ⟨rfl, hF, w⟩
    · exact absurd (nI_le (by omega) (by omega)) c44
  | succ r ih =>
    intro t c Y h ht ht2 hv hn hF w
    have w0 := w.obj
    simp only [mcell] at w0
    refine gs_n 40 a_X5_tick_39 rfl ?_
    refine gs_n 41 a_X5_tick_40 rfl ?_
    refine gs_get 44 a_X5_tick_41 f_5_80 (by first | assumption | exact hs_same _ _ _ | exact (hs_ne _ _ (by first | assumption | decide | omega)).trans (by first | assumption | exact hs_same _ _ _ | exact (hs_ne _ _ (by first | assumption | decide | omega)).trans (by first | assumption | exact hs_same _ _ _ | exact (hs_ne _ _ (by first | assumption | decide | omega)).trans (by first | assumption | exact hs_same _ _ _ | exact (hs_ne _ _ (by first | assumption | decide | omega)).trans (by first | assumption | exact hs_same _ _ _))))) rfl rfl ?_
    refine gs_ic 122 47 a_X5_tick_44 rfl rfl (fun c44 => ?_) (fun c44 => ?_)
    · exact absurd c44 (nI_ge (by omega) (by omega))
    · refine gs_n 48 a_X5_tick_47 rfl ?_
      refine gs_get 51 a_X5_tick_48 f_5_99 (by first | assumption | exact hs_same _ _ _ | exact (hs_ne _ _ (by first | assumption | decide | omega)).trans (by first | assumption | exact hs_same _ _ _ | exact (hs_ne _ _ (by first | assumption | decide | omega)).trans (by first | assumption | exact hs_same _ _ _ | exact (hs_ne _ _ (by first | assumption | decide | omega)).trans (by first | assumption | exact hs_same _ _ _ | exact (hs_ne _ _ (by first | assumption | decide | omega)).trans (by first | assumption | exact hs_same _ _ _))))) rfl rfl ?_
      refine gs_if 122 54 a_X5_tick_51 rfl rfl (fun c51 => ?_) (fun c51 => ?_)
      · exact absurd ((b01_ne _).mp c51) (by simp)
      · refine gs_k (nI 0) 55 a_X5_tick_54 (by decide +kernel) rfl ?_
        refine gs_n 57 a_X5_tick_55 rfl ?_
        refine gs_w [(4, .int (nI 0)), (0, .ref 96), (2, .int (nI c)), (3, .int (nI t))] (by simp [ix_nd]) (by intro x hx; simp only [List.mem_cons, List.not_mem_nil, or_false] at hx; rcases hx with rfl | rfl | rfl | rfl <;> rfl) ?_
        refine l_tin hP hcap hclk htmo (by omega) 32 0 c Y h (by omega) hv hn hF w ?_
        intro h2 hF2 w2
        obtain ⟨q1, q2, q3⟩ := inn_pv (cap := cap) (tmo := tmo) (clk := clk) (t := t) hP 32 0 Y (by omega) hv hn
        first | refine gs_inc _ 119 a_X5_tick_116 rfl (Nat.le_of_ble_eq_true rfl) rfl ?_ | refine gs_n 119 a_X5_tick_116 rfl ?_
        refine gs_n 39 a_X5_tick_119 rfl ?_
        refine gs_w [(0, .ref 96), (2, .int (nI (c + (inn (txF P) (dueT P tmo clk) (stepT P) t 0 32 Y).1))), (3, .int (nI (t + 1)))] (by simp [ix_nd]) (by intro x hx; simp only [List.mem_cons, List.not_mem_nil, or_false] at hx; rcases hx with rfl | rfl | rfl <;> rfl) ?_
        refine gs_post (ih (t + 1) _ _ h2 (by rw [q3]; omega) (by omega) q1 q2 hF2 w2) ?_
        rintro u ⟨e1, e2, e3⟩
        simp only [outl]
        refine ⟨?_, e2, e3⟩
        rw [e1, Nat.add_assoc]
theorem r_tick (x : Int32) (hs : SI (P, cap, tmo, clk, cl, cut, X, sy, torn, tE, tp, an)) (w : RS h (P, cap, tmo, clk, cl, cut, X, sy, torn, tE, tp, an)) : ev (d + 6) n_X5_tick [.ref 96, .int x] h (fun u => u.1 = some (.int (F_tick (P, cap, tmo, clk, cl, cut, X, sy, torn, tE, tp, an) x).1) ∧ FS cM h u.2 ∧ RS u.2 (F_tick (P, cap, tmo, clk, cl, cut, X, sy, torn, tE, tp, an) x).2) := by
  obtain ⟨s1, s2, s3, s4, s5, s6, s7, s8, s9, hv, s11, -⟩ := hs
  have w' : RE h P cap tmo clk cl cut X sy torn tE tp an (tS cl P X) := w
  have w0 := w'.obj
  simp only [mcell] at w0
  simp only [F_tick]
  refine ev_of q_X5_tick (Nat.le_of_ble_eq_true rfl) ?_
  refine gs_n 1 a_X5_tick_0 rfl ?_
  refine gs_if 22 4 a_X5_tick_1 rfl rfl (fun c1 => ?_) (fun c1 => ?_)
  · have c1 : x < 0 := c1
    rw [lt0_iff] at c1
    rw [if_pos (Or.inl c1)]
    refine gs_k (-2) 24 a_X5_tick_22 (by decide +kernel) rfl ?_
    refine gs_iret a_X5_tick_24 rfl rfl ?_
    exact ⟨rfl, FS.rf _ _, w⟩
  · have c1 : ¬ x < 0 := c1
    rw [lt0_iff] at c1
    refine gs_n 5 a_X5_tick_4 rfl ?_
    refine gs_k (nI 1000) 8 a_X5_tick_5 (by decide +kernel) rfl ?_
    refine gs_ic 22 11 a_X5_tick_8 rfl rfl (fun c8 => ?_) (fun c8 => ?_)
    · have c8 : nI 1000 < x := c8
      rw [lt_lit (by omega)] at c8
      rw [if_pos (by omega)]
      refine gs_k (-2) 24 a_X5_tick_22 (by decide +kernel) rfl ?_
      refine gs_iret a_X5_tick_24 rfl rfl ?_
      exact ⟨rfl, FS.rf _ _, w⟩
    · have c8 : ¬ nI 1000 < x := c8
      rw [lt_lit (by omega)] at c8
      have hx : x = nI (kn x) := nI_ofInt (by omega)
      have hkx : kn x ≤ 1000 := by unfold kn; omega
      generalize hkk : kn x = m at *
      subst hx
      refine gs_n 12 a_X5_tick_11 rfl ?_
      refine gs_get 15 a_X5_tick_12 f_5_96 (by first | assumption | exact hs_same _ _ _ | exact (hs_ne _ _ (by first | assumption | decide | omega)).trans (by first | assumption | exact hs_same _ _ _ | exact (hs_ne _ _ (by first | assumption | decide | omega)).trans (by first | assumption | exact hs_same _ _ _ | exact (hs_ne _ _ (by first | assumption | decide | omega)).trans (by first | assumption | exact hs_same _ _ _ | exact (hs_ne _ _ (by first | assumption | decide | omega)).trans (by first | assumption | exact hs_same _ _ _))))) rfl rfl ?_
      refine gs_n 16 a_X5_tick_15 rfl ?_
      refine gs_n 17 a_X5_tick_16 rfl ?_
      refine gs_n 19 a_X5_tick_17 rfl ?_
      rw [nI_add]
      refine gs_ic 25 22 a_X5_tick_19 rfl rfl (fun c19 => ?_) (fun c19 => ?_)
      · have c19 : nI (clk + m) ≤ nI 1000000 := c19
        rw [le_lit (by omega), nI_toInt (by omega)] at c19
        rw [if_neg (by omega)]
        obtain ⟨ar, wm, hE, htn, hTR, h18, h19⟩ := w'.un
        have wd := wm.obj (P, cap, tmo, clk + m, cl, cut, X.length, sy, torn, (tS cl P X).2.2.2.2.2.2.2.2.2.1, (tS cl P X).2.2.2.2.2.2.2.2.2.2.1.length, tp.length, an.length)
        refine gs_n 26 a_X5_tick_25 rfl ?_
        refine gs_n 27 a_X5_tick_26 rfl ?_
        refine gs_get 30 a_X5_tick_27 f_5_96 (by first | assumption | exact hs_same _ _ _ | exact (hs_ne _ _ (by first | assumption | decide | omega)).trans (by first | assumption | exact hs_same _ _ _ | exact (hs_ne _ _ (by first | assumption | decide | omega)).trans (by first | assumption | exact hs_same _ _ _ | exact (hs_ne _ _ (by first | assumption | decide | omega)).trans (by first | assumption | exact hs_same _ _ _ | exact (hs_ne _ _ (by first | assumption | decide | omega)).trans (by first | assumption | exact hs_same _ _ _))))) rfl rfl ?_
        refine gs_n 31 a_X5_tick_30 rfl ?_
        refine gs_n 32 a_X5_tick_31 rfl ?_
        refine gs_put 35 _ a_X5_tick_32 f_5_96 (by first | assumption | exact hs_same _ _ _ | exact (hs_ne _ _ (by first | assumption | decide | omega)).trans (by first | assumption | exact hs_same _ _ _ | exact (hs_ne _ _ (by first | assumption | decide | omega)).trans (by first | assumption | exact hs_same _ _ _ | exact (hs_ne _ _ (by first | assumption | decide | omega)).trans (by first | assumption | exact hs_same _ _ _ | exact (hs_ne _ _ (by first | assumption | decide | omega)).trans (by first | assumption | exact hs_same _ _ _))))) (Nat.le_of_ble_eq_true rfl) rfl (fun z => absurd z (by decide)) rfl rfl ?_
        rw [nI_add]
        have w2 : RE (ix_set h 96 (mcell (P, cap, tmo, clk + m, cl, cut, X.length, sy, torn, (tS cl P X).2.2.2.2.2.2.2.2.2.1, (tS cl P X).2.2.2.2.2.2.2.2.2.2.1.length, tp.length, an.length))) P cap tmo (clk + m) cl cut X sy torn tE tp an (tS cl P X) := RE.mk' wd hE htn hTR h18 h19
        have hF : FS cM h (ix_set h 96 (mcell (P, cap, tmo, clk + m, cl, cut, X.length, sy, torn, (tS cl P X).2.2.2.2.2.2.2.2.2.1, (tS cl P X).2.2.2.2.2.2.2.2.2.2.1.length, tp.length, an.length))) := FS.m _ (by omega)
        change gs none _ _ (35, _, [], ix_set h 96 (mcell (P, cap, tmo, clk + m, cl, cut, X.length, sy, torn, (tS cl P X).2.2.2.2.2.2.2.2.2.1, (tS cl P X).2.2.2.2.2.2.2.2.2.2.1.length, tp.length, an.length))) _
        generalize ix_set h 96 (mcell (P, cap, tmo, clk + m, cl, cut, X.length, sy, torn, (tS cl P X).2.2.2.2.2.2.2.2.2.1, (tS cl P X).2.2.2.2.2.2.2.2.2.2.1.length, tp.length, an.length)) = h2 at *
        cases cl with
        | true =>
          rw [if_pos rfl]
          have k0 := w2.obj
          rw [show (tS true P X).2.2.2.2.2.2.2.2.2.1 = 0 from rfl] at k0
          simp only [mcell] at k0
          refine gs_k (nI 0) 36 a_X5_tick_35 (by decide +kernel) rfl ?_
          refine gs_n 37 a_X5_tick_36 rfl ?_
          refine gs_k (nI 0) 38 a_X5_tick_37 (by decide +kernel) rfl ?_
          refine gs_n 39 a_X5_tick_38 rfl ?_
          refine gs_n 40 a_X5_tick_39 rfl ?_
          refine gs_n 41 a_X5_tick_40 rfl ?_
          refine gs_get 44 a_X5_tick_41 f_5_80 (by first | assumption | exact hs_same _ _ _ | exact (hs_ne _ _ (by first | assumption | decide | omega)).trans (by first | assumption | exact hs_same _ _ _ | exact (hs_ne _ _ (by first | assumption | decide | omega)).trans (by first | assumption | exact hs_same _ _ _ | exact (hs_ne _ _ (by first | assumption | decide | omega)).trans (by first | assumption | exact hs_same _ _ _ | exact (hs_ne _ _ (by first | assumption | decide | omega)).trans (by first | assumption | exact hs_same _ _ _))))) rfl rfl ?_
          refine gs_ic 122 47 a_X5_tick_44 rfl rfl (fun c44 => ?_) (fun c44 => ?_)
          · refine gs_n 123 a_X5_tick_122 rfl ?_
            refine gs_iret a_X5_tick_123 rfl rfl ?_
            exact ⟨rfl, hF, w2⟩
          · exact absurd (nI_le (Nat.le_refl _) (by omega)) c44
        | false =>
          obtain ⟨rfl, hnd⟩ := s11 rfl
          rw [tS_f] at w2
          rw [if_neg (by simp)]
          have hnx : (told P X).2.2.2.2.2.2.2.2.2.1 ≤ 1000 := by
            obtain ⟨n, ep, tx, bg, ba, ad, lc, de, mq, nx, la, en, hT⟩ := told_ex P X
            have hg : GT P cap X (n, ep, tx, bg, ba, ad, lc, de, mq, nx, la, en) := hT ▸ pv_all hv
            rw [hT]
            have q1 := hg.1.2.1
            have q2 := hg.2.2.2.2.1
            show nx ≤ 1000
            omega
          refine gs_k (nI 0) 36 a_X5_tick_35 (by decide +kernel) rfl ?_
          refine gs_n 37 a_X5_tick_36 rfl ?_
          refine gs_k (nI 0) 38 a_X5_tick_37 (by decide +kernel) rfl ?_
          refine gs_n 39 a_X5_tick_38 rfl ?_
          refine gs_w [(0, .ref 96), (2, .int (nI 0)), (3, .int (nI 0))] (by simp [ix_nd]) (by intro x hx; simp only [List.mem_cons, List.not_mem_nil, or_false] at hx; rcases hx with rfl | rfl | rfl <;> rfl) ?_
          refine gs_post (l_tout (h0 := h) s2 s4 (by omega) s6 _ 0 0 X h2 (Nat.zero_add _) (by omega) hv hnd hF w2) ?_
          rintro u ⟨e1, e2, e3⟩
          rw [tick_eq s2 hv hnd] at e1 e3
          rw [Nat.zero_add] at e1
          exact ⟨e1, e2, e3⟩
      · have c19 : ¬ nI (clk + m) ≤ nI 1000000 := c19
        rw [le_lit (by omega), nI_toInt (by omega)] at c19
        rw [if_pos (by omega)]
        refine gs_k (-2) 24 a_X5_tick_22 (by decide +kernel) rfl ?_
        refine gs_iret a_X5_tick_24 rfl rfl ?_
        exact ⟨rfl, FS.rf _ _, w⟩
theorem r_sync (hs : SI (P, cap, tmo, clk, cl, cut, X, sy, torn, tE, tp, an)) (w : RS h (P, cap, tmo, clk, cl, cut, X, sy, torn, tE, tp, an)) : ev (d + 3) n_X5_sync [.ref 96] h (fun u => u.1 = some (.int (F_sync (P, cap, tmo, clk, cl, cut, X, sy, torn, tE, tp, an)).1) ∧ FS cM h u.2 ∧ RS u.2 (F_sync (P, cap, tmo, clk, cl, cut, X, sy, torn, tE, tp, an)).2) := by
  obtain ⟨s1, s2, s3, s4, s5, s6, s7, s8, s9, hv, s11, -⟩ := hs
  have w' : RE h P cap tmo clk cl cut X sy torn tE tp an (tS cl P X) := w
  obtain ⟨ar, wm, hE, htn, hTR, h18, h19⟩ := w'.un
  have wd := wm.obj (P, cap, tmo, clk, cl, cut, X.length, X.length, torn, (tS cl P X).2.2.2.2.2.2.2.2.2.1, (tS cl P X).2.2.2.2.2.2.2.2.2.2.1.length, tp.length, an.length)
  have w0 := w'.obj
  simp only [mcell] at w0
  simp only [F_sync]
  refine ev_of q_X5_sync (Nat.le_of_ble_eq_true rfl) ?_
  refine gs_n 1 a_X5_sync_0 rfl ?_
  refine gs_get 4 a_X5_sync_1 f_5_99 (by first | assumption | exact hs_same _ _ _ | exact (hs_ne _ _ (by first | assumption | decide | omega)).trans (by first | assumption | exact hs_same _ _ _ | exact (hs_ne _ _ (by first | assumption | decide | omega)).trans (by first | assumption | exact hs_same _ _ _ | exact (hs_ne _ _ (by first | assumption | decide | omega)).trans (by first | assumption | exact hs_same _ _ _ | exact (hs_ne _ _ (by first | assumption | decide | omega)).trans (by first | assumption | exact hs_same _ _ _))))) rfl rfl ?_
  refine gs_if 9 7 a_X5_sync_4 rfl rfl (fun c4 => ?_) (fun c4 => ?_)
  · have c4 := (b01_0 _).mp c4
    rw [if_neg (by rw [c4]; simp)]
    refine gs_n 10 a_X5_sync_9 rfl ?_
    refine gs_cv 13 a_X5_sync_10 k_5_199 q_X5_unsynced (r_unsynced s9 s2 w') rfl rfl rfl (by simp [Value.category]) (by first | assumption | exact hs_same _ _ _ | exact (hs_ne _ _ (by first | assumption | decide | omega)).trans (by first | assumption | exact hs_same _ _ _ | exact (hs_ne _ _ (by first | assumption | decide | omega)).trans (by first | assumption | exact hs_same _ _ _ | exact (hs_ne _ _ (by first | assumption | decide | omega)).trans (by first | assumption | exact hs_same _ _ _ | exact (hs_ne _ _ (by first | assumption | decide | omega)).trans (by first | assumption | exact hs_same _ _ _))))) rfl (fun v h1 hp => ?_)
    cases hp
    refine gs_n 14 a_X5_sync_13 rfl ?_
    refine gs_n 15 a_X5_sync_14 rfl ?_
    refine gs_n 16 a_X5_sync_15 rfl ?_
    refine gs_get 19 a_X5_sync_16 f_5_106 (by first | assumption | exact hs_same _ _ _ | exact (hs_ne _ _ (by first | assumption | decide | omega)).trans (by first | assumption | exact hs_same _ _ _ | exact (hs_ne _ _ (by first | assumption | decide | omega)).trans (by first | assumption | exact hs_same _ _ _ | exact (hs_ne _ _ (by first | assumption | decide | omega)).trans (by first | assumption | exact hs_same _ _ _ | exact (hs_ne _ _ (by first | assumption | decide | omega)).trans (by first | assumption | exact hs_same _ _ _))))) rfl rfl ?_
    refine gs_put 22 _ a_X5_sync_19 f_5_109 (by first | assumption | exact hs_same _ _ _ | exact (hs_ne _ _ (by first | assumption | decide | omega)).trans (by first | assumption | exact hs_same _ _ _ | exact (hs_ne _ _ (by first | assumption | decide | omega)).trans (by first | assumption | exact hs_same _ _ _ | exact (hs_ne _ _ (by first | assumption | decide | omega)).trans (by first | assumption | exact hs_same _ _ _ | exact (hs_ne _ _ (by first | assumption | decide | omega)).trans (by first | assumption | exact hs_same _ _ _))))) (Nat.le_of_ble_eq_true rfl) rfl (fun z => absurd z (by decide)) rfl rfl ?_
    refine gs_n 23 a_X5_sync_22 rfl ?_
    refine gs_iret a_X5_sync_23 rfl rfl ?_
    exact ⟨rfl, FS.m _ (by omega), RE.mk' wd hE htn hTR h18 h19⟩
  · have c4 := (b01_ne _).mp c4
    rw [if_pos c4]
    refine gs_k (-1) 8 a_X5_sync_7 (by decide +kernel) rfl ?_
    refine gs_iret a_X5_sync_8 rfl rfl ?_
    exact ⟨rfl, FS.rf _ _, w⟩
theorem r_answer (x : Int32) (hs : SI (P, cap, tmo, clk, cl, cut, X, sy, torn, tE, tp, an)) (w : RS h (P, cap, tmo, clk, cl, cut, X, sy, torn, tE, tp, an)) : ev (d + 1) n_X5_answer [.ref 96, .int x] h (fun u => u = (some (.int (F_answer (P, cap, tmo, clk, cl, cut, X, sy, torn, tE, tp, an) x)), h)) := by
  obtain ⟨s1, s2, s3, s4, s5, s6, s7, s8, s9, hv, s11, s12, s13, s14, s15, s16, s17, s18⟩ := hs
  have w' : RE h P cap tmo clk cl cut X sy torn tE tp an (tS cl P X) := w
  obtain ⟨ar, wm, hE, htn, hTR, h18, h19⟩ := w'.un
  obtain ⟨w0, w1, w2, w3, w4, w5, w6, w7, w8, w9, w10, w11, w12, w13, w14, w15, w16, w17, w18, w19, w20, -⟩ := wm
  simp only [mcell] at w0
  simp only [F_answer]
  unfold rAt
  refine ev_of q_X5_answer (Nat.le_of_ble_eq_true rfl) ?_
  refine gs_n 1 a_X5_answer_0 rfl ?_
  refine gs_if 12 4 a_X5_answer_1 rfl rfl (fun c1 => ?_) (fun c1 => ?_)
  · have c1 : x < 0 := c1
    rw [lt0_iff] at c1
    rw [if_neg (by omega)]
    refine gs_k (-1) 13 a_X5_answer_12 (by decide +kernel) rfl ?_
    refine gs_n 26 a_X5_answer_13 rfl ?_
    refine gs_iret a_X5_answer_26 rfl rfl ?_
    rfl
  · have c1 : ¬ x < 0 := c1
    rw [lt0_iff] at c1
    refine gs_n 5 a_X5_answer_4 rfl ?_
    refine gs_n 6 a_X5_answer_5 rfl ?_
    refine gs_get 9 a_X5_answer_6 f_5_115 (by first | assumption | exact hs_same _ _ _ | exact (hs_ne _ _ (by first | assumption | decide | omega)).trans (by first | assumption | exact hs_same _ _ _ | exact (hs_ne _ _ (by first | assumption | decide | omega)).trans (by first | assumption | exact hs_same _ _ _ | exact (hs_ne _ _ (by first | assumption | decide | omega)).trans (by first | assumption | exact hs_same _ _ _ | exact (hs_ne _ _ (by first | assumption | decide | omega)).trans (by first | assumption | exact hs_same _ _ _))))) rfl rfl ?_
    refine gs_ic 16 12 a_X5_answer_9 rfl rfl (fun c9 => ?_) (fun c9 => ?_)
    · have c9 : x < nI an.length := c9
      rw [lt_lit' (by omega)] at c9
      rw [if_pos (by omega)]
      have hx : x = nI (kn x) := nI_ofInt (by omega)
      have hkx : kn x < an.length := by unfold kn; omega
      show gs none d mD_X5_answer _ (fun u => u = (some (.int (nI (an.getD (kn x) 0))), h))
      generalize hkk : kn x = m at *
      subst hx
      refine gs_n 17 a_X5_answer_16 rfl ?_
      refine gs_get 20 a_X5_answer_17 f_5_70 (by first | assumption | exact hs_same _ _ _ | exact (hs_ne _ _ (by first | assumption | decide | omega)).trans (by first | assumption | exact hs_same _ _ _ | exact (hs_ne _ _ (by first | assumption | decide | omega)).trans (by first | assumption | exact hs_same _ _ _ | exact (hs_ne _ _ (by first | assumption | decide | omega)).trans (by first | assumption | exact hs_same _ _ _ | exact (hs_ne _ _ (by first | assumption | decide | omega)).trans (by first | assumption | exact hs_same _ _ _))))) rfl rfl ?_
      refine gs_n 21 a_X5_answer_20 rfl ?_
      refine gs_ba m 22 a_X5_answer_21 (by first | assumption | exact hs_same _ _ _ | exact (hs_ne _ _ (by first | assumption | decide | omega)).trans (by first | assumption | exact hs_same _ _ _ | exact (hs_ne _ _ (by first | assumption | decide | omega)).trans (by first | assumption | exact hs_same _ _ _ | exact (hs_ne _ _ (by first | assumption | decide | omega)).trans (by first | assumption | exact hs_same _ _ _ | exact (hs_ne _ _ (by first | assumption | decide | omega)).trans (by first | assumption | exact hs_same _ _ _))))) rfl (by omega) (by omega) rfl ?_
      rw [h19 m hkx]
      refine gs_k (nI 255) 25 a_X5_answer_22 (by decide +kernel) rfl ?_
      refine gs_n 26 a_X5_answer_25 rfl ?_
      rw [sg_and (s17 _ (getD_memN hkx))]
      refine gs_iret a_X5_answer_26 rfl rfl ?_
      rfl
    · have c9 : ¬ x < nI an.length := c9
      rw [lt_lit' (by omega)] at c9
      rw [if_neg (by omega)]
      refine gs_k (-1) 13 a_X5_answer_12 (by decide +kernel) rfl ?_
      refine gs_n 26 a_X5_answer_13 rfl ?_
      refine gs_iret a_X5_answer_26 rfl rfl ?_
      rfl
theorem getD_app_last (l : List Nat) (x : Nat) : (l ++ [x]).getD l.length 0 = x := by simp [List.getD]
theorem getD_app_lt {l : List Nat} {x i : Nat} (h : i < l.length) : (l ++ [x]).getD i 0 = l.getD i 0 := by simp [List.getD, List.getElem?_append_left h]
theorem l_rfeed (a b : Int64) (m : Nat) (hm : tp.length + m ≤ 40) (hm16 : m ≤ 16) : ∀ (r j : Nat) (h : ix_H), j + r = m → RE h P cap tmo clk cl cut X sy torn tE (tp ++ (List.range j).map (fby a b)) an T →
    gs none d mD_X5_feed (27, [(6, .int (nI j)), (0, .ref 96), (1, .int (nI m)), (2, .long a), (4, .long b)], [], h) (fun u => u.1 = some (.int (nI (tp.length + m))) ∧ FS cM h u.2 ∧ RE u.2 P cap tmo clk cl cut X sy torn tE (tp ++ (List.range m).map (fby a b)) an T) := by
  intro r
  induction r with
  | zero =>
    intro j h hj w
    obtain rfl : j = m := by omega
    have w0 := w.obj
    rw [List.length_append, List.length_map, List.length_range] at w0
    simp only [mcell] at w0
    refine gs_n 29 a_X5_feed_27 rfl ?_
    refine gs_n 30 a_X5_feed_29 rfl ?_
    refine gs_ic 82 33 a_X5_feed_30 rfl rfl (fun c33 => ?_) (fun c33 => ?_)
    · refine gs_n 83 a_X5_feed_82 rfl ?_
      refine gs_get 86 a_X5_feed_83 f_5_168 (by first | assumption | exact hs_same _ _ _ | exact (hs_ne _ _ (by first | assumption | decide | omega)).trans (by first | assumption | exact hs_same _ _ _ | exact (hs_ne _ _ (by first | assumption | decide | omega)).trans (by first | assumption | exact hs_same _ _ _ | exact (hs_ne _ _ (by first | assumption | decide | omega)).trans (by first | assumption | exact hs_same _ _ _ | exact (hs_ne _ _ (by first | assumption | decide | omega)).trans (by first | assumption | exact hs_same _ _ _))))) rfl rfl ?_
      refine gs_iret a_X5_feed_86 rfl rfl ?_
      exact ⟨rfl, FS.rf _ _, w⟩
    · exact absurd (nI_le (Nat.le_refl _) (by omega)) c33
  | succ r ih =>
    intro j h hj w
    have hlen : (tp ++ (List.range j).map (fby a b)).length = tp.length + j := by rw [List.length_append, List.length_map, List.length_range]
    obtain ⟨ar, wm, hE, htn, hTR, h18, h19⟩ := w.un
    rw [hlen] at wm h18
    have e2 : tp ++ (List.range (j + 1)).map (fby a b) = (tp ++ (List.range j).map (fby a b)) ++ [fby a b j] := by
      rw [List.range_succ, List.map_append, List.append_assoc]
      rfl
    have wd := (wm.s18 (upd (ar 18) (tp.length + j) (sg (fby a b j)))).obj (P, cap, tmo, clk, cl, cut, X.length, sy, torn, T.2.2.2.2.2.2.2.2.2.1, T.2.2.2.2.2.2.2.2.2.2.1.length, tp.length + (j + 1), an.length)
    obtain ⟨w0, w1, w2, w3, w4, w5, w6, w7, w8, w9, w10, w11, w12, w13, w14, w15, w16, w17, w18, w19, -⟩ := wm
    simp only [mcell] at w0
    have step : ∀ wd0 : Int64, wd0 = (if j < 8 then a else b) → gs none d mD_X5_feed (54, [(6, .int (nI j)), (0, .ref 96), (1, .int (nI m)), (2, .long a), (4, .long b)], [.long wd0, .int (nI (tp.length + j)), .ref 115], h) (fun u => u.1 = some (.int (nI (tp.length + m))) ∧ FS cM h u.2 ∧ RE u.2 P cap tmo clk cl cut X sy torn tE (tp ++ (List.range m).map (fby a b)) an T) := by
      intro wd0 hwd
      refine gs_k (nI 8) 56 a_X5_feed_54 (by decide +kernel) rfl ?_
      refine gs_n 58 a_X5_feed_56 rfl ?_
      refine gs_k (nI 8) 60 a_X5_feed_58 (by decide +kernel) rfl ?_
      refine gs_rem 61 a_X5_feed_60 (by decide +kernel) rfl ?_
      rw [pk_rem (by omega) (by omega) (by omega)]
      refine gs_n 62 a_X5_feed_61 rfl ?_
      refine gs_n 63 a_X5_feed_62 rfl ?_
      refine gs_n 64 a_X5_feed_63 rfl ?_
      refine gs_n 65 a_X5_feed_64 rfl ?_
      refine gs_bs (tp.length + j) 66 a_X5_feed_65 (by first | assumption | exact hs_same _ _ _ | exact (hs_ne _ _ (by first | assumption | decide | omega)).trans (by first | assumption | exact hs_same _ _ _ | exact (hs_ne _ _ (by first | assumption | decide | omega)).trans (by first | assumption | exact hs_same _ _ _ | exact (hs_ne _ _ (by first | assumption | decide | omega)).trans (by first | assumption | exact hs_same _ _ _ | exact (hs_ne _ _ (by first | assumption | decide | omega)).trans (by first | assumption | exact hs_same _ _ _))))) rfl (by omega) (by omega) rfl ?_
      rw [hwd, fby_ref a b (by omega)]
      refine gs_n 67 a_X5_feed_66 rfl ?_
      refine gs_n 68 a_X5_feed_67 rfl ?_
      refine gs_get 71 a_X5_feed_68 f_5_168 (by first | assumption | exact hs_same _ _ _ | exact (hs_ne _ _ (by first | assumption | decide | omega)).trans (by first | assumption | exact hs_same _ _ _ | exact (hs_ne _ _ (by first | assumption | decide | omega)).trans (by first | assumption | exact hs_same _ _ _ | exact (hs_ne _ _ (by first | assumption | decide | omega)).trans (by first | assumption | exact hs_same _ _ _ | exact (hs_ne _ _ (by first | assumption | decide | omega)).trans (by first | assumption | exact hs_same _ _ _))))) rfl rfl ?_
      refine gs_k (nI 1) 72 a_X5_feed_71 (by decide +kernel) rfl ?_
      refine gs_n 73 a_X5_feed_72 rfl ?_
      refine gs_put 76 _ a_X5_feed_73 f_5_168 (by first | assumption | exact hs_same _ _ _ | exact (hs_ne _ _ (by first | assumption | decide | omega)).trans (by first | assumption | exact hs_same _ _ _ | exact (hs_ne _ _ (by first | assumption | decide | omega)).trans (by first | assumption | exact hs_same _ _ _ | exact (hs_ne _ _ (by first | assumption | decide | omega)).trans (by first | assumption | exact hs_same _ _ _ | exact (hs_ne _ _ (by first | assumption | decide | omega)).trans (by first | assumption | exact hs_same _ _ _))))) (Nat.le_of_ble_eq_true rfl) rfl (fun z => absurd z (by decide)) rfl rfl ?_
      rw [show nI (tp.length + j) + nI 1 = nI (tp.length + (j + 1)) from nI_add _ 1]
      have w2 : RE (ix_set (ix_set h 115 (.inl (.byte, 40, .inl (upd (ar 18) (tp.length + j) (sg (fby a b j)))))) 96 (mcell (P, cap, tmo, clk, cl, cut, X.length, sy, torn, T.2.2.2.2.2.2.2.2.2.1, T.2.2.2.2.2.2.2.2.2.2.1.length, tp.length + (j + 1), an.length))) P cap tmo clk cl cut X sy torn tE (tp ++ (List.range (j + 1)).map (fby a b)) an T := by
        refine RE.mk' (ar := va_up ar 18 (upd (ar 18) (tp.length + j) (sg (fby a b j)))) (by rw [List.length_append, List.length_map, List.length_range]; exact wd) ?_ htn ?_ ?_ h19
        · obtain ⟨q1, q2, q3⟩ := hE
          exact ⟨q1, q2, q3⟩
        · obtain ⟨n, ep, tx, bg, ba, ad, lc, de, mq, nx, la, en⟩ := T
          obtain ⟨u1, u2, u3, u4⟩ := hTR
          exact ⟨u1, u2, u3, u4⟩
        · intro i hi
          rw [va_up_self, e2]
          rw [e2, List.length_append, hlen] at hi
          by_cases z : i < tp.length + j
          · rw [upd_n (by omega), getD_app_lt (by omega)]
            exact h18 i z
          · have : i = tp.length + j := by simp at hi; omega
            subst this
            rw [upd_s, ← hlen, getD_app_last]
      have hF : FS cM h (ix_set (ix_set h 115 (.inl (.byte, 40, .inl (upd (ar 18) (tp.length + j) (sg (fby a b j)))))) 96 (mcell (P, cap, tmo, clk, cl, cut, X.length, sy, torn, T.2.2.2.2.2.2.2.2.2.1, T.2.2.2.2.2.2.2.2.2.2.1.length, tp.length + (j + 1), an.length))) := (FS.m _ (by omega)).trans (FS.m _ (by omega))
      change gs none _ _ (76, _, [], ix_set (ix_set h 115 (.inl (.byte, 40, .inl (upd (ar 18) (tp.length + j) (sg (fby a b j)))))) 96 (mcell (P, cap, tmo, clk, cl, cut, X.length, sy, torn, T.2.2.2.2.2.2.2.2.2.1, T.2.2.2.2.2.2.2.2.2.2.1.length, tp.length + (j + 1), an.length))) _
      generalize ix_set (ix_set h 115 (.inl (.byte, 40, .inl (upd (ar 18) (tp.length + j) (sg (fby a b j)))))) 96 (mcell (P, cap, tmo, clk, cl, cut, X.length, sy, torn, T.2.2.2.2.2.2.2.2.2.1, T.2.2.2.2.2.2.2.2.2.2.1.length, tp.length + (j + 1), an.length)) = h2 at *
      first | refine gs_inc _ 79 a_X5_feed_76 rfl (Nat.le_of_ble_eq_true rfl) rfl ?_ | refine gs_n 79 a_X5_feed_76 rfl ?_
      refine gs_n 27 a_X5_feed_79 rfl ?_
      refine gs_w [(6, .int (nI (j + 1))), (0, .ref 96), (1, .int (nI m)), (2, .long a), (4, .long b)] (by simp [ix_nd]) (by intro x hx; simp only [List.mem_cons, List.not_mem_nil, or_false] at hx; rcases hx with rfl | rfl | rfl | rfl | rfl <;> rfl) ?_
      refine gs_post (ih (j + 1) h2 (by omega) w2) ?_
      rintro u ⟨q1, q2, q3⟩
      exact ⟨q1, hF.trans q2, q3⟩
    refine gs_n 29 a_X5_feed_27 rfl ?_
    refine gs_n 30 a_X5_feed_29 rfl ?_
    refine gs_ic 82 33 a_X5_feed_30 rfl rfl (fun c33 => ?_) (fun c33 => ?_)
    · exact absurd c33 (nI_ge (by omega) (by omega))
    · refine gs_n 34 a_X5_feed_33 rfl ?_
      refine gs_get 37 a_X5_feed_34 f_5_67 (by first | assumption | exact hs_same _ _ _ | exact (hs_ne _ _ (by first | assumption | decide | omega)).trans (by first | assumption | exact hs_same _ _ _ | exact (hs_ne _ _ (by first | assumption | decide | omega)).trans (by first | assumption | exact hs_same _ _ _ | exact (hs_ne _ _ (by first | assumption | decide | omega)).trans (by first | assumption | exact hs_same _ _ _ | exact (hs_ne _ _ (by first | assumption | decide | omega)).trans (by first | assumption | exact hs_same _ _ _))))) rfl rfl ?_
      refine gs_n 38 a_X5_feed_37 rfl ?_
      refine gs_get 41 a_X5_feed_38 f_5_168 (by first | assumption | exact hs_same _ _ _ | exact (hs_ne _ _ (by first | assumption | decide | omega)).trans (by first | assumption | exact hs_same _ _ _ | exact (hs_ne _ _ (by first | assumption | decide | omega)).trans (by first | assumption | exact hs_same _ _ _ | exact (hs_ne _ _ (by first | assumption | decide | omega)).trans (by first | assumption | exact hs_same _ _ _ | exact (hs_ne _ _ (by first | assumption | decide | omega)).trans (by first | assumption | exact hs_same _ _ _))))) rfl rfl ?_
      refine gs_n 43 a_X5_feed_41 rfl ?_
      refine gs_k (nI 8) 45 a_X5_feed_43 (by decide +kernel) rfl ?_
      refine gs_ic 52 48 a_X5_feed_45 rfl rfl (fun c40 => ?_) (fun c40 => ?_)
      · have c40 : nI 8 ≤ nI j := c40
        have : ¬ j < 8 := fun q => nI_ge (a := j) (b := 8) q (by omega) c40
        refine gs_n 54 a_X5_feed_52 rfl ?_
        exact step b (by rw [if_neg this])
      · have c40 : ¬ nI 8 ≤ nI j := c40
        have : j < 8 := Classical.byContradiction (fun q => c40 (nI_le (by omega) (by omega)))
        refine gs_n 49 a_X5_feed_48 rfl ?_
        refine gs_n 54 a_X5_feed_49 rfl ?_
        exact step a (by rw [if_pos this])
theorem r_feed (x : Int32) (a b : Int64) (hs : SI (P, cap, tmo, clk, cl, cut, X, sy, torn, tE, tp, an)) (w : RS h (P, cap, tmo, clk, cl, cut, X, sy, torn, tE, tp, an)) : ev (d + 1) n_X5_feed [.ref 96, .int x, .long a, .long b] h (fun u => u.1 = some (.int (F_feed (P, cap, tmo, clk, cl, cut, X, sy, torn, tE, tp, an) x a b).1) ∧ FS cM h u.2 ∧ RS u.2 (F_feed (P, cap, tmo, clk, cl, cut, X, sy, torn, tE, tp, an) x a b).2) := by
  obtain ⟨s1, s2, s3, s4, s5, s6, s7, s8, s9, hv, s11, s12, s13, htl, -⟩ := hs
  have w' : RE h P cap tmo clk cl cut X sy torn tE tp an (tS cl P X) := w
  have w0 := w'.obj
  simp only [mcell] at w0
  simp only [F_feed]
  refine ev_of q_X5_feed (Nat.le_of_ble_eq_true rfl) ?_
  refine gs_n 1 a_X5_feed_0 rfl ?_
  refine gs_k (nI 1) 2 a_X5_feed_1 (by decide +kernel) rfl ?_
  refine gs_ic 22 5 a_X5_feed_2 rfl rfl (fun c2 => ?_) (fun c2 => ?_)
  · have c2 : x < nI 1 := c2
    rw [lt_lit' (by omega)] at c2
    rw [if_neg (by omega)]
    refine gs_k (-1) 23 a_X5_feed_22 (by decide +kernel) rfl ?_
    refine gs_iret a_X5_feed_23 rfl rfl ?_
    exact ⟨rfl, FS.rf _ _, w⟩
  · have c2 : ¬ x < nI 1 := c2
    rw [lt_lit' (by omega)] at c2
    refine gs_n 6 a_X5_feed_5 rfl ?_
    refine gs_k (nI 16) 8 a_X5_feed_6 (by decide +kernel) rfl ?_
    refine gs_ic 22 11 a_X5_feed_8 rfl rfl (fun c8 => ?_) (fun c8 => ?_)
    · have c8 : nI 16 < x := c8
      rw [lt_lit (by omega)] at c8
      rw [if_neg (by omega)]
      refine gs_k (-1) 23 a_X5_feed_22 (by decide +kernel) rfl ?_
      refine gs_iret a_X5_feed_23 rfl rfl ?_
      exact ⟨rfl, FS.rf _ _, w⟩
    · have c8 : ¬ nI 16 < x := c8
      rw [lt_lit (by omega)] at c8
      have hx : x = nI (kn x) := nI_ofInt (by omega)
      have hkx : kn x ≤ 16 := by unfold kn; omega
      have hxi : x.toInt = kn x := by unfold kn; omega
      generalize hkk : kn x = m at *
      subst hx
      refine gs_n 12 a_X5_feed_11 rfl ?_
      refine gs_get 15 a_X5_feed_12 f_5_168 (by first | assumption | exact hs_same _ _ _ | exact (hs_ne _ _ (by first | assumption | decide | omega)).trans (by first | assumption | exact hs_same _ _ _ | exact (hs_ne _ _ (by first | assumption | decide | omega)).trans (by first | assumption | exact hs_same _ _ _ | exact (hs_ne _ _ (by first | assumption | decide | omega)).trans (by first | assumption | exact hs_same _ _ _ | exact (hs_ne _ _ (by first | assumption | decide | omega)).trans (by first | assumption | exact hs_same _ _ _))))) rfl rfl ?_
      refine gs_n 16 a_X5_feed_15 rfl ?_
      refine gs_n 17 a_X5_feed_16 rfl ?_
      refine gs_k (nI 40) 19 a_X5_feed_17 (by decide +kernel) rfl ?_
      rw [nI_add]
      refine gs_ic 24 22 a_X5_feed_19 rfl rfl (fun c22 => ?_) (fun c22 => ?_)
      · have c22 : nI (tp.length + m) ≤ nI 40 := c22
        rw [le_lit (by omega), nI_toInt (by omega)] at c22
        rw [if_pos (by omega)]
        refine gs_k (nI 0) 25 a_X5_feed_24 (by decide +kernel) rfl ?_
        refine gs_n 27 a_X5_feed_25 rfl ?_
        refine gs_w [(6, .int (nI 0)), (0, .ref 96), (1, .int (nI m)), (2, .long a), (4, .long b)] (by simp [ix_nd]) (by intro x hx; simp only [List.mem_cons, List.not_mem_nil, or_false] at hx; rcases hx with rfl | rfl | rfl | rfl | rfl <;> rfl) ?_
        exact l_rfeed (T := tS cl P X) a b m (by omega) hkx m 0 h (by omega) (by rw [List.range_zero, List.map_nil, List.append_nil]; exact w')
      · have c22 : ¬ nI (tp.length + m) ≤ nI 40 := c22
        rw [le_lit (by omega), nI_toInt (by omega)] at c22
        rw [if_neg (by omega)]
        refine gs_k (-1) 23 a_X5_feed_22 (by decide +kernel) rfl ?_
        refine gs_iret a_X5_feed_23 rfl rfl ?_
        exact ⟨rfl, FS.rf _ _, w⟩
end R6
