/-! The reference: open -/
section R15
variable {d : Nat} {h : ix_H} {P cap tmo clk cut sy torn : Nat} {cl : Bool} {X : List En} {tE : En} {tp an : List Nat} {n nx : Nat} {ep tx bg ba lc de mq en : Nat → Nat} {ad : Nat → Int32} {la : List (Nat × Nat × Nat)} {T : TS} {ar : Nat → Nat → Int32} {s : MS}
theorem FS.tw {h1 h2 : ix_H} (a : FS cW h h1) (b : FS cW h1 h2) : FS cW h h2 := a.trans b
theorem l_dz {h0 : ix_H} {Q : ix_O → Prop} (A : Nat → Nat → Int32) (kk : ∀ h2 g, FS cW h0 h2 → MW h2 s (va_up A 20 g) → (∀ x, x < 1100 → g x = nI 0) → gs none d mD_X5_open (49, [(0, .ref 96)], [], h2) Q) : ∀ (r i : Nat) (h : ix_H) (g : Nat → Int32), i + r = 1100 → FS cW h0 h → MW h s (va_up A 20 g) → (∀ x, x < i → g x = nI 0) → gs none d mD_X5_open (29, [(1, .int (nI i)), (0, .ref 96)], [], h) Q := by
  intro r
  induction r with
  | zero =>
    intro i h g hi hF w hg
    obtain rfl : i = 1100 := by omega
    refine gs_n 30 a_X5_open_29 rfl ?_
    refine gs_k (nI 1100) 33 a_X5_open_30 (by decide +kernel) rfl ?_
    refine gs_ic 49 36 a_X5_open_33 rfl rfl (fun c => ?_) (fun c => ?_)
    · refine gs_w [(0, .ref 96)] (by simp [ix_nd]) (by intro x hx; simp only [List.mem_cons, List.not_mem_nil, or_false] at hx; rcases hx with rfl <;> rfl) ?_
      exact kk h g hF w hg
    · exact absurd (nI_le (Nat.le_refl 1100) (by omega)) c
  | succ r ih =>
    intro i h g hi hF w hg
    have wd := w.s20' (upd g i (nI 0))
    rw [va_idem] at wd
    obtain ⟨w0, w1, w2, w3, w4, w5, w6, w7, w8, w9, w10, w11, w12, w13, w14, w15, w16, w17, w18, w19, w20, w21⟩ := w
    simp only [mcell] at w0
    rw [va_up_self] at w21
    refine gs_n 30 a_X5_open_29 rfl ?_
    refine gs_k (nI 1100) 33 a_X5_open_30 (by decide +kernel) rfl ?_
    refine gs_ic 49 36 a_X5_open_33 rfl rfl (fun c => ?_) (fun c => ?_)
    · exact absurd c (nI_ge (by omega) (by omega))
    · refine gs_n 37 a_X5_open_36 rfl ?_
      refine gs_get 40 a_X5_open_37 f_5_73 (by first | assumption | exact hs_same _ _ _ | exact (hs_ne _ _ (by first | assumption | decide | omega)).trans (by first | assumption | exact hs_same _ _ _ | exact (hs_ne _ _ (by first | assumption | decide | omega)).trans (by first | assumption | exact hs_same _ _ _ | exact (hs_ne _ _ (by first | assumption | decide | omega)).trans (by first | assumption | exact hs_same _ _ _ | exact (hs_ne _ _ (by first | assumption | decide | omega)).trans (by first | assumption | exact hs_same _ _ _))))) rfl rfl ?_
      refine gs_n 41 a_X5_open_40 rfl ?_
      refine gs_k (nI 0) 42 a_X5_open_41 (by decide +kernel) rfl ?_
      refine gs_is i 43 a_X5_open_42 (by first | assumption | exact hs_same _ _ _ | exact (hs_ne _ _ (by first | assumption | decide | omega)).trans (by first | assumption | exact hs_same _ _ _ | exact (hs_ne _ _ (by first | assumption | decide | omega)).trans (by first | assumption | exact hs_same _ _ _ | exact (hs_ne _ _ (by first | assumption | decide | omega)).trans (by first | assumption | exact hs_same _ _ _ | exact (hs_ne _ _ (by first | assumption | decide | omega)).trans (by first | assumption | exact hs_same _ _ _))))) rfl (by omega) (by omega) rfl ?_
      first | refine gs_inc _ 46 a_X5_open_43 rfl (Nat.le_of_ble_eq_true rfl) rfl ?_ | refine gs_n 46 a_X5_open_43 rfl ?_
      refine gs_n 29 a_X5_open_46 rfl ?_
      refine gs_w [(1, .int (nI (i + 1))), (0, .ref 96)] (by simp [ix_nd]) (by intro x hx; simp only [List.mem_cons, List.not_mem_nil, or_false] at hx; rcases hx with rfl | rfl <;> rfl) ?_
      refine ih (i + 1) _ _ (by omega) (hF.trans (FS.w1 _ (by omega))) wd ?_
      intro x hx
      by_cases z : x = i
      · subst z; rw [upd_s]
      · rw [upd_n (by omega)]; exact hg x (by omega)
theorem l_rep {h0 : ix_H} {Q : ix_O → Prop} (hP : P ≤ 8) (hcap : cap ≤ 4000) (hv : pv P cap X) (hb : bv P X) (kk : ∀ h2, FS cW h0 h2 → RE h2 P cap tmo clk cl cut X sy 0 tE tp an (told P X) → RDh h2 (told P X) → gs none (d + 3) mD_X5_open (83, [(0, .ref 96)], [], h2) Q) : ∀ (r j : Nat) (h : ix_H), j + r = X.length → FS cW h0 h → RE h P cap tmo clk cl cut X sy 0 tE tp an (told P (X.take j)) → RDh h (told P (X.take j)) → gs none (d + 3) mD_X5_open (51, [(1, .int (nI j)), (0, .ref 96)], [], h) Q := by
  have hlen := len42 hP hcap hv
  intro r
  induction r with
  | zero =>
    intro j h hj hF w hd
    have w0 := w.obj
    simp only [mcell] at w0
    rw [List.take_of_length_le (by omega)] at w hd
    refine gs_n 52 a_X5_open_51 rfl ?_
    refine gs_n 53 a_X5_open_52 rfl ?_
    refine gs_get 56 a_X5_open_53 f_5_106 (by first | assumption | exact hs_same _ _ _ | exact (hs_ne _ _ (by first | assumption | decide | omega)).trans (by first | assumption | exact hs_same _ _ _ | exact (hs_ne _ _ (by first | assumption | decide | omega)).trans (by first | assumption | exact hs_same _ _ _ | exact (hs_ne _ _ (by first | assumption | decide | omega)).trans (by first | assumption | exact hs_same _ _ _ | exact (hs_ne _ _ (by first | assumption | decide | omega)).trans (by first | assumption | exact hs_same _ _ _))))) rfl rfl ?_
    refine gs_ic 83 59 a_X5_open_56 rfl rfl (fun c => ?_) (fun c => ?_)
    · refine gs_w [(0, .ref 96)] (by simp [ix_nd]) (by intro x hx; simp only [List.mem_cons, List.not_mem_nil, or_false] at hx; rcases hx with rfl <;> rfl) ?_
      exact kk h hF w hd
    · exact absurd (nI_le (by omega) (by omega)) c
  | succ r ih =>
    intro j h hj hF w hd
    have hjl : j < X.length := by omega
    obtain ⟨ar, wm, hE, -⟩ := w.un
    obtain ⟨w0, w1, -⟩ := id wm
    simp only [mcell] at w0
    have g0 := (hE.2.2 j hjl).1
    have hokj := hE.2.1 _ (getD_mem hjl)
    refine gs_n 52 a_X5_open_51 rfl ?_
    refine gs_n 53 a_X5_open_52 rfl ?_
    refine gs_get 56 a_X5_open_53 f_5_106 (by first | assumption | exact hs_same _ _ _ | exact (hs_ne _ _ (by first | assumption | decide | omega)).trans (by first | assumption | exact hs_same _ _ _ | exact (hs_ne _ _ (by first | assumption | decide | omega)).trans (by first | assumption | exact hs_same _ _ _ | exact (hs_ne _ _ (by first | assumption | decide | omega)).trans (by first | assumption | exact hs_same _ _ _ | exact (hs_ne _ _ (by first | assumption | decide | omega)).trans (by first | assumption | exact hs_same _ _ _))))) rfl rfl ?_
    refine gs_ic 83 59 a_X5_open_56 rfl rfl (fun c => ?_) (fun c => ?_)
    · exact absurd c (nI_ge (by omega) (by omega))
    · refine gs_n 60 a_X5_open_59 rfl ?_
      refine gs_get 63 a_X5_open_60 f_5_9 (by first | assumption | exact hs_same _ _ _ | exact (hs_ne _ _ (by first | assumption | decide | omega)).trans (by first | assumption | exact hs_same _ _ _ | exact (hs_ne _ _ (by first | assumption | decide | omega)).trans (by first | assumption | exact hs_same _ _ _ | exact (hs_ne _ _ (by first | assumption | decide | omega)).trans (by first | assumption | exact hs_same _ _ _ | exact (hs_ne _ _ (by first | assumption | decide | omega)).trans (by first | assumption | exact hs_same _ _ _))))) rfl rfl ?_
      refine gs_n 64 a_X5_open_63 rfl ?_
      refine gs_ia j 65 a_X5_open_64 (by first | assumption | exact hs_same _ _ _ | exact (hs_ne _ _ (by first | assumption | decide | omega)).trans (by first | assumption | exact hs_same _ _ _ | exact (hs_ne _ _ (by first | assumption | decide | omega)).trans (by first | assumption | exact hs_same _ _ _ | exact (hs_ne _ _ (by first | assumption | decide | omega)).trans (by first | assumption | exact hs_same _ _ _ | exact (hs_ne _ _ (by first | assumption | decide | omega)).trans (by first | assumption | exact hs_same _ _ _))))) rfl (by omega) (by omega) rfl ?_
      rw [g0]
      refine gs_n 66 a_X5_open_65 rfl ?_
      refine gs_get 69 a_X5_open_66 f_5_87 (by first | assumption | exact hs_same _ _ _ | exact (hs_ne _ _ (by first | assumption | decide | omega)).trans (by first | assumption | exact hs_same _ _ _ | exact (hs_ne _ _ (by first | assumption | decide | omega)).trans (by first | assumption | exact hs_same _ _ _ | exact (hs_ne _ _ (by first | assumption | decide | omega)).trans (by first | assumption | exact hs_same _ _ _ | exact (hs_ne _ _ (by first | assumption | decide | omega)).trans (by first | assumption | exact hs_same _ _ _))))) rfl rfl ?_
      refine gs_ic 77 72 a_X5_open_69 rfl rfl (fun c69 => ?_) (fun c69 => ?_)
      · have c69 : ¬ nI (eF (X.getD j en0)) = nI P := c69
        rw [nI_eq (by have := hokj.1; omega) (by omega)] at c69
        have hTs : told P (X.take (j + 1)) = told P (X.take j) := by rw [take_snocE hjl, told_snoc, if_neg c69]
        first | refine gs_inc _ 80 a_X5_open_77 rfl (Nat.le_of_ble_eq_true rfl) rfl ?_ | refine gs_n 80 a_X5_open_77 rfl ?_
        refine gs_n 51 a_X5_open_80 rfl ?_
        refine gs_w [(1, .int (nI (j + 1))), (0, .ref 96)] (by simp [ix_nd]) (by intro x hx; simp only [List.mem_cons, List.not_mem_nil, or_false] at hx; rcases hx with rfl | rfl <;> rfl) ?_
        exact ih (j + 1) h (by omega) hF (by rw [hTs]; exact w) (by rw [hTs]; exact hd)
      · have c69 : nI (eF (X.getD j en0)) = nI P := Classical.byContradiction c69
        rw [nI_eq (by have := hokj.1; omega) (by omega)] at c69
        refine gs_n 73 a_X5_open_72 rfl ?_
        refine gs_n 74 a_X5_open_73 rfl ?_
        refine gs_cv 77 a_X5_open_74 k_5_202 q_X5_tells (r_tells hjl c69 hP hcap hv hb w hd) rfl rfl rfl (by simp [Value.category]) (by first | assumption | exact hs_same _ _ _ | exact (hs_ne _ _ (by first | assumption | decide | omega)).trans (by first | assumption | exact hs_same _ _ _ | exact (hs_ne _ _ (by first | assumption | decide | omega)).trans (by first | assumption | exact hs_same _ _ _ | exact (hs_ne _ _ (by first | assumption | decide | omega)).trans (by first | assumption | exact hs_same _ _ _ | exact (hs_ne _ _ (by first | assumption | decide | omega)).trans (by first | assumption | exact hs_same _ _ _))))) rfl (fun v h2 hp => ?_)
        obtain ⟨e1, hF2, w2', hd2⟩ := hp
        simp only at e1
        subst e1
        first | refine gs_inc _ 80 a_X5_open_77 rfl (Nat.le_of_ble_eq_true rfl) rfl ?_ | refine gs_n 80 a_X5_open_77 rfl ?_
        refine gs_n 51 a_X5_open_80 rfl ?_
        refine gs_w [(1, .int (nI (j + 1))), (0, .ref 96)] (by simp [ix_nd]) (by intro x hx; simp only [List.mem_cons, List.not_mem_nil, or_false] at hx; rcases hx with rfl | rfl <;> rfl) ?_
        exact ih (j + 1) h2 (by omega) (hF.trans hF2) w2' hd2
theorem finD_pv {k : Nat} (hP : P ≤ 8) (hv : pv P cap X) (hk : k < 32) (ht : (told P X).2.2.1 k ≠ 0) (hd : (told P X).2.2.2.2.2.2.2.1 k ≠ 0) : pv P cap (finX P X k) ∧ (told P (finX P X k)).2.2.2.2.2.2.2.2.2.1 = (told P X).2.2.2.2.2.2.2.2.2.1 ∧ ∀ g, RD g (told P X) → RD g (told P (finX P X k)) := by
  obtain ⟨n, ep, tx, bg, ba, ad, lc, de, mq, nx, la, en, hT⟩ := told_ex P X
  rw [hT] at ht hd ⊢
  have h1 := fin_ok hP hv hT hk ht hd
  rw [h1.2]
  refine ⟨h1.1, rfl, ?_⟩
  rintro g ⟨q1, q2⟩
  refine ⟨?_, q2⟩
  intro i hi
  by_cases z : i = k
  · subst z
    rw [va_up_self]
    intro q
    exact absurd rfl q
  · rw [va_up_ne _ _ z, va_up_ne _ _ z]
    exact q1 i hi
theorem RD.k {g : Nat → Int32} (w : RD g T) {k : Nat} (hk : k < 32) (ht : T.2.2.1 k ≠ 0) : g (T.2.2.1 k - 1) = nI (if T.2.2.2.2.2.2.2.1 k = 0 then 0 else 3 - T.2.2.2.2.2.2.2.1 k) := by
  obtain ⟨n, ep, tx, bg, ba, ad, lc, de, mq, nx, la, en⟩ := T
  exact w.1 k hk ht
theorem l_oin {h0 : ix_H} {t : Nat} {Q : ix_O → Prop} (hP : P ≤ 8) (hcap : cap ≤ 4000) (ht1 : t < 1000) : ∀ (r k c : Nat) (Y : List En) (h : ix_H), k + r = 32 → pv P cap Y → FS cW h0 h → RE h P cap tmo clk false cut Y sy 0 tE tp an (told P Y) → RDh h (told P Y) →
    (∀ h2, FS cW h0 h2 → RE h2 P cap tmo clk false cut (inn (txF P) (dueD P) (finX P) t k r Y).2 sy 0 tE tp an (told P (inn (txF P) (dueD P) (finX P) t k r Y).2) → RDh h2 (told P (inn (txF P) (dueD P) (finX P) t k r Y).2) → gs none (d + 3) mD_X5_open (151, [(0, .ref 96), (1, .int (nI (c + (inn (txF P) (dueD P) (finX P) t k r Y).1))), (2, .int (nI t))], [], h2) Q) →
    gs none (d + 3) mD_X5_open (97, [(3, .int (nI k)), (0, .ref 96), (1, .int (nI c)), (2, .int (nI t))], [], h) Q := by
  intro r
  induction r with
  | zero =>
    intro k c Y h hk hv hF w hd kk
    obtain rfl : k = 32 := by omega
    refine gs_n 98 a_X5_open_97 rfl ?_
    refine gs_k (nI 32) 100 a_X5_open_98 (by decide +kernel) rfl ?_
    refine gs_ic 151 103 a_X5_open_100 rfl rfl (fun c61 => ?_) (fun c61 => ?_)
    · refine gs_w [(0, .ref 96), (1, .int (nI c)), (2, .int (nI t))] (by simp [ix_nd]) (by intro x hx; simp only [List.mem_cons, List.not_mem_nil, or_false] at hx; rcases hx with rfl | rfl | rfl <;> rfl) ?_
      exact kk h hF w hd
    · exact absurd (nI_le (Nat.le_refl 32) (by omega)) c61
  | succ r ih =>
    intro k c Y h hk hv hF w hd kk
    have hk32 : k < 32 := by omega
    obtain ⟨ar, wm, hE, -, hTR, -, -⟩ := w.un
    obtain ⟨w0, w1, w2, w3, w4, w5, w6, w7, w8, w9, w10, w11, w12, w13, w14, w15, w16, w17, w18, w19, w20, w21⟩ := wm
    simp only [mcell] at w0
    obtain ⟨t1, t2, t3, t4, t5⟩ := hTR.k hk32
    have hTb := (T_b hv false k hk32)
    rw [tS_f] at hTb
    have skip : (decide (txF P Y k = t + 1) && dueD P Y k) = false → gs none (d + 3) mD_X5_open (145, [(3, .int (nI k)), (0, .ref 96), (1, .int (nI c)), (2, .int (nI t))], [], h) Q := by
      intro hs
      first | refine gs_inc _ 148 a_X5_open_145 rfl (Nat.le_of_ble_eq_true rfl) rfl ?_ | refine gs_n 148 a_X5_open_145 rfl ?_
      refine gs_n 97 a_X5_open_148 rfl ?_
      refine gs_w [(3, .int (nI (k + 1))), (0, .ref 96), (1, .int (nI c)), (2, .int (nI t))] (by simp [ix_nd]) (by intro x hx; simp only [List.mem_cons, List.not_mem_nil, or_false] at hx; rcases hx with rfl | rfl | rfl | rfl <;> rfl) ?_
      simp only [inn] at kk
      rw [hs, if_neg (by simp)] at kk
      exact ih (k + 1) c Y h (by omega) hv hF w hd kk
    have htx : txF P Y k = (told P Y).2.2.1 k := by unfold txF; rw [if_pos hk32]
    have hdl := de_le hv hk32
    refine gs_n 98 a_X5_open_97 rfl ?_
    refine gs_k (nI 32) 100 a_X5_open_98 (by decide +kernel) rfl ?_
    refine gs_ic 151 103 a_X5_open_100 rfl rfl (fun c61 => ?_) (fun c61 => ?_)
    · exact absurd c61 (nI_ge (by omega) (by omega))
    · refine gs_n 104 a_X5_open_103 rfl ?_
      refine gs_get 107 a_X5_open_104 f_5_43 (by first | assumption | exact hs_same _ _ _ | exact (hs_ne _ _ (by first | assumption | decide | omega)).trans (by first | assumption | exact hs_same _ _ _ | exact (hs_ne _ _ (by first | assumption | decide | omega)).trans (by first | assumption | exact hs_same _ _ _ | exact (hs_ne _ _ (by first | assumption | decide | omega)).trans (by first | assumption | exact hs_same _ _ _ | exact (hs_ne _ _ (by first | assumption | decide | omega)).trans (by first | assumption | exact hs_same _ _ _))))) rfl rfl ?_
      refine gs_n 108 a_X5_open_107 rfl ?_
      refine gs_ia k 109 a_X5_open_108 (by first | assumption | exact hs_same _ _ _ | exact (hs_ne _ _ (by first | assumption | decide | omega)).trans (by first | assumption | exact hs_same _ _ _ | exact (hs_ne _ _ (by first | assumption | decide | omega)).trans (by first | assumption | exact hs_same _ _ _ | exact (hs_ne _ _ (by first | assumption | decide | omega)).trans (by first | assumption | exact hs_same _ _ _ | exact (hs_ne _ _ (by first | assumption | decide | omega)).trans (by first | assumption | exact hs_same _ _ _))))) rfl (by omega) (by omega) rfl ?_
      rw [t3]
      refine gs_n 110 a_X5_open_109 rfl ?_
      refine gs_ic 145 113 a_X5_open_110 rfl rfl (fun c72 => ?_) (fun c72 => ?_)
      · have c72 : ¬ m1 ((told P Y).2.2.1 k) = nI t := c72
        rw [m1_nI (by omega) (by omega)] at c72
        exact skip (by rw [htx, decide_eq_false c72]; rfl)
      · have c72 : m1 ((told P Y).2.2.1 k) = nI t := Classical.byContradiction c72
        rw [m1_nI (by omega) (by omega)] at c72
        have hne : (told P Y).2.2.1 k ≠ 0 := by omega
        have hdd := (hd _ w21).k hk32 hne
        rw [c72, Nat.add_sub_cancel] at hdd
        refine gs_n 114 a_X5_open_113 rfl ?_
        refine gs_get 117 a_X5_open_114 f_5_73 (by first | assumption | exact hs_same _ _ _ | exact (hs_ne _ _ (by first | assumption | decide | omega)).trans (by first | assumption | exact hs_same _ _ _ | exact (hs_ne _ _ (by first | assumption | decide | omega)).trans (by first | assumption | exact hs_same _ _ _ | exact (hs_ne _ _ (by first | assumption | decide | omega)).trans (by first | assumption | exact hs_same _ _ _ | exact (hs_ne _ _ (by first | assumption | decide | omega)).trans (by first | assumption | exact hs_same _ _ _))))) rfl rfl ?_
        refine gs_n 118 a_X5_open_117 rfl ?_
        refine gs_ia t 119 a_X5_open_118 (by first | assumption | exact hs_same _ _ _ | exact (hs_ne _ _ (by first | assumption | decide | omega)).trans (by first | assumption | exact hs_same _ _ _ | exact (hs_ne _ _ (by first | assumption | decide | omega)).trans (by first | assumption | exact hs_same _ _ _ | exact (hs_ne _ _ (by first | assumption | decide | omega)).trans (by first | assumption | exact hs_same _ _ _ | exact (hs_ne _ _ (by first | assumption | decide | omega)).trans (by first | assumption | exact hs_same _ _ _))))) rfl (by omega) (by omega) rfl ?_
        rw [hdd]
        refine gs_if 145 122 a_X5_open_119 rfl rfl (fun c119 => ?_) (fun c119 => ?_)
        · have c119 : nI (if (told P Y).2.2.2.2.2.2.2.1 k = 0 then 0 else 3 - (told P Y).2.2.2.2.2.2.2.1 k) = nI 0 := c119
          rw [nI_eq (by split <;> omega) (by omega)] at c119
          refine skip ?_
          unfold dueD
          rw [decide_eq_true (show (told P Y).2.2.2.2.2.2.2.1 k = 0 by split at c119 <;> omega)]
          simp
        · have c119 : ¬ nI (if (told P Y).2.2.2.2.2.2.2.1 k = 0 then 0 else 3 - (told P Y).2.2.2.2.2.2.2.1 k) = nI 0 := c119
          rw [nI_eq (by split <;> omega) (by omega)] at c119
          have hde : (told P Y).2.2.2.2.2.2.2.1 k ≠ 0 := fun q => c119 (by rw [if_pos q])
          have hdue : (decide (txF P Y k = t + 1) && dueD P Y k) = true := by
            unfold dueD
            rw [htx, decide_eq_true c72, decide_eq_false hde]
            rfl
          have q3 := finD_pv hP hv hk32 hne hde
          have fin : ∀ b : Bool, (told P Y).2.2.2.2.2.2.2.1 k = (if b then 2 else 1) → gs none (d + 3) mD_X5_open (139, [(3, .int (nI k)), (0, .ref 96), (1, .int (nI c)), (2, .int (nI t))], [.int (b01 b), .int (nI k), .ref 96], h) Q := by
            intro b hb
            refine gs_cv 142 a_X5_open_139 k_5_141 q_X5_finishes (r_finX (c := b) hk32 hP hcap hv hne hb w) rfl rfl rfl (by simp [Value.category]) (by first | assumption | exact hs_same _ _ _ | exact (hs_ne _ _ (by first | assumption | decide | omega)).trans (by first | assumption | exact hs_same _ _ _ | exact (hs_ne _ _ (by first | assumption | decide | omega)).trans (by first | assumption | exact hs_same _ _ _ | exact (hs_ne _ _ (by first | assumption | decide | omega)).trans (by first | assumption | exact hs_same _ _ _ | exact (hs_ne _ _ (by first | assumption | decide | omega)).trans (by first | assumption | exact hs_same _ _ _))))) rfl (fun v h2 hp => ?_)
            obtain ⟨e1, hF2, w2'⟩ := hp
            simp only at e1
            subst e1
            first | refine gs_inc _ 145 a_X5_open_142 rfl (Nat.le_of_ble_eq_true rfl) rfl ?_ | refine gs_n 145 a_X5_open_142 rfl ?_
            first | refine gs_inc _ 148 a_X5_open_145 rfl (Nat.le_of_ble_eq_true rfl) rfl ?_ | refine gs_n 148 a_X5_open_145 rfl ?_
            refine gs_n 97 a_X5_open_148 rfl ?_
            refine gs_w [(3, .int (nI (k + 1))), (0, .ref 96), (1, .int (nI (c + 1))), (2, .int (nI t))] (by simp [ix_nd]) (by intro x hx; simp only [List.mem_cons, List.not_mem_nil, or_false] at hx; rcases hx with rfl | rfl | rfl | rfl <;> rfl) ?_
            simp only [inn] at kk
            rw [hdue, if_pos rfl] at kk
            refine ih (k + 1) (c + 1) (finX P Y k) h2 (by omega) q3.1 (hF.trans hF2.w) w2' (hd.keep hF2 q3.2.2) ?_
            intro h4 hF4 w4 hd4
            have := kk h4 hF4 w4 hd4
            rw [show c + 1 + (inn (txF P) (dueD P) (finX P) t (k + 1) r (finX P Y k)).1 = c + ((inn (txF P) (dueD P) (finX P) t (k + 1) r (finX P Y k)).1 + 1) by omega]
            exact this
          refine gs_n 123 a_X5_open_122 rfl ?_
          refine gs_n 124 a_X5_open_123 rfl ?_
          refine gs_n 125 a_X5_open_124 rfl ?_
          refine gs_get 128 a_X5_open_125 f_5_73 (by first | assumption | exact hs_same _ _ _ | exact (hs_ne _ _ (by first | assumption | decide | omega)).trans (by first | assumption | exact hs_same _ _ _ | exact (hs_ne _ _ (by first | assumption | decide | omega)).trans (by first | assumption | exact hs_same _ _ _ | exact (hs_ne _ _ (by first | assumption | decide | omega)).trans (by first | assumption | exact hs_same _ _ _ | exact (hs_ne _ _ (by first | assumption | decide | omega)).trans (by first | assumption | exact hs_same _ _ _))))) rfl rfl ?_
          refine gs_n 129 a_X5_open_128 rfl ?_
          refine gs_ia t 130 a_X5_open_129 (by first | assumption | exact hs_same _ _ _ | exact (hs_ne _ _ (by first | assumption | decide | omega)).trans (by first | assumption | exact hs_same _ _ _ | exact (hs_ne _ _ (by first | assumption | decide | omega)).trans (by first | assumption | exact hs_same _ _ _ | exact (hs_ne _ _ (by first | assumption | decide | omega)).trans (by first | assumption | exact hs_same _ _ _ | exact (hs_ne _ _ (by first | assumption | decide | omega)).trans (by first | assumption | exact hs_same _ _ _))))) rfl (by omega) (by omega) rfl ?_
          rw [hdd]
          refine gs_k (nI 1) 131 a_X5_open_130 (by decide +kernel) rfl ?_
          refine gs_ic 138 134 a_X5_open_131 rfl rfl (fun c131 => ?_) (fun c131 => ?_)
          · have c131 : ¬ nI (if (told P Y).2.2.2.2.2.2.2.1 k = 0 then 0 else 3 - (told P Y).2.2.2.2.2.2.2.1 k) = nI 1 := c131
            rw [nI_eq (by split <;> omega) (by omega), if_neg hde] at c131
            refine gs_k (nI 0) 139 a_X5_open_138 (by decide +kernel) rfl ?_
            refine gs_w [(3, .int (nI k)), (0, .ref 96), (1, .int (nI c)), (2, .int (nI t))] (by simp [ix_nd]) (by intro x hx; simp only [List.mem_cons, List.not_mem_nil, or_false] at hx; rcases hx with rfl | rfl | rfl | rfl <;> rfl) ?_
            exact fin false (by rw [if_neg (by simp)]; omega)
          · have c131 : nI (if (told P Y).2.2.2.2.2.2.2.1 k = 0 then 0 else 3 - (told P Y).2.2.2.2.2.2.2.1 k) = nI 1 := Classical.byContradiction c131
            rw [nI_eq (by split <;> omega) (by omega), if_neg hde] at c131
            refine gs_k (nI 1) 135 a_X5_open_134 (by decide +kernel) rfl ?_
            refine gs_n 139 a_X5_open_135 rfl ?_
            refine gs_w [(3, .int (nI k)), (0, .ref 96), (1, .int (nI c)), (2, .int (nI t))] (by simp [ix_nd]) (by intro x hx; simp only [List.mem_cons, List.not_mem_nil, or_false] at hx; rcases hx with rfl | rfl | rfl | rfl <;> rfl) ?_
            exact fin true (by rw [if_pos rfl]; omega)
theorem innD_pv {t : Nat} (hP : P ≤ 8) : ∀ (r k : Nat) (Y : List En), k + r ≤ 32 → pv P cap Y → pv P cap (inn (txF P) (dueD P) (finX P) t k r Y).2 ∧ (told P (inn (txF P) (dueD P) (finX P) t k r Y).2).2.2.2.2.2.2.2.2.2.1 = (told P Y).2.2.2.2.2.2.2.2.2.1 := by
  intro r
  induction r with
  | zero => intro k Y _ hv; exact ⟨hv, rfl⟩
  | succ r ih =>
    intro k Y hk hv
    simp only [inn]
    cases c : (decide (txF P Y k = t + 1) && dueD P Y k) with
    | true =>
      rw [if_pos rfl]
      rw [Bool.and_eq_true] at c
      have c1 : txF P Y k = t + 1 := of_decide_eq_true c.1
      unfold txF at c1
      rw [if_pos (by omega)] at c1
      have c2 := c.2
      unfold dueD at c2
      have q := finD_pv hP hv (by omega : k < 32) (by omega) (by simpa using c2)
      have h1 := ih (k + 1) (finX P Y k) (by omega) q.1
      exact ⟨h1.1, h1.2.trans q.2.1⟩
    | false =>
      rw [if_neg (by simp)]
      exact ih (k + 1) Y (by omega) hv
theorem l_oout {h0 : ix_H} (hP : P ≤ 8) (hcap : cap ≤ 4000) : ∀ (r t c : Nat) (Y : List En) (h : ix_H), t + r = (told P Y).2.2.2.2.2.2.2.2.2.1 → t + r ≤ 1000 → pv P cap Y → FS cW h0 h → RE h P cap tmo clk false cut Y sy 0 tE tp an (told P Y) → RDh h (told P Y) →
    gs none (d + 3) mD_X5_open (87, [(0, .ref 96), (1, .int (nI c)), (2, .int (nI t))], [], h) (fun u => u.1 = some (.int (nI (c + (outl (txF P) (dueD P) (finX P) r t Y).1))) ∧ FS cW h0 u.2 ∧ RE u.2 P cap tmo clk false cut (outl (txF P) (dueD P) (finX P) r t Y).2 sy 0 tE tp an (told P (outl (txF P) (dueD P) (finX P) r t Y).2)) := by
  intro r
  induction r with
  | zero =>
    intro t c Y h ht ht2 hv hF w hd
    have w0 := w.obj
    simp only [mcell] at w0
    refine gs_n 88 a_X5_open_87 rfl ?_
    refine gs_n 89 a_X5_open_88 rfl ?_
    refine gs_get 92 a_X5_open_89 f_5_80 (by first | assumption | exact hs_same _ _ _ | exact (hs_ne _ _ (by first | assumption | decide | omega)).trans (by first | assumption | exact hs_same _ _ _ | exact (hs_ne _ _ (by first | assumption | decide | omega)).trans (by first | assumption | exact hs_same _ _ _ | exact (hs_ne _ _ (by first | assumption | decide | omega)).trans (by first | assumption | exact hs_same _ _ _ | exact (hs_ne _ _ (by first | assumption | decide | omega)).trans (by first | assumption | exact hs_same _ _ _))))) rfl rfl ?_
    refine gs_ic 157 95 a_X5_open_92 rfl rfl (fun c44 => ?_) (fun c44 => ?_)
    · refine gs_n 158 a_X5_open_157 rfl ?_
      refine gs_iret a_X5_open_158 rfl rfl ?_
      exact ⟨rfl, hF, w⟩
    · exact absurd (nI_le (by omega) (by omega)) c44
  | succ r ih =>
    intro t c Y h ht ht2 hv hF w hd
    have w0 := w.obj
    simp only [mcell] at w0
    refine gs_n 88 a_X5_open_87 rfl ?_
    refine gs_n 89 a_X5_open_88 rfl ?_
    refine gs_get 92 a_X5_open_89 f_5_80 (by first | assumption | exact hs_same _ _ _ | exact (hs_ne _ _ (by first | assumption | decide | omega)).trans (by first | assumption | exact hs_same _ _ _ | exact (hs_ne _ _ (by first | assumption | decide | omega)).trans (by first | assumption | exact hs_same _ _ _ | exact (hs_ne _ _ (by first | assumption | decide | omega)).trans (by first | assumption | exact hs_same _ _ _ | exact (hs_ne _ _ (by first | assumption | decide | omega)).trans (by first | assumption | exact hs_same _ _ _))))) rfl rfl ?_
    refine gs_ic 157 95 a_X5_open_92 rfl rfl (fun c44 => ?_) (fun c44 => ?_)
    · exact absurd c44 (nI_ge (by omega) (by omega))
    · refine gs_k (nI 0) 96 a_X5_open_95 (by decide +kernel) rfl ?_
      refine gs_n 97 a_X5_open_96 rfl ?_
      refine gs_w [(3, .int (nI 0)), (0, .ref 96), (1, .int (nI c)), (2, .int (nI t))] (by simp [ix_nd]) (by intro x hx; simp only [List.mem_cons, List.not_mem_nil, or_false] at hx; rcases hx with rfl | rfl | rfl | rfl <;> rfl) ?_
      refine l_oin hP hcap (by omega) 32 0 c Y h (by omega) hv hF w hd ?_
      intro h2 hF2 w2 hd2
      obtain ⟨q1, q3⟩ := innD_pv (cap := cap) (t := t) hP 32 0 Y (by omega) hv
      first | refine gs_inc _ 154 a_X5_open_151 rfl (Nat.le_of_ble_eq_true rfl) rfl ?_ | refine gs_n 154 a_X5_open_151 rfl ?_
      refine gs_n 87 a_X5_open_154 rfl ?_
      refine gs_w [(0, .ref 96), (1, .int (nI (c + (inn (txF P) (dueD P) (finX P) t 0 32 Y).1))), (2, .int (nI (t + 1)))] (by simp [ix_nd]) (by intro x hx; simp only [List.mem_cons, List.not_mem_nil, or_false] at hx; rcases hx with rfl | rfl | rfl <;> rfl) ?_
      refine gs_post (ih (t + 1) _ _ h2 (by rw [q3]; omega) (by omega) q1 hF2 w2 hd2) ?_
      rintro u ⟨e1, e2, e3⟩
      simp only [outl]
      refine ⟨?_, e2, e3⟩
      rw [e1, Nat.add_assoc]
theorem r_open (hs : SI (P, cap, tmo, clk, cl, cut, X, sy, torn, tE, tp, an)) (hb : bv P X) (w : RS h (P, cap, tmo, clk, cl, cut, X, sy, torn, tE, tp, an)) : ev (d + 4) n_X5_open [.ref 96] h (fun u => u.1 = some (.int (F_open (P, cap, tmo, clk, cl, cut, X, sy, torn, tE, tp, an)).1) ∧ FS cW h u.2 ∧ RS u.2 (F_open (P, cap, tmo, clk, cl, cut, X, sy, torn, tE, tp, an)).2) := by
  obtain ⟨s1, s2, s3, s4, s5, s6, s7, s8, s9, hv, s11, s12, s13, s14, s15, s16, s17, s18⟩ := hs
  have w' : RE h P cap tmo clk cl cut X sy torn tE tp an (tS cl P X) := w
  obtain ⟨ar, wm, hE, hto, hTR, h18, h19⟩ := w'.un
  have w0 := wm.1
  simp only [mcell] at w0
  simp only [F_open]
  refine ev_of q_X5_open (Nat.le_of_ble_eq_true rfl) ?_
  refine gs_n 1 a_X5_open_0 rfl ?_
  refine gs_get 4 a_X5_open_1 f_5_99 (by first | assumption | exact hs_same _ _ _ | exact (hs_ne _ _ (by first | assumption | decide | omega)).trans (by first | assumption | exact hs_same _ _ _ | exact (hs_ne _ _ (by first | assumption | decide | omega)).trans (by first | assumption | exact hs_same _ _ _ | exact (hs_ne _ _ (by first | assumption | decide | omega)).trans (by first | assumption | exact hs_same _ _ _ | exact (hs_ne _ _ (by first | assumption | decide | omega)).trans (by first | assumption | exact hs_same _ _ _))))) rfl rfl ?_
  refine gs_if 9 7 a_X5_open_4 rfl rfl (fun c4 => ?_) (fun c4 => ?_)
  · have c4 := (b01_ne _).mp c4
    subst c4
    rw [if_neg (by simp)]
    have hTR0 : TR ar T0 := hTR
    have wd := ((wm.obj (P, cap, tmo, clk, false, cut, X.length, sy, torn, 0, 0, tp.length, an.length)).obj (P, cap, tmo, clk, false, torn, X.length, sy, torn, 0, 0, tp.length, an.length)).obj (P, cap, tmo, clk, false, torn, X.length, sy, 0, 0, 0, tp.length, an.length)
    have wid : va_up ar 20 (ar 20) = ar := by
      funext q
      by_cases z : q = 20
      · subst z; rw [va_up_self]
      · rw [va_up_ne _ _ z]
    rw [← wid] at wd
    have hnx : (told P X).2.2.2.2.2.2.2.2.2.1 ≤ 1000 := by
      obtain ⟨n, ep, tx, bg, ba, ad, lc, de, mq, nx, la, en, hT⟩ := told_ex P X
      have hg : GT P cap X (n, ep, tx, bg, ba, ad, lc, de, mq, nx, la, en) := hT ▸ pv_all hv
      rw [hT]
      have q1 := hg.1.2.1
      have q2 := hg.2.2.2.2.1
      show nx ≤ 1000
      omega
    have main := fun kk => l_dz (d := d + 3) (h0 := h) (s := (P, cap, tmo, clk, false, torn, X.length, sy, 0, 0, 0, tp.length, an.length)) (Q := fun u => u.1 = some (.int (nI (ovr (txF P) (dueD P) (finX P) 32 X).1)) ∧ FS cW h u.2 ∧ RS u.2 (P, cap, tmo, clk, false, torn, (ovr (txF P) (dueD P) (finX P) 32 X).2, sy, 0, tE, tp, an)) ar kk 1100 0 _ (ar 20) (by omega) (((FS.m _ (by omega)).trans (FS.m _ (by omega))).trans (FS.m _ (by omega))).w wd (fun x hx => absurd hx (by omega))
    refine gs_n 10 a_X5_open_9 rfl ?_
    refine gs_k (nI 0) 11 a_X5_open_10 (by decide +kernel) rfl ?_
    refine gs_put 14 _ a_X5_open_11 f_5_99 (by first | assumption | exact hs_same _ _ _ | exact (hs_ne _ _ (by first | assumption | decide | omega)).trans (by first | assumption | exact hs_same _ _ _ | exact (hs_ne _ _ (by first | assumption | decide | omega)).trans (by first | assumption | exact hs_same _ _ _ | exact (hs_ne _ _ (by first | assumption | decide | omega)).trans (by first | assumption | exact hs_same _ _ _ | exact (hs_ne _ _ (by first | assumption | decide | omega)).trans (by first | assumption | exact hs_same _ _ _))))) (Nat.le_of_ble_eq_true rfl) rfl (fun z => absurd z (by decide)) rfl rfl ?_
    refine gs_n 15 a_X5_open_14 rfl ?_
    refine gs_n 16 a_X5_open_15 rfl ?_
    refine gs_get 19 a_X5_open_16 f_5_112 (by first | assumption | exact hs_same _ _ _ | exact (hs_ne _ _ (by first | assumption | decide | omega)).trans (by first | assumption | exact hs_same _ _ _ | exact (hs_ne _ _ (by first | assumption | decide | omega)).trans (by first | assumption | exact hs_same _ _ _ | exact (hs_ne _ _ (by first | assumption | decide | omega)).trans (by first | assumption | exact hs_same _ _ _ | exact (hs_ne _ _ (by first | assumption | decide | omega)).trans (by first | assumption | exact hs_same _ _ _))))) rfl rfl ?_
    refine gs_put 22 _ a_X5_open_19 f_5_103 (by first | assumption | exact hs_same _ _ _ | exact (hs_ne _ _ (by first | assumption | decide | omega)).trans (by first | assumption | exact hs_same _ _ _ | exact (hs_ne _ _ (by first | assumption | decide | omega)).trans (by first | assumption | exact hs_same _ _ _ | exact (hs_ne _ _ (by first | assumption | decide | omega)).trans (by first | assumption | exact hs_same _ _ _ | exact (hs_ne _ _ (by first | assumption | decide | omega)).trans (by first | assumption | exact hs_same _ _ _))))) (Nat.le_of_ble_eq_true rfl) rfl (fun z => absurd z (by decide)) rfl rfl ?_
    refine gs_n 23 a_X5_open_22 rfl ?_
    refine gs_k (nI 0) 24 a_X5_open_23 (by decide +kernel) rfl ?_
    refine gs_put 27 _ a_X5_open_24 f_5_112 (by first | assumption | exact hs_same _ _ _ | exact (hs_ne _ _ (by first | assumption | decide | omega)).trans (by first | assumption | exact hs_same _ _ _ | exact (hs_ne _ _ (by first | assumption | decide | omega)).trans (by first | assumption | exact hs_same _ _ _ | exact (hs_ne _ _ (by first | assumption | decide | omega)).trans (by first | assumption | exact hs_same _ _ _ | exact (hs_ne _ _ (by first | assumption | decide | omega)).trans (by first | assumption | exact hs_same _ _ _))))) (Nat.le_of_ble_eq_true rfl) rfl (fun z => absurd z (by decide)) rfl rfl ?_
    refine gs_k (nI 0) 28 a_X5_open_27 (by decide +kernel) rfl ?_
    refine gs_n 29 a_X5_open_28 rfl ?_
    refine gs_w [(1, .int (nI 0)), (0, .ref 96)] (by simp [ix_nd]) (by intro x hx; simp only [List.mem_cons, List.not_mem_nil, or_false] at hx; rcases hx with rfl | rfl <;> rfl) ?_
    refine main ?_
    intro h2 g hF2 w2 hg
    have k0 := w2.1
    simp only [mcell] at k0
    refine gs_k (nI 0) 50 a_X5_open_49 (by decide +kernel) rfl ?_
    refine gs_n 51 a_X5_open_50 rfl ?_
    refine gs_w [(1, .int (nI 0)), (0, .ref 96)] (by simp [ix_nd]) (by intro x hx; simp only [List.mem_cons, List.not_mem_nil, or_false] at hx; rcases hx with rfl | rfl <;> rfl) ?_
    refine l_rep (h0 := h) (tE := tE) (cl := false) (cut := torn) (tmo := tmo) (clk := clk) (sy := sy) (tp := tp) (an := an) s2 s4 hv hb ?_ X.length 0 h2 (by omega) hF2 ?_ ?_
    · intro h3 hF3 w3 hd3
      have k3 := w3.obj
      simp only [mcell] at k3
      refine gs_k (nI 0) 84 a_X5_open_83 (by decide +kernel) rfl ?_
      refine gs_n 85 a_X5_open_84 rfl ?_
      refine gs_k (nI 0) 86 a_X5_open_85 (by decide +kernel) rfl ?_
      refine gs_n 87 a_X5_open_86 rfl ?_
      refine gs_w [(0, .ref 96), (1, .int (nI 0)), (2, .int (nI 0))] (by simp [ix_nd]) (by intro x hx; simp only [List.mem_cons, List.not_mem_nil, or_false] at hx; rcases hx with rfl | rfl | rfl <;> rfl) ?_
      refine gs_post (l_oout (h0 := h) s2 s4 _ 0 0 X h3 (Nat.zero_add _) (by omega) hv hF3 w3 hd3) ?_
      rintro u ⟨e1, e2, e3⟩
      rw [open_eq s2 hv] at e1 e3
      rw [Nat.zero_add] at e1
      exact ⟨e1, e2, e3⟩
    · refine ⟨_, w2, EA_up (by omega) hE, fun z => absurd z (by omega), TR_20 (T := T0) hTR0, ?_, ?_⟩
      · intro i hi
        rw [va_up_ne _ _ (by decide)]
        exact h18 i hi
      · intro i hi
        rw [va_up_ne _ _ (by decide)]
        exact h19 i hi
    · intro g' hg'
      have w21 := w2.2.2.2.2.2.2.2.2.2.2.2.2.2.2.2.2.2.2.2.2.2
      rw [va_up_self] at w21
      have := inl_inj w21 hg'
      subst this
      exact ⟨fun k hk q => absurd rfl q, fun t _ ht => hg t ht⟩
  · have c4 : cl = false := (b01_0 _).mp (Classical.byContradiction c4)
    rw [if_pos c4]
    refine gs_k (-1) 8 a_X5_open_7 (by decide +kernel) rfl ?_
    refine gs_iret a_X5_open_8 rfl rfl ?_
    exact ⟨rfl, FS.rf _ _, w⟩
end R15
