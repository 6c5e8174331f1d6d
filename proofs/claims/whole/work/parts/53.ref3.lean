/-! The reference: finishes, ends, register, begin, end -/
section R3
variable {d : Nat} {h : ix_H} {P cap tmo clk cut sy torn : Nat} {cl : Bool} {X : List En} {tE : En} {tp an : List Nat} {n nx : Nat} {ep tx bg ba lc de mq en : Nat → Nat} {ad : Nat → Int32} {la : List (Nat × Nat × Nat)} {T : TS} {s : MS} {ar : Nat → Nat → Int32}
theorem RE.un (w : RE h P cap tmo clk cl cut X sy torn tE tp an T) : ∃ ar, MW h (P, cap, tmo, clk, cl, cut, X.length, sy, torn, T.2.2.2.2.2.2.2.2.2.1, T.2.2.2.2.2.2.2.2.2.2.1.length, tp.length, an.length) ar ∧ EA P ar X ∧ (0 < torn → AtA ar X.length tE) ∧ TR ar T ∧ (∀ i, i < tp.length → ar 18 i = sg (tp.getD i 0)) ∧ (∀ i, i < an.length → ar 19 i = sg (an.getD i 0)) := by
  obtain ⟨n, ep, tx, bg, ba, ad, lc, de, mq, nx, la, en⟩ := T
  exact w
theorem RE.mk' (w : MW h (P, cap, tmo, clk, cl, cut, X.length, sy, torn, T.2.2.2.2.2.2.2.2.2.1, T.2.2.2.2.2.2.2.2.2.2.1.length, tp.length, an.length) ar) (h1 : EA P ar X) (h2 : 0 < torn → AtA ar X.length tE) (h3 : TR ar T) (h4 : ∀ i, i < tp.length → ar 18 i = sg (tp.getD i 0)) (h5 : ∀ i, i < an.length → ar 19 i = sg (an.getD i 0)) : RE h P cap tmo clk cl cut X sy torn tE tp an T := by
  obtain ⟨n, ep, tx, bg, ba, ad, lc, de, mq, nx, la, en⟩ := T
  exact ⟨ar, w, h1, h2, h3, h4, h5⟩
theorem TR.k (w : TR ar T) {k : Nat} (hk : k < 32) : ar 8 k = b01 (!decide (T.2.1 k = 0)) ∧ (T.2.1 k ≠ 0 → ar 9 k = nI (T.2.1 k - 1)) ∧ ar 10 k = m1 (T.2.2.1 k) ∧ (T.2.2.1 k ≠ 0 → ar 11 k = m1 (T.2.2.2.1 k)) ∧ ar 12 k = T.2.2.2.2.2.1 k := by
  obtain ⟨n, ep, tx, bg, ba, ad, lc, de, mq, nx, la, en⟩ := T
  exact w.1 k hk
theorem TR.m (w : TR ar T) {i : Nat} (hi : i < 64) : ar 13 i = m1 (T.2.2.2.2.2.2.2.2.1 i) := by
  obtain ⟨n, ep, tx, bg, ba, ad, lc, de, mq, nx, la, en⟩ := T
  exact w.2.1 i hi
theorem hEnd_take {Y : List En} {p t j : Nat} (h : j < Y.length) : hEnd p (Y.take (j + 1)) t = (hEnd p (Y.take j) t || (decide (eF (Y.getD j en0) = p) && endOf t (Y.getD j en0))) := by
  rw [take_snocE h, hEnd_s]
theorem l_has {a1 a2 a3 : Nat} {a4 : Bool} {a5 a7 a8 a9 a10 a11 a12 : Nat} {p k t : Nat} {c : Int32} {Q : ix_O → Prop} (hp : p < 8) (ht : t < 2 ^ 30) (hE : EA P ar X) (w : MW h (P, a1, a2, a3, a4, a5, X.length, a7, a8, a9, a10, a11, a12) ar) (kk : gs none d mD_X5_finishes (86, [(4, .int (nI p)), (5, .int (b01 (hEnd p X t))), (0, .ref 96), (1, .int (nI k)), (2, .int c), (3, .int (nI t))], [], h) Q) : ∀ (r j : Nat), j + r = X.length →
    gs none d mD_X5_finishes (25, [(6, .int (nI j)), (4, .int (nI p)), (5, .int (b01 (hEnd p (X.take j) t))), (0, .ref 96), (1, .int (nI k)), (2, .int c), (3, .int (nI t))], [], h) Q := by
  obtain ⟨hl, hok, ha⟩ := hE
  obtain ⟨w0, w1, w2, w3, w4, w5, w6, -⟩ := id w
  simp only [mcell] at w0
  intro r
  induction r with
  | zero =>
    intro j hj
    refine gs_n 27 a_X5_finishes_25 rfl ?_
    refine gs_n 28 a_X5_finishes_27 rfl ?_
    refine gs_get 31 a_X5_finishes_28 f_5_106 (by first | assumption | exact hs_same _ _ _ | exact (hs_ne _ _ (by first | assumption | decide | omega)).trans (by first | assumption | exact hs_same _ _ _ | exact (hs_ne _ _ (by first | assumption | decide | omega)).trans (by first | assumption | exact hs_same _ _ _ | exact (hs_ne _ _ (by first | assumption | decide | omega)).trans (by first | assumption | exact hs_same _ _ _ | exact (hs_ne _ _ (by first | assumption | decide | omega)).trans (by first | assumption | exact hs_same _ _ _))))) rfl rfl ?_
    refine gs_ic 86 34 a_X5_finishes_31 rfl rfl (fun cz => ?_) (fun cz => ?_)
    · rw [List.take_of_length_le (by omega)]
      refine gs_w [(4, .int (nI p)), (5, .int (b01 (hEnd p X t))), (0, .ref 96), (1, .int (nI k)), (2, .int c), (3, .int (nI t))] (by simp [ix_nd]) (by intro x hx; simp only [List.mem_cons, List.not_mem_nil, or_false] at hx; rcases hx with rfl | rfl | rfl | rfl | rfl | rfl <;> rfl) ?_
      exact kk
    · exact absurd (nI_le (by omega) (by omega)) cz
  | succ r ih =>
    intro j hj
    have hjl : j < X.length := by omega
    obtain ⟨g0, g1, g2, g3, g4, -⟩ := ha j hjl
    have hk := hok _ (getD_mem hjl)
    have nextI : ∀ b, b = hEnd p (X.take (j + 1)) t → gs none d mD_X5_finishes (78, [(6, .int (nI j)), (4, .int (nI p)), (5, .int (b01 (hEnd p (X.take j) t))), (0, .ref 96), (1, .int (nI k)), (2, .int c), (3, .int (nI t))], [.int (b01 b)], h) Q := by
      intro b hb
      refine gs_n 80 a_X5_finishes_78 rfl ?_
      first | refine gs_inc _ 83 a_X5_finishes_80 rfl (Nat.le_of_ble_eq_true rfl) rfl ?_ | refine gs_n 83 a_X5_finishes_80 rfl ?_
      refine gs_n 25 a_X5_finishes_83 rfl ?_
      refine gs_w [(6, .int (nI (j + 1))), (4, .int (nI p)), (5, .int (b01 b)), (0, .ref 96), (1, .int (nI k)), (2, .int c), (3, .int (nI t))] (by simp [ix_nd]) (by intro x hx; simp only [List.mem_cons, List.not_mem_nil, or_false] at hx; rcases hx with rfl | rfl | rfl | rfl | rfl | rfl | rfl <;> rfl) ?_
      rw [hb]
      exact ih (j + 1) (by omega)
    rw [hEnd_take hjl] at nextI
    refine gs_n 27 a_X5_finishes_25 rfl ?_
    refine gs_n 28 a_X5_finishes_27 rfl ?_
    refine gs_get 31 a_X5_finishes_28 f_5_106 (by first | assumption | exact hs_same _ _ _ | exact (hs_ne _ _ (by first | assumption | decide | omega)).trans (by first | assumption | exact hs_same _ _ _ | exact (hs_ne _ _ (by first | assumption | decide | omega)).trans (by first | assumption | exact hs_same _ _ _ | exact (hs_ne _ _ (by first | assumption | decide | omega)).trans (by first | assumption | exact hs_same _ _ _ | exact (hs_ne _ _ (by first | assumption | decide | omega)).trans (by first | assumption | exact hs_same _ _ _))))) rfl rfl ?_
    refine gs_ic 86 34 a_X5_finishes_31 rfl rfl (fun cz => ?_) (fun cz => ?_)
    · exact absurd cz (nI_ge (by omega) (by omega))
    · refine gs_n 36 a_X5_finishes_34 rfl ?_
      refine gs_if 73 39 a_X5_finishes_36 rfl rfl (fun c36 => ?_) (fun c36 => ?_)
      · have c36 := (b01_ne _).mp c36
        refine gs_k (nI 1) 74 a_X5_finishes_73 (by decide +kernel) rfl ?_
        refine gs_n 78 a_X5_finishes_74 rfl ?_
        exact nextI true (by rw [c36]; rfl)
      · have c36 : hEnd p (X.take j) t = false := (b01_0 _).mp (Classical.byContradiction c36)
        rw [c36, Bool.false_or] at nextI
        rw [c36]
        refine gs_n 40 a_X5_finishes_39 rfl ?_
        refine gs_get 43 a_X5_finishes_40 f_5_9 (by first | assumption | exact hs_same _ _ _ | exact (hs_ne _ _ (by first | assumption | decide | omega)).trans (by first | assumption | exact hs_same _ _ _ | exact (hs_ne _ _ (by first | assumption | decide | omega)).trans (by first | assumption | exact hs_same _ _ _ | exact (hs_ne _ _ (by first | assumption | decide | omega)).trans (by first | assumption | exact hs_same _ _ _ | exact (hs_ne _ _ (by first | assumption | decide | omega)).trans (by first | assumption | exact hs_same _ _ _))))) rfl rfl ?_
        refine gs_n 45 a_X5_finishes_43 rfl ?_
        refine gs_ia j 46 a_X5_finishes_45 (by first | assumption | exact hs_same _ _ _ | exact (hs_ne _ _ (by first | assumption | decide | omega)).trans (by first | assumption | exact hs_same _ _ _ | exact (hs_ne _ _ (by first | assumption | decide | omega)).trans (by first | assumption | exact hs_same _ _ _ | exact (hs_ne _ _ (by first | assumption | decide | omega)).trans (by first | assumption | exact hs_same _ _ _ | exact (hs_ne _ _ (by first | assumption | decide | omega)).trans (by first | assumption | exact hs_same _ _ _))))) rfl (by omega) (by omega) rfl ?_
        rw [g0]
        refine gs_n 48 a_X5_finishes_46 rfl ?_
        refine gs_ic 77 51 a_X5_finishes_48 rfl rfl (fun c48 => ?_) (fun c48 => ?_)
        · have c48 : ¬ nI (eF (X.getD j en0)) = nI p := c48
          rw [nI_eq (by have := hk.1; omega) (by omega)] at c48
          refine gs_k (nI 0) 78 a_X5_finishes_77 (by decide +kernel) rfl ?_
          exact nextI false (by rw [decide_eq_false c48]; rfl)
        · have c48 : nI (eF (X.getD j en0)) = nI p := Classical.byContradiction c48
          rw [nI_eq (by have := hk.1; omega) (by omega)] at c48
          rw [decide_eq_true c48, Bool.true_and] at nextI
          unfold endOf at nextI
          refine gs_n 52 a_X5_finishes_51 rfl ?_
          refine gs_get 55 a_X5_finishes_52 f_5_13 (by first | assumption | exact hs_same _ _ _ | exact (hs_ne _ _ (by first | assumption | decide | omega)).trans (by first | assumption | exact hs_same _ _ _ | exact (hs_ne _ _ (by first | assumption | decide | omega)).trans (by first | assumption | exact hs_same _ _ _ | exact (hs_ne _ _ (by first | assumption | decide | omega)).trans (by first | assumption | exact hs_same _ _ _ | exact (hs_ne _ _ (by first | assumption | decide | omega)).trans (by first | assumption | exact hs_same _ _ _))))) rfl rfl ?_
          refine gs_n 57 a_X5_finishes_55 rfl ?_
          refine gs_ia j 58 a_X5_finishes_57 (by first | assumption | exact hs_same _ _ _ | exact (hs_ne _ _ (by first | assumption | decide | omega)).trans (by first | assumption | exact hs_same _ _ _ | exact (hs_ne _ _ (by first | assumption | decide | omega)).trans (by first | assumption | exact hs_same _ _ _ | exact (hs_ne _ _ (by first | assumption | decide | omega)).trans (by first | assumption | exact hs_same _ _ _ | exact (hs_ne _ _ (by first | assumption | decide | omega)).trans (by first | assumption | exact hs_same _ _ _))))) rfl (by omega) (by omega) rfl ?_
          rw [g1]
          refine gs_k (nI 1) 59 a_X5_finishes_58 (by decide +kernel) rfl ?_
          refine gs_ic 77 62 a_X5_finishes_59 rfl rfl (fun c59 => ?_) (fun c59 => ?_)
          · have c59 : nI (eK (X.getD j en0)) ≤ nI 1 := c59
            rw [le_lit (by omega), nI_toInt (by have := hk.2.1; omega)] at c59
            refine gs_k (nI 0) 78 a_X5_finishes_77 (by decide +kernel) rfl ?_
            exact nextI false (by rw [decide_eq_true (show eK (X.getD j en0) ≤ 1 by omega)]; rfl)
          · have c59 : ¬ nI (eK (X.getD j en0)) ≤ nI 1 := c59
            rw [le_lit (by omega), nI_toInt (by have := hk.2.1; omega)] at c59
            rw [decide_eq_false (show ¬ eK (X.getD j en0) ≤ 1 by omega)] at nextI
            refine gs_n 63 a_X5_finishes_62 rfl ?_
            refine gs_get 66 a_X5_finishes_63 f_5_22 (by first | assumption | exact hs_same _ _ _ | exact (hs_ne _ _ (by first | assumption | decide | omega)).trans (by first | assumption | exact hs_same _ _ _ | exact (hs_ne _ _ (by first | assumption | decide | omega)).trans (by first | assumption | exact hs_same _ _ _ | exact (hs_ne _ _ (by first | assumption | decide | omega)).trans (by first | assumption | exact hs_same _ _ _ | exact (hs_ne _ _ (by first | assumption | decide | omega)).trans (by first | assumption | exact hs_same _ _ _))))) rfl rfl ?_
            refine gs_n 68 a_X5_finishes_66 rfl ?_
            refine gs_ia j 69 a_X5_finishes_68 (by first | assumption | exact hs_same _ _ _ | exact (hs_ne _ _ (by first | assumption | decide | omega)).trans (by first | assumption | exact hs_same _ _ _ | exact (hs_ne _ _ (by first | assumption | decide | omega)).trans (by first | assumption | exact hs_same _ _ _ | exact (hs_ne _ _ (by first | assumption | decide | omega)).trans (by first | assumption | exact hs_same _ _ _ | exact (hs_ne _ _ (by first | assumption | decide | omega)).trans (by first | assumption | exact hs_same _ _ _))))) rfl (by omega) (by omega) rfl ?_
            rw [g4]
            refine gs_n 70 a_X5_finishes_69 rfl ?_
            refine gs_ic 77 73 a_X5_finishes_70 rfl rfl (fun c70 => ?_) (fun c70 => ?_)
            · have c70 : ¬ nI (eA (X.getD j en0)) = nI t := c70
              rw [nI_eq hk.2.2.2.2.1 (by omega)] at c70
              refine gs_k (nI 0) 78 a_X5_finishes_77 (by decide +kernel) rfl ?_
              exact nextI false (by rw [decide_eq_false c70]; rfl)
            · have c70 : nI (eA (X.getD j en0)) = nI t := Classical.byContradiction c70
              rw [nI_eq hk.2.2.2.2.1 (by omega)] at c70
              refine gs_k (nI 1) 74 a_X5_finishes_73 (by decide +kernel) rfl ?_
              refine gs_n 78 a_X5_finishes_74 rfl ?_
              exact nextI true (by rw [decide_eq_true c70]; rfl)
theorem l_finishes {k : Nat} {c : Bool} (hk : k < 32) (ht : tx k ≠ 0) (hd : de k = (if c then 2 else 1)) (hcap : cap ≤ 4000) (hP : P ≤ 8) : ∀ (j p : Nat) (Y : List En) (h : ix_H), p + j = P → pv P cap Y → told P Y = (n, ep, tx, bg, ba, ad, lc, de, mq, nx, la, en) → RE h P cap tmo clk cl cut Y sy 0 tE tp an (n, ep, tx, bg, ba, ad, lc, de, mq, nx, la, en) →
    gs none (d + 2) mD_X5_finishes (10, [(4, .int (nI p)), (0, .ref 96), (1, .int (nI k)), (2, .int (b01 c)), (3, .int (nI (tx k - 1)))], [], h) (fun u => u.1 = none ∧ FS cM h u.2 ∧ RE u.2 P cap tmo clk cl cut (finR (ep k - 1) (tx k - 1) (4 - de k) k (ad k) p j Y ++ [(P, 5, k, ep k - 1, 0, tx k - 1, 0, [])]) sy 0 tE tp an (tell (n, ep, tx, bg, ba, ad, lc, de, mq, nx, la, en) (P, 5, k, ep k - 1, 0, tx k - 1, 0, []))) := by
  intro j
  induction j with
  | zero =>
    intro p Y h hp hv hT w
    have hg : GT P cap Y (n, ep, tx, bg, ba, ad, lc, de, mq, nx, la, en) := hT ▸ pv_all hv
    have hr := hg.2.2.2.2.1
    have hlen := len42 hP hcap hv
    obtain ⟨a1, a2, a3, a4, a5, a6, a7, a8⟩ := hg.1
    obtain ⟨b1, b2, b3, b4, b5, b6, b7⟩ := a5 k hk
    have hep0 := (b6 ht).1
    obtain ⟨ar, wm, hE, -, hTR, -, -⟩ := id w
    obtain ⟨t1, t2, t3, t4, t5⟩ := hTR.1 k hk
    obtain ⟨w0, w1, w2, w3, w4, w5, w6, w7, w8, w9, w10, -⟩ := wm
    simp only [mcell] at w0
    refine gs_n 12 a_X5_finishes_10 rfl ?_
    refine gs_n 13 a_X5_finishes_12 rfl ?_
    refine gs_get 16 a_X5_finishes_13 f_5_87 (by first | assumption | exact hs_same _ _ _ | exact (hs_ne _ _ (by first | assumption | decide | omega)).trans (by first | assumption | exact hs_same _ _ _ | exact (hs_ne _ _ (by first | assumption | decide | omega)).trans (by first | assumption | exact hs_same _ _ _ | exact (hs_ne _ _ (by first | assumption | decide | omega)).trans (by first | assumption | exact hs_same _ _ _ | exact (hs_ne _ _ (by first | assumption | decide | omega)).trans (by first | assumption | exact hs_same _ _ _))))) rfl rfl ?_
    refine gs_ic 138 19 a_X5_finishes_16 rfl rfl (fun c16 => ?_) (fun c16 => ?_)
    · refine gs_n 139 a_X5_finishes_138 rfl ?_
      refine gs_n 140 a_X5_finishes_139 rfl ?_
      refine gs_get 143 a_X5_finishes_140 f_5_87 (by first | assumption | exact hs_same _ _ _ | exact (hs_ne _ _ (by first | assumption | decide | omega)).trans (by first | assumption | exact hs_same _ _ _ | exact (hs_ne _ _ (by first | assumption | decide | omega)).trans (by first | assumption | exact hs_same _ _ _ | exact (hs_ne _ _ (by first | assumption | decide | omega)).trans (by first | assumption | exact hs_same _ _ _ | exact (hs_ne _ _ (by first | assumption | decide | omega)).trans (by first | assumption | exact hs_same _ _ _))))) rfl rfl ?_
      refine gs_k (nI 5) 144 a_X5_finishes_143 (by decide +kernel) rfl ?_
      refine gs_n 145 a_X5_finishes_144 rfl ?_
      refine gs_n 146 a_X5_finishes_145 rfl ?_
      refine gs_get 149 a_X5_finishes_146 f_5_40 (by first | assumption | exact hs_same _ _ _ | exact (hs_ne _ _ (by first | assumption | decide | omega)).trans (by first | assumption | exact hs_same _ _ _ | exact (hs_ne _ _ (by first | assumption | decide | omega)).trans (by first | assumption | exact hs_same _ _ _ | exact (hs_ne _ _ (by first | assumption | decide | omega)).trans (by first | assumption | exact hs_same _ _ _ | exact (hs_ne _ _ (by first | assumption | decide | omega)).trans (by first | assumption | exact hs_same _ _ _))))) rfl rfl ?_
      refine gs_n 150 a_X5_finishes_149 rfl ?_
      refine gs_ia k 151 a_X5_finishes_150 (by first | assumption | exact hs_same _ _ _ | exact (hs_ne _ _ (by first | assumption | decide | omega)).trans (by first | assumption | exact hs_same _ _ _ | exact (hs_ne _ _ (by first | assumption | decide | omega)).trans (by first | assumption | exact hs_same _ _ _ | exact (hs_ne _ _ (by first | assumption | decide | omega)).trans (by first | assumption | exact hs_same _ _ _ | exact (hs_ne _ _ (by first | assumption | decide | omega)).trans (by first | assumption | exact hs_same _ _ _))))) rfl (by omega) (by omega) rfl ?_
      rw [t2 hep0]
      refine gs_k (nI 0) 152 a_X5_finishes_151 (by decide +kernel) rfl ?_
      refine gs_n 153 a_X5_finishes_152 rfl ?_
      refine gs_cv 156 a_X5_finishes_153 k_5_129 q_X5_add (r_add P 5 k (ep k - 1) 0 (tx k - 1) (by omega) (okE_book hP (by omega) hk (by omega) (by omega) (by omega) (by omega)).1 w) rfl rfl rfl (by simp [Value.category]) (by first | assumption | exact hs_same _ _ _ | exact (hs_ne _ _ (by first | assumption | decide | omega)).trans (by first | assumption | exact hs_same _ _ _ | exact (hs_ne _ _ (by first | assumption | decide | omega)).trans (by first | assumption | exact hs_same _ _ _ | exact (hs_ne _ _ (by first | assumption | decide | omega)).trans (by first | assumption | exact hs_same _ _ _ | exact (hs_ne _ _ (by first | assumption | decide | omega)).trans (by first | assumption | exact hs_same _ _ _))))) rfl (fun v h2 hp => ?_)
      obtain ⟨e1, hF, w2'⟩ := hp
      simp only at e1
      subst e1
      have w02 := w2'.obj
      simp only [mcell] at w02
      refine gs_n 158 a_X5_finishes_156 rfl ?_
      refine gs_n 159 a_X5_finishes_158 rfl ?_
      refine gs_n 160 a_X5_finishes_159 rfl ?_
      refine gs_n 161 a_X5_finishes_160 rfl ?_
      refine gs_cv 164 a_X5_finishes_161 k_5_133 q_X5_closes (r_closes c hk ht b2 (by omega) (fun i hi q => a6 i k hi hk q (by omega)) a7 (by omega) w2') rfl rfl rfl (by simp [Value.category]) (by first | assumption | exact hs_same _ _ _ | exact (hs_ne _ _ (by first | assumption | decide | omega)).trans (by first | assumption | exact hs_same _ _ _ | exact (hs_ne _ _ (by first | assumption | decide | omega)).trans (by first | assumption | exact hs_same _ _ _ | exact (hs_ne _ _ (by first | assumption | decide | omega)).trans (by first | assumption | exact hs_same _ _ _ | exact (hs_ne _ _ (by first | assumption | decide | omega)).trans (by first | assumption | exact hs_same _ _ _))))) rfl (fun v h3 hp => ?_)
      obtain ⟨e1, hF3, w3'⟩ := hp
      simp only at e1
      subst e1
      refine gs_vret a_X5_finishes_164 rfl ?_
      refine ⟨rfl, hF.trans hF3, ?_⟩
      have e5 : (de k = 2) = (c = true) := by rw [hd]; cases c <;> simp
      obtain ⟨ar3, q1, q2, q3, q4, q5, q6⟩ := w3'
      refine ⟨ar3, q1, q2, q3, ?_, q5, q6⟩
      obtain ⟨v1, v2, v3, v4⟩ := q4
      refine ⟨?_, ?_, ?_, v4⟩
      · intro i hi
        obtain ⟨x1, x2, x3, x4, x5⟩ := v1 i hi
        refine ⟨x1, x2, x3, fun q => ?_, x5⟩
        by_cases z : i = k
        · subst z; rw [va_up_self] at q; exact absurd rfl q
        · rw [va_up_ne _ _ z]; exact x4 q
      · intro i hi
        simp only [e5]
        exact v2 i hi
      · intro t htt
        simp only [e5]
        exact v3 t htt
    · exact absurd (nI_le (by omega) (by omega)) c16
  | succ j ih =>
    intro p Y h hp hv hT w
    have hpP : p < P := by omega
    have hg : GT P cap Y (n, ep, tx, bg, ba, ad, lc, de, mq, nx, la, en) := hT ▸ pv_all hv
    have hr := hg.2.2.2.2.1
    have hlen := len42 hP hcap hv
    obtain ⟨a1, a2, a3, a4, a5, a6, a7, a8⟩ := hg.1
    obtain ⟨b1, b2, b3, b4, b5, b6, b7⟩ := a5 k hk
    have hep0 := (b6 ht).1
    obtain ⟨ar, wm, hE, -, hTR, -, -⟩ := id w
    obtain ⟨t1, t2, t3, t4, t5⟩ := hTR.1 k hk
    obtain ⟨w0, w1, w2, w3, w4, w5, w6, w7, w8, w9, w10, w11, w12, w13, -⟩ := id wm
    simp only [mcell] at w0
    have skip : (hasB (ad k) p && !hEnd p Y (tx k - 1)) = false → gs none (d + 2) mD_X5_finishes (132, [(4, .int (nI p)), (0, .ref 96), (1, .int (nI k)), (2, .int (b01 c)), (3, .int (nI (tx k - 1)))], [], h) (fun u => u.1 = none ∧ FS cM h u.2 ∧ RE u.2 P cap tmo clk cl cut (finR (ep k - 1) (tx k - 1) (4 - de k) k (ad k) p (j + 1) Y ++ [(P, 5, k, ep k - 1, 0, tx k - 1, 0, [])]) sy 0 tE tp an (tell (n, ep, tx, bg, ba, ad, lc, de, mq, nx, la, en) (P, 5, k, ep k - 1, 0, tx k - 1, 0, []))) := by
      intro hs
      first | refine gs_inc _ 135 a_X5_finishes_132 rfl (Nat.le_of_ble_eq_true rfl) rfl ?_ | refine gs_n 135 a_X5_finishes_132 rfl ?_
      refine gs_n 10 a_X5_finishes_135 rfl ?_
      refine gs_w [(4, .int (nI (p + 1))), (0, .ref 96), (1, .int (nI k)), (2, .int (b01 c)), (3, .int (nI (tx k - 1)))] (by simp [ix_nd]) (by intro x hx; simp only [List.mem_cons, List.not_mem_nil, or_false] at hx; rcases hx with rfl | rfl | rfl | rfl | rfl <;> rfl) ?_
      simp only [finR]
      rw [hs, if_neg (by simp)]
      exact ih (p + 1) Y h (by omega) hv hT w
    refine gs_n 12 a_X5_finishes_10 rfl ?_
    refine gs_n 13 a_X5_finishes_12 rfl ?_
    refine gs_get 16 a_X5_finishes_13 f_5_87 (by first | assumption | exact hs_same _ _ _ | exact (hs_ne _ _ (by first | assumption | decide | omega)).trans (by first | assumption | exact hs_same _ _ _ | exact (hs_ne _ _ (by first | assumption | decide | omega)).trans (by first | assumption | exact hs_same _ _ _ | exact (hs_ne _ _ (by first | assumption | decide | omega)).trans (by first | assumption | exact hs_same _ _ _ | exact (hs_ne _ _ (by first | assumption | decide | omega)).trans (by first | assumption | exact hs_same _ _ _))))) rfl rfl ?_
    refine gs_ic 138 19 a_X5_finishes_16 rfl rfl (fun c16 => ?_) (fun c16 => ?_)
    · exact absurd c16 (nI_ge (by omega) (by omega))
    · refine gs_k (nI 0) 20 a_X5_finishes_19 (by decide +kernel) rfl ?_
      refine gs_n 22 a_X5_finishes_20 rfl ?_
      refine gs_k (nI 0) 23 a_X5_finishes_22 (by decide +kernel) rfl ?_
      refine gs_n 25 a_X5_finishes_23 rfl ?_
      refine gs_w [(6, .int (nI 0)), (4, .int (nI p)), (5, .int (b01 (hEnd p (Y.take 0) (tx k - 1)))), (0, .ref 96), (1, .int (nI k)), (2, .int (b01 c)), (3, .int (nI (tx k - 1)))] (by simp [ix_nd]) (by intro x hx; simp only [List.mem_cons, List.not_mem_nil, or_false] at hx; rcases hx with rfl | rfl | rfl | rfl | rfl | rfl | rfl <;> rfl) ?_
      refine l_has (by omega) (by omega) hE wm ?_ Y.length 0 (by omega)
      refine gs_n 87 a_X5_finishes_86 rfl ?_
      refine gs_get 90 a_X5_finishes_87 f_5_49 (by first | assumption | exact hs_same _ _ _ | exact (hs_ne _ _ (by first | assumption | decide | omega)).trans (by first | assumption | exact hs_same _ _ _ | exact (hs_ne _ _ (by first | assumption | decide | omega)).trans (by first | assumption | exact hs_same _ _ _ | exact (hs_ne _ _ (by first | assumption | decide | omega)).trans (by first | assumption | exact hs_same _ _ _ | exact (hs_ne _ _ (by first | assumption | decide | omega)).trans (by first | assumption | exact hs_same _ _ _))))) rfl rfl ?_
      refine gs_n 91 a_X5_finishes_90 rfl ?_
      refine gs_ia k 92 a_X5_finishes_91 (by first | assumption | exact hs_same _ _ _ | exact (hs_ne _ _ (by first | assumption | decide | omega)).trans (by first | assumption | exact hs_same _ _ _ | exact (hs_ne _ _ (by first | assumption | decide | omega)).trans (by first | assumption | exact hs_same _ _ _ | exact (hs_ne _ _ (by first | assumption | decide | omega)).trans (by first | assumption | exact hs_same _ _ _ | exact (hs_ne _ _ (by first | assumption | decide | omega)).trans (by first | assumption | exact hs_same _ _ _))))) rfl (by omega) (by omega) rfl ?_
      rw [t5]
      refine gs_n 94 a_X5_finishes_92 rfl ?_
      refine gs_n 95 a_X5_finishes_94 rfl ?_
      refine gs_k (nI 1) 96 a_X5_finishes_95 (by decide +kernel) rfl ?_
      refine gs_n 97 a_X5_finishes_96 rfl ?_
      refine gs_k (nI 1) 98 a_X5_finishes_97 (by decide +kernel) rfl ?_
      refine gs_ic 132 101 a_X5_finishes_98 rfl rfl (fun c98 => ?_) (fun c98 => ?_)
      · have c98 : ¬ ((ad k >>> (nI p &&& 31)) &&& nI 1 = nI 1) := c98
        refine gs_w [(4, .int (nI p)), (0, .ref 96), (1, .int (nI k)), (2, .int (b01 c)), (3, .int (nI (tx k - 1)))] (by simp [ix_nd]) (by intro x hx; simp only [List.mem_cons, List.not_mem_nil, or_false] at hx; rcases hx with rfl | rfl | rfl | rfl | rfl <;> rfl) ?_
        exact skip (by unfold hasB; rw [decide_eq_false c98]; rfl)
      · have c98 : ((ad k >>> (nI p &&& 31)) &&& nI 1 = nI 1) := Classical.byContradiction c98
        have c39 : hasB (ad k) p = true := decide_eq_true c98
        refine gs_n 103 a_X5_finishes_101 rfl ?_
        refine gs_if 132 106 a_X5_finishes_103 rfl rfl (fun c103 => ?_) (fun c103 => ?_)
        · have c103 := (b01_ne _).mp c103
          refine gs_w [(4, .int (nI p)), (0, .ref 96), (1, .int (nI k)), (2, .int (b01 c)), (3, .int (nI (tx k - 1)))] (by simp [ix_nd]) (by intro x hx; simp only [List.mem_cons, List.not_mem_nil, or_false] at hx; rcases hx with rfl | rfl | rfl | rfl | rfl <;> rfl) ?_
          exact skip (by rw [c103]; simp)
        · have c56 : hEnd p Y (tx k - 1) = false := (b01_0 _).mp (Classical.byContradiction c103)
          have hpe := pv_end hP hv hT hk hpP ht (by rw [hd]; split <;> omega) c39 c56
          have fin : ∀ K, K = 4 - de k → gs none (d + 2) mD_X5_finishes (118, [(4, .int (nI p)), (0, .ref 96), (1, .int (nI k)), (2, .int (b01 c)), (3, .int (nI (tx k - 1)))], [.int (nI K), .int (nI p), .ref 96], h) (fun u => u.1 = none ∧ FS cM h u.2 ∧ RE u.2 P cap tmo clk cl cut (finR (ep k - 1) (tx k - 1) (4 - de k) k (ad k) p (j + 1) Y ++ [(P, 5, k, ep k - 1, 0, tx k - 1, 0, [])]) sy 0 tE tp an (tell (n, ep, tx, bg, ba, ad, lc, de, mq, nx, la, en) (P, 5, k, ep k - 1, 0, tx k - 1, 0, []))) := by
            intro K hK
            subst hK
            refine gs_n 119 a_X5_finishes_118 rfl ?_
            refine gs_n 120 a_X5_finishes_119 rfl ?_
            refine gs_get 123 a_X5_finishes_120 f_5_40 (by first | assumption | exact hs_same _ _ _ | exact (hs_ne _ _ (by first | assumption | decide | omega)).trans (by first | assumption | exact hs_same _ _ _ | exact (hs_ne _ _ (by first | assumption | decide | omega)).trans (by first | assumption | exact hs_same _ _ _ | exact (hs_ne _ _ (by first | assumption | decide | omega)).trans (by first | assumption | exact hs_same _ _ _ | exact (hs_ne _ _ (by first | assumption | decide | omega)).trans (by first | assumption | exact hs_same _ _ _))))) rfl rfl ?_
            refine gs_n 124 a_X5_finishes_123 rfl ?_
            refine gs_ia k 125 a_X5_finishes_124 (by first | assumption | exact hs_same _ _ _ | exact (hs_ne _ _ (by first | assumption | decide | omega)).trans (by first | assumption | exact hs_same _ _ _ | exact (hs_ne _ _ (by first | assumption | decide | omega)).trans (by first | assumption | exact hs_same _ _ _ | exact (hs_ne _ _ (by first | assumption | decide | omega)).trans (by first | assumption | exact hs_same _ _ _ | exact (hs_ne _ _ (by first | assumption | decide | omega)).trans (by first | assumption | exact hs_same _ _ _))))) rfl (by omega) (by omega) rfl ?_
            rw [t2 hep0]
            refine gs_n 126 a_X5_finishes_125 rfl ?_
            refine gs_k (nI 0) 127 a_X5_finishes_126 (by decide +kernel) rfl ?_
            refine gs_cv 130 a_X5_finishes_127 k_5_129 q_X5_add (r_add p (4 - de k) k (ep k - 1) (tx k - 1) 0 (by omega) (okE_part (pl := []) hP hpP (by rw [hd]; split <;> omega) hk (by omega) (by omega) (by simp) (by omega) (by simp)).1 w) rfl rfl rfl (by simp [Value.category]) (by first | assumption | exact hs_same _ _ _ | exact (hs_ne _ _ (by first | assumption | decide | omega)).trans (by first | assumption | exact hs_same _ _ _ | exact (hs_ne _ _ (by first | assumption | decide | omega)).trans (by first | assumption | exact hs_same _ _ _ | exact (hs_ne _ _ (by first | assumption | decide | omega)).trans (by first | assumption | exact hs_same _ _ _ | exact (hs_ne _ _ (by first | assumption | decide | omega)).trans (by first | assumption | exact hs_same _ _ _))))) rfl (fun v h2 hp => ?_)
            obtain ⟨e1, hF, w2'⟩ := hp
            simp only at e1
            subst e1
            refine gs_n 132 a_X5_finishes_130 rfl ?_
            first | refine gs_inc _ 135 a_X5_finishes_132 rfl (Nat.le_of_ble_eq_true rfl) rfl ?_ | refine gs_n 135 a_X5_finishes_132 rfl ?_
            refine gs_n 10 a_X5_finishes_135 rfl ?_
            refine gs_w [(4, .int (nI (p + 1))), (0, .ref 96), (1, .int (nI k)), (2, .int (b01 c)), (3, .int (nI (tx k - 1)))] (by simp [ix_nd]) (by intro x hx; simp only [List.mem_cons, List.not_mem_nil, or_false] at hx; rcases hx with rfl | rfl | rfl | rfl | rfl <;> rfl) ?_
            simp only [finR]
            rw [c39, c56, if_pos (by simp)]
            refine gs_post (ih (p + 1) _ h2 (by omega) hpe.1 hpe.2 w2') ?_
            rintro u ⟨e1, hF2, w3⟩
            exact ⟨e1, hF.trans hF2, w3⟩
          refine gs_n 107 a_X5_finishes_106 rfl ?_
          refine gs_n 109 a_X5_finishes_107 rfl ?_
          refine gs_n 110 a_X5_finishes_109 rfl ?_
          refine gs_if 117 113 a_X5_finishes_110 rfl rfl (fun c110 => ?_) (fun c110 => ?_)
          · have c110 := (b01_0 _).mp c110
            refine gs_k (nI 3) 118 a_X5_finishes_117 (by decide +kernel) rfl ?_
            refine gs_w [(4, .int (nI p)), (0, .ref 96), (1, .int (nI k)), (2, .int (b01 c)), (3, .int (nI (tx k - 1)))] (by simp [ix_nd]) (by intro x hx; simp only [List.mem_cons, List.not_mem_nil, or_false] at hx; rcases hx with rfl | rfl | rfl | rfl | rfl <;> rfl) ?_
            exact fin 3 (by rw [hd, c110]; rfl)
          · have c110 := (b01_ne _).mp c110
            refine gs_k (nI 2) 114 a_X5_finishes_113 (by decide +kernel) rfl ?_
            refine gs_n 118 a_X5_finishes_114 rfl ?_
            refine gs_w [(4, .int (nI p)), (0, .ref 96), (1, .int (nI k)), (2, .int (b01 c)), (3, .int (nI (tx k - 1)))] (by simp [ix_nd]) (by intro x hx; simp only [List.mem_cons, List.not_mem_nil, or_false] at hx; rcases hx with rfl | rfl | rfl | rfl | rfl <;> rfl) ?_
            exact fin 2 (by rw [hd, c110]; rfl)
theorem r_finX {k : Nat} {c : Bool} (hk : k < 32) (hP : P ≤ 8) (hcap : cap ≤ 4000) (hv : pv P cap X) (ht : (told P X).2.2.1 k ≠ 0) (hd : (told P X).2.2.2.2.2.2.2.1 k = (if c then 2 else 1)) (w : RE h P cap tmo clk cl cut X sy 0 tE tp an (told P X)) : ev (d + 3) n_X5_finishes [.ref 96, .int (nI k), .int (b01 c)] h (fun u => u.1 = none ∧ FS cM h u.2 ∧ RE u.2 P cap tmo clk cl cut (finX P X k) sy 0 tE tp an (told P (finX P X k))) := by
  obtain ⟨n, ep, tx, bg, ba, ad, lc, de, mq, nx, la, en, hT⟩ := told_ex P X
  rw [hT] at w ht hd
  simp only at ht hd
  have h1 := fin_ok hP hv hT hk ht (by rw [hd]; split <;> omega)
  rw [h1.2]
  unfold finX
  rw [hT]
  have hg : GT P cap X (n, ep, tx, bg, ba, ad, lc, de, mq, nx, la, en) := hT ▸ pv_all hv
  have hb := (hg.1.2.2.2.2.1 k hk).2.1
  obtain ⟨ar, wm, hE, -, hTR, -, -⟩ := id w
  obtain ⟨t1, t2, t3, t4, t5⟩ := hTR.1 k hk
  rw [m1_p ht] at t3
  obtain ⟨w0, w1, w2, w3, w4, w5, w6, w7, w8, w9, w10, w11, -⟩ := id wm
  simp only [mcell] at w0
  refine ev_of q_X5_finishes (Nat.le_of_ble_eq_true rfl) ?_
  refine gs_n 1 a_X5_finishes_0 rfl ?_
  refine gs_get 4 a_X5_finishes_1 f_5_43 (by first | assumption | exact hs_same _ _ _ | exact (hs_ne _ _ (by first | assumption | decide | omega)).trans (by first | assumption | exact hs_same _ _ _ | exact (hs_ne _ _ (by first | assumption | decide | omega)).trans (by first | assumption | exact hs_same _ _ _ | exact (hs_ne _ _ (by first | assumption | decide | omega)).trans (by first | assumption | exact hs_same _ _ _ | exact (hs_ne _ _ (by first | assumption | decide | omega)).trans (by first | assumption | exact hs_same _ _ _))))) rfl rfl ?_
  refine gs_n 5 a_X5_finishes_4 rfl ?_
  refine gs_ia k 6 a_X5_finishes_5 (by first | assumption | exact hs_same _ _ _ | exact (hs_ne _ _ (by first | assumption | decide | omega)).trans (by first | assumption | exact hs_same _ _ _ | exact (hs_ne _ _ (by first | assumption | decide | omega)).trans (by first | assumption | exact hs_same _ _ _ | exact (hs_ne _ _ (by first | assumption | decide | omega)).trans (by first | assumption | exact hs_same _ _ _ | exact (hs_ne _ _ (by first | assumption | decide | omega)).trans (by first | assumption | exact hs_same _ _ _))))) rfl (by omega) (by omega) rfl ?_
  rw [t3]
  refine gs_n 7 a_X5_finishes_6 rfl ?_
  refine gs_k (nI 0) 8 a_X5_finishes_7 (by decide +kernel) rfl ?_
  refine gs_n 10 a_X5_finishes_8 rfl ?_
  refine gs_w [(4, .int (nI 0)), (0, .ref 96), (1, .int (nI k)), (2, .int (b01 c)), (3, .int (nI (tx k - 1)))] (by simp [ix_nd]) (by intro x hx; simp only [List.mem_cons, List.not_mem_nil, or_false] at hx; rcases hx with rfl | rfl | rfl | rfl | rfl <;> rfl) ?_
  exact l_finishes hk ht hd hcap hP P 0 X h (by omega) hv hT w
theorem r_ends {k : Nat} (c : Bool) (hk : k < 32) (hP : P ≤ 8) (hcap : cap ≤ 4000) (hv : pv P cap X) (ht : (told P X).2.2.1 k ≠ 0) (hd : (told P X).2.2.2.2.2.2.2.1 k = 0) (w : RE h P cap tmo clk cl cut X sy 0 tE tp an (told P X)) : ev (d + 4) n_X5_ends [.ref 96, .int (nI k), .int (b01 c)] h (fun u => u.1 = none ∧ FS cM h u.2 ∧ RE u.2 P cap tmo clk cl cut (finX P (decX P X k (if c then 1 else 0)) k) sy 0 tE tp an (told P (finX P (decX P X k (if c then 1 else 0)) k))) := by
  have hlen := len42 hP hcap hv
  obtain ⟨n, ep, tx, bg, ba, ad, lc, de, mq, nx, la, en, hT⟩ := told_ex P X
  have hg : GT P cap X (n, ep, tx, bg, ba, ad, lc, de, mq, nx, la, en) := hT ▸ pv_all hv
  obtain ⟨a1, a2, a3, a4, a5, a6, a7, a8⟩ := hg.1
  have hr := hg.2.2.2.2.1
  obtain ⟨b1, b2, b3, b4, b5, b6, b7⟩ := a5 k hk
  rw [hT] at w ht hd
  simp only at ht hd
  have hep0 := (b6 ht).1
  have h1 := pv_decide hP hv hT hk ht hd (c := if c then 1 else 0) (by split <;> omega)
  have hdx : decX P X k (if c then 1 else 0) = X ++ [(P, 4, k, ep k - 1, (if c then 1 else 0), tx k - 1, 0, [])] := by unfold decX; rw [hT]
  obtain ⟨ar, wm, hE, -, hTR, -, -⟩ := id w
  obtain ⟨t1, t2, t3, t4, t5⟩ := hTR.1 k hk
  rw [m1_p ht] at t3
  obtain ⟨w0, w1, w2, w3, w4, w5, w6, w7, w8, w9, w10, w11, -⟩ := id wm
  simp only [mcell] at w0
  have fin : ∀ x, x = (if c then 1 else 0) → gs none (d + 3) mD_X5_ends (22, [(0, .ref 96), (1, .int (nI k)), (2, .int (b01 c))], [.int (nI x), .int (nI (ep k - 1)), .int (nI k), .int (nI 4), .int (nI P), .ref 96], h) (fun u => u.1 = none ∧ FS cM h u.2 ∧ RE u.2 P cap tmo clk cl cut (finX P (decX P X k (if c then 1 else 0)) k) sy 0 tE tp an (told P (finX P (decX P X k (if c then 1 else 0)) k))) := by
    intro x hx
    have hx1 : x ≤ 1 := by rw [hx]; split <;> omega
    refine gs_n 23 a_X5_ends_22 rfl ?_
    refine gs_get 26 a_X5_ends_23 f_5_43 (by first | assumption | exact hs_same _ _ _ | exact (hs_ne _ _ (by first | assumption | decide | omega)).trans (by first | assumption | exact hs_same _ _ _ | exact (hs_ne _ _ (by first | assumption | decide | omega)).trans (by first | assumption | exact hs_same _ _ _ | exact (hs_ne _ _ (by first | assumption | decide | omega)).trans (by first | assumption | exact hs_same _ _ _ | exact (hs_ne _ _ (by first | assumption | decide | omega)).trans (by first | assumption | exact hs_same _ _ _))))) rfl rfl ?_
    refine gs_n 27 a_X5_ends_26 rfl ?_
    refine gs_ia k 28 a_X5_ends_27 (by first | assumption | exact hs_same _ _ _ | exact (hs_ne _ _ (by first | assumption | decide | omega)).trans (by first | assumption | exact hs_same _ _ _ | exact (hs_ne _ _ (by first | assumption | decide | omega)).trans (by first | assumption | exact hs_same _ _ _ | exact (hs_ne _ _ (by first | assumption | decide | omega)).trans (by first | assumption | exact hs_same _ _ _ | exact (hs_ne _ _ (by first | assumption | decide | omega)).trans (by first | assumption | exact hs_same _ _ _))))) rfl (by omega) (by omega) rfl ?_
    rw [t3]
    refine gs_cv 31 a_X5_ends_28 k_5_129 q_X5_add (r_add P 4 k (ep k - 1) x (tx k - 1) (by omega) (okE_book hP (by omega) hk (by omega) (by omega) (by omega) (by omega)).1 w) rfl rfl rfl (by simp [Value.category]) (by first | assumption | exact hs_same _ _ _ | exact (hs_ne _ _ (by first | assumption | decide | omega)).trans (by first | assumption | exact hs_same _ _ _ | exact (hs_ne _ _ (by first | assumption | decide | omega)).trans (by first | assumption | exact hs_same _ _ _ | exact (hs_ne _ _ (by first | assumption | decide | omega)).trans (by first | assumption | exact hs_same _ _ _ | exact (hs_ne _ _ (by first | assumption | decide | omega)).trans (by first | assumption | exact hs_same _ _ _))))) rfl (fun v h2 hp => ?_)
    obtain ⟨e1, hF, w2'⟩ := hp
    simp only at e1
    subst e1
    have w02 := w2'.obj
    simp only [mcell] at w02
    have w3' : RE h2 P cap tmo clk cl cut (decX P X k (if c then 1 else 0)) sy 0 tE tp an (told P (decX P X k (if c then 1 else 0))) := by
      rw [hdx, h1.2, ← hx]
      exact w2'
    refine gs_n 32 a_X5_ends_31 rfl ?_
    refine gs_n 33 a_X5_ends_32 rfl ?_
    refine gs_n 34 a_X5_ends_33 rfl ?_
    refine gs_n 35 a_X5_ends_34 rfl ?_
    refine gs_cv 38 a_X5_ends_35 k_5_141 q_X5_finishes (r_finX (c := c) hk hP hcap (by rw [hdx]; exact h1.1) (by rw [hdx, h1.2]; exact ht) (by rw [hdx, h1.2]; simp only [va_up_self]; cases c <;> rfl) w3') rfl rfl rfl (by simp [Value.category]) (by first | assumption | exact hs_same _ _ _ | exact (hs_ne _ _ (by first | assumption | decide | omega)).trans (by first | assumption | exact hs_same _ _ _ | exact (hs_ne _ _ (by first | assumption | decide | omega)).trans (by first | assumption | exact hs_same _ _ _ | exact (hs_ne _ _ (by first | assumption | decide | omega)).trans (by first | assumption | exact hs_same _ _ _ | exact (hs_ne _ _ (by first | assumption | decide | omega)).trans (by first | assumption | exact hs_same _ _ _))))) rfl (fun v h3 hp => ?_)
    obtain ⟨e1, hF3, w4'⟩ := hp
    simp only at e1
    subst e1
    refine gs_vret a_X5_ends_38 rfl ?_
    exact ⟨rfl, hF.trans hF3, w4'⟩
  refine ev_of q_X5_ends (Nat.le_of_ble_eq_true rfl) ?_
  refine gs_n 1 a_X5_ends_0 rfl ?_
  refine gs_n 2 a_X5_ends_1 rfl ?_
  refine gs_get 5 a_X5_ends_2 f_5_87 (by first | assumption | exact hs_same _ _ _ | exact (hs_ne _ _ (by first | assumption | decide | omega)).trans (by first | assumption | exact hs_same _ _ _ | exact (hs_ne _ _ (by first | assumption | decide | omega)).trans (by first | assumption | exact hs_same _ _ _ | exact (hs_ne _ _ (by first | assumption | decide | omega)).trans (by first | assumption | exact hs_same _ _ _ | exact (hs_ne _ _ (by first | assumption | decide | omega)).trans (by first | assumption | exact hs_same _ _ _))))) rfl rfl ?_
  refine gs_k (nI 4) 6 a_X5_ends_5 (by decide +kernel) rfl ?_
  refine gs_n 7 a_X5_ends_6 rfl ?_
  refine gs_n 8 a_X5_ends_7 rfl ?_
  refine gs_get 11 a_X5_ends_8 f_5_40 (by first | assumption | exact hs_same _ _ _ | exact (hs_ne _ _ (by first | assumption | decide | omega)).trans (by first | assumption | exact hs_same _ _ _ | exact (hs_ne _ _ (by first | assumption | decide | omega)).trans (by first | assumption | exact hs_same _ _ _ | exact (hs_ne _ _ (by first | assumption | decide | omega)).trans (by first | assumption | exact hs_same _ _ _ | exact (hs_ne _ _ (by first | assumption | decide | omega)).trans (by first | assumption | exact hs_same _ _ _))))) rfl rfl ?_
  refine gs_n 12 a_X5_ends_11 rfl ?_
  refine gs_ia k 13 a_X5_ends_12 (by first | assumption | exact hs_same _ _ _ | exact (hs_ne _ _ (by first | assumption | decide | omega)).trans (by first | assumption | exact hs_same _ _ _ | exact (hs_ne _ _ (by first | assumption | decide | omega)).trans (by first | assumption | exact hs_same _ _ _ | exact (hs_ne _ _ (by first | assumption | decide | omega)).trans (by first | assumption | exact hs_same _ _ _ | exact (hs_ne _ _ (by first | assumption | decide | omega)).trans (by first | assumption | exact hs_same _ _ _))))) rfl (by omega) (by omega) rfl ?_
  rw [t2 hep0]
  refine gs_n 14 a_X5_ends_13 rfl ?_
  refine gs_if 21 17 a_X5_ends_14 rfl rfl (fun c14 => ?_) (fun c14 => ?_)
  · have c14 := (b01_0 _).mp c14
    refine gs_k (nI 0) 22 a_X5_ends_21 (by decide +kernel) rfl ?_
    exact fin 0 (by rw [c14]; rfl)
  · have c14 := (b01_ne _).mp c14
    refine gs_k (nI 1) 18 a_X5_ends_17 (by decide +kernel) rfl ?_
    refine gs_n 22 a_X5_ends_18 rfl ?_
    exact fin 1 (by rw [c14]; rfl)
end R3
