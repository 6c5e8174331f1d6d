/-! OnceLedger: format, crash -/
section CC
variable {d : Nat} {h h' : ix_H} {P cap tmo clk cut sy torn : Nat} {cl : Bool} {X : List En} {tE : En} {tp an : List Nat} {o : ix_E} {ls ls' : LgT} {bb : List Nat} {un : List (Nat × Nat)} {pr pr' : Nat → PS} {mk mk' : Nat → Int32}
theorem CV.cg (w : CV h o ls bb un pr mk tp an) (h1 : ∀ p, p < 8 → ls' p = ls p) (h2 : ∀ k, k < 32 → pr' k = pr k) (h3 : ∀ i, i < 64 → mk' i = mk i) : CV h o ls' bb un pr' mk' tp an := by
  obtain ⟨w1, w3, w4, w5, w6, w7, w8, w9, ⟨f10, w10, w10'⟩, w11, w12⟩ := w
  exact ⟨w1, w3, w4, w5, w6, w7, w8, w9, ⟨f10, w10, fun i hi => by rw [w10' i hi, h3 i hi]⟩, fun p hp => by rw [h1 p hp]; exact w11 p hp, fun k hk => by rw [h2 k hk]; exact w12 k hk⟩
theorem PR_fgt (s : PS) : PR (fgt s) 0 0 0 0 (nI 0) 0 0 := ⟨m1_0.symm, m1_0.symm, m1_0.symm, fun z => absurd rfl z, rfl, rfl, m1_0.symm⟩
theorem CE.cw {T : TS} (w : CE h P cap tmo clk cl cut X sy torn tE tp an T) : ∃ pr mk, CW h (P, cap, tmo, clk, cl, cut, T.2.2.2.2.2.2.2.2.2.1) (lgO P X) (tnO P torn tE) (fl P X) (btO P torn tE) (unO P X sy) pr mk tp an := by
  obtain ⟨n, ep, tx, bg, ba, ad, lc, de, mq, nx, la, en⟩ := T
  obtain ⟨pr, mk, w, -⟩ := w
  exact ⟨pr, mk, w⟩
/-- out of cells where nothing is told -/
theorem CE_of {clk' : Nat} {nx0 : Nat} (hx : nx0 = 0) (w : CV h (oE (nI P) (nI cap) (nI tmo) (nI clk') (b01 cl) (nI cut) (nI nx0)) (fun p => .inl (lgO P X p, tnO P torn tE p)) ((fl P X).flatMap encB ++ btO P torn tE) (unO P X sy) (fun k => fgt (pr k)) (fun _ => -1) tp an) (h1 : scOk (P, cap, tmo, clk', cl, cut, 0)) (h2 : ∀ e ∈ X, okE P e) (h3 : sy ≤ X.length) : CE h P cap tmo clk' cl cut X sy torn tE tp an T0 := by
  subst hx
  exact ⟨_, _, CV.cw (sc := (P, cap, tmo, clk', cl, cut, 0)) w h1 (fun e he => (h2 e (fl_mem he).1).2.2.1 (fl_mem he).2), fun k _ => PR_fgt _, fun i _ => m1_0.symm, h3⟩
theorem c_format (p c t : Int32) (hs : SI (P, cap, tmo, clk, cl, cut, X, sy, torn, tE, tp, an)) (w : CS h (P, cap, tmo, clk, cl, cut, X, sy, torn, tE, tp, an)) : ev (d + 5) n_X4_format [.ref 0, .int p, .int c, .int t] h (fun u => u.1 = some (.int (F_format (P, cap, tmo, clk, cl, cut, X, sy, torn, tE, tp, an) p c t).1) ∧ FS cC h u.2 ∧ CS u.2 (F_format (P, cap, tmo, clk, cl, cut, X, sy, torn, tE, tp, an) p c t).2) := by
  have w' : CE h P cap tmo clk cl cut X sy torn tE tp an (tS cl P X) := w
  have w1 := w'.obj'
  obtain ⟨pr, mk, wc⟩ := w'.cw
  have wv : CV h (oE (nI P) (nI cap) (nI tmo) (nI clk) (b01 cl) (nI cut) (nI (tS cl P X).2.2.2.2.2.2.2.2.2.1)) _ _ _ _ _ _ _ := wc.cv
  have no : ¬ (1 ≤ p.toInt ∧ p.toInt ≤ 8 ∧ 100 ≤ c.toInt ∧ c.toInt ≤ 4000 ∧ 1 ≤ t.toInt ∧ t.toInt ≤ 1000) → gs none (d + 4) mD_X4_format (36, [(0, .ref 0), (1, .int p), (2, .int c), (3, .int t)], [], h) (fun u => u.1 = some (.int (F_format (P, cap, tmo, clk, cl, cut, X, sy, torn, tE, tp, an) p c t).1) ∧ FS cC h u.2 ∧ CS u.2 (F_format (P, cap, tmo, clk, cl, cut, X, sy, torn, tE, tp, an) p c t).2) := by
    intro hn
    simp only [F_format]
    rw [if_neg hn]
    refine gs_k (nI 0) 37 a_X4_format_36 (by decide +kernel) rfl ?_
    refine gs_iret a_X4_format_37 rfl rfl ?_
    exact ⟨rfl, FS.rf _ _, w⟩
  refine ev_of q_X4_format (Nat.le_of_ble_eq_true rfl) ?_
  refine gs_n 1 a_X4_format_0 rfl ?_
  refine gs_k (nI 1) 2 a_X4_format_1 (by decide +kernel) rfl ?_
  refine gs_ic 36 5 a_X4_format_2 rfl rfl (fun c2 => ?_) (fun c2 => ?_)
  · have c2 : p < nI 1 := c2
    rw [lt_lit' (by omega)] at c2
    exact no (by omega)
  · have c2 : ¬ p < nI 1 := c2
    rw [lt_lit' (by omega)] at c2
    refine gs_n 6 a_X4_format_5 rfl ?_
    refine gs_k (nI 8) 8 a_X4_format_6 (by decide +kernel) rfl ?_
    refine gs_ic 36 11 a_X4_format_8 rfl rfl (fun c8 => ?_) (fun c8 => ?_)
    · have c8 : nI 8 < p := c8
      rw [lt_lit (by omega)] at c8
      exact no (by omega)
    · have c8 : ¬ nI 8 < p := c8
      rw [lt_lit (by omega)] at c8
      refine gs_n 12 a_X4_format_11 rfl ?_
      refine gs_k (nI 100) 14 a_X4_format_12 (by decide +kernel) rfl ?_
      refine gs_ic 36 17 a_X4_format_14 rfl rfl (fun c14 => ?_) (fun c14 => ?_)
      · have c14 : c < nI 100 := c14
        rw [lt_lit' (by omega)] at c14
        exact no (by omega)
      · have c14 : ¬ c < nI 100 := c14
        rw [lt_lit' (by omega)] at c14
        refine gs_n 18 a_X4_format_17 rfl ?_
        refine gs_k (nI 4000) 21 a_X4_format_18 (by decide +kernel) rfl ?_
        refine gs_ic 36 24 a_X4_format_21 rfl rfl (fun c21 => ?_) (fun c21 => ?_)
        · have c21 : nI 4000 < c := c21
          rw [lt_lit (by omega)] at c21
          exact no (by omega)
        · have c21 : ¬ nI 4000 < c := c21
          rw [lt_lit (by omega)] at c21
          refine gs_n 25 a_X4_format_24 rfl ?_
          refine gs_k (nI 1) 26 a_X4_format_25 (by decide +kernel) rfl ?_
          refine gs_ic 36 29 a_X4_format_26 rfl rfl (fun c26 => ?_) (fun c26 => ?_)
          · have c26 : t < nI 1 := c26
            rw [lt_lit' (by omega)] at c26
            exact no (by omega)
          · have c26 : ¬ t < nI 1 := c26
            rw [lt_lit' (by omega)] at c26
            refine gs_n 30 a_X4_format_29 rfl ?_
            refine gs_k (nI 1000) 33 a_X4_format_30 (by decide +kernel) rfl ?_
            refine gs_ic 38 36 a_X4_format_33 rfl rfl (fun c33 => ?_) (fun c33 => ?_)
            · have c33 : t ≤ nI 1000 := c33
              rw [le_lit (by omega)] at c33
              simp only [F_format]
              rw [if_pos (by omega)]
              refine gs_n 39 a_X4_format_38 rfl ?_
              refine gs_n 40 a_X4_format_39 rfl ?_
              refine gs_n 41 a_X4_format_40 rfl ?_
              refine gs_n 42 a_X4_format_41 rfl ?_
              refine gs_cv 45 a_X4_format_42 k_4_52 q_X4_build (c_build p c t wv) rfl rfl rfl (by simp [Value.category]) (by first | assumption | exact hs_same _ _ _ | exact (hs_ne _ _ (by first | assumption | decide | omega)).trans (by first | assumption | exact hs_same _ _ _ | exact (hs_ne _ _ (by first | assumption | decide | omega)).trans (by first | assumption | exact hs_same _ _ _ | exact (hs_ne _ _ (by first | assumption | decide | omega)).trans (by first | assumption | exact hs_same _ _ _ | exact (hs_ne _ _ (by first | assumption | decide | omega)).trans (by first | assumption | exact hs_same _ _ _))))) rfl (fun v h2 hp => ?_)
              obtain ⟨e1, hF, w2⟩ := hp
              simp only at e1
              subst e1
              refine gs_k (nI 1) 46 a_X4_format_45 (by decide +kernel) rfl ?_
              refine gs_iret a_X4_format_46 rfl rfl ?_
              refine ⟨rfl, hF, ?_⟩
              have p1 : p = nI (kn p) := nI_ofInt (by omega)
              have p2 : c = nI (kn c) := nI_ofInt (by omega)
              have p3 : t = nI (kn t) := nI_ofInt (by omega)
              have q1 : 1 ≤ kn p ∧ kn p ≤ 8 ∧ 100 ≤ kn c ∧ kn c ≤ 4000 ∧ 1 ≤ kn t ∧ kn t ≤ 1000 := by unfold kn; omega
              generalize kn p = pp at *
              generalize kn c = cc at *
              generalize kn t = tt at *
              subst p1
              subst p2
              subst p3
              show CE h2 pp cc tt 0 false 0 [] 0 0 tE tp [] (tS false pp [])
              refine CE_of (pr := pr) (nx0 := 0) rfl ?_ ?_ (fun e he => absurd he List.not_mem_nil) (Nat.zero_le _)
              · rw [tnO_0, btO_0]
                refine w2.cg ?_ ?_ (fun _ _ => rfl)
                · intro q hq
                  simp only [hq, if_true]
                  unfold lgO
                  rw [show fl q [] = [] from rfl, ite_self]
                · intro k hk
                  simp only [hk, if_true]
              · unfold scOk; simp only; omega
            · have c33 : ¬ t ≤ nI 1000 := c33
              rw [le_lit (by omega)] at c33
              exact no (by omega)
theorem v_rowOf {a b c e f g : Int32} (p : Nat) (hp : p ≤ P) (hP : P ≤ 8) (hl : p < P → ∃ es tn, ls p = .inl (es, tn)) (w : CV h (oE (nI P) a b c e f g) ls bb un pr mk tp an) : ev (d + 2) n_X4_rowOf [.ref 0, .int (nI p)] h (fun u => u = (some (.ref (if p < P then 16 + 6 * p + 1 else 8)), h)) := by
  have w1 := w.1
  have hiP : ev (d + 1) n_X4_isPartition [.ref 0, .int (nI p)] h (fun u => u = (some (.int (b01 (decide (p < P)))), h)) := by
    refine ev_of q_X4_isPartition (Nat.le_of_ble_eq_true rfl) ?_
    refine gs_n 1 a_X4_isPartition_0 rfl ?_
    refine gs_if 16 4 a_X4_isPartition_1 rfl rfl (fun c1 => ?_) (fun c1 => ?_)
    · have c1 : nI p < 0 := c1
      rw [lt0_iff, nI_toInt (by omega)] at c1
      omega
    · refine gs_n 5 a_X4_isPartition_4 rfl ?_
      refine gs_n 6 a_X4_isPartition_5 rfl ?_
      refine gs_get 9 a_X4_isPartition_6 f_4_146 (by first | assumption | exact hs_same _ _ _ | exact (hs_ne _ _ (by first | assumption | decide | omega)).trans (by first | assumption | exact hs_same _ _ _ | exact (hs_ne _ _ (by first | assumption | decide | omega)).trans (by first | assumption | exact hs_same _ _ _ | exact (hs_ne _ _ (by first | assumption | decide | omega)).trans (by first | assumption | exact hs_same _ _ _ | exact (hs_ne _ _ (by first | assumption | decide | omega)).trans (by first | assumption | exact hs_same _ _ _))))) rfl rfl ?_
      refine gs_ic 16 12 a_X4_isPartition_9 rfl rfl (fun c2 => ?_) (fun c2 => ?_)
      · have c2 : nI P ≤ nI p := c2
        rw [ix_le_nI (by omega), nI_toInt (by omega)] at c2
        refine gs_k (nI 0) 17 a_X4_isPartition_16 (by decide +kernel) rfl ?_
        refine gs_iret a_X4_isPartition_17 rfl rfl ?_
        rw [decide_eq_false (by omega)]
        rfl
      · have c2 : ¬ nI P ≤ nI p := c2
        rw [ix_le_nI (by omega), nI_toInt (by omega)] at c2
        refine gs_k (nI 1) 13 a_X4_isPartition_12 (by decide +kernel) rfl ?_
        refine gs_n 17 a_X4_isPartition_13 rfl ?_
        refine gs_iret a_X4_isPartition_17 rfl rfl ?_
        rw [decide_eq_true (by omega)]
        rfl
  obtain ⟨f6, w6, w6'⟩ := w.2.2.2.2.1
  refine ev_of q_X4_rowOf (Nat.le_of_ble_eq_true rfl) ?_
  refine gs_n 1 a_X4_rowOf_0 rfl ?_
  refine gs_n 2 a_X4_rowOf_1 rfl ?_
  refine gs_cv 5 a_X4_rowOf_2 k_4_125 q_X4_isPartition hiP rfl rfl rfl (by simp [Value.category]) (by first | assumption | exact hs_same _ _ _ | exact (hs_ne _ _ (by first | assumption | decide | omega)).trans (by first | assumption | exact hs_same _ _ _ | exact (hs_ne _ _ (by first | assumption | decide | omega)).trans (by first | assumption | exact hs_same _ _ _ | exact (hs_ne _ _ (by first | assumption | decide | omega)).trans (by first | assumption | exact hs_same _ _ _ | exact (hs_ne _ _ (by first | assumption | decide | omega)).trans (by first | assumption | exact hs_same _ _ _))))) rfl (fun v h1 hp => ?_)
  cases hp
  refine gs_if 20 8 a_X4_rowOf_5 rfl rfl (fun c => ?_) (fun c => ?_)
  · have c := (b01_0 _).mp c
    have c : ¬ p < P := by simpa using c
    refine gs_n 21 a_X4_rowOf_20 rfl ?_
    refine gs_get 24 a_X4_rowOf_21 f_4_30 (by first | assumption | exact hs_same _ _ _ | exact (hs_ne _ _ (by first | assumption | decide | omega)).trans (by first | assumption | exact hs_same _ _ _ | exact (hs_ne _ _ (by first | assumption | decide | omega)).trans (by first | assumption | exact hs_same _ _ _ | exact (hs_ne _ _ (by first | assumption | decide | omega)).trans (by first | assumption | exact hs_same _ _ _ | exact (hs_ne _ _ (by first | assumption | decide | omega)).trans (by first | assumption | exact hs_same _ _ _))))) rfl rfl ?_
    refine gs_aret a_X4_rowOf_24 rfl ?_
    rw [if_neg c]
  · have c := (b01_ne _).mp c
    have c : p < P := by simpa using c
    obtain ⟨es, tn, hls⟩ := hl c
    have hlg := w.2.2.2.2.2.2.2.2.2.1 p (by omega)
    rw [hls] at hlg
    have hlg : LogAt h (16 + 6 * p) es tn := hlg
    have hl1 := hlg.1
    refine gs_n 9 a_X4_rowOf_8 rfl ?_
    refine gs_get 12 a_X4_rowOf_9 f_4_26 (by first | assumption | exact hs_same _ _ _ | exact (hs_ne _ _ (by first | assumption | decide | omega)).trans (by first | assumption | exact hs_same _ _ _ | exact (hs_ne _ _ (by first | assumption | decide | omega)).trans (by first | assumption | exact hs_same _ _ _ | exact (hs_ne _ _ (by first | assumption | decide | omega)).trans (by first | assumption | exact hs_same _ _ _ | exact (hs_ne _ _ (by first | assumption | decide | omega)).trans (by first | assumption | exact hs_same _ _ _))))) rfl rfl ?_
    refine gs_n 13 a_X4_rowOf_12 rfl ?_
    refine gs_aa p (16 + 6 * p) 14 a_X4_rowOf_13 (by first | assumption | exact hs_same _ _ _ | exact (hs_ne _ _ (by first | assumption | decide | omega)).trans (by first | assumption | exact hs_same _ _ _ | exact (hs_ne _ _ (by first | assumption | decide | omega)).trans (by first | assumption | exact hs_same _ _ _ | exact (hs_ne _ _ (by first | assumption | decide | omega)).trans (by first | assumption | exact hs_same _ _ _ | exact (hs_ne _ _ (by first | assumption | decide | omega)).trans (by first | assumption | exact hs_same _ _ _))))) rfl (by omega) (by decide) (by simp) (w6' p (by omega)) rfl ?_
    refine gs_get 17 a_X4_rowOf_14 f_4_186 (by first | assumption | exact hs_same _ _ _ | exact (hs_ne _ _ (by first | assumption | decide | omega)).trans (by first | assumption | exact hs_same _ _ _ | exact (hs_ne _ _ (by first | assumption | decide | omega)).trans (by first | assumption | exact hs_same _ _ _ | exact (hs_ne _ _ (by first | assumption | decide | omega)).trans (by first | assumption | exact hs_same _ _ _ | exact (hs_ne _ _ (by first | assumption | decide | omega)).trans (by first | assumption | exact hs_same _ _ _))))) rfl rfl ?_
    refine gs_n 24 a_X4_rowOf_17 rfl ?_
    refine gs_aret a_X4_rowOf_24 rfl ?_
    rw [if_pos c]
end CC
