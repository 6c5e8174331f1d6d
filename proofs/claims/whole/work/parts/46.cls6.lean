/-! OnceLedger: mark, marked, tick, sync, answer, feed, fetch -/
section C6
variable {d : Nat} {h h' : ix_H} {P cap tmo clk cut sy torn : Nat} {cl : Bool} {X : List En} {tE : En} {tp an : List Nat} {T : TS}
theorem CE.setO (w : CE h P cap tmo clk cl cut X sy torn tE tp an T) {clk' cut' : Nat} {cl' : Bool} (hF : Fr [0] h h') (ho : h'.2.2 0 = ocell (P, cap, tmo, clk', cl', cut', T.2.2.2.2.2.2.2.2.2.1)) (h1 : clk' ≤ 1000000) (h2 : cut' < 2 ^ 30) : CE h' P cap tmo clk' cl' cut' X sy torn tE tp an T := by
  obtain ⟨n, ep, tx, bg, ba, ad, lc, de, mq, nx, la, en⟩ := T
  obtain ⟨pr, mk, w, hpr, hmk, hsy⟩ := w
  have hs := w.2.1
  unfold scOk at hs
  simp only at hs
  refine ⟨pr, mk, w.obj hF ho ?_, hpr, hmk, hsy⟩
  unfold scOk
  simp only
  omega
theorem CE.setA (w : CE h P cap tmo clk cl cut X sy torn tE tp an T) {an' : List Nat} (hF : Fr [3, 4] h h') (ho : RowAt h' 3 4 40 an') : CE h' P cap tmo clk cl cut X sy torn tE tp an' T := by
  obtain ⟨n, ep, tx, bg, ba, ad, lc, de, mq, nx, la, en⟩ := T
  obtain ⟨pr, mk, w, hpr, hmk, hsy⟩ := w
  exact ⟨pr, mk, w.ans hF ho, hpr, hmk, hsy⟩
theorem CE.setT (w : CE h P cap tmo clk cl cut X sy torn tE tp an T) {tp' : List Nat} (hF : Fr [1, 2] h h') (ho : RowAt h' 1 2 40 tp') : CE h' P cap tmo clk cl cut X sy torn tE tp' an T := by
  obtain ⟨n, ep, tx, bg, ba, ad, lc, de, mq, nx, la, en⟩ := T
  obtain ⟨pr, mk, w, hpr, hmk, hsy⟩ := w
  exact ⟨pr, mk, w.tape hF ho, hpr, hmk, hsy⟩
theorem CE.setL (w : CE h P cap tmo clk cl cut X sy torn tE tp an T) {p : Nat} (hp : p < P) (hF : Fr [16 + 6 * p + 4, 16 + 6 * p + 5] h h') (hl : LogAt h' (16 + 6 * p) (fl p X) (tnO P torn tE p)) : CE h' P cap tmo clk cl cut X sy torn tE tp an T := by
  have hok := w.ok
  obtain ⟨n, ep, tx, bg, ba, ad, lc, de, mq, nx, la, en⟩ := T
  obtain ⟨pr, mk, w, hpr, hmk, hsy⟩ := w
  have h1 := w.log (p0 := p) (by omega) (FS.of hF (by intro k hk; simp at hk; omega)) hl
  have e1 : va_up (lgO P X) p (fl p X) = lgO P X := by
    funext q
    by_cases z : q = p
    · subst z; rw [va_up_self]; unfold lgO; rw [if_pos hp]
    · rw [va_up_ne _ _ z]
  have e2 : va_up (tnO P torn tE) p (tnO P torn tE p) = tnO P torn tE := by
    funext q
    by_cases z : q = p
    · subst z; rw [va_up_self]
    · rw [va_up_ne _ _ z]
  rw [e1, e2] at h1
  exact ⟨pr, mk, h1, hpr, hmk, hsy⟩
theorem CE.tape (w : CE h P cap tmo clk cl cut X sy torn tE tp an T) : RowAt h 1 2 40 tp := by
  obtain ⟨n, ep, tx, bg, ba, ad, lc, de, mq, nx, la, en⟩ := T
  obtain ⟨pr, mk, w, -⟩ := w
  exact w.2.2.1
theorem CE.answ (w : CE h P cap tmo clk cl cut X sy torn tE tp an T) : RowAt h 3 4 40 an := by
  obtain ⟨n, ep, tx, bg, ba, ad, lc, de, mq, nx, la, en⟩ := T
  obtain ⟨pr, mk, w, -⟩ := w
  exact w.2.2.2.1
theorem CE.uns (w : CE h P cap tmo clk cl cut X sy torn tE tp an T) : UnsAt h 10 (unO P X sy) := by
  obtain ⟨n, ep, tx, bg, ba, ad, lc, de, mq, nx, la, en⟩ := T
  obtain ⟨pr, mk, w, -⟩ := w
  exact w.2.2.2.2.2.2.2.1
theorem unO_tot : tot (unO P X sy) = sumOn (sz P) (X.drop sy) := by
  unfold tot unO sumOn
  rw [List.map_map]
  rfl
theorem c_mark (g p o : Int32) (hs : SI (P, cap, tmo, clk, cl, cut, X, sy, torn, tE, tp, an)) (w : CS h (P, cap, tmo, clk, cl, cut, X, sy, torn, tE, tp, an)) : ev (d + 7) n_X4_mark [.ref 0, .int g, .int p, .int o] h (fun u => u.1 = some (.int (F_mark (P, cap, tmo, clk, cl, cut, X, sy, torn, tE, tp, an) g p o).1) ∧ FS cC h u.2 ∧ CS u.2 (F_mark (P, cap, tmo, clk, cl, cut, X, sy, torn, tE, tp, an) g p o).2) := by
  obtain ⟨s1, s2, s3, s4, s5, s6, s7, s8, s9, hv, s11, -⟩ := hs
  have w' : CE h P cap tmo clk cl cut X sy torn tE tp an (tS cl P X) := w
  have w1 := w'.obj'
  simp only [F_mark]
  refine ev_of q_X4_mark (Nat.le_of_ble_eq_true rfl) ?_
  refine gs_n 1 a_X4_mark_0 rfl ?_
  refine gs_get 4 a_X4_mark_1 f_4_63 (by first | assumption | exact hs_same _ _ _ | exact (hs_ne _ _ (by first | assumption | decide | omega)).trans (by first | assumption | exact hs_same _ _ _ | exact (hs_ne _ _ (by first | assumption | decide | omega)).trans (by first | assumption | exact hs_same _ _ _ | exact (hs_ne _ _ (by first | assumption | decide | omega)).trans (by first | assumption | exact hs_same _ _ _ | exact (hs_ne _ _ (by first | assumption | decide | omega)).trans (by first | assumption | exact hs_same _ _ _))))) rfl rfl ?_
  refine gs_if 9 7 a_X4_mark_4 rfl rfl (fun c4 => ?_) (fun c4 => ?_)
  · have c4 := (b01_0 _).mp c4
    subst c4
    obtain ⟨rfl, hnd⟩ := s11 rfl
    rw [tS_f] at w' w1
    simp only [Bool.false_eq_true, if_false]
    refine gs_n 10 a_X4_mark_9 rfl ?_
    refine gs_n 11 a_X4_mark_10 rfl ?_
    refine gs_n 12 a_X4_mark_11 rfl ?_
    refine gs_cv 15 a_X4_mark_12 k_4_112 q_X4_isPlace (c_isPlace g p w') rfl rfl rfl (by simp [Value.category]) (by first | assumption | exact hs_same _ _ _ | exact (hs_ne _ _ (by first | assumption | decide | omega)).trans (by first | assumption | exact hs_same _ _ _ | exact (hs_ne _ _ (by first | assumption | decide | omega)).trans (by first | assumption | exact hs_same _ _ _ | exact (hs_ne _ _ (by first | assumption | decide | omega)).trans (by first | assumption | exact hs_same _ _ _ | exact (hs_ne _ _ (by first | assumption | decide | omega)).trans (by first | assumption | exact hs_same _ _ _))))) rfl (fun v h1 hp => ?_)
    cases hp
    refine gs_if 22 18 a_X4_mark_15 rfl rfl (fun c15 => ?_) (fun c15 => ?_)
    · have c15 := (b01_0 _).mp c15
      rw [if_pos (by rw [c15]; rfl)]
      refine gs_k (-2) 24 a_X4_mark_22 (by decide +kernel) rfl ?_
      refine gs_iret a_X4_mark_24 rfl rfl ?_
      exact ⟨rfl, FS.rf _ _, w⟩
    · have c15 := (b01_ne _).mp c15
      refine gs_n 19 a_X4_mark_18 rfl ?_
      refine gs_if 25 22 a_X4_mark_19 rfl rfl (fun c19 => ?_) (fun c19 => ?_)
      · have c19 : 0 ≤ o := c19
        have o1 : 0 ≤ o.toInt := by
          have := (lt0_iff o)
          rw [Int32.le_iff_toInt_le] at c19
          simpa using c19
        rw [if_neg (by rw [c15, decide_eq_true o1]; simp)]
        obtain ⟨g1, g2, p1, p2⟩ := isPlF_kn c15
        have o2 := nI_ofInt o1
        have o3 : kn o < 2 ^ 31 := by have := o.toInt_lt; unfold kn; omega
        change o = nI (kn o) at o2
        generalize hkg : kn g = gg at *
        generalize hkp : kn p = pp at *
        generalize hko : kn o = oo at *
        subst g2
        subst p2
        subst o2
        refine gs_n 26 a_X4_mark_25 rfl ?_
        refine gs_k (nI 0) 27 a_X4_mark_26 (by decide +kernel) rfl ?_
        refine gs_cv 30 a_X4_mark_27 k_4_82 q_X4_bookHasRoom (c_bookRoom (more := 0) (by omega) (told_n hv) (fun k hk => (T_b hv false k hk).2.1) w') rfl rfl rfl (by simp [Value.category]) (by first | assumption | exact hs_same _ _ _ | exact (hs_ne _ _ (by first | assumption | decide | omega)).trans (by first | assumption | exact hs_same _ _ _ | exact (hs_ne _ _ (by first | assumption | decide | omega)).trans (by first | assumption | exact hs_same _ _ _ | exact (hs_ne _ _ (by first | assumption | decide | omega)).trans (by first | assumption | exact hs_same _ _ _ | exact (hs_ne _ _ (by first | assumption | decide | omega)).trans (by first | assumption | exact hs_same _ _ _))))) rfl (fun v h1 hp => ?_)
        cases hp
        refine gs_if 36 33 a_X4_mark_30 rfl rfl (fun c34 => ?_) (fun c34 => ?_)
        · have c34 := (b01_ne _).mp c34
          rw [if_neg (by rw [c34]; simp)]
          have hrm := room_sm hnd c34
          obtain ⟨n, ep, tx, bg, ba, ad, lc, de, mq, nx, la, en, hT⟩ := told_ex P X
          have hg : GT P cap X (n, ep, tx, bg, ba, ad, lc, de, mq, nx, la, en) := hT ▸ pv_all hv
          rw [hT] at w' w1 hrm
          simp only at hrm w1
          have hb := pv_mark s2 hv hT (a := 8 * gg + pp) (b := oo) (by omega) o3 (by omega)
          refine gs_n 37 a_X4_mark_36 rfl ?_
          refine gs_k (nI 6) 39 a_X4_mark_37 (by decide +kernel) rfl ?_
          refine gs_k (nI 0) 40 a_X4_mark_39 (by decide +kernel) rfl ?_
          refine gs_k (nI 0) 41 a_X4_mark_40 (by decide +kernel) rfl ?_
          refine gs_n 42 a_X4_mark_41 rfl ?_
          refine gs_n 43 a_X4_mark_42 rfl ?_
          refine gs_n 44 a_X4_mark_43 rfl ?_
          refine gs_cv 47 a_X4_mark_44 k_4_116 q_X4_placeOf (e_placeOf gg pp) rfl rfl rfl (by simp [Value.category]) (by first | assumption | exact hs_same _ _ _ | exact (hs_ne _ _ (by first | assumption | decide | omega)).trans (by first | assumption | exact hs_same _ _ _ | exact (hs_ne _ _ (by first | assumption | decide | omega)).trans (by first | assumption | exact hs_same _ _ _ | exact (hs_ne _ _ (by first | assumption | decide | omega)).trans (by first | assumption | exact hs_same _ _ _ | exact (hs_ne _ _ (by first | assumption | decide | omega)).trans (by first | assumption | exact hs_same _ _ _))))) rfl (fun v h1 hp => ?_)
          cases hp
          refine gs_n 48 a_X4_mark_47 rfl ?_
          refine gs_cv 51 a_X4_mark_48 k_4_101 q_X4_writeToBook (c_book 6 0 0 (8 * gg + pp) oo s4 s2 (okE_book s2 (by omega) (by omega) (by omega) (by omega) (by omega) (by omega)) hg (by show 16 * n + 16 ≤ 16000; omega) (by omega) (by omega) w') rfl rfl rfl (by simp [Value.category]) (by first | assumption | exact hs_same _ _ _ | exact (hs_ne _ _ (by first | assumption | decide | omega)).trans (by first | assumption | exact hs_same _ _ _ | exact (hs_ne _ _ (by first | assumption | decide | omega)).trans (by first | assumption | exact hs_same _ _ _ | exact (hs_ne _ _ (by first | assumption | decide | omega)).trans (by first | assumption | exact hs_same _ _ _ | exact (hs_ne _ _ (by first | assumption | decide | omega)).trans (by first | assumption | exact hs_same _ _ _))))) rfl (fun v h2 hp => ?_)
          obtain ⟨e1, hF1, w3⟩ := hp
          simp only at e1
          subst e1
          refine gs_k (nI 0) 52 a_X4_mark_51 (by decide +kernel) rfl ?_
          refine gs_iret a_X4_mark_52 rfl rfl ?_
          refine ⟨rfl, hF1, ?_⟩
          show CE h2 P cap tmo clk false cut _ sy 0 tE tp an (tS false P _)
          rw [tS_f, hb.2]
          exact w3
        · have c34 : bkF (told P X) 0 = false := (b01_0 _).mp (Classical.byContradiction c34)
          rw [if_pos c34]
          refine gs_k (-8) 35 a_X4_mark_33 (by decide +kernel) rfl ?_
          refine gs_iret a_X4_mark_35 rfl rfl ?_
          exact ⟨rfl, FS.rf _ _, w⟩
      · have c19 : ¬ 0 ≤ o := c19
        have o1 : ¬ 0 ≤ o.toInt := by
          rw [Int32.le_iff_toInt_le] at c19
          simpa using c19
        rw [if_pos (by rw [c15, decide_eq_false o1]; rfl)]
        refine gs_k (-2) 24 a_X4_mark_22 (by decide +kernel) rfl ?_
        refine gs_iret a_X4_mark_24 rfl rfl ?_
        exact ⟨rfl, FS.rf _ _, w⟩
  · have c4 := (b01_ne _).mp c4
    rw [if_pos c4]
    refine gs_k (-1) 8 a_X4_mark_7 (by decide +kernel) rfl ?_
    refine gs_iret a_X4_mark_8 rfl rfl ?_
    exact ⟨rfl, FS.rf _ _, w⟩
theorem c_marked (g p : Int32) (hs : SI (P, cap, tmo, clk, cl, cut, X, sy, torn, tE, tp, an)) (w : CS h (P, cap, tmo, clk, cl, cut, X, sy, torn, tE, tp, an)) : ev (d + 3) n_X4_marked [.ref 0, .int g, .int p] h (fun u => u = (some (.int (F_marked (P, cap, tmo, clk, cl, cut, X, sy, torn, tE, tp, an) g p)), h)) := by
  obtain ⟨s1, s2, s3, s4, s5, s6, s7, s8, s9, hv, s11, -⟩ := hs
  have w' : CE h P cap tmo clk cl cut X sy torn tE tp an (tS cl P X) := w
  have w1 := w'.obj'
  simp only [F_marked]
  refine ev_of q_X4_marked (Nat.le_of_ble_eq_true rfl) ?_
  refine gs_n 1 a_X4_marked_0 rfl ?_
  refine gs_get 4 a_X4_marked_1 f_4_63 (by first | assumption | exact hs_same _ _ _ | exact (hs_ne _ _ (by first | assumption | decide | omega)).trans (by first | assumption | exact hs_same _ _ _ | exact (hs_ne _ _ (by first | assumption | decide | omega)).trans (by first | assumption | exact hs_same _ _ _ | exact (hs_ne _ _ (by first | assumption | decide | omega)).trans (by first | assumption | exact hs_same _ _ _ | exact (hs_ne _ _ (by first | assumption | decide | omega)).trans (by first | assumption | exact hs_same _ _ _))))) rfl rfl ?_
  refine gs_if 16 7 a_X4_marked_4 rfl rfl (fun c4 => ?_) (fun c4 => ?_)
  · have c4 := (b01_ne _).mp c4
    refine gs_k (-1) 17 a_X4_marked_16 (by decide +kernel) rfl ?_
    refine gs_iret a_X4_marked_17 rfl rfl ?_
    rw [c4, if_pos (by simp)]
  · have c4 : cl = false := (b01_0 _).mp (Classical.byContradiction c4)
    subst c4
    refine gs_n 8 a_X4_marked_7 rfl ?_
    refine gs_n 9 a_X4_marked_8 rfl ?_
    refine gs_n 10 a_X4_marked_9 rfl ?_
    refine gs_cv 13 a_X4_marked_10 k_4_112 q_X4_isPlace (c_isPlace g p w') rfl rfl rfl (by simp [Value.category]) (by first | assumption | exact hs_same _ _ _ | exact (hs_ne _ _ (by first | assumption | decide | omega)).trans (by first | assumption | exact hs_same _ _ _ | exact (hs_ne _ _ (by first | assumption | decide | omega)).trans (by first | assumption | exact hs_same _ _ _ | exact (hs_ne _ _ (by first | assumption | decide | omega)).trans (by first | assumption | exact hs_same _ _ _ | exact (hs_ne _ _ (by first | assumption | decide | omega)).trans (by first | assumption | exact hs_same _ _ _))))) rfl (fun v h1 hp => ?_)
    cases hp
    refine gs_if 18 16 a_X4_marked_13 rfl rfl (fun c13 => ?_) (fun c13 => ?_)
    · have c13 := (b01_ne _).mp c13
      obtain ⟨g1, g2, p1, p2⟩ := isPlF_kn c13
      rw [if_neg (by rw [c13]; simp)]
      generalize hkg : kn g = gg at *
      generalize hkp : kn p = pp at *
      subst g2
      subst p2
      have hmk : ∃ f, h.2.2 15 = .inl (.int, 64, .inl f) ∧ f (8 * gg + pp) = m1 ((told P X).2.2.2.2.2.2.2.2.1 (8 * gg + pp)) := by
        rw [tS_f] at w'
        obtain ⟨n, ep, tx, bg, ba, ad, lc, de, mq, nx, la, en, hT⟩ := told_ex P X
        rw [hT] at w' ⊢
        obtain ⟨pr, mk, w', hpr, hmk, hsy⟩ := w'
        obtain ⟨f, f1, f2⟩ := w'.2.2.2.2.2.2.2.2.2.1
        exact ⟨f, f1, by rw [f2 _ (by omega), hmk _ (by omega)]⟩
      obtain ⟨f, f1, f2⟩ := hmk
      refine gs_n 19 a_X4_marked_18 rfl ?_
      refine gs_get 22 a_X4_marked_19 f_4_46 (by first | assumption | exact hs_same _ _ _ | exact (hs_ne _ _ (by first | assumption | decide | omega)).trans (by first | assumption | exact hs_same _ _ _ | exact (hs_ne _ _ (by first | assumption | decide | omega)).trans (by first | assumption | exact hs_same _ _ _ | exact (hs_ne _ _ (by first | assumption | decide | omega)).trans (by first | assumption | exact hs_same _ _ _ | exact (hs_ne _ _ (by first | assumption | decide | omega)).trans (by first | assumption | exact hs_same _ _ _))))) rfl rfl ?_
      refine gs_n 23 a_X4_marked_22 rfl ?_
      refine gs_n 24 a_X4_marked_23 rfl ?_
      refine gs_n 25 a_X4_marked_24 rfl ?_
      refine gs_cv 28 a_X4_marked_25 k_4_116 q_X4_placeOf (e_placeOf gg pp) rfl rfl rfl (by simp [Value.category]) (by first | assumption | exact hs_same _ _ _ | exact (hs_ne _ _ (by first | assumption | decide | omega)).trans (by first | assumption | exact hs_same _ _ _ | exact (hs_ne _ _ (by first | assumption | decide | omega)).trans (by first | assumption | exact hs_same _ _ _ | exact (hs_ne _ _ (by first | assumption | decide | omega)).trans (by first | assumption | exact hs_same _ _ _ | exact (hs_ne _ _ (by first | assumption | decide | omega)).trans (by first | assumption | exact hs_same _ _ _))))) rfl (fun v h1 hp => ?_)
      cases hp
      refine gs_ia (8 * gg + pp) 29 a_X4_marked_28 (by first | assumption | exact hs_same _ _ _ | exact (hs_ne _ _ (by first | assumption | decide | omega)).trans (by first | assumption | exact hs_same _ _ _ | exact (hs_ne _ _ (by first | assumption | decide | omega)).trans (by first | assumption | exact hs_same _ _ _ | exact (hs_ne _ _ (by first | assumption | decide | omega)).trans (by first | assumption | exact hs_same _ _ _ | exact (hs_ne _ _ (by first | assumption | decide | omega)).trans (by first | assumption | exact hs_same _ _ _))))) rfl (by omega) (by omega) rfl ?_
      rw [f2]
      refine gs_iret a_X4_marked_29 rfl rfl ?_
      rfl
    · have c13 : isPlF P g p = false := (b01_0 _).mp (Classical.byContradiction c13)
      refine gs_k (-1) 17 a_X4_marked_16 (by decide +kernel) rfl ?_
      refine gs_iret a_X4_marked_17 rfl rfl ?_
      rw [c13, if_pos (by simp)]
theorem c_tick (x : Int32) (hs : SI (P, cap, tmo, clk, cl, cut, X, sy, torn, tE, tp, an)) (w : CS h (P, cap, tmo, clk, cl, cut, X, sy, torn, tE, tp, an)) : ev (d + 8) n_X4_tick [.ref 0, .int x] h (fun u => u.1 = some (.int (F_tick (P, cap, tmo, clk, cl, cut, X, sy, torn, tE, tp, an) x).1) ∧ FS cC h u.2 ∧ CS u.2 (F_tick (P, cap, tmo, clk, cl, cut, X, sy, torn, tE, tp, an) x).2) := by
  obtain ⟨s1, s2, s3, s4, s5, s6, s7, s8, s9, hv, s11, -⟩ := hs
  have w' : CE h P cap tmo clk cl cut X sy torn tE tp an (tS cl P X) := w
  have w1 := w'.obj'
  simp only [F_tick]
  refine ev_of q_X4_tick (Nat.le_of_ble_eq_true rfl) ?_
  refine gs_n 1 a_X4_tick_0 rfl ?_
  refine gs_if 22 4 a_X4_tick_1 rfl rfl (fun c1 => ?_) (fun c1 => ?_)
  · have c1 : x < 0 := c1
    rw [lt0_iff] at c1
    rw [if_pos (Or.inl c1)]
    refine gs_k (-2) 24 a_X4_tick_22 (by decide +kernel) rfl ?_
    refine gs_iret a_X4_tick_24 rfl rfl ?_
    exact ⟨rfl, FS.rf _ _, w⟩
  · have c1 : ¬ x < 0 := c1
    rw [lt0_iff] at c1
    refine gs_n 5 a_X4_tick_4 rfl ?_
    refine gs_k (nI 1000) 8 a_X4_tick_5 (by decide +kernel) rfl ?_
    refine gs_ic 22 11 a_X4_tick_8 rfl rfl (fun c8 => ?_) (fun c8 => ?_)
    · have c8 : nI 1000 < x := c8
      rw [lt_lit (by omega)] at c8
      rw [if_pos (by omega)]
      refine gs_k (-2) 24 a_X4_tick_22 (by decide +kernel) rfl ?_
      refine gs_iret a_X4_tick_24 rfl rfl ?_
      exact ⟨rfl, FS.rf _ _, w⟩
    · have c8 : ¬ nI 1000 < x := c8
      rw [lt_lit (by omega)] at c8
      have hx : x = nI (kn x) := nI_ofInt (by omega)
      have hkx : kn x ≤ 1000 := by unfold kn; omega
      generalize hkk : kn x = m at *
      subst hx
      refine gs_n 12 a_X4_tick_11 rfl ?_
      refine gs_get 15 a_X4_tick_12 f_4_98 (by first | assumption | exact hs_same _ _ _ | exact (hs_ne _ _ (by first | assumption | decide | omega)).trans (by first | assumption | exact hs_same _ _ _ | exact (hs_ne _ _ (by first | assumption | decide | omega)).trans (by first | assumption | exact hs_same _ _ _ | exact (hs_ne _ _ (by first | assumption | decide | omega)).trans (by first | assumption | exact hs_same _ _ _ | exact (hs_ne _ _ (by first | assumption | decide | omega)).trans (by first | assumption | exact hs_same _ _ _))))) rfl rfl ?_
      refine gs_n 16 a_X4_tick_15 rfl ?_
      refine gs_n 17 a_X4_tick_16 rfl ?_
      refine gs_n 19 a_X4_tick_17 rfl ?_
      rw [nI_add]
      refine gs_ic 25 22 a_X4_tick_19 rfl rfl (fun c19 => ?_) (fun c19 => ?_)
      · have c19 : nI (clk + m) ≤ nI 1000000 := c19
        rw [le_lit (by omega), nI_toInt (by omega)] at c19
        rw [if_neg (by omega)]
        refine gs_n 26 a_X4_tick_25 rfl ?_
        refine gs_n 27 a_X4_tick_26 rfl ?_
        refine gs_get 30 a_X4_tick_27 f_4_98 (by first | assumption | exact hs_same _ _ _ | exact (hs_ne _ _ (by first | assumption | decide | omega)).trans (by first | assumption | exact hs_same _ _ _ | exact (hs_ne _ _ (by first | assumption | decide | omega)).trans (by first | assumption | exact hs_same _ _ _ | exact (hs_ne _ _ (by first | assumption | decide | omega)).trans (by first | assumption | exact hs_same _ _ _ | exact (hs_ne _ _ (by first | assumption | decide | omega)).trans (by first | assumption | exact hs_same _ _ _))))) rfl rfl ?_
        refine gs_n 31 a_X4_tick_30 rfl ?_
        refine gs_n 32 a_X4_tick_31 rfl ?_
        refine gs_put 35 _ a_X4_tick_32 f_4_98 (by first | assumption | exact hs_same _ _ _ | exact (hs_ne _ _ (by first | assumption | decide | omega)).trans (by first | assumption | exact hs_same _ _ _ | exact (hs_ne _ _ (by first | assumption | decide | omega)).trans (by first | assumption | exact hs_same _ _ _ | exact (hs_ne _ _ (by first | assumption | decide | omega)).trans (by first | assumption | exact hs_same _ _ _ | exact (hs_ne _ _ (by first | assumption | decide | omega)).trans (by first | assumption | exact hs_same _ _ _))))) (Nat.le_of_ble_eq_true rfl) rfl (fun z => absurd z (by decide)) rfl rfl ?_
        rw [nI_add]
        have w2 := w'.setO (h' := ix_set h 0 (ocell (P, cap, tmo, clk + m, cl, cut, (tS cl P X).2.2.2.2.2.2.2.2.2.1))) (clk' := clk + m) (cl' := cl) (cut' := cut) (Fr.set _ (by simp)) (hs_same _ _ _) (by omega) (by omega)
        have hF : FS cC h (ix_set h 0 (ocell (P, cap, tmo, clk + m, cl, cut, (tS cl P X).2.2.2.2.2.2.2.2.2.1))) := FS.of (Fr.set _ (List.mem_singleton.mpr rfl)) (by intro k hk; simp at hk; subst hk; unfold cC; omega)
        have k1 := w2.obj'
        change gs none _ _ (35, _, [], ix_set h 0 (ocell (P, cap, tmo, clk + m, cl, cut, (tS cl P X).2.2.2.2.2.2.2.2.2.1))) _
        generalize hh : ix_set h 0 (ocell (P, cap, tmo, clk + m, cl, cut, (tS cl P X).2.2.2.2.2.2.2.2.2.1)) = h2 at *
        refine gs_n 36 a_X4_tick_35 rfl ?_
        refine gs_get 39 a_X4_tick_36 f_4_63 (by first | assumption | exact hs_same _ _ _ | exact (hs_ne _ _ (by first | assumption | decide | omega)).trans (by first | assumption | exact hs_same _ _ _ | exact (hs_ne _ _ (by first | assumption | decide | omega)).trans (by first | assumption | exact hs_same _ _ _ | exact (hs_ne _ _ (by first | assumption | decide | omega)).trans (by first | assumption | exact hs_same _ _ _ | exact (hs_ne _ _ (by first | assumption | decide | omega)).trans (by first | assumption | exact hs_same _ _ _))))) rfl rfl ?_
        refine gs_if 46 42 a_X4_tick_39 rfl rfl (fun c39 => ?_) (fun c39 => ?_)
        · have c39 := (b01_0 _).mp c39
          subst c39
          obtain ⟨rfl, hnd⟩ := s11 rfl
          rw [tS_f] at w2
          rw [if_neg (by simp)]
          refine gs_n 47 a_X4_tick_46 rfl ?_
          refine gs_cv 50 a_X4_tick_47 k_4_121 q_X4_endOverdue (c_over hv hnd w2) rfl rfl rfl (by simp [Value.category]) (by first | assumption | exact hs_same _ _ _ | exact (hs_ne _ _ (by first | assumption | decide | omega)).trans (by first | assumption | exact hs_same _ _ _ | exact (hs_ne _ _ (by first | assumption | decide | omega)).trans (by first | assumption | exact hs_same _ _ _ | exact (hs_ne _ _ (by first | assumption | decide | omega)).trans (by first | assumption | exact hs_same _ _ _ | exact (hs_ne _ _ (by first | assumption | decide | omega)).trans (by first | assumption | exact hs_same _ _ _))))) rfl (fun v h3 hp => ?_)
          obtain ⟨e1, hF1, w3⟩ := hp
          simp only at e1
          subst e1
          refine gs_iret a_X4_tick_50 rfl rfl ?_
          exact ⟨rfl, hF.trans hF1, w3⟩
        · have c39 := (b01_ne _).mp c39
          rw [if_pos c39]
          refine gs_k (nI 0) 43 a_X4_tick_42 (by decide +kernel) rfl ?_
          refine gs_n 50 a_X4_tick_43 rfl ?_
          refine gs_iret a_X4_tick_50 rfl rfl ?_
          exact ⟨rfl, hF, w2⟩
      · have c19 : ¬ nI (clk + m) ≤ nI 1000000 := c19
        rw [le_lit (by omega), nI_toInt (by omega)] at c19
        rw [if_pos (by omega)]
        refine gs_k (-2) 24 a_X4_tick_22 (by decide +kernel) rfl ?_
        refine gs_iret a_X4_tick_24 rfl rfl ?_
        exact ⟨rfl, FS.rf _ _, w⟩
theorem c_answer (x : Int32) (w : CS h (P, cap, tmo, clk, cl, cut, X, sy, torn, tE, tp, an)) : ev (d + 2) n_X4_answer [.ref 0, .int x] h (fun u => u = (some (.int (F_answer (P, cap, tmo, clk, cl, cut, X, sy, torn, tE, tp, an) x)), h)) := by
  have w' : CE h P cap tmo clk cl cut X sy torn tE tp an (tS cl P X) := w
  have w1 := w'.obj'
  have k := w'.answ.1
  refine ev_of q_X4_answer (Nat.le_of_ble_eq_true rfl) ?_
  refine gs_n 1 a_X4_answer_0 rfl ?_
  refine gs_get 4 a_X4_answer_1 f_4_18 (by first | assumption | exact hs_same _ _ _ | exact (hs_ne _ _ (by first | assumption | decide | omega)).trans (by first | assumption | exact hs_same _ _ _ | exact (hs_ne _ _ (by first | assumption | decide | omega)).trans (by first | assumption | exact hs_same _ _ _ | exact (hs_ne _ _ (by first | assumption | decide | omega)).trans (by first | assumption | exact hs_same _ _ _ | exact (hs_ne _ _ (by first | assumption | decide | omega)).trans (by first | assumption | exact hs_same _ _ _))))) rfl rfl ?_
  refine gs_n 5 a_X4_answer_4 rfl ?_
  refine gs_cv 8 a_X4_answer_5 k_4_139 q_X0_at (e_at x w'.answ) rfl rfl rfl (by simp [Value.category]) (by first | assumption | exact hs_same _ _ _ | exact (hs_ne _ _ (by first | assumption | decide | omega)).trans (by first | assumption | exact hs_same _ _ _ | exact (hs_ne _ _ (by first | assumption | decide | omega)).trans (by first | assumption | exact hs_same _ _ _ | exact (hs_ne _ _ (by first | assumption | decide | omega)).trans (by first | assumption | exact hs_same _ _ _ | exact (hs_ne _ _ (by first | assumption | decide | omega)).trans (by first | assumption | exact hs_same _ _ _))))) rfl (fun v h1 hp => ?_)
  cases hp
  refine gs_iret a_X4_answer_8 rfl rfl ?_
  rfl
theorem c_sync (hs : SI (P, cap, tmo, clk, cl, cut, X, sy, torn, tE, tp, an)) (w : CS h (P, cap, tmo, clk, cl, cut, X, sy, torn, tE, tp, an)) : ev (d + 3) n_X4_sync [.ref 0] h (fun u => u.1 = some (.int (F_sync (P, cap, tmo, clk, cl, cut, X, sy, torn, tE, tp, an)).1) ∧ FS cC h u.2 ∧ CS u.2 (F_sync (P, cap, tmo, clk, cl, cut, X, sy, torn, tE, tp, an)).2) := by
  obtain ⟨s1, s2, s3, s4, s5, s6, s7, s8, s9, hv, s11, -⟩ := hs
  have w' : CE h P cap tmo clk cl cut X sy torn tE tp an (tS cl P X) := w
  have w1 := w'.obj'
  have hu := w'.uns
  have hu1 := hu.1
  rw [unO_tot] at hu1
  simp only [F_sync]
  refine ev_of q_X4_sync (Nat.le_of_ble_eq_true rfl) ?_
  refine gs_n 1 a_X4_sync_0 rfl ?_
  refine gs_get 4 a_X4_sync_1 f_4_63 (by first | assumption | exact hs_same _ _ _ | exact (hs_ne _ _ (by first | assumption | decide | omega)).trans (by first | assumption | exact hs_same _ _ _ | exact (hs_ne _ _ (by first | assumption | decide | omega)).trans (by first | assumption | exact hs_same _ _ _ | exact (hs_ne _ _ (by first | assumption | decide | omega)).trans (by first | assumption | exact hs_same _ _ _ | exact (hs_ne _ _ (by first | assumption | decide | omega)).trans (by first | assumption | exact hs_same _ _ _))))) rfl rfl ?_
  refine gs_if 9 7 a_X4_sync_4 rfl rfl (fun c4 => ?_) (fun c4 => ?_)
  · have c4 := (b01_0 _).mp c4
    rw [if_neg (by rw [c4]; simp)]
    refine gs_n 10 a_X4_sync_9 rfl ?_
    refine gs_get 13 a_X4_sync_10 f_4_36 (by first | assumption | exact hs_same _ _ _ | exact (hs_ne _ _ (by first | assumption | decide | omega)).trans (by first | assumption | exact hs_same _ _ _ | exact (hs_ne _ _ (by first | assumption | decide | omega)).trans (by first | assumption | exact hs_same _ _ _ | exact (hs_ne _ _ (by first | assumption | decide | omega)).trans (by first | assumption | exact hs_same _ _ _ | exact (hs_ne _ _ (by first | assumption | decide | omega)).trans (by first | assumption | exact hs_same _ _ _))))) rfl rfl ?_
    refine gs_get 16 a_X4_sync_13 f_4_142 (by first | assumption | exact hs_same _ _ _ | exact (hs_ne _ _ (by first | assumption | decide | omega)).trans (by first | assumption | exact hs_same _ _ _ | exact (hs_ne _ _ (by first | assumption | decide | omega)).trans (by first | assumption | exact hs_same _ _ _ | exact (hs_ne _ _ (by first | assumption | decide | omega)).trans (by first | assumption | exact hs_same _ _ _ | exact (hs_ne _ _ (by first | assumption | decide | omega)).trans (by first | assumption | exact hs_same _ _ _))))) rfl rfl ?_
    refine gs_n 17 a_X4_sync_16 rfl ?_
    refine gs_n 18 a_X4_sync_17 rfl ?_
    refine gs_get 21 a_X4_sync_18 f_4_36 (by first | assumption | exact hs_same _ _ _ | exact (hs_ne _ _ (by first | assumption | decide | omega)).trans (by first | assumption | exact hs_same _ _ _ | exact (hs_ne _ _ (by first | assumption | decide | omega)).trans (by first | assumption | exact hs_same _ _ _ | exact (hs_ne _ _ (by first | assumption | decide | omega)).trans (by first | assumption | exact hs_same _ _ _ | exact (hs_ne _ _ (by first | assumption | decide | omega)).trans (by first | assumption | exact hs_same _ _ _))))) rfl rfl ?_
    refine gs_cv 24 a_X4_sync_21 k_4_145 q_X3_clear (e_uclear hu) rfl rfl rfl (by simp [Value.category]) (by first | assumption | exact hs_same _ _ _ | exact (hs_ne _ _ (by first | assumption | decide | omega)).trans (by first | assumption | exact hs_same _ _ _ | exact (hs_ne _ _ (by first | assumption | decide | omega)).trans (by first | assumption | exact hs_same _ _ _ | exact (hs_ne _ _ (by first | assumption | decide | omega)).trans (by first | assumption | exact hs_same _ _ _ | exact (hs_ne _ _ (by first | assumption | decide | omega)).trans (by first | assumption | exact hs_same _ _ _))))) rfl (fun v h2 hp => ?_)
    obtain ⟨e1, hF, hu2⟩ := hp
    simp only at e1
    subst e1
    refine gs_n 25 a_X4_sync_24 rfl ?_
    refine gs_iret a_X4_sync_25 rfl rfl ?_
    refine ⟨rfl, FS.of hF (by intro k hk; simp at hk; unfold cC; omega), ?_⟩
    show CE h2 P cap tmo clk cl cut X X.length torn tE tp an (tS cl P X)
    generalize tS cl P X = T at *
    obtain ⟨n, ep, tx, bg, ba, ad, lc, de, mq, nx, la, en⟩ := T
    obtain ⟨pr, mk, w', hpr, hmk, hsy⟩ := w'
    refine ⟨pr, mk, ?_, hpr, hmk, Nat.le_refl _⟩
    rw [show unO P X X.length = [] by unfold unO; rw [List.drop_length]; rfl]
    exact w'.uns (hF.mono (by intro k hk; simp at hk ⊢; omega)) hu2
  · have c4 := (b01_ne _).mp c4
    rw [if_pos c4]
    refine gs_k (-1) 8 a_X4_sync_7 (by decide +kernel) rfl ?_
    refine gs_iret a_X4_sync_8 rfl rfl ?_
    exact ⟨rfl, FS.rf _ _, w⟩
end C6
