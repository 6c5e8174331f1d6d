/-! OnceLedger: register, begin, end, later, mark, tick -/
section C4
variable {d : Nat} {h : ix_H} {P cap tmo clk cut sy torn : Nat} {cl : Bool} {X : List En} {tE : En} {tp an : List Nat}
theorem l_over : ∀ (r j c : Nat) (X : List En) (h : ix_H), j + r = 32 → c ≤ j → pv P cap X → noDec P X → CE h P cap tmo clk cl cut X sy 0 tE tp an (told P X) →
    gs none (d + 6) mD_X4_endOverdue (4, [(2, .int (nI j)), (1, .int (nI c)), (0, .ref 0)], [], h) (fun u => u.1 = some (.int (nI (c + (ovr (txF P) (dueT P tmo clk) (stepT P) r X).1))) ∧ FS cC h u.2 ∧ CE u.2 P cap tmo clk cl cut (ovr (txF P) (dueT P tmo clk) (stepT P) r X).2 sy 0 tE tp an (told P (ovr (txF P) (dueT P tmo clk) (stepT P) r X).2)) := by
  intro r
  induction r with
  | zero =>
    intro j c X h hj hc hv hn w
    obtain rfl : j = 32 := by omega
    refine gs_n 5 a_X4_endOverdue_4 rfl ?_
    refine gs_k (nI 32) 7 a_X4_endOverdue_5 (by decide +kernel) rfl ?_
    refine gs_ic 49 10 a_X4_endOverdue_7 rfl rfl (fun c7 => ?_) (fun c7 => ?_)
    · refine gs_n 50 a_X4_endOverdue_49 rfl ?_
      refine gs_iret a_X4_endOverdue_50 rfl rfl ?_
      exact ⟨rfl, FS.rf _ _, w⟩
    · exact absurd (nI_le (Nat.le_refl 32) (by omega)) c7
  | succ r ih =>
    intro j c X h hj hc hv hn w
    have hok := w.ok
    obtain ⟨n, ep, tx, bg, ba, ad, lc, de, mq, nx, la, en, hT⟩ := told_ex P X
    have hg : GT P cap X (n, ep, tx, bg, ba, ad, lc, de, mq, nx, la, en) := hT ▸ pv_all hv
    have hr := hg.2.2.2.2.1
    have wT := w
    rw [hT] at wT
    have hcell : ∃ fs, h.2.2 0 = .inr (4, fs) := ⟨_, wT.obj⟩
    obtain ⟨fs, h0⟩ := hcell
    have cf := c_first (d := d + 4) false (dueT P tmo clk X) (txF P X) hg.1 (by omega) (fun k hk => by unfold dueT; rw [hT]; rfl) (fun k hk => by unfold txF; rw [if_pos hk, hT]) wT
    refine gs_n 5 a_X4_endOverdue_4 rfl ?_
    refine gs_k (nI 32) 7 a_X4_endOverdue_5 (by decide +kernel) rfl ?_
    refine gs_ic 49 10 a_X4_endOverdue_7 rfl rfl (fun c7 => ?_) (fun c7 => ?_)
    · exact absurd c7 (nI_ge (by omega) (by omega))
    · refine gs_n 11 a_X4_endOverdue_10 rfl ?_
      refine gs_k (nI 0) 12 a_X4_endOverdue_11 (by decide +kernel) rfl ?_
      refine gs_cv 15 a_X4_endOverdue_12 k_4_292 q_X4_firstToEnd cf rfl rfl rfl (by simp [Value.category]) (by first | assumption | exact hs_same _ _ _ | exact (hs_ne _ _ (by first | assumption | decide | omega)).trans (by first | assumption | exact hs_same _ _ _ | exact (hs_ne _ _ (by first | assumption | decide | omega)).trans (by first | assumption | exact hs_same _ _ _ | exact (hs_ne _ _ (by first | assumption | decide | omega)).trans (by first | assumption | exact hs_same _ _ _ | exact (hs_ne _ _ (by first | assumption | decide | omega)).trans (by first | assumption | exact hs_same _ _ _))))) rfl (fun v h1 hp => ?_)
      cases hp
      cases hf : fte (dueT P tmo clk X) (txF P X) 32 with
      | none =>
        simp only [oI]
        refine gs_n 16 a_X4_endOverdue_15 rfl ?_
        refine gs_n 17 a_X4_endOverdue_16 rfl ?_
        refine gs_k (-1) 18 a_X4_endOverdue_17 (by decide +kernel) rfl ?_
        refine gs_ic 24 21 a_X4_endOverdue_18 rfl rfl (fun c18 => ?_) (fun c18 => ?_)
        · exact absurd rfl c18
        · refine gs_n 49 a_X4_endOverdue_21 rfl ?_
          refine gs_n 50 a_X4_endOverdue_49 rfl ?_
          refine gs_iret a_X4_endOverdue_50 rfl rfl ?_
          simp only [ovr, hf]
          exact ⟨rfl, FS.rf _ _, w⟩
      | some k =>
        obtain ⟨hk, -, ht⟩ := fte_ok hf
        unfold txF at ht
        rw [if_pos hk] at ht
        have hd := hn k hk
        simp only [oI]
        refine gs_n 16 a_X4_endOverdue_15 rfl ?_
        refine gs_n 17 a_X4_endOverdue_16 rfl ?_
        refine gs_k (-1) 18 a_X4_endOverdue_17 (by decide +kernel) rfl ?_
        refine gs_ic 24 21 a_X4_endOverdue_18 rfl rfl (fun c18 => ?_) (fun c18 => ?_)
        · refine gs_n 25 a_X4_endOverdue_24 rfl ?_
          refine gs_n 26 a_X4_endOverdue_25 rfl ?_
          refine gs_k (nI 0) 27 a_X4_endOverdue_26 (by decide +kernel) rfl ?_
          have s1 := dec_pv (c := 0) (by omega) hok.2.1 hk hv ht hd
          have s2 := fin_pv (c := 0) (by omega) hok.2.1 hk hv hn ht
          have s3 := regX_pv hok.2.1 hk s2.1 s2.2.2.1 s2.2.2.2.2
          refine gs_cv 30 a_X4_endOverdue_27 k_4_75 q_X4_decide (c_decX false hk hv ht hd w) rfl rfl rfl (by simp [Value.category]) (by first | assumption | exact hs_same _ _ _ | exact (hs_ne _ _ (by first | assumption | decide | omega)).trans (by first | assumption | exact hs_same _ _ _ | exact (hs_ne _ _ (by first | assumption | decide | omega)).trans (by first | assumption | exact hs_same _ _ _ | exact (hs_ne _ _ (by first | assumption | decide | omega)).trans (by first | assumption | exact hs_same _ _ _ | exact (hs_ne _ _ (by first | assumption | decide | omega)).trans (by first | assumption | exact hs_same _ _ _))))) rfl (fun v h1 hp => ?_)
          obtain ⟨e1, hF1, w1⟩ := hp
          simp only at e1
          subst e1
          simp only [Bool.false_eq_true, if_false] at w1
          have h01 : ∃ fs, h1.2.2 0 = .inr (4, fs) := by
            obtain ⟨n', ep', tx', bg', ba', ad', lc', de', mq', nx', la', en', hT'⟩ := told_ex P (decX P X k 0)
            rw [hT'] at w1
            exact ⟨_, w1.obj⟩
          obtain ⟨fs1, h01⟩ := h01
          refine gs_n 31 a_X4_endOverdue_30 rfl ?_
          refine gs_n 32 a_X4_endOverdue_31 rfl ?_
          refine gs_cv 35 a_X4_endOverdue_32 k_4_79 q_X4_finish (c_finX hk s1.1 s1.2.1 s1.2.2 w1) rfl rfl rfl (by simp [Value.category]) (by first | assumption | exact hs_same _ _ _ | exact (hs_ne _ _ (by first | assumption | decide | omega)).trans (by first | assumption | exact hs_same _ _ _ | exact (hs_ne _ _ (by first | assumption | decide | omega)).trans (by first | assumption | exact hs_same _ _ _ | exact (hs_ne _ _ (by first | assumption | decide | omega)).trans (by first | assumption | exact hs_same _ _ _ | exact (hs_ne _ _ (by first | assumption | decide | omega)).trans (by first | assumption | exact hs_same _ _ _))))) rfl (fun v h2 hp => ?_)
          obtain ⟨e1, hF2, w2⟩ := hp
          simp only at e1
          subst e1
          have h02 : ∃ fs, h2.2.2 0 = .inr (4, fs) := by
            obtain ⟨n', ep', tx', bg', ba', ad', lc', de', mq', nx', la', en', hT'⟩ := told_ex P (finX P (decX P X k 0) k)
            rw [hT'] at w2
            exact ⟨_, w2.obj⟩
          obtain ⟨fs2, h02⟩ := h02
          refine gs_n 36 a_X4_endOverdue_35 rfl ?_
          refine gs_n 37 a_X4_endOverdue_36 rfl ?_
          refine gs_cv 40 a_X4_endOverdue_37 k_4_85 q_X4_raiseEpoch (c_regX hk s2.1 s2.2.2.1 s2.2.2.2.2 w2) rfl rfl rfl (by simp [Value.category]) (by first | assumption | exact hs_same _ _ _ | exact (hs_ne _ _ (by first | assumption | decide | omega)).trans (by first | assumption | exact hs_same _ _ _ | exact (hs_ne _ _ (by first | assumption | decide | omega)).trans (by first | assumption | exact hs_same _ _ _ | exact (hs_ne _ _ (by first | assumption | decide | omega)).trans (by first | assumption | exact hs_same _ _ _ | exact (hs_ne _ _ (by first | assumption | decide | omega)).trans (by first | assumption | exact hs_same _ _ _))))) rfl (fun v h3 hp => ?_)
          obtain ⟨e1, hF3, w3⟩ := hp
          simp only at e1
          subst e1
          first | refine gs_inc _ 43 a_X4_endOverdue_40 rfl (Nat.le_of_ble_eq_true rfl) rfl ?_ | refine gs_n 43 a_X4_endOverdue_40 rfl ?_
          first | refine gs_inc _ 46 a_X4_endOverdue_43 rfl (Nat.le_of_ble_eq_true rfl) rfl ?_ | refine gs_n 46 a_X4_endOverdue_43 rfl ?_
          refine gs_n 4 a_X4_endOverdue_46 rfl ?_
          refine gs_w [(2, .int (nI (j + 1))), (1, .int (nI (c + 1))), (0, .ref 0)] (by simp [ix_nd]) (by intro x hx; simp only [List.mem_cons, List.not_mem_nil, or_false] at hx; rcases hx with rfl | rfl | rfl <;> rfl) ?_
          have hst : regX P (finX P (decX P X k 0) k) k = stepT P X k := rfl
          rw [hst] at w3 s3
          refine gs_post (ih (j + 1) (c + 1) (stepT P X k) h3 (by omega) (by omega) s3.1 (by intro i hi; rw [s3.2.1]; exact s2.2.1 i hi) w3) ?_
          rintro u ⟨q1, q2, q3⟩
          simp only [ovr, hf]
          refine ⟨?_, (hF1.trans hF2).trans (hF3.trans q2), q3⟩
          rw [q1]
          congr 3
          omega
        · have c18 : nI k = -1 := Classical.byContradiction c18
          have := (oI_no (x := some k) (fun f hf => by cases hf; exact hk)).mp c18
          cases this
theorem c_over (hv : pv P cap X) (hn : noDec P X) (w : CE h P cap tmo clk cl cut X sy 0 tE tp an (told P X)) : ev (d + 7) n_X4_endOverdue [.ref 0] h (fun u => u.1 = some (.int (nI (ovr (txF P) (dueT P tmo clk) (stepT P) 32 X).1)) ∧ FS cC h u.2 ∧ CE u.2 P cap tmo clk cl cut (ovr (txF P) (dueT P tmo clk) (stepT P) 32 X).2 sy 0 tE tp an (told P (ovr (txF P) (dueT P tmo clk) (stepT P) 32 X).2)) := by
  refine ev_of q_X4_endOverdue (Nat.le_of_ble_eq_true rfl) ?_
  refine gs_k (nI 0) 1 a_X4_endOverdue_0 (by decide +kernel) rfl ?_
  refine gs_n 2 a_X4_endOverdue_1 rfl ?_
  refine gs_k (nI 0) 3 a_X4_endOverdue_2 (by decide +kernel) rfl ?_
  refine gs_n 4 a_X4_endOverdue_3 rfl ?_
  refine gs_w [(2, .int (nI 0)), (1, .int (nI 0)), (0, .ref 0)] (by simp [ix_nd]) (by intro x hx; simp only [List.mem_cons, List.not_mem_nil, or_false] at hx; rcases hx with rfl | rfl | rfl <;> rfl) ?_
  have := l_over (d := d) 32 0 0 X h (by omega) (by omega) hv hn w
  rw [Nat.zero_add] at this
  exact this
theorem l_finD : ∀ (r j c : Nat) (X : List En) (h : ix_H), j + r = 32 → c ≤ j → pv P cap X → CE h P cap tmo clk cl cut X sy 0 tE tp an (told P X) →
    gs none (d + 6) mD_X4_finishDecided (4, [(2, .int (nI j)), (1, .int (nI c)), (0, .ref 0)], [], h) (fun u => u.1 = some (.int (nI (c + (ovr (txF P) (dueD P) (finX P) r X).1))) ∧ FS cC h u.2 ∧ CE u.2 P cap tmo clk cl cut (ovr (txF P) (dueD P) (finX P) r X).2 sy 0 tE tp an (told P (ovr (txF P) (dueD P) (finX P) r X).2)) := by
  intro r
  induction r with
  | zero =>
    intro j c X h hj hc hv w
    obtain rfl : j = 32 := by omega
    refine gs_n 5 a_X4_finishDecided_4 rfl ?_
    refine gs_k (nI 32) 7 a_X4_finishDecided_5 (by decide +kernel) rfl ?_
    refine gs_ic 38 10 a_X4_finishDecided_7 rfl rfl (fun c7 => ?_) (fun c7 => ?_)
    · refine gs_n 39 a_X4_finishDecided_38 rfl ?_
      refine gs_iret a_X4_finishDecided_39 rfl rfl ?_
      exact ⟨rfl, FS.rf _ _, w⟩
    · exact absurd (nI_le (Nat.le_refl 32) (by omega)) c7
  | succ r ih =>
    intro j c X h hj hc hv w
    have hok := w.ok
    obtain ⟨n, ep, tx, bg, ba, ad, lc, de, mq, nx, la, en, hT⟩ := told_ex P X
    have hg : GT P cap X (n, ep, tx, bg, ba, ad, lc, de, mq, nx, la, en) := hT ▸ pv_all hv
    have hr := hg.2.2.2.2.1
    have wT := w
    rw [hT] at wT
    have hcell : ∃ fs, h.2.2 0 = .inr (4, fs) := ⟨_, wT.obj⟩
    obtain ⟨fs, h0⟩ := hcell
    have cf := c_first (d := d + 4) true (dueD P X) (txF P X) hg.1 (by omega) (fun k hk => by unfold dueD; rw [hT]; rfl) (fun k hk => by unfold txF; rw [if_pos hk, hT]) wT
    refine gs_n 5 a_X4_finishDecided_4 rfl ?_
    refine gs_k (nI 32) 7 a_X4_finishDecided_5 (by decide +kernel) rfl ?_
    refine gs_ic 38 10 a_X4_finishDecided_7 rfl rfl (fun c7 => ?_) (fun c7 => ?_)
    · exact absurd c7 (nI_ge (by omega) (by omega))
    · refine gs_n 11 a_X4_finishDecided_10 rfl ?_
      refine gs_k (nI 1) 12 a_X4_finishDecided_11 (by decide +kernel) rfl ?_
      refine gs_cv 15 a_X4_finishDecided_12 k_4_292 q_X4_firstToEnd cf rfl rfl rfl (by simp [Value.category]) (by first | assumption | exact hs_same _ _ _ | exact (hs_ne _ _ (by first | assumption | decide | omega)).trans (by first | assumption | exact hs_same _ _ _ | exact (hs_ne _ _ (by first | assumption | decide | omega)).trans (by first | assumption | exact hs_same _ _ _ | exact (hs_ne _ _ (by first | assumption | decide | omega)).trans (by first | assumption | exact hs_same _ _ _ | exact (hs_ne _ _ (by first | assumption | decide | omega)).trans (by first | assumption | exact hs_same _ _ _))))) rfl (fun v h1 hp => ?_)
      cases hp
      cases hf : fte (dueD P X) (txF P X) 32 with
      | none =>
        simp only [oI]
        refine gs_n 16 a_X4_finishDecided_15 rfl ?_
        refine gs_n 17 a_X4_finishDecided_16 rfl ?_
        refine gs_k (-1) 18 a_X4_finishDecided_17 (by decide +kernel) rfl ?_
        refine gs_ic 24 21 a_X4_finishDecided_18 rfl rfl (fun c18 => ?_) (fun c18 => ?_)
        · exact absurd rfl c18
        · refine gs_n 38 a_X4_finishDecided_21 rfl ?_
          refine gs_n 39 a_X4_finishDecided_38 rfl ?_
          refine gs_iret a_X4_finishDecided_39 rfl rfl ?_
          simp only [ovr, hf]
          exact ⟨rfl, FS.rf _ _, w⟩
      | some k =>
        obtain ⟨hk, hdd, ht⟩ := fte_ok hf
        unfold txF at ht
        rw [if_pos hk] at ht
        have hd : (told P X).2.2.2.2.2.2.2.1 k ≠ 0 := by unfold dueD at hdd; simpa using hdd
        simp only [oI]
        refine gs_n 16 a_X4_finishDecided_15 rfl ?_
        refine gs_n 17 a_X4_finishDecided_16 rfl ?_
        refine gs_k (-1) 18 a_X4_finishDecided_17 (by decide +kernel) rfl ?_
        refine gs_ic 24 21 a_X4_finishDecided_18 rfl rfl (fun c18 => ?_) (fun c18 => ?_)
        · have s2 : pv P cap (finX P X k) := by rw [hT] at ht hd; exact (fin_ok hok.2.1 hv hT hk ht hd).1
          refine gs_n 25 a_X4_finishDecided_24 rfl ?_
          refine gs_n 26 a_X4_finishDecided_25 rfl ?_
          refine gs_cv 29 a_X4_finishDecided_26 k_4_79 q_X4_finish (c_finX hk hv ht hd w) rfl rfl rfl (by simp [Value.category]) (by first | assumption | exact hs_same _ _ _ | exact (hs_ne _ _ (by first | assumption | decide | omega)).trans (by first | assumption | exact hs_same _ _ _ | exact (hs_ne _ _ (by first | assumption | decide | omega)).trans (by first | assumption | exact hs_same _ _ _ | exact (hs_ne _ _ (by first | assumption | decide | omega)).trans (by first | assumption | exact hs_same _ _ _ | exact (hs_ne _ _ (by first | assumption | decide | omega)).trans (by first | assumption | exact hs_same _ _ _))))) rfl (fun v h2 hp => ?_)
          obtain ⟨e1, hF2, w2⟩ := hp
          simp only at e1
          subst e1
          first | refine gs_inc _ 32 a_X4_finishDecided_29 rfl (Nat.le_of_ble_eq_true rfl) rfl ?_ | refine gs_n 32 a_X4_finishDecided_29 rfl ?_
          first | refine gs_inc _ 35 a_X4_finishDecided_32 rfl (Nat.le_of_ble_eq_true rfl) rfl ?_ | refine gs_n 35 a_X4_finishDecided_32 rfl ?_
          refine gs_n 4 a_X4_finishDecided_35 rfl ?_
          refine gs_w [(2, .int (nI (j + 1))), (1, .int (nI (c + 1))), (0, .ref 0)] (by simp [ix_nd]) (by intro x hx; simp only [List.mem_cons, List.not_mem_nil, or_false] at hx; rcases hx with rfl | rfl | rfl <;> rfl) ?_
          refine gs_post (ih (j + 1) (c + 1) (finX P X k) h2 (by omega) (by omega) s2 w2) ?_
          rintro u ⟨q1, q2, q3⟩
          simp only [ovr, hf]
          refine ⟨?_, hF2.trans q2, q3⟩
          rw [q1]
          congr 3
          omega
        · have c18 : nI k = -1 := Classical.byContradiction c18
          have := (oI_no (x := some k) (fun f hf => by cases hf; exact hk)).mp c18
          cases this
theorem c_finD (hv : pv P cap X) (w : CE h P cap tmo clk cl cut X sy 0 tE tp an (told P X)) : ev (d + 7) n_X4_finishDecided [.ref 0] h (fun u => u.1 = some (.int (nI (ovr (txF P) (dueD P) (finX P) 32 X).1)) ∧ FS cC h u.2 ∧ CE u.2 P cap tmo clk cl cut (ovr (txF P) (dueD P) (finX P) 32 X).2 sy 0 tE tp an (told P (ovr (txF P) (dueD P) (finX P) 32 X).2)) := by
  refine ev_of q_X4_finishDecided (Nat.le_of_ble_eq_true rfl) ?_
  refine gs_k (nI 0) 1 a_X4_finishDecided_0 (by decide +kernel) rfl ?_
  refine gs_n 2 a_X4_finishDecided_1 rfl ?_
  refine gs_k (nI 0) 3 a_X4_finishDecided_2 (by decide +kernel) rfl ?_
  refine gs_n 4 a_X4_finishDecided_3 rfl ?_
  refine gs_w [(2, .int (nI 0)), (1, .int (nI 0)), (0, .ref 0)] (by simp [ix_nd]) (by intro x hx; simp only [List.mem_cons, List.not_mem_nil, or_false] at hx; rcases hx with rfl | rfl | rfl <;> rfl) ?_
  have := l_finD (d := d) 32 0 0 X h (by omega) (by omega) hv w
  rw [Nat.zero_add] at this
  exact this
end C4
