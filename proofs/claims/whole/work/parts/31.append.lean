/-! Log.append -/
theorem be_flat (e : En) : be 4 (sumI (bodyP e)) ++ bodyP e = encP e := rfl
theorem over_end {pre l body : List Nat} {v : List Nat} (hl : l.length = v.length) : over (pre ++ l ++ body) pre.length v = pre ++ v ++ body := by
  unfold over
  have e1 : (pre ++ l ++ body).take pre.length = pre := by rw [List.append_assoc, List.take_left' rfl]
  have e2 : (pre ++ l ++ body).drop (pre.length + v.length) = body := by rw [← hl, ← List.length_append, List.drop_left' rfl]
  rw [e1, e2]
theorem l_app {d : Nat} {h0 : ix_H} {L r a N : Nat} {bs pay : List Nat} {m1 m2 m3 m4 : Value} {s : Nat} (hl1 : h0.2.2 L = .inr (1, [.ref (L + 1), m1, m2, m3, m4])) (hp : RowAt h0 r a N pay) (hd : r ≠ L ∧ r ≠ L + 1 ∧ r ≠ L + 2 ∧ a ≠ L ∧ a ≠ L + 1 ∧ a ≠ L + 2) (hN : bs.length + pay.length ≤ 4000) {P : ix_O → Prop}
    (kk : ∀ h, Fr [L + 1, L + 2] h0 h → RowAt h (L + 1) (L + 2) 4000 (bs ++ pay) → gs none (d + 2) mD_X1_append (112, [(6, .int (nI s)), (0, .ref L)], [], h) P) : ∀ (k j : Nat) (h : ix_H), j + k = pay.length → Fr [L + 1, L + 2] h0 h → RowAt h (L + 1) (L + 2) 4000 (bs ++ pay.take j) →
    gs none (d + 2) mD_X1_append (82, [(7, .int (nI j)), (6, .int (nI s)), (0, .ref L), (5, .ref r)], [], h) P := by
  intro k
  induction k with
  | zero =>
    intro j h hj hF hR
    have kp : RowAt h r a N pay := hp.fr (hF.2.2 _ (by simp; omega)) (hF.2.2 _ (by simp; omega))
    have kp1 := kp.1
    refine gs_n 84 a_X1_append_82 rfl ?_
    refine gs_n 86 a_X1_append_84 rfl ?_
    refine gs_get 89 a_X1_append_86 f_1_38 (by first | assumption | exact hs_same _ _ _ | exact (hs_ne _ _ (by first | assumption | decide | omega)).trans (by first | assumption | exact hs_same _ _ _ | exact (hs_ne _ _ (by first | assumption | decide | omega)).trans (by first | assumption | exact hs_same _ _ _ | exact (hs_ne _ _ (by first | assumption | decide | omega)).trans (by first | assumption | exact hs_same _ _ _ | exact (hs_ne _ _ (by first | assumption | decide | omega)).trans (by first | assumption | exact hs_same _ _ _))))) rfl rfl ?_
    refine gs_ic 112 92 a_X1_append_89 rfl rfl (fun c => ?_) (fun c => ?_)
    · refine gs_w [(6, .int (nI s)), (0, .ref L)] (by simp [ix_nd]) (by intro x hx; simp only [List.mem_cons, List.not_mem_nil, or_false] at hx; rcases hx with rfl | rfl <;> rfl) ?_
      refine kk h hF ?_
      rwa [List.take_of_length_le (by omega)] at hR
    · exact absurd (nI_le (by omega) (by omega)) c
  | succ k ih =>
    intro j h hj hF hR
    have kp : RowAt h r a N pay := hp.fr (hF.2.2 _ (by simp; omega)) (hF.2.2 _ (by simp; omega))
    have kp1 := kp.1
    have kl1 : h.2.2 L = _ := (hF.2.2 L (by simp)).trans hl1
    have hr1 := hR.1
    have hjl : j < pay.length := by omega
    have hpl : pay.length < 2 ^ 30 := by have := kp.2.2.1; have := kp.2.2.2.1; omega
    have hlt : pay.getD j 0 < 256 := kp.2.2.2.2 _ (getD_memN hjl)
    refine gs_n 84 a_X1_append_82 rfl ?_
    refine gs_n 86 a_X1_append_84 rfl ?_
    refine gs_get 89 a_X1_append_86 f_1_38 (by first | assumption | exact hs_same _ _ _ | exact (hs_ne _ _ (by first | assumption | decide | omega)).trans (by first | assumption | exact hs_same _ _ _ | exact (hs_ne _ _ (by first | assumption | decide | omega)).trans (by first | assumption | exact hs_same _ _ _ | exact (hs_ne _ _ (by first | assumption | decide | omega)).trans (by first | assumption | exact hs_same _ _ _ | exact (hs_ne _ _ (by first | assumption | decide | omega)).trans (by first | assumption | exact hs_same _ _ _))))) rfl rfl ?_
    refine gs_ic 112 92 a_X1_append_89 rfl rfl (fun c => ?_) (fun c => ?_)
    · exact absurd c (nI_ge (by omega) (by omega))
    · refine gs_n 93 a_X1_append_92 rfl ?_
      refine gs_get 96 a_X1_append_93 f_1_14 (by first | assumption | exact hs_same _ _ _ | exact (hs_ne _ _ (by first | assumption | decide | omega)).trans (by first | assumption | exact hs_same _ _ _ | exact (hs_ne _ _ (by first | assumption | decide | omega)).trans (by first | assumption | exact hs_same _ _ _ | exact (hs_ne _ _ (by first | assumption | decide | omega)).trans (by first | assumption | exact hs_same _ _ _ | exact (hs_ne _ _ (by first | assumption | decide | omega)).trans (by first | assumption | exact hs_same _ _ _))))) rfl rfl ?_
      refine gs_n 98 a_X1_append_96 rfl ?_
      refine gs_n 100 a_X1_append_98 rfl ?_
      refine gs_cv 103 a_X1_append_100 k_1_45 q_X0_at (e_at _ kp) rfl rfl rfl (by simp [Value.category]) (by first | assumption | exact hs_same _ _ _ | exact (hs_ne _ _ (by first | assumption | decide | omega)).trans (by first | assumption | exact hs_same _ _ _ | exact (hs_ne _ _ (by first | assumption | decide | omega)).trans (by first | assumption | exact hs_same _ _ _ | exact (hs_ne _ _ (by first | assumption | decide | omega)).trans (by first | assumption | exact hs_same _ _ _ | exact (hs_ne _ _ (by first | assumption | decide | omega)).trans (by first | assumption | exact hs_same _ _ _))))) rfl (fun v h1 hp => ?_)
      cases hp
      rw [rAt_nat hjl hpl]
      refine gs_cv 106 a_X1_append_103 k_1_49 q_X0_add (e_add _ hR (by rw [List.length_append, List.length_take]; omega)) rfl rfl rfl (by simp [Value.category]) (by first | assumption | exact hs_same _ _ _ | exact (hs_ne _ _ (by first | assumption | decide | omega)).trans (by first | assumption | exact hs_same _ _ _ | exact (hs_ne _ _ (by first | assumption | decide | omega)).trans (by first | assumption | exact hs_same _ _ _ | exact (hs_ne _ _ (by first | assumption | decide | omega)).trans (by first | assumption | exact hs_same _ _ _ | exact (hs_ne _ _ (by first | assumption | decide | omega)).trans (by first | assumption | exact hs_same _ _ _))))) rfl (fun v h1 hp => ?_)
      obtain ⟨e1, hF2, hR2⟩ := hp
      simp only at e1
      subst e1
      rw [low_byte hlt, List.append_assoc, ← take_snoc hjl] at hR2
      first | refine gs_inc _ 109 a_X1_append_106 rfl (Nat.le_of_ble_eq_true rfl) rfl ?_ | refine gs_n 109 a_X1_append_106 rfl ?_
      refine gs_n 82 a_X1_append_109 rfl ?_
      refine gs_w [(7, .int (nI (j + 1))), (6, .int (nI s)), (0, .ref L), (5, .ref r)] (by simp [ix_nd]) (by intro x hx; simp only [List.mem_cons, List.not_mem_nil, or_false] at hx; rcases hx with rfl | rfl | rfl | rfl <;> rfl) ?_
      exact ih (j + 1) h1 (by omega) (hF.trans hF2) hR2
set_option maxHeartbeats 1000000 in
theorem e_append {d : Nat} {h : ix_H} {L r a N : Nat} {es : List En} {pay : List Nat} (f kind key ep num of : Nat) (hl : LogAt h L es []) (hp : RowAt h r a N pay) (hd : r ≠ L ∧ r ≠ L + 1 ∧ r ≠ L + 2 ∧ a ≠ L ∧ a ≠ L + 1 ∧ a ≠ L + 2 ∧ r ≠ L + 3 ∧ a ≠ L + 3) (hok : okP (f, kind, key, ep, num, pay.length, of, pay)) (hN : (es.flatMap encP).length + 14 + pay.length ≤ 4000) : ev (d + 4) n_X1_append [.ref L, .int (nI kind), .int (nI key), .int (nI ep), .int (nI num), .ref r] h (fun u => u.1 = none ∧ Fr [L, L + 1, L + 2, L + 3] h u.2 ∧ LogAt u.2 L (es ++ [(f, kind, key, ep, num, pay.length, of, pay)]) []) := by
  have hlo := len_off hl.2.2.2.2.2
  obtain ⟨g1, g2, ⟨f3, g3, g3'⟩, ⟨f4, g4⟩, ⟨f5, g5⟩, g7⟩ := hl
  rw [List.append_nil] at g2
  have hr1 := g2.1
  have hp1 := hp.1
  have hpl : pay.length ≤ 40 := hok.2.2.2.2.2.1
  generalize hE : ((f, kind, key, ep, num, pay.length, of, pay) : En) = E at hok
  refine ev_of q_X1_append (Nat.le_of_ble_eq_true rfl) ?_
  refine gs_n 1 a_X1_append_0 rfl ?_
  refine gs_get 4 a_X1_append_1 f_1_34 (by first | assumption | exact hs_same _ _ _ | exact (hs_ne _ _ (by first | assumption | decide | omega)).trans (by first | assumption | exact hs_same _ _ _ | exact (hs_ne _ _ (by first | assumption | decide | omega)).trans (by first | assumption | exact hs_same _ _ _ | exact (hs_ne _ _ (by first | assumption | decide | omega)).trans (by first | assumption | exact hs_same _ _ _ | exact (hs_ne _ _ (by first | assumption | decide | omega)).trans (by first | assumption | exact hs_same _ _ _))))) rfl rfl ?_
  refine gs_k (nI 285) 7 a_X1_append_4 (by decide +kernel) rfl ?_
  refine gs_ic 11 10 a_X1_append_7 rfl rfl (fun c => ?_) (fun c => ?_)
  · refine gs_n 12 a_X1_append_11 rfl ?_
    refine gs_get 15 a_X1_append_12 f_1_14 (by first | assumption | exact hs_same _ _ _ | exact (hs_ne _ _ (by first | assumption | decide | omega)).trans (by first | assumption | exact hs_same _ _ _ | exact (hs_ne _ _ (by first | assumption | decide | omega)).trans (by first | assumption | exact hs_same _ _ _ | exact (hs_ne _ _ (by first | assumption | decide | omega)).trans (by first | assumption | exact hs_same _ _ _ | exact (hs_ne _ _ (by first | assumption | decide | omega)).trans (by first | assumption | exact hs_same _ _ _))))) rfl rfl ?_
    refine gs_get 18 a_X1_append_15 f_1_38 (by first | assumption | exact hs_same _ _ _ | exact (hs_ne _ _ (by first | assumption | decide | omega)).trans (by first | assumption | exact hs_same _ _ _ | exact (hs_ne _ _ (by first | assumption | decide | omega)).trans (by first | assumption | exact hs_same _ _ _ | exact (hs_ne _ _ (by first | assumption | decide | omega)).trans (by first | assumption | exact hs_same _ _ _ | exact (hs_ne _ _ (by first | assumption | decide | omega)).trans (by first | assumption | exact hs_same _ _ _))))) rfl rfl ?_
    refine gs_n 20 a_X1_append_18 rfl ?_
    refine gs_n 21 a_X1_append_20 rfl ?_
    refine gs_get 24 a_X1_append_21 f_1_14 (by first | assumption | exact hs_same _ _ _ | exact (hs_ne _ _ (by first | assumption | decide | omega)).trans (by first | assumption | exact hs_same _ _ _ | exact (hs_ne _ _ (by first | assumption | decide | omega)).trans (by first | assumption | exact hs_same _ _ _ | exact (hs_ne _ _ (by first | assumption | decide | omega)).trans (by first | assumption | exact hs_same _ _ _ | exact (hs_ne _ _ (by first | assumption | decide | omega)).trans (by first | assumption | exact hs_same _ _ _))))) rfl rfl ?_
    refine gs_k (nI 0) 25 a_X1_append_24 (by decide +kernel) rfl ?_
    refine gs_k (nI 4) 26 a_X1_append_25 (by decide +kernel) rfl ?_
    refine gs_cv 29 a_X1_append_26 k_1_41 q_X0_addNumber (e_addNumber (nI 0) 4 (by omega) g2 (by omega)) rfl rfl rfl (by simp [Value.category]) (by first | assumption | exact hs_same _ _ _ | exact (hs_ne _ _ (by first | assumption | decide | omega)).trans (by first | assumption | exact hs_same _ _ _ | exact (hs_ne _ _ (by first | assumption | decide | omega)).trans (by first | assumption | exact hs_same _ _ _ | exact (hs_ne _ _ (by first | assumption | decide | omega)).trans (by first | assumption | exact hs_same _ _ _ | exact (hs_ne _ _ (by first | assumption | decide | omega)).trans (by first | assumption | exact hs_same _ _ _))))) rfl (fun v h1 hp => ?_)
    obtain ⟨e1, F1, R1⟩ := hp
    simp only at e1
    subst e1
    have k1 : h1.2.2 L = _ := (F1.2.2 L (by simp)).trans g1
    have kp1 : h1.2.2 r = _ := (F1.2.2 r (by simp; omega)).trans hp1
    have kr1 := R1.1
    refine gs_n 30 a_X1_append_29 rfl ?_
    refine gs_get 33 a_X1_append_30 f_1_14 (by first | assumption | exact hs_same _ _ _ | exact (hs_ne _ _ (by first | assumption | decide | omega)).trans (by first | assumption | exact hs_same _ _ _ | exact (hs_ne _ _ (by first | assumption | decide | omega)).trans (by first | assumption | exact hs_same _ _ _ | exact (hs_ne _ _ (by first | assumption | decide | omega)).trans (by first | assumption | exact hs_same _ _ _ | exact (hs_ne _ _ (by first | assumption | decide | omega)).trans (by first | assumption | exact hs_same _ _ _))))) rfl rfl ?_
    refine gs_n 35 a_X1_append_33 rfl ?_
    refine gs_get 38 a_X1_append_35 f_1_38 (by first | assumption | exact hs_same _ _ _ | exact (hs_ne _ _ (by first | assumption | decide | omega)).trans (by first | assumption | exact hs_same _ _ _ | exact (hs_ne _ _ (by first | assumption | decide | omega)).trans (by first | assumption | exact hs_same _ _ _ | exact (hs_ne _ _ (by first | assumption | decide | omega)).trans (by first | assumption | exact hs_same _ _ _ | exact (hs_ne _ _ (by first | assumption | decide | omega)).trans (by first | assumption | exact hs_same _ _ _))))) rfl rfl ?_
    refine gs_k (nI 2) 39 a_X1_append_38 (by decide +kernel) rfl ?_
    refine gs_cv 42 a_X1_append_39 k_1_41 q_X0_addNumber (e_addNumber (nI pay.length) 2 (by omega) R1 (by simp only [List.length_append, be_len]; omega)) rfl rfl rfl (by simp [Value.category]) (by first | assumption | exact hs_same _ _ _ | exact (hs_ne _ _ (by first | assumption | decide | omega)).trans (by first | assumption | exact hs_same _ _ _ | exact (hs_ne _ _ (by first | assumption | decide | omega)).trans (by first | assumption | exact hs_same _ _ _ | exact (hs_ne _ _ (by first | assumption | decide | omega)).trans (by first | assumption | exact hs_same _ _ _ | exact (hs_ne _ _ (by first | assumption | decide | omega)).trans (by first | assumption | exact hs_same _ _ _))))) rfl (fun v h2 hp => ?_)
    obtain ⟨e1, F2, R2⟩ := hp
    simp only at e1
    subst e1
    have F2 := F1.trans F2
    have k2 : h2.2.2 L = _ := (F2.2.2 L (by simp)).trans g1
    have kr2 := R2.1
    refine gs_n 43 a_X1_append_42 rfl ?_
    refine gs_get 46 a_X1_append_43 f_1_14 (by first | assumption | exact hs_same _ _ _ | exact (hs_ne _ _ (by first | assumption | decide | omega)).trans (by first | assumption | exact hs_same _ _ _ | exact (hs_ne _ _ (by first | assumption | decide | omega)).trans (by first | assumption | exact hs_same _ _ _ | exact (hs_ne _ _ (by first | assumption | decide | omega)).trans (by first | assumption | exact hs_same _ _ _ | exact (hs_ne _ _ (by first | assumption | decide | omega)).trans (by first | assumption | exact hs_same _ _ _))))) rfl rfl ?_
    refine gs_n 47 a_X1_append_46 rfl ?_
    refine gs_k (nI 1) 48 a_X1_append_47 (by decide +kernel) rfl ?_
    refine gs_cv 51 a_X1_append_48 k_1_41 q_X0_addNumber (e_addNumber (nI kind) 1 (by omega) R2 (by simp only [List.length_append, be_len]; omega)) rfl rfl rfl (by simp [Value.category]) (by first | assumption | exact hs_same _ _ _ | exact (hs_ne _ _ (by first | assumption | decide | omega)).trans (by first | assumption | exact hs_same _ _ _ | exact (hs_ne _ _ (by first | assumption | decide | omega)).trans (by first | assumption | exact hs_same _ _ _ | exact (hs_ne _ _ (by first | assumption | decide | omega)).trans (by first | assumption | exact hs_same _ _ _ | exact (hs_ne _ _ (by first | assumption | decide | omega)).trans (by first | assumption | exact hs_same _ _ _))))) rfl (fun v h3 hp => ?_)
    obtain ⟨e1, F3, R3⟩ := hp
    simp only at e1
    subst e1
    have F3 := F2.trans F3
    have k3 : h3.2.2 L = _ := (F3.2.2 L (by simp)).trans g1
    have kr3 := R3.1
    refine gs_n 52 a_X1_append_51 rfl ?_
    refine gs_get 55 a_X1_append_52 f_1_14 (by first | assumption | exact hs_same _ _ _ | exact (hs_ne _ _ (by first | assumption | decide | omega)).trans (by first | assumption | exact hs_same _ _ _ | exact (hs_ne _ _ (by first | assumption | decide | omega)).trans (by first | assumption | exact hs_same _ _ _ | exact (hs_ne _ _ (by first | assumption | decide | omega)).trans (by first | assumption | exact hs_same _ _ _ | exact (hs_ne _ _ (by first | assumption | decide | omega)).trans (by first | assumption | exact hs_same _ _ _))))) rfl rfl ?_
    refine gs_n 56 a_X1_append_55 rfl ?_
    refine gs_k (nI 1) 57 a_X1_append_56 (by decide +kernel) rfl ?_
    refine gs_cv 60 a_X1_append_57 k_1_41 q_X0_addNumber (e_addNumber (nI key) 1 (by omega) R3 (by simp only [List.length_append, be_len]; omega)) rfl rfl rfl (by simp [Value.category]) (by first | assumption | exact hs_same _ _ _ | exact (hs_ne _ _ (by first | assumption | decide | omega)).trans (by first | assumption | exact hs_same _ _ _ | exact (hs_ne _ _ (by first | assumption | decide | omega)).trans (by first | assumption | exact hs_same _ _ _ | exact (hs_ne _ _ (by first | assumption | decide | omega)).trans (by first | assumption | exact hs_same _ _ _ | exact (hs_ne _ _ (by first | assumption | decide | omega)).trans (by first | assumption | exact hs_same _ _ _))))) rfl (fun v h4 hp => ?_)
    obtain ⟨e1, F4, R4⟩ := hp
    simp only at e1
    subst e1
    have F4 := F3.trans F4
    have k4 : h4.2.2 L = _ := (F4.2.2 L (by simp)).trans g1
    have kr4 := R4.1
    refine gs_n 61 a_X1_append_60 rfl ?_
    refine gs_get 64 a_X1_append_61 f_1_14 (by first | assumption | exact hs_same _ _ _ | exact (hs_ne _ _ (by first | assumption | decide | omega)).trans (by first | assumption | exact hs_same _ _ _ | exact (hs_ne _ _ (by first | assumption | decide | omega)).trans (by first | assumption | exact hs_same _ _ _ | exact (hs_ne _ _ (by first | assumption | decide | omega)).trans (by first | assumption | exact hs_same _ _ _ | exact (hs_ne _ _ (by first | assumption | decide | omega)).trans (by first | assumption | exact hs_same _ _ _))))) rfl rfl ?_
    refine gs_n 65 a_X1_append_64 rfl ?_
    refine gs_k (nI 2) 66 a_X1_append_65 (by decide +kernel) rfl ?_
    refine gs_cv 69 a_X1_append_66 k_1_41 q_X0_addNumber (e_addNumber (nI ep) 2 (by omega) R4 (by simp only [List.length_append, be_len]; omega)) rfl rfl rfl (by simp [Value.category]) (by first | assumption | exact hs_same _ _ _ | exact (hs_ne _ _ (by first | assumption | decide | omega)).trans (by first | assumption | exact hs_same _ _ _ | exact (hs_ne _ _ (by first | assumption | decide | omega)).trans (by first | assumption | exact hs_same _ _ _ | exact (hs_ne _ _ (by first | assumption | decide | omega)).trans (by first | assumption | exact hs_same _ _ _ | exact (hs_ne _ _ (by first | assumption | decide | omega)).trans (by first | assumption | exact hs_same _ _ _))))) rfl (fun v h5 hp => ?_)
    obtain ⟨e1, F5, R5⟩ := hp
    simp only at e1
    subst e1
    have F5 := F4.trans F5
    have k5 : h5.2.2 L = _ := (F5.2.2 L (by simp)).trans g1
    have kr5 := R5.1
    refine gs_n 70 a_X1_append_69 rfl ?_
    refine gs_get 73 a_X1_append_70 f_1_14 (by first | assumption | exact hs_same _ _ _ | exact (hs_ne _ _ (by first | assumption | decide | omega)).trans (by first | assumption | exact hs_same _ _ _ | exact (hs_ne _ _ (by first | assumption | decide | omega)).trans (by first | assumption | exact hs_same _ _ _ | exact (hs_ne _ _ (by first | assumption | decide | omega)).trans (by first | assumption | exact hs_same _ _ _ | exact (hs_ne _ _ (by first | assumption | decide | omega)).trans (by first | assumption | exact hs_same _ _ _))))) rfl rfl ?_
    refine gs_n 75 a_X1_append_73 rfl ?_
    refine gs_k (nI 4) 76 a_X1_append_75 (by decide +kernel) rfl ?_
    refine gs_cv 79 a_X1_append_76 k_1_41 q_X0_addNumber (e_addNumber (nI num) 4 (by omega) R5 (by simp only [List.length_append, be_len]; omega)) rfl rfl rfl (by simp [Value.category]) (by first | assumption | exact hs_same _ _ _ | exact (hs_ne _ _ (by first | assumption | decide | omega)).trans (by first | assumption | exact hs_same _ _ _ | exact (hs_ne _ _ (by first | assumption | decide | omega)).trans (by first | assumption | exact hs_same _ _ _ | exact (hs_ne _ _ (by first | assumption | decide | omega)).trans (by first | assumption | exact hs_same _ _ _ | exact (hs_ne _ _ (by first | assumption | decide | omega)).trans (by first | assumption | exact hs_same _ _ _))))) rfl (fun v h6 hp => ?_)
    obtain ⟨e1, F6, R6⟩ := hp
    simp only at e1
    subst e1
    have F6 := F5.trans F6
    have k6 : h6.2.2 L = _ := (F6.2.2 L (by simp)).trans g1
    refine gs_k (nI 0) 80 a_X1_append_79 (by decide +kernel) rfl ?_
    refine gs_n 82 a_X1_append_80 rfl ?_
    refine gs_w [(7, .int (nI 0)), (6, .int (nI (es.flatMap encP).length)), (0, .ref L), (5, .ref r)] (by simp [ix_nd]) (by intro x hx; simp only [List.mem_cons, List.not_mem_nil, or_false] at hx; rcases hx with rfl | rfl | rfl | rfl <;> rfl) ?_
    refine l_app (d := d + 1) (h0 := h6) k6 (hp.fr (F6.2.2 _ (by simp; omega)) (F6.2.2 _ (by simp; omega))) ⟨hd.1, hd.2.1, hd.2.2.1, hd.2.2.2.1, hd.2.2.2.2.1, hd.2.2.2.2.2.1⟩ ?_ ?_ pay.length 0 h6 (Nat.zero_add _) (Fr.rf _ _) (by rw [List.take_zero, List.append_nil]; exact R6)
    · simp only [List.length_append, be_len]; omega
    intro h7 F7 R7
    have F7 := F6.trans F7
    have k7 : h7.2.2 L = _ := (F7.2.2 L (by simp)).trans g1
    have kr7 := R7.1
    have hbody : es.flatMap encP ++ be 4 (nI 0) ++ be 2 (nI pay.length) ++ be 1 (nI kind) ++ be 1 (nI key) ++ be 2 (nI ep) ++ be 4 (nI num) ++ pay = es.flatMap encP ++ be 4 (nI 0) ++ bodyP E := by
      rw [← hE]
      simp only [bodyP, List.append_assoc]
    rw [hbody] at R7 kr7
    have hbl : (bodyP E).length = 10 + pay.length := by
      rw [← hE]
      simp only [bodyP, List.length_append, be_len]
      show 2 + (1 + (1 + (2 + (4 + pay.length)))) = 10 + pay.length
      omega
    refine gs_n 113 a_X1_append_112 rfl ?_
    refine gs_get 116 a_X1_append_113 f_1_14 (by first | assumption | exact hs_same _ _ _ | exact (hs_ne _ _ (by first | assumption | decide | omega)).trans (by first | assumption | exact hs_same _ _ _ | exact (hs_ne _ _ (by first | assumption | decide | omega)).trans (by first | assumption | exact hs_same _ _ _ | exact (hs_ne _ _ (by first | assumption | decide | omega)).trans (by first | assumption | exact hs_same _ _ _ | exact (hs_ne _ _ (by first | assumption | decide | omega)).trans (by first | assumption | exact hs_same _ _ _))))) rfl rfl ?_
    refine gs_n 118 a_X1_append_116 rfl ?_
    refine gs_cv 121 a_X1_append_118 k_1_52 q_X0_seal (e_seal (es.flatMap encP).length R7 (by simp only [List.length_append, be_len]; omega)) rfl rfl rfl (by simp [Value.category]) (by first | assumption | exact hs_same _ _ _ | exact (hs_ne _ _ (by first | assumption | decide | omega)).trans (by first | assumption | exact hs_same _ _ _ | exact (hs_ne _ _ (by first | assumption | decide | omega)).trans (by first | assumption | exact hs_same _ _ _ | exact (hs_ne _ _ (by first | assumption | decide | omega)).trans (by first | assumption | exact hs_same _ _ _ | exact (hs_ne _ _ (by first | assumption | decide | omega)).trans (by first | assumption | exact hs_same _ _ _))))) rfl (fun v h8 hp => ?_)
    obtain ⟨e1, F8, R8⟩ := hp
    simp only at e1
    subst e1
    have F8 := F7.trans F8
    have hdr : (es.flatMap encP ++ be 4 (nI 0) ++ bodyP E).drop ((es.flatMap encP).length + 4) = bodyP E := by
      rw [show (es.flatMap encP).length + 4 = (es.flatMap encP ++ be 4 (nI 0)).length by rw [List.length_append, be_len], List.drop_left' rfl]
    rw [hdr, over_end (by rw [be_len, be_len]), List.append_assoc, be_flat] at R8
    have k8 : h8.2.2 L = _ := (F8.2.2 L (by simp)).trans g1
    have kr8 := R8.1
    have k83 : h8.2.2 (L + 3) = _ := (F8.2.2 (L + 3) (by simp)).trans g3
    have n3 : ¬ L = L + 3 := by omega
    have n31 : ¬ L + 1 = L + 3 := by omega
    refine gs_n 122 a_X1_append_121 rfl ?_
    refine gs_get 125 a_X1_append_122 f_1_20 (by first | assumption | exact hs_same _ _ _ | exact (hs_ne _ _ (by first | assumption | decide | omega)).trans (by first | assumption | exact hs_same _ _ _ | exact (hs_ne _ _ (by first | assumption | decide | omega)).trans (by first | assumption | exact hs_same _ _ _ | exact (hs_ne _ _ (by first | assumption | decide | omega)).trans (by first | assumption | exact hs_same _ _ _ | exact (hs_ne _ _ (by first | assumption | decide | omega)).trans (by first | assumption | exact hs_same _ _ _))))) rfl rfl ?_
    refine gs_n 126 a_X1_append_125 rfl ?_
    refine gs_get 129 a_X1_append_126 f_1_34 (by first | assumption | exact hs_same _ _ _ | exact (hs_ne _ _ (by first | assumption | decide | omega)).trans (by first | assumption | exact hs_same _ _ _ | exact (hs_ne _ _ (by first | assumption | decide | omega)).trans (by first | assumption | exact hs_same _ _ _ | exact (hs_ne _ _ (by first | assumption | decide | omega)).trans (by first | assumption | exact hs_same _ _ _ | exact (hs_ne _ _ (by first | assumption | decide | omega)).trans (by first | assumption | exact hs_same _ _ _))))) rfl rfl ?_
    refine gs_n 130 a_X1_append_129 rfl ?_
    refine gs_get 133 a_X1_append_130 f_1_14 (by first | assumption | exact hs_same _ _ _ | exact (hs_ne _ _ (by first | assumption | decide | omega)).trans (by first | assumption | exact hs_same _ _ _ | exact (hs_ne _ _ (by first | assumption | decide | omega)).trans (by first | assumption | exact hs_same _ _ _ | exact (hs_ne _ _ (by first | assumption | decide | omega)).trans (by first | assumption | exact hs_same _ _ _ | exact (hs_ne _ _ (by first | assumption | decide | omega)).trans (by first | assumption | exact hs_same _ _ _))))) rfl rfl ?_
    refine gs_get 136 a_X1_append_133 f_1_38 (by first | assumption | exact hs_same _ _ _ | exact (hs_ne _ _ (by first | assumption | decide | omega)).trans (by first | assumption | exact hs_same _ _ _ | exact (hs_ne _ _ (by first | assumption | decide | omega)).trans (by first | assumption | exact hs_same _ _ _ | exact (hs_ne _ _ (by first | assumption | decide | omega)).trans (by first | assumption | exact hs_same _ _ _ | exact (hs_ne _ _ (by first | assumption | decide | omega)).trans (by first | assumption | exact hs_same _ _ _))))) rfl rfl ?_
    refine gs_is es.length 137 a_X1_append_136 (by first | assumption | exact hs_same _ _ _ | exact (hs_ne _ _ (by first | assumption | decide | omega)).trans (by first | assumption | exact hs_same _ _ _ | exact (hs_ne _ _ (by first | assumption | decide | omega)).trans (by first | assumption | exact hs_same _ _ _ | exact (hs_ne _ _ (by first | assumption | decide | omega)).trans (by first | assumption | exact hs_same _ _ _ | exact (hs_ne _ _ (by first | assumption | decide | omega)).trans (by first | assumption | exact hs_same _ _ _))))) rfl (by omega) (by omega) rfl ?_
    refine gs_n 138 a_X1_append_137 rfl ?_
    refine gs_n 139 a_X1_append_138 rfl ?_
    refine gs_get 142 a_X1_append_139 f_1_34 (by first | assumption | exact hs_same _ _ _ | exact (hs_ne _ _ (by first | assumption | decide | omega)).trans (by first | assumption | exact hs_same _ _ _ | exact (hs_ne _ _ (by first | assumption | decide | omega)).trans (by first | assumption | exact hs_same _ _ _ | exact (hs_ne _ _ (by first | assumption | decide | omega)).trans (by first | assumption | exact hs_same _ _ _ | exact (hs_ne _ _ (by first | assumption | decide | omega)).trans (by first | assumption | exact hs_same _ _ _))))) rfl rfl ?_
    refine gs_k (nI 1) 143 a_X1_append_142 (by decide +kernel) rfl ?_
    refine gs_n 144 a_X1_append_143 rfl ?_
    refine gs_put 147 _ a_X1_append_144 f_1_34 (by first | assumption | exact hs_same _ _ _ | exact (hs_ne _ _ (by first | assumption | decide | omega)).trans (by first | assumption | exact hs_same _ _ _ | exact (hs_ne _ _ (by first | assumption | decide | omega)).trans (by first | assumption | exact hs_same _ _ _ | exact (hs_ne _ _ (by first | assumption | decide | omega)).trans (by first | assumption | exact hs_same _ _ _ | exact (hs_ne _ _ (by first | assumption | decide | omega)).trans (by first | assumption | exact hs_same _ _ _))))) (Nat.le_of_ble_eq_true rfl) rfl (fun z => absurd z (by decide)) rfl rfl ?_
    refine gs_vret a_X1_append_147 rfl ?_
    have hEl : (encP E).length = 14 + pay.length := by rw [encP_len hok, ← hE]
    refine ⟨rfl, ((F8.mono (by simp)).trans (Fr.set _ (by simp))).trans (Fr.set _ (by simp)), ?_, ?_, ⟨_, (hs_ne _ _ (by omega)).trans (hs_same _ _ _), ?_⟩, ⟨f4, ?_⟩, ⟨f5, ?_⟩, ?_⟩
    · rw [hs_same, List.length_append]
      show (Sum.inr (1, [Value.ref (L + 1), .ref (L + 3), .ref (L + 4), .ref (L + 5), .int (nI es.length + nI 1)]) : ix_E) = _
      rw [nI_add]
      rfl
    · rw [List.append_nil, List.flatMap_append]
      simp only [List.flatMap_cons, List.flatMap_nil, List.append_nil]
      exact R8.fr ((hs_ne _ _ (by omega)).trans (hs_ne _ _ (by omega))) ((hs_ne _ _ (by omega)).trans (hs_ne _ _ (by omega)))
    · intro o ho
      rw [List.length_append] at ho
      have ho : o < es.length + 1 := ho
      by_cases e : o = es.length
      · subst e
        rw [pk_us]
        congr 1
        have : es.length + 1 = (es ++ [E]).length := by rw [List.length_append]; rfl
        rw [this, off_len, List.flatMap_append]
        simp
      · rw [pk_un e, g3' o (by omega)]
        congr 1
        rw [show off es (o + 1) = off (es ++ [E]) (o + 1) by unfold off; rw [List.take_append_of_le_length (by omega)]]
    · rw [hs_ne _ _ (by omega), hs_ne _ _ (by omega), F8.2.2 _ (by simp)]; exact g4
    · rw [hs_ne _ _ (by omega), hs_ne _ _ (by omega), F8.2.2 _ (by simp)]; exact g5
    · intro e he
      rcases List.mem_append.mp he with z | z
      · exact g7 e z
      · rw [List.mem_singleton.mp z]; exact hok
  · have c : ¬ nI es.length < nI 285 := c
    rw [nI_ltI (by omega) (by omega)] at c
    omega
