/-! OnceLedger: writing -/
section WR
variable {d : Nat} {h : ix_H} {P cap tmo clk cut nx : Nat} {cl : Bool} {lg : Nat → List En} {tn : Nat → List Nat} {bk : List En} {bt : List Nat} {un : List (Nat × Nat)} {pr : Nat → PS} {mk : Nat → Int32} {tp an : List Nat}
theorem cC_l {p : Nat} (hp : p < 8) : ∀ x, (16 + 6 * p ≤ x ∧ x < 16 + 6 * p + 6) → cC x := by
  intro x hx
  unfold cC
  omega
theorem cC_u : ∀ x, x ∈ [10, 11, 12, 13] → cC x := by
  intro x hx
  simp at hx
  unfold cC
  omega
theorem cC_b : ∀ x, x ∈ [8, 9] → cC x := by
  intro x hx
  simp at hx
  unfold cC
  omega
set_option maxHeartbeats 1000000 in
theorem e_writeLog {sc : SC} {r a N : Nat} {pay : List Nat} (p kind key ep num of : Nat) (hp8 : p < 8) (hra : (r = 1 ∧ a = 2 ∧ N = 40 ∧ pay = tp) ∨ (r = 5 ∧ a = 6 ∧ N = 0 ∧ pay = [])) (hok : okP (p, kind, key, ep, num, pay.length, of, pay)) (htn : tn p = []) (hN : ((lg p).flatMap encP).length + 14 + pay.length ≤ 4000) (hun : un.length < 3280)
    (w : CW h sc lg tn bk bt un pr mk tp an) : ev (d + 5) n_X4_writeToLog [.ref 0, .int (nI p), .int (nI kind), .int (nI key), .int (nI ep), .int (nI num), .ref r] h (fun u => u.1 = some (.int (nI (lg p).length)) ∧ FS cC h u.2 ∧ CW u.2 sc (va_up lg p (lg p ++ [(p, kind, key, ep, num, pay.length, of, pay)])) tn bk bt (un ++ [(p, 14 + pay.length)]) pr mk tp an) := by
  have w0 := w
  obtain ⟨w1, w2, w3, w4, w5, ⟨f6, w6, w6'⟩, w7, w8, ⟨f9, w9, w9'⟩, ⟨f10, w10, w10'⟩, w11, w12, w13⟩ := w
  unfold ocell at w1
  have hl := w11 p hp8
  rw [htn] at hl
  have hl1 := hl.1
  have hr1 := hl.2.1.1
  rw [List.append_nil] at hr1
  have hlo := len_off hl.2.2.2.2.2
  have hrp : RowAt h r a N pay := by
    rcases hra with ⟨rfl, rfl, rfl, rfl⟩ | ⟨rfl, rfl, rfl, rfl⟩
    · exact w3
    · exact w5
  have hpl : pay.length ≤ 40 := hok.2.2.2.2.2.1
  refine ev_of q_X4_writeToLog (Nat.le_of_ble_eq_true rfl) ?_
  refine gs_n 1 a_X4_writeToLog_0 rfl ?_
  refine gs_get 4 a_X4_writeToLog_1 f_4_26 (by first | assumption | exact hs_same _ _ _ | exact (hs_ne _ _ (by first | assumption | decide | omega)).trans (by first | assumption | exact hs_same _ _ _ | exact (hs_ne _ _ (by first | assumption | decide | omega)).trans (by first | assumption | exact hs_same _ _ _ | exact (hs_ne _ _ (by first | assumption | decide | omega)).trans (by first | assumption | exact hs_same _ _ _ | exact (hs_ne _ _ (by first | assumption | decide | omega)).trans (by first | assumption | exact hs_same _ _ _))))) rfl rfl ?_
  refine gs_n 5 a_X4_writeToLog_4 rfl ?_
  refine gs_aa p (16 + 6 * p) 6 a_X4_writeToLog_5 (by first | assumption | exact hs_same _ _ _ | exact (hs_ne _ _ (by first | assumption | decide | omega)).trans (by first | assumption | exact hs_same _ _ _ | exact (hs_ne _ _ (by first | assumption | decide | omega)).trans (by first | assumption | exact hs_same _ _ _ | exact (hs_ne _ _ (by first | assumption | decide | omega)).trans (by first | assumption | exact hs_same _ _ _ | exact (hs_ne _ _ (by first | assumption | decide | omega)).trans (by first | assumption | exact hs_same _ _ _))))) rfl (by omega) (by decide) (by simp) (w6' p hp8) rfl ?_
  refine gs_n 8 a_X4_writeToLog_6 rfl ?_
  refine gs_n 10 a_X4_writeToLog_8 rfl ?_
  refine gs_get 13 a_X4_writeToLog_10 f_4_186 (by first | assumption | exact hs_same _ _ _ | exact (hs_ne _ _ (by first | assumption | decide | omega)).trans (by first | assumption | exact hs_same _ _ _ | exact (hs_ne _ _ (by first | assumption | decide | omega)).trans (by first | assumption | exact hs_same _ _ _ | exact (hs_ne _ _ (by first | assumption | decide | omega)).trans (by first | assumption | exact hs_same _ _ _ | exact (hs_ne _ _ (by first | assumption | decide | omega)).trans (by first | assumption | exact hs_same _ _ _))))) rfl rfl ?_
  refine gs_get 16 a_X4_writeToLog_13 f_4_56 (by first | assumption | exact hs_same _ _ _ | exact (hs_ne _ _ (by first | assumption | decide | omega)).trans (by first | assumption | exact hs_same _ _ _ | exact (hs_ne _ _ (by first | assumption | decide | omega)).trans (by first | assumption | exact hs_same _ _ _ | exact (hs_ne _ _ (by first | assumption | decide | omega)).trans (by first | assumption | exact hs_same _ _ _ | exact (hs_ne _ _ (by first | assumption | decide | omega)).trans (by first | assumption | exact hs_same _ _ _))))) rfl rfl ?_
  refine gs_n 18 a_X4_writeToLog_16 rfl ?_
  refine gs_n 20 a_X4_writeToLog_18 rfl ?_
  refine gs_n 21 a_X4_writeToLog_20 rfl ?_
  refine gs_n 22 a_X4_writeToLog_21 rfl ?_
  refine gs_n 24 a_X4_writeToLog_22 rfl ?_
  refine gs_n 26 a_X4_writeToLog_24 rfl ?_
  refine gs_n 28 a_X4_writeToLog_26 rfl ?_
  refine gs_cv 31 a_X4_writeToLog_28 k_4_254 q_X1_append (e_append p kind key ep num of hl hrp (by rcases hra with ⟨rfl, rfl, -⟩ | ⟨rfl, rfl, -⟩ <;> omega) hok hN) rfl rfl rfl (by simp [Value.category]) (by first | assumption | exact hs_same _ _ _ | exact (hs_ne _ _ (by first | assumption | decide | omega)).trans (by first | assumption | exact hs_same _ _ _ | exact (hs_ne _ _ (by first | assumption | decide | omega)).trans (by first | assumption | exact hs_same _ _ _ | exact (hs_ne _ _ (by first | assumption | decide | omega)).trans (by first | assumption | exact hs_same _ _ _ | exact (hs_ne _ _ (by first | assumption | decide | omega)).trans (by first | assumption | exact hs_same _ _ _))))) rfl (fun v h2 hp => ?_)
  obtain ⟨e1, hF, hl2⟩ := hp
  simp only at e1
  subst e1
  have hFS : FS (fun k => 16 + 6 * p ≤ k ∧ k < 16 + 6 * p + 6) h h2 := FS.of hF (by intro k hk; simp at hk; omega)
  have w2' := w0.log hp8 hFS hl2
  rw [show va_up tn p [] = tn by funext x; by_cases z : x = p; subst z; rw [va_up_self, htn]; exact va_up_ne _ _ z] at w2'
  have k1 := w2'.1
  unfold ocell at k1
  have k2 := hl2.1
  have k3 := hl2.2.1.1
  rw [List.append_nil, List.flatMap_append, List.length_append] at k3
  simp only [List.flatMap_cons, List.flatMap_nil, List.append_nil] at k3
  have hEl : (encP (p, kind, key, ep, num, pay.length, of, pay)).length = 14 + pay.length := encP_len hok
  rw [hEl] at k3
  have kU := w2'.2.2.2.2.2.2.2.1
  have kU1 := kU.1
  refine gs_n 32 a_X4_writeToLog_31 rfl ?_
  refine gs_get 35 a_X4_writeToLog_32 f_4_36 (by first | assumption | exact hs_same _ _ _ | exact (hs_ne _ _ (by first | assumption | decide | omega)).trans (by first | assumption | exact hs_same _ _ _ | exact (hs_ne _ _ (by first | assumption | decide | omega)).trans (by first | assumption | exact hs_same _ _ _ | exact (hs_ne _ _ (by first | assumption | decide | omega)).trans (by first | assumption | exact hs_same _ _ _ | exact (hs_ne _ _ (by first | assumption | decide | omega)).trans (by first | assumption | exact hs_same _ _ _))))) rfl rfl ?_
  refine gs_n 36 a_X4_writeToLog_35 rfl ?_
  refine gs_n 38 a_X4_writeToLog_36 rfl ?_
  refine gs_get 41 a_X4_writeToLog_38 f_4_186 (by first | assumption | exact hs_same _ _ _ | exact (hs_ne _ _ (by first | assumption | decide | omega)).trans (by first | assumption | exact hs_same _ _ _ | exact (hs_ne _ _ (by first | assumption | decide | omega)).trans (by first | assumption | exact hs_same _ _ _ | exact (hs_ne _ _ (by first | assumption | decide | omega)).trans (by first | assumption | exact hs_same _ _ _ | exact (hs_ne _ _ (by first | assumption | decide | omega)).trans (by first | assumption | exact hs_same _ _ _))))) rfl rfl ?_
  refine gs_get 44 a_X4_writeToLog_41 f_4_56 (by first | assumption | exact hs_same _ _ _ | exact (hs_ne _ _ (by first | assumption | decide | omega)).trans (by first | assumption | exact hs_same _ _ _ | exact (hs_ne _ _ (by first | assumption | decide | omega)).trans (by first | assumption | exact hs_same _ _ _ | exact (hs_ne _ _ (by first | assumption | decide | omega)).trans (by first | assumption | exact hs_same _ _ _ | exact (hs_ne _ _ (by first | assumption | decide | omega)).trans (by first | assumption | exact hs_same _ _ _))))) rfl rfl ?_
  refine gs_n 46 a_X4_writeToLog_44 rfl ?_
  refine gs_n 47 a_X4_writeToLog_46 rfl ?_
  refine gs_top (nI (14 + pay.length)) (by rw [pk_sub (by omega)]; congr 1; omega) ?_
  refine gs_cv 50 a_X4_writeToLog_47 k_4_258 q_X3_note (e_note p (14 + pay.length) (by omega) (by omega) hun kU) rfl rfl rfl (by simp [Value.category]) (by first | assumption | exact hs_same _ _ _ | exact (hs_ne _ _ (by first | assumption | decide | omega)).trans (by first | assumption | exact hs_same _ _ _ | exact (hs_ne _ _ (by first | assumption | decide | omega)).trans (by first | assumption | exact hs_same _ _ _ | exact (hs_ne _ _ (by first | assumption | decide | omega)).trans (by first | assumption | exact hs_same _ _ _ | exact (hs_ne _ _ (by first | assumption | decide | omega)).trans (by first | assumption | exact hs_same _ _ _))))) rfl (fun v h3 hp => ?_)
  obtain ⟨e1, hF3, hu3⟩ := hp
  simp only at e1
  subst e1
  have w3' := w2'.uns hF3 hu3
  have k4 : h3.2.2 (16 + 6 * p) = _ := (hF3.2.2 _ (by simp; omega)).trans k2
  refine gs_n 52 a_X4_writeToLog_50 rfl ?_
  refine gs_get 55 a_X4_writeToLog_52 f_4_180 (by first | assumption | exact hs_same _ _ _ | exact (hs_ne _ _ (by first | assumption | decide | omega)).trans (by first | assumption | exact hs_same _ _ _ | exact (hs_ne _ _ (by first | assumption | decide | omega)).trans (by first | assumption | exact hs_same _ _ _ | exact (hs_ne _ _ (by first | assumption | decide | omega)).trans (by first | assumption | exact hs_same _ _ _ | exact (hs_ne _ _ (by first | assumption | decide | omega)).trans (by first | assumption | exact hs_same _ _ _))))) rfl rfl ?_
  refine gs_k (nI 1) 56 a_X4_writeToLog_55 (by decide +kernel) rfl ?_
  refine gs_n 57 a_X4_writeToLog_56 rfl ?_
  refine gs_iret a_X4_writeToLog_57 rfl rfl ?_
  refine ⟨?_, (hFS.mono (cC_l hp8)).trans (FS.of hF3 cC_u), w3'⟩
  rw [List.length_append]
  show some (Value.int (nI ((lg p).length + 1) - nI 1)) = _
  rw [m1_succ]
set_option maxHeartbeats 2000000 in
theorem e_writeBook (kind key ep a b : Nat) (hok : okB (P, kind, key, ep, a, b, 0, [])) (hbt : bt = []) (hN : 16 * bk.length + 16 ≤ 16000) (hun : un.length < 3280) (hb : kind = 1 → b + 1 < 2 ^ 30) (hd : kind = 5 → (pr key).2.2.2.2.2.2 = nI 1 → ∃ i, (pr key).2.2.2.1 = nI (16 * i) ∧ i ≤ bk.length)
    (w : CW h (P, cap, tmo, clk, cl, cut, nx) lg tn bk bt un pr mk tp an) : ev (d + 4) n_X4_writeToBook [.ref 0, .int (nI kind), .int (nI key), .int (nI ep), .int (nI a), .int (nI b)] h (fun u => u.1 = none ∧ FS cC h u.2 ∧ CW u.2 (P, cap, tmo, clk, cl, cut, tellN (bk ++ [(P, kind, key, ep, a, b, 0, [])]) bk.length nx) lg tn (bk ++ [(P, kind, key, ep, a, b, 0, [])]) [] (un ++ [(P, 16)]) (tellP (bk ++ [(P, kind, key, ep, a, b, 0, [])]) bk.length pr) (tellM (bk ++ [(P, kind, key, ep, a, b, 0, [])]) bk.length pr mk) tp an) := by
  subst hbt
  have w0 := w
  obtain ⟨w1, w2, w3, w4, w5, ⟨f6, w6, w6'⟩, w7, w8, ⟨f9, w9, w9'⟩, ⟨f10, w10, w10'⟩, w11, w12, w13⟩ := w
  unfold ocell at w1
  rw [List.append_nil] at w7
  have hr1 := w7.1
  have hfl := flatB_len bk
  generalize hE : ((P, kind, key, ep, a, b, 0, []) : En) = E at hok
  have hP8 : P ≤ 8 := w2.2.1
  refine ev_of q_X4_writeToBook (Nat.le_of_ble_eq_true rfl) ?_
  refine gs_n 1 a_X4_writeToBook_0 rfl ?_
  refine gs_get 4 a_X4_writeToBook_1 f_4_30 (by first | assumption | exact hs_same _ _ _ | exact (hs_ne _ _ (by first | assumption | decide | omega)).trans (by first | assumption | exact hs_same _ _ _ | exact (hs_ne _ _ (by first | assumption | decide | omega)).trans (by first | assumption | exact hs_same _ _ _ | exact (hs_ne _ _ (by first | assumption | decide | omega)).trans (by first | assumption | exact hs_same _ _ _ | exact (hs_ne _ _ (by first | assumption | decide | omega)).trans (by first | assumption | exact hs_same _ _ _))))) rfl rfl ?_
  refine gs_get 7 a_X4_writeToBook_4 f_4_56 (by first | assumption | exact hs_same _ _ _ | exact (hs_ne _ _ (by first | assumption | decide | omega)).trans (by first | assumption | exact hs_same _ _ _ | exact (hs_ne _ _ (by first | assumption | decide | omega)).trans (by first | assumption | exact hs_same _ _ _ | exact (hs_ne _ _ (by first | assumption | decide | omega)).trans (by first | assumption | exact hs_same _ _ _ | exact (hs_ne _ _ (by first | assumption | decide | omega)).trans (by first | assumption | exact hs_same _ _ _))))) rfl rfl ?_
  refine gs_n 9 a_X4_writeToBook_7 rfl ?_
  refine gs_n 10 a_X4_writeToBook_9 rfl ?_
  refine gs_get 13 a_X4_writeToBook_10 f_4_30 (by first | assumption | exact hs_same _ _ _ | exact (hs_ne _ _ (by first | assumption | decide | omega)).trans (by first | assumption | exact hs_same _ _ _ | exact (hs_ne _ _ (by first | assumption | decide | omega)).trans (by first | assumption | exact hs_same _ _ _ | exact (hs_ne _ _ (by first | assumption | decide | omega)).trans (by first | assumption | exact hs_same _ _ _ | exact (hs_ne _ _ (by first | assumption | decide | omega)).trans (by first | assumption | exact hs_same _ _ _))))) rfl rfl ?_
  refine gs_k (nI 0) 14 a_X4_writeToBook_13 (by decide +kernel) rfl ?_
  refine gs_k (nI 4) 15 a_X4_writeToBook_14 (by decide +kernel) rfl ?_
  refine gs_cv 18 a_X4_writeToBook_15 k_4_262 q_X0_addNumber (e_addNumber (nI 0) 4 (by omega) w7 (by omega)) rfl rfl rfl (by simp [Value.category]) (by first | assumption | exact hs_same _ _ _ | exact (hs_ne _ _ (by first | assumption | decide | omega)).trans (by first | assumption | exact hs_same _ _ _ | exact (hs_ne _ _ (by first | assumption | decide | omega)).trans (by first | assumption | exact hs_same _ _ _ | exact (hs_ne _ _ (by first | assumption | decide | omega)).trans (by first | assumption | exact hs_same _ _ _ | exact (hs_ne _ _ (by first | assumption | decide | omega)).trans (by first | assumption | exact hs_same _ _ _))))) rfl (fun v h1 hp => ?_)
  obtain ⟨e1, F1, R1⟩ := hp
  simp only at e1
  subst e1
  have k1 : h1.2.2 0 = _ := (F1.2.2 0 (by simp)).trans w1
  have kr1 := R1.1
  refine gs_n 19 a_X4_writeToBook_18 rfl ?_
  refine gs_get 22 a_X4_writeToBook_19 f_4_30 (by first | assumption | exact hs_same _ _ _ | exact (hs_ne _ _ (by first | assumption | decide | omega)).trans (by first | assumption | exact hs_same _ _ _ | exact (hs_ne _ _ (by first | assumption | decide | omega)).trans (by first | assumption | exact hs_same _ _ _ | exact (hs_ne _ _ (by first | assumption | decide | omega)).trans (by first | assumption | exact hs_same _ _ _ | exact (hs_ne _ _ (by first | assumption | decide | omega)).trans (by first | assumption | exact hs_same _ _ _))))) rfl rfl ?_
  refine gs_n 23 a_X4_writeToBook_22 rfl ?_
  refine gs_k (nI 1) 24 a_X4_writeToBook_23 (by decide +kernel) rfl ?_
  refine gs_cv 27 a_X4_writeToBook_24 k_4_262 q_X0_addNumber (e_addNumber (nI kind) 1 (by omega) R1 (by simp only [List.length_append, be_len]; omega)) rfl rfl rfl (by simp [Value.category]) (by first | assumption | exact hs_same _ _ _ | exact (hs_ne _ _ (by first | assumption | decide | omega)).trans (by first | assumption | exact hs_same _ _ _ | exact (hs_ne _ _ (by first | assumption | decide | omega)).trans (by first | assumption | exact hs_same _ _ _ | exact (hs_ne _ _ (by first | assumption | decide | omega)).trans (by first | assumption | exact hs_same _ _ _ | exact (hs_ne _ _ (by first | assumption | decide | omega)).trans (by first | assumption | exact hs_same _ _ _))))) rfl (fun v h2 hp => ?_)
  obtain ⟨e1, F2, R2⟩ := hp
  simp only at e1
  subst e1
  have F2 := F1.trans F2
  have k2 : h2.2.2 0 = _ := (F2.2.2 0 (by simp)).trans w1
  have kr2 := R2.1
  refine gs_n 28 a_X4_writeToBook_27 rfl ?_
  refine gs_get 31 a_X4_writeToBook_28 f_4_30 (by first | assumption | exact hs_same _ _ _ | exact (hs_ne _ _ (by first | assumption | decide | omega)).trans (by first | assumption | exact hs_same _ _ _ | exact (hs_ne _ _ (by first | assumption | decide | omega)).trans (by first | assumption | exact hs_same _ _ _ | exact (hs_ne _ _ (by first | assumption | decide | omega)).trans (by first | assumption | exact hs_same _ _ _ | exact (hs_ne _ _ (by first | assumption | decide | omega)).trans (by first | assumption | exact hs_same _ _ _))))) rfl rfl ?_
  refine gs_n 32 a_X4_writeToBook_31 rfl ?_
  refine gs_k (nI 1) 33 a_X4_writeToBook_32 (by decide +kernel) rfl ?_
  refine gs_cv 36 a_X4_writeToBook_33 k_4_262 q_X0_addNumber (e_addNumber (nI key) 1 (by omega) R2 (by simp only [List.length_append, be_len]; omega)) rfl rfl rfl (by simp [Value.category]) (by first | assumption | exact hs_same _ _ _ | exact (hs_ne _ _ (by first | assumption | decide | omega)).trans (by first | assumption | exact hs_same _ _ _ | exact (hs_ne _ _ (by first | assumption | decide | omega)).trans (by first | assumption | exact hs_same _ _ _ | exact (hs_ne _ _ (by first | assumption | decide | omega)).trans (by first | assumption | exact hs_same _ _ _ | exact (hs_ne _ _ (by first | assumption | decide | omega)).trans (by first | assumption | exact hs_same _ _ _))))) rfl (fun v h3 hp => ?_)
  obtain ⟨e1, F3, R3⟩ := hp
  simp only at e1
  subst e1
  have F3 := F2.trans F3
  have k3 : h3.2.2 0 = _ := (F3.2.2 0 (by simp)).trans w1
  have kr3 := R3.1
  refine gs_n 37 a_X4_writeToBook_36 rfl ?_
  refine gs_get 40 a_X4_writeToBook_37 f_4_30 (by first | assumption | exact hs_same _ _ _ | exact (hs_ne _ _ (by first | assumption | decide | omega)).trans (by first | assumption | exact hs_same _ _ _ | exact (hs_ne _ _ (by first | assumption | decide | omega)).trans (by first | assumption | exact hs_same _ _ _ | exact (hs_ne _ _ (by first | assumption | decide | omega)).trans (by first | assumption | exact hs_same _ _ _ | exact (hs_ne _ _ (by first | assumption | decide | omega)).trans (by first | assumption | exact hs_same _ _ _))))) rfl rfl ?_
  refine gs_n 41 a_X4_writeToBook_40 rfl ?_
  refine gs_k (nI 2) 42 a_X4_writeToBook_41 (by decide +kernel) rfl ?_
  refine gs_cv 45 a_X4_writeToBook_42 k_4_262 q_X0_addNumber (e_addNumber (nI ep) 2 (by omega) R3 (by simp only [List.length_append, be_len]; omega)) rfl rfl rfl (by simp [Value.category]) (by first | assumption | exact hs_same _ _ _ | exact (hs_ne _ _ (by first | assumption | decide | omega)).trans (by first | assumption | exact hs_same _ _ _ | exact (hs_ne _ _ (by first | assumption | decide | omega)).trans (by first | assumption | exact hs_same _ _ _ | exact (hs_ne _ _ (by first | assumption | decide | omega)).trans (by first | assumption | exact hs_same _ _ _ | exact (hs_ne _ _ (by first | assumption | decide | omega)).trans (by first | assumption | exact hs_same _ _ _))))) rfl (fun v h4 hp => ?_)
  obtain ⟨e1, F4, R4⟩ := hp
  simp only at e1
  subst e1
  have F4 := F3.trans F4
  have k4 : h4.2.2 0 = _ := (F4.2.2 0 (by simp)).trans w1
  have kr4 := R4.1
  refine gs_n 46 a_X4_writeToBook_45 rfl ?_
  refine gs_get 49 a_X4_writeToBook_46 f_4_30 (by first | assumption | exact hs_same _ _ _ | exact (hs_ne _ _ (by first | assumption | decide | omega)).trans (by first | assumption | exact hs_same _ _ _ | exact (hs_ne _ _ (by first | assumption | decide | omega)).trans (by first | assumption | exact hs_same _ _ _ | exact (hs_ne _ _ (by first | assumption | decide | omega)).trans (by first | assumption | exact hs_same _ _ _ | exact (hs_ne _ _ (by first | assumption | decide | omega)).trans (by first | assumption | exact hs_same _ _ _))))) rfl rfl ?_
  refine gs_n 51 a_X4_writeToBook_49 rfl ?_
  refine gs_k (nI 4) 52 a_X4_writeToBook_51 (by decide +kernel) rfl ?_
  refine gs_cv 55 a_X4_writeToBook_52 k_4_262 q_X0_addNumber (e_addNumber (nI a) 4 (by omega) R4 (by simp only [List.length_append, be_len]; omega)) rfl rfl rfl (by simp [Value.category]) (by first | assumption | exact hs_same _ _ _ | exact (hs_ne _ _ (by first | assumption | decide | omega)).trans (by first | assumption | exact hs_same _ _ _ | exact (hs_ne _ _ (by first | assumption | decide | omega)).trans (by first | assumption | exact hs_same _ _ _ | exact (hs_ne _ _ (by first | assumption | decide | omega)).trans (by first | assumption | exact hs_same _ _ _ | exact (hs_ne _ _ (by first | assumption | decide | omega)).trans (by first | assumption | exact hs_same _ _ _))))) rfl (fun v h5 hp => ?_)
  obtain ⟨e1, F5, R5⟩ := hp
  simp only at e1
  subst e1
  have F5 := F4.trans F5
  have k5 : h5.2.2 0 = _ := (F5.2.2 0 (by simp)).trans w1
  have kr5 := R5.1
  refine gs_n 56 a_X4_writeToBook_55 rfl ?_
  refine gs_get 59 a_X4_writeToBook_56 f_4_30 (by first | assumption | exact hs_same _ _ _ | exact (hs_ne _ _ (by first | assumption | decide | omega)).trans (by first | assumption | exact hs_same _ _ _ | exact (hs_ne _ _ (by first | assumption | decide | omega)).trans (by first | assumption | exact hs_same _ _ _ | exact (hs_ne _ _ (by first | assumption | decide | omega)).trans (by first | assumption | exact hs_same _ _ _ | exact (hs_ne _ _ (by first | assumption | decide | omega)).trans (by first | assumption | exact hs_same _ _ _))))) rfl rfl ?_
  refine gs_n 61 a_X4_writeToBook_59 rfl ?_
  refine gs_k (nI 4) 62 a_X4_writeToBook_61 (by decide +kernel) rfl ?_
  refine gs_cv 65 a_X4_writeToBook_62 k_4_262 q_X0_addNumber (e_addNumber (nI b) 4 (by omega) R5 (by simp only [List.length_append, be_len]; omega)) rfl rfl rfl (by simp [Value.category]) (by first | assumption | exact hs_same _ _ _ | exact (hs_ne _ _ (by first | assumption | decide | omega)).trans (by first | assumption | exact hs_same _ _ _ | exact (hs_ne _ _ (by first | assumption | decide | omega)).trans (by first | assumption | exact hs_same _ _ _ | exact (hs_ne _ _ (by first | assumption | decide | omega)).trans (by first | assumption | exact hs_same _ _ _ | exact (hs_ne _ _ (by first | assumption | decide | omega)).trans (by first | assumption | exact hs_same _ _ _))))) rfl (fun v h6 hp => ?_)
  obtain ⟨e1, F6, R6⟩ := hp
  simp only at e1
  subst e1
  have F6 := F5.trans F6
  have k6 : h6.2.2 0 = _ := (F6.2.2 0 (by simp)).trans w1
  have hbody : bk.flatMap encB ++ be 4 (nI 0) ++ be 1 (nI kind) ++ be 1 (nI key) ++ be 2 (nI ep) ++ be 4 (nI a) ++ be 4 (nI b) = bk.flatMap encB ++ be 4 (nI 0) ++ bodyB E := by
    rw [← hE]
    simp only [bodyB, List.append_assoc]
  rw [hbody] at R6
  have kr6 := R6.1
  have hbl : (bodyB E).length = 12 := by simp [bodyB, be_len]
  refine gs_n 66 a_X4_writeToBook_65 rfl ?_
  refine gs_get 69 a_X4_writeToBook_66 f_4_30 (by first | assumption | exact hs_same _ _ _ | exact (hs_ne _ _ (by first | assumption | decide | omega)).trans (by first | assumption | exact hs_same _ _ _ | exact (hs_ne _ _ (by first | assumption | decide | omega)).trans (by first | assumption | exact hs_same _ _ _ | exact (hs_ne _ _ (by first | assumption | decide | omega)).trans (by first | assumption | exact hs_same _ _ _ | exact (hs_ne _ _ (by first | assumption | decide | omega)).trans (by first | assumption | exact hs_same _ _ _))))) rfl rfl ?_
  refine gs_n 71 a_X4_writeToBook_69 rfl ?_
  refine gs_cv 74 a_X4_writeToBook_71 k_4_265 q_X0_seal (e_seal (bk.flatMap encB).length R6 (by simp only [List.length_append, be_len]; omega)) rfl rfl rfl (by simp [Value.category]) (by first | assumption | exact hs_same _ _ _ | exact (hs_ne _ _ (by first | assumption | decide | omega)).trans (by first | assumption | exact hs_same _ _ _ | exact (hs_ne _ _ (by first | assumption | decide | omega)).trans (by first | assumption | exact hs_same _ _ _ | exact (hs_ne _ _ (by first | assumption | decide | omega)).trans (by first | assumption | exact hs_same _ _ _ | exact (hs_ne _ _ (by first | assumption | decide | omega)).trans (by first | assumption | exact hs_same _ _ _))))) rfl (fun v h7 hp => ?_)
  obtain ⟨e1, F7, R7⟩ := hp
  simp only at e1
  subst e1
  have F7 := F6.trans F7
  have hdr : (bk.flatMap encB ++ be 4 (nI 0) ++ bodyB E).drop ((bk.flatMap encB).length + 4) = bodyB E := by
    rw [show (bk.flatMap encB).length + 4 = (bk.flatMap encB ++ be 4 (nI 0)).length by rw [List.length_append, be_len], List.drop_left' rfl]
  rw [hdr, over_end (by rw [be_len, be_len]), List.append_assoc] at R7
  have R7' : RowAt h7 8 9 16000 ((bk ++ [E]).flatMap encB ++ []) := by
    rw [List.append_nil, List.flatMap_append]
    simp only [List.flatMap_cons, List.flatMap_nil, List.append_nil]
    exact R7
  have w7' := w0.book F7 R7' (by
    intro e he
    rcases List.mem_append.mp he with z | z
    · exact w13 e z
    · rw [List.mem_singleton.mp z]; exact hok)
  have k7 := w7'.1
  unfold ocell at k7
  have kr7 := R7'.1
  rw [List.append_nil, flatB_len, List.length_append] at kr7
  have kU := w7'.2.2.2.2.2.2.2.1
  have kU1 := kU.1
  refine gs_n 75 a_X4_writeToBook_74 rfl ?_
  refine gs_get 78 a_X4_writeToBook_75 f_4_36 (by first | assumption | exact hs_same _ _ _ | exact (hs_ne _ _ (by first | assumption | decide | omega)).trans (by first | assumption | exact hs_same _ _ _ | exact (hs_ne _ _ (by first | assumption | decide | omega)).trans (by first | assumption | exact hs_same _ _ _ | exact (hs_ne _ _ (by first | assumption | decide | omega)).trans (by first | assumption | exact hs_same _ _ _ | exact (hs_ne _ _ (by first | assumption | decide | omega)).trans (by first | assumption | exact hs_same _ _ _))))) rfl rfl ?_
  refine gs_n 79 a_X4_writeToBook_78 rfl ?_
  refine gs_get 82 a_X4_writeToBook_79 f_4_146 (by first | assumption | exact hs_same _ _ _ | exact (hs_ne _ _ (by first | assumption | decide | omega)).trans (by first | assumption | exact hs_same _ _ _ | exact (hs_ne _ _ (by first | assumption | decide | omega)).trans (by first | assumption | exact hs_same _ _ _ | exact (hs_ne _ _ (by first | assumption | decide | omega)).trans (by first | assumption | exact hs_same _ _ _ | exact (hs_ne _ _ (by first | assumption | decide | omega)).trans (by first | assumption | exact hs_same _ _ _))))) rfl rfl ?_
  refine gs_n 83 a_X4_writeToBook_82 rfl ?_
  refine gs_get 86 a_X4_writeToBook_83 f_4_30 (by first | assumption | exact hs_same _ _ _ | exact (hs_ne _ _ (by first | assumption | decide | omega)).trans (by first | assumption | exact hs_same _ _ _ | exact (hs_ne _ _ (by first | assumption | decide | omega)).trans (by first | assumption | exact hs_same _ _ _ | exact (hs_ne _ _ (by first | assumption | decide | omega)).trans (by first | assumption | exact hs_same _ _ _ | exact (hs_ne _ _ (by first | assumption | decide | omega)).trans (by first | assumption | exact hs_same _ _ _))))) rfl rfl ?_
  refine gs_get 89 a_X4_writeToBook_86 f_4_56 (by first | assumption | exact hs_same _ _ _ | exact (hs_ne _ _ (by first | assumption | decide | omega)).trans (by first | assumption | exact hs_same _ _ _ | exact (hs_ne _ _ (by first | assumption | decide | omega)).trans (by first | assumption | exact hs_same _ _ _ | exact (hs_ne _ _ (by first | assumption | decide | omega)).trans (by first | assumption | exact hs_same _ _ _ | exact (hs_ne _ _ (by first | assumption | decide | omega)).trans (by first | assumption | exact hs_same _ _ _))))) rfl rfl ?_
  refine gs_n 91 a_X4_writeToBook_89 rfl ?_
  refine gs_n 92 a_X4_writeToBook_91 rfl ?_
  refine gs_top (nI 16) (by rw [hfl]; show nI (16 * (bk.length + 1)) - nI (16 * bk.length) = nI 16; rw [pk_sub (by omega)]; congr 1; omega) ?_
  refine gs_cv 95 a_X4_writeToBook_92 k_4_258 q_X3_note (e_note P 16 (by omega) (by omega) hun kU) rfl rfl rfl (by simp [Value.category]) (by first | assumption | exact hs_same _ _ _ | exact (hs_ne _ _ (by first | assumption | decide | omega)).trans (by first | assumption | exact hs_same _ _ _ | exact (hs_ne _ _ (by first | assumption | decide | omega)).trans (by first | assumption | exact hs_same _ _ _ | exact (hs_ne _ _ (by first | assumption | decide | omega)).trans (by first | assumption | exact hs_same _ _ _ | exact (hs_ne _ _ (by first | assumption | decide | omega)).trans (by first | assumption | exact hs_same _ _ _))))) rfl (fun v h8 hp => ?_)
  obtain ⟨e1, F8, hu8⟩ := hp
  simp only at e1
  subst e1
  have w8' := w7'.uns F8 hu8
  have k8 := w8'.1
  unfold ocell at k8
  have hg : (bk ++ [E]).getD bk.length en0 = E := by simp [List.getD]
  refine gs_n 96 a_X4_writeToBook_95 rfl ?_
  refine gs_n 98 a_X4_writeToBook_96 rfl ?_
  rw [hfl]
  refine gs_cv 101 a_X4_writeToBook_98 k_4_174 q_X4_learn (e_learn bk.length (by rw [List.length_append]; simp) (by rw [hg, ← hE]; exact hb) (by rw [hg, ← hE]; exact hd) w8') rfl rfl rfl (by simp [Value.category]) (by first | assumption | exact hs_same _ _ _ | exact (hs_ne _ _ (by first | assumption | decide | omega)).trans (by first | assumption | exact hs_same _ _ _ | exact (hs_ne _ _ (by first | assumption | decide | omega)).trans (by first | assumption | exact hs_same _ _ _ | exact (hs_ne _ _ (by first | assumption | decide | omega)).trans (by first | assumption | exact hs_same _ _ _ | exact (hs_ne _ _ (by first | assumption | decide | omega)).trans (by first | assumption | exact hs_same _ _ _))))) rfl (fun v h9 hp => ?_)
  obtain ⟨e1, F9, w9x⟩ := hp
  simp only at e1
  subst e1
  refine gs_vret a_X4_writeToBook_101 rfl ?_
  exact ⟨rfl, ((FS.of F7 cC_b).trans (FS.of F8 cC_u)).trans F9, w9x⟩
end WR
